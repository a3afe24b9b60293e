/-! ===== the law: each call ===== -/
theorem dself {a : UInt64} (h : FP.Core.DFin a) {op : CmpOp} : Op.cmpValue (FP.dcmp a a) op = 0 := by
  rw [show FP.dcmp a a = some .eq from FP.Core.dcmp_self h.ne_nan]; rfl
theorem Rep_mo {K : Nat} {S : Mem} {P : MS} {x : Nat} (h : Rep K S P x) : Rep (K + 1) S P x := ⟨WF_mo h.1 (by omega), h.2⟩
section Law1
variable {p : Program} {l : Launch} {e : Env} {R : Room} {s : State} {m : MethodId} {args : Array Value} {below : List Frame} {meth : Method} {c : Code} {H : Heap} {locs : List Loc} {cells slots : Nat} {Q : State → Prop}
variable {s0 : State} {D : va_G} {cA : Nat → ClassId} {rt9 : Option FieldType} {A : Nat → Prop} {ad : Nat → Nat} {o oD x b L K i : Nat} {S : Mem} {P : MS} {f : Nat → Int64} {g : Nat → UInt64} {xs : Nat → Int32}
variable {cc : ByteArray} {nL : Nat} {own : String} {pc : Nat} {ls : Array Slot} {rest : List Value}
theorem lald0 {cv : Int64} (C : cx_C p l s m args meth c s0 D cA cc nL rt9 own A) (hP : va_P D vwCl (Lw cA ad o oD S P f g) H) (hf : f 0 = cv) (d : decode cc pc = .ok (.laload, 1)) (kk : W p l e R s m args below meth c H locs cells slots Q (F0 m (pc + 1) ls (.long cv :: rest))) : W p l e R s m args below meth c H locs cells slots Q (F0 m pc ls (.int 0 :: .ref o :: rest)) := by
  subst hf
  exact va_lald (cx_x C) (cx_b C) (cx_k C) hP 0 4 rfl rfl vp0 d kk
theorem dald0 {cv : UInt64} (C : cx_C p l s m args meth c s0 D cA cc nL rt9 own A) (hP : va_P D vwCl (Lw cA ad o oD S P f g) H) (hf : g 0 = cv) (d : decode cc pc = .ok (.daload, 1)) (kk : W p l e R s m args below meth c H locs cells slots Q (F0 m (pc + 1) ls (.double cv :: rest))) : W p l e R s m args below meth c H locs cells slots Q (F0 m pc ls (.int 0 :: .ref oD :: rest)) := by
  subst hf
  exact va_dald (cx_x C) (cx_b C) (cx_k C) hP 1 1 rfl rfl vp0 d kk
set_option maxRecDepth 100000 in
theorem lw_consumer (C : cx_C p l s m args meth c s0 D cA cL_law 9 rt9 RL A) (hG : cx_G l s0 D cA) (hX : va_X b L xs s s.heap) (hbl : b < s.heap.size) (hbA : ¬ A b) (hL : L ≤ 3073) (h : Rep K S P x) (hK : K ≤ 511) (hi : i + 6 ≤ L) (hf : 11 ≤ R.frames) (hlo : 340 ≤ R.locals) (hce : cells + 8 ≤ R.cells) (hsl : slots + 512 ≤ R.slots)
    (kk : ∀ (S1 : Mem) (P1 : MS) (f1 : Nat → Int64) (g1 : Nat → UInt64) (H : Heap) (locs : List Loc) (ls : Array Slot), Rep (K + 1) S1 P1 x → va_P D vwCl (Lw cA ad o oD S1 P1 f1 g1) H → va_D A (Lw cA ad o oD S1 P1 f1 g1) → va_S A s.heap H locs → lv_has ls 9 [(5, .int (nI i)), (0, .ref b), (1, .ref x), (2, .ref (ad 0)), (3, .ref o), (4, .ref oD)] → W p l e R s m args below meth c H locs (cells + 8) (slots + 512) Q (F0 m 1140 ls [])) :
    ∀ (H : Heap) (locs : List Loc) (ls : Array Slot), va_P D vwCl (Lw cA ad o oD S P f g) H → va_D A (Lw cA ad o oD S P f g) → va_S A s.heap H locs → lv_has ls 9 [(5, .int (nI i)), (0, .ref b), (1, .ref x), (2, .ref (ad 0)), (3, .ref o), (4, .ref oD)] → W p l e R s m args below meth c H locs cells slots Q (F0 m 124 ls []) := by
  have hx := cx_x C
  have hb := cx_b C
  obtain ⟨hx1, hx2⟩ := Rep_x h
  intro H locs ls hP hD hS hl
  refine lv_aload_n hx hb dL_law_124 rfl (lv_at hl 2 rfl) ?_
  refine lv_aload_n hx hb dL_law_125 rfl (lv_at hl 1 rfl) ?_
  refine lv_iload hx hb dL_law_126 (lv_at hl 0 rfl) ?_
  refine lv_iconst (v := 1) hx hb dL_law_128 (by decide) ?_
  refine lv_iadd hx hb dL_law_129 ?_
  refine sld_k (i := i) (kN := 1) (L := L) (xs := xs) C hX hbl hbA hS (by decide) (by omega) hL dL_law_130 ?_
  refine lv_aload_n hx hb dL_law_131 rfl (lv_at hl 1 rfl) ?_
  refine lv_iload hx hb dL_law_132 (lv_at hl 0 rfl) ?_
  refine lv_iconst (v := 2) hx hb dL_law_134 (by decide) ?_
  refine lv_iadd hx hb dL_law_135 ?_
  refine sld_k (i := i) (kN := 2) (L := L) (xs := xs) C hX hbl hbA hS (by decide) (by omega) hL dL_law_136 ?_
  refine lv_aload_n hx hb dL_law_137 rfl (lv_at hl 1 rfl) ?_
  refine lv_iload hx hb dL_law_138 (lv_at hl 0 rfl) ?_
  refine lv_iconst (v := 3) hx hb dL_law_140 (by decide) ?_
  refine lv_iadd hx hb dL_law_141 ?_
  refine sld_k (i := i) (kN := 3) (L := L) (xs := xs) C hX hbl hbA hS (by decide) (by omega) hL dL_law_142 ?_
  refine lv_aload_n hx hb dL_law_143 rfl (lv_at hl 1 rfl) ?_
  refine lv_iload hx hb dL_law_144 (lv_at hl 0 rfl) ?_
  refine lv_iconst (v := 4) hx hb dL_law_146 (by decide) ?_
  refine lv_iadd hx hb dL_law_147 ?_
  refine sld_k (i := i) (kN := 4) (L := L) (xs := xs) C hX hbl hbA hS (by decide) (by omega) hL dL_law_148 ?_
  refine lv_aload_n hx hb dL_law_149 rfl (lv_at hl 4 rfl) ?_
  rcases st_consumer (ad := ad) hG h hK (xs (i + 1)) (xs (i + 2)) (xs (i + 3)) (xs (i + 4)) with ⟨vv, P1, hC, hM, e0⟩ | ⟨E9, k9, vv, P1, hcd, hXt, hM, e0, hR⟩
  · refine ll_y (As := [.ref x, .int (xs (i + 1)), .int (xs (i + 2)), .int (xs (i + 3)), .int (xs (i + 4)), .ref o]) (rest := []) C (w_consumer_y hG (xs (i + 1)) (xs (i + 2)) (xs (i + 3)) (xs (i + 4)) hx1 hx2 hC) tm_84 tm_85 tm_0 tm_86 hdL_consumer.2 ⟨Nat.le_trans (Nat.le_of_ble_eq_true rfl) hf, Nat.le_trans (Nat.le_of_ble_eq_true rfl) hlo⟩ hl.1 rfl (Nat.le_of_ble_eq_true rfl) dL_law_150 ⟨hce, hsl⟩ hP hD hS (fun S1 f1 H locs hΦ hf0 hP hD hS => ?_)
    refine lv_istore (lv' := [(6, .int 0), (5, .int (nI i)), (0, .ref b), (1, .ref x), (2, .ref (ad 0)), (3, .ref o), (4, .ref oD)]) hx hb dL_law_153 hl (by decide) rfl (fun ls hl => ?_)
    refine lv_aload_n hx hb dL_law_155 rfl (lv_at hl 4 rfl) ?_
    refine lv_aload_n hx hb dL_law_156 rfl (lv_at hl 2 rfl) ?_
    refine lv_iload hx hb dL_law_157 (lv_at hl 1 rfl) ?_
    refine lv_iconst (v := 1) hx hb dL_law_159 (by decide) ?_
    refine lv_iadd hx hb dL_law_160 ?_
    refine sld_k (i := i) (kN := 1) (L := L) (xs := xs) C hX hbl hbA hS (by decide) (by omega) hL dL_law_161 ?_
    refine lv_aload_n hx hb dL_law_162 rfl (lv_at hl 2 rfl) ?_
    refine lv_iload hx hb dL_law_163 (lv_at hl 1 rfl) ?_
    refine lv_iconst (v := 2) hx hb dL_law_165 (by decide) ?_
    refine lv_iadd hx hb dL_law_166 ?_
    refine sld_k (i := i) (kN := 2) (L := L) (xs := xs) C hX hbl hbA hS (by decide) (by omega) hL dL_law_167 ?_
    refine lv_aload_n hx hb dL_law_168 rfl (lv_at hl 2 rfl) ?_
    refine lv_iload hx hb dL_law_169 (lv_at hl 1 rfl) ?_
    refine lv_iconst (v := 3) hx hb dL_law_171 (by decide) ?_
    refine lv_iadd hx hb dL_law_172 ?_
    refine sld_k (i := i) (kN := 3) (L := L) (xs := xs) C hX hbl hbA hS (by decide) (by omega) hL dL_law_173 ?_
    refine lv_aload_n hx hb dL_law_174 rfl (lv_at hl 2 rfl) ?_
    refine lv_iload hx hb dL_law_175 (lv_at hl 1 rfl) ?_
    refine lv_iconst (v := 4) hx hb dL_law_177 (by decide) ?_
    refine lv_iadd hx hb dL_law_178 ?_
    refine sld_k (i := i) (kN := 4) (L := L) (xs := xs) C hX hbl hbA hS (by decide) (by omega) hL dL_law_179 ?_
    refine lm_V (As := [.int (xs (i + 1)), .int (xs (i + 2)), .int (xs (i + 3)), .int (xs (i + 4))]) (rest := []) C hM tm_758 tm_759 tm_760 tm_3 tm_761 rfl hdX9_consumer ⟨Nat.le_trans (Nat.le_of_ble_eq_true rfl) hf, Nat.le_trans (Nat.le_of_ble_eq_true rfl) hlo⟩ hl.1 rfl (Nat.le_of_ble_eq_true rfl) dL_law_180 ⟨hce, hsl⟩ hP hD hS (fun H locs hP hD hS => ?_)
    refine lv_istore (lv' := [(7, .int vv), (6, .int 0), (5, .int (nI i)), (0, .ref b), (1, .ref x), (2, .ref (ad 0)), (3, .ref o), (4, .ref oD)]) hx hb dL_law_183 hl (by decide) rfl (fun ls hl => ?_)
    refine lv_aload_n hx hb dL_law_185 rfl (lv_at hl 5 rfl) ?_
    refine lm_V (As := []) (rest := []) C (k_thrown hG P1) tm_754 tm_755 tm_756 tm_3 tm_757 rfl hdX9_thrown ⟨Nat.le_trans (Nat.le_of_ble_eq_true rfl) hf, Nat.le_trans (Nat.le_of_ble_eq_true rfl) hlo⟩ hl.1 rfl (Nat.le_of_ble_eq_true rfl) dL_law_186 ⟨hce, hsl⟩ hP hD hS (fun H locs hP hD hS => ?_)
    refine lv_iload hx hb dL_law_189 (lv_at hl 1 rfl) ?_
    refine lv_icmp_eq (tgt := 196) hx hb dL_law_191 (by decide) (fun _ => ?_) (fun h9 => absurd (e0) h9)
    refine lv_iload hx hb dL_law_196 (lv_at hl 1 rfl) ?_
    refine lv_if_ne (tgt := 213) hx hb dL_law_198 (by decide) (fun h9 => absurd rfl h9) (fun _ => ?_)
    refine lv_aload_n hx hb dL_law_201 rfl (lv_at hl 6 rfl) ?_
    refine lv_iconst (v := 0) hx hb dL_law_202 (by decide) ?_
    refine lald0 (cv := vv.toInt64) C hP hf0 dL_law_203 ?_
    refine lv_iload hx hb dL_law_204 (lv_at hl 0 rfl) ?_
    refine lv_i2l (v := vv.toInt64) hx hb dL_law_206 rfl ?_
    refine W.lcmp hx hb dL_law_207 ?_
    refine lv_if_eq (tgt := 213) hx hb dL_law_208 (by decide) (fun _ => ?_) (fun h9 => absurd ((lg_cmp_eq ..).mpr rfl) h9)
    refine lv_goto (tgt := 1140) hx hb dL_law_213 (by decide) ?_
    exact kk S1 P1 f1 g H locs ls hΦ hP hD hS (lv_sub hl [2, 3, 4, 5, 6, 7] rfl)
  · rcases hcd with ⟨rfl, rfl⟩ | ⟨rfl, rfl⟩
    · refine ll_x (As := [.ref x, .int (xs (i + 1)), .int (xs (i + 2)), .int (xs (i + 3)), .int (xs (i + 4)), .ref o]) (rest := []) C (w_consumer_x1 hG (xs (i + 1)) (xs (i + 2)) (xs (i + 3)) (xs (i + 4)) hx1 hx2 hXt) tm_84 tm_85 tm_0 tm_86 hdL_consumer.2 ⟨Nat.le_trans (Nat.le_of_ble_eq_true rfl) hf, Nat.le_trans (Nat.le_of_ble_eq_true rfl) hlo⟩ hl.1 rfl (Nat.le_of_ble_eq_true rfl) dL_law_150 ⟨hce, hsl⟩ hP hD hS (fun H locs hP hD hS => ?_)
      refine lv_istore (lv' := [(6, .int 1), (5, .int (nI i)), (0, .ref b), (1, .ref x), (2, .ref (ad 0)), (3, .ref o), (4, .ref oD)]) hx hb dL_law_153 hl (by decide) rfl (fun ls hl => ?_)
      refine lv_aload_n hx hb dL_law_155 rfl (lv_at hl 4 rfl) ?_
      refine lv_aload_n hx hb dL_law_156 rfl (lv_at hl 2 rfl) ?_
      refine lv_iload hx hb dL_law_157 (lv_at hl 1 rfl) ?_
      refine lv_iconst (v := 1) hx hb dL_law_159 (by decide) ?_
      refine lv_iadd hx hb dL_law_160 ?_
      refine sld_k (i := i) (kN := 1) (L := L) (xs := xs) C hX hbl hbA hS (by decide) (by omega) hL dL_law_161 ?_
      refine lv_aload_n hx hb dL_law_162 rfl (lv_at hl 2 rfl) ?_
      refine lv_iload hx hb dL_law_163 (lv_at hl 1 rfl) ?_
      refine lv_iconst (v := 2) hx hb dL_law_165 (by decide) ?_
      refine lv_iadd hx hb dL_law_166 ?_
      refine sld_k (i := i) (kN := 2) (L := L) (xs := xs) C hX hbl hbA hS (by decide) (by omega) hL dL_law_167 ?_
      refine lv_aload_n hx hb dL_law_168 rfl (lv_at hl 2 rfl) ?_
      refine lv_iload hx hb dL_law_169 (lv_at hl 1 rfl) ?_
      refine lv_iconst (v := 3) hx hb dL_law_171 (by decide) ?_
      refine lv_iadd hx hb dL_law_172 ?_
      refine sld_k (i := i) (kN := 3) (L := L) (xs := xs) C hX hbl hbA hS (by decide) (by omega) hL dL_law_173 ?_
      refine lv_aload_n hx hb dL_law_174 rfl (lv_at hl 2 rfl) ?_
      refine lv_iload hx hb dL_law_175 (lv_at hl 1 rfl) ?_
      refine lv_iconst (v := 4) hx hb dL_law_177 (by decide) ?_
      refine lv_iadd hx hb dL_law_178 ?_
      refine sld_k (i := i) (kN := 4) (L := L) (xs := xs) C hX hbl hbA hS (by decide) (by omega) hL dL_law_179 ?_
      refine lm_V (As := [.int (xs (i + 1)), .int (xs (i + 2)), .int (xs (i + 3)), .int (xs (i + 4))]) (rest := []) C hM tm_758 tm_759 tm_760 tm_3 tm_761 rfl hdX9_consumer ⟨Nat.le_trans (Nat.le_of_ble_eq_true rfl) hf, Nat.le_trans (Nat.le_of_ble_eq_true rfl) hlo⟩ hl.1 rfl (Nat.le_of_ble_eq_true rfl) dL_law_180 ⟨hce, hsl⟩ hP hD hS (fun H locs hP hD hS => ?_)
      refine lv_istore (lv' := [(7, .int vv), (6, .int 1), (5, .int (nI i)), (0, .ref b), (1, .ref x), (2, .ref (ad 0)), (3, .ref o), (4, .ref oD)]) hx hb dL_law_183 hl (by decide) rfl (fun ls hl => ?_)
      refine lv_aload_n hx hb dL_law_185 rfl (lv_at hl 5 rfl) ?_
      refine lm_V (As := []) (rest := []) C (k_thrown hG P1) tm_754 tm_755 tm_756 tm_3 tm_757 rfl hdX9_thrown ⟨Nat.le_trans (Nat.le_of_ble_eq_true rfl) hf, Nat.le_trans (Nat.le_of_ble_eq_true rfl) hlo⟩ hl.1 rfl (Nat.le_of_ble_eq_true rfl) dL_law_186 ⟨hce, hsl⟩ hP hD hS (fun H locs hP hD hS => ?_)
      refine lv_iload hx hb dL_law_189 (lv_at hl 1 rfl) ?_
      refine lv_icmp_eq (tgt := 196) hx hb dL_law_191 (by decide) (fun _ => ?_) (fun h9 => absurd (e0) h9)
      refine lv_iload hx hb dL_law_196 (lv_at hl 1 rfl) ?_
      refine lv_if_ne (tgt := 213) hx hb dL_law_198 (by decide) (fun _ => ?_) (fun h9 => absurd h9 (by decide))
      refine lv_goto (tgt := 1140) hx hb dL_law_213 (by decide) ?_
      exact kk S P1 f g H locs ls hR hP hD hS (lv_sub hl [2, 3, 4, 5, 6, 7] rfl)
    · refine ll_x (As := [.ref x, .int (xs (i + 1)), .int (xs (i + 2)), .int (xs (i + 3)), .int (xs (i + 4)), .ref o]) (rest := []) C (w_consumer_x2 hG (xs (i + 1)) (xs (i + 2)) (xs (i + 3)) (xs (i + 4)) hx1 hx2 hXt) tm_84 tm_85 tm_0 tm_86 hdL_consumer.2 ⟨Nat.le_trans (Nat.le_of_ble_eq_true rfl) hf, Nat.le_trans (Nat.le_of_ble_eq_true rfl) hlo⟩ hl.1 rfl (Nat.le_of_ble_eq_true rfl) dL_law_150 ⟨hce, hsl⟩ hP hD hS (fun H locs hP hD hS => ?_)
      refine lv_istore (lv' := [(6, .int 2), (5, .int (nI i)), (0, .ref b), (1, .ref x), (2, .ref (ad 0)), (3, .ref o), (4, .ref oD)]) hx hb dL_law_153 hl (by decide) rfl (fun ls hl => ?_)
      refine lv_aload_n hx hb dL_law_155 rfl (lv_at hl 4 rfl) ?_
      refine lv_aload_n hx hb dL_law_156 rfl (lv_at hl 2 rfl) ?_
      refine lv_iload hx hb dL_law_157 (lv_at hl 1 rfl) ?_
      refine lv_iconst (v := 1) hx hb dL_law_159 (by decide) ?_
      refine lv_iadd hx hb dL_law_160 ?_
      refine sld_k (i := i) (kN := 1) (L := L) (xs := xs) C hX hbl hbA hS (by decide) (by omega) hL dL_law_161 ?_
      refine lv_aload_n hx hb dL_law_162 rfl (lv_at hl 2 rfl) ?_
      refine lv_iload hx hb dL_law_163 (lv_at hl 1 rfl) ?_
      refine lv_iconst (v := 2) hx hb dL_law_165 (by decide) ?_
      refine lv_iadd hx hb dL_law_166 ?_
      refine sld_k (i := i) (kN := 2) (L := L) (xs := xs) C hX hbl hbA hS (by decide) (by omega) hL dL_law_167 ?_
      refine lv_aload_n hx hb dL_law_168 rfl (lv_at hl 2 rfl) ?_
      refine lv_iload hx hb dL_law_169 (lv_at hl 1 rfl) ?_
      refine lv_iconst (v := 3) hx hb dL_law_171 (by decide) ?_
      refine lv_iadd hx hb dL_law_172 ?_
      refine sld_k (i := i) (kN := 3) (L := L) (xs := xs) C hX hbl hbA hS (by decide) (by omega) hL dL_law_173 ?_
      refine lv_aload_n hx hb dL_law_174 rfl (lv_at hl 2 rfl) ?_
      refine lv_iload hx hb dL_law_175 (lv_at hl 1 rfl) ?_
      refine lv_iconst (v := 4) hx hb dL_law_177 (by decide) ?_
      refine lv_iadd hx hb dL_law_178 ?_
      refine sld_k (i := i) (kN := 4) (L := L) (xs := xs) C hX hbl hbA hS (by decide) (by omega) hL dL_law_179 ?_
      refine lm_V (As := [.int (xs (i + 1)), .int (xs (i + 2)), .int (xs (i + 3)), .int (xs (i + 4))]) (rest := []) C hM tm_758 tm_759 tm_760 tm_3 tm_761 rfl hdX9_consumer ⟨Nat.le_trans (Nat.le_of_ble_eq_true rfl) hf, Nat.le_trans (Nat.le_of_ble_eq_true rfl) hlo⟩ hl.1 rfl (Nat.le_of_ble_eq_true rfl) dL_law_180 ⟨hce, hsl⟩ hP hD hS (fun H locs hP hD hS => ?_)
      refine lv_istore (lv' := [(7, .int vv), (6, .int 2), (5, .int (nI i)), (0, .ref b), (1, .ref x), (2, .ref (ad 0)), (3, .ref o), (4, .ref oD)]) hx hb dL_law_183 hl (by decide) rfl (fun ls hl => ?_)
      refine lv_aload_n hx hb dL_law_185 rfl (lv_at hl 5 rfl) ?_
      refine lm_V (As := []) (rest := []) C (k_thrown hG P1) tm_754 tm_755 tm_756 tm_3 tm_757 rfl hdX9_thrown ⟨Nat.le_trans (Nat.le_of_ble_eq_true rfl) hf, Nat.le_trans (Nat.le_of_ble_eq_true rfl) hlo⟩ hl.1 rfl (Nat.le_of_ble_eq_true rfl) dL_law_186 ⟨hce, hsl⟩ hP hD hS (fun H locs hP hD hS => ?_)
      refine lv_iload hx hb dL_law_189 (lv_at hl 1 rfl) ?_
      refine lv_icmp_eq (tgt := 196) hx hb dL_law_191 (by decide) (fun _ => ?_) (fun h9 => absurd (e0) h9)
      refine lv_iload hx hb dL_law_196 (lv_at hl 1 rfl) ?_
      refine lv_if_ne (tgt := 213) hx hb dL_law_198 (by decide) (fun _ => ?_) (fun h9 => absurd h9 (by decide))
      refine lv_goto (tgt := 1140) hx hb dL_law_213 (by decide) ?_
      exact kk S P1 f g H locs ls hR hP hD hS (lv_sub hl [2, 3, 4, 5, 6, 7] rfl)
set_option maxRecDepth 100000 in
theorem lw_claim (C : cx_C p l s m args meth c s0 D cA cL_law 9 rt9 RL A) (hG : cx_G l s0 D cA) (hX : va_X b L xs s s.heap) (hbl : b < s.heap.size) (hbA : ¬ A b) (hL : L ≤ 3073) (h : Rep K S P x) (hK : K ≤ 511) (hi : i + 6 ≤ L) (hf : 11 ≤ R.frames) (hlo : 340 ≤ R.locals) (hce : cells + 8 ≤ R.cells) (hsl : slots + 512 ≤ R.slots)
    (kk : ∀ (S1 : Mem) (P1 : MS) (f1 : Nat → Int64) (g1 : Nat → UInt64) (H : Heap) (locs : List Loc) (ls : Array Slot), Rep (K + 1) S1 P1 x → va_P D vwCl (Lw cA ad o oD S1 P1 f1 g1) H → va_D A (Lw cA ad o oD S1 P1 f1 g1) → va_S A s.heap H locs → lv_has ls 9 [(5, .int (nI i)), (0, .ref b), (1, .ref x), (2, .ref (ad 0)), (3, .ref o), (4, .ref oD)] → W p l e R s m args below meth c H locs (cells + 8) (slots + 512) Q (F0 m 1140 ls [])) :
    ∀ (H : Heap) (locs : List Loc) (ls : Array Slot), va_P D vwCl (Lw cA ad o oD S P f g) H → va_D A (Lw cA ad o oD S P f g) → va_S A s.heap H locs → lv_has ls 9 [(5, .int (nI i)), (0, .ref b), (1, .ref x), (2, .ref (ad 0)), (3, .ref o), (4, .ref oD)] → W p l e R s m args below meth c H locs cells slots Q (F0 m 216 ls []) := by
  have hx := cx_x C
  have hb := cx_b C
  obtain ⟨hx1, hx2⟩ := Rep_x h
  intro H locs ls hP hD hS hl
  refine lv_aload_n hx hb dL_law_216 rfl (lv_at hl 2 rfl) ?_
  refine lv_aload_n hx hb dL_law_217 rfl (lv_at hl 1 rfl) ?_
  refine lv_iload hx hb dL_law_218 (lv_at hl 0 rfl) ?_
  refine lv_iconst (v := 1) hx hb dL_law_220 (by decide) ?_
  refine lv_iadd hx hb dL_law_221 ?_
  refine sld_k (i := i) (kN := 1) (L := L) (xs := xs) C hX hbl hbA hS (by decide) (by omega) hL dL_law_222 ?_
  refine lv_aload_n hx hb dL_law_223 rfl (lv_at hl 1 rfl) ?_
  refine lv_iload hx hb dL_law_224 (lv_at hl 0 rfl) ?_
  refine lv_iconst (v := 2) hx hb dL_law_226 (by decide) ?_
  refine lv_iadd hx hb dL_law_227 ?_
  refine sld_k (i := i) (kN := 2) (L := L) (xs := xs) C hX hbl hbA hS (by decide) (by omega) hL dL_law_228 ?_
  refine lv_aload_n hx hb dL_law_229 rfl (lv_at hl 4 rfl) ?_
  rcases st_claim (ad := ad) hG h hK (xs (i + 1)) (xs (i + 2)) with ⟨vv, P1, hC, hM, e0⟩ | ⟨E9, k9, vv, P1, hcd, hXt, hM, e0, hR⟩
  · refine ll_y (As := [.ref x, .int (xs (i + 1)), .int (xs (i + 2)), .ref o]) (rest := []) C (w_claim_y hG (xs (i + 1)) (xs (i + 2)) hx1 hx2 hC) tm_349 tm_350 tm_0 tm_351 hdL_claim.2 ⟨Nat.le_trans (Nat.le_of_ble_eq_true rfl) hf, Nat.le_trans (Nat.le_of_ble_eq_true rfl) hlo⟩ hl.1 rfl (Nat.le_of_ble_eq_true rfl) dL_law_230 ⟨hce, hsl⟩ hP hD hS (fun S1 f1 H locs hΦ hf0 hP hD hS => ?_)
    refine lv_istore (lv' := [(6, .int 0), (5, .int (nI i)), (0, .ref b), (1, .ref x), (2, .ref (ad 0)), (3, .ref o), (4, .ref oD)]) hx hb dL_law_233 hl (by decide) rfl (fun ls hl => ?_)
    refine lv_aload_n hx hb dL_law_235 rfl (lv_at hl 4 rfl) ?_
    refine lv_aload_n hx hb dL_law_236 rfl (lv_at hl 2 rfl) ?_
    refine lv_iload hx hb dL_law_237 (lv_at hl 1 rfl) ?_
    refine lv_iconst (v := 1) hx hb dL_law_239 (by decide) ?_
    refine lv_iadd hx hb dL_law_240 ?_
    refine sld_k (i := i) (kN := 1) (L := L) (xs := xs) C hX hbl hbA hS (by decide) (by omega) hL dL_law_241 ?_
    refine lv_aload_n hx hb dL_law_242 rfl (lv_at hl 2 rfl) ?_
    refine lv_iload hx hb dL_law_243 (lv_at hl 1 rfl) ?_
    refine lv_iconst (v := 2) hx hb dL_law_245 (by decide) ?_
    refine lv_iadd hx hb dL_law_246 ?_
    refine sld_k (i := i) (kN := 2) (L := L) (xs := xs) C hX hbl hbA hS (by decide) (by omega) hL dL_law_247 ?_
    refine lm_V (As := [.int (xs (i + 1)), .int (xs (i + 2))]) (rest := []) C hM tm_773 tm_774 tm_775 tm_3 tm_776 rfl hdX9_claim ⟨Nat.le_trans (Nat.le_of_ble_eq_true rfl) hf, Nat.le_trans (Nat.le_of_ble_eq_true rfl) hlo⟩ hl.1 rfl (Nat.le_of_ble_eq_true rfl) dL_law_248 ⟨hce, hsl⟩ hP hD hS (fun H locs hP hD hS => ?_)
    refine lv_lstore (lv' := [(7, .long vv), (6, .int 0), (5, .int (nI i)), (0, .ref b), (1, .ref x), (2, .ref (ad 0)), (3, .ref o), (4, .ref oD)]) hx hb dL_law_251 hl (by decide) rfl (fun ls hl => ?_)
    refine lv_aload_n hx hb dL_law_253 rfl (lv_at hl 5 rfl) ?_
    refine lm_V (As := []) (rest := []) C (k_thrown hG P1) tm_754 tm_755 tm_756 tm_3 tm_757 rfl hdX9_thrown ⟨Nat.le_trans (Nat.le_of_ble_eq_true rfl) hf, Nat.le_trans (Nat.le_of_ble_eq_true rfl) hlo⟩ hl.1 rfl (Nat.le_of_ble_eq_true rfl) dL_law_254 ⟨hce, hsl⟩ hP hD hS (fun H locs hP hD hS => ?_)
    refine lv_iload hx hb dL_law_257 (lv_at hl 1 rfl) ?_
    refine lv_icmp_eq (tgt := 264) hx hb dL_law_259 (by decide) (fun _ => ?_) (fun h9 => absurd (e0) h9)
    refine lv_iload hx hb dL_law_264 (lv_at hl 1 rfl) ?_
    refine lv_if_ne (tgt := 280) hx hb dL_law_266 (by decide) (fun h9 => absurd rfl h9) (fun _ => ?_)
    refine lv_aload_n hx hb dL_law_269 rfl (lv_at hl 6 rfl) ?_
    refine lv_iconst (v := 0) hx hb dL_law_270 (by decide) ?_
    refine lald0 (cv := vv) C hP hf0 dL_law_271 ?_
    refine lv_lload hx hb dL_law_272 (lv_at hl 0 rfl) ?_
    refine W.lcmp hx hb dL_law_274 ?_
    refine lv_if_eq (tgt := 280) hx hb dL_law_275 (by decide) (fun _ => ?_) (fun h9 => absurd ((lg_cmp_eq ..).mpr rfl) h9)
    refine lv_goto (tgt := 1140) hx hb dL_law_280 (by decide) ?_
    exact kk S1 P1 f1 g H locs ls hΦ hP hD hS (lv_sub hl [2, 3, 4, 5, 6, 7] rfl)
  · rcases hcd with ⟨rfl, rfl⟩ | ⟨rfl, rfl⟩
    · refine ll_x (As := [.ref x, .int (xs (i + 1)), .int (xs (i + 2)), .ref o]) (rest := []) C (w_claim_x1 hG (xs (i + 1)) (xs (i + 2)) hx1 hx2 hXt) tm_349 tm_350 tm_0 tm_351 hdL_claim.2 ⟨Nat.le_trans (Nat.le_of_ble_eq_true rfl) hf, Nat.le_trans (Nat.le_of_ble_eq_true rfl) hlo⟩ hl.1 rfl (Nat.le_of_ble_eq_true rfl) dL_law_230 ⟨hce, hsl⟩ hP hD hS (fun H locs hP hD hS => ?_)
      refine lv_istore (lv' := [(6, .int 1), (5, .int (nI i)), (0, .ref b), (1, .ref x), (2, .ref (ad 0)), (3, .ref o), (4, .ref oD)]) hx hb dL_law_233 hl (by decide) rfl (fun ls hl => ?_)
      refine lv_aload_n hx hb dL_law_235 rfl (lv_at hl 4 rfl) ?_
      refine lv_aload_n hx hb dL_law_236 rfl (lv_at hl 2 rfl) ?_
      refine lv_iload hx hb dL_law_237 (lv_at hl 1 rfl) ?_
      refine lv_iconst (v := 1) hx hb dL_law_239 (by decide) ?_
      refine lv_iadd hx hb dL_law_240 ?_
      refine sld_k (i := i) (kN := 1) (L := L) (xs := xs) C hX hbl hbA hS (by decide) (by omega) hL dL_law_241 ?_
      refine lv_aload_n hx hb dL_law_242 rfl (lv_at hl 2 rfl) ?_
      refine lv_iload hx hb dL_law_243 (lv_at hl 1 rfl) ?_
      refine lv_iconst (v := 2) hx hb dL_law_245 (by decide) ?_
      refine lv_iadd hx hb dL_law_246 ?_
      refine sld_k (i := i) (kN := 2) (L := L) (xs := xs) C hX hbl hbA hS (by decide) (by omega) hL dL_law_247 ?_
      refine lm_V (As := [.int (xs (i + 1)), .int (xs (i + 2))]) (rest := []) C hM tm_773 tm_774 tm_775 tm_3 tm_776 rfl hdX9_claim ⟨Nat.le_trans (Nat.le_of_ble_eq_true rfl) hf, Nat.le_trans (Nat.le_of_ble_eq_true rfl) hlo⟩ hl.1 rfl (Nat.le_of_ble_eq_true rfl) dL_law_248 ⟨hce, hsl⟩ hP hD hS (fun H locs hP hD hS => ?_)
      refine lv_lstore (lv' := [(7, .long vv), (6, .int 1), (5, .int (nI i)), (0, .ref b), (1, .ref x), (2, .ref (ad 0)), (3, .ref o), (4, .ref oD)]) hx hb dL_law_251 hl (by decide) rfl (fun ls hl => ?_)
      refine lv_aload_n hx hb dL_law_253 rfl (lv_at hl 5 rfl) ?_
      refine lm_V (As := []) (rest := []) C (k_thrown hG P1) tm_754 tm_755 tm_756 tm_3 tm_757 rfl hdX9_thrown ⟨Nat.le_trans (Nat.le_of_ble_eq_true rfl) hf, Nat.le_trans (Nat.le_of_ble_eq_true rfl) hlo⟩ hl.1 rfl (Nat.le_of_ble_eq_true rfl) dL_law_254 ⟨hce, hsl⟩ hP hD hS (fun H locs hP hD hS => ?_)
      refine lv_iload hx hb dL_law_257 (lv_at hl 1 rfl) ?_
      refine lv_icmp_eq (tgt := 264) hx hb dL_law_259 (by decide) (fun _ => ?_) (fun h9 => absurd (e0) h9)
      refine lv_iload hx hb dL_law_264 (lv_at hl 1 rfl) ?_
      refine lv_if_ne (tgt := 280) hx hb dL_law_266 (by decide) (fun _ => ?_) (fun h9 => absurd h9 (by decide))
      refine lv_goto (tgt := 1140) hx hb dL_law_280 (by decide) ?_
      exact kk S P1 f g H locs ls hR hP hD hS (lv_sub hl [2, 3, 4, 5, 6, 7] rfl)
    · refine ll_x (As := [.ref x, .int (xs (i + 1)), .int (xs (i + 2)), .ref o]) (rest := []) C (w_claim_x2 hG (xs (i + 1)) (xs (i + 2)) hx1 hx2 hXt) tm_349 tm_350 tm_0 tm_351 hdL_claim.2 ⟨Nat.le_trans (Nat.le_of_ble_eq_true rfl) hf, Nat.le_trans (Nat.le_of_ble_eq_true rfl) hlo⟩ hl.1 rfl (Nat.le_of_ble_eq_true rfl) dL_law_230 ⟨hce, hsl⟩ hP hD hS (fun H locs hP hD hS => ?_)
      refine lv_istore (lv' := [(6, .int 2), (5, .int (nI i)), (0, .ref b), (1, .ref x), (2, .ref (ad 0)), (3, .ref o), (4, .ref oD)]) hx hb dL_law_233 hl (by decide) rfl (fun ls hl => ?_)
      refine lv_aload_n hx hb dL_law_235 rfl (lv_at hl 4 rfl) ?_
      refine lv_aload_n hx hb dL_law_236 rfl (lv_at hl 2 rfl) ?_
      refine lv_iload hx hb dL_law_237 (lv_at hl 1 rfl) ?_
      refine lv_iconst (v := 1) hx hb dL_law_239 (by decide) ?_
      refine lv_iadd hx hb dL_law_240 ?_
      refine sld_k (i := i) (kN := 1) (L := L) (xs := xs) C hX hbl hbA hS (by decide) (by omega) hL dL_law_241 ?_
      refine lv_aload_n hx hb dL_law_242 rfl (lv_at hl 2 rfl) ?_
      refine lv_iload hx hb dL_law_243 (lv_at hl 1 rfl) ?_
      refine lv_iconst (v := 2) hx hb dL_law_245 (by decide) ?_
      refine lv_iadd hx hb dL_law_246 ?_
      refine sld_k (i := i) (kN := 2) (L := L) (xs := xs) C hX hbl hbA hS (by decide) (by omega) hL dL_law_247 ?_
      refine lm_V (As := [.int (xs (i + 1)), .int (xs (i + 2))]) (rest := []) C hM tm_773 tm_774 tm_775 tm_3 tm_776 rfl hdX9_claim ⟨Nat.le_trans (Nat.le_of_ble_eq_true rfl) hf, Nat.le_trans (Nat.le_of_ble_eq_true rfl) hlo⟩ hl.1 rfl (Nat.le_of_ble_eq_true rfl) dL_law_248 ⟨hce, hsl⟩ hP hD hS (fun H locs hP hD hS => ?_)
      refine lv_lstore (lv' := [(7, .long vv), (6, .int 2), (5, .int (nI i)), (0, .ref b), (1, .ref x), (2, .ref (ad 0)), (3, .ref o), (4, .ref oD)]) hx hb dL_law_251 hl (by decide) rfl (fun ls hl => ?_)
      refine lv_aload_n hx hb dL_law_253 rfl (lv_at hl 5 rfl) ?_
      refine lm_V (As := []) (rest := []) C (k_thrown hG P1) tm_754 tm_755 tm_756 tm_3 tm_757 rfl hdX9_thrown ⟨Nat.le_trans (Nat.le_of_ble_eq_true rfl) hf, Nat.le_trans (Nat.le_of_ble_eq_true rfl) hlo⟩ hl.1 rfl (Nat.le_of_ble_eq_true rfl) dL_law_254 ⟨hce, hsl⟩ hP hD hS (fun H locs hP hD hS => ?_)
      refine lv_iload hx hb dL_law_257 (lv_at hl 1 rfl) ?_
      refine lv_icmp_eq (tgt := 264) hx hb dL_law_259 (by decide) (fun _ => ?_) (fun h9 => absurd (e0) h9)
      refine lv_iload hx hb dL_law_264 (lv_at hl 1 rfl) ?_
      refine lv_if_ne (tgt := 280) hx hb dL_law_266 (by decide) (fun _ => ?_) (fun h9 => absurd h9 (by decide))
      refine lv_goto (tgt := 1140) hx hb dL_law_280 (by decide) ?_
      exact kk S P1 f g H locs ls hR hP hD hS (lv_sub hl [2, 3, 4, 5, 6, 7] rfl)
set_option maxRecDepth 100000 in
theorem lw_publish (C : cx_C p l s m args meth c s0 D cA cL_law 9 rt9 RL A) (hG : cx_G l s0 D cA) (hX : va_X b L xs s s.heap) (hbl : b < s.heap.size) (hbA : ¬ A b) (hL : L ≤ 3073) (h : Rep K S P x) (hK : K ≤ 511) (hi : i + 6 ≤ L) (hf : 11 ≤ R.frames) (hlo : 340 ≤ R.locals) (hce : cells + 8 ≤ R.cells) (hsl : slots + 512 ≤ R.slots)
    (kk : ∀ (S1 : Mem) (P1 : MS) (f1 : Nat → Int64) (g1 : Nat → UInt64) (H : Heap) (locs : List Loc) (ls : Array Slot), Rep (K + 1) S1 P1 x → va_P D vwCl (Lw cA ad o oD S1 P1 f1 g1) H → va_D A (Lw cA ad o oD S1 P1 f1 g1) → va_S A s.heap H locs → lv_has ls 9 [(5, .int (nI i)), (0, .ref b), (1, .ref x), (2, .ref (ad 0)), (3, .ref o), (4, .ref oD)] → W p l e R s m args below meth c H locs (cells + 8) (slots + 512) Q (F0 m 1140 ls [])) :
    ∀ (H : Heap) (locs : List Loc) (ls : Array Slot), va_P D vwCl (Lw cA ad o oD S P f g) H → va_D A (Lw cA ad o oD S P f g) → va_S A s.heap H locs → lv_has ls 9 [(5, .int (nI i)), (0, .ref b), (1, .ref x), (2, .ref (ad 0)), (3, .ref o), (4, .ref oD)] → W p l e R s m args below meth c H locs cells slots Q (F0 m 283 ls []) := by
  have hx := cx_x C
  have hb := cx_b C
  obtain ⟨hx1, hx2⟩ := Rep_x h
  intro H locs ls hP hD hS hl
  refine lv_aload_n hx hb dL_law_283 rfl (lv_at hl 2 rfl) ?_
  refine lv_aload_n hx hb dL_law_284 rfl (lv_at hl 1 rfl) ?_
  refine lv_iload hx hb dL_law_285 (lv_at hl 0 rfl) ?_
  refine lv_iconst (v := 1) hx hb dL_law_287 (by decide) ?_
  refine lv_iadd hx hb dL_law_288 ?_
  refine sld_k (i := i) (kN := 1) (L := L) (xs := xs) C hX hbl hbA hS (by decide) (by omega) hL dL_law_289 ?_
  refine lv_aload_n hx hb dL_law_290 rfl (lv_at hl 1 rfl) ?_
  refine lv_iload hx hb dL_law_291 (lv_at hl 0 rfl) ?_
  refine lv_iconst (v := 2) hx hb dL_law_293 (by decide) ?_
  refine lv_iadd hx hb dL_law_294 ?_
  refine sld_k (i := i) (kN := 2) (L := L) (xs := xs) C hX hbl hbA hS (by decide) (by omega) hL dL_law_295 ?_
  refine lv_i2l (v := (xs (i + 2)).toInt64) hx hb dL_law_296 rfl ?_
  refine lv_bipush (v := 32) hx hb dL_law_297 (by decide) ?_
  refine lv_lshl (v := ((xs (i + 2)).toInt64) <<< ((32 : Int32).toInt64 &&& 63)) hx hb dL_law_299 rfl ?_
  refine lv_aload_n hx hb dL_law_300 rfl (lv_at hl 1 rfl) ?_
  refine lv_iload hx hb dL_law_301 (lv_at hl 0 rfl) ?_
  refine lv_iconst (v := 3) hx hb dL_law_303 (by decide) ?_
  refine lv_iadd hx hb dL_law_304 ?_
  refine sld_k (i := i) (kN := 3) (L := L) (xs := xs) C hX hbl hbA hS (by decide) (by omega) hL dL_law_305 ?_
  refine lv_i2l (v := (xs (i + 3)).toInt64) hx hb dL_law_306 rfl ?_
  refine lv_ldc2 (v := 4294967295) hx hb (cx_own C) (cx_t C _ tm_871) dL_law_307 ?_
  refine lv_land hx hb dL_law_310 ?_
  refine lv_lor hx hb dL_law_311 ?_
  refine lv_aload_n hx hb dL_law_312 rfl (lv_at hl 1 rfl) ?_
  refine lv_iload hx hb dL_law_313 (lv_at hl 0 rfl) ?_
  refine lv_iconst (v := 4) hx hb dL_law_315 (by decide) ?_
  refine lv_iadd hx hb dL_law_316 ?_
  refine sld_k (i := i) (kN := 4) (L := L) (xs := xs) C hX hbl hbA hS (by decide) (by omega) hL dL_law_317 ?_
  refine lv_i2l (v := (xs (i + 4)).toInt64) hx hb dL_law_318 rfl ?_
  refine lv_bipush (v := 32) hx hb dL_law_319 (by decide) ?_
  refine lv_lshl (v := ((xs (i + 4)).toInt64) <<< ((32 : Int32).toInt64 &&& 63)) hx hb dL_law_321 rfl ?_
  refine lv_aload_n hx hb dL_law_322 rfl (lv_at hl 1 rfl) ?_
  refine lv_iload hx hb dL_law_323 (lv_at hl 0 rfl) ?_
  refine lv_iconst (v := 5) hx hb dL_law_325 (by decide) ?_
  refine lv_iadd hx hb dL_law_326 ?_
  refine sld_k (i := i) (kN := 5) (L := L) (xs := xs) C hX hbl hbA hS (by decide) (by omega) hL dL_law_327 ?_
  refine lv_i2l (v := (xs (i + 5)).toInt64) hx hb dL_law_328 rfl ?_
  refine lv_ldc2 (v := 4294967295) hx hb (cx_own C) (cx_t C _ tm_871) dL_law_329 ?_
  refine lv_land hx hb dL_law_332 ?_
  refine lv_lor hx hb dL_law_333 ?_
  refine lv_aload_n hx hb dL_law_334 rfl (lv_at hl 4 rfl) ?_
  rcases st_publish (ad := ad) hG h hK (xs (i + 1)) ((((xs (i + 2)).toInt64) <<< ((32 : Int32).toInt64 &&& 63)) ||| (((xs (i + 3)).toInt64) &&& 4294967295)) ((((xs (i + 4)).toInt64) <<< ((32 : Int32).toInt64 &&& 63)) ||| (((xs (i + 5)).toInt64) &&& 4294967295)) with ⟨vv, P1, hC, hM, e0⟩ | ⟨E9, k9, vv, P1, hcd, hXt, hM, e0, hR⟩
  · refine ll_y (As := [.ref x, .int (xs (i + 1)), .long ((((xs (i + 2)).toInt64) <<< ((32 : Int32).toInt64 &&& 63)) ||| (((xs (i + 3)).toInt64) &&& 4294967295)), .long ((((xs (i + 4)).toInt64) <<< ((32 : Int32).toInt64 &&& 63)) ||| (((xs (i + 5)).toInt64) &&& 4294967295)), .ref o]) (rest := []) C (w_publish_y hG (xs (i + 1)) ((((xs (i + 2)).toInt64) <<< ((32 : Int32).toInt64 &&& 63)) ||| (((xs (i + 3)).toInt64) &&& 4294967295)) ((((xs (i + 4)).toInt64) <<< ((32 : Int32).toInt64 &&& 63)) ||| (((xs (i + 5)).toInt64) &&& 4294967295)) hx1 hx2 hC) tm_391 tm_392 tm_0 tm_393 hdL_publish.2 ⟨Nat.le_trans (Nat.le_of_ble_eq_true rfl) hf, Nat.le_trans (Nat.le_of_ble_eq_true rfl) hlo⟩ hl.1 rfl (Nat.le_of_ble_eq_true rfl) dL_law_335 ⟨hce, hsl⟩ hP hD hS (fun S1 f1 H locs hΦ hf0 hP hD hS => ?_)
    refine lv_istore (lv' := [(6, .int 0), (5, .int (nI i)), (0, .ref b), (1, .ref x), (2, .ref (ad 0)), (3, .ref o), (4, .ref oD)]) hx hb dL_law_338 hl (by decide) rfl (fun ls hl => ?_)
    refine lv_aload_n hx hb dL_law_340 rfl (lv_at hl 4 rfl) ?_
    refine lv_aload_n hx hb dL_law_341 rfl (lv_at hl 2 rfl) ?_
    refine lv_iload hx hb dL_law_342 (lv_at hl 1 rfl) ?_
    refine lv_iconst (v := 1) hx hb dL_law_344 (by decide) ?_
    refine lv_iadd hx hb dL_law_345 ?_
    refine sld_k (i := i) (kN := 1) (L := L) (xs := xs) C hX hbl hbA hS (by decide) (by omega) hL dL_law_346 ?_
    refine lv_aload_n hx hb dL_law_347 rfl (lv_at hl 2 rfl) ?_
    refine lv_iload hx hb dL_law_348 (lv_at hl 1 rfl) ?_
    refine lv_iconst (v := 2) hx hb dL_law_350 (by decide) ?_
    refine lv_iadd hx hb dL_law_351 ?_
    refine sld_k (i := i) (kN := 2) (L := L) (xs := xs) C hX hbl hbA hS (by decide) (by omega) hL dL_law_352 ?_
    refine lv_i2l (v := (xs (i + 2)).toInt64) hx hb dL_law_353 rfl ?_
    refine lv_bipush (v := 32) hx hb dL_law_354 (by decide) ?_
    refine lv_lshl (v := ((xs (i + 2)).toInt64) <<< ((32 : Int32).toInt64 &&& 63)) hx hb dL_law_356 rfl ?_
    refine lv_aload_n hx hb dL_law_357 rfl (lv_at hl 2 rfl) ?_
    refine lv_iload hx hb dL_law_358 (lv_at hl 1 rfl) ?_
    refine lv_iconst (v := 3) hx hb dL_law_360 (by decide) ?_
    refine lv_iadd hx hb dL_law_361 ?_
    refine sld_k (i := i) (kN := 3) (L := L) (xs := xs) C hX hbl hbA hS (by decide) (by omega) hL dL_law_362 ?_
    refine lv_i2l (v := (xs (i + 3)).toInt64) hx hb dL_law_363 rfl ?_
    refine lv_ldc2 (v := 4294967295) hx hb (cx_own C) (cx_t C _ tm_871) dL_law_364 ?_
    refine lv_land hx hb dL_law_367 ?_
    refine lv_lor hx hb dL_law_368 ?_
    refine lv_aload_n hx hb dL_law_369 rfl (lv_at hl 2 rfl) ?_
    refine lv_iload hx hb dL_law_370 (lv_at hl 1 rfl) ?_
    refine lv_iconst (v := 4) hx hb dL_law_372 (by decide) ?_
    refine lv_iadd hx hb dL_law_373 ?_
    refine sld_k (i := i) (kN := 4) (L := L) (xs := xs) C hX hbl hbA hS (by decide) (by omega) hL dL_law_374 ?_
    refine lv_i2l (v := (xs (i + 4)).toInt64) hx hb dL_law_375 rfl ?_
    refine lv_bipush (v := 32) hx hb dL_law_376 (by decide) ?_
    refine lv_lshl (v := ((xs (i + 4)).toInt64) <<< ((32 : Int32).toInt64 &&& 63)) hx hb dL_law_378 rfl ?_
    refine lv_aload_n hx hb dL_law_379 rfl (lv_at hl 2 rfl) ?_
    refine lv_iload hx hb dL_law_380 (lv_at hl 1 rfl) ?_
    refine lv_iconst (v := 5) hx hb dL_law_382 (by decide) ?_
    refine lv_iadd hx hb dL_law_383 ?_
    refine sld_k (i := i) (kN := 5) (L := L) (xs := xs) C hX hbl hbA hS (by decide) (by omega) hL dL_law_384 ?_
    refine lv_i2l (v := (xs (i + 5)).toInt64) hx hb dL_law_385 rfl ?_
    refine lv_ldc2 (v := 4294967295) hx hb (cx_own C) (cx_t C _ tm_871) dL_law_386 ?_
    refine lv_land hx hb dL_law_389 ?_
    refine lv_lor hx hb dL_law_390 ?_
    refine lm_V (As := [.int (xs (i + 1)), .long ((((xs (i + 2)).toInt64) <<< ((32 : Int32).toInt64 &&& 63)) ||| (((xs (i + 3)).toInt64) &&& 4294967295)), .long ((((xs (i + 4)).toInt64) <<< ((32 : Int32).toInt64 &&& 63)) ||| (((xs (i + 5)).toInt64) &&& 4294967295))]) (rest := []) C hM tm_781 tm_782 tm_783 tm_3 tm_784 rfl hdX9_publish ⟨Nat.le_trans (Nat.le_of_ble_eq_true rfl) hf, Nat.le_trans (Nat.le_of_ble_eq_true rfl) hlo⟩ hl.1 rfl (Nat.le_of_ble_eq_true rfl) dL_law_391 ⟨hce, hsl⟩ hP hD hS (fun H locs hP hD hS => ?_)
    refine lv_istore (lv' := [(7, .int vv), (6, .int 0), (5, .int (nI i)), (0, .ref b), (1, .ref x), (2, .ref (ad 0)), (3, .ref o), (4, .ref oD)]) hx hb dL_law_394 hl (by decide) rfl (fun ls hl => ?_)
    refine lv_aload_n hx hb dL_law_396 rfl (lv_at hl 5 rfl) ?_
    refine lm_V (As := []) (rest := []) C (k_thrown hG P1) tm_754 tm_755 tm_756 tm_3 tm_757 rfl hdX9_thrown ⟨Nat.le_trans (Nat.le_of_ble_eq_true rfl) hf, Nat.le_trans (Nat.le_of_ble_eq_true rfl) hlo⟩ hl.1 rfl (Nat.le_of_ble_eq_true rfl) dL_law_397 ⟨hce, hsl⟩ hP hD hS (fun H locs hP hD hS => ?_)
    refine lv_iload hx hb dL_law_400 (lv_at hl 1 rfl) ?_
    refine lv_icmp_eq (tgt := 407) hx hb dL_law_402 (by decide) (fun _ => ?_) (fun h9 => absurd (e0) h9)
    refine lv_iload hx hb dL_law_407 (lv_at hl 1 rfl) ?_
    refine lv_if_ne (tgt := 431) hx hb dL_law_409 (by decide) (fun h9 => absurd rfl h9) (fun _ => ?_)
    refine lv_aload_n hx hb dL_law_412 rfl (lv_at hl 6 rfl) ?_
    refine lv_iconst (v := 0) hx hb dL_law_413 (by decide) ?_
    refine lald0 (cv := (if vv = 0 then 0 else 1)) C hP hf0 dL_law_414 ?_
    refine lv_iload hx hb dL_law_415 (lv_at hl 0 rfl) ?_
    refine lv_if_eq (tgt := 424) hx hb dL_law_417 (by decide) (fun cz => ?_) (fun cz => ?_)
    · refine lv_lconst (v := 0) hx hb dL_law_424 (by decide) ?_
      refine W.lcmp hx hb dL_law_425 ?_
      refine lv_if_eq (tgt := 431) hx hb dL_law_426 (by decide) (fun _ => ?_) (fun h9 => absurd ((lg_cmp_eq ..).mpr (if_pos cz)) h9)
      refine lv_goto (tgt := 1140) hx hb dL_law_431 (by decide) ?_
      exact kk S1 P1 f1 g H locs ls hΦ hP hD hS (lv_sub hl [2, 3, 4, 5, 6, 7] rfl)
    refine lv_lconst (v := 1) hx hb dL_law_420 (by decide) ?_
    refine lv_goto (tgt := 425) hx hb dL_law_421 (by decide) ?_
    refine W.lcmp hx hb dL_law_425 ?_
    refine lv_if_eq (tgt := 431) hx hb dL_law_426 (by decide) (fun _ => ?_) (fun h9 => absurd ((lg_cmp_eq ..).mpr (if_neg cz)) h9)
    refine lv_goto (tgt := 1140) hx hb dL_law_431 (by decide) ?_
    exact kk S1 P1 f1 g H locs ls hΦ hP hD hS (lv_sub hl [2, 3, 4, 5, 6, 7] rfl)
  · obtain ⟨rfl, rfl⟩ := hcd
    refine ll_x (As := [.ref x, .int (xs (i + 1)), .long ((((xs (i + 2)).toInt64) <<< ((32 : Int32).toInt64 &&& 63)) ||| (((xs (i + 3)).toInt64) &&& 4294967295)), .long ((((xs (i + 4)).toInt64) <<< ((32 : Int32).toInt64 &&& 63)) ||| (((xs (i + 5)).toInt64) &&& 4294967295)), .ref o]) (rest := []) C (w_publish_x1 hG (xs (i + 1)) ((((xs (i + 2)).toInt64) <<< ((32 : Int32).toInt64 &&& 63)) ||| (((xs (i + 3)).toInt64) &&& 4294967295)) ((((xs (i + 4)).toInt64) <<< ((32 : Int32).toInt64 &&& 63)) ||| (((xs (i + 5)).toInt64) &&& 4294967295)) hx1 hx2 hXt) tm_391 tm_392 tm_0 tm_393 hdL_publish.2 ⟨Nat.le_trans (Nat.le_of_ble_eq_true rfl) hf, Nat.le_trans (Nat.le_of_ble_eq_true rfl) hlo⟩ hl.1 rfl (Nat.le_of_ble_eq_true rfl) dL_law_335 ⟨hce, hsl⟩ hP hD hS (fun H locs hP hD hS => ?_)
    refine lv_istore (lv' := [(6, .int 1), (5, .int (nI i)), (0, .ref b), (1, .ref x), (2, .ref (ad 0)), (3, .ref o), (4, .ref oD)]) hx hb dL_law_338 hl (by decide) rfl (fun ls hl => ?_)
    refine lv_aload_n hx hb dL_law_340 rfl (lv_at hl 4 rfl) ?_
    refine lv_aload_n hx hb dL_law_341 rfl (lv_at hl 2 rfl) ?_
    refine lv_iload hx hb dL_law_342 (lv_at hl 1 rfl) ?_
    refine lv_iconst (v := 1) hx hb dL_law_344 (by decide) ?_
    refine lv_iadd hx hb dL_law_345 ?_
    refine sld_k (i := i) (kN := 1) (L := L) (xs := xs) C hX hbl hbA hS (by decide) (by omega) hL dL_law_346 ?_
    refine lv_aload_n hx hb dL_law_347 rfl (lv_at hl 2 rfl) ?_
    refine lv_iload hx hb dL_law_348 (lv_at hl 1 rfl) ?_
    refine lv_iconst (v := 2) hx hb dL_law_350 (by decide) ?_
    refine lv_iadd hx hb dL_law_351 ?_
    refine sld_k (i := i) (kN := 2) (L := L) (xs := xs) C hX hbl hbA hS (by decide) (by omega) hL dL_law_352 ?_
    refine lv_i2l (v := (xs (i + 2)).toInt64) hx hb dL_law_353 rfl ?_
    refine lv_bipush (v := 32) hx hb dL_law_354 (by decide) ?_
    refine lv_lshl (v := ((xs (i + 2)).toInt64) <<< ((32 : Int32).toInt64 &&& 63)) hx hb dL_law_356 rfl ?_
    refine lv_aload_n hx hb dL_law_357 rfl (lv_at hl 2 rfl) ?_
    refine lv_iload hx hb dL_law_358 (lv_at hl 1 rfl) ?_
    refine lv_iconst (v := 3) hx hb dL_law_360 (by decide) ?_
    refine lv_iadd hx hb dL_law_361 ?_
    refine sld_k (i := i) (kN := 3) (L := L) (xs := xs) C hX hbl hbA hS (by decide) (by omega) hL dL_law_362 ?_
    refine lv_i2l (v := (xs (i + 3)).toInt64) hx hb dL_law_363 rfl ?_
    refine lv_ldc2 (v := 4294967295) hx hb (cx_own C) (cx_t C _ tm_871) dL_law_364 ?_
    refine lv_land hx hb dL_law_367 ?_
    refine lv_lor hx hb dL_law_368 ?_
    refine lv_aload_n hx hb dL_law_369 rfl (lv_at hl 2 rfl) ?_
    refine lv_iload hx hb dL_law_370 (lv_at hl 1 rfl) ?_
    refine lv_iconst (v := 4) hx hb dL_law_372 (by decide) ?_
    refine lv_iadd hx hb dL_law_373 ?_
    refine sld_k (i := i) (kN := 4) (L := L) (xs := xs) C hX hbl hbA hS (by decide) (by omega) hL dL_law_374 ?_
    refine lv_i2l (v := (xs (i + 4)).toInt64) hx hb dL_law_375 rfl ?_
    refine lv_bipush (v := 32) hx hb dL_law_376 (by decide) ?_
    refine lv_lshl (v := ((xs (i + 4)).toInt64) <<< ((32 : Int32).toInt64 &&& 63)) hx hb dL_law_378 rfl ?_
    refine lv_aload_n hx hb dL_law_379 rfl (lv_at hl 2 rfl) ?_
    refine lv_iload hx hb dL_law_380 (lv_at hl 1 rfl) ?_
    refine lv_iconst (v := 5) hx hb dL_law_382 (by decide) ?_
    refine lv_iadd hx hb dL_law_383 ?_
    refine sld_k (i := i) (kN := 5) (L := L) (xs := xs) C hX hbl hbA hS (by decide) (by omega) hL dL_law_384 ?_
    refine lv_i2l (v := (xs (i + 5)).toInt64) hx hb dL_law_385 rfl ?_
    refine lv_ldc2 (v := 4294967295) hx hb (cx_own C) (cx_t C _ tm_871) dL_law_386 ?_
    refine lv_land hx hb dL_law_389 ?_
    refine lv_lor hx hb dL_law_390 ?_
    refine lm_V (As := [.int (xs (i + 1)), .long ((((xs (i + 2)).toInt64) <<< ((32 : Int32).toInt64 &&& 63)) ||| (((xs (i + 3)).toInt64) &&& 4294967295)), .long ((((xs (i + 4)).toInt64) <<< ((32 : Int32).toInt64 &&& 63)) ||| (((xs (i + 5)).toInt64) &&& 4294967295))]) (rest := []) C hM tm_781 tm_782 tm_783 tm_3 tm_784 rfl hdX9_publish ⟨Nat.le_trans (Nat.le_of_ble_eq_true rfl) hf, Nat.le_trans (Nat.le_of_ble_eq_true rfl) hlo⟩ hl.1 rfl (Nat.le_of_ble_eq_true rfl) dL_law_391 ⟨hce, hsl⟩ hP hD hS (fun H locs hP hD hS => ?_)
    refine lv_istore (lv' := [(7, .int vv), (6, .int 1), (5, .int (nI i)), (0, .ref b), (1, .ref x), (2, .ref (ad 0)), (3, .ref o), (4, .ref oD)]) hx hb dL_law_394 hl (by decide) rfl (fun ls hl => ?_)
    refine lv_aload_n hx hb dL_law_396 rfl (lv_at hl 5 rfl) ?_
    refine lm_V (As := []) (rest := []) C (k_thrown hG P1) tm_754 tm_755 tm_756 tm_3 tm_757 rfl hdX9_thrown ⟨Nat.le_trans (Nat.le_of_ble_eq_true rfl) hf, Nat.le_trans (Nat.le_of_ble_eq_true rfl) hlo⟩ hl.1 rfl (Nat.le_of_ble_eq_true rfl) dL_law_397 ⟨hce, hsl⟩ hP hD hS (fun H locs hP hD hS => ?_)
    refine lv_iload hx hb dL_law_400 (lv_at hl 1 rfl) ?_
    refine lv_icmp_eq (tgt := 407) hx hb dL_law_402 (by decide) (fun _ => ?_) (fun h9 => absurd (e0) h9)
    refine lv_iload hx hb dL_law_407 (lv_at hl 1 rfl) ?_
    refine lv_if_ne (tgt := 431) hx hb dL_law_409 (by decide) (fun _ => ?_) (fun h9 => absurd h9 (by decide))
    refine lv_goto (tgt := 1140) hx hb dL_law_431 (by decide) ?_
    exact kk S P1 f g H locs ls hR hP hD hS (lv_sub hl [2, 3, 4, 5, 6, 7] rfl)
set_option maxRecDepth 100000 in
theorem lw_run (C : cx_C p l s m args meth c s0 D cA cL_law 9 rt9 RL A) (hG : cx_G l s0 D cA) (hX : va_X b L xs s s.heap) (hbl : b < s.heap.size) (hbA : ¬ A b) (hL : L ≤ 3073) (h : Rep K S P x) (hK : K ≤ 511) (hi : i + 6 ≤ L) (hf : 11 ≤ R.frames) (hlo : 340 ≤ R.locals) (hce : cells + 8 ≤ R.cells) (hsl : slots + 512 ≤ R.slots)
    (kk : ∀ (S1 : Mem) (P1 : MS) (f1 : Nat → Int64) (g1 : Nat → UInt64) (H : Heap) (locs : List Loc) (ls : Array Slot), Rep (K + 1) S1 P1 x → va_P D vwCl (Lw cA ad o oD S1 P1 f1 g1) H → va_D A (Lw cA ad o oD S1 P1 f1 g1) → va_S A s.heap H locs → lv_has ls 9 [(5, .int (nI i)), (0, .ref b), (1, .ref x), (2, .ref (ad 0)), (3, .ref o), (4, .ref oD)] → W p l e R s m args below meth c H locs (cells + 8) (slots + 512) Q (F0 m 1140 ls [])) :
    ∀ (H : Heap) (locs : List Loc) (ls : Array Slot), va_P D vwCl (Lw cA ad o oD S P f g) H → va_D A (Lw cA ad o oD S P f g) → va_S A s.heap H locs → lv_has ls 9 [(5, .int (nI i)), (0, .ref b), (1, .ref x), (2, .ref (ad 0)), (3, .ref o), (4, .ref oD)] → W p l e R s m args below meth c H locs cells slots Q (F0 m 434 ls []) := by
  have hx := cx_x C
  have hb := cx_b C
  obtain ⟨hx1, hx2⟩ := Rep_x h
  intro H locs ls hP hD hS hl
  refine lv_aload_n hx hb dL_law_434 rfl (lv_at hl 2 rfl) ?_
  refine lv_aload_n hx hb dL_law_435 rfl (lv_at hl 1 rfl) ?_
  refine lv_iload hx hb dL_law_436 (lv_at hl 0 rfl) ?_
  refine lv_iconst (v := 1) hx hb dL_law_438 (by decide) ?_
  refine lv_iadd hx hb dL_law_439 ?_
  refine sld_k (i := i) (kN := 1) (L := L) (xs := xs) C hX hbl hbA hS (by decide) (by omega) hL dL_law_440 ?_
  refine lv_aload_n hx hb dL_law_441 rfl (lv_at hl 1 rfl) ?_
  refine lv_iload hx hb dL_law_442 (lv_at hl 0 rfl) ?_
  refine lv_iconst (v := 2) hx hb dL_law_444 (by decide) ?_
  refine lv_iadd hx hb dL_law_445 ?_
  refine sld_k (i := i) (kN := 2) (L := L) (xs := xs) C hX hbl hbA hS (by decide) (by omega) hL dL_law_446 ?_
  refine lv_aload_n hx hb dL_law_447 rfl (lv_at hl 4 rfl) ?_
  rcases st_run (ad := ad) hG h hK (xs (i + 1)) (xs (i + 2)) with ⟨vv, P1, hC, hM, e0⟩ | ⟨E9, k9, vv, P1, hcd, hXt, hM, e0, hR⟩
  · refine ll_y (As := [.ref x, .int (xs (i + 1)), .int (xs (i + 2)), .ref o]) (rest := []) C (w_run_y hG (xs (i + 1)) (xs (i + 2)) hx1 hx2 hC) tm_423 tm_424 tm_0 tm_425 hdL_run.2 ⟨Nat.le_trans (Nat.le_of_ble_eq_true rfl) hf, Nat.le_trans (Nat.le_of_ble_eq_true rfl) hlo⟩ hl.1 rfl (Nat.le_of_ble_eq_true rfl) dL_law_448 ⟨hce, hsl⟩ hP hD hS (fun S1 f1 H locs hΦ hf0 hP hD hS => ?_)
    refine lv_istore (lv' := [(6, .int 0), (5, .int (nI i)), (0, .ref b), (1, .ref x), (2, .ref (ad 0)), (3, .ref o), (4, .ref oD)]) hx hb dL_law_451 hl (by decide) rfl (fun ls hl => ?_)
    refine lv_aload_n hx hb dL_law_453 rfl (lv_at hl 4 rfl) ?_
    refine lv_aload_n hx hb dL_law_454 rfl (lv_at hl 2 rfl) ?_
    refine lv_iload hx hb dL_law_455 (lv_at hl 1 rfl) ?_
    refine lv_iconst (v := 1) hx hb dL_law_457 (by decide) ?_
    refine lv_iadd hx hb dL_law_458 ?_
    refine sld_k (i := i) (kN := 1) (L := L) (xs := xs) C hX hbl hbA hS (by decide) (by omega) hL dL_law_459 ?_
    refine lv_aload_n hx hb dL_law_460 rfl (lv_at hl 2 rfl) ?_
    refine lv_iload hx hb dL_law_461 (lv_at hl 1 rfl) ?_
    refine lv_iconst (v := 2) hx hb dL_law_463 (by decide) ?_
    refine lv_iadd hx hb dL_law_464 ?_
    refine sld_k (i := i) (kN := 2) (L := L) (xs := xs) C hX hbl hbA hS (by decide) (by omega) hL dL_law_465 ?_
    refine lm_V (As := [.int (xs (i + 1)), .int (xs (i + 2))]) (rest := []) C hM tm_785 tm_786 tm_787 tm_3 tm_788 rfl hdX9_run ⟨Nat.le_trans (Nat.le_of_ble_eq_true rfl) hf, Nat.le_trans (Nat.le_of_ble_eq_true rfl) hlo⟩ hl.1 rfl (Nat.le_of_ble_eq_true rfl) dL_law_466 ⟨hce, hsl⟩ hP hD hS (fun H locs hP hD hS => ?_)
    refine lv_istore (lv' := [(7, .int vv), (6, .int 0), (5, .int (nI i)), (0, .ref b), (1, .ref x), (2, .ref (ad 0)), (3, .ref o), (4, .ref oD)]) hx hb dL_law_469 hl (by decide) rfl (fun ls hl => ?_)
    refine lv_aload_n hx hb dL_law_471 rfl (lv_at hl 5 rfl) ?_
    refine lm_V (As := []) (rest := []) C (k_thrown hG P1) tm_754 tm_755 tm_756 tm_3 tm_757 rfl hdX9_thrown ⟨Nat.le_trans (Nat.le_of_ble_eq_true rfl) hf, Nat.le_trans (Nat.le_of_ble_eq_true rfl) hlo⟩ hl.1 rfl (Nat.le_of_ble_eq_true rfl) dL_law_472 ⟨hce, hsl⟩ hP hD hS (fun H locs hP hD hS => ?_)
    refine lv_iload hx hb dL_law_475 (lv_at hl 1 rfl) ?_
    refine lv_icmp_eq (tgt := 482) hx hb dL_law_477 (by decide) (fun _ => ?_) (fun h9 => absurd (e0) h9)
    refine lv_iload hx hb dL_law_482 (lv_at hl 1 rfl) ?_
    refine lv_if_ne (tgt := 499) hx hb dL_law_484 (by decide) (fun h9 => absurd rfl h9) (fun _ => ?_)
    refine lv_aload_n hx hb dL_law_487 rfl (lv_at hl 6 rfl) ?_
    refine lv_iconst (v := 0) hx hb dL_law_488 (by decide) ?_
    refine lald0 (cv := vv.toInt64) C hP hf0 dL_law_489 ?_
    refine lv_iload hx hb dL_law_490 (lv_at hl 0 rfl) ?_
    refine lv_i2l (v := vv.toInt64) hx hb dL_law_492 rfl ?_
    refine W.lcmp hx hb dL_law_493 ?_
    refine lv_if_eq (tgt := 499) hx hb dL_law_494 (by decide) (fun _ => ?_) (fun h9 => absurd ((lg_cmp_eq ..).mpr rfl) h9)
    refine lv_goto (tgt := 1140) hx hb dL_law_499 (by decide) ?_
    exact kk S1 P1 f1 g H locs ls hΦ hP hD hS (lv_sub hl [2, 3, 4, 5, 6, 7] rfl)
  · rcases hcd with ⟨rfl, rfl⟩ | ⟨rfl, rfl⟩
    · refine ll_x (As := [.ref x, .int (xs (i + 1)), .int (xs (i + 2)), .ref o]) (rest := []) C (w_run_x1 hG (xs (i + 1)) (xs (i + 2)) hx1 hx2 hXt) tm_423 tm_424 tm_0 tm_425 hdL_run.2 ⟨Nat.le_trans (Nat.le_of_ble_eq_true rfl) hf, Nat.le_trans (Nat.le_of_ble_eq_true rfl) hlo⟩ hl.1 rfl (Nat.le_of_ble_eq_true rfl) dL_law_448 ⟨hce, hsl⟩ hP hD hS (fun H locs hP hD hS => ?_)
      refine lv_istore (lv' := [(6, .int 1), (5, .int (nI i)), (0, .ref b), (1, .ref x), (2, .ref (ad 0)), (3, .ref o), (4, .ref oD)]) hx hb dL_law_451 hl (by decide) rfl (fun ls hl => ?_)
      refine lv_aload_n hx hb dL_law_453 rfl (lv_at hl 4 rfl) ?_
      refine lv_aload_n hx hb dL_law_454 rfl (lv_at hl 2 rfl) ?_
      refine lv_iload hx hb dL_law_455 (lv_at hl 1 rfl) ?_
      refine lv_iconst (v := 1) hx hb dL_law_457 (by decide) ?_
      refine lv_iadd hx hb dL_law_458 ?_
      refine sld_k (i := i) (kN := 1) (L := L) (xs := xs) C hX hbl hbA hS (by decide) (by omega) hL dL_law_459 ?_
      refine lv_aload_n hx hb dL_law_460 rfl (lv_at hl 2 rfl) ?_
      refine lv_iload hx hb dL_law_461 (lv_at hl 1 rfl) ?_
      refine lv_iconst (v := 2) hx hb dL_law_463 (by decide) ?_
      refine lv_iadd hx hb dL_law_464 ?_
      refine sld_k (i := i) (kN := 2) (L := L) (xs := xs) C hX hbl hbA hS (by decide) (by omega) hL dL_law_465 ?_
      refine lm_V (As := [.int (xs (i + 1)), .int (xs (i + 2))]) (rest := []) C hM tm_785 tm_786 tm_787 tm_3 tm_788 rfl hdX9_run ⟨Nat.le_trans (Nat.le_of_ble_eq_true rfl) hf, Nat.le_trans (Nat.le_of_ble_eq_true rfl) hlo⟩ hl.1 rfl (Nat.le_of_ble_eq_true rfl) dL_law_466 ⟨hce, hsl⟩ hP hD hS (fun H locs hP hD hS => ?_)
      refine lv_istore (lv' := [(7, .int vv), (6, .int 1), (5, .int (nI i)), (0, .ref b), (1, .ref x), (2, .ref (ad 0)), (3, .ref o), (4, .ref oD)]) hx hb dL_law_469 hl (by decide) rfl (fun ls hl => ?_)
      refine lv_aload_n hx hb dL_law_471 rfl (lv_at hl 5 rfl) ?_
      refine lm_V (As := []) (rest := []) C (k_thrown hG P1) tm_754 tm_755 tm_756 tm_3 tm_757 rfl hdX9_thrown ⟨Nat.le_trans (Nat.le_of_ble_eq_true rfl) hf, Nat.le_trans (Nat.le_of_ble_eq_true rfl) hlo⟩ hl.1 rfl (Nat.le_of_ble_eq_true rfl) dL_law_472 ⟨hce, hsl⟩ hP hD hS (fun H locs hP hD hS => ?_)
      refine lv_iload hx hb dL_law_475 (lv_at hl 1 rfl) ?_
      refine lv_icmp_eq (tgt := 482) hx hb dL_law_477 (by decide) (fun _ => ?_) (fun h9 => absurd (e0) h9)
      refine lv_iload hx hb dL_law_482 (lv_at hl 1 rfl) ?_
      refine lv_if_ne (tgt := 499) hx hb dL_law_484 (by decide) (fun _ => ?_) (fun h9 => absurd h9 (by decide))
      refine lv_goto (tgt := 1140) hx hb dL_law_499 (by decide) ?_
      exact kk S P1 f g H locs ls hR hP hD hS (lv_sub hl [2, 3, 4, 5, 6, 7] rfl)
    · refine ll_x (As := [.ref x, .int (xs (i + 1)), .int (xs (i + 2)), .ref o]) (rest := []) C (w_run_x2 hG (xs (i + 1)) (xs (i + 2)) hx1 hx2 hXt) tm_423 tm_424 tm_0 tm_425 hdL_run.2 ⟨Nat.le_trans (Nat.le_of_ble_eq_true rfl) hf, Nat.le_trans (Nat.le_of_ble_eq_true rfl) hlo⟩ hl.1 rfl (Nat.le_of_ble_eq_true rfl) dL_law_448 ⟨hce, hsl⟩ hP hD hS (fun H locs hP hD hS => ?_)
      refine lv_istore (lv' := [(6, .int 2), (5, .int (nI i)), (0, .ref b), (1, .ref x), (2, .ref (ad 0)), (3, .ref o), (4, .ref oD)]) hx hb dL_law_451 hl (by decide) rfl (fun ls hl => ?_)
      refine lv_aload_n hx hb dL_law_453 rfl (lv_at hl 4 rfl) ?_
      refine lv_aload_n hx hb dL_law_454 rfl (lv_at hl 2 rfl) ?_
      refine lv_iload hx hb dL_law_455 (lv_at hl 1 rfl) ?_
      refine lv_iconst (v := 1) hx hb dL_law_457 (by decide) ?_
      refine lv_iadd hx hb dL_law_458 ?_
      refine sld_k (i := i) (kN := 1) (L := L) (xs := xs) C hX hbl hbA hS (by decide) (by omega) hL dL_law_459 ?_
      refine lv_aload_n hx hb dL_law_460 rfl (lv_at hl 2 rfl) ?_
      refine lv_iload hx hb dL_law_461 (lv_at hl 1 rfl) ?_
      refine lv_iconst (v := 2) hx hb dL_law_463 (by decide) ?_
      refine lv_iadd hx hb dL_law_464 ?_
      refine sld_k (i := i) (kN := 2) (L := L) (xs := xs) C hX hbl hbA hS (by decide) (by omega) hL dL_law_465 ?_
      refine lm_V (As := [.int (xs (i + 1)), .int (xs (i + 2))]) (rest := []) C hM tm_785 tm_786 tm_787 tm_3 tm_788 rfl hdX9_run ⟨Nat.le_trans (Nat.le_of_ble_eq_true rfl) hf, Nat.le_trans (Nat.le_of_ble_eq_true rfl) hlo⟩ hl.1 rfl (Nat.le_of_ble_eq_true rfl) dL_law_466 ⟨hce, hsl⟩ hP hD hS (fun H locs hP hD hS => ?_)
      refine lv_istore (lv' := [(7, .int vv), (6, .int 2), (5, .int (nI i)), (0, .ref b), (1, .ref x), (2, .ref (ad 0)), (3, .ref o), (4, .ref oD)]) hx hb dL_law_469 hl (by decide) rfl (fun ls hl => ?_)
      refine lv_aload_n hx hb dL_law_471 rfl (lv_at hl 5 rfl) ?_
      refine lm_V (As := []) (rest := []) C (k_thrown hG P1) tm_754 tm_755 tm_756 tm_3 tm_757 rfl hdX9_thrown ⟨Nat.le_trans (Nat.le_of_ble_eq_true rfl) hf, Nat.le_trans (Nat.le_of_ble_eq_true rfl) hlo⟩ hl.1 rfl (Nat.le_of_ble_eq_true rfl) dL_law_472 ⟨hce, hsl⟩ hP hD hS (fun H locs hP hD hS => ?_)
      refine lv_iload hx hb dL_law_475 (lv_at hl 1 rfl) ?_
      refine lv_icmp_eq (tgt := 482) hx hb dL_law_477 (by decide) (fun _ => ?_) (fun h9 => absurd (e0) h9)
      refine lv_iload hx hb dL_law_482 (lv_at hl 1 rfl) ?_
      refine lv_if_ne (tgt := 499) hx hb dL_law_484 (by decide) (fun _ => ?_) (fun h9 => absurd h9 (by decide))
      refine lv_goto (tgt := 1140) hx hb dL_law_499 (by decide) ?_
      exact kk S P1 f g H locs ls hR hP hD hS (lv_sub hl [2, 3, 4, 5, 6, 7] rfl)
set_option maxRecDepth 100000 in
theorem lw_place (C : cx_C p l s m args meth c s0 D cA cL_law 9 rt9 RL A) (hG : cx_G l s0 D cA) (hX : va_X b L xs s s.heap) (hbl : b < s.heap.size) (hbA : ¬ A b) (hL : L ≤ 3073) (h : Rep K S P x) (hK : K ≤ 511) (hi : i + 6 ≤ L) (hf : 11 ≤ R.frames) (hlo : 340 ≤ R.locals) (hce : cells + 8 ≤ R.cells) (hsl : slots + 512 ≤ R.slots)
    (kk : ∀ (S1 : Mem) (P1 : MS) (f1 : Nat → Int64) (g1 : Nat → UInt64) (H : Heap) (locs : List Loc) (ls : Array Slot), Rep (K + 1) S1 P1 x → va_P D vwCl (Lw cA ad o oD S1 P1 f1 g1) H → va_D A (Lw cA ad o oD S1 P1 f1 g1) → va_S A s.heap H locs → lv_has ls 9 [(5, .int (nI i)), (0, .ref b), (1, .ref x), (2, .ref (ad 0)), (3, .ref o), (4, .ref oD)] → W p l e R s m args below meth c H locs (cells + 8) (slots + 512) Q (F0 m 1140 ls [])) :
    ∀ (H : Heap) (locs : List Loc) (ls : Array Slot), va_P D vwCl (Lw cA ad o oD S P f g) H → va_D A (Lw cA ad o oD S P f g) → va_S A s.heap H locs → lv_has ls 9 [(5, .int (nI i)), (0, .ref b), (1, .ref x), (2, .ref (ad 0)), (3, .ref o), (4, .ref oD)] → W p l e R s m args below meth c H locs cells slots Q (F0 m 502 ls []) := by
  have hx := cx_x C
  have hb := cx_b C
  obtain ⟨hx1, hx2⟩ := Rep_x h
  intro H locs ls hP hD hS hl
  refine lv_aload_n hx hb dL_law_502 rfl (lv_at hl 2 rfl) ?_
  refine lv_aload_n hx hb dL_law_503 rfl (lv_at hl 1 rfl) ?_
  refine lv_iload hx hb dL_law_504 (lv_at hl 0 rfl) ?_
  refine lv_iconst (v := 1) hx hb dL_law_506 (by decide) ?_
  refine lv_iadd hx hb dL_law_507 ?_
  refine sld_k (i := i) (kN := 1) (L := L) (xs := xs) C hX hbl hbA hS (by decide) (by omega) hL dL_law_508 ?_
  refine lv_aload_n hx hb dL_law_509 rfl (lv_at hl 4 rfl) ?_
  rcases st_place (ad := ad) hG h hK (xs (i + 1)) with ⟨vv, P1, hC, hM, e0⟩ | ⟨E9, k9, vv, P1, hcd, hXt, hM, e0, hR⟩
  · refine ll_y (As := [.ref x, .int (xs (i + 1)), .ref o]) (rest := []) C (w_place_y hG (xs (i + 1)) hx1 hx2 hC) tm_537 tm_538 tm_0 tm_539 hdL_place.2 ⟨Nat.le_trans (Nat.le_of_ble_eq_true rfl) hf, Nat.le_trans (Nat.le_of_ble_eq_true rfl) hlo⟩ hl.1 rfl (Nat.le_of_ble_eq_true rfl) dL_law_510 ⟨hce, hsl⟩ hP hD hS (fun S1 f1 H locs hΦ hf0 hP hD hS => ?_)
    refine lv_istore (lv' := [(6, .int 0), (5, .int (nI i)), (0, .ref b), (1, .ref x), (2, .ref (ad 0)), (3, .ref o), (4, .ref oD)]) hx hb dL_law_513 hl (by decide) rfl (fun ls hl => ?_)
    refine lv_aload_n hx hb dL_law_515 rfl (lv_at hl 4 rfl) ?_
    refine lv_aload_n hx hb dL_law_516 rfl (lv_at hl 2 rfl) ?_
    refine lv_iload hx hb dL_law_517 (lv_at hl 1 rfl) ?_
    refine lv_iconst (v := 1) hx hb dL_law_519 (by decide) ?_
    refine lv_iadd hx hb dL_law_520 ?_
    refine sld_k (i := i) (kN := 1) (L := L) (xs := xs) C hX hbl hbA hS (by decide) (by omega) hL dL_law_521 ?_
    refine lm_V (As := [.int (xs (i + 1))]) (rest := []) C hM tm_823 tm_824 tm_825 tm_3 tm_826 rfl hdX9_place ⟨Nat.le_trans (Nat.le_of_ble_eq_true rfl) hf, Nat.le_trans (Nat.le_of_ble_eq_true rfl) hlo⟩ hl.1 rfl (Nat.le_of_ble_eq_true rfl) dL_law_522 ⟨hce, hsl⟩ hP hD hS (fun H locs hP hD hS => ?_)
    refine lv_lstore (lv' := [(7, .long vv), (6, .int 0), (5, .int (nI i)), (0, .ref b), (1, .ref x), (2, .ref (ad 0)), (3, .ref o), (4, .ref oD)]) hx hb dL_law_525 hl (by decide) rfl (fun ls hl => ?_)
    refine lv_aload_n hx hb dL_law_527 rfl (lv_at hl 5 rfl) ?_
    refine lm_V (As := []) (rest := []) C (k_thrown hG P1) tm_754 tm_755 tm_756 tm_3 tm_757 rfl hdX9_thrown ⟨Nat.le_trans (Nat.le_of_ble_eq_true rfl) hf, Nat.le_trans (Nat.le_of_ble_eq_true rfl) hlo⟩ hl.1 rfl (Nat.le_of_ble_eq_true rfl) dL_law_528 ⟨hce, hsl⟩ hP hD hS (fun H locs hP hD hS => ?_)
    refine lv_iload hx hb dL_law_531 (lv_at hl 1 rfl) ?_
    refine lv_icmp_eq (tgt := 538) hx hb dL_law_533 (by decide) (fun _ => ?_) (fun h9 => absurd (e0) h9)
    refine lv_iload hx hb dL_law_538 (lv_at hl 1 rfl) ?_
    refine lv_if_ne (tgt := 554) hx hb dL_law_540 (by decide) (fun h9 => absurd rfl h9) (fun _ => ?_)
    refine lv_aload_n hx hb dL_law_543 rfl (lv_at hl 6 rfl) ?_
    refine lv_iconst (v := 0) hx hb dL_law_544 (by decide) ?_
    refine lald0 (cv := vv) C hP hf0 dL_law_545 ?_
    refine lv_lload hx hb dL_law_546 (lv_at hl 0 rfl) ?_
    refine W.lcmp hx hb dL_law_548 ?_
    refine lv_if_eq (tgt := 554) hx hb dL_law_549 (by decide) (fun _ => ?_) (fun h9 => absurd ((lg_cmp_eq ..).mpr rfl) h9)
    refine lv_goto (tgt := 1140) hx hb dL_law_554 (by decide) ?_
    exact kk S1 P1 f1 g H locs ls hΦ hP hD hS (lv_sub hl [2, 3, 4, 5, 6, 7] rfl)
  · obtain ⟨rfl, rfl⟩ := hcd
    refine ll_x (As := [.ref x, .int (xs (i + 1)), .ref o]) (rest := []) C (w_place_x1 hG (xs (i + 1)) hx1 hx2 hXt) tm_537 tm_538 tm_0 tm_539 hdL_place.2 ⟨Nat.le_trans (Nat.le_of_ble_eq_true rfl) hf, Nat.le_trans (Nat.le_of_ble_eq_true rfl) hlo⟩ hl.1 rfl (Nat.le_of_ble_eq_true rfl) dL_law_510 ⟨hce, hsl⟩ hP hD hS (fun H locs hP hD hS => ?_)
    refine lv_istore (lv' := [(6, .int 1), (5, .int (nI i)), (0, .ref b), (1, .ref x), (2, .ref (ad 0)), (3, .ref o), (4, .ref oD)]) hx hb dL_law_513 hl (by decide) rfl (fun ls hl => ?_)
    refine lv_aload_n hx hb dL_law_515 rfl (lv_at hl 4 rfl) ?_
    refine lv_aload_n hx hb dL_law_516 rfl (lv_at hl 2 rfl) ?_
    refine lv_iload hx hb dL_law_517 (lv_at hl 1 rfl) ?_
    refine lv_iconst (v := 1) hx hb dL_law_519 (by decide) ?_
    refine lv_iadd hx hb dL_law_520 ?_
    refine sld_k (i := i) (kN := 1) (L := L) (xs := xs) C hX hbl hbA hS (by decide) (by omega) hL dL_law_521 ?_
    refine lm_V (As := [.int (xs (i + 1))]) (rest := []) C hM tm_823 tm_824 tm_825 tm_3 tm_826 rfl hdX9_place ⟨Nat.le_trans (Nat.le_of_ble_eq_true rfl) hf, Nat.le_trans (Nat.le_of_ble_eq_true rfl) hlo⟩ hl.1 rfl (Nat.le_of_ble_eq_true rfl) dL_law_522 ⟨hce, hsl⟩ hP hD hS (fun H locs hP hD hS => ?_)
    refine lv_lstore (lv' := [(7, .long vv), (6, .int 1), (5, .int (nI i)), (0, .ref b), (1, .ref x), (2, .ref (ad 0)), (3, .ref o), (4, .ref oD)]) hx hb dL_law_525 hl (by decide) rfl (fun ls hl => ?_)
    refine lv_aload_n hx hb dL_law_527 rfl (lv_at hl 5 rfl) ?_
    refine lm_V (As := []) (rest := []) C (k_thrown hG P1) tm_754 tm_755 tm_756 tm_3 tm_757 rfl hdX9_thrown ⟨Nat.le_trans (Nat.le_of_ble_eq_true rfl) hf, Nat.le_trans (Nat.le_of_ble_eq_true rfl) hlo⟩ hl.1 rfl (Nat.le_of_ble_eq_true rfl) dL_law_528 ⟨hce, hsl⟩ hP hD hS (fun H locs hP hD hS => ?_)
    refine lv_iload hx hb dL_law_531 (lv_at hl 1 rfl) ?_
    refine lv_icmp_eq (tgt := 538) hx hb dL_law_533 (by decide) (fun _ => ?_) (fun h9 => absurd (e0) h9)
    refine lv_iload hx hb dL_law_538 (lv_at hl 1 rfl) ?_
    refine lv_if_ne (tgt := 554) hx hb dL_law_540 (by decide) (fun _ => ?_) (fun h9 => absurd h9 (by decide))
    refine lv_goto (tgt := 1140) hx hb dL_law_554 (by decide) ?_
    exact kk S P1 f g H locs ls hR hP hD hS (lv_sub hl [2, 3, 4, 5, 6, 7] rfl)
set_option maxRecDepth 100000 in
theorem lw_total (C : cx_C p l s m args meth c s0 D cA cL_law 9 rt9 RL A) (hG : cx_G l s0 D cA) (hX : va_X b L xs s s.heap) (hbl : b < s.heap.size) (hbA : ¬ A b) (hL : L ≤ 3073) (h : Rep K S P x) (hK : K ≤ 511) (hi : i + 6 ≤ L) (hf : 11 ≤ R.frames) (hlo : 340 ≤ R.locals) (hce : cells + 8 ≤ R.cells) (hsl : slots + 512 ≤ R.slots)
    (kk : ∀ (S1 : Mem) (P1 : MS) (f1 : Nat → Int64) (g1 : Nat → UInt64) (H : Heap) (locs : List Loc) (ls : Array Slot), Rep (K + 1) S1 P1 x → va_P D vwCl (Lw cA ad o oD S1 P1 f1 g1) H → va_D A (Lw cA ad o oD S1 P1 f1 g1) → va_S A s.heap H locs → lv_has ls 9 [(5, .int (nI i)), (0, .ref b), (1, .ref x), (2, .ref (ad 0)), (3, .ref o), (4, .ref oD)] → W p l e R s m args below meth c H locs (cells + 8) (slots + 512) Q (F0 m 1140 ls [])) :
    ∀ (H : Heap) (locs : List Loc) (ls : Array Slot), va_P D vwCl (Lw cA ad o oD S P f g) H → va_D A (Lw cA ad o oD S P f g) → va_S A s.heap H locs → lv_has ls 9 [(5, .int (nI i)), (0, .ref b), (1, .ref x), (2, .ref (ad 0)), (3, .ref o), (4, .ref oD)] → W p l e R s m args below meth c H locs cells slots Q (F0 m 557 ls []) := by
  have hx := cx_x C
  have hb := cx_b C
  obtain ⟨hx1, hx2⟩ := Rep_x h
  intro H locs ls hP hD hS hl
  refine lv_aload_n hx hb dL_law_557 rfl (lv_at hl 2 rfl) ?_
  refine lv_aload_n hx hb dL_law_558 rfl (lv_at hl 1 rfl) ?_
  refine lv_iload hx hb dL_law_559 (lv_at hl 0 rfl) ?_
  refine lv_iconst (v := 1) hx hb dL_law_561 (by decide) ?_
  refine lv_iadd hx hb dL_law_562 ?_
  refine sld_k (i := i) (kN := 1) (L := L) (xs := xs) C hX hbl hbA hS (by decide) (by omega) hL dL_law_563 ?_
  refine lv_aload_n hx hb dL_law_564 rfl (lv_at hl 4 rfl) ?_
  rcases st_total (ad := ad) hG h hK (xs (i + 1)) with ⟨vv, P1, hC, hM, e0⟩ | ⟨E9, k9, vv, P1, hcd, hXt, hM, e0, hR⟩
  · refine ll_y (As := [.ref x, .int (xs (i + 1)), .ref o]) (rest := []) C (w_total_y hG (xs (i + 1)) hx1 hx2 hC) tm_544 tm_545 tm_0 tm_546 hdL_total.2 ⟨Nat.le_trans (Nat.le_of_ble_eq_true rfl) hf, Nat.le_trans (Nat.le_of_ble_eq_true rfl) hlo⟩ hl.1 rfl (Nat.le_of_ble_eq_true rfl) dL_law_565 ⟨hce, hsl⟩ hP hD hS (fun S1 f1 H locs hΦ hf0 hP hD hS => ?_)
    refine lv_istore (lv' := [(6, .int 0), (5, .int (nI i)), (0, .ref b), (1, .ref x), (2, .ref (ad 0)), (3, .ref o), (4, .ref oD)]) hx hb dL_law_568 hl (by decide) rfl (fun ls hl => ?_)
    refine lv_aload_n hx hb dL_law_570 rfl (lv_at hl 4 rfl) ?_
    refine lv_aload_n hx hb dL_law_571 rfl (lv_at hl 2 rfl) ?_
    refine lv_iload hx hb dL_law_572 (lv_at hl 1 rfl) ?_
    refine lv_iconst (v := 1) hx hb dL_law_574 (by decide) ?_
    refine lv_iadd hx hb dL_law_575 ?_
    refine sld_k (i := i) (kN := 1) (L := L) (xs := xs) C hX hbl hbA hS (by decide) (by omega) hL dL_law_576 ?_
    refine lm_V (As := [.int (xs (i + 1))]) (rest := []) C hM tm_827 tm_828 tm_829 tm_3 tm_830 rfl hdX9_total ⟨Nat.le_trans (Nat.le_of_ble_eq_true rfl) hf, Nat.le_trans (Nat.le_of_ble_eq_true rfl) hlo⟩ hl.1 rfl (Nat.le_of_ble_eq_true rfl) dL_law_577 ⟨hce, hsl⟩ hP hD hS (fun H locs hP hD hS => ?_)
    refine lv_lstore (lv' := [(7, .long vv), (6, .int 0), (5, .int (nI i)), (0, .ref b), (1, .ref x), (2, .ref (ad 0)), (3, .ref o), (4, .ref oD)]) hx hb dL_law_580 hl (by decide) rfl (fun ls hl => ?_)
    refine lv_aload_n hx hb dL_law_582 rfl (lv_at hl 5 rfl) ?_
    refine lm_V (As := []) (rest := []) C (k_thrown hG P1) tm_754 tm_755 tm_756 tm_3 tm_757 rfl hdX9_thrown ⟨Nat.le_trans (Nat.le_of_ble_eq_true rfl) hf, Nat.le_trans (Nat.le_of_ble_eq_true rfl) hlo⟩ hl.1 rfl (Nat.le_of_ble_eq_true rfl) dL_law_583 ⟨hce, hsl⟩ hP hD hS (fun H locs hP hD hS => ?_)
    refine lv_iload hx hb dL_law_586 (lv_at hl 1 rfl) ?_
    refine lv_icmp_eq (tgt := 593) hx hb dL_law_588 (by decide) (fun _ => ?_) (fun h9 => absurd (e0) h9)
    refine lv_iload hx hb dL_law_593 (lv_at hl 1 rfl) ?_
    refine lv_if_ne (tgt := 609) hx hb dL_law_595 (by decide) (fun h9 => absurd rfl h9) (fun _ => ?_)
    refine lv_aload_n hx hb dL_law_598 rfl (lv_at hl 6 rfl) ?_
    refine lv_iconst (v := 0) hx hb dL_law_599 (by decide) ?_
    refine lald0 (cv := vv) C hP hf0 dL_law_600 ?_
    refine lv_lload hx hb dL_law_601 (lv_at hl 0 rfl) ?_
    refine W.lcmp hx hb dL_law_603 ?_
    refine lv_if_eq (tgt := 609) hx hb dL_law_604 (by decide) (fun _ => ?_) (fun h9 => absurd ((lg_cmp_eq ..).mpr rfl) h9)
    refine lv_goto (tgt := 1140) hx hb dL_law_609 (by decide) ?_
    exact kk S1 P1 f1 g H locs ls hΦ hP hD hS (lv_sub hl [2, 3, 4, 5, 6, 7] rfl)
  · obtain ⟨rfl, rfl⟩ := hcd
    refine ll_x (As := [.ref x, .int (xs (i + 1)), .ref o]) (rest := []) C (w_total_x1 hG (xs (i + 1)) hx1 hx2 hXt) tm_544 tm_545 tm_0 tm_546 hdL_total.2 ⟨Nat.le_trans (Nat.le_of_ble_eq_true rfl) hf, Nat.le_trans (Nat.le_of_ble_eq_true rfl) hlo⟩ hl.1 rfl (Nat.le_of_ble_eq_true rfl) dL_law_565 ⟨hce, hsl⟩ hP hD hS (fun H locs hP hD hS => ?_)
    refine lv_istore (lv' := [(6, .int 1), (5, .int (nI i)), (0, .ref b), (1, .ref x), (2, .ref (ad 0)), (3, .ref o), (4, .ref oD)]) hx hb dL_law_568 hl (by decide) rfl (fun ls hl => ?_)
    refine lv_aload_n hx hb dL_law_570 rfl (lv_at hl 4 rfl) ?_
    refine lv_aload_n hx hb dL_law_571 rfl (lv_at hl 2 rfl) ?_
    refine lv_iload hx hb dL_law_572 (lv_at hl 1 rfl) ?_
    refine lv_iconst (v := 1) hx hb dL_law_574 (by decide) ?_
    refine lv_iadd hx hb dL_law_575 ?_
    refine sld_k (i := i) (kN := 1) (L := L) (xs := xs) C hX hbl hbA hS (by decide) (by omega) hL dL_law_576 ?_
    refine lm_V (As := [.int (xs (i + 1))]) (rest := []) C hM tm_827 tm_828 tm_829 tm_3 tm_830 rfl hdX9_total ⟨Nat.le_trans (Nat.le_of_ble_eq_true rfl) hf, Nat.le_trans (Nat.le_of_ble_eq_true rfl) hlo⟩ hl.1 rfl (Nat.le_of_ble_eq_true rfl) dL_law_577 ⟨hce, hsl⟩ hP hD hS (fun H locs hP hD hS => ?_)
    refine lv_lstore (lv' := [(7, .long vv), (6, .int 1), (5, .int (nI i)), (0, .ref b), (1, .ref x), (2, .ref (ad 0)), (3, .ref o), (4, .ref oD)]) hx hb dL_law_580 hl (by decide) rfl (fun ls hl => ?_)
    refine lv_aload_n hx hb dL_law_582 rfl (lv_at hl 5 rfl) ?_
    refine lm_V (As := []) (rest := []) C (k_thrown hG P1) tm_754 tm_755 tm_756 tm_3 tm_757 rfl hdX9_thrown ⟨Nat.le_trans (Nat.le_of_ble_eq_true rfl) hf, Nat.le_trans (Nat.le_of_ble_eq_true rfl) hlo⟩ hl.1 rfl (Nat.le_of_ble_eq_true rfl) dL_law_583 ⟨hce, hsl⟩ hP hD hS (fun H locs hP hD hS => ?_)
    refine lv_iload hx hb dL_law_586 (lv_at hl 1 rfl) ?_
    refine lv_icmp_eq (tgt := 593) hx hb dL_law_588 (by decide) (fun _ => ?_) (fun h9 => absurd (e0) h9)
    refine lv_iload hx hb dL_law_593 (lv_at hl 1 rfl) ?_
    refine lv_if_ne (tgt := 609) hx hb dL_law_595 (by decide) (fun _ => ?_) (fun h9 => absurd h9 (by decide))
    refine lv_goto (tgt := 1140) hx hb dL_law_609 (by decide) ?_
    exact kk S P1 f g H locs ls hR hP hD hS (lv_sub hl [2, 3, 4, 5, 6, 7] rfl)
set_option maxRecDepth 100000 in
theorem lw_level (C : cx_C p l s m args meth c s0 D cA cL_law 9 rt9 RL A) (hG : cx_G l s0 D cA) (hX : va_X b L xs s s.heap) (hbl : b < s.heap.size) (hbA : ¬ A b) (hL : L ≤ 3073) (h : Rep K S P x) (hK : K ≤ 511) (hi : i + 6 ≤ L) (hf : 11 ≤ R.frames) (hlo : 340 ≤ R.locals) (hce : cells + 8 ≤ R.cells) (hsl : slots + 512 ≤ R.slots)
    (kk : ∀ (S1 : Mem) (P1 : MS) (f1 : Nat → Int64) (g1 : Nat → UInt64) (H : Heap) (locs : List Loc) (ls : Array Slot), Rep (K + 1) S1 P1 x → va_P D vwCl (Lw cA ad o oD S1 P1 f1 g1) H → va_D A (Lw cA ad o oD S1 P1 f1 g1) → va_S A s.heap H locs → lv_has ls 9 [(5, .int (nI i)), (0, .ref b), (1, .ref x), (2, .ref (ad 0)), (3, .ref o), (4, .ref oD)] → W p l e R s m args below meth c H locs (cells + 8) (slots + 512) Q (F0 m 1140 ls [])) :
    ∀ (H : Heap) (locs : List Loc) (ls : Array Slot), va_P D vwCl (Lw cA ad o oD S P f g) H → va_D A (Lw cA ad o oD S P f g) → va_S A s.heap H locs → lv_has ls 9 [(5, .int (nI i)), (0, .ref b), (1, .ref x), (2, .ref (ad 0)), (3, .ref o), (4, .ref oD)] → W p l e R s m args below meth c H locs cells slots Q (F0 m 612 ls []) := by
  have hx := cx_x C
  have hb := cx_b C
  obtain ⟨hx1, hx2⟩ := Rep_x h
  intro H locs ls hP hD hS hl
  refine lv_aload_n hx hb dL_law_612 rfl (lv_at hl 2 rfl) ?_
  refine lv_aload_n hx hb dL_law_613 rfl (lv_at hl 1 rfl) ?_
  refine lv_iload hx hb dL_law_614 (lv_at hl 0 rfl) ?_
  refine lv_iconst (v := 1) hx hb dL_law_616 (by decide) ?_
  refine lv_iadd hx hb dL_law_617 ?_
  refine sld_k (i := i) (kN := 1) (L := L) (xs := xs) C hX hbl hbA hS (by decide) (by omega) hL dL_law_618 ?_
  refine lv_aload hx hb dL_law_619 (lv_at hl 5 rfl) ?_
  rcases st_level (ad := ad) hG h hK (xs (i + 1)) with ⟨⟨vv, hv⟩, P1, hC, hM, e0⟩ | ⟨E9, k9, ⟨vv, hv⟩, P1, hcd, hXt, hM, e0, hR⟩
  · refine ld_y (As := [.ref x, .int (xs (i + 1)), .ref oD]) (rest := []) C (w_level_y hG (xs (i + 1)) hx1 hx2 hC hv) tm_563 tm_564 tm_0 tm_565 hdL_level.2 ⟨Nat.le_trans (Nat.le_of_ble_eq_true rfl) hf, Nat.le_trans (Nat.le_of_ble_eq_true rfl) hlo⟩ hl.1 rfl (Nat.le_of_ble_eq_true rfl) dL_law_621 ⟨hce, hsl⟩ hP hD hS (fun S1 f1 H locs hΦ hf0 hP hD hS => ?_)
    refine lv_istore (lv' := [(6, .int 0), (5, .int (nI i)), (0, .ref b), (1, .ref x), (2, .ref (ad 0)), (3, .ref o), (4, .ref oD)]) hx hb dL_law_624 hl (by decide) rfl (fun ls hl => ?_)
    refine lv_aload_n hx hb dL_law_626 rfl (lv_at hl 4 rfl) ?_
    refine lv_aload_n hx hb dL_law_627 rfl (lv_at hl 2 rfl) ?_
    refine lv_iload hx hb dL_law_628 (lv_at hl 1 rfl) ?_
    refine lv_iconst (v := 1) hx hb dL_law_630 (by decide) ?_
    refine lv_iadd hx hb dL_law_631 ?_
    refine sld_k (i := i) (kN := 1) (L := L) (xs := xs) C hX hbl hbA hS (by decide) (by omega) hL dL_law_632 ?_
    refine lm_V (As := [.int (xs (i + 1))]) (rest := []) C hM tm_831 tm_832 tm_833 tm_3 tm_834 rfl hdX9_level ⟨Nat.le_trans (Nat.le_of_ble_eq_true rfl) hf, Nat.le_trans (Nat.le_of_ble_eq_true rfl) hlo⟩ hl.1 rfl (Nat.le_of_ble_eq_true rfl) dL_law_633 ⟨hce, hsl⟩ hP hD hS (fun H locs hP hD hS => ?_)
    refine lv_fstore (lv' := [(7, .float vv), (6, .int 0), (5, .int (nI i)), (0, .ref b), (1, .ref x), (2, .ref (ad 0)), (3, .ref o), (4, .ref oD)]) hx hb dL_law_636 hl (by decide) rfl (fun ls hl => ?_)
    refine lv_aload_n hx hb dL_law_638 rfl (lv_at hl 5 rfl) ?_
    refine lm_V (As := []) (rest := []) C (k_thrown hG P1) tm_754 tm_755 tm_756 tm_3 tm_757 rfl hdX9_thrown ⟨Nat.le_trans (Nat.le_of_ble_eq_true rfl) hf, Nat.le_trans (Nat.le_of_ble_eq_true rfl) hlo⟩ hl.1 rfl (Nat.le_of_ble_eq_true rfl) dL_law_639 ⟨hce, hsl⟩ hP hD hS (fun H locs hP hD hS => ?_)
    refine lv_iload hx hb dL_law_642 (lv_at hl 1 rfl) ?_
    refine lv_icmp_eq (tgt := 649) hx hb dL_law_644 (by decide) (fun _ => ?_) (fun h9 => absurd (e0) h9)
    refine lv_iload hx hb dL_law_649 (lv_at hl 1 rfl) ?_
    refine lv_if_ne (tgt := 687) hx hb dL_law_651 (by decide) (fun h9 => absurd rfl h9) (fun _ => ?_)
    refine lv_aload hx hb dL_law_654 (lv_at hl 7 rfl) ?_
    refine lv_iconst (v := 0) hx hb dL_law_656 (by decide) ?_
    refine dald0 (cv := FP.f2d vv) C hP hf0 dL_law_657 ?_
    refine lv_fload hx hb dL_law_658 (lv_at hl 0 rfl) ?_
    refine lv_f2d hx hb dL_law_660 (fl_n64 (f2d_D hv)) ?_
    refine lv_dcmp hx hb dL_law_661 ?_
    refine lv_if_eq (tgt := 687) hx hb dL_law_662 (by decide) (fun _ => ?_) (fun h9 => absurd (dself (f2d_D hv)) h9)
    refine lv_goto (tgt := 1140) hx hb dL_law_687 (by decide) ?_
    exact kk S1 P1 f f1 H locs ls hΦ hP hD hS (lv_sub hl [2, 3, 4, 5, 6, 7] rfl)
  · obtain ⟨rfl, rfl⟩ := hcd
    refine ld_x (As := [.ref x, .int (xs (i + 1)), .ref oD]) (rest := []) C (w_level_x1 hG (xs (i + 1)) hx1 hx2 hXt) tm_563 tm_564 tm_0 tm_565 hdL_level.2 ⟨Nat.le_trans (Nat.le_of_ble_eq_true rfl) hf, Nat.le_trans (Nat.le_of_ble_eq_true rfl) hlo⟩ hl.1 rfl (Nat.le_of_ble_eq_true rfl) dL_law_621 ⟨hce, hsl⟩ hP hD hS (fun H locs hP hD hS => ?_)
    refine lv_istore (lv' := [(6, .int 1), (5, .int (nI i)), (0, .ref b), (1, .ref x), (2, .ref (ad 0)), (3, .ref o), (4, .ref oD)]) hx hb dL_law_624 hl (by decide) rfl (fun ls hl => ?_)
    refine lv_aload_n hx hb dL_law_626 rfl (lv_at hl 4 rfl) ?_
    refine lv_aload_n hx hb dL_law_627 rfl (lv_at hl 2 rfl) ?_
    refine lv_iload hx hb dL_law_628 (lv_at hl 1 rfl) ?_
    refine lv_iconst (v := 1) hx hb dL_law_630 (by decide) ?_
    refine lv_iadd hx hb dL_law_631 ?_
    refine sld_k (i := i) (kN := 1) (L := L) (xs := xs) C hX hbl hbA hS (by decide) (by omega) hL dL_law_632 ?_
    refine lm_V (As := [.int (xs (i + 1))]) (rest := []) C hM tm_831 tm_832 tm_833 tm_3 tm_834 rfl hdX9_level ⟨Nat.le_trans (Nat.le_of_ble_eq_true rfl) hf, Nat.le_trans (Nat.le_of_ble_eq_true rfl) hlo⟩ hl.1 rfl (Nat.le_of_ble_eq_true rfl) dL_law_633 ⟨hce, hsl⟩ hP hD hS (fun H locs hP hD hS => ?_)
    refine lv_fstore (lv' := [(7, .float vv), (6, .int 1), (5, .int (nI i)), (0, .ref b), (1, .ref x), (2, .ref (ad 0)), (3, .ref o), (4, .ref oD)]) hx hb dL_law_636 hl (by decide) rfl (fun ls hl => ?_)
    refine lv_aload_n hx hb dL_law_638 rfl (lv_at hl 5 rfl) ?_
    refine lm_V (As := []) (rest := []) C (k_thrown hG P1) tm_754 tm_755 tm_756 tm_3 tm_757 rfl hdX9_thrown ⟨Nat.le_trans (Nat.le_of_ble_eq_true rfl) hf, Nat.le_trans (Nat.le_of_ble_eq_true rfl) hlo⟩ hl.1 rfl (Nat.le_of_ble_eq_true rfl) dL_law_639 ⟨hce, hsl⟩ hP hD hS (fun H locs hP hD hS => ?_)
    refine lv_iload hx hb dL_law_642 (lv_at hl 1 rfl) ?_
    refine lv_icmp_eq (tgt := 649) hx hb dL_law_644 (by decide) (fun _ => ?_) (fun h9 => absurd (e0) h9)
    refine lv_iload hx hb dL_law_649 (lv_at hl 1 rfl) ?_
    refine lv_if_ne (tgt := 687) hx hb dL_law_651 (by decide) (fun _ => ?_) (fun h9 => absurd h9 (by decide))
    refine lv_goto (tgt := 1140) hx hb dL_law_687 (by decide) ?_
    exact kk S P1 f g H locs ls hR hP hD hS (lv_sub hl [2, 3, 4, 5, 6, 7] rfl)
set_option maxRecDepth 100000 in
theorem lw_mean (C : cx_C p l s m args meth c s0 D cA cL_law 9 rt9 RL A) (hG : cx_G l s0 D cA) (hX : va_X b L xs s s.heap) (hbl : b < s.heap.size) (hbA : ¬ A b) (hL : L ≤ 3073) (h : Rep K S P x) (hK : K ≤ 511) (hi : i + 6 ≤ L) (hf : 11 ≤ R.frames) (hlo : 340 ≤ R.locals) (hce : cells + 8 ≤ R.cells) (hsl : slots + 512 ≤ R.slots)
    (kk : ∀ (S1 : Mem) (P1 : MS) (f1 : Nat → Int64) (g1 : Nat → UInt64) (H : Heap) (locs : List Loc) (ls : Array Slot), Rep (K + 1) S1 P1 x → va_P D vwCl (Lw cA ad o oD S1 P1 f1 g1) H → va_D A (Lw cA ad o oD S1 P1 f1 g1) → va_S A s.heap H locs → lv_has ls 9 [(5, .int (nI i)), (0, .ref b), (1, .ref x), (2, .ref (ad 0)), (3, .ref o), (4, .ref oD)] → W p l e R s m args below meth c H locs (cells + 8) (slots + 512) Q (F0 m 1140 ls [])) :
    ∀ (H : Heap) (locs : List Loc) (ls : Array Slot), va_P D vwCl (Lw cA ad o oD S P f g) H → va_D A (Lw cA ad o oD S P f g) → va_S A s.heap H locs → lv_has ls 9 [(5, .int (nI i)), (0, .ref b), (1, .ref x), (2, .ref (ad 0)), (3, .ref o), (4, .ref oD)] → W p l e R s m args below meth c H locs cells slots Q (F0 m 690 ls []) := by
  have hx := cx_x C
  have hb := cx_b C
  obtain ⟨hx1, hx2⟩ := Rep_x h
  intro H locs ls hP hD hS hl
  refine lv_aload_n hx hb dL_law_690 rfl (lv_at hl 2 rfl) ?_
  refine lv_aload_n hx hb dL_law_691 rfl (lv_at hl 1 rfl) ?_
  refine lv_iload hx hb dL_law_692 (lv_at hl 0 rfl) ?_
  refine lv_iconst (v := 1) hx hb dL_law_694 (by decide) ?_
  refine lv_iadd hx hb dL_law_695 ?_
  refine sld_k (i := i) (kN := 1) (L := L) (xs := xs) C hX hbl hbA hS (by decide) (by omega) hL dL_law_696 ?_
  refine lv_aload hx hb dL_law_697 (lv_at hl 5 rfl) ?_
  rcases st_mean (ad := ad) hG h hK (xs (i + 1)) with ⟨⟨vv, hv⟩, P1, hC, hM, e0⟩ | ⟨E9, k9, ⟨vv, hv⟩, P1, hcd, hXt, hM, e0, hR⟩
  · refine ld_y (As := [.ref x, .int (xs (i + 1)), .ref oD]) (rest := []) C (w_mean_y hG (xs (i + 1)) hx1 hx2 hC) tm_571 tm_572 tm_0 tm_573 hdL_mean.2 ⟨Nat.le_trans (Nat.le_of_ble_eq_true rfl) hf, Nat.le_trans (Nat.le_of_ble_eq_true rfl) hlo⟩ hl.1 rfl (Nat.le_of_ble_eq_true rfl) dL_law_699 ⟨hce, hsl⟩ hP hD hS (fun S1 f1 H locs hΦ hf0 hP hD hS => ?_)
    refine lv_istore (lv' := [(6, .int 0), (5, .int (nI i)), (0, .ref b), (1, .ref x), (2, .ref (ad 0)), (3, .ref o), (4, .ref oD)]) hx hb dL_law_702 hl (by decide) rfl (fun ls hl => ?_)
    refine lv_aload_n hx hb dL_law_704 rfl (lv_at hl 4 rfl) ?_
    refine lv_aload_n hx hb dL_law_705 rfl (lv_at hl 2 rfl) ?_
    refine lv_iload hx hb dL_law_706 (lv_at hl 1 rfl) ?_
    refine lv_iconst (v := 1) hx hb dL_law_708 (by decide) ?_
    refine lv_iadd hx hb dL_law_709 ?_
    refine sld_k (i := i) (kN := 1) (L := L) (xs := xs) C hX hbl hbA hS (by decide) (by omega) hL dL_law_710 ?_
    refine lm_V (As := [.int (xs (i + 1))]) (rest := []) C hM tm_835 tm_836 tm_837 tm_3 tm_838 rfl hdX9_mean ⟨Nat.le_trans (Nat.le_of_ble_eq_true rfl) hf, Nat.le_trans (Nat.le_of_ble_eq_true rfl) hlo⟩ hl.1 rfl (Nat.le_of_ble_eq_true rfl) dL_law_711 ⟨hce, hsl⟩ hP hD hS (fun H locs hP hD hS => ?_)
    refine lv_dstore (lv' := [(7, .double vv), (6, .int 0), (5, .int (nI i)), (0, .ref b), (1, .ref x), (2, .ref (ad 0)), (3, .ref o), (4, .ref oD)]) hx hb dL_law_714 hl (by decide) rfl (fun ls hl => ?_)
    refine lv_aload_n hx hb dL_law_716 rfl (lv_at hl 5 rfl) ?_
    refine lm_V (As := []) (rest := []) C (k_thrown hG P1) tm_754 tm_755 tm_756 tm_3 tm_757 rfl hdX9_thrown ⟨Nat.le_trans (Nat.le_of_ble_eq_true rfl) hf, Nat.le_trans (Nat.le_of_ble_eq_true rfl) hlo⟩ hl.1 rfl (Nat.le_of_ble_eq_true rfl) dL_law_717 ⟨hce, hsl⟩ hP hD hS (fun H locs hP hD hS => ?_)
    refine lv_iload hx hb dL_law_720 (lv_at hl 1 rfl) ?_
    refine lv_icmp_eq (tgt := 727) hx hb dL_law_722 (by decide) (fun _ => ?_) (fun h9 => absurd (e0) h9)
    refine lv_iload hx hb dL_law_727 (lv_at hl 1 rfl) ?_
    refine lv_if_ne (tgt := 764) hx hb dL_law_729 (by decide) (fun h9 => absurd rfl h9) (fun _ => ?_)
    refine lv_aload hx hb dL_law_732 (lv_at hl 7 rfl) ?_
    refine lv_iconst (v := 0) hx hb dL_law_734 (by decide) ?_
    refine dald0 (cv := vv) C hP hf0 dL_law_735 ?_
    refine lv_dload hx hb dL_law_736 (lv_at hl 0 rfl) ?_
    refine lv_dcmp hx hb dL_law_738 ?_
    refine lv_if_eq (tgt := 764) hx hb dL_law_739 (by decide) (fun _ => ?_) (fun h9 => absurd (dself hv.1) h9)
    refine lv_goto (tgt := 1140) hx hb dL_law_764 (by decide) ?_
    exact kk S1 P1 f f1 H locs ls hΦ hP hD hS (lv_sub hl [2, 3, 4, 5, 6, 7] rfl)
  · obtain ⟨rfl, rfl⟩ := hcd
    refine ld_x (As := [.ref x, .int (xs (i + 1)), .ref oD]) (rest := []) C (w_mean_x1 hG (xs (i + 1)) hx1 hx2 hXt) tm_571 tm_572 tm_0 tm_573 hdL_mean.2 ⟨Nat.le_trans (Nat.le_of_ble_eq_true rfl) hf, Nat.le_trans (Nat.le_of_ble_eq_true rfl) hlo⟩ hl.1 rfl (Nat.le_of_ble_eq_true rfl) dL_law_699 ⟨hce, hsl⟩ hP hD hS (fun H locs hP hD hS => ?_)
    refine lv_istore (lv' := [(6, .int 1), (5, .int (nI i)), (0, .ref b), (1, .ref x), (2, .ref (ad 0)), (3, .ref o), (4, .ref oD)]) hx hb dL_law_702 hl (by decide) rfl (fun ls hl => ?_)
    refine lv_aload_n hx hb dL_law_704 rfl (lv_at hl 4 rfl) ?_
    refine lv_aload_n hx hb dL_law_705 rfl (lv_at hl 2 rfl) ?_
    refine lv_iload hx hb dL_law_706 (lv_at hl 1 rfl) ?_
    refine lv_iconst (v := 1) hx hb dL_law_708 (by decide) ?_
    refine lv_iadd hx hb dL_law_709 ?_
    refine sld_k (i := i) (kN := 1) (L := L) (xs := xs) C hX hbl hbA hS (by decide) (by omega) hL dL_law_710 ?_
    refine lm_V (As := [.int (xs (i + 1))]) (rest := []) C hM tm_835 tm_836 tm_837 tm_3 tm_838 rfl hdX9_mean ⟨Nat.le_trans (Nat.le_of_ble_eq_true rfl) hf, Nat.le_trans (Nat.le_of_ble_eq_true rfl) hlo⟩ hl.1 rfl (Nat.le_of_ble_eq_true rfl) dL_law_711 ⟨hce, hsl⟩ hP hD hS (fun H locs hP hD hS => ?_)
    refine lv_dstore (lv' := [(7, .double vv), (6, .int 1), (5, .int (nI i)), (0, .ref b), (1, .ref x), (2, .ref (ad 0)), (3, .ref o), (4, .ref oD)]) hx hb dL_law_714 hl (by decide) rfl (fun ls hl => ?_)
    refine lv_aload_n hx hb dL_law_716 rfl (lv_at hl 5 rfl) ?_
    refine lm_V (As := []) (rest := []) C (k_thrown hG P1) tm_754 tm_755 tm_756 tm_3 tm_757 rfl hdX9_thrown ⟨Nat.le_trans (Nat.le_of_ble_eq_true rfl) hf, Nat.le_trans (Nat.le_of_ble_eq_true rfl) hlo⟩ hl.1 rfl (Nat.le_of_ble_eq_true rfl) dL_law_717 ⟨hce, hsl⟩ hP hD hS (fun H locs hP hD hS => ?_)
    refine lv_iload hx hb dL_law_720 (lv_at hl 1 rfl) ?_
    refine lv_icmp_eq (tgt := 727) hx hb dL_law_722 (by decide) (fun _ => ?_) (fun h9 => absurd (e0) h9)
    refine lv_iload hx hb dL_law_727 (lv_at hl 1 rfl) ?_
    refine lv_if_ne (tgt := 764) hx hb dL_law_729 (by decide) (fun _ => ?_) (fun h9 => absurd h9 (by decide))
    refine lv_goto (tgt := 1140) hx hb dL_law_764 (by decide) ?_
    exact kk S P1 f g H locs ls hR hP hD hS (lv_sub hl [2, 3, 4, 5, 6, 7] rfl)
set_option maxRecDepth 100000 in
theorem lw_octet (C : cx_C p l s m args meth c s0 D cA cL_law 9 rt9 RL A) (hG : cx_G l s0 D cA) (hX : va_X b L xs s s.heap) (hbl : b < s.heap.size) (hbA : ¬ A b) (hL : L ≤ 3073) (h : Rep K S P x) (hK : K ≤ 511) (hi : i + 6 ≤ L) (hf : 11 ≤ R.frames) (hlo : 340 ≤ R.locals) (hce : cells + 8 ≤ R.cells) (hsl : slots + 512 ≤ R.slots)
    (kk : ∀ (S1 : Mem) (P1 : MS) (f1 : Nat → Int64) (g1 : Nat → UInt64) (H : Heap) (locs : List Loc) (ls : Array Slot), Rep (K + 1) S1 P1 x → va_P D vwCl (Lw cA ad o oD S1 P1 f1 g1) H → va_D A (Lw cA ad o oD S1 P1 f1 g1) → va_S A s.heap H locs → lv_has ls 9 [(5, .int (nI i)), (0, .ref b), (1, .ref x), (2, .ref (ad 0)), (3, .ref o), (4, .ref oD)] → W p l e R s m args below meth c H locs (cells + 8) (slots + 512) Q (F0 m 1140 ls [])) :
    ∀ (H : Heap) (locs : List Loc) (ls : Array Slot), va_P D vwCl (Lw cA ad o oD S P f g) H → va_D A (Lw cA ad o oD S P f g) → va_S A s.heap H locs → lv_has ls 9 [(5, .int (nI i)), (0, .ref b), (1, .ref x), (2, .ref (ad 0)), (3, .ref o), (4, .ref oD)] → W p l e R s m args below meth c H locs cells slots Q (F0 m 767 ls []) := by
  have hx := cx_x C
  have hb := cx_b C
  obtain ⟨hx1, hx2⟩ := Rep_x h
  intro H locs ls hP hD hS hl
  refine lv_aload_n hx hb dL_law_767 rfl (lv_at hl 2 rfl) ?_
  refine lv_aload_n hx hb dL_law_768 rfl (lv_at hl 1 rfl) ?_
  refine lv_iload hx hb dL_law_769 (lv_at hl 0 rfl) ?_
  refine lv_iconst (v := 1) hx hb dL_law_771 (by decide) ?_
  refine lv_iadd hx hb dL_law_772 ?_
  refine sld_k (i := i) (kN := 1) (L := L) (xs := xs) C hX hbl hbA hS (by decide) (by omega) hL dL_law_773 ?_
  refine lv_aload_n hx hb dL_law_774 rfl (lv_at hl 1 rfl) ?_
  refine lv_iload hx hb dL_law_775 (lv_at hl 0 rfl) ?_
  refine lv_iconst (v := 2) hx hb dL_law_777 (by decide) ?_
  refine lv_iadd hx hb dL_law_778 ?_
  refine sld_k (i := i) (kN := 2) (L := L) (xs := xs) C hX hbl hbA hS (by decide) (by omega) hL dL_law_779 ?_
  refine lv_aload_n hx hb dL_law_780 rfl (lv_at hl 4 rfl) ?_
  rcases st_octet (ad := ad) hG h hK (xs (i + 1)) (xs (i + 2)) with ⟨vv, P1, hC, hM, e0⟩ | ⟨E9, k9, vv, P1, hcd, hXt, hM, e0, hR⟩
  · refine ll_y (As := [.ref x, .int (xs (i + 1)), .int (xs (i + 2)), .ref o]) (rest := []) C (w_octet_y hG (xs (i + 1)) (xs (i + 2)) hx1 hx2 hC) tm_579 tm_580 tm_0 tm_581 hdL_octet.2 ⟨Nat.le_trans (Nat.le_of_ble_eq_true rfl) hf, Nat.le_trans (Nat.le_of_ble_eq_true rfl) hlo⟩ hl.1 rfl (Nat.le_of_ble_eq_true rfl) dL_law_781 ⟨hce, hsl⟩ hP hD hS (fun S1 f1 H locs hΦ hf0 hP hD hS => ?_)
    refine lv_istore (lv' := [(6, .int 0), (5, .int (nI i)), (0, .ref b), (1, .ref x), (2, .ref (ad 0)), (3, .ref o), (4, .ref oD)]) hx hb dL_law_784 hl (by decide) rfl (fun ls hl => ?_)
    refine lv_aload_n hx hb dL_law_786 rfl (lv_at hl 4 rfl) ?_
    refine lv_aload_n hx hb dL_law_787 rfl (lv_at hl 2 rfl) ?_
    refine lv_iload hx hb dL_law_788 (lv_at hl 1 rfl) ?_
    refine lv_iconst (v := 1) hx hb dL_law_790 (by decide) ?_
    refine lv_iadd hx hb dL_law_791 ?_
    refine sld_k (i := i) (kN := 1) (L := L) (xs := xs) C hX hbl hbA hS (by decide) (by omega) hL dL_law_792 ?_
    refine lv_aload_n hx hb dL_law_793 rfl (lv_at hl 2 rfl) ?_
    refine lv_iload hx hb dL_law_794 (lv_at hl 1 rfl) ?_
    refine lv_iconst (v := 2) hx hb dL_law_796 (by decide) ?_
    refine lv_iadd hx hb dL_law_797 ?_
    refine sld_k (i := i) (kN := 2) (L := L) (xs := xs) C hX hbl hbA hS (by decide) (by omega) hL dL_law_798 ?_
    refine lm_V (As := [.int (xs (i + 1)), .int (xs (i + 2))]) (rest := []) C hM tm_839 tm_840 tm_841 tm_3 tm_842 rfl hdX9_octet ⟨Nat.le_trans (Nat.le_of_ble_eq_true rfl) hf, Nat.le_trans (Nat.le_of_ble_eq_true rfl) hlo⟩ hl.1 rfl (Nat.le_of_ble_eq_true rfl) dL_law_799 ⟨hce, hsl⟩ hP hD hS (fun H locs hP hD hS => ?_)
    refine lv_istore (lv' := [(7, .int vv), (6, .int 0), (5, .int (nI i)), (0, .ref b), (1, .ref x), (2, .ref (ad 0)), (3, .ref o), (4, .ref oD)]) hx hb dL_law_802 hl (by decide) rfl (fun ls hl => ?_)
    refine lv_aload_n hx hb dL_law_804 rfl (lv_at hl 5 rfl) ?_
    refine lm_V (As := []) (rest := []) C (k_thrown hG P1) tm_754 tm_755 tm_756 tm_3 tm_757 rfl hdX9_thrown ⟨Nat.le_trans (Nat.le_of_ble_eq_true rfl) hf, Nat.le_trans (Nat.le_of_ble_eq_true rfl) hlo⟩ hl.1 rfl (Nat.le_of_ble_eq_true rfl) dL_law_805 ⟨hce, hsl⟩ hP hD hS (fun H locs hP hD hS => ?_)
    refine lv_iload hx hb dL_law_808 (lv_at hl 1 rfl) ?_
    refine lv_icmp_eq (tgt := 815) hx hb dL_law_810 (by decide) (fun _ => ?_) (fun h9 => absurd (e0) h9)
    refine lv_iload hx hb dL_law_815 (lv_at hl 1 rfl) ?_
    refine lv_if_ne (tgt := 832) hx hb dL_law_817 (by decide) (fun h9 => absurd rfl h9) (fun _ => ?_)
    refine lv_aload_n hx hb dL_law_820 rfl (lv_at hl 6 rfl) ?_
    refine lv_iconst (v := 0) hx hb dL_law_821 (by decide) ?_
    refine lald0 (cv := vv.toInt64) C hP hf0 dL_law_822 ?_
    refine lv_iload hx hb dL_law_823 (lv_at hl 0 rfl) ?_
    refine lv_i2l (v := vv.toInt64) hx hb dL_law_825 rfl ?_
    refine W.lcmp hx hb dL_law_826 ?_
    refine lv_if_eq (tgt := 832) hx hb dL_law_827 (by decide) (fun _ => ?_) (fun h9 => absurd ((lg_cmp_eq ..).mpr rfl) h9)
    refine lv_goto (tgt := 1140) hx hb dL_law_832 (by decide) ?_
    exact kk S1 P1 f1 g H locs ls hΦ hP hD hS (lv_sub hl [2, 3, 4, 5, 6, 7] rfl)
  · rcases hcd with ⟨rfl, rfl⟩ | ⟨rfl, rfl⟩
    · refine ll_x (As := [.ref x, .int (xs (i + 1)), .int (xs (i + 2)), .ref o]) (rest := []) C (w_octet_x1 hG (xs (i + 1)) (xs (i + 2)) hx1 hx2 hXt) tm_579 tm_580 tm_0 tm_581 hdL_octet.2 ⟨Nat.le_trans (Nat.le_of_ble_eq_true rfl) hf, Nat.le_trans (Nat.le_of_ble_eq_true rfl) hlo⟩ hl.1 rfl (Nat.le_of_ble_eq_true rfl) dL_law_781 ⟨hce, hsl⟩ hP hD hS (fun H locs hP hD hS => ?_)
      refine lv_istore (lv' := [(6, .int 1), (5, .int (nI i)), (0, .ref b), (1, .ref x), (2, .ref (ad 0)), (3, .ref o), (4, .ref oD)]) hx hb dL_law_784 hl (by decide) rfl (fun ls hl => ?_)
      refine lv_aload_n hx hb dL_law_786 rfl (lv_at hl 4 rfl) ?_
      refine lv_aload_n hx hb dL_law_787 rfl (lv_at hl 2 rfl) ?_
      refine lv_iload hx hb dL_law_788 (lv_at hl 1 rfl) ?_
      refine lv_iconst (v := 1) hx hb dL_law_790 (by decide) ?_
      refine lv_iadd hx hb dL_law_791 ?_
      refine sld_k (i := i) (kN := 1) (L := L) (xs := xs) C hX hbl hbA hS (by decide) (by omega) hL dL_law_792 ?_
      refine lv_aload_n hx hb dL_law_793 rfl (lv_at hl 2 rfl) ?_
      refine lv_iload hx hb dL_law_794 (lv_at hl 1 rfl) ?_
      refine lv_iconst (v := 2) hx hb dL_law_796 (by decide) ?_
      refine lv_iadd hx hb dL_law_797 ?_
      refine sld_k (i := i) (kN := 2) (L := L) (xs := xs) C hX hbl hbA hS (by decide) (by omega) hL dL_law_798 ?_
      refine lm_V (As := [.int (xs (i + 1)), .int (xs (i + 2))]) (rest := []) C hM tm_839 tm_840 tm_841 tm_3 tm_842 rfl hdX9_octet ⟨Nat.le_trans (Nat.le_of_ble_eq_true rfl) hf, Nat.le_trans (Nat.le_of_ble_eq_true rfl) hlo⟩ hl.1 rfl (Nat.le_of_ble_eq_true rfl) dL_law_799 ⟨hce, hsl⟩ hP hD hS (fun H locs hP hD hS => ?_)
      refine lv_istore (lv' := [(7, .int vv), (6, .int 1), (5, .int (nI i)), (0, .ref b), (1, .ref x), (2, .ref (ad 0)), (3, .ref o), (4, .ref oD)]) hx hb dL_law_802 hl (by decide) rfl (fun ls hl => ?_)
      refine lv_aload_n hx hb dL_law_804 rfl (lv_at hl 5 rfl) ?_
      refine lm_V (As := []) (rest := []) C (k_thrown hG P1) tm_754 tm_755 tm_756 tm_3 tm_757 rfl hdX9_thrown ⟨Nat.le_trans (Nat.le_of_ble_eq_true rfl) hf, Nat.le_trans (Nat.le_of_ble_eq_true rfl) hlo⟩ hl.1 rfl (Nat.le_of_ble_eq_true rfl) dL_law_805 ⟨hce, hsl⟩ hP hD hS (fun H locs hP hD hS => ?_)
      refine lv_iload hx hb dL_law_808 (lv_at hl 1 rfl) ?_
      refine lv_icmp_eq (tgt := 815) hx hb dL_law_810 (by decide) (fun _ => ?_) (fun h9 => absurd (e0) h9)
      refine lv_iload hx hb dL_law_815 (lv_at hl 1 rfl) ?_
      refine lv_if_ne (tgt := 832) hx hb dL_law_817 (by decide) (fun _ => ?_) (fun h9 => absurd h9 (by decide))
      refine lv_goto (tgt := 1140) hx hb dL_law_832 (by decide) ?_
      exact kk S P1 f g H locs ls hR hP hD hS (lv_sub hl [2, 3, 4, 5, 6, 7] rfl)
    · refine ll_x (As := [.ref x, .int (xs (i + 1)), .int (xs (i + 2)), .ref o]) (rest := []) C (w_octet_x2 hG (xs (i + 1)) (xs (i + 2)) hx1 hx2 hXt) tm_579 tm_580 tm_0 tm_581 hdL_octet.2 ⟨Nat.le_trans (Nat.le_of_ble_eq_true rfl) hf, Nat.le_trans (Nat.le_of_ble_eq_true rfl) hlo⟩ hl.1 rfl (Nat.le_of_ble_eq_true rfl) dL_law_781 ⟨hce, hsl⟩ hP hD hS (fun H locs hP hD hS => ?_)
      refine lv_istore (lv' := [(6, .int 2), (5, .int (nI i)), (0, .ref b), (1, .ref x), (2, .ref (ad 0)), (3, .ref o), (4, .ref oD)]) hx hb dL_law_784 hl (by decide) rfl (fun ls hl => ?_)
      refine lv_aload_n hx hb dL_law_786 rfl (lv_at hl 4 rfl) ?_
      refine lv_aload_n hx hb dL_law_787 rfl (lv_at hl 2 rfl) ?_
      refine lv_iload hx hb dL_law_788 (lv_at hl 1 rfl) ?_
      refine lv_iconst (v := 1) hx hb dL_law_790 (by decide) ?_
      refine lv_iadd hx hb dL_law_791 ?_
      refine sld_k (i := i) (kN := 1) (L := L) (xs := xs) C hX hbl hbA hS (by decide) (by omega) hL dL_law_792 ?_
      refine lv_aload_n hx hb dL_law_793 rfl (lv_at hl 2 rfl) ?_
      refine lv_iload hx hb dL_law_794 (lv_at hl 1 rfl) ?_
      refine lv_iconst (v := 2) hx hb dL_law_796 (by decide) ?_
      refine lv_iadd hx hb dL_law_797 ?_
      refine sld_k (i := i) (kN := 2) (L := L) (xs := xs) C hX hbl hbA hS (by decide) (by omega) hL dL_law_798 ?_
      refine lm_V (As := [.int (xs (i + 1)), .int (xs (i + 2))]) (rest := []) C hM tm_839 tm_840 tm_841 tm_3 tm_842 rfl hdX9_octet ⟨Nat.le_trans (Nat.le_of_ble_eq_true rfl) hf, Nat.le_trans (Nat.le_of_ble_eq_true rfl) hlo⟩ hl.1 rfl (Nat.le_of_ble_eq_true rfl) dL_law_799 ⟨hce, hsl⟩ hP hD hS (fun H locs hP hD hS => ?_)
      refine lv_istore (lv' := [(7, .int vv), (6, .int 2), (5, .int (nI i)), (0, .ref b), (1, .ref x), (2, .ref (ad 0)), (3, .ref o), (4, .ref oD)]) hx hb dL_law_802 hl (by decide) rfl (fun ls hl => ?_)
      refine lv_aload_n hx hb dL_law_804 rfl (lv_at hl 5 rfl) ?_
      refine lm_V (As := []) (rest := []) C (k_thrown hG P1) tm_754 tm_755 tm_756 tm_3 tm_757 rfl hdX9_thrown ⟨Nat.le_trans (Nat.le_of_ble_eq_true rfl) hf, Nat.le_trans (Nat.le_of_ble_eq_true rfl) hlo⟩ hl.1 rfl (Nat.le_of_ble_eq_true rfl) dL_law_805 ⟨hce, hsl⟩ hP hD hS (fun H locs hP hD hS => ?_)
      refine lv_iload hx hb dL_law_808 (lv_at hl 1 rfl) ?_
      refine lv_icmp_eq (tgt := 815) hx hb dL_law_810 (by decide) (fun _ => ?_) (fun h9 => absurd (e0) h9)
      refine lv_iload hx hb dL_law_815 (lv_at hl 1 rfl) ?_
      refine lv_if_ne (tgt := 832) hx hb dL_law_817 (by decide) (fun _ => ?_) (fun h9 => absurd h9 (by decide))
      refine lv_goto (tgt := 1140) hx hb dL_law_832 (by decide) ?_
      exact kk S P1 f g H locs ls hR hP hD hS (lv_sub hl [2, 3, 4, 5, 6, 7] rfl)
set_option maxRecDepth 100000 in
theorem lw_tear (C : cx_C p l s m args meth c s0 D cA cL_law 9 rt9 RL A) (hG : cx_G l s0 D cA) (hX : va_X b L xs s s.heap) (hbl : b < s.heap.size) (hbA : ¬ A b) (hL : L ≤ 3073) (h : Rep K S P x) (hK : K ≤ 511) (hi : i + 6 ≤ L) (hf : 11 ≤ R.frames) (hlo : 340 ≤ R.locals) (hce : cells + 8 ≤ R.cells) (hsl : slots + 512 ≤ R.slots)
    (kk : ∀ (S1 : Mem) (P1 : MS) (f1 : Nat → Int64) (g1 : Nat → UInt64) (H : Heap) (locs : List Loc) (ls : Array Slot), Rep (K + 1) S1 P1 x → va_P D vwCl (Lw cA ad o oD S1 P1 f1 g1) H → va_D A (Lw cA ad o oD S1 P1 f1 g1) → va_S A s.heap H locs → lv_has ls 9 [(5, .int (nI i)), (0, .ref b), (1, .ref x), (2, .ref (ad 0)), (3, .ref o), (4, .ref oD)] → W p l e R s m args below meth c H locs (cells + 8) (slots + 512) Q (F0 m 1140 ls [])) :
    ∀ (H : Heap) (locs : List Loc) (ls : Array Slot), va_P D vwCl (Lw cA ad o oD S P f g) H → va_D A (Lw cA ad o oD S P f g) → va_S A s.heap H locs → lv_has ls 9 [(5, .int (nI i)), (0, .ref b), (1, .ref x), (2, .ref (ad 0)), (3, .ref o), (4, .ref oD)] → W p l e R s m args below meth c H locs cells slots Q (F0 m 835 ls []) := by
  have hx := cx_x C
  have hb := cx_b C
  obtain ⟨hx1, hx2⟩ := Rep_x h
  intro H locs ls hP hD hS hl
  refine lv_aload_n hx hb dL_law_835 rfl (lv_at hl 2 rfl) ?_
  refine lv_aload_n hx hb dL_law_836 rfl (lv_at hl 1 rfl) ?_
  refine lv_iload hx hb dL_law_837 (lv_at hl 0 rfl) ?_
  refine lv_iconst (v := 1) hx hb dL_law_839 (by decide) ?_
  refine lv_iadd hx hb dL_law_840 ?_
  refine sld_k (i := i) (kN := 1) (L := L) (xs := xs) C hX hbl hbA hS (by decide) (by omega) hL dL_law_841 ?_
  refine lv_aload_n hx hb dL_law_842 rfl (lv_at hl 1 rfl) ?_
  refine lv_iload hx hb dL_law_843 (lv_at hl 0 rfl) ?_
  refine lv_iconst (v := 2) hx hb dL_law_845 (by decide) ?_
  refine lv_iadd hx hb dL_law_846 ?_
  refine sld_k (i := i) (kN := 2) (L := L) (xs := xs) C hX hbl hbA hS (by decide) (by omega) hL dL_law_847 ?_
  refine lv_aload_n hx hb dL_law_848 rfl (lv_at hl 4 rfl) ?_
  rcases st_tear (ad := ad) hG h hK (xs (i + 1)) (xs (i + 2)) with ⟨vv, P1, hC, hM, e0⟩ | ⟨E9, k9, vv, P1, hcd, hXt, hM, e0, hR⟩
  · refine ll_y (As := [.ref x, .int (xs (i + 1)), .int (xs (i + 2)), .ref o]) (rest := []) C (w_tear_y hG (xs (i + 1)) (xs (i + 2)) hx1 hx2 hC) tm_609 tm_610 tm_0 tm_611 hdL_tear.2 ⟨Nat.le_trans (Nat.le_of_ble_eq_true rfl) hf, Nat.le_trans (Nat.le_of_ble_eq_true rfl) hlo⟩ hl.1 rfl (Nat.le_of_ble_eq_true rfl) dL_law_849 ⟨hce, hsl⟩ hP hD hS (fun S1 f1 H locs hΦ hf0 hP hD hS => ?_)
    refine lv_istore (lv' := [(6, .int 0), (5, .int (nI i)), (0, .ref b), (1, .ref x), (2, .ref (ad 0)), (3, .ref o), (4, .ref oD)]) hx hb dL_law_852 hl (by decide) rfl (fun ls hl => ?_)
    refine lv_aload_n hx hb dL_law_854 rfl (lv_at hl 4 rfl) ?_
    refine lv_aload_n hx hb dL_law_855 rfl (lv_at hl 2 rfl) ?_
    refine lv_iload hx hb dL_law_856 (lv_at hl 1 rfl) ?_
    refine lv_iconst (v := 1) hx hb dL_law_858 (by decide) ?_
    refine lv_iadd hx hb dL_law_859 ?_
    refine sld_k (i := i) (kN := 1) (L := L) (xs := xs) C hX hbl hbA hS (by decide) (by omega) hL dL_law_860 ?_
    refine lv_aload_n hx hb dL_law_861 rfl (lv_at hl 2 rfl) ?_
    refine lv_iload hx hb dL_law_862 (lv_at hl 1 rfl) ?_
    refine lv_iconst (v := 2) hx hb dL_law_864 (by decide) ?_
    refine lv_iadd hx hb dL_law_865 ?_
    refine sld_k (i := i) (kN := 2) (L := L) (xs := xs) C hX hbl hbA hS (by decide) (by omega) hL dL_law_866 ?_
    refine lm_V (As := [.int (xs (i + 1)), .int (xs (i + 2))]) (rest := []) C hM tm_847 tm_848 tm_849 tm_3 tm_850 rfl hdX9_tear ⟨Nat.le_trans (Nat.le_of_ble_eq_true rfl) hf, Nat.le_trans (Nat.le_of_ble_eq_true rfl) hlo⟩ hl.1 rfl (Nat.le_of_ble_eq_true rfl) dL_law_867 ⟨hce, hsl⟩ hP hD hS (fun H locs hP hD hS => ?_)
    refine lv_istore (lv' := [(7, .int vv), (6, .int 0), (5, .int (nI i)), (0, .ref b), (1, .ref x), (2, .ref (ad 0)), (3, .ref o), (4, .ref oD)]) hx hb dL_law_870 hl (by decide) rfl (fun ls hl => ?_)
    refine lv_aload_n hx hb dL_law_872 rfl (lv_at hl 5 rfl) ?_
    refine lm_V (As := []) (rest := []) C (k_thrown hG P1) tm_754 tm_755 tm_756 tm_3 tm_757 rfl hdX9_thrown ⟨Nat.le_trans (Nat.le_of_ble_eq_true rfl) hf, Nat.le_trans (Nat.le_of_ble_eq_true rfl) hlo⟩ hl.1 rfl (Nat.le_of_ble_eq_true rfl) dL_law_873 ⟨hce, hsl⟩ hP hD hS (fun H locs hP hD hS => ?_)
    refine lv_iload hx hb dL_law_876 (lv_at hl 1 rfl) ?_
    refine lv_icmp_eq (tgt := 883) hx hb dL_law_878 (by decide) (fun _ => ?_) (fun h9 => absurd (e0) h9)
    refine lv_iload hx hb dL_law_883 (lv_at hl 1 rfl) ?_
    refine lv_if_ne (tgt := 900) hx hb dL_law_885 (by decide) (fun h9 => absurd rfl h9) (fun _ => ?_)
    refine lv_aload_n hx hb dL_law_888 rfl (lv_at hl 6 rfl) ?_
    refine lv_iconst (v := 0) hx hb dL_law_889 (by decide) ?_
    refine lald0 (cv := vv.toInt64) C hP hf0 dL_law_890 ?_
    refine lv_iload hx hb dL_law_891 (lv_at hl 0 rfl) ?_
    refine lv_i2l (v := vv.toInt64) hx hb dL_law_893 rfl ?_
    refine W.lcmp hx hb dL_law_894 ?_
    refine lv_if_eq (tgt := 900) hx hb dL_law_895 (by decide) (fun _ => ?_) (fun h9 => absurd ((lg_cmp_eq ..).mpr rfl) h9)
    refine lv_goto (tgt := 1140) hx hb dL_law_900 (by decide) ?_
    exact kk S1 P1 f1 g H locs ls hΦ hP hD hS (lv_sub hl [2, 3, 4, 5, 6, 7] rfl)
  · obtain ⟨rfl, rfl⟩ := hcd
    refine ll_x (As := [.ref x, .int (xs (i + 1)), .int (xs (i + 2)), .ref o]) (rest := []) C (w_tear_x1 hG (xs (i + 1)) (xs (i + 2)) hx1 hx2 hXt) tm_609 tm_610 tm_0 tm_611 hdL_tear.2 ⟨Nat.le_trans (Nat.le_of_ble_eq_true rfl) hf, Nat.le_trans (Nat.le_of_ble_eq_true rfl) hlo⟩ hl.1 rfl (Nat.le_of_ble_eq_true rfl) dL_law_849 ⟨hce, hsl⟩ hP hD hS (fun H locs hP hD hS => ?_)
    refine lv_istore (lv' := [(6, .int 1), (5, .int (nI i)), (0, .ref b), (1, .ref x), (2, .ref (ad 0)), (3, .ref o), (4, .ref oD)]) hx hb dL_law_852 hl (by decide) rfl (fun ls hl => ?_)
    refine lv_aload_n hx hb dL_law_854 rfl (lv_at hl 4 rfl) ?_
    refine lv_aload_n hx hb dL_law_855 rfl (lv_at hl 2 rfl) ?_
    refine lv_iload hx hb dL_law_856 (lv_at hl 1 rfl) ?_
    refine lv_iconst (v := 1) hx hb dL_law_858 (by decide) ?_
    refine lv_iadd hx hb dL_law_859 ?_
    refine sld_k (i := i) (kN := 1) (L := L) (xs := xs) C hX hbl hbA hS (by decide) (by omega) hL dL_law_860 ?_
    refine lv_aload_n hx hb dL_law_861 rfl (lv_at hl 2 rfl) ?_
    refine lv_iload hx hb dL_law_862 (lv_at hl 1 rfl) ?_
    refine lv_iconst (v := 2) hx hb dL_law_864 (by decide) ?_
    refine lv_iadd hx hb dL_law_865 ?_
    refine sld_k (i := i) (kN := 2) (L := L) (xs := xs) C hX hbl hbA hS (by decide) (by omega) hL dL_law_866 ?_
    refine lm_V (As := [.int (xs (i + 1)), .int (xs (i + 2))]) (rest := []) C hM tm_847 tm_848 tm_849 tm_3 tm_850 rfl hdX9_tear ⟨Nat.le_trans (Nat.le_of_ble_eq_true rfl) hf, Nat.le_trans (Nat.le_of_ble_eq_true rfl) hlo⟩ hl.1 rfl (Nat.le_of_ble_eq_true rfl) dL_law_867 ⟨hce, hsl⟩ hP hD hS (fun H locs hP hD hS => ?_)
    refine lv_istore (lv' := [(7, .int vv), (6, .int 1), (5, .int (nI i)), (0, .ref b), (1, .ref x), (2, .ref (ad 0)), (3, .ref o), (4, .ref oD)]) hx hb dL_law_870 hl (by decide) rfl (fun ls hl => ?_)
    refine lv_aload_n hx hb dL_law_872 rfl (lv_at hl 5 rfl) ?_
    refine lm_V (As := []) (rest := []) C (k_thrown hG P1) tm_754 tm_755 tm_756 tm_3 tm_757 rfl hdX9_thrown ⟨Nat.le_trans (Nat.le_of_ble_eq_true rfl) hf, Nat.le_trans (Nat.le_of_ble_eq_true rfl) hlo⟩ hl.1 rfl (Nat.le_of_ble_eq_true rfl) dL_law_873 ⟨hce, hsl⟩ hP hD hS (fun H locs hP hD hS => ?_)
    refine lv_iload hx hb dL_law_876 (lv_at hl 1 rfl) ?_
    refine lv_icmp_eq (tgt := 883) hx hb dL_law_878 (by decide) (fun _ => ?_) (fun h9 => absurd (e0) h9)
    refine lv_iload hx hb dL_law_883 (lv_at hl 1 rfl) ?_
    refine lv_if_ne (tgt := 900) hx hb dL_law_885 (by decide) (fun _ => ?_) (fun h9 => absurd h9 (by decide))
    refine lv_goto (tgt := 1140) hx hb dL_law_900 (by decide) ?_
    exact kk S P1 f g H locs ls hR hP hD hS (lv_sub hl [2, 3, 4, 5, 6, 7] rfl)
set_option maxRecDepth 100000 in
theorem lw_replay (C : cx_C p l s m args meth c s0 D cA cL_law 9 rt9 RL A) (hG : cx_G l s0 D cA) (hX : va_X b L xs s s.heap) (hbl : b < s.heap.size) (hbA : ¬ A b) (hL : L ≤ 3073) (h : Rep K S P x) (hK : K ≤ 511) (hi : i + 6 ≤ L) (hf : 11 ≤ R.frames) (hlo : 340 ≤ R.locals) (hce : cells + 8 ≤ R.cells) (hsl : slots + 512 ≤ R.slots)
    (kk : ∀ (S1 : Mem) (P1 : MS) (f1 : Nat → Int64) (g1 : Nat → UInt64) (H : Heap) (locs : List Loc) (ls : Array Slot), Rep (K + 1) S1 P1 x → va_P D vwCl (Lw cA ad o oD S1 P1 f1 g1) H → va_D A (Lw cA ad o oD S1 P1 f1 g1) → va_S A s.heap H locs → lv_has ls 9 [(5, .int (nI i)), (0, .ref b), (1, .ref x), (2, .ref (ad 0)), (3, .ref o), (4, .ref oD)] → W p l e R s m args below meth c H locs (cells + 8) (slots + 512) Q (F0 m 1140 ls [])) :
    ∀ (H : Heap) (locs : List Loc) (ls : Array Slot), va_P D vwCl (Lw cA ad o oD S P f g) H → va_D A (Lw cA ad o oD S P f g) → va_S A s.heap H locs → lv_has ls 9 [(5, .int (nI i)), (0, .ref b), (1, .ref x), (2, .ref (ad 0)), (3, .ref o), (4, .ref oD)] → W p l e R s m args below meth c H locs cells slots Q (F0 m 903 ls []) := by
  have hx := cx_x C
  have hb := cx_b C
  obtain ⟨hx1, hx2⟩ := Rep_x h
  intro H locs ls hP hD hS hl
  refine lv_aload_n hx hb dL_law_903 rfl (lv_at hl 2 rfl) ?_
  refine lv_aload_n hx hb dL_law_904 rfl (lv_at hl 1 rfl) ?_
  refine lv_iload hx hb dL_law_905 (lv_at hl 0 rfl) ?_
  refine lv_iconst (v := 1) hx hb dL_law_907 (by decide) ?_
  refine lv_iadd hx hb dL_law_908 ?_
  refine sld_k (i := i) (kN := 1) (L := L) (xs := xs) C hX hbl hbA hS (by decide) (by omega) hL dL_law_909 ?_
  refine lv_aload_n hx hb dL_law_910 rfl (lv_at hl 4 rfl) ?_
  rcases st_replay (ad := ad) hG h hK (xs (i + 1)) with ⟨vv, P1, hC, hM, e0⟩ | ⟨E9, k9, vv, P1, hcd, hXt, hM, e0, hR⟩
  · refine ll_y (As := [.ref x, .int (xs (i + 1)), .ref o]) (rest := []) C (w_replay_y hG (xs (i + 1)) hx1 hx2 hC) tm_617 tm_618 tm_0 tm_619 hdL_replay.2 ⟨Nat.le_trans (Nat.le_of_ble_eq_true rfl) hf, Nat.le_trans (Nat.le_of_ble_eq_true rfl) hlo⟩ hl.1 rfl (Nat.le_of_ble_eq_true rfl) dL_law_911 ⟨hce, hsl⟩ hP hD hS (fun S1 f1 H locs hΦ hf0 hP hD hS => ?_)
    refine lv_istore (lv' := [(6, .int 0), (5, .int (nI i)), (0, .ref b), (1, .ref x), (2, .ref (ad 0)), (3, .ref o), (4, .ref oD)]) hx hb dL_law_914 hl (by decide) rfl (fun ls hl => ?_)
    refine lv_aload_n hx hb dL_law_916 rfl (lv_at hl 4 rfl) ?_
    refine lv_aload_n hx hb dL_law_917 rfl (lv_at hl 2 rfl) ?_
    refine lv_iload hx hb dL_law_918 (lv_at hl 1 rfl) ?_
    refine lv_iconst (v := 1) hx hb dL_law_920 (by decide) ?_
    refine lv_iadd hx hb dL_law_921 ?_
    refine sld_k (i := i) (kN := 1) (L := L) (xs := xs) C hX hbl hbA hS (by decide) (by omega) hL dL_law_922 ?_
    refine lm_V (As := [.int (xs (i + 1))]) (rest := []) C hM tm_851 tm_852 tm_853 tm_3 tm_854 rfl hdX9_replay ⟨Nat.le_trans (Nat.le_of_ble_eq_true rfl) hf, Nat.le_trans (Nat.le_of_ble_eq_true rfl) hlo⟩ hl.1 rfl (Nat.le_of_ble_eq_true rfl) dL_law_923 ⟨hce, hsl⟩ hP hD hS (fun H locs hP hD hS => ?_)
    refine lv_istore (lv' := [(7, .int vv), (6, .int 0), (5, .int (nI i)), (0, .ref b), (1, .ref x), (2, .ref (ad 0)), (3, .ref o), (4, .ref oD)]) hx hb dL_law_926 hl (by decide) rfl (fun ls hl => ?_)
    refine lv_aload_n hx hb dL_law_928 rfl (lv_at hl 5 rfl) ?_
    refine lm_V (As := []) (rest := []) C (k_thrown hG P1) tm_754 tm_755 tm_756 tm_3 tm_757 rfl hdX9_thrown ⟨Nat.le_trans (Nat.le_of_ble_eq_true rfl) hf, Nat.le_trans (Nat.le_of_ble_eq_true rfl) hlo⟩ hl.1 rfl (Nat.le_of_ble_eq_true rfl) dL_law_929 ⟨hce, hsl⟩ hP hD hS (fun H locs hP hD hS => ?_)
    refine lv_iload hx hb dL_law_932 (lv_at hl 1 rfl) ?_
    refine lv_icmp_eq (tgt := 939) hx hb dL_law_934 (by decide) (fun _ => ?_) (fun h9 => absurd (e0) h9)
    refine lv_iload hx hb dL_law_939 (lv_at hl 1 rfl) ?_
    refine lv_if_ne (tgt := 956) hx hb dL_law_941 (by decide) (fun h9 => absurd rfl h9) (fun _ => ?_)
    refine lv_aload_n hx hb dL_law_944 rfl (lv_at hl 6 rfl) ?_
    refine lv_iconst (v := 0) hx hb dL_law_945 (by decide) ?_
    refine lald0 (cv := vv.toInt64) C hP hf0 dL_law_946 ?_
    refine lv_iload hx hb dL_law_947 (lv_at hl 0 rfl) ?_
    refine lv_i2l (v := vv.toInt64) hx hb dL_law_949 rfl ?_
    refine W.lcmp hx hb dL_law_950 ?_
    refine lv_if_eq (tgt := 956) hx hb dL_law_951 (by decide) (fun _ => ?_) (fun h9 => absurd ((lg_cmp_eq ..).mpr rfl) h9)
    refine lv_goto (tgt := 1140) hx hb dL_law_956 (by decide) ?_
    exact kk S1 P1 f1 g H locs ls hΦ hP hD hS (lv_sub hl [2, 3, 4, 5, 6, 7] rfl)
  · obtain ⟨rfl, rfl⟩ := hcd
    refine ll_x (As := [.ref x, .int (xs (i + 1)), .ref o]) (rest := []) C (w_replay_x1 hG (xs (i + 1)) hx1 hx2 hXt) tm_617 tm_618 tm_0 tm_619 hdL_replay.2 ⟨Nat.le_trans (Nat.le_of_ble_eq_true rfl) hf, Nat.le_trans (Nat.le_of_ble_eq_true rfl) hlo⟩ hl.1 rfl (Nat.le_of_ble_eq_true rfl) dL_law_911 ⟨hce, hsl⟩ hP hD hS (fun H locs hP hD hS => ?_)
    refine lv_istore (lv' := [(6, .int 1), (5, .int (nI i)), (0, .ref b), (1, .ref x), (2, .ref (ad 0)), (3, .ref o), (4, .ref oD)]) hx hb dL_law_914 hl (by decide) rfl (fun ls hl => ?_)
    refine lv_aload_n hx hb dL_law_916 rfl (lv_at hl 4 rfl) ?_
    refine lv_aload_n hx hb dL_law_917 rfl (lv_at hl 2 rfl) ?_
    refine lv_iload hx hb dL_law_918 (lv_at hl 1 rfl) ?_
    refine lv_iconst (v := 1) hx hb dL_law_920 (by decide) ?_
    refine lv_iadd hx hb dL_law_921 ?_
    refine sld_k (i := i) (kN := 1) (L := L) (xs := xs) C hX hbl hbA hS (by decide) (by omega) hL dL_law_922 ?_
    refine lm_V (As := [.int (xs (i + 1))]) (rest := []) C hM tm_851 tm_852 tm_853 tm_3 tm_854 rfl hdX9_replay ⟨Nat.le_trans (Nat.le_of_ble_eq_true rfl) hf, Nat.le_trans (Nat.le_of_ble_eq_true rfl) hlo⟩ hl.1 rfl (Nat.le_of_ble_eq_true rfl) dL_law_923 ⟨hce, hsl⟩ hP hD hS (fun H locs hP hD hS => ?_)
    refine lv_istore (lv' := [(7, .int vv), (6, .int 1), (5, .int (nI i)), (0, .ref b), (1, .ref x), (2, .ref (ad 0)), (3, .ref o), (4, .ref oD)]) hx hb dL_law_926 hl (by decide) rfl (fun ls hl => ?_)
    refine lv_aload_n hx hb dL_law_928 rfl (lv_at hl 5 rfl) ?_
    refine lm_V (As := []) (rest := []) C (k_thrown hG P1) tm_754 tm_755 tm_756 tm_3 tm_757 rfl hdX9_thrown ⟨Nat.le_trans (Nat.le_of_ble_eq_true rfl) hf, Nat.le_trans (Nat.le_of_ble_eq_true rfl) hlo⟩ hl.1 rfl (Nat.le_of_ble_eq_true rfl) dL_law_929 ⟨hce, hsl⟩ hP hD hS (fun H locs hP hD hS => ?_)
    refine lv_iload hx hb dL_law_932 (lv_at hl 1 rfl) ?_
    refine lv_icmp_eq (tgt := 939) hx hb dL_law_934 (by decide) (fun _ => ?_) (fun h9 => absurd (e0) h9)
    refine lv_iload hx hb dL_law_939 (lv_at hl 1 rfl) ?_
    refine lv_if_ne (tgt := 956) hx hb dL_law_941 (by decide) (fun _ => ?_) (fun h9 => absurd h9 (by decide))
    refine lv_goto (tgt := 1140) hx hb dL_law_956 (by decide) ?_
    exact kk S P1 f g H locs ls hR hP hD hS (lv_sub hl [2, 3, 4, 5, 6, 7] rfl)
set_option maxRecDepth 100000 in
theorem lw_replayed (C : cx_C p l s m args meth c s0 D cA cL_law 9 rt9 RL A) (hG : cx_G l s0 D cA) (hX : va_X b L xs s s.heap) (hbl : b < s.heap.size) (hbA : ¬ A b) (hL : L ≤ 3073) (h : Rep K S P x) (hK : K ≤ 511) (hi : i + 6 ≤ L) (hf : 11 ≤ R.frames) (hlo : 340 ≤ R.locals) (hce : cells + 8 ≤ R.cells) (hsl : slots + 512 ≤ R.slots)
    (kk : ∀ (S1 : Mem) (P1 : MS) (f1 : Nat → Int64) (g1 : Nat → UInt64) (H : Heap) (locs : List Loc) (ls : Array Slot), Rep (K + 1) S1 P1 x → va_P D vwCl (Lw cA ad o oD S1 P1 f1 g1) H → va_D A (Lw cA ad o oD S1 P1 f1 g1) → va_S A s.heap H locs → lv_has ls 9 [(5, .int (nI i)), (0, .ref b), (1, .ref x), (2, .ref (ad 0)), (3, .ref o), (4, .ref oD)] → W p l e R s m args below meth c H locs (cells + 8) (slots + 512) Q (F0 m 1140 ls [])) :
    ∀ (H : Heap) (locs : List Loc) (ls : Array Slot), va_P D vwCl (Lw cA ad o oD S P f g) H → va_D A (Lw cA ad o oD S P f g) → va_S A s.heap H locs → lv_has ls 9 [(5, .int (nI i)), (0, .ref b), (1, .ref x), (2, .ref (ad 0)), (3, .ref o), (4, .ref oD)] → W p l e R s m args below meth c H locs cells slots Q (F0 m 959 ls []) := by
  have hx := cx_x C
  have hb := cx_b C
  obtain ⟨hx1, hx2⟩ := Rep_x h
  intro H locs ls hP hD hS hl
  refine lv_aload_n hx hb dL_law_959 rfl (lv_at hl 2 rfl) ?_
  obtain ⟨hC, hM⟩ := st_replayed (ad := ad) hG h hK
  refine lk_V (As := []) (rest := []) C hC tm_77 tm_78 tm_79 tm_1 tm_80 rfl hx1 hx2 hdX8_replayed ⟨Nat.le_trans (Nat.le_of_ble_eq_true rfl) hf, Nat.le_trans (Nat.le_of_ble_eq_true rfl) hlo⟩ hl.1 rfl (Nat.le_of_ble_eq_true rfl) dL_law_960 ⟨by show cells ≤ R.cells; omega, by show slots ≤ R.slots; omega⟩ hP hD hS (fun S1 H locs hΦ hP hD hS => ?_)
  refine lv_aload_n hx hb dL_law_963 rfl (lv_at hl 3 rfl) ?_
  refine lm_V (As := []) (rest := [.long (qR P)]) C hM tm_859 tm_860 tm_861 tm_3 tm_862 rfl hdX9_replayed ⟨Nat.le_trans (Nat.le_of_ble_eq_true rfl) hf, Nat.le_trans (Nat.le_of_ble_eq_true rfl) hlo⟩ hl.1 rfl (Nat.le_of_ble_eq_true rfl) dL_law_964 ⟨by show cells ≤ R.cells; omega, by show slots ≤ R.slots; omega⟩ hP hD hS (fun H locs hP hD hS => ?_)
  refine W.lcmp hx hb dL_law_967 ?_
  refine lv_if_eq (tgt := 1140) hx hb dL_law_968 (by decide) (fun _ => ?_) (fun h9 => absurd ((lg_cmp_eq ..).mpr rfl) h9)
  refine W.widen (k := cells + 8) (n := slots + 512) (by show cells ≤ cells + 8; omega) (by show slots ≤ slots + 512; omega) ?_
  exact kk S1 _ f g H locs ls hΦ hP hD hS (lv_sub hl [0, 1, 2, 3, 4, 5] rfl)
set_option maxRecDepth 100000 in
theorem lw_count (C : cx_C p l s m args meth c s0 D cA cL_law 9 rt9 RL A) (hG : cx_G l s0 D cA) (hX : va_X b L xs s s.heap) (hbl : b < s.heap.size) (hbA : ¬ A b) (hL : L ≤ 3073) (h : Rep K S P x) (hK : K ≤ 511) (hi : i + 6 ≤ L) (hf : 11 ≤ R.frames) (hlo : 340 ≤ R.locals) (hce : cells + 8 ≤ R.cells) (hsl : slots + 512 ≤ R.slots)
    (kk : ∀ (S1 : Mem) (P1 : MS) (f1 : Nat → Int64) (g1 : Nat → UInt64) (H : Heap) (locs : List Loc) (ls : Array Slot), Rep (K + 1) S1 P1 x → va_P D vwCl (Lw cA ad o oD S1 P1 f1 g1) H → va_D A (Lw cA ad o oD S1 P1 f1 g1) → va_S A s.heap H locs → lv_has ls 9 [(5, .int (nI i)), (0, .ref b), (1, .ref x), (2, .ref (ad 0)), (3, .ref o), (4, .ref oD)] → W p l e R s m args below meth c H locs (cells + 8) (slots + 512) Q (F0 m 1140 ls [])) :
    ∀ (H : Heap) (locs : List Loc) (ls : Array Slot), va_P D vwCl (Lw cA ad o oD S P f g) H → va_D A (Lw cA ad o oD S P f g) → va_S A s.heap H locs → lv_has ls 9 [(5, .int (nI i)), (0, .ref b), (1, .ref x), (2, .ref (ad 0)), (3, .ref o), (4, .ref oD)] → W p l e R s m args below meth c H locs cells slots Q (F0 m 973 ls []) := by
  have hx := cx_x C
  have hb := cx_b C
  obtain ⟨hx1, hx2⟩ := Rep_x h
  intro H locs ls hP hD hS hl
  refine lv_aload_n hx hb dL_law_973 rfl (lv_at hl 2 rfl) ?_
  refine lv_aload_n hx hb dL_law_974 rfl (lv_at hl 1 rfl) ?_
  refine lv_iload hx hb dL_law_975 (lv_at hl 0 rfl) ?_
  refine lv_iconst (v := 1) hx hb dL_law_977 (by decide) ?_
  refine lv_iadd hx hb dL_law_978 ?_
  refine sld_k (i := i) (kN := 1) (L := L) (xs := xs) C hX hbl hbA hS (by decide) (by omega) hL dL_law_979 ?_
  refine lv_aload_n hx hb dL_law_980 rfl (lv_at hl 1 rfl) ?_
  refine lv_iload hx hb dL_law_981 (lv_at hl 0 rfl) ?_
  refine lv_iconst (v := 2) hx hb dL_law_983 (by decide) ?_
  refine lv_iadd hx hb dL_law_984 ?_
  refine sld_k (i := i) (kN := 2) (L := L) (xs := xs) C hX hbl hbA hS (by decide) (by omega) hL dL_law_985 ?_
  refine lv_aload_n hx hb dL_law_986 rfl (lv_at hl 4 rfl) ?_
  rcases st_count (ad := ad) hG h hK (xs (i + 1)) (xs (i + 2)) with ⟨vv, P1, hC, hM, e0⟩ | ⟨E9, k9, vv, P1, hcd, hXt, hM, e0, hR⟩
  · refine ll_y (As := [.ref x, .int (xs (i + 1)), .int (xs (i + 2)), .ref o]) (rest := []) C (w_count_y hG (xs (i + 1)) (xs (i + 2)) hx1 hx2 hC) tm_640 tm_641 tm_0 tm_642 hdL_count.2 ⟨Nat.le_trans (Nat.le_of_ble_eq_true rfl) hf, Nat.le_trans (Nat.le_of_ble_eq_true rfl) hlo⟩ hl.1 rfl (Nat.le_of_ble_eq_true rfl) dL_law_987 ⟨hce, hsl⟩ hP hD hS (fun S1 f1 H locs hΦ hf0 hP hD hS => ?_)
    refine lv_istore (lv' := [(6, .int 0), (5, .int (nI i)), (0, .ref b), (1, .ref x), (2, .ref (ad 0)), (3, .ref o), (4, .ref oD)]) hx hb dL_law_990 hl (by decide) rfl (fun ls hl => ?_)
    refine lv_aload_n hx hb dL_law_992 rfl (lv_at hl 4 rfl) ?_
    refine lv_aload_n hx hb dL_law_993 rfl (lv_at hl 2 rfl) ?_
    refine lv_iload hx hb dL_law_994 (lv_at hl 1 rfl) ?_
    refine lv_iconst (v := 1) hx hb dL_law_996 (by decide) ?_
    refine lv_iadd hx hb dL_law_997 ?_
    refine sld_k (i := i) (kN := 1) (L := L) (xs := xs) C hX hbl hbA hS (by decide) (by omega) hL dL_law_998 ?_
    refine lv_aload_n hx hb dL_law_999 rfl (lv_at hl 2 rfl) ?_
    refine lv_iload hx hb dL_law_1000 (lv_at hl 1 rfl) ?_
    refine lv_iconst (v := 2) hx hb dL_law_1002 (by decide) ?_
    refine lv_iadd hx hb dL_law_1003 ?_
    refine sld_k (i := i) (kN := 2) (L := L) (xs := xs) C hX hbl hbA hS (by decide) (by omega) hL dL_law_1004 ?_
    refine lm_V (As := [.int (xs (i + 1)), .int (xs (i + 2))]) (rest := []) C hM tm_863 tm_864 tm_865 tm_3 tm_866 rfl hdX9_count ⟨Nat.le_trans (Nat.le_of_ble_eq_true rfl) hf, Nat.le_trans (Nat.le_of_ble_eq_true rfl) hlo⟩ hl.1 rfl (Nat.le_of_ble_eq_true rfl) dL_law_1005 ⟨hce, hsl⟩ hP hD hS (fun H locs hP hD hS => ?_)
    refine lv_istore (lv' := [(7, .int vv), (6, .int 0), (5, .int (nI i)), (0, .ref b), (1, .ref x), (2, .ref (ad 0)), (3, .ref o), (4, .ref oD)]) hx hb dL_law_1008 hl (by decide) rfl (fun ls hl => ?_)
    refine lv_aload_n hx hb dL_law_1010 rfl (lv_at hl 5 rfl) ?_
    refine lm_V (As := []) (rest := []) C (k_thrown hG P1) tm_754 tm_755 tm_756 tm_3 tm_757 rfl hdX9_thrown ⟨Nat.le_trans (Nat.le_of_ble_eq_true rfl) hf, Nat.le_trans (Nat.le_of_ble_eq_true rfl) hlo⟩ hl.1 rfl (Nat.le_of_ble_eq_true rfl) dL_law_1011 ⟨hce, hsl⟩ hP hD hS (fun H locs hP hD hS => ?_)
    refine lv_iload hx hb dL_law_1014 (lv_at hl 1 rfl) ?_
    refine lv_icmp_eq (tgt := 1021) hx hb dL_law_1016 (by decide) (fun _ => ?_) (fun h9 => absurd (e0) h9)
    refine lv_iload hx hb dL_law_1021 (lv_at hl 1 rfl) ?_
    refine lv_if_ne (tgt := 1038) hx hb dL_law_1023 (by decide) (fun h9 => absurd rfl h9) (fun _ => ?_)
    refine lv_aload_n hx hb dL_law_1026 rfl (lv_at hl 6 rfl) ?_
    refine lv_iconst (v := 0) hx hb dL_law_1027 (by decide) ?_
    refine lald0 (cv := vv.toInt64) C hP hf0 dL_law_1028 ?_
    refine lv_iload hx hb dL_law_1029 (lv_at hl 0 rfl) ?_
    refine lv_i2l (v := vv.toInt64) hx hb dL_law_1031 rfl ?_
    refine W.lcmp hx hb dL_law_1032 ?_
    refine lv_if_eq (tgt := 1038) hx hb dL_law_1033 (by decide) (fun _ => ?_) (fun h9 => absurd ((lg_cmp_eq ..).mpr rfl) h9)
    refine lv_goto (tgt := 1140) hx hb dL_law_1038 (by decide) ?_
    exact kk S1 P1 f1 g H locs ls hΦ hP hD hS (lv_sub hl [2, 3, 4, 5, 6, 7] rfl)
  · obtain ⟨rfl, rfl⟩ := hcd
    refine ll_x (As := [.ref x, .int (xs (i + 1)), .int (xs (i + 2)), .ref o]) (rest := []) C (w_count_x1 hG (xs (i + 1)) (xs (i + 2)) hx1 hx2 hXt) tm_640 tm_641 tm_0 tm_642 hdL_count.2 ⟨Nat.le_trans (Nat.le_of_ble_eq_true rfl) hf, Nat.le_trans (Nat.le_of_ble_eq_true rfl) hlo⟩ hl.1 rfl (Nat.le_of_ble_eq_true rfl) dL_law_987 ⟨hce, hsl⟩ hP hD hS (fun H locs hP hD hS => ?_)
    refine lv_istore (lv' := [(6, .int 1), (5, .int (nI i)), (0, .ref b), (1, .ref x), (2, .ref (ad 0)), (3, .ref o), (4, .ref oD)]) hx hb dL_law_990 hl (by decide) rfl (fun ls hl => ?_)
    refine lv_aload_n hx hb dL_law_992 rfl (lv_at hl 4 rfl) ?_
    refine lv_aload_n hx hb dL_law_993 rfl (lv_at hl 2 rfl) ?_
    refine lv_iload hx hb dL_law_994 (lv_at hl 1 rfl) ?_
    refine lv_iconst (v := 1) hx hb dL_law_996 (by decide) ?_
    refine lv_iadd hx hb dL_law_997 ?_
    refine sld_k (i := i) (kN := 1) (L := L) (xs := xs) C hX hbl hbA hS (by decide) (by omega) hL dL_law_998 ?_
    refine lv_aload_n hx hb dL_law_999 rfl (lv_at hl 2 rfl) ?_
    refine lv_iload hx hb dL_law_1000 (lv_at hl 1 rfl) ?_
    refine lv_iconst (v := 2) hx hb dL_law_1002 (by decide) ?_
    refine lv_iadd hx hb dL_law_1003 ?_
    refine sld_k (i := i) (kN := 2) (L := L) (xs := xs) C hX hbl hbA hS (by decide) (by omega) hL dL_law_1004 ?_
    refine lm_V (As := [.int (xs (i + 1)), .int (xs (i + 2))]) (rest := []) C hM tm_863 tm_864 tm_865 tm_3 tm_866 rfl hdX9_count ⟨Nat.le_trans (Nat.le_of_ble_eq_true rfl) hf, Nat.le_trans (Nat.le_of_ble_eq_true rfl) hlo⟩ hl.1 rfl (Nat.le_of_ble_eq_true rfl) dL_law_1005 ⟨hce, hsl⟩ hP hD hS (fun H locs hP hD hS => ?_)
    refine lv_istore (lv' := [(7, .int vv), (6, .int 1), (5, .int (nI i)), (0, .ref b), (1, .ref x), (2, .ref (ad 0)), (3, .ref o), (4, .ref oD)]) hx hb dL_law_1008 hl (by decide) rfl (fun ls hl => ?_)
    refine lv_aload_n hx hb dL_law_1010 rfl (lv_at hl 5 rfl) ?_
    refine lm_V (As := []) (rest := []) C (k_thrown hG P1) tm_754 tm_755 tm_756 tm_3 tm_757 rfl hdX9_thrown ⟨Nat.le_trans (Nat.le_of_ble_eq_true rfl) hf, Nat.le_trans (Nat.le_of_ble_eq_true rfl) hlo⟩ hl.1 rfl (Nat.le_of_ble_eq_true rfl) dL_law_1011 ⟨hce, hsl⟩ hP hD hS (fun H locs hP hD hS => ?_)
    refine lv_iload hx hb dL_law_1014 (lv_at hl 1 rfl) ?_
    refine lv_icmp_eq (tgt := 1021) hx hb dL_law_1016 (by decide) (fun _ => ?_) (fun h9 => absurd (e0) h9)
    refine lv_iload hx hb dL_law_1021 (lv_at hl 1 rfl) ?_
    refine lv_if_ne (tgt := 1038) hx hb dL_law_1023 (by decide) (fun _ => ?_) (fun h9 => absurd h9 (by decide))
    refine lv_goto (tgt := 1140) hx hb dL_law_1038 (by decide) ?_
    exact kk S P1 f g H locs ls hR hP hD hS (lv_sub hl [2, 3, 4, 5, 6, 7] rfl)
set_option maxRecDepth 100000 in
theorem lw_state (C : cx_C p l s m args meth c s0 D cA cL_law 9 rt9 RL A) (hG : cx_G l s0 D cA) (hX : va_X b L xs s s.heap) (hbl : b < s.heap.size) (hbA : ¬ A b) (hL : L ≤ 3073) (h : Rep K S P x) (hK : K ≤ 511) (hi : i + 6 ≤ L) (hf : 11 ≤ R.frames) (hlo : 340 ≤ R.locals) (hce : cells + 8 ≤ R.cells) (hsl : slots + 512 ≤ R.slots)
    (kk : ∀ (S1 : Mem) (P1 : MS) (f1 : Nat → Int64) (g1 : Nat → UInt64) (H : Heap) (locs : List Loc) (ls : Array Slot), Rep (K + 1) S1 P1 x → va_P D vwCl (Lw cA ad o oD S1 P1 f1 g1) H → va_D A (Lw cA ad o oD S1 P1 f1 g1) → va_S A s.heap H locs → lv_has ls 9 [(5, .int (nI i)), (0, .ref b), (1, .ref x), (2, .ref (ad 0)), (3, .ref o), (4, .ref oD)] → W p l e R s m args below meth c H locs (cells + 8) (slots + 512) Q (F0 m 1140 ls [])) :
    ∀ (H : Heap) (locs : List Loc) (ls : Array Slot), va_P D vwCl (Lw cA ad o oD S P f g) H → va_D A (Lw cA ad o oD S P f g) → va_S A s.heap H locs → lv_has ls 9 [(5, .int (nI i)), (0, .ref b), (1, .ref x), (2, .ref (ad 0)), (3, .ref o), (4, .ref oD)] → W p l e R s m args below meth c H locs cells slots Q (F0 m 1041 ls []) := by
  have hx := cx_x C
  have hb := cx_b C
  obtain ⟨hx1, hx2⟩ := Rep_x h
  intro H locs ls hP hD hS hl
  refine lv_aload_n hx hb dL_law_1041 rfl (lv_at hl 2 rfl) ?_
  refine lv_aload_n hx hb dL_law_1042 rfl (lv_at hl 1 rfl) ?_
  refine lv_iload hx hb dL_law_1043 (lv_at hl 0 rfl) ?_
  refine lv_iconst (v := 1) hx hb dL_law_1045 (by decide) ?_
  refine lv_iadd hx hb dL_law_1046 ?_
  refine sld_k (i := i) (kN := 1) (L := L) (xs := xs) C hX hbl hbA hS (by decide) (by omega) hL dL_law_1047 ?_
  refine lv_aload_n hx hb dL_law_1048 rfl (lv_at hl 1 rfl) ?_
  refine lv_iload hx hb dL_law_1049 (lv_at hl 0 rfl) ?_
  refine lv_iconst (v := 2) hx hb dL_law_1051 (by decide) ?_
  refine lv_iadd hx hb dL_law_1052 ?_
  refine sld_k (i := i) (kN := 2) (L := L) (xs := xs) C hX hbl hbA hS (by decide) (by omega) hL dL_law_1053 ?_
  refine lv_i2l (v := (xs (i + 2)).toInt64) hx hb dL_law_1054 rfl ?_
  refine lv_bipush (v := 32) hx hb dL_law_1055 (by decide) ?_
  refine lv_lshl (v := ((xs (i + 2)).toInt64) <<< ((32 : Int32).toInt64 &&& 63)) hx hb dL_law_1057 rfl ?_
  refine lv_aload_n hx hb dL_law_1058 rfl (lv_at hl 1 rfl) ?_
  refine lv_iload hx hb dL_law_1059 (lv_at hl 0 rfl) ?_
  refine lv_iconst (v := 3) hx hb dL_law_1061 (by decide) ?_
  refine lv_iadd hx hb dL_law_1062 ?_
  refine sld_k (i := i) (kN := 3) (L := L) (xs := xs) C hX hbl hbA hS (by decide) (by omega) hL dL_law_1063 ?_
  refine lv_i2l (v := (xs (i + 3)).toInt64) hx hb dL_law_1064 rfl ?_
  refine lv_ldc2 (v := 4294967295) hx hb (cx_own C) (cx_t C _ tm_871) dL_law_1065 ?_
  refine lv_land hx hb dL_law_1068 ?_
  refine lv_lor hx hb dL_law_1069 ?_
  refine lv_aload_n hx hb dL_law_1070 rfl (lv_at hl 4 rfl) ?_
  rcases st_state (ad := ad) hG h hK (xs (i + 1)) ((((xs (i + 2)).toInt64) <<< ((32 : Int32).toInt64 &&& 63)) ||| (((xs (i + 3)).toInt64) &&& 4294967295)) with ⟨vv, P1, hC, hM, e0⟩ | ⟨E9, k9, vv, P1, hcd, hXt, hM, e0, hR⟩
  · refine ll_y (As := [.ref x, .int (xs (i + 1)), .long ((((xs (i + 2)).toInt64) <<< ((32 : Int32).toInt64 &&& 63)) ||| (((xs (i + 3)).toInt64) &&& 4294967295)), .ref o]) (rest := []) C (w_state_y hG (xs (i + 1)) ((((xs (i + 2)).toInt64) <<< ((32 : Int32).toInt64 &&& 63)) ||| (((xs (i + 3)).toInt64) &&& 4294967295)) hx1 hx2 hC) tm_648 tm_649 tm_0 tm_650 hdL_state.2 ⟨Nat.le_trans (Nat.le_of_ble_eq_true rfl) hf, Nat.le_trans (Nat.le_of_ble_eq_true rfl) hlo⟩ hl.1 rfl (Nat.le_of_ble_eq_true rfl) dL_law_1071 ⟨hce, hsl⟩ hP hD hS (fun S1 f1 H locs hΦ hf0 hP hD hS => ?_)
    refine lv_istore (lv' := [(6, .int 0), (5, .int (nI i)), (0, .ref b), (1, .ref x), (2, .ref (ad 0)), (3, .ref o), (4, .ref oD)]) hx hb dL_law_1074 hl (by decide) rfl (fun ls hl => ?_)
    refine lv_aload_n hx hb dL_law_1076 rfl (lv_at hl 4 rfl) ?_
    refine lv_aload_n hx hb dL_law_1077 rfl (lv_at hl 2 rfl) ?_
    refine lv_iload hx hb dL_law_1078 (lv_at hl 1 rfl) ?_
    refine lv_iconst (v := 1) hx hb dL_law_1080 (by decide) ?_
    refine lv_iadd hx hb dL_law_1081 ?_
    refine sld_k (i := i) (kN := 1) (L := L) (xs := xs) C hX hbl hbA hS (by decide) (by omega) hL dL_law_1082 ?_
    refine lv_aload_n hx hb dL_law_1083 rfl (lv_at hl 2 rfl) ?_
    refine lv_iload hx hb dL_law_1084 (lv_at hl 1 rfl) ?_
    refine lv_iconst (v := 2) hx hb dL_law_1086 (by decide) ?_
    refine lv_iadd hx hb dL_law_1087 ?_
    refine sld_k (i := i) (kN := 2) (L := L) (xs := xs) C hX hbl hbA hS (by decide) (by omega) hL dL_law_1088 ?_
    refine lv_i2l (v := (xs (i + 2)).toInt64) hx hb dL_law_1089 rfl ?_
    refine lv_bipush (v := 32) hx hb dL_law_1090 (by decide) ?_
    refine lv_lshl (v := ((xs (i + 2)).toInt64) <<< ((32 : Int32).toInt64 &&& 63)) hx hb dL_law_1092 rfl ?_
    refine lv_aload_n hx hb dL_law_1093 rfl (lv_at hl 2 rfl) ?_
    refine lv_iload hx hb dL_law_1094 (lv_at hl 1 rfl) ?_
    refine lv_iconst (v := 3) hx hb dL_law_1096 (by decide) ?_
    refine lv_iadd hx hb dL_law_1097 ?_
    refine sld_k (i := i) (kN := 3) (L := L) (xs := xs) C hX hbl hbA hS (by decide) (by omega) hL dL_law_1098 ?_
    refine lv_i2l (v := (xs (i + 3)).toInt64) hx hb dL_law_1099 rfl ?_
    refine lv_ldc2 (v := 4294967295) hx hb (cx_own C) (cx_t C _ tm_871) dL_law_1100 ?_
    refine lv_land hx hb dL_law_1103 ?_
    refine lv_lor hx hb dL_law_1104 ?_
    refine lm_V (As := [.int (xs (i + 1)), .long ((((xs (i + 2)).toInt64) <<< ((32 : Int32).toInt64 &&& 63)) ||| (((xs (i + 3)).toInt64) &&& 4294967295))]) (rest := []) C hM tm_867 tm_868 tm_869 tm_3 tm_870 rfl hdX9_state ⟨Nat.le_trans (Nat.le_of_ble_eq_true rfl) hf, Nat.le_trans (Nat.le_of_ble_eq_true rfl) hlo⟩ hl.1 rfl (Nat.le_of_ble_eq_true rfl) dL_law_1105 ⟨hce, hsl⟩ hP hD hS (fun H locs hP hD hS => ?_)
    refine lv_lstore (lv' := [(7, .long vv), (6, .int 0), (5, .int (nI i)), (0, .ref b), (1, .ref x), (2, .ref (ad 0)), (3, .ref o), (4, .ref oD)]) hx hb dL_law_1108 hl (by decide) rfl (fun ls hl => ?_)
    refine lv_aload_n hx hb dL_law_1110 rfl (lv_at hl 5 rfl) ?_
    refine lm_V (As := []) (rest := []) C (k_thrown hG P1) tm_754 tm_755 tm_756 tm_3 tm_757 rfl hdX9_thrown ⟨Nat.le_trans (Nat.le_of_ble_eq_true rfl) hf, Nat.le_trans (Nat.le_of_ble_eq_true rfl) hlo⟩ hl.1 rfl (Nat.le_of_ble_eq_true rfl) dL_law_1111 ⟨hce, hsl⟩ hP hD hS (fun H locs hP hD hS => ?_)
    refine lv_iload hx hb dL_law_1114 (lv_at hl 1 rfl) ?_
    refine lv_icmp_eq (tgt := 1121) hx hb dL_law_1116 (by decide) (fun _ => ?_) (fun h9 => absurd (e0) h9)
    refine lv_iload hx hb dL_law_1121 (lv_at hl 1 rfl) ?_
    refine lv_if_ne (tgt := 1137) hx hb dL_law_1123 (by decide) (fun h9 => absurd rfl h9) (fun _ => ?_)
    refine lv_aload_n hx hb dL_law_1126 rfl (lv_at hl 6 rfl) ?_
    refine lv_iconst (v := 0) hx hb dL_law_1127 (by decide) ?_
    refine lald0 (cv := vv) C hP hf0 dL_law_1128 ?_
    refine lv_lload hx hb dL_law_1129 (lv_at hl 0 rfl) ?_
    refine W.lcmp hx hb dL_law_1131 ?_
    refine lv_if_eq (tgt := 1137) hx hb dL_law_1132 (by decide) (fun _ => ?_) (fun h9 => absurd ((lg_cmp_eq ..).mpr rfl) h9)
    refine lv_goto (tgt := 1140) hx hb dL_law_1137 (by decide) ?_
    exact kk S1 P1 f1 g H locs ls hΦ hP hD hS (lv_sub hl [2, 3, 4, 5, 6, 7] rfl)
  · obtain ⟨rfl, rfl⟩ := hcd
    refine ll_x (As := [.ref x, .int (xs (i + 1)), .long ((((xs (i + 2)).toInt64) <<< ((32 : Int32).toInt64 &&& 63)) ||| (((xs (i + 3)).toInt64) &&& 4294967295)), .ref o]) (rest := []) C (w_state_x1 hG (xs (i + 1)) ((((xs (i + 2)).toInt64) <<< ((32 : Int32).toInt64 &&& 63)) ||| (((xs (i + 3)).toInt64) &&& 4294967295)) hx1 hx2 hXt) tm_648 tm_649 tm_0 tm_650 hdL_state.2 ⟨Nat.le_trans (Nat.le_of_ble_eq_true rfl) hf, Nat.le_trans (Nat.le_of_ble_eq_true rfl) hlo⟩ hl.1 rfl (Nat.le_of_ble_eq_true rfl) dL_law_1071 ⟨hce, hsl⟩ hP hD hS (fun H locs hP hD hS => ?_)
    refine lv_istore (lv' := [(6, .int 1), (5, .int (nI i)), (0, .ref b), (1, .ref x), (2, .ref (ad 0)), (3, .ref o), (4, .ref oD)]) hx hb dL_law_1074 hl (by decide) rfl (fun ls hl => ?_)
    refine lv_aload_n hx hb dL_law_1076 rfl (lv_at hl 4 rfl) ?_
    refine lv_aload_n hx hb dL_law_1077 rfl (lv_at hl 2 rfl) ?_
    refine lv_iload hx hb dL_law_1078 (lv_at hl 1 rfl) ?_
    refine lv_iconst (v := 1) hx hb dL_law_1080 (by decide) ?_
    refine lv_iadd hx hb dL_law_1081 ?_
    refine sld_k (i := i) (kN := 1) (L := L) (xs := xs) C hX hbl hbA hS (by decide) (by omega) hL dL_law_1082 ?_
    refine lv_aload_n hx hb dL_law_1083 rfl (lv_at hl 2 rfl) ?_
    refine lv_iload hx hb dL_law_1084 (lv_at hl 1 rfl) ?_
    refine lv_iconst (v := 2) hx hb dL_law_1086 (by decide) ?_
    refine lv_iadd hx hb dL_law_1087 ?_
    refine sld_k (i := i) (kN := 2) (L := L) (xs := xs) C hX hbl hbA hS (by decide) (by omega) hL dL_law_1088 ?_
    refine lv_i2l (v := (xs (i + 2)).toInt64) hx hb dL_law_1089 rfl ?_
    refine lv_bipush (v := 32) hx hb dL_law_1090 (by decide) ?_
    refine lv_lshl (v := ((xs (i + 2)).toInt64) <<< ((32 : Int32).toInt64 &&& 63)) hx hb dL_law_1092 rfl ?_
    refine lv_aload_n hx hb dL_law_1093 rfl (lv_at hl 2 rfl) ?_
    refine lv_iload hx hb dL_law_1094 (lv_at hl 1 rfl) ?_
    refine lv_iconst (v := 3) hx hb dL_law_1096 (by decide) ?_
    refine lv_iadd hx hb dL_law_1097 ?_
    refine sld_k (i := i) (kN := 3) (L := L) (xs := xs) C hX hbl hbA hS (by decide) (by omega) hL dL_law_1098 ?_
    refine lv_i2l (v := (xs (i + 3)).toInt64) hx hb dL_law_1099 rfl ?_
    refine lv_ldc2 (v := 4294967295) hx hb (cx_own C) (cx_t C _ tm_871) dL_law_1100 ?_
    refine lv_land hx hb dL_law_1103 ?_
    refine lv_lor hx hb dL_law_1104 ?_
    refine lm_V (As := [.int (xs (i + 1)), .long ((((xs (i + 2)).toInt64) <<< ((32 : Int32).toInt64 &&& 63)) ||| (((xs (i + 3)).toInt64) &&& 4294967295))]) (rest := []) C hM tm_867 tm_868 tm_869 tm_3 tm_870 rfl hdX9_state ⟨Nat.le_trans (Nat.le_of_ble_eq_true rfl) hf, Nat.le_trans (Nat.le_of_ble_eq_true rfl) hlo⟩ hl.1 rfl (Nat.le_of_ble_eq_true rfl) dL_law_1105 ⟨hce, hsl⟩ hP hD hS (fun H locs hP hD hS => ?_)
    refine lv_lstore (lv' := [(7, .long vv), (6, .int 1), (5, .int (nI i)), (0, .ref b), (1, .ref x), (2, .ref (ad 0)), (3, .ref o), (4, .ref oD)]) hx hb dL_law_1108 hl (by decide) rfl (fun ls hl => ?_)
    refine lv_aload_n hx hb dL_law_1110 rfl (lv_at hl 5 rfl) ?_
    refine lm_V (As := []) (rest := []) C (k_thrown hG P1) tm_754 tm_755 tm_756 tm_3 tm_757 rfl hdX9_thrown ⟨Nat.le_trans (Nat.le_of_ble_eq_true rfl) hf, Nat.le_trans (Nat.le_of_ble_eq_true rfl) hlo⟩ hl.1 rfl (Nat.le_of_ble_eq_true rfl) dL_law_1111 ⟨hce, hsl⟩ hP hD hS (fun H locs hP hD hS => ?_)
    refine lv_iload hx hb dL_law_1114 (lv_at hl 1 rfl) ?_
    refine lv_icmp_eq (tgt := 1121) hx hb dL_law_1116 (by decide) (fun _ => ?_) (fun h9 => absurd (e0) h9)
    refine lv_iload hx hb dL_law_1121 (lv_at hl 1 rfl) ?_
    refine lv_if_ne (tgt := 1137) hx hb dL_law_1123 (by decide) (fun _ => ?_) (fun h9 => absurd h9 (by decide))
    refine lv_goto (tgt := 1140) hx hb dL_law_1137 (by decide) ?_
    exact kk S P1 f g H locs ls hR hP hD hS (lv_sub hl [2, 3, 4, 5, 6, 7] rfl)
end Law1
