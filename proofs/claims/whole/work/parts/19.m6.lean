/-! ===== the reference: consumer, replay ===== -/
theorem fo_rng {pl : Nat → Int32} {q : Int32} : ∀ (n : Nat) (f : Int32), fo pl q n f = f ∨ ∃ i, i < n ∧ fo pl q n f = nI i
  | 0, f => Or.inl rfl
  | k + 1, f => by
    rw [fo]
    by_cases h : 0 ≤ q ∧ pl k = q
    · rw [if_pos h]
      rcases fo_rng (pl := pl) (q := q) k (nI k) with h1 | ⟨i, hi, h1⟩
      · exact Or.inr ⟨k, by omega, h1⟩
      · exact Or.inr ⟨i, by omega, h1⟩
    · rw [if_neg h]
      rcases fo_rng (pl := pl) (q := q) k f with h1 | ⟨i, hi, h1⟩
      · exact Or.inl h1
      · exact Or.inr ⟨i, by omega, h1⟩
theorem fo_ix {pl : Nat → Int32} {q : Int32} {n : Nat} (hn : n ≤ 8) (h : ¬ fo pl q n (-1) < 0) : ix (fo pl q n (-1)) 8 (fo pl q n (-1)).toNatClampNeg := by
  rcases fo_rng (pl := pl) (q := q) n (-1) with h1 | ⟨i, hi, h1⟩
  · rw [h1] at h
    exact absurd (by decide) h
  · rw [h1, nI_clamp (by omega)]
    exact ix_nI (by omega) (by decide)
theorem bw_ne {v lo hi : Int32} (h : ¬ bw v lo hi = 0) : lo ≤ v ∧ v ≤ hi := Decidable.byContradiction fun h2 => h (if_neg h2)
/-- whether a consumer may be made so -/
def cGood (P : MS) (n : Nat) (k on how q : Int32) : Prop := ((0 : Int32) ≤ k ∧ k ≤ 3) ∧ (¬ on < 0 ∧ ¬ (1 : Int32) <<< (qS P 8 &&& 31) ≤ on) ∧ ((0 : Int32) ≤ how ∧ how ≤ 2) ∧ ((-1 : Int32) ≤ q ∧ q ≤ 1) ∧ (q < 0 ∨ ¬ how = 2) ∧ (fo (qI P 12) q n (-1) < 0 ∨ qI P 10 (fo (qI P 12) q n (-1)).toNatClampNeg = on)
def csS (P : MS) (n : Nat) (k on how q : Int32) : MS := sS (sI (sI (sI (sI (sI (sI (sI (sS P 0 0) 9 n k) 10 n on) 11 n how) 12 n q) 13 n (-1)) 18 n (-1)) 20 n (-1)) 8 (nI (n + 1))
abbrev rmX9_consumer : Room := { frames := 1, cells := 0, slots := 0, locals := 23 }
set_option maxRecDepth 100000 in
theorem k_cons_b {l : Launch} {s0 : State} {D : va_G} {cA : Nat → ClassId} {ad : Nat → Nat} (hG : cx_G l s0 D cA) {n : Nat} (k on how q : Int32) (P : MS) (hn : qS P 8 = nI n) (hn8 : n ≤ 8) (hgd : ¬ cGood P n k on how q) : MC l s0 D cA ad yX9_consumer cX9_consumer 6 (some .int) rmX9_consumer [.int k, .int on, .int how, .int q] P (some (.int 0)) (sS (sS P 0 0) 0 1) := by
  refine Ct.of (cA := cA) hG (by decide +kernel) (Nat.le_of_ble_eq_true rfl) ?_
  intro p e s m below meth c A C hnm hP hD hS ls hl
  have hx := cx_x C
  have hb := cx_b C
  have hl : lv_has ls 6 [(0, .ref (ad 0)), (1, .int k), (2, .int on), (3, .int how), (4, .int q)] := hl
  refine lv_aload_n hx hb dX9_consumer_0 rfl (lv_at hl 0 rfl) ?_
  refine lv_iconst (v := 0) hx hb dX9_consumer_1 (by decide) ?_
  refine pm_0 (v := 0) C hP hD hS tm_666 dX9_consumer_2 (fun H locs hP hD hS => ?_)
  refine lv_iload_n hx hb dX9_consumer_5 rfl (lv_at hl 1 rfl) ?_
  refine lv_iconst (v := 0) hx hb dX9_consumer_6 (by decide) ?_
  refine lv_iconst (v := 3) hx hb dX9_consumer_7 (by decide) ?_
  refine ct_S0 (As := [.int k, .int 0, .int 3]) (rest := []) (r := some (.int (bw k 0 3))) C (k_within (ad := fun x => x) hG _ _ _) tm_762 tm_763 tm_3 tm_764 hdX9_within.2 ⟨Nat.le_of_ble_eq_true rfl, Nat.le_of_ble_eq_true rfl⟩ hl.1 rfl (Nat.le_of_ble_eq_true rfl) dX9_consumer_8 ⟨Nat.le_of_ble_eq_true rfl, Nat.le_of_ble_eq_true rfl⟩ hP hD hS (fun H locs hP hD hS => ?_)
  refine lv_if_eq (tgt := 51) hx hb dX9_consumer_11 (by decide) (fun c11 => ?_) (fun c11 => ?_)
  · refine lv_iconst (v := 0) hx hb dX9_consumer_51 (by decide) ?_
    refine lv_istore (lv' := [(5, .int 0), (0, .ref (ad 0)), (1, .int k), (2, .int on), (3, .int how), (4, .int q)]) hx hb dX9_consumer_52 hl (by decide) rfl (fun ls hl => ?_)
    refine lv_iload hx hb dX9_consumer_54 (lv_at hl 0 rfl) ?_
    refine lv_if_eq (tgt := 97) hx hb dX9_consumer_56 (by decide) (fun _ => ?_) (fun h9 => absurd (by decide) h9)
    refine lv_iconst (v := 0) hx hb dX9_consumer_97 (by decide) ?_
    refine lv_istore (lv' := [(5, .int 0), (0, .ref (ad 0)), (1, .int k), (2, .int on), (3, .int how), (4, .int q)]) hx hb dX9_consumer_98 hl (by decide) rfl (fun ls hl => ?_)
    refine lv_iload hx hb dX9_consumer_100 (lv_at hl 0 rfl) ?_
    refine lv_if_ne (tgt := 111) hx hb dX9_consumer_102 (by decide) (fun h9 => absurd rfl h9) (fun _ => ?_)
    refine lv_aload_n hx hb dX9_consumer_105 rfl (lv_at hl 1 rfl) ?_
    refine lv_iconst (v := 1) hx hb dX9_consumer_106 (by decide) ?_
    refine mc_V (As := [.int 1]) (rest := []) (r := some (.int 0)) (T := sS (sS P 0 0) 0 1) C (k_fail hG _ _) tm_769 tm_771 tm_895 tm_3 tm_772 rfl hdX9_fail ⟨Nat.le_of_ble_eq_true rfl, Nat.le_of_ble_eq_true rfl⟩ hl.1 rfl (Nat.le_of_ble_eq_true rfl) dX9_consumer_107 ⟨Nat.le_of_ble_eq_true rfl, Nat.le_of_ble_eq_true rfl⟩ hP hD hS (fun H locs hP hD hS => ?_)
    exact ct_iret C hS hP hD (⟨rfl, rfl⟩) (Nat.le_of_ble_eq_true rfl) (Nat.le_of_ble_eq_true rfl) dX9_consumer_110
  refine lv_iload_n hx hb dX9_consumer_14 rfl (lv_at hl 2 rfl) ?_
  refine lv_if_lt (tgt := 51) hx hb dX9_consumer_15 (by decide) (fun c15 => ?_) (fun c15 => ?_)
  · refine lv_iconst (v := 0) hx hb dX9_consumer_51 (by decide) ?_
    refine lv_istore (lv' := [(5, .int 0), (0, .ref (ad 0)), (1, .int k), (2, .int on), (3, .int how), (4, .int q)]) hx hb dX9_consumer_52 hl (by decide) rfl (fun ls hl => ?_)
    refine lv_iload hx hb dX9_consumer_54 (lv_at hl 0 rfl) ?_
    refine lv_if_eq (tgt := 97) hx hb dX9_consumer_56 (by decide) (fun _ => ?_) (fun h9 => absurd (by decide) h9)
    refine lv_iconst (v := 0) hx hb dX9_consumer_97 (by decide) ?_
    refine lv_istore (lv' := [(5, .int 0), (0, .ref (ad 0)), (1, .int k), (2, .int on), (3, .int how), (4, .int q)]) hx hb dX9_consumer_98 hl (by decide) rfl (fun ls hl => ?_)
    refine lv_iload hx hb dX9_consumer_100 (lv_at hl 0 rfl) ?_
    refine lv_if_ne (tgt := 111) hx hb dX9_consumer_102 (by decide) (fun h9 => absurd rfl h9) (fun _ => ?_)
    refine lv_aload_n hx hb dX9_consumer_105 rfl (lv_at hl 1 rfl) ?_
    refine lv_iconst (v := 1) hx hb dX9_consumer_106 (by decide) ?_
    refine mc_V (As := [.int 1]) (rest := []) (r := some (.int 0)) (T := sS (sS P 0 0) 0 1) C (k_fail hG _ _) tm_769 tm_771 tm_895 tm_3 tm_772 rfl hdX9_fail ⟨Nat.le_of_ble_eq_true rfl, Nat.le_of_ble_eq_true rfl⟩ hl.1 rfl (Nat.le_of_ble_eq_true rfl) dX9_consumer_107 ⟨Nat.le_of_ble_eq_true rfl, Nat.le_of_ble_eq_true rfl⟩ hP hD hS (fun H locs hP hD hS => ?_)
    exact ct_iret C hS hP hD (⟨rfl, rfl⟩) (Nat.le_of_ble_eq_true rfl) (Nat.le_of_ble_eq_true rfl) dX9_consumer_110
  refine lv_iload_n hx hb dX9_consumer_18 rfl (lv_at hl 2 rfl) ?_
  refine lv_iconst (v := 1) hx hb dX9_consumer_19 (by decide) ?_
  refine lv_aload_n hx hb dX9_consumer_20 rfl (lv_at hl 0 rfl) ?_
  refine gm_8 (v := qS P 8) C hP rfl tm_674 dX9_consumer_21 ?_
  refine lv_ishl hx hb dX9_consumer_24 ?_
  refine lv_icmp_ge (tgt := 51) hx hb dX9_consumer_25 (by decide) (fun c25 => ?_) (fun c25 => ?_)
  · refine lv_iconst (v := 0) hx hb dX9_consumer_51 (by decide) ?_
    refine lv_istore (lv' := [(5, .int 0), (0, .ref (ad 0)), (1, .int k), (2, .int on), (3, .int how), (4, .int q)]) hx hb dX9_consumer_52 hl (by decide) rfl (fun ls hl => ?_)
    refine lv_iload hx hb dX9_consumer_54 (lv_at hl 0 rfl) ?_
    refine lv_if_eq (tgt := 97) hx hb dX9_consumer_56 (by decide) (fun _ => ?_) (fun h9 => absurd (by decide) h9)
    refine lv_iconst (v := 0) hx hb dX9_consumer_97 (by decide) ?_
    refine lv_istore (lv' := [(5, .int 0), (0, .ref (ad 0)), (1, .int k), (2, .int on), (3, .int how), (4, .int q)]) hx hb dX9_consumer_98 hl (by decide) rfl (fun ls hl => ?_)
    refine lv_iload hx hb dX9_consumer_100 (lv_at hl 0 rfl) ?_
    refine lv_if_ne (tgt := 111) hx hb dX9_consumer_102 (by decide) (fun h9 => absurd rfl h9) (fun _ => ?_)
    refine lv_aload_n hx hb dX9_consumer_105 rfl (lv_at hl 1 rfl) ?_
    refine lv_iconst (v := 1) hx hb dX9_consumer_106 (by decide) ?_
    refine mc_V (As := [.int 1]) (rest := []) (r := some (.int 0)) (T := sS (sS P 0 0) 0 1) C (k_fail hG _ _) tm_769 tm_771 tm_895 tm_3 tm_772 rfl hdX9_fail ⟨Nat.le_of_ble_eq_true rfl, Nat.le_of_ble_eq_true rfl⟩ hl.1 rfl (Nat.le_of_ble_eq_true rfl) dX9_consumer_107 ⟨Nat.le_of_ble_eq_true rfl, Nat.le_of_ble_eq_true rfl⟩ hP hD hS (fun H locs hP hD hS => ?_)
    exact ct_iret C hS hP hD (⟨rfl, rfl⟩) (Nat.le_of_ble_eq_true rfl) (Nat.le_of_ble_eq_true rfl) dX9_consumer_110
  refine lv_iload_n hx hb dX9_consumer_28 rfl (lv_at hl 3 rfl) ?_
  refine lv_iconst (v := 0) hx hb dX9_consumer_29 (by decide) ?_
  refine lv_iconst (v := 2) hx hb dX9_consumer_30 (by decide) ?_
  refine ct_S0 (As := [.int how, .int 0, .int 2]) (rest := []) (r := some (.int (bw how 0 2))) C (k_within (ad := fun x => x) hG _ _ _) tm_762 tm_763 tm_3 tm_764 hdX9_within.2 ⟨Nat.le_of_ble_eq_true rfl, Nat.le_of_ble_eq_true rfl⟩ hl.1 rfl (Nat.le_of_ble_eq_true rfl) dX9_consumer_31 ⟨Nat.le_of_ble_eq_true rfl, Nat.le_of_ble_eq_true rfl⟩ hP hD hS (fun H locs hP hD hS => ?_)
  refine lv_if_eq (tgt := 51) hx hb dX9_consumer_34 (by decide) (fun c34 => ?_) (fun c34 => ?_)
  · refine lv_iconst (v := 0) hx hb dX9_consumer_51 (by decide) ?_
    refine lv_istore (lv' := [(5, .int 0), (0, .ref (ad 0)), (1, .int k), (2, .int on), (3, .int how), (4, .int q)]) hx hb dX9_consumer_52 hl (by decide) rfl (fun ls hl => ?_)
    refine lv_iload hx hb dX9_consumer_54 (lv_at hl 0 rfl) ?_
    refine lv_if_eq (tgt := 97) hx hb dX9_consumer_56 (by decide) (fun _ => ?_) (fun h9 => absurd (by decide) h9)
    refine lv_iconst (v := 0) hx hb dX9_consumer_97 (by decide) ?_
    refine lv_istore (lv' := [(5, .int 0), (0, .ref (ad 0)), (1, .int k), (2, .int on), (3, .int how), (4, .int q)]) hx hb dX9_consumer_98 hl (by decide) rfl (fun ls hl => ?_)
    refine lv_iload hx hb dX9_consumer_100 (lv_at hl 0 rfl) ?_
    refine lv_if_ne (tgt := 111) hx hb dX9_consumer_102 (by decide) (fun h9 => absurd rfl h9) (fun _ => ?_)
    refine lv_aload_n hx hb dX9_consumer_105 rfl (lv_at hl 1 rfl) ?_
    refine lv_iconst (v := 1) hx hb dX9_consumer_106 (by decide) ?_
    refine mc_V (As := [.int 1]) (rest := []) (r := some (.int 0)) (T := sS (sS P 0 0) 0 1) C (k_fail hG _ _) tm_769 tm_771 tm_895 tm_3 tm_772 rfl hdX9_fail ⟨Nat.le_of_ble_eq_true rfl, Nat.le_of_ble_eq_true rfl⟩ hl.1 rfl (Nat.le_of_ble_eq_true rfl) dX9_consumer_107 ⟨Nat.le_of_ble_eq_true rfl, Nat.le_of_ble_eq_true rfl⟩ hP hD hS (fun H locs hP hD hS => ?_)
    exact ct_iret C hS hP hD (⟨rfl, rfl⟩) (Nat.le_of_ble_eq_true rfl) (Nat.le_of_ble_eq_true rfl) dX9_consumer_110
  refine lv_iload hx hb dX9_consumer_37 (lv_at hl 4 rfl) ?_
  refine lv_iconst (v := (-1)) hx hb dX9_consumer_39 (by decide) ?_
  refine lv_iconst (v := 1) hx hb dX9_consumer_40 (by decide) ?_
  refine ct_S0 (As := [.int q, .int (-1), .int 1]) (rest := []) (r := some (.int (bw q (-1) 1))) C (k_within (ad := fun x => x) hG _ _ _) tm_762 tm_763 tm_3 tm_764 hdX9_within.2 ⟨Nat.le_of_ble_eq_true rfl, Nat.le_of_ble_eq_true rfl⟩ hl.1 rfl (Nat.le_of_ble_eq_true rfl) dX9_consumer_41 ⟨Nat.le_of_ble_eq_true rfl, Nat.le_of_ble_eq_true rfl⟩ hP hD hS (fun H locs hP hD hS => ?_)
  refine lv_if_eq (tgt := 51) hx hb dX9_consumer_44 (by decide) (fun c44 => ?_) (fun c44 => ?_)
  · refine lv_iconst (v := 0) hx hb dX9_consumer_51 (by decide) ?_
    refine lv_istore (lv' := [(5, .int 0), (0, .ref (ad 0)), (1, .int k), (2, .int on), (3, .int how), (4, .int q)]) hx hb dX9_consumer_52 hl (by decide) rfl (fun ls hl => ?_)
    refine lv_iload hx hb dX9_consumer_54 (lv_at hl 0 rfl) ?_
    refine lv_if_eq (tgt := 97) hx hb dX9_consumer_56 (by decide) (fun _ => ?_) (fun h9 => absurd (by decide) h9)
    refine lv_iconst (v := 0) hx hb dX9_consumer_97 (by decide) ?_
    refine lv_istore (lv' := [(5, .int 0), (0, .ref (ad 0)), (1, .int k), (2, .int on), (3, .int how), (4, .int q)]) hx hb dX9_consumer_98 hl (by decide) rfl (fun ls hl => ?_)
    refine lv_iload hx hb dX9_consumer_100 (lv_at hl 0 rfl) ?_
    refine lv_if_ne (tgt := 111) hx hb dX9_consumer_102 (by decide) (fun h9 => absurd rfl h9) (fun _ => ?_)
    refine lv_aload_n hx hb dX9_consumer_105 rfl (lv_at hl 1 rfl) ?_
    refine lv_iconst (v := 1) hx hb dX9_consumer_106 (by decide) ?_
    refine mc_V (As := [.int 1]) (rest := []) (r := some (.int 0)) (T := sS (sS P 0 0) 0 1) C (k_fail hG _ _) tm_769 tm_771 tm_895 tm_3 tm_772 rfl hdX9_fail ⟨Nat.le_of_ble_eq_true rfl, Nat.le_of_ble_eq_true rfl⟩ hl.1 rfl (Nat.le_of_ble_eq_true rfl) dX9_consumer_107 ⟨Nat.le_of_ble_eq_true rfl, Nat.le_of_ble_eq_true rfl⟩ hP hD hS (fun H locs hP hD hS => ?_)
    exact ct_iret C hS hP hD (⟨rfl, rfl⟩) (Nat.le_of_ble_eq_true rfl) (Nat.le_of_ble_eq_true rfl) dX9_consumer_110
  refine lv_iconst (v := 1) hx hb dX9_consumer_47 (by decide) ?_
  refine lv_goto (tgt := 52) hx hb dX9_consumer_48 (by decide) ?_
  refine lv_istore (lv' := [(5, .int 1), (0, .ref (ad 0)), (1, .int k), (2, .int on), (3, .int how), (4, .int q)]) hx hb dX9_consumer_52 hl (by decide) rfl (fun ls hl => ?_)
  refine lv_iload hx hb dX9_consumer_54 (lv_at hl 0 rfl) ?_
  refine lv_if_eq (tgt := 97) hx hb dX9_consumer_56 (by decide) (fun h9 => absurd h9 (by decide)) (fun _ => ?_)
  refine lv_iload hx hb dX9_consumer_59 (lv_at hl 5 rfl) ?_
  refine lv_if_lt (tgt := 69) hx hb dX9_consumer_61 (by decide) (fun c61 => ?_) (fun c61 => ?_)
  · refine lv_aload_n hx hb dX9_consumer_69 rfl (lv_at hl 1 rfl) ?_
    refine lv_iload hx hb dX9_consumer_70 (lv_at hl 5 rfl) ?_
    refine mc_V (As := [.int q]) (rest := []) (r := some (.int (fo (qI P 12) q n (-1)))) (T := sS P 0 0) C (k_firstOf (n := n) hG _ (sS P 0 0) hn hn8) tm_765 tm_767 tm_894 tm_3 tm_768 rfl hdX9_firstOf ⟨Nat.le_of_ble_eq_true rfl, Nat.le_of_ble_eq_true rfl⟩ hl.1 rfl (Nat.le_of_ble_eq_true rfl) dX9_consumer_72 ⟨Nat.le_of_ble_eq_true rfl, Nat.le_of_ble_eq_true rfl⟩ hP hD hS (fun H locs hP hD hS => ?_)
    refine lv_if_lt (tgt := 93) hx hb dX9_consumer_75 (by decide) (fun c75 => ?_) (fun c75 => ?_)
    · exact absurd ⟨bw_ne c11, ⟨c15, c25⟩, bw_ne c34, bw_ne c44, (by first | exact Or.inl c61 | exact Or.inr c66), Or.inl c75⟩ hgd
    refine lv_aload_n hx hb dX9_consumer_78 rfl (lv_at hl 1 rfl) ?_
    refine gm_10 C hP tm_676 dX9_consumer_79 ?_
    refine lv_aload_n hx hb dX9_consumer_82 rfl (lv_at hl 1 rfl) ?_
    refine lv_iload hx hb dX9_consumer_83 (lv_at hl 5 rfl) ?_
    refine mc_V (As := [.int q]) (rest := [.ref (ad 10)]) (r := some (.int (fo (qI P 12) q n (-1)))) (T := sS P 0 0) C (k_firstOf (n := n) hG _ (sS P 0 0) hn hn8) tm_765 tm_767 tm_894 tm_3 tm_768 rfl hdX9_firstOf ⟨Nat.le_of_ble_eq_true rfl, Nat.le_of_ble_eq_true rfl⟩ hl.1 rfl (Nat.le_of_ble_eq_true rfl) dX9_consumer_85 ⟨Nat.le_of_ble_eq_true rfl, Nat.le_of_ble_eq_true rfl⟩ hP hD hS (fun H locs hP hD hS => ?_)
    refine xl_10 (v := qI P 10 ((fo (qI P 12) q n (-1)).toNatClampNeg)) (j := (fo (qI P 12) q n (-1)).toNatClampNeg) C hP (fo_ix hn8 c75) (rfl) dX9_consumer_88 ?_
    refine lv_iload_n hx hb dX9_consumer_89 rfl (lv_at hl 3 rfl) ?_
    refine lv_icmp_ne (tgt := 97) hx hb dX9_consumer_90 (by decide) (fun c90 => ?_) (fun c90 => ?_)
    · refine lv_iconst (v := 0) hx hb dX9_consumer_97 (by decide) ?_
      refine lv_istore (lv' := [(5, .int 0), (0, .ref (ad 0)), (1, .int k), (2, .int on), (3, .int how), (4, .int q)]) hx hb dX9_consumer_98 hl (by decide) rfl (fun ls hl => ?_)
      refine lv_iload hx hb dX9_consumer_100 (lv_at hl 0 rfl) ?_
      refine lv_if_ne (tgt := 111) hx hb dX9_consumer_102 (by decide) (fun h9 => absurd rfl h9) (fun _ => ?_)
      refine lv_aload_n hx hb dX9_consumer_105 rfl (lv_at hl 1 rfl) ?_
      refine lv_iconst (v := 1) hx hb dX9_consumer_106 (by decide) ?_
      refine mc_V (As := [.int 1]) (rest := []) (r := some (.int 0)) (T := sS (sS P 0 0) 0 1) C (k_fail hG _ _) tm_769 tm_771 tm_895 tm_3 tm_772 rfl hdX9_fail ⟨Nat.le_of_ble_eq_true rfl, Nat.le_of_ble_eq_true rfl⟩ hl.1 rfl (Nat.le_of_ble_eq_true rfl) dX9_consumer_107 ⟨Nat.le_of_ble_eq_true rfl, Nat.le_of_ble_eq_true rfl⟩ hP hD hS (fun H locs hP hD hS => ?_)
      exact ct_iret C hS hP hD (⟨rfl, rfl⟩) (Nat.le_of_ble_eq_true rfl) (Nat.le_of_ble_eq_true rfl) dX9_consumer_110
    exact absurd ⟨bw_ne c11, ⟨c15, c25⟩, bw_ne c34, bw_ne c44, (by first | exact Or.inl c61 | exact Or.inr c66), Or.inr c90⟩ hgd
  refine lv_iload_n hx hb dX9_consumer_64 rfl (lv_at hl 4 rfl) ?_
  refine lv_iconst (v := 2) hx hb dX9_consumer_65 (by decide) ?_
  refine lv_icmp_eq (tgt := 97) hx hb dX9_consumer_66 (by decide) (fun c66 => ?_) (fun c66 => ?_)
  · refine lv_iconst (v := 0) hx hb dX9_consumer_97 (by decide) ?_
    refine lv_istore (lv' := [(5, .int 0), (0, .ref (ad 0)), (1, .int k), (2, .int on), (3, .int how), (4, .int q)]) hx hb dX9_consumer_98 hl (by decide) rfl (fun ls hl => ?_)
    refine lv_iload hx hb dX9_consumer_100 (lv_at hl 0 rfl) ?_
    refine lv_if_ne (tgt := 111) hx hb dX9_consumer_102 (by decide) (fun h9 => absurd rfl h9) (fun _ => ?_)
    refine lv_aload_n hx hb dX9_consumer_105 rfl (lv_at hl 1 rfl) ?_
    refine lv_iconst (v := 1) hx hb dX9_consumer_106 (by decide) ?_
    refine mc_V (As := [.int 1]) (rest := []) (r := some (.int 0)) (T := sS (sS P 0 0) 0 1) C (k_fail hG _ _) tm_769 tm_771 tm_895 tm_3 tm_772 rfl hdX9_fail ⟨Nat.le_of_ble_eq_true rfl, Nat.le_of_ble_eq_true rfl⟩ hl.1 rfl (Nat.le_of_ble_eq_true rfl) dX9_consumer_107 ⟨Nat.le_of_ble_eq_true rfl, Nat.le_of_ble_eq_true rfl⟩ hP hD hS (fun H locs hP hD hS => ?_)
    exact ct_iret C hS hP hD (⟨rfl, rfl⟩) (Nat.le_of_ble_eq_true rfl) (Nat.le_of_ble_eq_true rfl) dX9_consumer_110
  refine lv_aload_n hx hb dX9_consumer_69 rfl (lv_at hl 1 rfl) ?_
  refine lv_iload hx hb dX9_consumer_70 (lv_at hl 5 rfl) ?_
  refine mc_V (As := [.int q]) (rest := []) (r := some (.int (fo (qI P 12) q n (-1)))) (T := sS P 0 0) C (k_firstOf (n := n) hG _ (sS P 0 0) hn hn8) tm_765 tm_767 tm_894 tm_3 tm_768 rfl hdX9_firstOf ⟨Nat.le_of_ble_eq_true rfl, Nat.le_of_ble_eq_true rfl⟩ hl.1 rfl (Nat.le_of_ble_eq_true rfl) dX9_consumer_72 ⟨Nat.le_of_ble_eq_true rfl, Nat.le_of_ble_eq_true rfl⟩ hP hD hS (fun H locs hP hD hS => ?_)
  refine lv_if_lt (tgt := 93) hx hb dX9_consumer_75 (by decide) (fun c75 => ?_) (fun c75 => ?_)
  · exact absurd ⟨bw_ne c11, ⟨c15, c25⟩, bw_ne c34, bw_ne c44, (by first | exact Or.inl c61 | exact Or.inr c66), Or.inl c75⟩ hgd
  refine lv_aload_n hx hb dX9_consumer_78 rfl (lv_at hl 1 rfl) ?_
  refine gm_10 C hP tm_676 dX9_consumer_79 ?_
  refine lv_aload_n hx hb dX9_consumer_82 rfl (lv_at hl 1 rfl) ?_
  refine lv_iload hx hb dX9_consumer_83 (lv_at hl 5 rfl) ?_
  refine mc_V (As := [.int q]) (rest := [.ref (ad 10)]) (r := some (.int (fo (qI P 12) q n (-1)))) (T := sS P 0 0) C (k_firstOf (n := n) hG _ (sS P 0 0) hn hn8) tm_765 tm_767 tm_894 tm_3 tm_768 rfl hdX9_firstOf ⟨Nat.le_of_ble_eq_true rfl, Nat.le_of_ble_eq_true rfl⟩ hl.1 rfl (Nat.le_of_ble_eq_true rfl) dX9_consumer_85 ⟨Nat.le_of_ble_eq_true rfl, Nat.le_of_ble_eq_true rfl⟩ hP hD hS (fun H locs hP hD hS => ?_)
  refine xl_10 (v := qI P 10 ((fo (qI P 12) q n (-1)).toNatClampNeg)) (j := (fo (qI P 12) q n (-1)).toNatClampNeg) C hP (fo_ix hn8 c75) (rfl) dX9_consumer_88 ?_
  refine lv_iload_n hx hb dX9_consumer_89 rfl (lv_at hl 3 rfl) ?_
  refine lv_icmp_ne (tgt := 97) hx hb dX9_consumer_90 (by decide) (fun c90 => ?_) (fun c90 => ?_)
  · refine lv_iconst (v := 0) hx hb dX9_consumer_97 (by decide) ?_
    refine lv_istore (lv' := [(5, .int 0), (0, .ref (ad 0)), (1, .int k), (2, .int on), (3, .int how), (4, .int q)]) hx hb dX9_consumer_98 hl (by decide) rfl (fun ls hl => ?_)
    refine lv_iload hx hb dX9_consumer_100 (lv_at hl 0 rfl) ?_
    refine lv_if_ne (tgt := 111) hx hb dX9_consumer_102 (by decide) (fun h9 => absurd rfl h9) (fun _ => ?_)
    refine lv_aload_n hx hb dX9_consumer_105 rfl (lv_at hl 1 rfl) ?_
    refine lv_iconst (v := 1) hx hb dX9_consumer_106 (by decide) ?_
    refine mc_V (As := [.int 1]) (rest := []) (r := some (.int 0)) (T := sS (sS P 0 0) 0 1) C (k_fail hG _ _) tm_769 tm_771 tm_895 tm_3 tm_772 rfl hdX9_fail ⟨Nat.le_of_ble_eq_true rfl, Nat.le_of_ble_eq_true rfl⟩ hl.1 rfl (Nat.le_of_ble_eq_true rfl) dX9_consumer_107 ⟨Nat.le_of_ble_eq_true rfl, Nat.le_of_ble_eq_true rfl⟩ hP hD hS (fun H locs hP hD hS => ?_)
    exact ct_iret C hS hP hD (⟨rfl, rfl⟩) (Nat.le_of_ble_eq_true rfl) (Nat.le_of_ble_eq_true rfl) dX9_consumer_110
  exact absurd ⟨bw_ne c11, ⟨c15, c25⟩, bw_ne c34, bw_ne c44, (by first | exact Or.inl c61 | exact Or.inr c66), Or.inr c90⟩ hgd
set_option maxRecDepth 100000 in
theorem k_cons_f {l : Launch} {s0 : State} {D : va_G} {cA : Nat → ClassId} {ad : Nat → Nat} (hG : cx_G l s0 D cA) {n : Nat} (k on how q : Int32) (P : MS) (hn : qS P 8 = nI n) (hn8 : n ≤ 8) (hb : cGood P n k on how q) (hf : qS P 8 = 8 ∨ 0 ≤ qS P 3) : MC l s0 D cA ad yX9_consumer cX9_consumer 6 (some .int) rmX9_consumer [.int k, .int on, .int how, .int q] P (some (.int 0)) (sS (sS P 0 0) 0 2) := by
  obtain ⟨g1, ⟨g2, g3⟩, g4, g5, g6, g7⟩ := hb
  refine Ct.of (cA := cA) hG (by decide +kernel) (Nat.le_of_ble_eq_true rfl) ?_
  intro p e s m below meth c A C hnm hP hD hS ls hl
  have hx := cx_x C
  have hb := cx_b C
  have hl : lv_has ls 6 [(0, .ref (ad 0)), (1, .int k), (2, .int on), (3, .int how), (4, .int q)] := hl
  refine lv_aload_n hx hb dX9_consumer_0 rfl (lv_at hl 0 rfl) ?_
  refine lv_iconst (v := 0) hx hb dX9_consumer_1 (by decide) ?_
  refine pm_0 (v := 0) C hP hD hS tm_666 dX9_consumer_2 (fun H locs hP hD hS => ?_)
  refine lv_iload_n hx hb dX9_consumer_5 rfl (lv_at hl 1 rfl) ?_
  refine lv_iconst (v := 0) hx hb dX9_consumer_6 (by decide) ?_
  refine lv_iconst (v := 3) hx hb dX9_consumer_7 (by decide) ?_
  refine ct_S0 (As := [.int k, .int 0, .int 3]) (rest := []) (r := some (.int 1)) C (k_within1 hG _ _ _ (g1)) tm_762 tm_763 tm_3 tm_764 hdX9_within.2 ⟨Nat.le_of_ble_eq_true rfl, Nat.le_of_ble_eq_true rfl⟩ hl.1 rfl (Nat.le_of_ble_eq_true rfl) dX9_consumer_8 ⟨Nat.le_of_ble_eq_true rfl, Nat.le_of_ble_eq_true rfl⟩ hP hD hS (fun H locs hP hD hS => ?_)
  refine lv_if_eq (tgt := 51) hx hb dX9_consumer_11 (by decide) (fun h9 => absurd h9 (by decide)) (fun _ => ?_)
  refine lv_iload_n hx hb dX9_consumer_14 rfl (lv_at hl 2 rfl) ?_
  refine lv_if_lt (tgt := 51) hx hb dX9_consumer_15 (by decide) (fun h9 => absurd h9 (g2)) (fun _ => ?_)
  refine lv_iload_n hx hb dX9_consumer_18 rfl (lv_at hl 2 rfl) ?_
  refine lv_iconst (v := 1) hx hb dX9_consumer_19 (by decide) ?_
  refine lv_aload_n hx hb dX9_consumer_20 rfl (lv_at hl 0 rfl) ?_
  refine gm_8 (v := qS P 8) C hP rfl tm_674 dX9_consumer_21 ?_
  refine lv_ishl hx hb dX9_consumer_24 ?_
  refine lv_icmp_ge (tgt := 51) hx hb dX9_consumer_25 (by decide) (fun h9 => absurd h9 (g3)) (fun _ => ?_)
  refine lv_iload_n hx hb dX9_consumer_28 rfl (lv_at hl 3 rfl) ?_
  refine lv_iconst (v := 0) hx hb dX9_consumer_29 (by decide) ?_
  refine lv_iconst (v := 2) hx hb dX9_consumer_30 (by decide) ?_
  refine ct_S0 (As := [.int how, .int 0, .int 2]) (rest := []) (r := some (.int 1)) C (k_within1 hG _ _ _ (g4)) tm_762 tm_763 tm_3 tm_764 hdX9_within.2 ⟨Nat.le_of_ble_eq_true rfl, Nat.le_of_ble_eq_true rfl⟩ hl.1 rfl (Nat.le_of_ble_eq_true rfl) dX9_consumer_31 ⟨Nat.le_of_ble_eq_true rfl, Nat.le_of_ble_eq_true rfl⟩ hP hD hS (fun H locs hP hD hS => ?_)
  refine lv_if_eq (tgt := 51) hx hb dX9_consumer_34 (by decide) (fun h9 => absurd h9 (by decide)) (fun _ => ?_)
  refine lv_iload hx hb dX9_consumer_37 (lv_at hl 4 rfl) ?_
  refine lv_iconst (v := (-1)) hx hb dX9_consumer_39 (by decide) ?_
  refine lv_iconst (v := 1) hx hb dX9_consumer_40 (by decide) ?_
  refine ct_S0 (As := [.int q, .int (-1), .int 1]) (rest := []) (r := some (.int 1)) C (k_within1 hG _ _ _ (g5)) tm_762 tm_763 tm_3 tm_764 hdX9_within.2 ⟨Nat.le_of_ble_eq_true rfl, Nat.le_of_ble_eq_true rfl⟩ hl.1 rfl (Nat.le_of_ble_eq_true rfl) dX9_consumer_41 ⟨Nat.le_of_ble_eq_true rfl, Nat.le_of_ble_eq_true rfl⟩ hP hD hS (fun H locs hP hD hS => ?_)
  refine lv_if_eq (tgt := 51) hx hb dX9_consumer_44 (by decide) (fun h9 => absurd h9 (by decide)) (fun _ => ?_)
  refine lv_iconst (v := 1) hx hb dX9_consumer_47 (by decide) ?_
  refine lv_goto (tgt := 52) hx hb dX9_consumer_48 (by decide) ?_
  refine lv_istore (lv' := [(5, .int 1), (0, .ref (ad 0)), (1, .int k), (2, .int on), (3, .int how), (4, .int q)]) hx hb dX9_consumer_52 hl (by decide) rfl (fun ls hl => ?_)
  refine lv_iload hx hb dX9_consumer_54 (lv_at hl 0 rfl) ?_
  refine lv_if_eq (tgt := 97) hx hb dX9_consumer_56 (by decide) (fun h9 => absurd h9 (by decide)) (fun _ => ?_)
  refine lv_iload hx hb dX9_consumer_59 (lv_at hl 5 rfl) ?_
  refine lv_if_lt (tgt := 69) hx hb dX9_consumer_61 (by decide) (fun c61 => ?_) (fun c61 => ?_)
  · refine lv_aload_n hx hb dX9_consumer_69 rfl (lv_at hl 1 rfl) ?_
    refine lv_iload hx hb dX9_consumer_70 (lv_at hl 5 rfl) ?_
    refine mc_V (As := [.int q]) (rest := []) (r := some (.int (fo (qI P 12) q n (-1)))) (T := sS P 0 0) C (k_firstOf (n := n) hG _ (sS P 0 0) hn hn8) tm_765 tm_767 tm_894 tm_3 tm_768 rfl hdX9_firstOf ⟨Nat.le_of_ble_eq_true rfl, Nat.le_of_ble_eq_true rfl⟩ hl.1 rfl (Nat.le_of_ble_eq_true rfl) dX9_consumer_72 ⟨Nat.le_of_ble_eq_true rfl, Nat.le_of_ble_eq_true rfl⟩ hP hD hS (fun H locs hP hD hS => ?_)
    refine lv_if_lt (tgt := 93) hx hb dX9_consumer_75 (by decide) (fun c75 => ?_) (fun c75 => ?_)
    · refine lv_iconst (v := 1) hx hb dX9_consumer_93 (by decide) ?_
      refine lv_goto (tgt := 98) hx hb dX9_consumer_94 (by decide) ?_
      refine lv_istore (lv' := [(5, .int 1), (0, .ref (ad 0)), (1, .int k), (2, .int on), (3, .int how), (4, .int q)]) hx hb dX9_consumer_98 hl (by decide) rfl (fun ls hl => ?_)
      refine lv_iload hx hb dX9_consumer_100 (lv_at hl 0 rfl) ?_
      refine lv_if_ne (tgt := 111) hx hb dX9_consumer_102 (by decide) (fun _ => ?_) (fun h9 => absurd h9 (by decide))
      refine lv_aload_n hx hb dX9_consumer_111 rfl (lv_at hl 1 rfl) ?_
      refine gm_8 (v := qS P 8) C hP rfl tm_674 dX9_consumer_112 ?_
      refine lv_bipush (v := 8) hx hb dX9_consumer_115 (by decide) ?_
      refine lv_icmp_eq (tgt := 127) hx hb dX9_consumer_117 (by decide) (fun c8 => ?_) (fun c8 => ?_)
      · refine lv_aload_n hx hb dX9_consumer_127 rfl (lv_at hl 1 rfl) ?_
        refine lv_iconst (v := 2) hx hb dX9_consumer_128 (by decide) ?_
        refine mc_V (As := [.int 2]) (rest := []) (r := some (.int 0)) (T := sS (sS P 0 0) 0 2) C (k_fail hG _ _) tm_769 tm_771 tm_895 tm_3 tm_772 rfl hdX9_fail ⟨Nat.le_of_ble_eq_true rfl, Nat.le_of_ble_eq_true rfl⟩ hl.1 rfl (Nat.le_of_ble_eq_true rfl) dX9_consumer_129 ⟨Nat.le_of_ble_eq_true rfl, Nat.le_of_ble_eq_true rfl⟩ hP hD hS (fun H locs hP hD hS => ?_)
        exact ct_iret C hS hP hD (⟨rfl, rfl⟩) (Nat.le_of_ble_eq_true rfl) (Nat.le_of_ble_eq_true rfl) dX9_consumer_132
      refine lv_aload_n hx hb dX9_consumer_120 rfl (lv_at hl 1 rfl) ?_
      refine gm_3 (v := qS P 3) C hP rfl tm_669 dX9_consumer_121 ?_
      refine lv_if_lt (tgt := 133) hx hb dX9_consumer_124 (by decide) (fun c9 => ?_) (fun c9 => ?_)
      · exact absurd (hf.resolve_left c8) (Int32.not_le.mpr c9)
      refine lv_aload_n hx hb dX9_consumer_127 rfl (lv_at hl 1 rfl) ?_
      refine lv_iconst (v := 2) hx hb dX9_consumer_128 (by decide) ?_
      refine mc_V (As := [.int 2]) (rest := []) (r := some (.int 0)) (T := sS (sS P 0 0) 0 2) C (k_fail hG _ _) tm_769 tm_771 tm_895 tm_3 tm_772 rfl hdX9_fail ⟨Nat.le_of_ble_eq_true rfl, Nat.le_of_ble_eq_true rfl⟩ hl.1 rfl (Nat.le_of_ble_eq_true rfl) dX9_consumer_129 ⟨Nat.le_of_ble_eq_true rfl, Nat.le_of_ble_eq_true rfl⟩ hP hD hS (fun H locs hP hD hS => ?_)
      exact ct_iret C hS hP hD (⟨rfl, rfl⟩) (Nat.le_of_ble_eq_true rfl) (Nat.le_of_ble_eq_true rfl) dX9_consumer_132
    refine lv_aload_n hx hb dX9_consumer_78 rfl (lv_at hl 1 rfl) ?_
    refine gm_10 C hP tm_676 dX9_consumer_79 ?_
    refine lv_aload_n hx hb dX9_consumer_82 rfl (lv_at hl 1 rfl) ?_
    refine lv_iload hx hb dX9_consumer_83 (lv_at hl 5 rfl) ?_
    refine mc_V (As := [.int q]) (rest := [.ref (ad 10)]) (r := some (.int (fo (qI P 12) q n (-1)))) (T := sS P 0 0) C (k_firstOf (n := n) hG _ (sS P 0 0) hn hn8) tm_765 tm_767 tm_894 tm_3 tm_768 rfl hdX9_firstOf ⟨Nat.le_of_ble_eq_true rfl, Nat.le_of_ble_eq_true rfl⟩ hl.1 rfl (Nat.le_of_ble_eq_true rfl) dX9_consumer_85 ⟨Nat.le_of_ble_eq_true rfl, Nat.le_of_ble_eq_true rfl⟩ hP hD hS (fun H locs hP hD hS => ?_)
    refine xl_10 (v := qI P 10 ((fo (qI P 12) q n (-1)).toNatClampNeg)) (j := (fo (qI P 12) q n (-1)).toNatClampNeg) C hP (fo_ix hn8 c75) (rfl) dX9_consumer_88 ?_
    refine lv_iload_n hx hb dX9_consumer_89 rfl (lv_at hl 3 rfl) ?_
    refine lv_icmp_ne (tgt := 97) hx hb dX9_consumer_90 (by decide) (fun h9 => absurd (g7.resolve_left c75) h9) (fun _ => ?_)
    refine lv_iconst (v := 1) hx hb dX9_consumer_93 (by decide) ?_
    refine lv_goto (tgt := 98) hx hb dX9_consumer_94 (by decide) ?_
    refine lv_istore (lv' := [(5, .int 1), (0, .ref (ad 0)), (1, .int k), (2, .int on), (3, .int how), (4, .int q)]) hx hb dX9_consumer_98 hl (by decide) rfl (fun ls hl => ?_)
    refine lv_iload hx hb dX9_consumer_100 (lv_at hl 0 rfl) ?_
    refine lv_if_ne (tgt := 111) hx hb dX9_consumer_102 (by decide) (fun _ => ?_) (fun h9 => absurd h9 (by decide))
    refine lv_aload_n hx hb dX9_consumer_111 rfl (lv_at hl 1 rfl) ?_
    refine gm_8 (v := qS P 8) C hP rfl tm_674 dX9_consumer_112 ?_
    refine lv_bipush (v := 8) hx hb dX9_consumer_115 (by decide) ?_
    refine lv_icmp_eq (tgt := 127) hx hb dX9_consumer_117 (by decide) (fun c8 => ?_) (fun c8 => ?_)
    · refine lv_aload_n hx hb dX9_consumer_127 rfl (lv_at hl 1 rfl) ?_
      refine lv_iconst (v := 2) hx hb dX9_consumer_128 (by decide) ?_
      refine mc_V (As := [.int 2]) (rest := []) (r := some (.int 0)) (T := sS (sS P 0 0) 0 2) C (k_fail hG _ _) tm_769 tm_771 tm_895 tm_3 tm_772 rfl hdX9_fail ⟨Nat.le_of_ble_eq_true rfl, Nat.le_of_ble_eq_true rfl⟩ hl.1 rfl (Nat.le_of_ble_eq_true rfl) dX9_consumer_129 ⟨Nat.le_of_ble_eq_true rfl, Nat.le_of_ble_eq_true rfl⟩ hP hD hS (fun H locs hP hD hS => ?_)
      exact ct_iret C hS hP hD (⟨rfl, rfl⟩) (Nat.le_of_ble_eq_true rfl) (Nat.le_of_ble_eq_true rfl) dX9_consumer_132
    refine lv_aload_n hx hb dX9_consumer_120 rfl (lv_at hl 1 rfl) ?_
    refine gm_3 (v := qS P 3) C hP rfl tm_669 dX9_consumer_121 ?_
    refine lv_if_lt (tgt := 133) hx hb dX9_consumer_124 (by decide) (fun c9 => ?_) (fun c9 => ?_)
    · exact absurd (hf.resolve_left c8) (Int32.not_le.mpr c9)
    refine lv_aload_n hx hb dX9_consumer_127 rfl (lv_at hl 1 rfl) ?_
    refine lv_iconst (v := 2) hx hb dX9_consumer_128 (by decide) ?_
    refine mc_V (As := [.int 2]) (rest := []) (r := some (.int 0)) (T := sS (sS P 0 0) 0 2) C (k_fail hG _ _) tm_769 tm_771 tm_895 tm_3 tm_772 rfl hdX9_fail ⟨Nat.le_of_ble_eq_true rfl, Nat.le_of_ble_eq_true rfl⟩ hl.1 rfl (Nat.le_of_ble_eq_true rfl) dX9_consumer_129 ⟨Nat.le_of_ble_eq_true rfl, Nat.le_of_ble_eq_true rfl⟩ hP hD hS (fun H locs hP hD hS => ?_)
    exact ct_iret C hS hP hD (⟨rfl, rfl⟩) (Nat.le_of_ble_eq_true rfl) (Nat.le_of_ble_eq_true rfl) dX9_consumer_132
  refine lv_iload_n hx hb dX9_consumer_64 rfl (lv_at hl 4 rfl) ?_
  refine lv_iconst (v := 2) hx hb dX9_consumer_65 (by decide) ?_
  refine lv_icmp_eq (tgt := 97) hx hb dX9_consumer_66 (by decide) (fun h9 => absurd h9 (g6.resolve_left c61)) (fun _ => ?_)
  refine lv_aload_n hx hb dX9_consumer_69 rfl (lv_at hl 1 rfl) ?_
  refine lv_iload hx hb dX9_consumer_70 (lv_at hl 5 rfl) ?_
  refine mc_V (As := [.int q]) (rest := []) (r := some (.int (fo (qI P 12) q n (-1)))) (T := sS P 0 0) C (k_firstOf (n := n) hG _ (sS P 0 0) hn hn8) tm_765 tm_767 tm_894 tm_3 tm_768 rfl hdX9_firstOf ⟨Nat.le_of_ble_eq_true rfl, Nat.le_of_ble_eq_true rfl⟩ hl.1 rfl (Nat.le_of_ble_eq_true rfl) dX9_consumer_72 ⟨Nat.le_of_ble_eq_true rfl, Nat.le_of_ble_eq_true rfl⟩ hP hD hS (fun H locs hP hD hS => ?_)
  refine lv_if_lt (tgt := 93) hx hb dX9_consumer_75 (by decide) (fun c75 => ?_) (fun c75 => ?_)
  · refine lv_iconst (v := 1) hx hb dX9_consumer_93 (by decide) ?_
    refine lv_goto (tgt := 98) hx hb dX9_consumer_94 (by decide) ?_
    refine lv_istore (lv' := [(5, .int 1), (0, .ref (ad 0)), (1, .int k), (2, .int on), (3, .int how), (4, .int q)]) hx hb dX9_consumer_98 hl (by decide) rfl (fun ls hl => ?_)
    refine lv_iload hx hb dX9_consumer_100 (lv_at hl 0 rfl) ?_
    refine lv_if_ne (tgt := 111) hx hb dX9_consumer_102 (by decide) (fun _ => ?_) (fun h9 => absurd h9 (by decide))
    refine lv_aload_n hx hb dX9_consumer_111 rfl (lv_at hl 1 rfl) ?_
    refine gm_8 (v := qS P 8) C hP rfl tm_674 dX9_consumer_112 ?_
    refine lv_bipush (v := 8) hx hb dX9_consumer_115 (by decide) ?_
    refine lv_icmp_eq (tgt := 127) hx hb dX9_consumer_117 (by decide) (fun c8 => ?_) (fun c8 => ?_)
    · refine lv_aload_n hx hb dX9_consumer_127 rfl (lv_at hl 1 rfl) ?_
      refine lv_iconst (v := 2) hx hb dX9_consumer_128 (by decide) ?_
      refine mc_V (As := [.int 2]) (rest := []) (r := some (.int 0)) (T := sS (sS P 0 0) 0 2) C (k_fail hG _ _) tm_769 tm_771 tm_895 tm_3 tm_772 rfl hdX9_fail ⟨Nat.le_of_ble_eq_true rfl, Nat.le_of_ble_eq_true rfl⟩ hl.1 rfl (Nat.le_of_ble_eq_true rfl) dX9_consumer_129 ⟨Nat.le_of_ble_eq_true rfl, Nat.le_of_ble_eq_true rfl⟩ hP hD hS (fun H locs hP hD hS => ?_)
      exact ct_iret C hS hP hD (⟨rfl, rfl⟩) (Nat.le_of_ble_eq_true rfl) (Nat.le_of_ble_eq_true rfl) dX9_consumer_132
    refine lv_aload_n hx hb dX9_consumer_120 rfl (lv_at hl 1 rfl) ?_
    refine gm_3 (v := qS P 3) C hP rfl tm_669 dX9_consumer_121 ?_
    refine lv_if_lt (tgt := 133) hx hb dX9_consumer_124 (by decide) (fun c9 => ?_) (fun c9 => ?_)
    · exact absurd (hf.resolve_left c8) (Int32.not_le.mpr c9)
    refine lv_aload_n hx hb dX9_consumer_127 rfl (lv_at hl 1 rfl) ?_
    refine lv_iconst (v := 2) hx hb dX9_consumer_128 (by decide) ?_
    refine mc_V (As := [.int 2]) (rest := []) (r := some (.int 0)) (T := sS (sS P 0 0) 0 2) C (k_fail hG _ _) tm_769 tm_771 tm_895 tm_3 tm_772 rfl hdX9_fail ⟨Nat.le_of_ble_eq_true rfl, Nat.le_of_ble_eq_true rfl⟩ hl.1 rfl (Nat.le_of_ble_eq_true rfl) dX9_consumer_129 ⟨Nat.le_of_ble_eq_true rfl, Nat.le_of_ble_eq_true rfl⟩ hP hD hS (fun H locs hP hD hS => ?_)
    exact ct_iret C hS hP hD (⟨rfl, rfl⟩) (Nat.le_of_ble_eq_true rfl) (Nat.le_of_ble_eq_true rfl) dX9_consumer_132
  refine lv_aload_n hx hb dX9_consumer_78 rfl (lv_at hl 1 rfl) ?_
  refine gm_10 C hP tm_676 dX9_consumer_79 ?_
  refine lv_aload_n hx hb dX9_consumer_82 rfl (lv_at hl 1 rfl) ?_
  refine lv_iload hx hb dX9_consumer_83 (lv_at hl 5 rfl) ?_
  refine mc_V (As := [.int q]) (rest := [.ref (ad 10)]) (r := some (.int (fo (qI P 12) q n (-1)))) (T := sS P 0 0) C (k_firstOf (n := n) hG _ (sS P 0 0) hn hn8) tm_765 tm_767 tm_894 tm_3 tm_768 rfl hdX9_firstOf ⟨Nat.le_of_ble_eq_true rfl, Nat.le_of_ble_eq_true rfl⟩ hl.1 rfl (Nat.le_of_ble_eq_true rfl) dX9_consumer_85 ⟨Nat.le_of_ble_eq_true rfl, Nat.le_of_ble_eq_true rfl⟩ hP hD hS (fun H locs hP hD hS => ?_)
  refine xl_10 (v := qI P 10 ((fo (qI P 12) q n (-1)).toNatClampNeg)) (j := (fo (qI P 12) q n (-1)).toNatClampNeg) C hP (fo_ix hn8 c75) (rfl) dX9_consumer_88 ?_
  refine lv_iload_n hx hb dX9_consumer_89 rfl (lv_at hl 3 rfl) ?_
  refine lv_icmp_ne (tgt := 97) hx hb dX9_consumer_90 (by decide) (fun h9 => absurd (g7.resolve_left c75) h9) (fun _ => ?_)
  refine lv_iconst (v := 1) hx hb dX9_consumer_93 (by decide) ?_
  refine lv_goto (tgt := 98) hx hb dX9_consumer_94 (by decide) ?_
  refine lv_istore (lv' := [(5, .int 1), (0, .ref (ad 0)), (1, .int k), (2, .int on), (3, .int how), (4, .int q)]) hx hb dX9_consumer_98 hl (by decide) rfl (fun ls hl => ?_)
  refine lv_iload hx hb dX9_consumer_100 (lv_at hl 0 rfl) ?_
  refine lv_if_ne (tgt := 111) hx hb dX9_consumer_102 (by decide) (fun _ => ?_) (fun h9 => absurd h9 (by decide))
  refine lv_aload_n hx hb dX9_consumer_111 rfl (lv_at hl 1 rfl) ?_
  refine gm_8 (v := qS P 8) C hP rfl tm_674 dX9_consumer_112 ?_
  refine lv_bipush (v := 8) hx hb dX9_consumer_115 (by decide) ?_
  refine lv_icmp_eq (tgt := 127) hx hb dX9_consumer_117 (by decide) (fun c8 => ?_) (fun c8 => ?_)
  · refine lv_aload_n hx hb dX9_consumer_127 rfl (lv_at hl 1 rfl) ?_
    refine lv_iconst (v := 2) hx hb dX9_consumer_128 (by decide) ?_
    refine mc_V (As := [.int 2]) (rest := []) (r := some (.int 0)) (T := sS (sS P 0 0) 0 2) C (k_fail hG _ _) tm_769 tm_771 tm_895 tm_3 tm_772 rfl hdX9_fail ⟨Nat.le_of_ble_eq_true rfl, Nat.le_of_ble_eq_true rfl⟩ hl.1 rfl (Nat.le_of_ble_eq_true rfl) dX9_consumer_129 ⟨Nat.le_of_ble_eq_true rfl, Nat.le_of_ble_eq_true rfl⟩ hP hD hS (fun H locs hP hD hS => ?_)
    exact ct_iret C hS hP hD (⟨rfl, rfl⟩) (Nat.le_of_ble_eq_true rfl) (Nat.le_of_ble_eq_true rfl) dX9_consumer_132
  refine lv_aload_n hx hb dX9_consumer_120 rfl (lv_at hl 1 rfl) ?_
  refine gm_3 (v := qS P 3) C hP rfl tm_669 dX9_consumer_121 ?_
  refine lv_if_lt (tgt := 133) hx hb dX9_consumer_124 (by decide) (fun c9 => ?_) (fun c9 => ?_)
  · exact absurd (hf.resolve_left c8) (Int32.not_le.mpr c9)
  refine lv_aload_n hx hb dX9_consumer_127 rfl (lv_at hl 1 rfl) ?_
  refine lv_iconst (v := 2) hx hb dX9_consumer_128 (by decide) ?_
  refine mc_V (As := [.int 2]) (rest := []) (r := some (.int 0)) (T := sS (sS P 0 0) 0 2) C (k_fail hG _ _) tm_769 tm_771 tm_895 tm_3 tm_772 rfl hdX9_fail ⟨Nat.le_of_ble_eq_true rfl, Nat.le_of_ble_eq_true rfl⟩ hl.1 rfl (Nat.le_of_ble_eq_true rfl) dX9_consumer_129 ⟨Nat.le_of_ble_eq_true rfl, Nat.le_of_ble_eq_true rfl⟩ hP hD hS (fun H locs hP hD hS => ?_)
  exact ct_iret C hS hP hD (⟨rfl, rfl⟩) (Nat.le_of_ble_eq_true rfl) (Nat.le_of_ble_eq_true rfl) dX9_consumer_132
set_option maxRecDepth 100000 in
theorem k_cons_k {l : Launch} {s0 : State} {D : va_G} {cA : Nat → ClassId} {ad : Nat → Nat} (hG : cx_G l s0 D cA) {n : Nat} (k on how q : Int32) (P : MS) (hn : qS P 8 = nI n) (hn8 : n ≤ 8) (hb : cGood P n k on how q) (hn7 : n < 8) (hf : qS P 3 < 0) : MC l s0 D cA ad yX9_consumer cX9_consumer 6 (some .int) rmX9_consumer [.int k, .int on, .int how, .int q] P (some (.int (nI n))) (csS P n k on how q) := by
  obtain ⟨g1, ⟨g2, g3⟩, g4, g5, g6, g7⟩ := hb
  have hn1 : qS P 8 + 1 = nI (n + 1) := by rw [hn, nI_1]
  refine Ct.of (cA := cA) hG (by decide +kernel) (Nat.le_of_ble_eq_true rfl) ?_
  intro p e s m below meth c A C hnm hP hD hS ls hl
  have hx := cx_x C
  have hb := cx_b C
  have hl : lv_has ls 6 [(0, .ref (ad 0)), (1, .int k), (2, .int on), (3, .int how), (4, .int q)] := hl
  refine lv_aload_n hx hb dX9_consumer_0 rfl (lv_at hl 0 rfl) ?_
  refine lv_iconst (v := 0) hx hb dX9_consumer_1 (by decide) ?_
  refine pm_0 (v := 0) C hP hD hS tm_666 dX9_consumer_2 (fun H locs hP hD hS => ?_)
  refine lv_iload_n hx hb dX9_consumer_5 rfl (lv_at hl 1 rfl) ?_
  refine lv_iconst (v := 0) hx hb dX9_consumer_6 (by decide) ?_
  refine lv_iconst (v := 3) hx hb dX9_consumer_7 (by decide) ?_
  refine ct_S0 (As := [.int k, .int 0, .int 3]) (rest := []) (r := some (.int 1)) C (k_within1 hG _ _ _ (g1)) tm_762 tm_763 tm_3 tm_764 hdX9_within.2 ⟨Nat.le_of_ble_eq_true rfl, Nat.le_of_ble_eq_true rfl⟩ hl.1 rfl (Nat.le_of_ble_eq_true rfl) dX9_consumer_8 ⟨Nat.le_of_ble_eq_true rfl, Nat.le_of_ble_eq_true rfl⟩ hP hD hS (fun H locs hP hD hS => ?_)
  refine lv_if_eq (tgt := 51) hx hb dX9_consumer_11 (by decide) (fun h9 => absurd h9 (by decide)) (fun _ => ?_)
  refine lv_iload_n hx hb dX9_consumer_14 rfl (lv_at hl 2 rfl) ?_
  refine lv_if_lt (tgt := 51) hx hb dX9_consumer_15 (by decide) (fun h9 => absurd h9 (g2)) (fun _ => ?_)
  refine lv_iload_n hx hb dX9_consumer_18 rfl (lv_at hl 2 rfl) ?_
  refine lv_iconst (v := 1) hx hb dX9_consumer_19 (by decide) ?_
  refine lv_aload_n hx hb dX9_consumer_20 rfl (lv_at hl 0 rfl) ?_
  refine gm_8 (v := qS P 8) C hP rfl tm_674 dX9_consumer_21 ?_
  refine lv_ishl hx hb dX9_consumer_24 ?_
  refine lv_icmp_ge (tgt := 51) hx hb dX9_consumer_25 (by decide) (fun h9 => absurd h9 (g3)) (fun _ => ?_)
  refine lv_iload_n hx hb dX9_consumer_28 rfl (lv_at hl 3 rfl) ?_
  refine lv_iconst (v := 0) hx hb dX9_consumer_29 (by decide) ?_
  refine lv_iconst (v := 2) hx hb dX9_consumer_30 (by decide) ?_
  refine ct_S0 (As := [.int how, .int 0, .int 2]) (rest := []) (r := some (.int 1)) C (k_within1 hG _ _ _ (g4)) tm_762 tm_763 tm_3 tm_764 hdX9_within.2 ⟨Nat.le_of_ble_eq_true rfl, Nat.le_of_ble_eq_true rfl⟩ hl.1 rfl (Nat.le_of_ble_eq_true rfl) dX9_consumer_31 ⟨Nat.le_of_ble_eq_true rfl, Nat.le_of_ble_eq_true rfl⟩ hP hD hS (fun H locs hP hD hS => ?_)
  refine lv_if_eq (tgt := 51) hx hb dX9_consumer_34 (by decide) (fun h9 => absurd h9 (by decide)) (fun _ => ?_)
  refine lv_iload hx hb dX9_consumer_37 (lv_at hl 4 rfl) ?_
  refine lv_iconst (v := (-1)) hx hb dX9_consumer_39 (by decide) ?_
  refine lv_iconst (v := 1) hx hb dX9_consumer_40 (by decide) ?_
  refine ct_S0 (As := [.int q, .int (-1), .int 1]) (rest := []) (r := some (.int 1)) C (k_within1 hG _ _ _ (g5)) tm_762 tm_763 tm_3 tm_764 hdX9_within.2 ⟨Nat.le_of_ble_eq_true rfl, Nat.le_of_ble_eq_true rfl⟩ hl.1 rfl (Nat.le_of_ble_eq_true rfl) dX9_consumer_41 ⟨Nat.le_of_ble_eq_true rfl, Nat.le_of_ble_eq_true rfl⟩ hP hD hS (fun H locs hP hD hS => ?_)
  refine lv_if_eq (tgt := 51) hx hb dX9_consumer_44 (by decide) (fun h9 => absurd h9 (by decide)) (fun _ => ?_)
  refine lv_iconst (v := 1) hx hb dX9_consumer_47 (by decide) ?_
  refine lv_goto (tgt := 52) hx hb dX9_consumer_48 (by decide) ?_
  refine lv_istore (lv' := [(5, .int 1), (0, .ref (ad 0)), (1, .int k), (2, .int on), (3, .int how), (4, .int q)]) hx hb dX9_consumer_52 hl (by decide) rfl (fun ls hl => ?_)
  refine lv_iload hx hb dX9_consumer_54 (lv_at hl 0 rfl) ?_
  refine lv_if_eq (tgt := 97) hx hb dX9_consumer_56 (by decide) (fun h9 => absurd h9 (by decide)) (fun _ => ?_)
  refine lv_iload hx hb dX9_consumer_59 (lv_at hl 5 rfl) ?_
  refine lv_if_lt (tgt := 69) hx hb dX9_consumer_61 (by decide) (fun c61 => ?_) (fun c61 => ?_)
  · refine lv_aload_n hx hb dX9_consumer_69 rfl (lv_at hl 1 rfl) ?_
    refine lv_iload hx hb dX9_consumer_70 (lv_at hl 5 rfl) ?_
    refine mc_V (As := [.int q]) (rest := []) (r := some (.int (fo (qI P 12) q n (-1)))) (T := sS P 0 0) C (k_firstOf (n := n) hG _ (sS P 0 0) hn hn8) tm_765 tm_767 tm_894 tm_3 tm_768 rfl hdX9_firstOf ⟨Nat.le_of_ble_eq_true rfl, Nat.le_of_ble_eq_true rfl⟩ hl.1 rfl (Nat.le_of_ble_eq_true rfl) dX9_consumer_72 ⟨Nat.le_of_ble_eq_true rfl, Nat.le_of_ble_eq_true rfl⟩ hP hD hS (fun H locs hP hD hS => ?_)
    refine lv_if_lt (tgt := 93) hx hb dX9_consumer_75 (by decide) (fun c75 => ?_) (fun c75 => ?_)
    · refine lv_iconst (v := 1) hx hb dX9_consumer_93 (by decide) ?_
      refine lv_goto (tgt := 98) hx hb dX9_consumer_94 (by decide) ?_
      refine lv_istore (lv' := [(5, .int 1), (0, .ref (ad 0)), (1, .int k), (2, .int on), (3, .int how), (4, .int q)]) hx hb dX9_consumer_98 hl (by decide) rfl (fun ls hl => ?_)
      refine lv_iload hx hb dX9_consumer_100 (lv_at hl 0 rfl) ?_
      refine lv_if_ne (tgt := 111) hx hb dX9_consumer_102 (by decide) (fun _ => ?_) (fun h9 => absurd h9 (by decide))
      refine lv_aload_n hx hb dX9_consumer_111 rfl (lv_at hl 1 rfl) ?_
      refine gm_8 (v := qS P 8) C hP rfl tm_674 dX9_consumer_112 ?_
      refine lv_bipush (v := 8) hx hb dX9_consumer_115 (by decide) ?_
      refine lv_icmp_eq (tgt := 127) hx hb dX9_consumer_117 (by decide) (fun h9 => absurd h9 (by rw [hn]; exact fun h => absurd ((nI_eq (b := 8) (by omega) (by decide)).mp h) (by omega))) (fun _ => ?_)
      refine lv_aload_n hx hb dX9_consumer_120 rfl (lv_at hl 1 rfl) ?_
      refine gm_3 (v := qS P 3) C hP rfl tm_669 dX9_consumer_121 ?_
      refine lv_if_lt (tgt := 133) hx hb dX9_consumer_124 (by decide) (fun _ => ?_) (fun h9 => absurd (hf) h9)
      refine lv_aload_n hx hb dX9_consumer_133 rfl (lv_at hl 1 rfl) ?_
      refine gm_9 C hP tm_675 dX9_consumer_134 ?_
      refine lv_aload_n hx hb dX9_consumer_137 rfl (lv_at hl 1 rfl) ?_
      refine gm_8 (v := qS P 8) C hP rfl tm_674 dX9_consumer_138 ?_
      refine lv_iload_n hx hb dX9_consumer_141 rfl (lv_at hl 2 rfl) ?_
      refine xs_9 (x := k) (j := n) C hP hD hS (ix_eq hn (by omega) (by decide)) dX9_consumer_142 (fun H locs hP hD hS => ?_)
      refine lv_aload_n hx hb dX9_consumer_143 rfl (lv_at hl 1 rfl) ?_
      refine gm_10 C hP tm_676 dX9_consumer_144 ?_
      refine lv_aload_n hx hb dX9_consumer_147 rfl (lv_at hl 1 rfl) ?_
      refine gm_8 (v := qS P 8) C hP rfl tm_674 dX9_consumer_148 ?_
      refine lv_iload_n hx hb dX9_consumer_151 rfl (lv_at hl 3 rfl) ?_
      refine xs_10 (x := on) (j := n) C hP hD hS (ix_eq hn (by omega) (by decide)) dX9_consumer_152 (fun H locs hP hD hS => ?_)
      refine lv_aload_n hx hb dX9_consumer_153 rfl (lv_at hl 1 rfl) ?_
      refine gm_11 C hP tm_677 dX9_consumer_154 ?_
      refine lv_aload_n hx hb dX9_consumer_157 rfl (lv_at hl 1 rfl) ?_
      refine gm_8 (v := qS P 8) C hP rfl tm_674 dX9_consumer_158 ?_
      refine lv_iload_n hx hb dX9_consumer_161 rfl (lv_at hl 4 rfl) ?_
      refine xs_11 (x := how) (j := n) C hP hD hS (ix_eq hn (by omega) (by decide)) dX9_consumer_162 (fun H locs hP hD hS => ?_)
      refine lv_aload_n hx hb dX9_consumer_163 rfl (lv_at hl 1 rfl) ?_
      refine gm_12 C hP tm_678 dX9_consumer_164 ?_
      refine lv_aload_n hx hb dX9_consumer_167 rfl (lv_at hl 1 rfl) ?_
      refine gm_8 (v := qS P 8) C hP rfl tm_674 dX9_consumer_168 ?_
      refine lv_iload hx hb dX9_consumer_171 (lv_at hl 5 rfl) ?_
      refine xs_12 (x := q) (j := n) C hP hD hS (ix_eq hn (by omega) (by decide)) dX9_consumer_173 (fun H locs hP hD hS => ?_)
      refine lv_aload_n hx hb dX9_consumer_174 rfl (lv_at hl 1 rfl) ?_
      refine gm_13 C hP tm_679 dX9_consumer_175 ?_
      refine lv_aload_n hx hb dX9_consumer_178 rfl (lv_at hl 1 rfl) ?_
      refine gm_8 (v := qS P 8) C hP rfl tm_674 dX9_consumer_179 ?_
      refine lv_iconst (v := (-1)) hx hb dX9_consumer_182 (by decide) ?_
      refine xs_13 (x := (-1)) (j := n) C hP hD hS (ix_eq hn (by omega) (by decide)) dX9_consumer_183 (fun H locs hP hD hS => ?_)
      refine lv_aload_n hx hb dX9_consumer_184 rfl (lv_at hl 1 rfl) ?_
      refine gm_18 C hP tm_684 dX9_consumer_185 ?_
      refine lv_aload_n hx hb dX9_consumer_188 rfl (lv_at hl 1 rfl) ?_
      refine gm_8 (v := qS P 8) C hP rfl tm_674 dX9_consumer_189 ?_
      refine lv_iconst (v := (-1)) hx hb dX9_consumer_192 (by decide) ?_
      refine xs_18 (x := (-1)) (j := n) C hP hD hS (ix_eq hn (by omega) (by decide)) dX9_consumer_193 (fun H locs hP hD hS => ?_)
      refine lv_aload_n hx hb dX9_consumer_194 rfl (lv_at hl 1 rfl) ?_
      refine gm_20 C hP tm_686 dX9_consumer_195 ?_
      refine lv_aload_n hx hb dX9_consumer_198 rfl (lv_at hl 1 rfl) ?_
      refine gm_8 (v := qS P 8) C hP rfl tm_674 dX9_consumer_199 ?_
      refine lv_iconst (v := (-1)) hx hb dX9_consumer_202 (by decide) ?_
      refine xs_20 (x := (-1)) (j := n) C hP hD hS (ix_eq hn (by omega) (by decide)) dX9_consumer_203 (fun H locs hP hD hS => ?_)
      refine lv_aload_n hx hb dX9_consumer_204 rfl (lv_at hl 1 rfl) ?_
      refine lv_dup hx hb dX9_consumer_205 rfl ?_
      refine gm_8 (v := qS P 8) C hP rfl tm_674 dX9_consumer_206 ?_
      refine lv_iconst (v := 1) hx hb dX9_consumer_209 (by decide) ?_
      refine lv_iadd hx hb dX9_consumer_210 ?_
      refine pm_8 (v := (qS P 8) + 1) C hP hD hS tm_674 dX9_consumer_211 (fun H locs hP hD hS => ?_)
      refine lv_aload_n hx hb dX9_consumer_214 rfl (lv_at hl 1 rfl) ?_
      refine gm_8 (v := (qS P 8) + 1) C hP rfl tm_674 dX9_consumer_215 ?_
      refine lv_iconst (v := 1) hx hb dX9_consumer_218 (by decide) ?_
      refine lv_isub hx hb dX9_consumer_219 ?_
      exact ct_iret C hS hP hD (⟨by rw [hn1, nI_pred], by rw [hn1]; rfl⟩) (Nat.le_of_ble_eq_true rfl) (Nat.le_of_ble_eq_true rfl) dX9_consumer_220
    refine lv_aload_n hx hb dX9_consumer_78 rfl (lv_at hl 1 rfl) ?_
    refine gm_10 C hP tm_676 dX9_consumer_79 ?_
    refine lv_aload_n hx hb dX9_consumer_82 rfl (lv_at hl 1 rfl) ?_
    refine lv_iload hx hb dX9_consumer_83 (lv_at hl 5 rfl) ?_
    refine mc_V (As := [.int q]) (rest := [.ref (ad 10)]) (r := some (.int (fo (qI P 12) q n (-1)))) (T := sS P 0 0) C (k_firstOf (n := n) hG _ (sS P 0 0) hn hn8) tm_765 tm_767 tm_894 tm_3 tm_768 rfl hdX9_firstOf ⟨Nat.le_of_ble_eq_true rfl, Nat.le_of_ble_eq_true rfl⟩ hl.1 rfl (Nat.le_of_ble_eq_true rfl) dX9_consumer_85 ⟨Nat.le_of_ble_eq_true rfl, Nat.le_of_ble_eq_true rfl⟩ hP hD hS (fun H locs hP hD hS => ?_)
    refine xl_10 (v := qI P 10 ((fo (qI P 12) q n (-1)).toNatClampNeg)) (j := (fo (qI P 12) q n (-1)).toNatClampNeg) C hP (fo_ix hn8 c75) (rfl) dX9_consumer_88 ?_
    refine lv_iload_n hx hb dX9_consumer_89 rfl (lv_at hl 3 rfl) ?_
    refine lv_icmp_ne (tgt := 97) hx hb dX9_consumer_90 (by decide) (fun h9 => absurd (g7.resolve_left c75) h9) (fun _ => ?_)
    refine lv_iconst (v := 1) hx hb dX9_consumer_93 (by decide) ?_
    refine lv_goto (tgt := 98) hx hb dX9_consumer_94 (by decide) ?_
    refine lv_istore (lv' := [(5, .int 1), (0, .ref (ad 0)), (1, .int k), (2, .int on), (3, .int how), (4, .int q)]) hx hb dX9_consumer_98 hl (by decide) rfl (fun ls hl => ?_)
    refine lv_iload hx hb dX9_consumer_100 (lv_at hl 0 rfl) ?_
    refine lv_if_ne (tgt := 111) hx hb dX9_consumer_102 (by decide) (fun _ => ?_) (fun h9 => absurd h9 (by decide))
    refine lv_aload_n hx hb dX9_consumer_111 rfl (lv_at hl 1 rfl) ?_
    refine gm_8 (v := qS P 8) C hP rfl tm_674 dX9_consumer_112 ?_
    refine lv_bipush (v := 8) hx hb dX9_consumer_115 (by decide) ?_
    refine lv_icmp_eq (tgt := 127) hx hb dX9_consumer_117 (by decide) (fun h9 => absurd h9 (by rw [hn]; exact fun h => absurd ((nI_eq (b := 8) (by omega) (by decide)).mp h) (by omega))) (fun _ => ?_)
    refine lv_aload_n hx hb dX9_consumer_120 rfl (lv_at hl 1 rfl) ?_
    refine gm_3 (v := qS P 3) C hP rfl tm_669 dX9_consumer_121 ?_
    refine lv_if_lt (tgt := 133) hx hb dX9_consumer_124 (by decide) (fun _ => ?_) (fun h9 => absurd (hf) h9)
    refine lv_aload_n hx hb dX9_consumer_133 rfl (lv_at hl 1 rfl) ?_
    refine gm_9 C hP tm_675 dX9_consumer_134 ?_
    refine lv_aload_n hx hb dX9_consumer_137 rfl (lv_at hl 1 rfl) ?_
    refine gm_8 (v := qS P 8) C hP rfl tm_674 dX9_consumer_138 ?_
    refine lv_iload_n hx hb dX9_consumer_141 rfl (lv_at hl 2 rfl) ?_
    refine xs_9 (x := k) (j := n) C hP hD hS (ix_eq hn (by omega) (by decide)) dX9_consumer_142 (fun H locs hP hD hS => ?_)
    refine lv_aload_n hx hb dX9_consumer_143 rfl (lv_at hl 1 rfl) ?_
    refine gm_10 C hP tm_676 dX9_consumer_144 ?_
    refine lv_aload_n hx hb dX9_consumer_147 rfl (lv_at hl 1 rfl) ?_
    refine gm_8 (v := qS P 8) C hP rfl tm_674 dX9_consumer_148 ?_
    refine lv_iload_n hx hb dX9_consumer_151 rfl (lv_at hl 3 rfl) ?_
    refine xs_10 (x := on) (j := n) C hP hD hS (ix_eq hn (by omega) (by decide)) dX9_consumer_152 (fun H locs hP hD hS => ?_)
    refine lv_aload_n hx hb dX9_consumer_153 rfl (lv_at hl 1 rfl) ?_
    refine gm_11 C hP tm_677 dX9_consumer_154 ?_
    refine lv_aload_n hx hb dX9_consumer_157 rfl (lv_at hl 1 rfl) ?_
    refine gm_8 (v := qS P 8) C hP rfl tm_674 dX9_consumer_158 ?_
    refine lv_iload_n hx hb dX9_consumer_161 rfl (lv_at hl 4 rfl) ?_
    refine xs_11 (x := how) (j := n) C hP hD hS (ix_eq hn (by omega) (by decide)) dX9_consumer_162 (fun H locs hP hD hS => ?_)
    refine lv_aload_n hx hb dX9_consumer_163 rfl (lv_at hl 1 rfl) ?_
    refine gm_12 C hP tm_678 dX9_consumer_164 ?_
    refine lv_aload_n hx hb dX9_consumer_167 rfl (lv_at hl 1 rfl) ?_
    refine gm_8 (v := qS P 8) C hP rfl tm_674 dX9_consumer_168 ?_
    refine lv_iload hx hb dX9_consumer_171 (lv_at hl 5 rfl) ?_
    refine xs_12 (x := q) (j := n) C hP hD hS (ix_eq hn (by omega) (by decide)) dX9_consumer_173 (fun H locs hP hD hS => ?_)
    refine lv_aload_n hx hb dX9_consumer_174 rfl (lv_at hl 1 rfl) ?_
    refine gm_13 C hP tm_679 dX9_consumer_175 ?_
    refine lv_aload_n hx hb dX9_consumer_178 rfl (lv_at hl 1 rfl) ?_
    refine gm_8 (v := qS P 8) C hP rfl tm_674 dX9_consumer_179 ?_
    refine lv_iconst (v := (-1)) hx hb dX9_consumer_182 (by decide) ?_
    refine xs_13 (x := (-1)) (j := n) C hP hD hS (ix_eq hn (by omega) (by decide)) dX9_consumer_183 (fun H locs hP hD hS => ?_)
    refine lv_aload_n hx hb dX9_consumer_184 rfl (lv_at hl 1 rfl) ?_
    refine gm_18 C hP tm_684 dX9_consumer_185 ?_
    refine lv_aload_n hx hb dX9_consumer_188 rfl (lv_at hl 1 rfl) ?_
    refine gm_8 (v := qS P 8) C hP rfl tm_674 dX9_consumer_189 ?_
    refine lv_iconst (v := (-1)) hx hb dX9_consumer_192 (by decide) ?_
    refine xs_18 (x := (-1)) (j := n) C hP hD hS (ix_eq hn (by omega) (by decide)) dX9_consumer_193 (fun H locs hP hD hS => ?_)
    refine lv_aload_n hx hb dX9_consumer_194 rfl (lv_at hl 1 rfl) ?_
    refine gm_20 C hP tm_686 dX9_consumer_195 ?_
    refine lv_aload_n hx hb dX9_consumer_198 rfl (lv_at hl 1 rfl) ?_
    refine gm_8 (v := qS P 8) C hP rfl tm_674 dX9_consumer_199 ?_
    refine lv_iconst (v := (-1)) hx hb dX9_consumer_202 (by decide) ?_
    refine xs_20 (x := (-1)) (j := n) C hP hD hS (ix_eq hn (by omega) (by decide)) dX9_consumer_203 (fun H locs hP hD hS => ?_)
    refine lv_aload_n hx hb dX9_consumer_204 rfl (lv_at hl 1 rfl) ?_
    refine lv_dup hx hb dX9_consumer_205 rfl ?_
    refine gm_8 (v := qS P 8) C hP rfl tm_674 dX9_consumer_206 ?_
    refine lv_iconst (v := 1) hx hb dX9_consumer_209 (by decide) ?_
    refine lv_iadd hx hb dX9_consumer_210 ?_
    refine pm_8 (v := (qS P 8) + 1) C hP hD hS tm_674 dX9_consumer_211 (fun H locs hP hD hS => ?_)
    refine lv_aload_n hx hb dX9_consumer_214 rfl (lv_at hl 1 rfl) ?_
    refine gm_8 (v := (qS P 8) + 1) C hP rfl tm_674 dX9_consumer_215 ?_
    refine lv_iconst (v := 1) hx hb dX9_consumer_218 (by decide) ?_
    refine lv_isub hx hb dX9_consumer_219 ?_
    exact ct_iret C hS hP hD (⟨by rw [hn1, nI_pred], by rw [hn1]; rfl⟩) (Nat.le_of_ble_eq_true rfl) (Nat.le_of_ble_eq_true rfl) dX9_consumer_220
  refine lv_iload_n hx hb dX9_consumer_64 rfl (lv_at hl 4 rfl) ?_
  refine lv_iconst (v := 2) hx hb dX9_consumer_65 (by decide) ?_
  refine lv_icmp_eq (tgt := 97) hx hb dX9_consumer_66 (by decide) (fun h9 => absurd h9 (g6.resolve_left c61)) (fun _ => ?_)
  refine lv_aload_n hx hb dX9_consumer_69 rfl (lv_at hl 1 rfl) ?_
  refine lv_iload hx hb dX9_consumer_70 (lv_at hl 5 rfl) ?_
  refine mc_V (As := [.int q]) (rest := []) (r := some (.int (fo (qI P 12) q n (-1)))) (T := sS P 0 0) C (k_firstOf (n := n) hG _ (sS P 0 0) hn hn8) tm_765 tm_767 tm_894 tm_3 tm_768 rfl hdX9_firstOf ⟨Nat.le_of_ble_eq_true rfl, Nat.le_of_ble_eq_true rfl⟩ hl.1 rfl (Nat.le_of_ble_eq_true rfl) dX9_consumer_72 ⟨Nat.le_of_ble_eq_true rfl, Nat.le_of_ble_eq_true rfl⟩ hP hD hS (fun H locs hP hD hS => ?_)
  refine lv_if_lt (tgt := 93) hx hb dX9_consumer_75 (by decide) (fun c75 => ?_) (fun c75 => ?_)
  · refine lv_iconst (v := 1) hx hb dX9_consumer_93 (by decide) ?_
    refine lv_goto (tgt := 98) hx hb dX9_consumer_94 (by decide) ?_
    refine lv_istore (lv' := [(5, .int 1), (0, .ref (ad 0)), (1, .int k), (2, .int on), (3, .int how), (4, .int q)]) hx hb dX9_consumer_98 hl (by decide) rfl (fun ls hl => ?_)
    refine lv_iload hx hb dX9_consumer_100 (lv_at hl 0 rfl) ?_
    refine lv_if_ne (tgt := 111) hx hb dX9_consumer_102 (by decide) (fun _ => ?_) (fun h9 => absurd h9 (by decide))
    refine lv_aload_n hx hb dX9_consumer_111 rfl (lv_at hl 1 rfl) ?_
    refine gm_8 (v := qS P 8) C hP rfl tm_674 dX9_consumer_112 ?_
    refine lv_bipush (v := 8) hx hb dX9_consumer_115 (by decide) ?_
    refine lv_icmp_eq (tgt := 127) hx hb dX9_consumer_117 (by decide) (fun h9 => absurd h9 (by rw [hn]; exact fun h => absurd ((nI_eq (b := 8) (by omega) (by decide)).mp h) (by omega))) (fun _ => ?_)
    refine lv_aload_n hx hb dX9_consumer_120 rfl (lv_at hl 1 rfl) ?_
    refine gm_3 (v := qS P 3) C hP rfl tm_669 dX9_consumer_121 ?_
    refine lv_if_lt (tgt := 133) hx hb dX9_consumer_124 (by decide) (fun _ => ?_) (fun h9 => absurd (hf) h9)
    refine lv_aload_n hx hb dX9_consumer_133 rfl (lv_at hl 1 rfl) ?_
    refine gm_9 C hP tm_675 dX9_consumer_134 ?_
    refine lv_aload_n hx hb dX9_consumer_137 rfl (lv_at hl 1 rfl) ?_
    refine gm_8 (v := qS P 8) C hP rfl tm_674 dX9_consumer_138 ?_
    refine lv_iload_n hx hb dX9_consumer_141 rfl (lv_at hl 2 rfl) ?_
    refine xs_9 (x := k) (j := n) C hP hD hS (ix_eq hn (by omega) (by decide)) dX9_consumer_142 (fun H locs hP hD hS => ?_)
    refine lv_aload_n hx hb dX9_consumer_143 rfl (lv_at hl 1 rfl) ?_
    refine gm_10 C hP tm_676 dX9_consumer_144 ?_
    refine lv_aload_n hx hb dX9_consumer_147 rfl (lv_at hl 1 rfl) ?_
    refine gm_8 (v := qS P 8) C hP rfl tm_674 dX9_consumer_148 ?_
    refine lv_iload_n hx hb dX9_consumer_151 rfl (lv_at hl 3 rfl) ?_
    refine xs_10 (x := on) (j := n) C hP hD hS (ix_eq hn (by omega) (by decide)) dX9_consumer_152 (fun H locs hP hD hS => ?_)
    refine lv_aload_n hx hb dX9_consumer_153 rfl (lv_at hl 1 rfl) ?_
    refine gm_11 C hP tm_677 dX9_consumer_154 ?_
    refine lv_aload_n hx hb dX9_consumer_157 rfl (lv_at hl 1 rfl) ?_
    refine gm_8 (v := qS P 8) C hP rfl tm_674 dX9_consumer_158 ?_
    refine lv_iload_n hx hb dX9_consumer_161 rfl (lv_at hl 4 rfl) ?_
    refine xs_11 (x := how) (j := n) C hP hD hS (ix_eq hn (by omega) (by decide)) dX9_consumer_162 (fun H locs hP hD hS => ?_)
    refine lv_aload_n hx hb dX9_consumer_163 rfl (lv_at hl 1 rfl) ?_
    refine gm_12 C hP tm_678 dX9_consumer_164 ?_
    refine lv_aload_n hx hb dX9_consumer_167 rfl (lv_at hl 1 rfl) ?_
    refine gm_8 (v := qS P 8) C hP rfl tm_674 dX9_consumer_168 ?_
    refine lv_iload hx hb dX9_consumer_171 (lv_at hl 5 rfl) ?_
    refine xs_12 (x := q) (j := n) C hP hD hS (ix_eq hn (by omega) (by decide)) dX9_consumer_173 (fun H locs hP hD hS => ?_)
    refine lv_aload_n hx hb dX9_consumer_174 rfl (lv_at hl 1 rfl) ?_
    refine gm_13 C hP tm_679 dX9_consumer_175 ?_
    refine lv_aload_n hx hb dX9_consumer_178 rfl (lv_at hl 1 rfl) ?_
    refine gm_8 (v := qS P 8) C hP rfl tm_674 dX9_consumer_179 ?_
    refine lv_iconst (v := (-1)) hx hb dX9_consumer_182 (by decide) ?_
    refine xs_13 (x := (-1)) (j := n) C hP hD hS (ix_eq hn (by omega) (by decide)) dX9_consumer_183 (fun H locs hP hD hS => ?_)
    refine lv_aload_n hx hb dX9_consumer_184 rfl (lv_at hl 1 rfl) ?_
    refine gm_18 C hP tm_684 dX9_consumer_185 ?_
    refine lv_aload_n hx hb dX9_consumer_188 rfl (lv_at hl 1 rfl) ?_
    refine gm_8 (v := qS P 8) C hP rfl tm_674 dX9_consumer_189 ?_
    refine lv_iconst (v := (-1)) hx hb dX9_consumer_192 (by decide) ?_
    refine xs_18 (x := (-1)) (j := n) C hP hD hS (ix_eq hn (by omega) (by decide)) dX9_consumer_193 (fun H locs hP hD hS => ?_)
    refine lv_aload_n hx hb dX9_consumer_194 rfl (lv_at hl 1 rfl) ?_
    refine gm_20 C hP tm_686 dX9_consumer_195 ?_
    refine lv_aload_n hx hb dX9_consumer_198 rfl (lv_at hl 1 rfl) ?_
    refine gm_8 (v := qS P 8) C hP rfl tm_674 dX9_consumer_199 ?_
    refine lv_iconst (v := (-1)) hx hb dX9_consumer_202 (by decide) ?_
    refine xs_20 (x := (-1)) (j := n) C hP hD hS (ix_eq hn (by omega) (by decide)) dX9_consumer_203 (fun H locs hP hD hS => ?_)
    refine lv_aload_n hx hb dX9_consumer_204 rfl (lv_at hl 1 rfl) ?_
    refine lv_dup hx hb dX9_consumer_205 rfl ?_
    refine gm_8 (v := qS P 8) C hP rfl tm_674 dX9_consumer_206 ?_
    refine lv_iconst (v := 1) hx hb dX9_consumer_209 (by decide) ?_
    refine lv_iadd hx hb dX9_consumer_210 ?_
    refine pm_8 (v := (qS P 8) + 1) C hP hD hS tm_674 dX9_consumer_211 (fun H locs hP hD hS => ?_)
    refine lv_aload_n hx hb dX9_consumer_214 rfl (lv_at hl 1 rfl) ?_
    refine gm_8 (v := (qS P 8) + 1) C hP rfl tm_674 dX9_consumer_215 ?_
    refine lv_iconst (v := 1) hx hb dX9_consumer_218 (by decide) ?_
    refine lv_isub hx hb dX9_consumer_219 ?_
    exact ct_iret C hS hP hD (⟨by rw [hn1, nI_pred], by rw [hn1]; rfl⟩) (Nat.le_of_ble_eq_true rfl) (Nat.le_of_ble_eq_true rfl) dX9_consumer_220
  refine lv_aload_n hx hb dX9_consumer_78 rfl (lv_at hl 1 rfl) ?_
  refine gm_10 C hP tm_676 dX9_consumer_79 ?_
  refine lv_aload_n hx hb dX9_consumer_82 rfl (lv_at hl 1 rfl) ?_
  refine lv_iload hx hb dX9_consumer_83 (lv_at hl 5 rfl) ?_
  refine mc_V (As := [.int q]) (rest := [.ref (ad 10)]) (r := some (.int (fo (qI P 12) q n (-1)))) (T := sS P 0 0) C (k_firstOf (n := n) hG _ (sS P 0 0) hn hn8) tm_765 tm_767 tm_894 tm_3 tm_768 rfl hdX9_firstOf ⟨Nat.le_of_ble_eq_true rfl, Nat.le_of_ble_eq_true rfl⟩ hl.1 rfl (Nat.le_of_ble_eq_true rfl) dX9_consumer_85 ⟨Nat.le_of_ble_eq_true rfl, Nat.le_of_ble_eq_true rfl⟩ hP hD hS (fun H locs hP hD hS => ?_)
  refine xl_10 (v := qI P 10 ((fo (qI P 12) q n (-1)).toNatClampNeg)) (j := (fo (qI P 12) q n (-1)).toNatClampNeg) C hP (fo_ix hn8 c75) (rfl) dX9_consumer_88 ?_
  refine lv_iload_n hx hb dX9_consumer_89 rfl (lv_at hl 3 rfl) ?_
  refine lv_icmp_ne (tgt := 97) hx hb dX9_consumer_90 (by decide) (fun h9 => absurd (g7.resolve_left c75) h9) (fun _ => ?_)
  refine lv_iconst (v := 1) hx hb dX9_consumer_93 (by decide) ?_
  refine lv_goto (tgt := 98) hx hb dX9_consumer_94 (by decide) ?_
  refine lv_istore (lv' := [(5, .int 1), (0, .ref (ad 0)), (1, .int k), (2, .int on), (3, .int how), (4, .int q)]) hx hb dX9_consumer_98 hl (by decide) rfl (fun ls hl => ?_)
  refine lv_iload hx hb dX9_consumer_100 (lv_at hl 0 rfl) ?_
  refine lv_if_ne (tgt := 111) hx hb dX9_consumer_102 (by decide) (fun _ => ?_) (fun h9 => absurd h9 (by decide))
  refine lv_aload_n hx hb dX9_consumer_111 rfl (lv_at hl 1 rfl) ?_
  refine gm_8 (v := qS P 8) C hP rfl tm_674 dX9_consumer_112 ?_
  refine lv_bipush (v := 8) hx hb dX9_consumer_115 (by decide) ?_
  refine lv_icmp_eq (tgt := 127) hx hb dX9_consumer_117 (by decide) (fun h9 => absurd h9 (by rw [hn]; exact fun h => absurd ((nI_eq (b := 8) (by omega) (by decide)).mp h) (by omega))) (fun _ => ?_)
  refine lv_aload_n hx hb dX9_consumer_120 rfl (lv_at hl 1 rfl) ?_
  refine gm_3 (v := qS P 3) C hP rfl tm_669 dX9_consumer_121 ?_
  refine lv_if_lt (tgt := 133) hx hb dX9_consumer_124 (by decide) (fun _ => ?_) (fun h9 => absurd (hf) h9)
  refine lv_aload_n hx hb dX9_consumer_133 rfl (lv_at hl 1 rfl) ?_
  refine gm_9 C hP tm_675 dX9_consumer_134 ?_
  refine lv_aload_n hx hb dX9_consumer_137 rfl (lv_at hl 1 rfl) ?_
  refine gm_8 (v := qS P 8) C hP rfl tm_674 dX9_consumer_138 ?_
  refine lv_iload_n hx hb dX9_consumer_141 rfl (lv_at hl 2 rfl) ?_
  refine xs_9 (x := k) (j := n) C hP hD hS (ix_eq hn (by omega) (by decide)) dX9_consumer_142 (fun H locs hP hD hS => ?_)
  refine lv_aload_n hx hb dX9_consumer_143 rfl (lv_at hl 1 rfl) ?_
  refine gm_10 C hP tm_676 dX9_consumer_144 ?_
  refine lv_aload_n hx hb dX9_consumer_147 rfl (lv_at hl 1 rfl) ?_
  refine gm_8 (v := qS P 8) C hP rfl tm_674 dX9_consumer_148 ?_
  refine lv_iload_n hx hb dX9_consumer_151 rfl (lv_at hl 3 rfl) ?_
  refine xs_10 (x := on) (j := n) C hP hD hS (ix_eq hn (by omega) (by decide)) dX9_consumer_152 (fun H locs hP hD hS => ?_)
  refine lv_aload_n hx hb dX9_consumer_153 rfl (lv_at hl 1 rfl) ?_
  refine gm_11 C hP tm_677 dX9_consumer_154 ?_
  refine lv_aload_n hx hb dX9_consumer_157 rfl (lv_at hl 1 rfl) ?_
  refine gm_8 (v := qS P 8) C hP rfl tm_674 dX9_consumer_158 ?_
  refine lv_iload_n hx hb dX9_consumer_161 rfl (lv_at hl 4 rfl) ?_
  refine xs_11 (x := how) (j := n) C hP hD hS (ix_eq hn (by omega) (by decide)) dX9_consumer_162 (fun H locs hP hD hS => ?_)
  refine lv_aload_n hx hb dX9_consumer_163 rfl (lv_at hl 1 rfl) ?_
  refine gm_12 C hP tm_678 dX9_consumer_164 ?_
  refine lv_aload_n hx hb dX9_consumer_167 rfl (lv_at hl 1 rfl) ?_
  refine gm_8 (v := qS P 8) C hP rfl tm_674 dX9_consumer_168 ?_
  refine lv_iload hx hb dX9_consumer_171 (lv_at hl 5 rfl) ?_
  refine xs_12 (x := q) (j := n) C hP hD hS (ix_eq hn (by omega) (by decide)) dX9_consumer_173 (fun H locs hP hD hS => ?_)
  refine lv_aload_n hx hb dX9_consumer_174 rfl (lv_at hl 1 rfl) ?_
  refine gm_13 C hP tm_679 dX9_consumer_175 ?_
  refine lv_aload_n hx hb dX9_consumer_178 rfl (lv_at hl 1 rfl) ?_
  refine gm_8 (v := qS P 8) C hP rfl tm_674 dX9_consumer_179 ?_
  refine lv_iconst (v := (-1)) hx hb dX9_consumer_182 (by decide) ?_
  refine xs_13 (x := (-1)) (j := n) C hP hD hS (ix_eq hn (by omega) (by decide)) dX9_consumer_183 (fun H locs hP hD hS => ?_)
  refine lv_aload_n hx hb dX9_consumer_184 rfl (lv_at hl 1 rfl) ?_
  refine gm_18 C hP tm_684 dX9_consumer_185 ?_
  refine lv_aload_n hx hb dX9_consumer_188 rfl (lv_at hl 1 rfl) ?_
  refine gm_8 (v := qS P 8) C hP rfl tm_674 dX9_consumer_189 ?_
  refine lv_iconst (v := (-1)) hx hb dX9_consumer_192 (by decide) ?_
  refine xs_18 (x := (-1)) (j := n) C hP hD hS (ix_eq hn (by omega) (by decide)) dX9_consumer_193 (fun H locs hP hD hS => ?_)
  refine lv_aload_n hx hb dX9_consumer_194 rfl (lv_at hl 1 rfl) ?_
  refine gm_20 C hP tm_686 dX9_consumer_195 ?_
  refine lv_aload_n hx hb dX9_consumer_198 rfl (lv_at hl 1 rfl) ?_
  refine gm_8 (v := qS P 8) C hP rfl tm_674 dX9_consumer_199 ?_
  refine lv_iconst (v := (-1)) hx hb dX9_consumer_202 (by decide) ?_
  refine xs_20 (x := (-1)) (j := n) C hP hD hS (ix_eq hn (by omega) (by decide)) dX9_consumer_203 (fun H locs hP hD hS => ?_)
  refine lv_aload_n hx hb dX9_consumer_204 rfl (lv_at hl 1 rfl) ?_
  refine lv_dup hx hb dX9_consumer_205 rfl ?_
  refine gm_8 (v := qS P 8) C hP rfl tm_674 dX9_consumer_206 ?_
  refine lv_iconst (v := 1) hx hb dX9_consumer_209 (by decide) ?_
  refine lv_iadd hx hb dX9_consumer_210 ?_
  refine pm_8 (v := (qS P 8) + 1) C hP hD hS tm_674 dX9_consumer_211 (fun H locs hP hD hS => ?_)
  refine lv_aload_n hx hb dX9_consumer_214 rfl (lv_at hl 1 rfl) ?_
  refine gm_8 (v := (qS P 8) + 1) C hP rfl tm_674 dX9_consumer_215 ?_
  refine lv_iconst (v := 1) hx hb dX9_consumer_218 (by decide) ?_
  refine lv_isub hx hb dX9_consumer_219 ?_
  exact ct_iret C hS hP hD (⟨by rw [hn1, nI_pred], by rw [hn1]; rfl⟩) (Nat.le_of_ble_eq_true rfl) (Nat.le_of_ble_eq_true rfl) dX9_consumer_220
def rvL (f : Nat → Int32) (b : Nat) : Nat → Int64
  | 0 => 0
  | k + 1 => rvL f b k <<< ((8 : Int32).toInt64 &&& 63) ||| (f (b + k)).toInt64
/-- how many records are whole, from r on -/
def rpN (f : Nat → Int32) (b z : Nat) : Nat → Nat → Nat
  | 0, r => r
  | d + 1, r => if 13 * r + 13 ≤ z ∧ whB f (b + 13 * r) = true then rpN f b z d (r + 1) else r
/-- the sum of the first r values -/
def rpS (f : Nat → Int32) (b : Nat) : Nat → Int64
  | 0 => 0
  | r + 1 => rpS f b r + rvL f (b + 13 * r + 3) 8
theorem i40013 {j r : Nat} : (400 : Int32) * nI j + 13 * nI r = nI (400 * j + 13 * r) := by rw [show (400 : Int32) = nI 400 by decide, show (13 : Int32) = nI 13 by decide, pk_mul, pk_mul, nI_add]
theorem i13 {r : Nat} : (13 : Int32) * nI r + 13 = nI (13 * r + 13) := by rw [show (13 : Int32) = nI 13 by decide, pk_mul, nI_add]
theorem i400k {j r k : Nat} : (400 : Int32) * nI j + 13 * nI r + 3 + nI k = nI (400 * j + 13 * r + 3 + k) := by rw [i40013, show (3 : Int32) = nI 3 by decide, nI_add, nI_add]
theorem sR_sR {P : MS} {x y : Int64} : sR (sR P x) y = sR P y := rfl
section Loops6
variable {p : Program} {l : Launch} {e : Env} {R : Room} {s : State} {m : MethodId} {args : Array Value} {below : List Frame} {meth : Method} {c : Code} {H : Heap} {locs : List Loc} {cells slots : Nat} {Q : State → Prop}
variable {s0 : State} {D : va_G} {cA : Nat → ClassId} {A : Nat → Prop} {ad : Nat → Nat}
set_option maxRecDepth 100000 in
theorem lp_rval (C : cx_C p l s m args meth c s0 D cA cX9_replay 6 (some .int) RX9 A) {P : MS} {j r : Nat} (hj : j < 8) (hr : 13 * r + 13 ≤ 400) (hP : va_P D vwCl (mW cA ad P) H)
    (kk : ∀ ls : Array Slot, lv_has ls 6 [(3, .long (rvL (qI P 26) (400 * j + 13 * r + 3) 8)), (2, .int (nI r)), (0, .ref (ad 0)), (1, .int (nI j))] → W p l e R s m args below meth c H locs cells slots Q (F0 m 104 ls [])) :
    ∀ d k : Nat, k + d = 8 → ∀ x : Int64, x = rvL (qI P 26) (400 * j + 13 * r + 3) k → ∀ ls : Array Slot, lv_has ls 6 [(5, .int (nI k)), (3, .long x), (2, .int (nI r)), (0, .ref (ad 0)), (1, .int (nI j))] → W p l e R s m args below meth c H locs cells slots Q (F0 m 64 ls []) := by
  have hx := cx_x C
  have hb := cx_b C
  intro d
  induction d with
  | zero =>
    intro k hk x hx2 ls hl
    have hk : k = 8 := hk
    subst hk
    subst hx2
    refine lv_iload hx hb dX9_replay_64 (lv_at hl 0 rfl) ?_
    refine lv_bipush (v := 8) hx hb dX9_replay_66 (by decide) ?_
    refine lv_icmp_ge (tgt := 104) hx hb dX9_replay_68 (by decide) (fun _ => ?_) (fun h9 => absurd (by decide +kernel) h9)
    exact kk ls (lv_sub hl [1, 2, 3, 4] rfl)
  | succ d ih =>
    intro k hk x hx2 ls hl
    refine lv_iload hx hb dX9_replay_64 (lv_at hl 0 rfl) ?_
    refine lv_bipush (v := 8) hx hb dX9_replay_66 (by decide) ?_
    refine lv_icmp_ge (tgt := 104) hx hb dX9_replay_68 (by decide) (fun h9 => absurd h9 (nI_ge (b := 8) (by omega) (by omega))) (fun _ => ?_)
    refine lv_lload_n hx hb dX9_replay_71 rfl (lv_at hl 1 rfl) ?_
    refine lv_bipush (v := 8) hx hb dX9_replay_72 (by decide) ?_
    refine lv_lshl (v := x <<< ((8 : Int32).toInt64 &&& 63)) hx hb dX9_replay_74 rfl ?_
    refine lv_aload_n hx hb dX9_replay_75 rfl (lv_at hl 3 rfl) ?_
    refine gm_26 C hP tm_692 dX9_replay_76 ?_
    refine lv_sipush (v := 400) hx hb dX9_replay_79 (by decide) ?_
    refine lv_iload_n hx hb dX9_replay_82 rfl (lv_at hl 4 rfl) ?_
    refine lv_imul hx hb dX9_replay_83 ?_
    refine lv_bipush (v := 13) hx hb dX9_replay_84 (by decide) ?_
    refine lv_iload_n hx hb dX9_replay_86 rfl (lv_at hl 2 rfl) ?_
    refine lv_imul hx hb dX9_replay_87 ?_
    refine lv_iadd hx hb dX9_replay_88 ?_
    refine lv_iconst (v := 3) hx hb dX9_replay_89 (by decide) ?_
    refine lv_iadd hx hb dX9_replay_90 ?_
    refine lv_iload hx hb dX9_replay_91 (lv_at hl 0 rfl) ?_
    refine lv_iadd hx hb dX9_replay_93 ?_
    refine xl_26 (v := qI P 26 (400 * j + 13 * r + 3 + k)) (j := 400 * j + 13 * r + 3 + k) C hP (ix_eq i400k (by omega) (by decide)) (rfl) dX9_replay_94 ?_
    refine lv_i2l (v := (qI P 26 (400 * j + 13 * r + 3 + k)).toInt64) hx hb dX9_replay_95 rfl ?_
    refine lv_lor hx hb dX9_replay_96 ?_
    refine lv_lstore_n (lv' := [(3, .long ((x <<< ((8 : Int32).toInt64 &&& 63)) ||| ((qI P 26 (400 * j + 13 * r + 3 + k)).toInt64))), (5, .int (nI k)), (2, .int (nI r)), (0, .ref (ad 0)), (1, .int (nI j))]) hx hb dX9_replay_97 rfl hl (by decide) rfl (fun ls hl => ?_)
    refine lv_iinc (v := nI k + 1) (lv' := [(5, .int (nI k + 1)), (3, .long ((x <<< ((8 : Int32).toInt64 &&& 63)) ||| ((qI P 26 (400 * j + 13 * r + 3 + k)).toInt64))), (2, .int (nI r)), (0, .ref (ad 0)), (1, .int (nI j))]) hx hb dX9_replay_98 hl (k := 1) rfl (by first | rfl | decide) (by decide) rfl (fun ls hl => ?_)
    refine lv_goto (tgt := 64) hx hb dX9_replay_101 (by decide) ?_
    rw [nI_1] at hl
    exact ih (k + 1) (by omega) _ (by rw [rvL, ← hx2]) ls (lv_sub hl [0, 1, 2, 3, 4] rfl)
set_option maxRecDepth 100000 in
theorem lp_replay (C : cx_C p l s m args meth c s0 D cA cX9_replay 6 (some .int) RX9 A) (hG : cx_G l s0 D cA) {P : MS} {j z R0 : Nat} (hj : j < 8) (hz : qI P 25 j = nI z) (hz4 : z ≤ 400) (hR0 : rmX9_whole.frames + 1 ≤ R.frames ∧ 8 + (4 + 11) + rmX9_whole.locals ≤ R.locals) (hC0 : cells + rmX9_whole.cells ≤ R.cells ∧ slots + rmX9_whole.slots ≤ R.slots) 
    (kk : ∀ (H : Heap) (locs : List Loc) (ls : Array Slot), va_P D vwCl (mW cA ad (sR P (rpS (qI P 26) (400 * j) R0))) H → va_D A (mW cA ad (sR P (rpS (qI P 26) (400 * j) R0))) → va_S A s.heap H locs → lv_has ls 6 [(2, .int (nI R0)), (0, .ref (ad 0))] → W p l e R s m args below meth c H locs cells slots Q (F0 m 120 ls [])) :
    ∀ d r : Nat, r + d = 31 → rpN (qI P 26) (400 * j) z d r = R0 → ∀ T : MS, T = sR P (rpS (qI P 26) (400 * j) r) → ∀ (H : Heap) (locs : List Loc) (ls : Array Slot), va_P D vwCl (mW cA ad T) H → va_D A (mW cA ad T) → va_S A s.heap H locs → lv_has ls 6 [(2, .int (nI r)), (0, .ref (ad 0)), (1, .int (nI j))] → W p l e R s m args below meth c H locs cells slots Q (F0 m 26 ls []) := by
  have hx := cx_x C
  have hb := cx_b C
  intro d
  induction d with
  | zero =>
    intro r hk hN T hT H locs ls hP hD hS hl
    subst hT
    have hN : r = R0 := hN
    refine lv_bipush (v := 13) hx hb dX9_replay_26 (by decide) ?_
    refine lv_iload_n hx hb dX9_replay_28 rfl (lv_at hl 0 rfl) ?_
    refine lv_imul hx hb dX9_replay_29 ?_
    refine lv_bipush (v := 13) hx hb dX9_replay_30 (by decide) ?_
    refine lv_iadd hx hb dX9_replay_32 ?_
    refine lv_aload_n hx hb dX9_replay_33 rfl (lv_at hl 1 rfl) ?_
    refine gm_25 C hP tm_691 dX9_replay_34 ?_
    refine lv_iload_n hx hb dX9_replay_37 rfl (lv_at hl 2 rfl) ?_
    refine xl_25 (v := qI P 25 j) (j := j) C hP (ix8 hj) (rfl) dX9_replay_38 ?_
    refine lv_icmp_gt (tgt := 120) hx hb dX9_replay_39 (by decide) (fun _ => ?_) (fun h9 => absurd (by rw [i13, hz]; exact nI_lt (by omega) (by omega)) h9)
    subst hN
    exact kk H locs ls hP hD hS (lv_sub hl [0, 1] rfl)
  | succ d ih =>
    intro r hk hN T hT H locs ls hP hD hS hl
    subst hT
    refine lv_bipush (v := 13) hx hb dX9_replay_26 (by decide) ?_
    refine lv_iload_n hx hb dX9_replay_28 rfl (lv_at hl 0 rfl) ?_
    refine lv_imul hx hb dX9_replay_29 ?_
    refine lv_bipush (v := 13) hx hb dX9_replay_30 (by decide) ?_
    refine lv_iadd hx hb dX9_replay_32 ?_
    refine lv_aload_n hx hb dX9_replay_33 rfl (lv_at hl 1 rfl) ?_
    refine gm_25 C hP tm_691 dX9_replay_34 ?_
    refine lv_iload_n hx hb dX9_replay_37 rfl (lv_at hl 2 rfl) ?_
    refine xl_25 (v := qI P 25 j) (j := j) C hP (ix8 hj) (rfl) dX9_replay_38 ?_
    refine lv_icmp_gt (tgt := 120) hx hb dX9_replay_39 (by decide) (fun cz => ?_) (fun cz => ?_)
    · first
       | (rw [rpN, if_neg (fun h => absurd (nI_le h.1 (by omega)) (Int32.not_le.mpr (by rw [i13, hz] at cz; exact cz)))] at hN)
       | (rw [rpN, if_neg (fun h => by rw [if_pos h.2] at cw; exact absurd cw (by decide))] at hN)
      have hN : r = R0 := hN
      subst hN
      exact kk H locs ls hP hD hS (lv_sub hl [0, 1] rfl)
    have hz2 : 13 * r + 13 ≤ z := by rw [i13, hz] at cz; exact (nI_leI (by omega) (by omega)).mp (Int32.not_lt.mp cz)
    refine lv_aload_n hx hb dX9_replay_42 rfl (lv_at hl 1 rfl) ?_
    refine lv_sipush (v := 400) hx hb dX9_replay_43 (by decide) ?_
    refine lv_iload_n hx hb dX9_replay_46 rfl (lv_at hl 2 rfl) ?_
    refine lv_imul hx hb dX9_replay_47 ?_
    refine lv_bipush (v := 13) hx hb dX9_replay_48 (by decide) ?_
    refine lv_iload_n hx hb dX9_replay_50 rfl (lv_at hl 0 rfl) ?_
    refine lv_imul hx hb dX9_replay_51 ?_
    refine lv_iadd hx hb dX9_replay_52 ?_
    refine lv_topi (fun z9 e9 => ?_)
    obtain rfl : z9 = nI (400 * j + 13 * r) := e9.trans i40013
    refine mc_V (As := [.int (nI (400 * j + 13 * r))]) (rest := []) (r := some (.int (if whB (qI P 26) (400 * j + 13 * r) then 1 else 0))) (T := sR P (rpS (qI P 26) (400 * j) r)) C (k_whole hG _ (by omega)) tm_855 tm_857 tm_906 tm_3 tm_858 rfl hdX9_whole hR0 hl.1 rfl (Nat.le_of_ble_eq_true rfl) dX9_replay_53 hC0 hP hD hS (fun H locs hP hD hS => ?_)
    refine lv_if_eq (tgt := 120) hx hb dX9_replay_56 (by decide) (fun cw => ?_) (fun cw => ?_)
    · first
       | (rw [rpN, if_neg (fun h => absurd (nI_le h.1 (by omega)) (Int32.not_le.mpr (by rw [i13, hz] at cz; exact cz)))] at hN)
       | (rw [rpN, if_neg (fun h => by rw [if_pos h.2] at cw; exact absurd cw (by decide))] at hN)
      have hN : r = R0 := hN
      subst hN
      exact kk H locs ls hP hD hS (lv_sub hl [0, 1] rfl)
    have hw : whB (qI P 26) (400 * j + 13 * r) = true := Decidable.byContradiction fun h => cw (if_neg h)
    refine lv_lconst (v := 0) hx hb dX9_replay_59 (by decide) ?_
    refine lv_lstore_n (lv' := [(3, .long 0), (2, .int (nI r)), (0, .ref (ad 0)), (1, .int (nI j))]) hx hb dX9_replay_60 rfl hl (by decide) rfl (fun ls hl => ?_)
    refine lv_iconst (v := 0) hx hb dX9_replay_61 (by decide) ?_
    refine lv_istore (lv' := [(5, .int 0), (3, .long 0), (2, .int (nI r)), (0, .ref (ad 0)), (1, .int (nI j))]) hx hb dX9_replay_62 hl (by decide) rfl (fun ls hl => ?_)
    refine lp_rval (r := r) C hj (by omega) hP (fun ls hl => ?_) 8 0 (by decide) _ rfl ls (lv_sub hl [0, 1, 2, 3, 4] rfl)
    refine lv_aload_n hx hb dX9_replay_104 rfl (lv_at hl 2 rfl) ?_
    refine lv_aload_n hx hb dX9_replay_105 rfl (lv_at hl 2 rfl) ?_
    refine gm_27 (v := qR (sR P (rpS (qI P 26) (400 * j) r))) C hP rfl tm_693 dX9_replay_106 ?_
    refine lv_lload_n hx hb dX9_replay_109 rfl (lv_at hl 0 rfl) ?_
    refine lv_ladd hx hb dX9_replay_110 ?_
    refine pm_27 (v := (qR (sR P (rpS (qI P 26) (400 * j) r))) + (rvL (qI P 26) (400 * j + 13 * r + 3) 8)) C hP hD hS tm_693 dX9_replay_111 (fun H locs hP hD hS => ?_)
    refine lv_iinc (v := nI r + 1) (lv' := [(2, .int (nI r + 1)), (3, .long (rvL (qI P 26) (400 * j + 13 * r + 3) 8)), (0, .ref (ad 0)), (1, .int (nI j))]) hx hb dX9_replay_114 hl (k := 1) rfl (by first | rfl | decide) (by decide) rfl (fun ls hl => ?_)
    refine lv_goto (tgt := 26) hx hb dX9_replay_117 (by decide) ?_
    rw [rpN, if_pos ⟨hz2, hw⟩] at hN
    rw [nI_1] at hl
    exact ih (r + 1) (by omega) hN _ rfl H locs ls hP hD hS (lv_sub hl [0, 2, 3] rfl)
end Loops6
abbrev rmX9_replay : Room := { frames := 3, cells := 0, slots := 0, locals := 64 }
set_option maxRecDepth 100000 in
theorem k_replay_no {l : Launch} {s0 : State} {D : va_G} {cA : Nat → ClassId} {ad : Nat → Nat} (hG : cx_G l s0 D cA) {cn : Int32} (P : MS) (hc : ¬ ((0 : Int32) ≤ cn ∧ cn ≤ qS P 8 - 1)) : MC l s0 D cA ad yX9_replay cX9_replay 6 (some .int) rmX9_replay [.int cn] P (some (.int 0)) (sS (sS P 0 0) 0 1) := by
  refine Ct.of (cA := cA) hG (by decide +kernel) (Nat.le_of_ble_eq_true rfl) ?_
  intro p e s m below meth c A C hnm hP hD hS ls hl
  have hx := cx_x C
  have hb := cx_b C
  have hl : lv_has ls 6 [(0, .ref (ad 0)), (1, .int cn)] := hl
  refine lv_aload_n hx hb dX9_replay_0 rfl (lv_at hl 0 rfl) ?_
  refine lv_iconst (v := 0) hx hb dX9_replay_1 (by decide) ?_
  refine pm_0 (v := 0) C hP hD hS tm_666 dX9_replay_2 (fun H locs hP hD hS => ?_)
  refine lv_aload_n hx hb dX9_replay_5 rfl (lv_at hl 0 rfl) ?_
  refine lv_iload_n hx hb dX9_replay_6 rfl (lv_at hl 1 rfl) ?_
  refine mc_V (As := [.int cn]) (rest := []) (r := some (.int 1)) (T := sS P 0 0) C (k_noJ_no hG (sS P 0 0) hc) tm_843 tm_845 tm_905 tm_3 tm_846 rfl hdX9_noJournal ⟨Nat.le_of_ble_eq_true rfl, Nat.le_of_ble_eq_true rfl⟩ hl.1 rfl (Nat.le_of_ble_eq_true rfl) dX9_replay_7 ⟨Nat.le_of_ble_eq_true rfl, Nat.le_of_ble_eq_true rfl⟩ hP hD hS (fun H locs hP hD hS => ?_)
  refine lv_if_eq (tgt := 19) hx hb dX9_replay_10 (by decide) (fun h9 => absurd h9 (by decide)) (fun _ => ?_)
  refine lv_aload_n hx hb dX9_replay_13 rfl (lv_at hl 0 rfl) ?_
  refine lv_iconst (v := 1) hx hb dX9_replay_14 (by decide) ?_
  refine mc_V (As := [.int 1]) (rest := []) (r := some (.int 0)) (T := sS (sS P 0 0) 0 1) C (k_fail hG _ _) tm_769 tm_771 tm_895 tm_3 tm_772 rfl hdX9_fail ⟨Nat.le_of_ble_eq_true rfl, Nat.le_of_ble_eq_true rfl⟩ hl.1 rfl (Nat.le_of_ble_eq_true rfl) dX9_replay_15 ⟨Nat.le_of_ble_eq_true rfl, Nat.le_of_ble_eq_true rfl⟩ hP hD hS (fun H locs hP hD hS => ?_)
  exact ct_iret C hS hP hD (⟨rfl, rfl⟩) (Nat.le_of_ble_eq_true rfl) (Nat.le_of_ble_eq_true rfl) dX9_replay_18
set_option maxRecDepth 100000 in
theorem k_replay_k {l : Launch} {s0 : State} {D : va_G} {cA : Nat → ClassId} {ad : Nat → Nat} (hG : cx_G l s0 D cA) {j n : Nat} (P : MS) (hn : qS P 8 = nI n) (hn8 : n ≤ 8) (hj : j < n) (hk : ¬ qI P 9 j = 3) : MC l s0 D cA ad yX9_replay cX9_replay 6 (some .int) rmX9_replay [.int (nI j)] P (some (.int 0)) (sS (sS P 0 0) 0 1) := by
  refine Ct.of (cA := cA) hG (by decide +kernel) (Nat.le_of_ble_eq_true rfl) ?_
  intro p e s m below meth c A C hnm hP hD hS ls hl
  have hx := cx_x C
  have hb := cx_b C
  have hl : lv_has ls 6 [(0, .ref (ad 0)), (1, .int (nI j))] := hl
  refine lv_aload_n hx hb dX9_replay_0 rfl (lv_at hl 0 rfl) ?_
  refine lv_iconst (v := 0) hx hb dX9_replay_1 (by decide) ?_
  refine pm_0 (v := 0) C hP hD hS tm_666 dX9_replay_2 (fun H locs hP hD hS => ?_)
  refine lv_aload_n hx hb dX9_replay_5 rfl (lv_at hl 0 rfl) ?_
  refine lv_iload_n hx hb dX9_replay_6 rfl (lv_at hl 1 rfl) ?_
  refine mc_V (As := [.int (nI j)]) (rest := []) (r := some (.int 1)) (T := sS P 0 0) C (k_noJ_k (n := n) hG (sS P 0 0) hn hn8 hj hk) tm_843 tm_845 tm_905 tm_3 tm_846 rfl hdX9_noJournal ⟨Nat.le_of_ble_eq_true rfl, Nat.le_of_ble_eq_true rfl⟩ hl.1 rfl (Nat.le_of_ble_eq_true rfl) dX9_replay_7 ⟨Nat.le_of_ble_eq_true rfl, Nat.le_of_ble_eq_true rfl⟩ hP hD hS (fun H locs hP hD hS => ?_)
  refine lv_if_eq (tgt := 19) hx hb dX9_replay_10 (by decide) (fun h9 => absurd h9 (by decide)) (fun _ => ?_)
  refine lv_aload_n hx hb dX9_replay_13 rfl (lv_at hl 0 rfl) ?_
  refine lv_iconst (v := 1) hx hb dX9_replay_14 (by decide) ?_
  refine mc_V (As := [.int 1]) (rest := []) (r := some (.int 0)) (T := sS (sS P 0 0) 0 1) C (k_fail hG _ _) tm_769 tm_771 tm_895 tm_3 tm_772 rfl hdX9_fail ⟨Nat.le_of_ble_eq_true rfl, Nat.le_of_ble_eq_true rfl⟩ hl.1 rfl (Nat.le_of_ble_eq_true rfl) dX9_replay_15 ⟨Nat.le_of_ble_eq_true rfl, Nat.le_of_ble_eq_true rfl⟩ hP hD hS (fun H locs hP hD hS => ?_)
  exact ct_iret C hS hP hD (⟨rfl, rfl⟩) (Nat.le_of_ble_eq_true rfl) (Nat.le_of_ble_eq_true rfl) dX9_replay_18
set_option maxRecDepth 100000 in
theorem k_replay_ok {l : Launch} {s0 : State} {D : va_G} {cA : Nat → ClassId} {ad : Nat → Nat} (hG : cx_G l s0 D cA) {j n z : Nat} (P : MS) (hn : qS P 8 = nI n) (hn8 : n ≤ 8) (hj : j < n) (hk : qI P 9 j = 3) (hz : qI P 25 j = nI z) (hz4 : z ≤ 400) : MC l s0 D cA ad yX9_replay cX9_replay 6 (some .int) rmX9_replay [.int (nI j)] P (some (.int (nI (rpN (qI P 26) (400 * j) z 31 0)))) (sR (sS P 0 0) (rpS (qI P 26) (400 * j) (rpN (qI P 26) (400 * j) z 31 0))) := by
  refine Ct.of (cA := cA) hG (by decide +kernel) (Nat.le_of_ble_eq_true rfl) ?_
  intro p e s m below meth c A C hnm hP hD hS ls hl
  have hx := cx_x C
  have hb := cx_b C
  have hl : lv_has ls 6 [(0, .ref (ad 0)), (1, .int (nI j))] := hl
  refine lv_aload_n hx hb dX9_replay_0 rfl (lv_at hl 0 rfl) ?_
  refine lv_iconst (v := 0) hx hb dX9_replay_1 (by decide) ?_
  refine pm_0 (v := 0) C hP hD hS tm_666 dX9_replay_2 (fun H locs hP hD hS => ?_)
  refine lv_aload_n hx hb dX9_replay_5 rfl (lv_at hl 0 rfl) ?_
  refine lv_iload_n hx hb dX9_replay_6 rfl (lv_at hl 1 rfl) ?_
  refine mc_V (As := [.int (nI j)]) (rest := []) (r := some (.int 0)) (T := sS P 0 0) C (k_noJ_ok (n := n) hG (sS P 0 0) hn hn8 hj hk) tm_843 tm_845 tm_905 tm_3 tm_846 rfl hdX9_noJournal ⟨Nat.le_of_ble_eq_true rfl, Nat.le_of_ble_eq_true rfl⟩ hl.1 rfl (Nat.le_of_ble_eq_true rfl) dX9_replay_7 ⟨Nat.le_of_ble_eq_true rfl, Nat.le_of_ble_eq_true rfl⟩ hP hD hS (fun H locs hP hD hS => ?_)
  refine lv_if_eq (tgt := 19) hx hb dX9_replay_10 (by decide) (fun _ => ?_) (fun h9 => absurd (by decide) h9)
  refine lv_aload_n hx hb dX9_replay_19 rfl (lv_at hl 0 rfl) ?_
  refine lv_lconst (v := 0) hx hb dX9_replay_20 (by decide) ?_
  refine pm_27 (v := 0) C hP hD hS tm_693 dX9_replay_21 (fun H locs hP hD hS => ?_)
  refine lv_iconst (v := 0) hx hb dX9_replay_24 (by decide) ?_
  refine lv_istore_n (lv' := [(2, .int 0), (0, .ref (ad 0)), (1, .int (nI j))]) hx hb dX9_replay_25 rfl hl (by decide) rfl (fun ls hl => ?_)
  refine lp_replay (P := sS P 0 0) (z := z) C hG (Nat.lt_of_lt_of_le hj hn8) hz hz4 ⟨Nat.le_of_ble_eq_true rfl, Nat.le_of_ble_eq_true rfl⟩ ⟨Nat.le_of_ble_eq_true rfl, Nat.le_of_ble_eq_true rfl⟩ (fun H locs ls hP hD hS hl => ?_) 31 0 (by decide) rfl _ rfl _ _ ls hP hD hS (lv_sub hl [0, 1, 2] rfl)
  refine lv_iload_n hx hb dX9_replay_120 rfl (lv_at hl 0 rfl) ?_
  exact ct_iret C hS hP hD (⟨rfl, rfl⟩) (Nat.le_of_ble_eq_true rfl) (Nat.le_of_ble_eq_true rfl) dX9_replay_121
