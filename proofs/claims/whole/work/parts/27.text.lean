/-! STRING's methods, on the texts -/
theorem fl_J0_9 : Cond.fieldLink RJ0 9 "java/lang/String" "value" "[B" ∈ lwG := wm 1843 (by decide +kernel) (by decide +kernel)
theorem fl_J0_15 : Cond.fieldLink RJ0 15 "java/lang/String" "coder" "B" ∈ lwG := wm 1844 (by decide +kernel) (by decide +kernel)
theorem fl_J0_38 : Cond.fieldLink RJ0 38 "java/lang/String" "COMPACT_STRINGS" "Z" ∈ lwG := wm 1157 (by decide +kernel) (by decide +kernel)
theorem fl_J0_1053 : Cond.fieldLink RJ0 1053 "jdk/internal/util/Preconditions" "SIOOBE_FORMATTER" "Ljava/util/function/BiFunction;" ∈ lwG := wm 1173 (by decide +kernel) (by decide +kernel)
/-- the sign at place j of text i -/
def tC (i j : Nat) : Int32 := (tx_byt.getD i []).getD j 0
theorem tx_lt : ∀ i, i < 20 → tx_len.getD i 0 < 60 := by decide +kernel
theorem tC_ok : ∀ i, i < 20 → ∀ j, j < tx_len.getD i 0 → ((tC i j &&& 255).toUInt32 % 65536).toInt32 = tC i j ∧ narrow .char (.int (tC i j)) = .int (tC i j) ∧ tC i j = nI (tC i j).toNatClampNeg ∧ (tC i j).toNatClampNeg < 128 := by decide +kernel
section TEXTS
variable {G : GG} {M : Mm}
theorem k_J0_coder {i : Nat} (hi : i < 20) : KP G IJ0_coder_7d493 [.ref (gk G i)] M 0 := by
  refine KK.ofW (by decide) (by simp [Value.category]) (Nat.le_of_ble_eq_true rfl) rfl ?_
  show WW _ _ _ 0 [_] [] _ _ _
  refine r_getsC (dk kJ0_coder_7d493 0 rfl) fl_J0_38 ?_
  refine r_if_eq (tgt := 13) (dk kJ0_coder_7d493 1 rfl) (by decide) (fun c3 => absurd c3 (by decide)) (fun c3 => ?_)
  refine r_aload_n (dk kJ0_coder_7d493 2 rfl) rfl ?_
  refine r_tcod (dk kJ0_coder_7d493 3 rfl) fl_J0_15 hi ?_
  refine r_goto (tgt := 14) (dk kJ0_coder_7d493 4 rfl) (by decide) ?_
  refine r_ireturn (dk kJ0_coder_7d493 6 rfl) rfl rfl ⟨Nat.le_of_ble_eq_true rfl, Nat.le_of_ble_eq_true rfl⟩ ⟨rfl, rfl⟩
theorem k_J0_length {i : Nat} (hi : i < 20) : KP G IJ0_length_8abf5 [.ref (gk G i)] M (nI (tx_len.getD i 0)) := by
  refine KK.ofW (by decide) (by simp [Value.category]) (Nat.le_of_ble_eq_true rfl) rfl ?_
  show WW _ _ _ 0 [_] [] _ _ _
  have ht := tx_lt i hi
  refine r_aload_n (dk kJ0_length_8abf5 0 rfl) rfl ?_
  refine r_tval (dk kJ0_length_8abf5 1 rfl) fl_J0_9 hi ?_
  refine r_tlen (dk kJ0_length_8abf5 2 rfl) hi ?_
  refine r_aload_n (dk kJ0_length_8abf5 3 rfl) rfl ?_
  refine r_callTp (I' := IJ0_coder_7d493) (as := []) (dk kJ0_length_8abf5 4 rfl) mv_J0_coder_7d493 ml_J0_335 rfl rfl hi rfl rfl (Nat.le_of_ble_eq_true rfl) ⟨by decide, by decide⟩ ⟨rfl, rfl⟩ ⟨Nat.le_of_ble_eq_true rfl, Nat.le_of_ble_eq_true rfl⟩ (k_J0_coder hi) ?_
  -- at 9
  refine r_ishr (dk kJ0_length_8abf5 5 rfl) ?_
  -- at 10
  rw [show (nI (tx_len.getD i 0)) >>> ((0 : Int32) &&& 31) = nI (tx_len.getD i 0) from (nI_shr (k := 0) (by omega) (by decide)).trans (by rw [Nat.pow_zero, Nat.div_one])]
  refine r_ireturn (dk kJ0_length_8abf5 6 rfl) rfl rfl ⟨Nat.le_of_ble_eq_true rfl, Nat.le_of_ble_eq_true rfl⟩ ⟨rfl, rfl⟩
theorem k_J0_isEmpty {i : Nat} (hi : i < 20) : KP G IJ0_isEmpty_aae02 [.ref (gk G i)] M (bI (tx_len.getD i 0 = 0)) := by
  refine KK.ofW (by decide) (by simp [Value.category]) (Nat.le_of_ble_eq_true rfl) rfl ?_
  show WW _ _ _ 0 [_] [] _ _ _
  have ht := tx_lt i hi
  by_cases h : tx_len.getD i 0 = 0
  · rw [bI_t h]
    refine r_aload_n (dk kJ0_isEmpty_aae02 0 rfl) rfl ?_
    refine r_tval (dk kJ0_isEmpty_aae02 1 rfl) fl_J0_9 hi ?_
    refine r_tlen (dk kJ0_isEmpty_aae02 2 rfl) hi ?_
    refine r_if_ne (tgt := 12) (dk kJ0_isEmpty_aae02 3 rfl) (by decide) (fun c5 => absurd c5 (by rw [h]; exact fun z => z rfl)) (fun c5 => ?_)
    refine r_iconst (v := 1) (dk kJ0_isEmpty_aae02 4 rfl) (by decide) ?_
    refine r_goto (tgt := 13) (dk kJ0_isEmpty_aae02 5 rfl) (by decide) ?_
    refine r_ireturn (dk kJ0_isEmpty_aae02 7 rfl) rfl rfl ⟨Nat.le_of_ble_eq_true rfl, Nat.le_of_ble_eq_true rfl⟩ ⟨rfl, rfl⟩
  · rw [bI_f h]
    refine r_aload_n (dk kJ0_isEmpty_aae02 0 rfl) rfl ?_
    refine r_tval (dk kJ0_isEmpty_aae02 1 rfl) fl_J0_9 hi ?_
    refine r_tlen (dk kJ0_isEmpty_aae02 2 rfl) hi ?_
    refine r_if_ne (tgt := 12) (dk kJ0_isEmpty_aae02 3 rfl) (by decide) (fun c5 => ?_) (fun c5 => absurd (fun z => h (nI_inj (b := 0) (by omega) (by decide) z)) c5)
    refine r_iconst (v := 0) (dk kJ0_isEmpty_aae02 6 rfl) (by decide) ?_
    refine r_ireturn (dk kJ0_isEmpty_aae02 7 rfl) rfl rfl ⟨Nat.le_of_ble_eq_true rfl, Nat.le_of_ble_eq_true rfl⟩ ⟨rfl, rfl⟩
theorem k_J0_isLatin1 {i : Nat} (hi : i < 20) : KP G IJ0_isLatin1_aae02 [.ref (gk G i)] M 1 := by
  refine KK.ofW (by decide) (by simp [Value.category]) (Nat.le_of_ble_eq_true rfl) rfl ?_
  show WW _ _ _ 0 [_] [] _ _ _
  refine r_getsC (dk kJ0_isLatin1_aae02 0 rfl) fl_J0_38 ?_
  refine r_if_eq (tgt := 17) (dk kJ0_isLatin1_aae02 1 rfl) (by decide) (fun c3 => absurd c3 (by decide)) (fun c3 => ?_)
  refine r_aload_n (dk kJ0_isLatin1_aae02 2 rfl) rfl ?_
  refine r_tcod (dk kJ0_isLatin1_aae02 3 rfl) fl_J0_15 hi ?_
  refine r_if_ne (tgt := 17) (dk kJ0_isLatin1_aae02 4 rfl) (by decide) (fun c10 => absurd c10 (by decide)) (fun c10 => ?_)
  refine r_iconst (v := 1) (dk kJ0_isLatin1_aae02 5 rfl) (by decide) ?_
  refine r_goto (tgt := 18) (dk kJ0_isLatin1_aae02 6 rfl) (by decide) ?_
  refine r_ireturn (dk kJ0_isLatin1_aae02 8 rfl) rfl rfl ⟨Nat.le_of_ble_eq_true rfl, Nat.le_of_ble_eq_true rfl⟩ ⟨rfl, rfl⟩
theorem k_J3_checkIndex {x n : Int32} {r : Option Nat} (h0 : 0 ≤ x) (hn : x < n) : KP G IJ3_checkIndex_8e157 [.int x, .int n, va_rf r] M x := by
  refine KK.ofW (by decide) (by cases r <;> simp [Value.category, va_rf]) (Nat.le_of_ble_eq_true rfl) rfl ?_
  show WW _ _ _ 0 [_, _, _] [] _ _ _
  refine r_iload_n (dk kJ3_checkIndex_8e157 0 rfl) rfl ?_
  refine r_if_lt (tgt := 9) (dk kJ3_checkIndex_8e157 1 rfl) (by decide) (fun c1 => absurd c1 (Int32.not_lt.mpr h0)) (fun c1 => ?_)
  refine r_iload_n (dk kJ3_checkIndex_8e157 2 rfl) rfl ?_
  refine r_iload_n (dk kJ3_checkIndex_8e157 3 rfl) rfl ?_
  refine r_icmp_lt (tgt := 16) (dk kJ3_checkIndex_8e157 4 rfl) (by decide) (fun c6 => ?_) (fun c6 => absurd hn c6)
  refine r_iload_n (dk kJ3_checkIndex_8e157 10 rfl) rfl ?_
  refine r_ireturn (dk kJ3_checkIndex_8e157 11 rfl) rfl rfl ⟨Nat.le_of_ble_eq_true rfl, Nat.le_of_ble_eq_true rfl⟩ ⟨rfl, rfl⟩
theorem k_J0_checkIndex {x n : Int32} (h0 : 0 ≤ x) (hn : x < n) : KU G IJ0_checkIndex_df160 [.int x, .int n] M M := by
  refine KK.ofW (by decide) (by simp [Value.category]) (Nat.le_of_ble_eq_true rfl) rfl ?_
  show WW _ _ _ 0 [_, _] [] _ _ _
  refine r_iload_n (dk kJ0_checkIndex_df160 0 rfl) rfl ?_
  refine r_iload_n (dk kJ0_checkIndex_df160 1 rfl) rfl ?_
  refine r_getsF (dk kJ0_checkIndex_df160 2 rfl) fl_J0_1053 ?_
  intro rf
  refine r_callSp (I' := IJ3_checkIndex_8e157) (as := [_, _, _]) (dk kJ0_checkIndex_df160 3 rfl) ms_J3_checkIndex_8e157 ml_J0_1059 rfl rfl rfl (Nat.le_of_ble_eq_true rfl) ⟨by decide, by decide⟩ ⟨rfl, rfl⟩ ⟨Nat.le_of_ble_eq_true rfl, Nat.le_of_ble_eq_true rfl⟩ (k_J3_checkIndex h0 hn) ?_
  refine r_pop (dk kJ0_checkIndex_df160 4 rfl) rfl ?_
  refine r_return (dk kJ0_checkIndex_df160 5 rfl) rfl ⟨Nat.le_of_ble_eq_true rfl, Nat.le_of_ble_eq_true rfl⟩ rfl
theorem k_J1_charAt {i j : Nat} (hi : i < 20) (hj : j < tx_len.getD i 0) : KP G IJ1_charAt_3b067 [.ref (gv G i), .int (nI j)] M (tC i j) := by
  refine KK.ofW (by decide) (by simp [Value.category]) (Nat.le_of_ble_eq_true rfl) rfl ?_
  show WW _ _ _ 0 [_, _] [] _ _ _
  have ht := tx_lt i hi
  have hc := tC_ok i hi j hj
  refine r_iload_n (dk kJ1_charAt_3b067 0 rfl) rfl ?_
  refine r_aload_n (dk kJ1_charAt_3b067 1 rfl) rfl ?_
  refine r_tlen (dk kJ1_charAt_3b067 2 rfl) hi ?_
  refine r_callSu (I' := IJ0_checkIndex_df160) (as := [_, _]) (dk kJ1_charAt_3b067 3 rfl) ms_J0_checkIndex_df160 ml_J1_9 rfl rfl rfl (Nat.le_of_ble_eq_true rfl) ⟨by decide, by decide⟩ ⟨rfl, rfl⟩ ⟨Nat.le_of_ble_eq_true rfl, Nat.le_of_ble_eq_true rfl⟩ (k_J0_checkIndex (nI_pos' (by omega)) (nI_lt hj (by omega))) ?_
  refine r_aload_n (dk kJ1_charAt_3b067 4 rfl) rfl ?_
  refine r_iload_n (dk kJ1_charAt_3b067 5 rfl) rfl ?_
  refine r_tb (dk kJ1_charAt_3b067 6 rfl) hi (nI_in hj (by omega)) ?_
  refine r_sipush (v := 255) (dk kJ1_charAt_3b067 7 rfl) (by decide) ?_
  refine r_iand (dk kJ1_charAt_3b067 8 rfl) ?_
  refine r_i2c (dk kJ1_charAt_3b067 9 rfl) ?_
  -- at 14
  rw [nI_clamp (by omega)]
  show WW _ _ _ _ _ [.int ((tC i j &&& 255).toUInt32 % 65536).toInt32] _ _ _
  rw [hc.1]
  refine r_ireturn (dk kJ1_charAt_3b067 10 rfl) rfl hc.2.1 ⟨Nat.le_of_ble_eq_true rfl, Nat.le_of_ble_eq_true rfl⟩ ⟨rfl, rfl⟩
theorem k_J0_charAt {i j : Nat} (hi : i < 20) (hj : j < tx_len.getD i 0) : KP G IJ0_charAt_5068e [.ref (gk G i), .int (nI j)] M (tC i j) := by
  refine KK.ofW (by decide) (by simp [Value.category]) (Nat.le_of_ble_eq_true rfl) rfl ?_
  show WW _ _ _ 0 [_, _] [] _ _ _
  have hc := tC_ok i hi j hj
  refine r_aload_n (dk kJ0_charAt_5068e 0 rfl) rfl ?_
  refine r_callTp (I' := IJ0_isLatin1_aae02) (as := []) (dk kJ0_charAt_5068e 1 rfl) mv_J0_isLatin1_aae02 ml_J0_492 rfl rfl hi rfl rfl (Nat.le_of_ble_eq_true rfl) ⟨by decide, by decide⟩ ⟨rfl, rfl⟩ ⟨Nat.le_of_ble_eq_true rfl, Nat.le_of_ble_eq_true rfl⟩ (k_J0_isLatin1 hi) ?_
  refine r_if_eq (tgt := 16) (dk kJ0_charAt_5068e 2 rfl) (by decide) (fun c4 => absurd c4 (by decide)) (fun c4 => ?_)
  refine r_aload_n (dk kJ0_charAt_5068e 3 rfl) rfl ?_
  refine r_tval (dk kJ0_charAt_5068e 4 rfl) fl_J0_9 hi ?_
  refine r_iload_n (dk kJ0_charAt_5068e 5 rfl) rfl ?_
  refine r_callSp (I' := IJ1_charAt_3b067) (as := [_, _]) (dk kJ0_charAt_5068e 6 rfl) ms_J1_charAt_3b067 ml_J0_495 rfl rfl rfl (Nat.le_of_ble_eq_true rfl) ⟨by decide, by decide⟩ ⟨rfl, rfl⟩ ⟨Nat.le_of_ble_eq_true rfl, Nat.le_of_ble_eq_true rfl⟩ (k_J1_charAt hi hj) ?_
  refine r_ireturn (dk kJ0_charAt_5068e 7 rfl) rfl hc.2.1 ⟨Nat.le_of_ble_eq_true rfl, Nat.le_of_ble_eq_true rfl⟩ ⟨rfl, rfl⟩
end TEXTS
