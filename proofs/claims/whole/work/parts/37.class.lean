/-! THE CLASS: bits counted, small things of petitions and rulings -/
section ROWS2
variable {G : GG} {I : MI} {Q : QQ} {pc : Nat} {L st : List Value} {M : Mm} {k n : Nat}
/-- the shift without sign, as the machine has it -/
def us (x y : Int32) : Int32 := (x.toUInt32 >>> (y.toUInt32 &&& Int32.toUInt32 31)).toInt32
theorem r_iushr {x y : Int32} (hd : decode (mB I) pc = .ok (.iushr, 1)) (h : WW G I Q (pc + 1) L (.int (us x y) :: st) M k n) : WW G I Q pc L (.int y :: .int x :: st) M k n := by
  intro p e s m args below meth c H locs ls C Y S V
  exact lv_iushr C.1 C.2.1 hd rfl (h p e s m args below meth c H locs ls C Y S V)
theorem r_ldcw {idx : Nat} {v : Int32} (hd : decode (mB I) pc = .ok (.ldc_w idx, 3)) (hc : Cond.constant (mY I).cls idx v ∈ lwG) (h : WW G I Q (pc + 3) L (.int v :: st) M k n) : WW G I Q pc L st M k n := by
  intro p e s m args below meth c H locs ls C Y S V
  exact lv_ldcw C.1 C.2.1 C.2.2.2.2.2.1 (C.2.2.2.2.1 _ hc) hd (h p e s m args below meth c H locs ls C Y S V)
end ROWS2
theorem co_J6_265 : Cond.constant RJ6 265 1431655765 ∈ lwG := wm 773 (by decide +kernel) (by decide +kernel)
theorem co_J6_266 : Cond.constant RJ6 266 858993459 ∈ lwG := wm 774 (by decide +kernel) (by decide +kernel)
theorem co_J6_267 : Cond.constant RJ6 267 252645135 ∈ lwG := wm 775 (by decide +kernel) (by decide +kernel)
def bc1 (x : Int32) : Int32 := x - (us x 1 &&& 1431655765)
def bc2 (x : Int32) : Int32 := (x &&& 858993459) + (us x 2 &&& 858993459)
def bc3 (x : Int32) : Int32 := (x + us x 4) &&& 252645135
def bc4 (x : Int32) : Int32 := x + us x 8
def bc5 (x : Int32) : Int32 := x + us x 16
def bcF (x : Int32) : Int32 := bc5 (bc4 (bc3 (bc2 (bc1 x)))) &&& 63
theorem bc_64 : ∀ m, m < 64 → bcF (nI m) = nI (bN m) := by decide +kernel
section CLASS
variable {G : GG} {M : Mm} {a b : Nat}
theorem k_J6_bitCount (x : Int32) : KP G IJ6_bitCount_0f7a4 [.int x] M (bcF x) := by
  refine KK.ofW (by decide) (by simp [Value.category]) (Nat.le_of_ble_eq_true rfl) rfl ?_
  show WW _ _ _ 0 [_] [] _ _ _
  refine r_iload_n (dk kJ6_bitCount_0f7a4 0 rfl) rfl ?_
  refine r_iload_n (dk kJ6_bitCount_0f7a4 1 rfl) rfl ?_
  refine r_iconst (v := 1) (dk kJ6_bitCount_0f7a4 2 rfl) (by decide) ?_
  refine r_iushr (dk kJ6_bitCount_0f7a4 3 rfl) ?_
  refine r_ldcw (dk kJ6_bitCount_0f7a4 4 rfl) co_J6_265 ?_
  refine r_iand (dk kJ6_bitCount_0f7a4 5 rfl) ?_
  refine r_isub (dk kJ6_bitCount_0f7a4 6 rfl) ?_
  refine r_istore_n (j := 0) (dk kJ6_bitCount_0f7a4 7 rfl) rfl (by decide) rfl ?_
  simp only [List.set_cons_succ, List.set_cons_zero]
  refine r_iload_n (dk kJ6_bitCount_0f7a4 8 rfl) rfl ?_
  refine r_ldcw (dk kJ6_bitCount_0f7a4 9 rfl) co_J6_266 ?_
  refine r_iand (dk kJ6_bitCount_0f7a4 10 rfl) ?_
  refine r_iload_n (dk kJ6_bitCount_0f7a4 11 rfl) rfl ?_
  refine r_iconst (v := 2) (dk kJ6_bitCount_0f7a4 12 rfl) (by decide) ?_
  refine r_iushr (dk kJ6_bitCount_0f7a4 13 rfl) ?_
  refine r_ldcw (dk kJ6_bitCount_0f7a4 14 rfl) co_J6_266 ?_
  refine r_iand (dk kJ6_bitCount_0f7a4 15 rfl) ?_
  refine r_iadd (dk kJ6_bitCount_0f7a4 16 rfl) ?_
  refine r_istore_n (j := 0) (dk kJ6_bitCount_0f7a4 17 rfl) rfl (by decide) rfl ?_
  simp only [List.set_cons_succ, List.set_cons_zero]
  refine r_iload_n (dk kJ6_bitCount_0f7a4 18 rfl) rfl ?_
  refine r_iload_n (dk kJ6_bitCount_0f7a4 19 rfl) rfl ?_
  refine r_iconst (v := 4) (dk kJ6_bitCount_0f7a4 20 rfl) (by decide) ?_
  refine r_iushr (dk kJ6_bitCount_0f7a4 21 rfl) ?_
  refine r_iadd (dk kJ6_bitCount_0f7a4 22 rfl) ?_
  refine r_ldcw (dk kJ6_bitCount_0f7a4 23 rfl) co_J6_267 ?_
  refine r_iand (dk kJ6_bitCount_0f7a4 24 rfl) ?_
  refine r_istore_n (j := 0) (dk kJ6_bitCount_0f7a4 25 rfl) rfl (by decide) rfl ?_
  simp only [List.set_cons_succ, List.set_cons_zero]
  refine r_iload_n (dk kJ6_bitCount_0f7a4 26 rfl) rfl ?_
  refine r_iload_n (dk kJ6_bitCount_0f7a4 27 rfl) rfl ?_
  refine r_bipush (v := 8) (dk kJ6_bitCount_0f7a4 28 rfl) (by decide) ?_
  refine r_iushr (dk kJ6_bitCount_0f7a4 29 rfl) ?_
  refine r_iadd (dk kJ6_bitCount_0f7a4 30 rfl) ?_
  refine r_istore_n (j := 0) (dk kJ6_bitCount_0f7a4 31 rfl) rfl (by decide) rfl ?_
  simp only [List.set_cons_succ, List.set_cons_zero]
  refine r_iload_n (dk kJ6_bitCount_0f7a4 32 rfl) rfl ?_
  refine r_iload_n (dk kJ6_bitCount_0f7a4 33 rfl) rfl ?_
  refine r_bipush (v := 16) (dk kJ6_bitCount_0f7a4 34 rfl) (by decide) ?_
  refine r_iushr (dk kJ6_bitCount_0f7a4 35 rfl) ?_
  refine r_iadd (dk kJ6_bitCount_0f7a4 36 rfl) ?_
  refine r_istore_n (j := 0) (dk kJ6_bitCount_0f7a4 37 rfl) rfl (by decide) rfl ?_
  simp only [List.set_cons_succ, List.set_cons_zero]
  refine r_iload_n (dk kJ6_bitCount_0f7a4 38 rfl) rfl ?_
  refine r_bipush (v := 63) (dk kJ6_bitCount_0f7a4 39 rfl) (by decide) ?_
  refine r_iand (dk kJ6_bitCount_0f7a4 40 rfl) ?_
  refine r_ireturn (dk kJ6_bitCount_0f7a4 41 rfl) rfl rfl ⟨Nat.le_of_ble_eq_true rfl, Nat.le_of_ble_eq_true rfl⟩ ⟨rfl, rfl⟩
theorem k_X4_countFor (ka : kd M a = 4) {m : Nat} (hm : m < 64) (h10 : mi M a 10 = nI m) : KP G IX4_countFor [.ref a] M (nI (bN m)) := by
  refine KK.ofW (by decide) (by simp [Value.category]) (Nat.le_of_ble_eq_true rfl) rfl ?_
  show WW _ _ _ 0 [_] [] _ _ _
  refine r_aload_n (dk kX4_countFor 0 rfl) rfl ?_
  refine r_geti (dk kX4_countFor 1 rfl) fa_X4_7_3 ka rfl ?_
  -- at 4
  rw [h10]
  refine r_callSp (I' := IJ6_bitCount_0f7a4) (as := [_]) (dk kX4_countFor 2 rfl) ms_J6_bitCount_0f7a4 ml_X4_28 rfl rfl rfl (Nat.le_of_ble_eq_true rfl) ⟨by decide, by decide⟩ ⟨rfl, rfl⟩ ⟨Nat.le_of_ble_eq_true rfl, Nat.le_of_ble_eq_true rfl⟩ (k_J6_bitCount _) ?_
  refine r_ireturn (dk kX4_countFor 3 rfl) rfl rfl ⟨Nat.le_of_ble_eq_true rfl, Nat.le_of_ble_eq_true rfl⟩ ⟨bc_64 m hm, rfl⟩
theorem k_X4_countAgainst (ka : kd M a = 4) {m : Nat} (hm : m < 64) (h11 : mi M a 11 = nI m) : KP G IX4_countAgainst [.ref a] M (nI (bN m)) := by
  refine KK.ofW (by decide) (by simp [Value.category]) (Nat.le_of_ble_eq_true rfl) rfl ?_
  show WW _ _ _ 0 [_] [] _ _ _
  refine r_aload_n (dk kX4_countAgainst 0 rfl) rfl ?_
  refine r_geti (dk kX4_countAgainst 1 rfl) fa_X4_13_3 ka rfl ?_
  -- at 4
  rw [h11]
  refine r_callSp (I' := IJ6_bitCount_0f7a4) (as := [_]) (dk kX4_countAgainst 2 rfl) ms_J6_bitCount_0f7a4 ml_X4_28 rfl rfl rfl (Nat.le_of_ble_eq_true rfl) ⟨by decide, by decide⟩ ⟨rfl, rfl⟩ ⟨Nat.le_of_ble_eq_true rfl, Nat.le_of_ble_eq_true rfl⟩ (k_J6_bitCount _) ?_
  refine r_ireturn (dk kX4_countAgainst 3 rfl) rfl rfl ⟨Nat.le_of_ble_eq_true rfl, Nat.le_of_ble_eq_true rfl⟩ ⟨bc_64 m hm, rfl⟩
theorem k_X4_countVotes (ka : kd M a = 4) {m w : Nat} (hm : m < 64) (hw : w < 64) (h10 : mi M a 10 = nI m) (h11 : mi M a 11 = nI w) : KP G IX4_countVotes [.ref a] M (nI (bN m + bN w)) := by
  refine KK.ofW (by decide) (by simp [Value.category]) (Nat.le_of_ble_eq_true rfl) rfl ?_
  show WW _ _ _ 0 [_] [] _ _ _
  refine r_aload_n (dk kX4_countVotes 0 rfl) rfl ?_
  refine r_callVp (I' := IX4_countFor) (as := []) (dk kX4_countVotes 1 rfl) mv_X4_countFor ml_X4_34 rfl rfl ka rfl rfl (Nat.le_of_ble_eq_true rfl) ⟨by decide, by decide⟩ ⟨rfl, rfl⟩ ⟨Nat.le_of_ble_eq_true rfl, Nat.le_of_ble_eq_true rfl⟩ (k_X4_countFor ka hm h10) ?_
  refine r_aload_n (dk kX4_countVotes 2 rfl) rfl ?_
  refine r_callVp (I' := IX4_countAgainst) (as := []) (dk kX4_countVotes 3 rfl) mv_X4_countAgainst ml_X4_38 rfl rfl ka rfl rfl (Nat.le_of_ble_eq_true rfl) ⟨by decide, by decide⟩ ⟨rfl, rfl⟩ ⟨Nat.le_of_ble_eq_true rfl, Nat.le_of_ble_eq_true rfl⟩ (k_X4_countAgainst ka hw h11) ?_
  refine r_iadd (dk kX4_countVotes 4 rfl) ?_
  refine r_ireturn (dk kX4_countVotes 5 rfl) rfl rfl ⟨Nat.le_of_ble_eq_true rfl, Nat.le_of_ble_eq_true rfl⟩ ⟨nI_add _ _, rfl⟩
theorem k_X4_forget (ka : kd M a = 4) : KU G IX4_forgetVotesAndCitations [.ref a] M (sI (sI (sI M a 10 0) a 11 0) a 0 0) := by
  refine KK.ofW (by decide) (by simp [Value.category]) (Nat.le_of_ble_eq_true rfl) rfl ?_
  show WW _ _ _ 0 [_] [] _ _ _
  refine r_aload_n (dk kX4_forgetVotesAndCitations 0 rfl) rfl ?_
  refine r_iconst (v := 0) (dk kX4_forgetVotesAndCitations 1 rfl) (by decide) ?_
  refine r_puti (dk kX4_forgetVotesAndCitations 2 rfl) fa_X4_7_3 ka rfl rfl rfl rfl ?_
  refine r_aload_n (dk kX4_forgetVotesAndCitations 3 rfl) rfl ?_
  refine r_iconst (v := 0) (dk kX4_forgetVotesAndCitations 4 rfl) (by decide) ?_
  refine r_puti (dk kX4_forgetVotesAndCitations 5 rfl) fa_X4_13_3 ka rfl rfl rfl rfl ?_
  refine r_aload_n (dk kX4_forgetVotesAndCitations 6 rfl) rfl ?_
  refine r_iconst (v := 0) (dk kX4_forgetVotesAndCitations 7 rfl) (by decide) ?_
  refine r_puti (dk kX4_forgetVotesAndCitations 8 rfl) fa_X4_16_3 ka rfl rfl rfl rfl ?_
  refine r_return (dk kX4_forgetVotesAndCitations 9 rfl) rfl ⟨Nat.le_of_ble_eq_true rfl, Nat.le_of_ble_eq_true rfl⟩ rfl
/-- the petition a comes before b -/
def pAhd (M : Mm) (a b : Nat) : Prop := if mi M a 6 = mi M b 6 then (if mi M a 9 = mi M b 9 then mi M a 4 < mi M b 4 else mi M b 9 < mi M a 9) else mi M b 6 < mi M a 6
theorem k_X4_comesBefore (ka : kd M a = 4) (kb : kd M b = 4) : KK G IX4_comesBefore [.ref a, .ref b] M (qi (fun y M' => (y = 1 ∧ pAhd M a b ∨ y = 0 ∧ ¬ pAhd M a b) ∧ M' = M) nox) := by
  refine KK.ofW (by decide) (by simp [Value.category]) (Nat.le_of_ble_eq_true rfl) rfl ?_
  show WW _ _ _ 0 [_, _] [] _ _ _
  unfold pAhd
  by_cases h6 : mi M a 6 = mi M b 6
  · rw [if_pos h6]
    by_cases h9 : mi M a 9 = mi M b 9
    · rw [if_pos h9]
      by_cases h4 : mi M a 4 < mi M b 4
      · refine r_aload_n (dk kX4_comesBefore 0 rfl) rfl ?_
        refine r_geti (dk kX4_comesBefore 1 rfl) fa_X4_19_3 (by assumption) rfl ?_
        refine r_aload_n (dk kX4_comesBefore 2 rfl) rfl ?_
        refine r_geti (dk kX4_comesBefore 3 rfl) fa_X4_19_3 (by assumption) rfl ?_
        refine r_icmp_eq (tgt := 28) (dk kX4_comesBefore 4 rfl) (by decide) (fun c8 => ?_) (fun c8 => absurd h6 c8)
        refine r_aload_n (dk kX4_comesBefore 14 rfl) rfl ?_
        refine r_geti (dk kX4_comesBefore 15 rfl) fa_X4_22_3 (by assumption) rfl ?_
        refine r_aload_n (dk kX4_comesBefore 16 rfl) rfl ?_
        refine r_geti (dk kX4_comesBefore 17 rfl) fa_X4_22_3 (by assumption) rfl ?_
        refine r_icmp_eq (tgt := 56) (dk kX4_comesBefore 18 rfl) (by decide) (fun c36 => ?_) (fun c36 => absurd h9 c36)
        refine r_aload_n (dk kX4_comesBefore 28 rfl) rfl ?_
        refine r_geti (dk kX4_comesBefore 29 rfl) fa_X4_25_3 (by assumption) rfl ?_
        refine r_aload_n (dk kX4_comesBefore 30 rfl) rfl ?_
        refine r_geti (dk kX4_comesBefore 31 rfl) fa_X4_25_3 (by assumption) rfl ?_
        refine r_icmp_ge (tgt := 71) (dk kX4_comesBefore 32 rfl) (by decide) (fun c64 => absurd c64 (Int32.not_le.mpr h4)) (fun c64 => ?_)
        refine r_iconst (v := 1) (dk kX4_comesBefore 33 rfl) (by decide) ?_
        refine r_goto (tgt := 72) (dk kX4_comesBefore 34 rfl) (by decide) ?_
        refine r_ireturn (dk kX4_comesBefore 36 rfl) rfl rfl ⟨Nat.le_of_ble_eq_true rfl, Nat.le_of_ble_eq_true rfl⟩ ⟨Or.inl ⟨rfl, h4⟩, rfl⟩
      · refine r_aload_n (dk kX4_comesBefore 0 rfl) rfl ?_
        refine r_geti (dk kX4_comesBefore 1 rfl) fa_X4_19_3 (by assumption) rfl ?_
        refine r_aload_n (dk kX4_comesBefore 2 rfl) rfl ?_
        refine r_geti (dk kX4_comesBefore 3 rfl) fa_X4_19_3 (by assumption) rfl ?_
        refine r_icmp_eq (tgt := 28) (dk kX4_comesBefore 4 rfl) (by decide) (fun c8 => ?_) (fun c8 => absurd h6 c8)
        refine r_aload_n (dk kX4_comesBefore 14 rfl) rfl ?_
        refine r_geti (dk kX4_comesBefore 15 rfl) fa_X4_22_3 (by assumption) rfl ?_
        refine r_aload_n (dk kX4_comesBefore 16 rfl) rfl ?_
        refine r_geti (dk kX4_comesBefore 17 rfl) fa_X4_22_3 (by assumption) rfl ?_
        refine r_icmp_eq (tgt := 56) (dk kX4_comesBefore 18 rfl) (by decide) (fun c36 => ?_) (fun c36 => absurd h9 c36)
        refine r_aload_n (dk kX4_comesBefore 28 rfl) rfl ?_
        refine r_geti (dk kX4_comesBefore 29 rfl) fa_X4_25_3 (by assumption) rfl ?_
        refine r_aload_n (dk kX4_comesBefore 30 rfl) rfl ?_
        refine r_geti (dk kX4_comesBefore 31 rfl) fa_X4_25_3 (by assumption) rfl ?_
        refine r_icmp_ge (tgt := 71) (dk kX4_comesBefore 32 rfl) (by decide) (fun c64 => ?_) (fun c64 => absurd (Int32.not_lt.mp h4) c64)
        refine r_iconst (v := 0) (dk kX4_comesBefore 35 rfl) (by decide) ?_
        refine r_ireturn (dk kX4_comesBefore 36 rfl) rfl rfl ⟨Nat.le_of_ble_eq_true rfl, Nat.le_of_ble_eq_true rfl⟩ ⟨Or.inr ⟨rfl, h4⟩, rfl⟩
    · rw [if_neg h9]
      by_cases h4 : mi M b 9 < mi M a 9
      · refine r_aload_n (dk kX4_comesBefore 0 rfl) rfl ?_
        refine r_geti (dk kX4_comesBefore 1 rfl) fa_X4_19_3 (by assumption) rfl ?_
        refine r_aload_n (dk kX4_comesBefore 2 rfl) rfl ?_
        refine r_geti (dk kX4_comesBefore 3 rfl) fa_X4_19_3 (by assumption) rfl ?_
        refine r_icmp_eq (tgt := 28) (dk kX4_comesBefore 4 rfl) (by decide) (fun c8 => ?_) (fun c8 => absurd h6 c8)
        refine r_aload_n (dk kX4_comesBefore 14 rfl) rfl ?_
        refine r_geti (dk kX4_comesBefore 15 rfl) fa_X4_22_3 (by assumption) rfl ?_
        refine r_aload_n (dk kX4_comesBefore 16 rfl) rfl ?_
        refine r_geti (dk kX4_comesBefore 17 rfl) fa_X4_22_3 (by assumption) rfl ?_
        refine r_icmp_eq (tgt := 56) (dk kX4_comesBefore 18 rfl) (by decide) (fun c36 => absurd c36 h9) (fun c36 => ?_)
        refine r_aload_n (dk kX4_comesBefore 19 rfl) rfl ?_
        refine r_geti (dk kX4_comesBefore 20 rfl) fa_X4_22_3 (by assumption) rfl ?_
        refine r_aload_n (dk kX4_comesBefore 21 rfl) rfl ?_
        refine r_geti (dk kX4_comesBefore 22 rfl) fa_X4_22_3 (by assumption) rfl ?_
        refine r_icmp_le (tgt := 54) (dk kX4_comesBefore 23 rfl) (by decide) (fun c47 => absurd c47 (Int32.not_le.mpr h4)) (fun c47 => ?_)
        refine r_iconst (v := 1) (dk kX4_comesBefore 24 rfl) (by decide) ?_
        refine r_goto (tgt := 55) (dk kX4_comesBefore 25 rfl) (by decide) ?_
        refine r_ireturn (dk kX4_comesBefore 27 rfl) rfl rfl ⟨Nat.le_of_ble_eq_true rfl, Nat.le_of_ble_eq_true rfl⟩ ⟨Or.inl ⟨rfl, h4⟩, rfl⟩
      · refine r_aload_n (dk kX4_comesBefore 0 rfl) rfl ?_
        refine r_geti (dk kX4_comesBefore 1 rfl) fa_X4_19_3 (by assumption) rfl ?_
        refine r_aload_n (dk kX4_comesBefore 2 rfl) rfl ?_
        refine r_geti (dk kX4_comesBefore 3 rfl) fa_X4_19_3 (by assumption) rfl ?_
        refine r_icmp_eq (tgt := 28) (dk kX4_comesBefore 4 rfl) (by decide) (fun c8 => ?_) (fun c8 => absurd h6 c8)
        refine r_aload_n (dk kX4_comesBefore 14 rfl) rfl ?_
        refine r_geti (dk kX4_comesBefore 15 rfl) fa_X4_22_3 (by assumption) rfl ?_
        refine r_aload_n (dk kX4_comesBefore 16 rfl) rfl ?_
        refine r_geti (dk kX4_comesBefore 17 rfl) fa_X4_22_3 (by assumption) rfl ?_
        refine r_icmp_eq (tgt := 56) (dk kX4_comesBefore 18 rfl) (by decide) (fun c36 => absurd c36 h9) (fun c36 => ?_)
        refine r_aload_n (dk kX4_comesBefore 19 rfl) rfl ?_
        refine r_geti (dk kX4_comesBefore 20 rfl) fa_X4_22_3 (by assumption) rfl ?_
        refine r_aload_n (dk kX4_comesBefore 21 rfl) rfl ?_
        refine r_geti (dk kX4_comesBefore 22 rfl) fa_X4_22_3 (by assumption) rfl ?_
        refine r_icmp_le (tgt := 54) (dk kX4_comesBefore 23 rfl) (by decide) (fun c47 => ?_) (fun c47 => absurd (Int32.not_lt.mp h4) c47)
        refine r_iconst (v := 0) (dk kX4_comesBefore 26 rfl) (by decide) ?_
        refine r_ireturn (dk kX4_comesBefore 27 rfl) rfl rfl ⟨Nat.le_of_ble_eq_true rfl, Nat.le_of_ble_eq_true rfl⟩ ⟨Or.inr ⟨rfl, h4⟩, rfl⟩
  · rw [if_neg h6]
    by_cases h4 : mi M b 6 < mi M a 6
    · refine r_aload_n (dk kX4_comesBefore 0 rfl) rfl ?_
      refine r_geti (dk kX4_comesBefore 1 rfl) fa_X4_19_3 (by assumption) rfl ?_
      refine r_aload_n (dk kX4_comesBefore 2 rfl) rfl ?_
      refine r_geti (dk kX4_comesBefore 3 rfl) fa_X4_19_3 (by assumption) rfl ?_
      refine r_icmp_eq (tgt := 28) (dk kX4_comesBefore 4 rfl) (by decide) (fun c8 => absurd c8 h6) (fun c8 => ?_)
      refine r_aload_n (dk kX4_comesBefore 5 rfl) rfl ?_
      refine r_geti (dk kX4_comesBefore 6 rfl) fa_X4_19_3 (by assumption) rfl ?_
      refine r_aload_n (dk kX4_comesBefore 7 rfl) rfl ?_
      refine r_geti (dk kX4_comesBefore 8 rfl) fa_X4_19_3 (by assumption) rfl ?_
      refine r_icmp_le (tgt := 26) (dk kX4_comesBefore 9 rfl) (by decide) (fun c19 => absurd c19 (Int32.not_le.mpr h4)) (fun c19 => ?_)
      refine r_iconst (v := 1) (dk kX4_comesBefore 10 rfl) (by decide) ?_
      refine r_goto (tgt := 27) (dk kX4_comesBefore 11 rfl) (by decide) ?_
      refine r_ireturn (dk kX4_comesBefore 13 rfl) rfl rfl ⟨Nat.le_of_ble_eq_true rfl, Nat.le_of_ble_eq_true rfl⟩ ⟨Or.inl ⟨rfl, h4⟩, rfl⟩
    · refine r_aload_n (dk kX4_comesBefore 0 rfl) rfl ?_
      refine r_geti (dk kX4_comesBefore 1 rfl) fa_X4_19_3 (by assumption) rfl ?_
      refine r_aload_n (dk kX4_comesBefore 2 rfl) rfl ?_
      refine r_geti (dk kX4_comesBefore 3 rfl) fa_X4_19_3 (by assumption) rfl ?_
      refine r_icmp_eq (tgt := 28) (dk kX4_comesBefore 4 rfl) (by decide) (fun c8 => absurd c8 h6) (fun c8 => ?_)
      refine r_aload_n (dk kX4_comesBefore 5 rfl) rfl ?_
      refine r_geti (dk kX4_comesBefore 6 rfl) fa_X4_19_3 (by assumption) rfl ?_
      refine r_aload_n (dk kX4_comesBefore 7 rfl) rfl ?_
      refine r_geti (dk kX4_comesBefore 8 rfl) fa_X4_19_3 (by assumption) rfl ?_
      refine r_icmp_le (tgt := 26) (dk kX4_comesBefore 9 rfl) (by decide) (fun c19 => ?_) (fun c19 => absurd (Int32.not_lt.mp h4) c19)
      refine r_iconst (v := 0) (dk kX4_comesBefore 12 rfl) (by decide) ?_
      refine r_ireturn (dk kX4_comesBefore 13 rfl) rfl rfl ⟨Nat.le_of_ble_eq_true rfl, Nat.le_of_ble_eq_true rfl⟩ ⟨Or.inr ⟨rfl, h4⟩, rfl⟩
theorem k_X4_hasVoteFor (ka : kd M a = 4) {m k : Nat} (hm : m < 64) (hk : k < 6) (h10 : mi M a 10 = nI m) : KP G IX4_hasVoteFor [.ref a, .int (nI k)] M (bI (m.testBit k = true)) := by
  refine KK.ofW (by decide) (by simp [Value.category]) (Nat.le_of_ble_eq_true rfl) rfl ?_
  show WW _ _ _ 0 [_, _] [] _ _ _
  refine r_aload_n (dk kX4_hasVoteFor 0 rfl) rfl ?_
  refine r_geti (dk kX4_hasVoteFor 1 rfl) fa_X4_7_3 ka rfl ?_
  -- at 4
  rw [h10]
  refine r_iload_n (dk kX4_hasVoteFor 2 rfl) rfl ?_
  refine r_ishr (dk kX4_hasVoteFor 3 rfl) ?_
  refine r_iconst (v := 1) (dk kX4_hasVoteFor 4 rfl) (by decide) ?_
  refine r_iand (dk kX4_hasVoteFor 5 rfl) ?_
  -- at 8
  rw [nI_bit (by omega) (by omega)]
  by_cases hb : m.testBit k = true
  · rw [bI_t hb]
    refine r_iconst (v := 1) (dk kX4_hasVoteFor 6 rfl) (by decide) ?_
    refine r_icmp_ne (tgt := 16) (dk kX4_hasVoteFor 7 rfl) (by decide) (fun c9 => absurd c9 (by exact fun z => z rfl)) (fun c9 => ?_)
    refine r_iconst (v := 1) (dk kX4_hasVoteFor 8 rfl) (by decide) ?_
    refine r_goto (tgt := 17) (dk kX4_hasVoteFor 9 rfl) (by decide) ?_
    refine r_ireturn (dk kX4_hasVoteFor 11 rfl) rfl rfl ⟨Nat.le_of_ble_eq_true rfl, Nat.le_of_ble_eq_true rfl⟩ ⟨rfl, rfl⟩
  · rw [bI_f hb]
    refine r_iconst (v := 1) (dk kX4_hasVoteFor 6 rfl) (by decide) ?_
    refine r_icmp_ne (tgt := 16) (dk kX4_hasVoteFor 7 rfl) (by decide) (fun c9 => ?_) (fun c9 => absurd (by decide) c9)
    refine r_iconst (v := 0) (dk kX4_hasVoteFor 10 rfl) (by decide) ?_
    refine r_ireturn (dk kX4_hasVoteFor 11 rfl) rfl rfl ⟨Nat.le_of_ble_eq_true rfl, Nat.le_of_ble_eq_true rfl⟩ ⟨rfl, rfl⟩
theorem k_X4_hasVoteAgainst (ka : kd M a = 4) {m k : Nat} (hm : m < 64) (hk : k < 6) (h11 : mi M a 11 = nI m) : KP G IX4_hasVoteAgainst [.ref a, .int (nI k)] M (bI (m.testBit k = true)) := by
  refine KK.ofW (by decide) (by simp [Value.category]) (Nat.le_of_ble_eq_true rfl) rfl ?_
  show WW _ _ _ 0 [_, _] [] _ _ _
  refine r_aload_n (dk kX4_hasVoteAgainst 0 rfl) rfl ?_
  refine r_geti (dk kX4_hasVoteAgainst 1 rfl) fa_X4_13_3 ka rfl ?_
  -- at 4
  rw [h11]
  refine r_iload_n (dk kX4_hasVoteAgainst 2 rfl) rfl ?_
  refine r_ishr (dk kX4_hasVoteAgainst 3 rfl) ?_
  refine r_iconst (v := 1) (dk kX4_hasVoteAgainst 4 rfl) (by decide) ?_
  refine r_iand (dk kX4_hasVoteAgainst 5 rfl) ?_
  -- at 8
  rw [nI_bit (by omega) (by omega)]
  by_cases hb : m.testBit k = true
  · rw [bI_t hb]
    refine r_iconst (v := 1) (dk kX4_hasVoteAgainst 6 rfl) (by decide) ?_
    refine r_icmp_ne (tgt := 16) (dk kX4_hasVoteAgainst 7 rfl) (by decide) (fun c9 => absurd c9 (by exact fun z => z rfl)) (fun c9 => ?_)
    refine r_iconst (v := 1) (dk kX4_hasVoteAgainst 8 rfl) (by decide) ?_
    refine r_goto (tgt := 17) (dk kX4_hasVoteAgainst 9 rfl) (by decide) ?_
    refine r_ireturn (dk kX4_hasVoteAgainst 11 rfl) rfl rfl ⟨Nat.le_of_ble_eq_true rfl, Nat.le_of_ble_eq_true rfl⟩ ⟨rfl, rfl⟩
  · rw [bI_f hb]
    refine r_iconst (v := 1) (dk kX4_hasVoteAgainst 6 rfl) (by decide) ?_
    refine r_icmp_ne (tgt := 16) (dk kX4_hasVoteAgainst 7 rfl) (by decide) (fun c9 => ?_) (fun c9 => absurd (by decide) c9)
    refine r_iconst (v := 0) (dk kX4_hasVoteAgainst 10 rfl) (by decide) ?_
    refine r_ireturn (dk kX4_hasVoteAgainst 11 rfl) rfl rfl ⟨Nat.le_of_ble_eq_true rfl, Nat.le_of_ble_eq_true rfl⟩ ⟨rfl, rfl⟩
theorem k_X4_addVote (ka : kd M a = 4) {m w k : Nat} (hk : k < 6) (h10 : mi M a 10 = nI m) (h11 : mi M a 11 = nI w) (x : Int32) : KU G IX4_addVote [.ref a, .int (nI k), .int x] M (if x = 0 then sI M a 11 (nI (w ||| 2 ^ k)) else sI M a 10 (nI (m ||| 2 ^ k))) := by
  refine KK.ofW (by decide) (by simp [Value.category]) (Nat.le_of_ble_eq_true rfl) rfl ?_
  show WW _ _ _ 0 [_, _, _] [] _ _ _
  by_cases hx : x = 0
  · rw [if_pos hx]
    refine r_iload_n (dk kX4_addVote 0 rfl) rfl ?_
    refine r_if_eq (tgt := 19) (dk kX4_addVote 1 rfl) (by decide) (fun c1 => ?_) (fun c1 => absurd hx c1)
    refine r_aload_n (dk kX4_addVote 11 rfl) rfl ?_
    refine r_dup (dk kX4_addVote 12 rfl) rfl ?_
    refine r_geti (dk kX4_addVote 13 rfl) fa_X4_13_3 ka rfl ?_
    refine r_iconst (v := 1) (dk kX4_addVote 14 rfl) (by decide) ?_
    refine r_iload_n (dk kX4_addVote 15 rfl) rfl ?_
    refine r_ishl (dk kX4_addVote 16 rfl) ?_
    -- at 27
    rw [h11, nI_sh1 k (by omega)]
    refine r_ior (dk kX4_addVote 17 rfl) ?_
    -- at 28
    rw [nI_or]
    refine r_puti (dk kX4_addVote 18 rfl) fa_X4_13_3 ka rfl rfl rfl rfl ?_
    refine r_return (dk kX4_addVote 19 rfl) rfl ⟨Nat.le_of_ble_eq_true rfl, Nat.le_of_ble_eq_true rfl⟩ rfl
  · rw [if_neg hx]
    refine r_iload_n (dk kX4_addVote 0 rfl) rfl ?_
    refine r_if_eq (tgt := 19) (dk kX4_addVote 1 rfl) (by decide) (fun c1 => absurd c1 hx) (fun c1 => ?_)
    refine r_aload_n (dk kX4_addVote 2 rfl) rfl ?_
    refine r_dup (dk kX4_addVote 3 rfl) rfl ?_
    refine r_geti (dk kX4_addVote 4 rfl) fa_X4_7_3 ka rfl ?_
    refine r_iconst (v := 1) (dk kX4_addVote 5 rfl) (by decide) ?_
    refine r_iload_n (dk kX4_addVote 6 rfl) rfl ?_
    refine r_ishl (dk kX4_addVote 7 rfl) ?_
    -- at 12
    rw [h10, nI_sh1 k (by omega)]
    refine r_ior (dk kX4_addVote 8 rfl) ?_
    -- at 13
    rw [nI_or]
    refine r_puti (dk kX4_addVote 9 rfl) fa_X4_7_3 ka rfl rfl rfl rfl ?_
    refine r_goto (tgt := 31) (dk kX4_addVote 10 rfl) (by decide) ?_
    refine r_return (dk kX4_addVote 19 rfl) rfl ⟨Nat.le_of_ble_eq_true rfl, Nat.le_of_ble_eq_true rfl⟩ rfl
end CLASS
