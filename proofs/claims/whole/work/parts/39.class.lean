/-! THE CLASS: copies of petitions and rulings -/
/-- a's first j ints out of b, the others its own -/
def cpF (M : Mm) (a b j : Nat) : Nat → Int32 := fun i => if i < j then mi M b i else mi M a i
theorem cp_0 (M : Mm) (a b : Nat) : sA M a (cpF M a b 0) = M := by
  rw [show cpF M a b 0 = mi M a from funext fun i => if_neg (Nat.not_lt_zero i), sA_eq]
theorem cp_step {M : Mm} {a b : Nat} (hab : b ≠ a) (j : Nat) : sI (sA M a (cpF M a b j)) a j (mi (sA M a (cpF M a b j)) b j) = sA M a (cpF M a b (j + 1)) := by
  rw [sI_sA, mi_sA_n _ _ hab]
  congr 1
  funext i
  by_cases hi : i = j
  · rw [hi, va_up_self]
    exact (if_pos (Nat.lt_succ_self j)).symm
  · rw [va_up_ne _ _ hi]
    unfold cpF
    by_cases h2 : i < j
    · rw [if_pos h2, if_pos (by omega)]
    · rw [if_neg h2, if_neg (by omega)]
theorem fbI (p : Prop) [Decidable p] : fits .boolean (.int (bI p)) = true := by
  by_cases hp : p
  · rw [bI_t hp]; rfl
  · rw [bI_f hp]; rfl
section CLASS
variable {G : GG} {M : Mm} {a b : Nat}
theorem k_X0_copyCitedPP (ka : kd M a = 4) (kb : kd M b = 4) (hab : b ≠ a) : KU G IX0_copyCited [.ref a, .ref b] M (sA M a (cpF M a b 4)) := by
  refine KK.ofW (by decide) (by simp [Value.category]) (Nat.le_of_ble_eq_true rfl) rfl ?_
  show WW _ _ _ 0 [_, _] [] _ _ _
  have key : WW G IX0_copyCited (qv (fun M' => M' = sA M a (cpF M a b 4)) nox) 0 [.ref a, .ref b] [] (sA M a (cpF M a b 0)) 0 0 := by
    refine r_aload_n (dk kX0_copyCited 0 rfl) rfl ?_
    refine r_aload_n (dk kX0_copyCited 1 rfl) rfl ?_
    refine r_geti (dk kX0_copyCited 2 rfl) fa_X0_19_3 (by first | exact ka | exact kb) rfl ?_
    refine r_puti (dk kX0_copyCited 3 rfl) fa_X0_19_3 (by first | exact ka | exact kb) rfl rfl rfl rfl ?_
    -- at 8
    rw [cp_step hab 0]
    refine r_aload_n (dk kX0_copyCited 4 rfl) rfl ?_
    refine r_aload_n (dk kX0_copyCited 5 rfl) rfl ?_
    refine r_geti (dk kX0_copyCited 6 rfl) fa_X0_7_3 (by first | exact ka | exact kb) rfl ?_
    refine r_puti (dk kX0_copyCited 7 rfl) fa_X0_7_3 (by first | exact ka | exact kb) rfl rfl rfl rfl ?_
    -- at 16
    rw [cp_step hab 1]
    refine r_aload_n (dk kX0_copyCited 8 rfl) rfl ?_
    refine r_aload_n (dk kX0_copyCited 9 rfl) rfl ?_
    refine r_geti (dk kX0_copyCited 10 rfl) fa_X0_13_3 (by first | exact ka | exact kb) rfl ?_
    refine r_puti (dk kX0_copyCited 11 rfl) fa_X0_13_3 (by first | exact ka | exact kb) rfl rfl rfl rfl ?_
    -- at 24
    rw [cp_step hab 2]
    refine r_aload_n (dk kX0_copyCited 12 rfl) rfl ?_
    refine r_aload_n (dk kX0_copyCited 13 rfl) rfl ?_
    refine r_geti (dk kX0_copyCited 14 rfl) fa_X0_16_3 (by first | exact ka | exact kb) rfl ?_
    refine r_puti (dk kX0_copyCited 15 rfl) fa_X0_16_3 (by first | exact ka | exact kb) rfl rfl rfl rfl ?_
    -- at 32
    rw [cp_step hab 3]
    refine r_return (dk kX0_copyCited 16 rfl) rfl ⟨Nat.le_of_ble_eq_true rfl, Nat.le_of_ble_eq_true rfl⟩ rfl
  rw [cp_0] at key
  exact key
theorem k_X0_copyCitedRR (ka : kd M a = 5) (kb : kd M b = 5) (hab : b ≠ a) : KU G IX0_copyCited [.ref a, .ref b] M (sA M a (cpF M a b 4)) := by
  refine KK.ofW (by decide) (by simp [Value.category]) (Nat.le_of_ble_eq_true rfl) rfl ?_
  show WW _ _ _ 0 [_, _] [] _ _ _
  have key : WW G IX0_copyCited (qv (fun M' => M' = sA M a (cpF M a b 4)) nox) 0 [.ref a, .ref b] [] (sA M a (cpF M a b 0)) 0 0 := by
    refine r_aload_n (dk kX0_copyCited 0 rfl) rfl ?_
    refine r_aload_n (dk kX0_copyCited 1 rfl) rfl ?_
    refine r_geti (dk kX0_copyCited 2 rfl) fa_X0_19_4 (by first | exact ka | exact kb) rfl ?_
    refine r_puti (dk kX0_copyCited 3 rfl) fa_X0_19_4 (by first | exact ka | exact kb) rfl rfl rfl rfl ?_
    -- at 8
    rw [cp_step hab 0]
    refine r_aload_n (dk kX0_copyCited 4 rfl) rfl ?_
    refine r_aload_n (dk kX0_copyCited 5 rfl) rfl ?_
    refine r_geti (dk kX0_copyCited 6 rfl) fa_X0_7_4 (by first | exact ka | exact kb) rfl ?_
    refine r_puti (dk kX0_copyCited 7 rfl) fa_X0_7_4 (by first | exact ka | exact kb) rfl rfl rfl rfl ?_
    -- at 16
    rw [cp_step hab 1]
    refine r_aload_n (dk kX0_copyCited 8 rfl) rfl ?_
    refine r_aload_n (dk kX0_copyCited 9 rfl) rfl ?_
    refine r_geti (dk kX0_copyCited 10 rfl) fa_X0_13_4 (by first | exact ka | exact kb) rfl ?_
    refine r_puti (dk kX0_copyCited 11 rfl) fa_X0_13_4 (by first | exact ka | exact kb) rfl rfl rfl rfl ?_
    -- at 24
    rw [cp_step hab 2]
    refine r_aload_n (dk kX0_copyCited 12 rfl) rfl ?_
    refine r_aload_n (dk kX0_copyCited 13 rfl) rfl ?_
    refine r_geti (dk kX0_copyCited 14 rfl) fa_X0_16_4 (by first | exact ka | exact kb) rfl ?_
    refine r_puti (dk kX0_copyCited 15 rfl) fa_X0_16_4 (by first | exact ka | exact kb) rfl rfl rfl rfl ?_
    -- at 32
    rw [cp_step hab 3]
    refine r_return (dk kX0_copyCited 16 rfl) rfl ⟨Nat.le_of_ble_eq_true rfl, Nat.le_of_ble_eq_true rfl⟩ rfl
  rw [cp_0] at key
  exact key
theorem k_X0_copyCitedRP (ka : kd M a = 5) (kb : kd M b = 4) (hab : b ≠ a) : KU G IX0_copyCited [.ref a, .ref b] M (sA M a (cpF M a b 4)) := by
  refine KK.ofW (by decide) (by simp [Value.category]) (Nat.le_of_ble_eq_true rfl) rfl ?_
  show WW _ _ _ 0 [_, _] [] _ _ _
  have key : WW G IX0_copyCited (qv (fun M' => M' = sA M a (cpF M a b 4)) nox) 0 [.ref a, .ref b] [] (sA M a (cpF M a b 0)) 0 0 := by
    refine r_aload_n (dk kX0_copyCited 0 rfl) rfl ?_
    refine r_aload_n (dk kX0_copyCited 1 rfl) rfl ?_
    refine r_geti (dk kX0_copyCited 2 rfl) fa_X0_19_3 kb rfl ?_
    -- at 5
    refine r_puti (dk kX0_copyCited 3 rfl) fa_X0_19_4 ka rfl rfl rfl rfl ?_
    -- at 8
    rw [cp_step hab 0]
    refine r_aload_n (dk kX0_copyCited 4 rfl) rfl ?_
    refine r_aload_n (dk kX0_copyCited 5 rfl) rfl ?_
    refine r_geti (dk kX0_copyCited 6 rfl) fa_X0_7_3 kb rfl ?_
    -- at 13
    refine r_puti (dk kX0_copyCited 7 rfl) fa_X0_7_4 ka rfl rfl rfl rfl ?_
    -- at 16
    rw [cp_step hab 1]
    refine r_aload_n (dk kX0_copyCited 8 rfl) rfl ?_
    refine r_aload_n (dk kX0_copyCited 9 rfl) rfl ?_
    refine r_geti (dk kX0_copyCited 10 rfl) fa_X0_13_3 kb rfl ?_
    -- at 21
    refine r_puti (dk kX0_copyCited 11 rfl) fa_X0_13_4 ka rfl rfl rfl rfl ?_
    -- at 24
    rw [cp_step hab 2]
    refine r_aload_n (dk kX0_copyCited 12 rfl) rfl ?_
    refine r_aload_n (dk kX0_copyCited 13 rfl) rfl ?_
    refine r_geti (dk kX0_copyCited 14 rfl) fa_X0_16_3 kb rfl ?_
    -- at 29
    refine r_puti (dk kX0_copyCited 15 rfl) fa_X0_16_4 ka rfl rfl rfl rfl ?_
    -- at 32
    rw [cp_step hab 3]
    refine r_return (dk kX0_copyCited 16 rfl) rfl ⟨Nat.le_of_ble_eq_true rfl, Nat.le_of_ble_eq_true rfl⟩ rfl
  rw [cp_0] at key
  exact key
theorem k_X4_copyFrom (ka : kd M a = 4) (kb : kd M b = 4) (hab : b ≠ a) : KU G IX4_copyFrom [.ref a, .ref b] M (sA M a (cpF M a b 12)) := by
  refine KK.ofW (by decide) (by simp [Value.category]) (Nat.le_of_ble_eq_true rfl) rfl ?_
  show WW _ _ _ 0 [_, _] [] _ _ _
  refine r_aload_n (dk kX4_copyFrom 0 rfl) rfl ?_
  refine r_aload_n (dk kX4_copyFrom 1 rfl) rfl ?_
  refine r_callUu (I' := IX0_copyCited) (as := [_]) (dk kX4_copyFrom 2 rfl) mu_X4_41_3 rfl rfl ka rfl rfl (Nat.le_of_ble_eq_true rfl) ⟨by decide, by decide⟩ ⟨rfl, rfl⟩ ⟨Nat.le_of_ble_eq_true rfl, Nat.le_of_ble_eq_true rfl⟩ (k_X0_copyCitedPP ka kb hab) ?_
  -- at 5
  refine r_aload_n (dk kX4_copyFrom 3 rfl) rfl ?_
  refine r_aload_n (dk kX4_copyFrom 4 rfl) rfl ?_
  refine r_geti (dk kX4_copyFrom 5 rfl) fa_X4_25_3 (by first | exact ka | exact kb) rfl ?_
  refine r_puti (dk kX4_copyFrom 6 rfl) fa_X4_25_3 (by first | exact ka | exact kb) rfl rfl rfl rfl ?_
  -- at 13
  rw [cp_step hab 4]
  refine r_aload_n (dk kX4_copyFrom 7 rfl) rfl ?_
  refine r_aload_n (dk kX4_copyFrom 8 rfl) rfl ?_
  refine r_geti (dk kX4_copyFrom 9 rfl) fa_X4_45_3 (by first | exact ka | exact kb) rfl ?_
  refine r_puti (dk kX4_copyFrom 10 rfl) fa_X4_45_3 (by first | exact ka | exact kb) rfl rfl rfl rfl ?_
  -- at 21
  rw [cp_step hab 5]
  refine r_aload_n (dk kX4_copyFrom 11 rfl) rfl ?_
  refine r_aload_n (dk kX4_copyFrom 12 rfl) rfl ?_
  refine r_geti (dk kX4_copyFrom 13 rfl) fa_X4_19_3 (by first | exact ka | exact kb) rfl ?_
  refine r_puti (dk kX4_copyFrom 14 rfl) fa_X4_19_3 (by first | exact ka | exact kb) rfl rfl rfl rfl ?_
  -- at 29
  rw [cp_step hab 6]
  refine r_aload_n (dk kX4_copyFrom 15 rfl) rfl ?_
  refine r_aload_n (dk kX4_copyFrom 16 rfl) rfl ?_
  refine r_geti (dk kX4_copyFrom 17 rfl) fa_X4_48_3 (by first | exact ka | exact kb) rfl ?_
  refine r_puti (dk kX4_copyFrom 18 rfl) fa_X4_48_3 (by first | exact ka | exact kb) rfl rfl rfl rfl ?_
  -- at 37
  rw [cp_step hab 7]
  refine r_aload_n (dk kX4_copyFrom 19 rfl) rfl ?_
  refine r_aload_n (dk kX4_copyFrom 20 rfl) rfl ?_
  refine r_geti (dk kX4_copyFrom 21 rfl) fa_X4_51_3 (by first | exact ka | exact kb) rfl ?_
  refine r_puti (dk kX4_copyFrom 22 rfl) fa_X4_51_3 (by first | exact ka | exact kb) rfl rfl rfl rfl ?_
  -- at 45
  rw [cp_step hab 8]
  refine r_aload_n (dk kX4_copyFrom 23 rfl) rfl ?_
  refine r_aload_n (dk kX4_copyFrom 24 rfl) rfl ?_
  refine r_geti (dk kX4_copyFrom 25 rfl) fa_X4_22_3 (by first | exact ka | exact kb) rfl ?_
  refine r_puti (dk kX4_copyFrom 26 rfl) fa_X4_22_3 (by first | exact ka | exact kb) rfl rfl rfl rfl ?_
  -- at 53
  rw [cp_step hab 9]
  refine r_aload_n (dk kX4_copyFrom 27 rfl) rfl ?_
  refine r_aload_n (dk kX4_copyFrom 28 rfl) rfl ?_
  refine r_geti (dk kX4_copyFrom 29 rfl) fa_X4_7_3 (by first | exact ka | exact kb) rfl ?_
  refine r_puti (dk kX4_copyFrom 30 rfl) fa_X4_7_3 (by first | exact ka | exact kb) rfl rfl rfl rfl ?_
  -- at 61
  rw [cp_step hab 10]
  refine r_aload_n (dk kX4_copyFrom 31 rfl) rfl ?_
  refine r_aload_n (dk kX4_copyFrom 32 rfl) rfl ?_
  refine r_geti (dk kX4_copyFrom 33 rfl) fa_X4_13_3 (by first | exact ka | exact kb) rfl ?_
  refine r_puti (dk kX4_copyFrom 34 rfl) fa_X4_13_3 (by first | exact ka | exact kb) rfl rfl rfl rfl ?_
  -- at 69
  rw [cp_step hab 11]
  refine r_return (dk kX4_copyFrom 35 rfl) rfl ⟨Nat.le_of_ble_eq_true rfl, Nat.le_of_ble_eq_true rfl⟩ rfl
theorem k_X5_copyFrom (ka : kd M a = 5) (kb : kd M b = 5) (hab : b ≠ a) {p q : Prop} [Decidable p] [Decidable q] (h4 : mi M b 4 = bI p) (h5 : mi M b 5 = bI q) : KU G IX5_copyFrom [.ref a, .ref b] M (sA M a (cpF M a b 7)) := by
  refine KK.ofW (by decide) (by simp [Value.category]) (Nat.le_of_ble_eq_true rfl) rfl ?_
  show WW _ _ _ 0 [_, _] [] _ _ _
  have e4 : ∀ f, mi (sA M a f) b 4 = bI p := fun f => by rw [mi_sA_n _ _ hab, h4]
  have e5 : ∀ f, mi (sA M a f) b 5 = bI q := fun f => by rw [mi_sA_n _ _ hab, h5]
  refine r_aload_n (dk kX5_copyFrom 0 rfl) rfl ?_
  refine r_aload_n (dk kX5_copyFrom 1 rfl) rfl ?_
  refine r_callUu (I' := IX0_copyCited) (as := [_]) (dk kX5_copyFrom 2 rfl) mu_X5_7_4 rfl rfl ka rfl rfl (Nat.le_of_ble_eq_true rfl) ⟨by decide, by decide⟩ ⟨rfl, rfl⟩ ⟨Nat.le_of_ble_eq_true rfl, Nat.le_of_ble_eq_true rfl⟩ (k_X0_copyCitedRR ka kb hab) ?_
  -- at 5
  refine r_aload_n (dk kX5_copyFrom 3 rfl) rfl ?_
  refine r_aload_n (dk kX5_copyFrom 4 rfl) rfl ?_
  refine r_geti (dk kX5_copyFrom 5 rfl) fa_X5_13_4 (by first | exact ka | exact kb) rfl ?_
  refine r_puti (dk kX5_copyFrom 6 rfl) fa_X5_13_4 (by first | exact ka | exact kb) rfl rfl (by rw [e4]; exact nbI _) (by rw [e4]; exact fbI _) ?_
  -- at 13
  rw [cp_step hab 4]
  refine r_aload_n (dk kX5_copyFrom 7 rfl) rfl ?_
  refine r_aload_n (dk kX5_copyFrom 8 rfl) rfl ?_
  refine r_geti (dk kX5_copyFrom 9 rfl) fa_X5_17_4 (by first | exact ka | exact kb) rfl ?_
  refine r_puti (dk kX5_copyFrom 10 rfl) fa_X5_17_4 (by first | exact ka | exact kb) rfl rfl (by rw [e5]; exact nbI _) (by rw [e5]; exact fbI _) ?_
  -- at 21
  rw [cp_step hab 5]
  refine r_aload_n (dk kX5_copyFrom 11 rfl) rfl ?_
  refine r_aload_n (dk kX5_copyFrom 12 rfl) rfl ?_
  refine r_geti (dk kX5_copyFrom 13 rfl) fa_X5_20_4 (by first | exact ka | exact kb) rfl ?_
  refine r_puti (dk kX5_copyFrom 14 rfl) fa_X5_20_4 (by first | exact ka | exact kb) rfl rfl rfl rfl ?_
  -- at 29
  rw [cp_step hab 6]
  refine r_return (dk kX5_copyFrom 15 rfl) rfl ⟨Nat.le_of_ble_eq_true rfl, Nat.le_of_ble_eq_true rfl⟩ rfl
end CLASS
