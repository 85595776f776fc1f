/-! THE CLASS: small things of a state -/
section CLASS
variable {G : GG} {M : Mm} {s : Nat}
theorem k_X6_hasStone (ks : kd M s = 6) (x : Int32) : KP G IX6_hasStone [.ref s, .int x] M (bI (0 ≤ x ∧ x < mi M s 5)) := by
  refine KK.ofW (by decide) (by simp [Value.category]) (Nat.le_of_ble_eq_true rfl) rfl ?_
  show WW _ _ _ 0 [_, _] [] _ _ _
  by_cases h1 : x < 0
  · rw [bI_f (fun z => absurd h1 (Int32.not_lt.mpr z.1))]
    refine r_iload_n (dk kX6_hasStone 0 rfl) rfl ?_
    refine r_if_lt (tgt := 16) (dk kX6_hasStone 1 rfl) (by decide) (fun c1 => ?_) (fun c1 => absurd h1 c1)
    refine r_iconst (v := 0) (dk kX6_hasStone 8 rfl) (by decide) ?_
    refine r_ireturn (dk kX6_hasStone 9 rfl) rfl rfl ⟨Nat.le_of_ble_eq_true rfl, Nat.le_of_ble_eq_true rfl⟩ ⟨rfl, rfl⟩
  · by_cases h2 : x < mi M s 5
    · rw [bI_t ⟨Int32.not_lt.mp h1, h2⟩]
      refine r_iload_n (dk kX6_hasStone 0 rfl) rfl ?_
      refine r_if_lt (tgt := 16) (dk kX6_hasStone 1 rfl) (by decide) (fun c1 => absurd c1 h1) (fun c1 => ?_)
      refine r_iload_n (dk kX6_hasStone 2 rfl) rfl ?_
      refine r_aload_n (dk kX6_hasStone 3 rfl) rfl ?_
      refine r_geti (dk kX6_hasStone 4 rfl) fa_X6_58_5 ks rfl ?_
      refine r_icmp_ge (tgt := 16) (dk kX6_hasStone 5 rfl) (by decide) (fun c9 => absurd c9 (Int32.not_le.mpr h2)) (fun c9 => ?_)
      refine r_iconst (v := 1) (dk kX6_hasStone 6 rfl) (by decide) ?_
      refine r_goto (tgt := 17) (dk kX6_hasStone 7 rfl) (by decide) ?_
      refine r_ireturn (dk kX6_hasStone 9 rfl) rfl rfl ⟨Nat.le_of_ble_eq_true rfl, Nat.le_of_ble_eq_true rfl⟩ ⟨rfl, rfl⟩
    · rw [bI_f (fun z => h2 z.2)]
      refine r_iload_n (dk kX6_hasStone 0 rfl) rfl ?_
      refine r_if_lt (tgt := 16) (dk kX6_hasStone 1 rfl) (by decide) (fun c1 => absurd c1 h1) (fun c1 => ?_)
      refine r_iload_n (dk kX6_hasStone 2 rfl) rfl ?_
      refine r_aload_n (dk kX6_hasStone 3 rfl) rfl ?_
      refine r_geti (dk kX6_hasStone 4 rfl) fa_X6_58_5 ks rfl ?_
      refine r_icmp_ge (tgt := 16) (dk kX6_hasStone 5 rfl) (by decide) (fun c9 => ?_) (fun c9 => absurd (Int32.not_lt.mp h2) c9)
      refine r_iconst (v := 0) (dk kX6_hasStone 8 rfl) (by decide) ?_
      refine r_ireturn (dk kX6_hasStone 9 rfl) rfl rfl ⟨Nat.le_of_ble_eq_true rfl, Nat.le_of_ble_eq_true rfl⟩ ⟨rfl, rfl⟩
theorem k_X6_hasOfficer (ks : kd M s = 6) (x : Int32) : KP G IX6_hasOfficer [.ref s, .int x] M (bI (0 ≤ x ∧ x < mi M s 6)) := by
  refine KK.ofW (by decide) (by simp [Value.category]) (Nat.le_of_ble_eq_true rfl) rfl ?_
  show WW _ _ _ 0 [_, _] [] _ _ _
  by_cases h1 : x < 0
  · rw [bI_f (fun z => absurd h1 (Int32.not_lt.mpr z.1))]
    refine r_iload_n (dk kX6_hasOfficer 0 rfl) rfl ?_
    refine r_if_lt (tgt := 16) (dk kX6_hasOfficer 1 rfl) (by decide) (fun c1 => ?_) (fun c1 => absurd h1 c1)
    refine r_iconst (v := 0) (dk kX6_hasOfficer 8 rfl) (by decide) ?_
    refine r_ireturn (dk kX6_hasOfficer 9 rfl) rfl rfl ⟨Nat.le_of_ble_eq_true rfl, Nat.le_of_ble_eq_true rfl⟩ ⟨rfl, rfl⟩
  · by_cases h2 : x < mi M s 6
    · rw [bI_t ⟨Int32.not_lt.mp h1, h2⟩]
      refine r_iload_n (dk kX6_hasOfficer 0 rfl) rfl ?_
      refine r_if_lt (tgt := 16) (dk kX6_hasOfficer 1 rfl) (by decide) (fun c1 => absurd c1 h1) (fun c1 => ?_)
      refine r_iload_n (dk kX6_hasOfficer 2 rfl) rfl ?_
      refine r_aload_n (dk kX6_hasOfficer 3 rfl) rfl ?_
      refine r_geti (dk kX6_hasOfficer 4 rfl) fa_X6_61_5 ks rfl ?_
      refine r_icmp_ge (tgt := 16) (dk kX6_hasOfficer 5 rfl) (by decide) (fun c9 => absurd c9 (Int32.not_le.mpr h2)) (fun c9 => ?_)
      refine r_iconst (v := 1) (dk kX6_hasOfficer 6 rfl) (by decide) ?_
      refine r_goto (tgt := 17) (dk kX6_hasOfficer 7 rfl) (by decide) ?_
      refine r_ireturn (dk kX6_hasOfficer 9 rfl) rfl rfl ⟨Nat.le_of_ble_eq_true rfl, Nat.le_of_ble_eq_true rfl⟩ ⟨rfl, rfl⟩
    · rw [bI_f (fun z => h2 z.2)]
      refine r_iload_n (dk kX6_hasOfficer 0 rfl) rfl ?_
      refine r_if_lt (tgt := 16) (dk kX6_hasOfficer 1 rfl) (by decide) (fun c1 => absurd c1 h1) (fun c1 => ?_)
      refine r_iload_n (dk kX6_hasOfficer 2 rfl) rfl ?_
      refine r_aload_n (dk kX6_hasOfficer 3 rfl) rfl ?_
      refine r_geti (dk kX6_hasOfficer 4 rfl) fa_X6_61_5 ks rfl ?_
      refine r_icmp_ge (tgt := 16) (dk kX6_hasOfficer 5 rfl) (by decide) (fun c9 => ?_) (fun c9 => absurd (Int32.not_lt.mp h2) c9)
      refine r_iconst (v := 0) (dk kX6_hasOfficer 8 rfl) (by decide) ?_
      refine r_ireturn (dk kX6_hasOfficer 9 rfl) rfl rfl ⟨Nat.le_of_ble_eq_true rfl, Nat.le_of_ble_eq_true rfl⟩ ⟨rfl, rfl⟩
end CLASS
