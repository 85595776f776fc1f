/-! THE CLASS: the pattern of a letter -/
theorem sw_pat : ∀ m, m < 23 → (m ≠ 0 ∧ m ≠ 1 ∧ m ≠ 3 ∧ m ≠ 11 ∧ m ≠ 12 ∧ m ≠ 14 ∧ m ≠ 16 ∧ m ≠ 19 ∧ m ≠ 20 ∧ m ≠ 22) → (#[125, 134, 137, 116, 137, 137, 137, 137, 137, 137, 137, 122, 110, 137, 113, 137, 107, 137, 137, 128, 131, 137, 119] : Array Int)[m]? = some 137 := by decide +kernel
def pJ (c : Int32) : Nat := match pI c with
  | some i => i
  | none => 10
section CLASS
variable {G : GG} {M : Mm}
theorem k_X7_patternOf (x : Int32) : KK G IX7_patternOf [.int x] M (qr (fun y M' => y = some (gk G (pJ x)) ∧ M' = M) nox) := by
  refine KK.ofW (by decide) (by simp [Value.category]) (Nat.le_of_ble_eq_true rfl) rfl ?_
  show WW _ _ _ 0 [_] [] _ _ _
  refine r_iload_n (dk kX7_patternOf 0 rfl) rfl ?_
  -- at 1
  by_cases e115 : x = 115
  · refine r_switchIn (off := 107) (tgt := 108) (dk kX7_patternOf 1 rfl) (by rw [e115]; decide) (by rw [e115]; decide) (by rw [e115]; rfl) (by decide) ?_
    refine r_ldcS (tx := "stone N D") (i := 0) (dk kX7_patternOf 2 rfl) (by decide +kernel) ?_
    refine r_areturn (dk kX7_patternOf 3 rfl) rfl (Or.inl ⟨_, rfl⟩) rfl ⟨Nat.le_of_ble_eq_true rfl, Nat.le_of_ble_eq_true rfl⟩ ⟨by rw [e115], rfl⟩
  by_cases e111 : x = 111
  · refine r_switchIn (off := 110) (tgt := 111) (dk kX7_patternOf 1 rfl) (by rw [e111]; decide) (by rw [e111]; decide) (by rw [e111]; rfl) (by decide) ?_
    refine r_ldcS (tx := "officer D") (i := 1) (dk kX7_patternOf 4 rfl) (by decide +kernel) ?_
    refine r_areturn (dk kX7_patternOf 5 rfl) rfl (Or.inl ⟨_, rfl⟩) rfl ⟨Nat.le_of_ble_eq_true rfl, Nat.le_of_ble_eq_true rfl⟩ ⟨by rw [e111], rfl⟩
  by_cases e113 : x = 113
  · refine r_switchIn (off := 113) (tgt := 114) (dk kX7_patternOf 1 rfl) (by rw [e113]; decide) (by rw [e113]; decide) (by rw [e113]; rfl) (by decide) ?_
    refine r_ldcS (tx := "quorum D") (i := 2) (dk kX7_patternOf 6 rfl) (by decide +kernel) ?_
    refine r_areturn (dk kX7_patternOf 7 rfl) rfl (Or.inl ⟨_, rfl⟩) rfl ⟨Nat.le_of_ble_eq_true rfl, Nat.le_of_ble_eq_true rfl⟩ ⟨by rw [e113], rfl⟩
  by_cases e102 : x = 102
  · refine r_switchIn (off := 116) (tgt := 117) (dk kX7_patternOf 1 rfl) (by rw [e102]; decide) (by rw [e102]; decide) (by rw [e102]; rfl) (by decide) ?_
    refine r_ldcS (tx := "file D D N D") (i := 3) (dk kX7_patternOf 8 rfl) (by decide +kernel) ?_
    refine r_areturn (dk kX7_patternOf 9 rfl) rfl (Or.inl ⟨_, rfl⟩) rfl ⟨Nat.le_of_ble_eq_true rfl, Nat.le_of_ble_eq_true rfl⟩ ⟨by rw [e102], rfl⟩
  by_cases e121 : x = 121
  · refine r_switchIn (off := 119) (tgt := 120) (dk kX7_patternOf 1 rfl) (by rw [e121]; decide) (by rw [e121]; decide) (by rw [e121]; rfl) (by decide) ?_
    refine r_ldcS (tx := "yes D N") (i := 4) (dk kX7_patternOf 10 rfl) (by decide +kernel) ?_
    refine r_areturn (dk kX7_patternOf 11 rfl) rfl (Or.inl ⟨_, rfl⟩) rfl ⟨Nat.le_of_ble_eq_true rfl, Nat.le_of_ble_eq_true rfl⟩ ⟨by rw [e121], rfl⟩
  by_cases e110 : x = 110
  · refine r_switchIn (off := 122) (tgt := 123) (dk kX7_patternOf 1 rfl) (by rw [e110]; decide) (by rw [e110]; decide) (by rw [e110]; rfl) (by decide) ?_
    refine r_ldcS (tx := "no D N") (i := 5) (dk kX7_patternOf 12 rfl) (by decide +kernel) ?_
    refine r_areturn (dk kX7_patternOf 13 rfl) rfl (Or.inl ⟨_, rfl⟩) rfl ⟨Nat.le_of_ble_eq_true rfl, Nat.le_of_ble_eq_true rfl⟩ ⟨by rw [e110], rfl⟩
  by_cases e99 : x = 99
  · refine r_switchIn (off := 125) (tgt := 126) (dk kX7_patternOf 1 rfl) (by rw [e99]; decide) (by rw [e99]; decide) (by rw [e99]; rfl) (by decide) ?_
    refine r_ldcS (tx := "cite N N") (i := 6) (dk kX7_patternOf 14 rfl) (by decide +kernel) ?_
    refine r_areturn (dk kX7_patternOf 15 rfl) rfl (Or.inl ⟨_, rfl⟩) rfl ⟨Nat.le_of_ble_eq_true rfl, Nat.le_of_ble_eq_true rfl⟩ ⟨by rw [e99], rfl⟩
  by_cases e118 : x = 118
  · refine r_switchIn (off := 128) (tgt := 129) (dk kX7_patternOf 1 rfl) (by rw [e118]; decide) (by rw [e118]; decide) (by rw [e118]; rfl) (by decide) ?_
    refine r_ldcS (tx := "veto D N") (i := 7) (dk kX7_patternOf 16 rfl) (by decide +kernel) ?_
    refine r_areturn (dk kX7_patternOf 17 rfl) rfl (Or.inl ⟨_, rfl⟩) rfl ⟨Nat.le_of_ble_eq_true rfl, Nat.le_of_ble_eq_true rfl⟩ ⟨by rw [e118], rfl⟩
  by_cases e119 : x = 119
  · refine r_switchIn (off := 131) (tgt := 132) (dk kX7_patternOf 1 rfl) (by rw [e119]; decide) (by rw [e119]; decide) (by rw [e119]; rfl) (by decide) ?_
    refine r_ldcS (tx := "withdraw N") (i := 8) (dk kX7_patternOf 18 rfl) (by decide +kernel) ?_
    refine r_areturn (dk kX7_patternOf 19 rfl) rfl (Or.inl ⟨_, rfl⟩) rfl ⟨Nat.le_of_ble_eq_true rfl, Nat.le_of_ble_eq_true rfl⟩ ⟨by rw [e119], rfl⟩
  by_cases e100 : x = 100
  · refine r_switchIn (off := 134) (tgt := 135) (dk kX7_patternOf 1 rfl) (by rw [e100]; decide) (by rw [e100]; decide) (by rw [e100]; rfl) (by decide) ?_
    refine r_ldcS (tx := "decide") (i := 9) (dk kX7_patternOf 20 rfl) (by decide +kernel) ?_
    refine r_areturn (dk kX7_patternOf 21 rfl) rfl (Or.inl ⟨_, rfl⟩) rfl ⟨Nat.le_of_ble_eq_true rfl, Nat.le_of_ble_eq_true rfl⟩ ⟨by rw [e100], rfl⟩
  have e : pJ x = 10 := by
    unfold pJ pI
    rw [if_neg e115, if_neg e111, if_neg e113, if_neg e102, if_neg e121, if_neg e110, if_neg e99, if_neg e118, if_neg e119, if_neg e100]
  have fin : WW G IX7_patternOf (qr (fun y M' => y = some (gk G (pJ x)) ∧ M' = M) nox) 138 [.int x] [] M 0 0 := by
    rw [e]
    refine r_ldcS (tx := "") (i := 10) (dk kX7_patternOf 22 rfl) (by decide +kernel) ?_
    refine r_areturn (dk kX7_patternOf 23 rfl) rfl (Or.inl ⟨_, rfl⟩) rfl ⟨Nat.le_of_ble_eq_true rfl, Nat.le_of_ble_eq_true rfl⟩ ⟨rfl, rfl⟩
  by_cases hr : x.toInt < 99 ∨ 121 < x.toInt
  · exact r_switchOut (tgt := 138) (dk kX7_patternOf 1 rfl) hr (by decide) fin
  · have h1 : ¬ x.toInt < 99 := fun z => hr (Or.inl z)
    have h2 : ¬ 121 < x.toInt := fun z => hr (Or.inr z)
    have h0 : ¬ x < 0 := by
      intro z
      have := Int32.lt_iff_toInt_lt.mp z
      have e0 : (0 : Int32).toInt = 0 := by decide
      omega
    obtain ⟨q, hq, hx⟩ := nI_of h0
    have et := nI_toInt hq
    have ne : ∀ z : Nat, z < 2 ^ 31 → x ≠ nI z → q - 99 ≠ z - 99 ∨ z < 99 := fun z hz hne => by
      by_cases hz9 : z < 99
      · exact Or.inr hz9
      · refine Or.inl fun hqz => hne ?_
        rw [hx] at h1
        rw [hx, show q = z by omega]
    rw [hx] at h1 h2
    refine r_switchIn (off := 137) (tgt := 138) (dk kX7_patternOf 1 rfl) (by rw [hx]; exact h1) (by rw [hx]; exact h2) ?_ (by decide) fin
    rw [hx, show ((nI q).toInt - 99).toNat = q - 99 by omega]
    exact sw_pat (q - 99) (by omega) ⟨by have := ne 99 (by decide) e99; omega, by have := ne 100 (by decide) e100; omega, by have := ne 102 (by decide) e102; omega, by have := ne 110 (by decide) e110; omega, by have := ne 111 (by decide) e111; omega, by have := ne 113 (by decide) e113; omega, by have := ne 115 (by decide) e115; omega, by have := ne 118 (by decide) e118; omega, by have := ne 119 (by decide) e119; omega, by have := ne 121 (by decide) e121; omega⟩
end CLASS
