/-! THE LAW: its loop -/
theorem and_63 (v : Int32) : ∃ j, j < 64 ∧ v &&& 63 = nI j := by
  refine ⟨(v &&& 63).toBitVec.toNat, ?_, ?_⟩
  · have h : (v &&& 63).toBitVec = v.toBitVec &&& 63#32 := rfl
    rw [h, BitVec.toNat_and]
    exact Nat.lt_of_le_of_lt Nat.and_le_right (by decide)
  · apply Int32.toBitVec_inj.mp
    have h : ∀ n, (nI n).toBitVec = BitVec.ofNat 32 n := fun _ => rfl
    rw [h, BitVec.ofNat_toNat, BitVec.setWidth_eq]
theorem lt_5 {a i : Nat} (ha : a < 2 ^ 30) (hi : i < 2 ^ 30) : nI a - 5 < nI i ↔ a < i + 5 := by
  rw [Int32.lt_iff_toInt_lt, show nI a - 5 = nI a - nI 5 from rfl, pk_sub_toInt ha (by decide), nI_toInt (by omega)]
  omega
section LAW
variable {G : GG} {x : Nat}
theorem w_loop {P : Int32 → Mm → Prop} (hP : ∀ M, P 1 M) (hN : (gs G).2.1 ≤ 2560) : ∀ d j, (gs G).2.1 < 5 * j + 5 + 5 * d → 5 * j ≤ 2560 → ∀ F M B k n l6 l7 l8, LV F M x B → F ≤ 10 * j → k ≤ 400 + 2 * j → n ≤ 8000 + 12 * j → WW G IL_law (qi P nox) 28 [.ref (gs G).1, .ref x, .ref (x + 350), .ref (x + 359), .ref (x + 360), .int (nI (5 * j)), l6, l7, l8] [] M k n := by
  intro d
  have fin : ∀ j, (gs G).2.1 < 5 * j + 5 → 5 * j ≤ 2560 → ∀ M k n l6 l7 l8, k ≤ 400 + 2 * j → n ≤ 8000 + 12 * j → WW G IL_law (qi P nox) 28 [.ref (gs G).1, .ref x, .ref (x + 350), .ref (x + 359), .ref (x + 360), .int (nI (5 * j)), l6, l7, l8] [] M k n := by
    intro j hd hj M k n l6 l7 l8 hk hn
    refine r_iload (dk kL_law_p0 16 rfl) rfl ?_
    refine r_aload_n (dk kL_law_p0 17 rfl) rfl ?_
    refine r_slen (dk kL_law_p0 18 rfl) ?_
    refine r_iconst (v := 5) (dk kL_law_p0 19 rfl) (by decide) ?_
    refine r_isub (dk kL_law_p0 20 rfl) ?_
    refine r_icmp_gt (tgt := 3030) (dk kL_law_p0 21 rfl) (by decide) (fun c34 => ?_) (fun c34 => absurd ((lt_5 (by omega) (by omega)).mpr hd) c34)
    refine r_iconst (v := 1) (dk kL_law_p28 37 rfl) (by decide) ?_
    -- at 3031
    refine r_ireturn (I := IL_law) (dk kL_law_p28 38 rfl) rfl rfl ⟨?_, ?_⟩ (hP M)
    · show k ≤ 603072
      omega
    · show n ≤ 7190633
      omega
  induction d with
  | zero =>
    intro j hd hj F M B k n l6 l7 l8 _ _ hk hn
    exact fin j hd hj M k n l6 l7 l8 hk hn
  | succ d ih =>
    intro j hd hj F M B k n l6 l7 l8 lv hF hk hn
    by_cases hx : (gs G).2.1 < 5 * j + 5
    · exact fin j hx hj M k n l6 l7 l8 hk hn
    · refine r_iload (dk kL_law_p0 16 rfl) rfl ?_
      refine r_aload_n (dk kL_law_p0 17 rfl) rfl ?_
      refine r_slen (dk kL_law_p0 18 rfl) ?_
      refine r_iconst (v := 5) (dk kL_law_p0 19 rfl) (by decide) ?_
      refine r_isub (dk kL_law_p0 20 rfl) ?_
      refine r_icmp_gt (tgt := 3030) (dk kL_law_p0 21 rfl) (by decide) (fun c34 => absurd c34 (fun z => hx ((lt_5 (by omega) (by omega)).mp z))) (fun c34 => ?_)
      refine r_aload_n (dk kL_law_p0 22 rfl) rfl ?_
      refine r_iload (dk kL_law_p0 23 rfl) rfl ?_
      refine r_sld (dk kL_law_p0 24 rfl) (vp_in_nI (by omega) (by omega)) ?_
      refine r_bipush (v := 63) (dk kL_law_p0 25 rfl) (by decide) ?_
      refine r_iand (dk kL_law_p0 26 rfl) ?_
      -- at 44
      obtain ⟨s, hs, e⟩ := and_63 ((gs G).2.2 (nI (5 * j)).toNatClampNeg)
      rw [e]
      refine w_sw lv (by omega) (by omega) hN (by omega) (by omega) l6 l7 l8 ?_ s hs
      intro M' F' B' k' n' m6 m7 m8 lv' h1 h2 h3
      refine r_iinc (dk kL_law_p28 35 rfl) (by decide) rfl rfl rfl ?_
      simp only [List.set_cons_succ, List.set_cons_zero]
      refine r_goto (tgt := 28) (dk kL_law_p28 36 rfl) (by decide) ?_
      -- at 28
      rw [show nI (5 * j) + Int32.ofInt 5 = nI (5 * (j + 1)) from (nI_add (5 * j) 5)]
      exact ih (j + 1) (by omega) (by omega) F' M' B' k' n' m6 m7 m8 lv' (by omega) (by omega) (by omega)
end LAW
