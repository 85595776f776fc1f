/-! THE CLASS: a command of a text is tried -/
def QA2 (M : Mm) (x : Nat) (co : CO) (y : Int32) (M' : Mm) : Prop := ∃ tc : Int32 → Int32, (∀ p, tc p = -1 ∨ tc p = -2 ∨ tc p = -3) ∧ QA M x co tc y M'
theorem sw_att : (#[188, 223, 223, 139, 223, 223, 223, 223, 223, 223, 223, 174, 121, 223, 130, 223, 108, 223, 223, 201, 214, 223, 160] : Array Int)[1]? = some 223 := rfl
theorem pN_s : pN 115 = 2 ∧ pN 111 = 1 ∧ pN 113 = 1 ∧ pN 102 = 4 ∧ pN 121 = 2 ∧ pN 110 = 2 ∧ pN 99 = 2 ∧ pN 118 = 2 ∧ pN 119 = 1 := by decide +kernel
theorem pI_10 {c : Int32} (h : pI c ≠ none) : c = 115 ∨ c = 111 ∨ c = 113 ∨ c = 102 ∨ c = 121 ∨ c = 110 ∨ c = 99 ∨ c = 118 ∨ c = 119 ∨ c = 100 := by
  unfold pI at h
  by_cases e1 : c = 115
  · exact Or.inl e1
  rw [if_neg e1] at h
  by_cases e2 : c = 111
  · exact Or.inr (Or.inl e2)
  rw [if_neg e2] at h
  by_cases e3 : c = 113
  · exact Or.inr (Or.inr (Or.inl e3))
  rw [if_neg e3] at h
  by_cases e4 : c = 102
  · exact Or.inr (Or.inr (Or.inr (Or.inl e4)))
  rw [if_neg e4] at h
  by_cases e5 : c = 121
  · exact Or.inr (Or.inr (Or.inr (Or.inr (Or.inl e5))))
  rw [if_neg e5] at h
  by_cases e6 : c = 110
  · exact Or.inr (Or.inr (Or.inr (Or.inr (Or.inr (Or.inl e6)))))
  rw [if_neg e6] at h
  by_cases e7 : c = 99
  · exact Or.inr (Or.inr (Or.inr (Or.inr (Or.inr (Or.inr (Or.inl e7))))))
  rw [if_neg e7] at h
  by_cases e8 : c = 118
  · exact Or.inr (Or.inr (Or.inr (Or.inr (Or.inr (Or.inr (Or.inr (Or.inl e8)))))))
  rw [if_neg e8] at h
  by_cases e9 : c = 119
  · exact Or.inr (Or.inr (Or.inr (Or.inr (Or.inr (Or.inr (Or.inr (Or.inr (Or.inl e9))))))))
  rw [if_neg e9] at h
  by_cases e10 : c = 100
  · exact Or.inr (Or.inr (Or.inr (Or.inr (Or.inr (Or.inr (Or.inr (Or.inr (Or.inr e10))))))))
  rw [if_neg e10] at h
  exact absurd rfl h
section CLASS
variable {G : GG} {M : Mm} {x d F : Nat} {g : Nat → Int32} {q : Nat → Nat}
theorem k_X8_attempt (o : BO M x) (v : SV M (x + 1) g q) (i : GI F g) (hF : F + 1 < 2 ^ 30) (u : GU g) (kc : kd M d = 1) {L : Int32} {a : Nat → Nat} (hL : pI L ≠ none) (f0 : mi M d 0 = L) (fa : ∀ j, j < pN L → mi M d (1 + j) = nI (a j)) : KK G IX8_attempt [.ref x, .ref d] M (qi (QA2 M x (sp_cmd g L a)) nox) := by
  refine KK.ofW (by decide) (by simp [Value.category]) (Nat.le_of_ble_eq_true rfl) rfl ?_
  show WW _ _ _ 0 [_, _] [] _ _ _
  obtain ⟨n1, n2, n3, n4, n5, n6, n7, n8, n9⟩ := pN_s
  refine r_aload_n (dk kX8_attempt_p0 0 rfl) rfl ?_
  refine r_geti (dk kX8_attempt_p0 1 rfl) fa_X8_418_0 kc rfl ?_
  -- at 4
  rw [f0]
  rcases pI_10 hL with rfl | rfl | rfl | rfl | rfl | rfl | rfl | rfl | rfl | rfl
  · refine r_switchIn (off := 108) (tgt := 112) (dk kX8_attempt_p0 2 rfl) (by decide) (by decide) (by decide) (by decide) ?_
    have z0 : mi M d 1 = nI (a 0) := fa 0 (by rw [n1]; decide)
    have z1 : mi M d 2 = nI (a 1) := fa 1 (by rw [n1]; decide)
    refine r_aload_n (dk kX8_attempt_p0 3 rfl) rfl ?_
    refine r_aload_n (dk kX8_attempt_p0 4 rfl) rfl ?_
    refine r_geti (dk kX8_attempt_p0 5 rfl) fa_X8_424_0 kc rfl ?_
    refine r_aload_n (dk kX8_attempt_p0 6 rfl) rfl ?_
    refine r_geti (dk kX8_attempt_p0 7 rfl) fa_X8_427_0 kc rfl ?_
    -- at 121
    rw [z0, z1]
    refine r_callV (I' := IX8_placeStone) (as := [_, _]) (dk kX8_attempt_p0 8 rfl) mv_X8_placeStone ml_X8_55 rfl rfl o.k rfl rfl (Nat.le_of_ble_eq_true rfl) ⟨by decide, by decide⟩ ⟨Nat.le_of_ble_eq_true rfl, Nat.le_of_ble_eq_true rfl⟩ (k_X8_placeStone o v i (nI (a 0)) (nI (a 1))) ?_ ?_
    · exact fun E M' z => z.elim
    rintro w M' ⟨y, rfl, hq⟩
    show WW G IX8_attempt _ 124 [.ref x, .ref d] [.int y] M' 0 0
    refine r_ireturn (dk kX8_attempt_p0 9 rfl) rfl rfl ⟨Nat.le_of_ble_eq_true rfl, Nat.le_of_ble_eq_true rfl⟩ ⟨tc1, tc1_ok, hq⟩
  · refine r_switchIn (off := 121) (tgt := 125) (dk kX8_attempt_p0 2 rfl) (by decide) (by decide) (by decide) (by decide) ?_
    have z0 : mi M d 1 = nI (a 0) := fa 0 (by rw [n2]; decide)
    refine r_aload_n (dk kX8_attempt_p0 10 rfl) rfl ?_
    refine r_aload_n (dk kX8_attempt_p0 11 rfl) rfl ?_
    refine r_geti (dk kX8_attempt_p0 12 rfl) fa_X8_424_0 kc rfl ?_
    -- at 130
    rw [z0]
    refine r_callV (I' := IX8_enlistOfficer) (as := [_]) (dk kX8_attempt_p0 13 rfl) mv_X8_enlistOfficer ml_X8_63 rfl rfl o.k rfl rfl (Nat.le_of_ble_eq_true rfl) ⟨by decide, by decide⟩ ⟨Nat.le_of_ble_eq_true rfl, Nat.le_of_ble_eq_true rfl⟩ (k_X8_enlistOfficer o v i (nI (a 0))) ?_ ?_
    · exact fun E M' z => z.elim
    rintro w M' ⟨y, rfl, hq⟩
    show WW G IX8_attempt _ 133 [.ref x, .ref d] [.int y] M' 0 0
    refine r_ireturn (dk kX8_attempt_p0 14 rfl) rfl rfl ⟨Nat.le_of_ble_eq_true rfl, Nat.le_of_ble_eq_true rfl⟩ ⟨tc2, tc2_ok, hq⟩
  · refine r_switchIn (off := 130) (tgt := 134) (dk kX8_attempt_p0 2 rfl) (by decide) (by decide) (by decide) (by decide) ?_
    have z0 : mi M d 1 = nI (a 0) := fa 0 (by rw [n3]; decide)
    refine r_aload_n (dk kX8_attempt_p0 15 rfl) rfl ?_
    refine r_aload_n (dk kX8_attempt_p0 16 rfl) rfl ?_
    refine r_geti (dk kX8_attempt_p0 17 rfl) fa_X8_424_0 kc rfl ?_
    -- at 139
    rw [z0]
    refine r_callV (I' := IX8_changeQuorum) (as := [_]) (dk kX8_attempt_p0 18 rfl) mv_X8_changeQuorum ml_X8_168 rfl rfl o.k rfl rfl (Nat.le_of_ble_eq_true rfl) ⟨by decide, by decide⟩ ⟨Nat.le_of_ble_eq_true rfl, Nat.le_of_ble_eq_true rfl⟩ (k_X8_changeQuorum o v i (nI (a 0))) ?_ ?_
    · exact fun E M' z => z.elim
    rintro w M' ⟨y, rfl, hq⟩
    show WW G IX8_attempt _ 142 [.ref x, .ref d] [.int y] M' 0 0
    refine r_ireturn (dk kX8_attempt_p0 19 rfl) rfl rfl ⟨Nat.le_of_ble_eq_true rfl, Nat.le_of_ble_eq_true rfl⟩ ⟨tc2, tc2_ok, hq⟩
  · refine r_switchIn (off := 139) (tgt := 143) (dk kX8_attempt_p0 2 rfl) (by decide) (by decide) (by decide) (by decide) ?_
    have z0 : mi M d 1 = nI (a 0) := fa 0 (by rw [n4]; decide)
    have z1 : mi M d 2 = nI (a 1) := fa 1 (by rw [n4]; decide)
    have z2 : mi M d 3 = nI (a 2) := fa 2 (by rw [n4]; decide)
    have z3 : mi M d 4 = nI (a 3) := fa 3 (by rw [n4]; decide)
    refine r_aload_n (dk kX8_attempt_p0 20 rfl) rfl ?_
    refine r_aload_n (dk kX8_attempt_p0 21 rfl) rfl ?_
    refine r_geti (dk kX8_attempt_p0 22 rfl) fa_X8_424_0 kc rfl ?_
    refine r_aload_n (dk kX8_attempt_p0 23 rfl) rfl ?_
    refine r_geti (dk kX8_attempt_p0 24 rfl) fa_X8_427_0 kc rfl ?_
    refine r_aload_n (dk kX8_attempt_p0 25 rfl) rfl ?_
    refine r_geti (dk kX8_attempt_p0 26 rfl) fa_X8_430_0 kc rfl ?_
    refine r_aload_n (dk kX8_attempt_p0 27 rfl) rfl ?_
    refine r_geti (dk kX8_attempt_p0 28 rfl) fa_X8_433_0 kc rfl ?_
    -- at 160
    rw [z0, z1, z2, z3]
    refine r_callV (I' := IX8_lodgePetition) (as := [_, _, _, _]) (dk kX8_attempt_p0 29 rfl) mv_X8_lodgePetition ml_X8_122 rfl rfl o.k rfl rfl (Nat.le_of_ble_eq_true rfl) ⟨by decide, by decide⟩ ⟨Nat.le_of_ble_eq_true rfl, Nat.le_of_ble_eq_true rfl⟩ (k_X8_lodgePetition o v i hF u (nI (a 0)) (nI (a 1)) (nI (a 2)) (nI (a 3))) ?_ ?_
    · exact fun E M' z => z.elim
    rintro w M' ⟨y, rfl, hq⟩
    show WW G IX8_attempt _ 163 [.ref x, .ref d] [.int y] M' 0 0
    refine r_ireturn (dk kX8_attempt_p0 30 rfl) rfl rfl ⟨Nat.le_of_ble_eq_true rfl, Nat.le_of_ble_eq_true rfl⟩ ⟨tc1, tc1_ok, hq⟩
  · refine r_switchIn (off := 160) (tgt := 164) (dk kX8_attempt_p0 2 rfl) (by decide) (by decide) (by decide) (by decide) ?_
    have z0 : mi M d 1 = nI (a 0) := fa 0 (by rw [n5]; decide)
    have z1 : mi M d 2 = nI (a 1) := fa 1 (by rw [n5]; decide)
    refine r_aload_n (dk kX8_attempt_p0 31 rfl) rfl ?_
    refine r_aload_n (dk kX8_attempt_p0 32 rfl) rfl ?_
    refine r_geti (dk kX8_attempt_p0 33 rfl) fa_X8_424_0 kc rfl ?_
    refine r_aload_n (dk kX8_attempt_p0 34 rfl) rfl ?_
    refine r_geti (dk kX8_attempt_p0 35 rfl) fa_X8_427_0 kc rfl ?_
    refine r_iconst (v := 1) (dk kX8_attempt_p0 36 rfl) (by decide) ?_
    -- at 174
    rw [z0, z1]
    refine r_callV (I' := IX8_castVote) (as := [_, _, _]) (dk kX8_attempt_p0 37 rfl) mv_X8_castVote ml_X8_126 rfl rfl o.k rfl rfl (Nat.le_of_ble_eq_true rfl) ⟨by decide, by decide⟩ ⟨Nat.le_of_ble_eq_true rfl, Nat.le_of_ble_eq_true rfl⟩ (k_X8_castVote o v i (nI (a 0)) (nI (a 1)) 1) ?_ ?_
    · exact fun E M' z => z.elim
    rintro w M' ⟨y, rfl, hq⟩
    show WW G IX8_attempt _ 177 [.ref x, .ref d] [.int y] M' 0 0
    refine r_ireturn (dk kX8_attempt_p0 38 rfl) rfl rfl ⟨Nat.le_of_ble_eq_true rfl, Nat.le_of_ble_eq_true rfl⟩ ⟨tc3, tc3_ok, hq⟩
  · refine r_switchIn (off := 174) (tgt := 178) (dk kX8_attempt_p0 2 rfl) (by decide) (by decide) (by decide) (by decide) ?_
    have z0 : mi M d 1 = nI (a 0) := fa 0 (by rw [n6]; decide)
    have z1 : mi M d 2 = nI (a 1) := fa 1 (by rw [n6]; decide)
    refine r_aload_n (dk kX8_attempt_p0 39 rfl) rfl ?_
    refine r_aload_n (dk kX8_attempt_p0 40 rfl) rfl ?_
    refine r_geti (dk kX8_attempt_p0 41 rfl) fa_X8_424_0 kc rfl ?_
    refine r_aload_n (dk kX8_attempt_p0 42 rfl) rfl ?_
    refine r_geti (dk kX8_attempt_p0 43 rfl) fa_X8_427_0 kc rfl ?_
    refine r_iconst (v := 0) (dk kX8_attempt_p0 44 rfl) (by decide) ?_
    -- at 188
    rw [z0, z1]
    refine r_callV (I' := IX8_castVote) (as := [_, _, _]) (dk kX8_attempt_p0 45 rfl) mv_X8_castVote ml_X8_126 rfl rfl o.k rfl rfl (Nat.le_of_ble_eq_true rfl) ⟨by decide, by decide⟩ ⟨Nat.le_of_ble_eq_true rfl, Nat.le_of_ble_eq_true rfl⟩ (k_X8_castVote o v i (nI (a 0)) (nI (a 1)) 0) ?_ ?_
    · exact fun E M' z => z.elim
    rintro w M' ⟨y, rfl, hq⟩
    show WW G IX8_attempt _ 191 [.ref x, .ref d] [.int y] M' 0 0
    refine r_ireturn (dk kX8_attempt_p0 46 rfl) rfl rfl ⟨Nat.le_of_ble_eq_true rfl, Nat.le_of_ble_eq_true rfl⟩ ⟨tc3, tc3_ok, hq⟩
  · refine r_switchIn (off := 188) (tgt := 192) (dk kX8_attempt_p0 2 rfl) (by decide) (by decide) (by decide) (by decide) ?_
    have z0 : mi M d 1 = nI (a 0) := fa 0 (by rw [n7]; decide)
    have z1 : mi M d 2 = nI (a 1) := fa 1 (by rw [n7]; decide)
    refine r_aload_n (dk kX8_attempt_p0 47 rfl) rfl ?_
    refine r_aload_n (dk kX8_attempt_p0 48 rfl) rfl ?_
    refine r_geti (dk kX8_attempt_p0 49 rfl) fa_X8_424_0 kc rfl ?_
    refine r_aload_n (dk kX8_attempt_p0 50 rfl) rfl ?_
    refine r_geti (dk kX8_attempt_p0 51 rfl) fa_X8_427_0 kc rfl ?_
    -- at 201
    rw [z0, z1]
    refine r_callV (I' := IX8_citeRuling) (as := [_, _]) (dk kX8_attempt_p0 52 rfl) mv_X8_citeRuling ml_X8_130 rfl rfl o.k rfl rfl (Nat.le_of_ble_eq_true rfl) ⟨by decide, by decide⟩ ⟨Nat.le_of_ble_eq_true rfl, Nat.le_of_ble_eq_true rfl⟩ (k_X8_citeRuling o v i (nI (a 0)) (nI (a 1))) ?_ ?_
    · exact fun E M' z => z.elim
    rintro w M' ⟨y, rfl, hq⟩
    show WW G IX8_attempt _ 204 [.ref x, .ref d] [.int y] M' 0 0
    refine r_ireturn (dk kX8_attempt_p0 53 rfl) rfl rfl ⟨Nat.le_of_ble_eq_true rfl, Nat.le_of_ble_eq_true rfl⟩ ⟨tc4, tc4_ok, hq⟩
  · refine r_switchIn (off := 201) (tgt := 205) (dk kX8_attempt_p0 2 rfl) (by decide) (by decide) (by decide) (by decide) ?_
    have z0 : mi M d 1 = nI (a 0) := fa 0 (by rw [n8]; decide)
    have z1 : mi M d 2 = nI (a 1) := fa 1 (by rw [n8]; decide)
    refine r_aload_n (dk kX8_attempt_p0 54 rfl) rfl ?_
    refine r_aload_n (dk kX8_attempt_p0 55 rfl) rfl ?_
    refine r_geti (dk kX8_attempt_p0 56 rfl) fa_X8_424_0 kc rfl ?_
    refine r_aload_n (dk kX8_attempt_p0 57 rfl) rfl ?_
    refine r_geti (dk kX8_attempt_p0 58 rfl) fa_X8_427_0 kc rfl ?_
    -- at 214
    rw [z0, z1]
    refine r_callV (I' := IX8_vetoPetition) (as := [_, _]) (dk kX8_attempt_p0 59 rfl) mv_X8_vetoPetition ml_X8_133 rfl rfl o.k rfl rfl (Nat.le_of_ble_eq_true rfl) ⟨by decide, by decide⟩ ⟨Nat.le_of_ble_eq_true rfl, Nat.le_of_ble_eq_true rfl⟩ (k_X8_vetoPetition o v i (nI (a 0)) (nI (a 1))) ?_ ?_
    · exact fun E M' z => z.elim
    rintro w M' ⟨y, rfl, hq⟩
    show WW G IX8_attempt _ 217 [.ref x, .ref d] [.int y] M' 0 0
    refine r_ireturn (dk kX8_attempt_p1 0 rfl) rfl rfl ⟨Nat.le_of_ble_eq_true rfl, Nat.le_of_ble_eq_true rfl⟩ ⟨tc3, tc3_ok, hq⟩
  · refine r_switchIn (off := 214) (tgt := 218) (dk kX8_attempt_p0 2 rfl) (by decide) (by decide) (by decide) (by decide) ?_
    have z0 : mi M d 1 = nI (a 0) := fa 0 (by rw [n9]; decide)
    refine r_aload_n (dk kX8_attempt_p1 1 rfl) rfl ?_
    refine r_aload_n (dk kX8_attempt_p1 2 rfl) rfl ?_
    refine r_geti (dk kX8_attempt_p1 3 rfl) fa_X8_424_0 kc rfl ?_
    -- at 223
    rw [z0]
    refine r_callV (I' := IX8_withdrawPetition) (as := [_]) (dk kX8_attempt_p1 4 rfl) mv_X8_withdrawPetition ml_X8_136 rfl rfl o.k rfl rfl (Nat.le_of_ble_eq_true rfl) ⟨by decide, by decide⟩ ⟨Nat.le_of_ble_eq_true rfl, Nat.le_of_ble_eq_true rfl⟩ (k_X8_withdrawPetition o v i (nI (a 0))) ?_ ?_
    · exact fun E M' z => z.elim
    rintro w M' ⟨y, rfl, hq⟩
    show WW G IX8_attempt _ 226 [.ref x, .ref d] [.int y] M' 0 0
    refine r_ireturn (dk kX8_attempt_p1 5 rfl) rfl rfl ⟨Nat.le_of_ble_eq_true rfl, Nat.le_of_ble_eq_true rfl⟩ ⟨tc4, tc4_ok, hq⟩
  · refine r_switchIn (off := 223) (tgt := 227) (dk kX8_attempt_p0 2 rfl) (by decide) (by decide) (by decide) (by decide) ?_
    refine r_aload_n (dk kX8_attempt_p1 6 rfl) rfl ?_
    refine r_callV (I' := IX8_decideFirst) (as := []) (dk kX8_attempt_p1 7 rfl) mv_X8_decideFirst ml_X8_171 rfl rfl o.k rfl rfl (Nat.le_of_ble_eq_true rfl) ⟨by decide, by decide⟩ ⟨Nat.le_of_ble_eq_true rfl, Nat.le_of_ble_eq_true rfl⟩ (k_X8_decideFirst o v i ) ?_ ?_
    · exact fun E M' z => z.elim
    rintro w M' ⟨y, rfl, hq⟩
    show WW G IX8_attempt _ 231 [.ref x, .ref d] [.int y] M' 0 0
    refine r_ireturn (dk kX8_attempt_p1 8 rfl) rfl rfl ⟨Nat.le_of_ble_eq_true rfl, Nat.le_of_ble_eq_true rfl⟩ ⟨tc4, tc4_ok, hq⟩
end CLASS
