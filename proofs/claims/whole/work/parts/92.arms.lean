/-! THE LAW: its steps: questions -/
theorem bI_01 (p : Prop) [Decidable p] : bI p = 0 ∨ bI p = 1 := by
  by_cases h : p
  · exact Or.inr (bI_t h)
  · exact Or.inl (bI_f h)
theorem sq_cellOf (g : Nat → Int32) (s : Int32) : (sp_cellOf g s).1 = 0 ∨ (sp_cellOf g s).1 = 1 := by
  unfold sp_cellOf sp_stone
  repeat' split
  all_goals first | exact Or.inl rfl | exact Or.inr rfl
theorem sq_weightOf (g : Nat → Int32) (s : Int32) : (sp_weightOf g s).1 = 0 ∨ (sp_weightOf g s).1 = 1 := by
  unfold sp_weightOf sp_stone
  repeat' split
  all_goals first | exact Or.inl rfl | exact Or.inr rfl
theorem sq_rankOf (g : Nat → Int32) (s : Int32) : (sp_rankOf g s).1 = 0 ∨ (sp_rankOf g s).1 = 1 := by
  unfold sp_rankOf sp_off
  repeat' split
  all_goals first | exact Or.inl rfl | exact Or.inr rfl
theorem sq_petitionsOf (g : Nat → Int32) (s : Int32) : (sp_petitionsOf g s).1 = 0 ∨ (sp_petitionsOf g s).1 = 1 := by
  unfold sp_petitionsOf sp_off
  repeat' split
  all_goals first | exact Or.inl rfl | exact Or.inr rfl
theorem sq_petitionAt (g : Nat → Int32) (s : Int32) : (sp_petitionAt g s).1 = 0 ∨ (sp_petitionAt g s).1 = 1 := by
  unfold sp_petitionAt
  repeat' split
  all_goals first | exact Or.inl rfl | exact Or.inr rfl
theorem sq_positionOf (g : Nat → Int32) (s : Int32) : (sp_positionOf g s).1 = 0 ∨ (sp_positionOf g s).1 = 1 := by
  unfold sp_positionOf sp_pet
  repeat' split
  all_goals first | exact Or.inl rfl | exact Or.inr rfl
theorem sq_stoneOf (g : Nat → Int32) (s : Int32) : (sp_stoneOf g s).1 = 0 ∨ (sp_stoneOf g s).1 = 1 := by
  unfold sp_stoneOf sp_pet
  repeat' split
  all_goals first | exact Or.inl rfl | exact Or.inr rfl
theorem sq_targetOf (g : Nat → Int32) (s : Int32) : (sp_targetOf g s).1 = 0 ∨ (sp_targetOf g s).1 = 1 := by
  unfold sp_targetOf sp_pet
  repeat' split
  all_goals first | exact Or.inl rfl | exact Or.inr rfl
theorem sq_votesFor (g : Nat → Int32) (s : Int32) : (sp_votesFor g s).1 = 0 ∨ (sp_votesFor g s).1 = 1 := by
  unfold sp_votesFor sp_pet
  repeat' split
  all_goals first | exact Or.inl rfl | exact Or.inr rfl
theorem sq_votesAgainst (g : Nat → Int32) (s : Int32) : (sp_votesAgainst g s).1 = 0 ∨ (sp_votesAgainst g s).1 = 1 := by
  unfold sp_votesAgainst sp_pet
  repeat' split
  all_goals first | exact Or.inl rfl | exact Or.inr rfl
theorem sq_citationCount (g : Nat → Int32) (s : Int32) : (sp_citationCount g s).1 = 0 ∨ (sp_citationCount g s).1 = 1 := by
  unfold sp_citationCount sp_rul
  repeat' split
  all_goals first | exact Or.inl rfl | exact Or.inr rfl
theorem sq_citedBy (g : Nat → Int32) (s : Int32) : (sp_citedBy g s).1 = 0 ∨ (sp_citedBy g s).1 = 1 := by
  unfold sp_citedBy sp_rul
  repeat' split
  all_goals first | exact Or.inl rfl | exact Or.inr rfl
theorem sq_depth (g : Nat → Int32) (s : Int32) : (sp_depth g s).1 = 0 ∨ (sp_depth g s).1 = 1 := by
  unfold sp_depth sp_rul
  repeat' split
  all_goals first | exact Or.inl rfl | exact Or.inr rfl
theorem sq_influence (g : Nat → Int32) (s : Int32) : (sp_influence g s).1 = 0 ∨ (sp_influence g s).1 = 1 := by
  unfold sp_influence sp_rul
  repeat' split
  all_goals first | exact Or.inl rfl | exact Or.inr rfl
theorem sq_rulingByInfluence (g : Nat → Int32) (s : Int32) : (sp_rulingByInfluence g s).1 = 0 ∨ (sp_rulingByInfluence g s).1 = 1 := by
  unfold sp_rulingByInfluence
  repeat' split
  all_goals first | exact Or.inl rfl | exact Or.inr rfl
theorem sq_stoneIn (g : Nat → Int32) (s : Int32) : (sp_stoneIn g s).1 = 0 ∨ (sp_stoneIn g s).1 = 1 ∨ (sp_stoneIn g s).1 = 2 := by
  unfold sp_stoneIn
  repeat' split
  all_goals first | exact Or.inl rfl | exact Or.inr (Or.inl rfl) | exact Or.inr (Or.inr rfl)
theorem sq_citation (g : Nat → Int32) (s u : Int32) : (sp_citation g s u).1 = 0 ∨ (sp_citation g s u).1 = 1 ∨ (sp_citation g s u).1 = 2 := by
  unfold sp_citation
  repeat' split
  all_goals first | exact Or.inl rfl | exact Or.inr (Or.inl rfl) | exact Or.inr (Or.inr rfl)
theorem sq_wouldBeGranted (g : Nat → Int32) (s : Int32) : (sp_wouldBeGranted g s).1 = 0 ∧ (sp_wouldBeGranted g s).2 = 0 ∨ (sp_wouldBeGranted g s).1 = 0 ∧ (sp_wouldBeGranted g s).2 = 1 ∨ (sp_wouldBeGranted g s).1 = 1 := by
  unfold sp_wouldBeGranted sp_pet
  repeat' split
  all_goals first | exact Or.inr (Or.inr rfl) | exact (bI_01 _).elim (fun h => Or.inl ⟨rfl, h⟩) (fun h => Or.inr (Or.inl ⟨rfl, h⟩))
theorem sq_isGranted (g : Nat → Int32) (s : Int32) : (sp_isGranted g s).1 = 0 ∧ (sp_isGranted g s).2 = 0 ∨ (sp_isGranted g s).1 = 0 ∧ (sp_isGranted g s).2 = 1 ∨ (sp_isGranted g s).1 = 1 := by
  unfold sp_isGranted sp_rul
  repeat' split
  all_goals first | exact Or.inr (Or.inr rfl) | exact (bI_01 _).elim (fun h => Or.inl ⟨rfl, h⟩) (fun h => Or.inr (Or.inl ⟨rfl, h⟩))
theorem sq_isCarriedOut (g : Nat → Int32) (s : Int32) : (sp_isCarriedOut g s).1 = 0 ∧ (sp_isCarriedOut g s).2 = 0 ∨ (sp_isCarriedOut g s).1 = 0 ∧ (sp_isCarriedOut g s).2 = 1 ∨ (sp_isCarriedOut g s).1 = 1 := by
  unfold sp_isCarriedOut sp_rul
  repeat' split
  all_goals first | exact Or.inr (Or.inr rfl) | exact (bI_01 _).elim (fun h => Or.inl ⟨rfl, h⟩) (fun h => Or.inr (Or.inl ⟨rfl, h⟩))
theorem sq_isBasedOn (g : Nat → Int32) (s u : Int32) : (sp_isBasedOn g s u).1 = 0 ∧ (sp_isBasedOn g s u).2 = 0 ∨ (sp_isBasedOn g s u).1 = 0 ∧ (sp_isBasedOn g s u).2 = 1 ∨ (sp_isBasedOn g s u).1 = 1 := by
  unfold sp_isBasedOn
  repeat' split
  all_goals first | exact Or.inr (Or.inr rfl) | exact (bI_01 _).elim (fun h => Or.inl ⟨rfl, h⟩) (fun h => Or.inr (Or.inl ⟨rfl, h⟩))
section LAW
variable {G : GG} {M : Mm} {x F i k n : Nat} {B : BS}
theorem arm_3 {P : Int32 → Mm → Prop} (lv : LV F M x B) (hF : F + 10 < 2 ^ 30) (hi : i + 5 ≤ (gs G).2.1) (hN : (gs G).2.1 ≤ 2560) (hk : k + 2 ≤ 603072) (hn : n + 12 ≤ 7190633) (l6 l7 l8 : Value) (nx : Nx G (qi P nox) F x i k n) : WW G IL_law (qi P nox) 421 [.ref (gs G).1, .ref x, .ref (x + 350), .ref (x + 359), .ref (x + 360), .int (nI i), l6, l7, l8] [] M k n := by
  obtain ⟨q9, vq⟩ := lv.1.c1
  obtain ⟨cb, rb, fo, kl, ll, kd2, ll2⟩ := id lv
  refine r_aload_n (dk kL_law_p1 55 rfl) rfl ?_
  refine r_aload_n (dk kL_law_p1 56 rfl) rfl ?_
  refine r_iload (dk kL_law_p1 57 rfl) rfl ?_
  refine r_iconst (v := 1) (dk kL_law_p1 58 rfl) (by decide) ?_
  refine r_iadd (dk kL_law_p1 59 rfl) ?_
  refine r_sld (dk kL_law_p2 0 rfl) (sc_in (k := 1) (by omega) hN rfl) ?_
  refine r_aload_n (dk kL_law_p2 1 rfl) rfl ?_
  -- at 429
  refine r_callSX (I' := IL_cellOf) (as := [_, _, _]) (dk kL_law_p2 2 rfl) mh_cellOf ml_L_188 rfl rfl rfl (Nat.le_of_ble_eq_true rfl) ⟨by decide, by decide⟩ ⟨?_, ?_⟩ (hg_cellOf cb kl ll _ (k_X8_cellOf cb.o vq cb.i.1.1 _) (sq_cellOf _ _)) (fun _ _ z => z.elim) ?_
  · show k + 1 ≤ 603072
    omega
  · show n + 6 ≤ 7190633
    omega
  rintro v M1 ⟨y, hv, hy, fy, hj, cb1⟩
  subst hv
  show WW G IL_law _ 432 _ [.int y] M1 (k + 1) (n + 6)
  have rb1 := rb.fy fy (Nat.le_refl _)
  refine r_istore (dk kL_law_p2 3 rfl) (by decide) rfl ?_
  simp only [List.set_cons_succ, List.set_cons_zero]
  refine r_aload_n (dk kL_law_p2 4 rfl) rfl ?_
  refine r_aload_n (dk kL_law_p2 5 rfl) rfl ?_
  refine r_iload (dk kL_law_p2 6 rfl) rfl ?_
  refine r_iconst (v := 1) (dk kL_law_p2 7 rfl) (by decide) ?_
  refine r_iadd (dk kL_law_p2 8 rfl) ?_
  refine r_sld (dk kL_law_p2 9 rfl) (sc_in (k := 1) (by omega) hN rfl) ?_
  -- at 441
  refine r_callV (I' := IX9_cellOf) (as := [_]) (dk kL_law_p2 10 rfl) mv_X9_cellOf ml_L_190 rfl rfl rb1.o.1 rfl rfl (Nat.le_of_ble_eq_true rfl) ⟨by decide, by decide⟩ ⟨?_, ?_⟩ (m_of_sp rb1 (sp := sp_cellOf (bg B) _) (by have h9 := k_X9_cellOf (G := G) rb1.o (rb1.gi cb.i) ((gs G).2.2 (nI i + 1).toNatClampNeg); rw [rb1.g] at h9; exact h9)) (fun _ _ z => z.elim) ?_
  · show k + 1 + 0 ≤ 603072
    omega
  · show n + 6 + 0 ≤ 7190633
    omega
  rintro v M2 ⟨z, hv, mr, h8, hz, B2, be, rb2⟩
  subst hv
  show WW G IL_law _ 444 _ [.int z] M2 (k + 1) (n + 6)
  have lv2 := lv.step fy cb1 mr be rb2 (fo)
  refine r_istore (dk kL_law_p2 11 rfl) (by decide) rfl ?_
  simp only [List.set_cons_succ, List.set_cons_zero]
  refine r_aload_n (dk kL_law_p2 12 rfl) rfl ?_
  -- at 447
  refine r_callVp (I' := IX9_thrown) (as := []) (dk kL_law_p2 13 rfl) mv_X9_thrown ml_L_177 rfl rfl rb2.o.1 rfl rfl (Nat.le_of_ble_eq_true rfl) ⟨by decide, by decide⟩ ⟨rfl, rfl⟩ ⟨?_, ?_⟩ (k_X9_thrown rb2.o) ?_
  · show k + 1 ≤ 603072
    omega
  · show n + 6 ≤ 7190633
    omega
  refine r_iload (dk kL_law_p2 14 rfl) rfl ?_
  refine r_icmp_eq (tgt := 457) (dk kL_law_p2 15 rfl) (by decide) (fun c452 => ?_) (fun c452 => absurd (h8.trans hy.symm) c452)
  refine r_iload (dk kL_law_p2 18 rfl) rfl ?_
  -- at 459
  by_cases h0 : y = 0
  · have e9 : lg_cmp (mj M2 (x + 359) 0) z.toInt64 = 0 := by rw [mr.2.2.2.1, hj (hy.symm.trans h0), hz (hy.symm.trans h0)]; exact lg_cmp_self _
    refine r_if_ne (tgt := 474) (dk kL_law_p2 19 rfl) (by decide) (fun c459 => absurd c459 (not_not_intro h0)) (fun c459 => ?_)
    refine r_aload_n (dk kL_law_p2 20 rfl) rfl ?_
    refine r_iconst (v := 0) (dk kL_law_p2 21 rfl) (by decide) ?_
    refine r_lal (dk kL_law_p2 22 rfl) lv2.2.2.2.1 lv2.2.2.2.2.1 (j := 0) rfl (by decide) (by decide) ?_
    refine r_iload (dk kL_law_p2 23 rfl) rfl ?_
    refine r_i2l (dk kL_law_p2 24 rfl) ?_
    refine r_lcmp (dk kL_law_p2 25 rfl) ?_
    refine r_if_eq (tgt := 474) (dk kL_law_p2 26 rfl) (by decide) (fun c469 => ?_) (fun c469 => absurd e9 c469)
    refine r_goto (tgt := 3024) (dk kL_law_p2 29 rfl) (by decide) ?_
    -- at 3024
    exact nx _ _ _ _ _ _ _ _ lv2 (by omega) (by omega) (by omega)
  · refine r_if_ne (tgt := 474) (dk kL_law_p2 19 rfl) (by decide) (fun c459 => ?_) (fun c459 => absurd h0 c459)
    refine r_goto (tgt := 3024) (dk kL_law_p2 29 rfl) (by decide) ?_
    -- at 3024
    exact nx _ _ _ _ _ _ _ _ lv2 (by omega) (by omega) (by omega)
theorem arm_4 {P : Int32 → Mm → Prop} (lv : LV F M x B) (hF : F + 10 < 2 ^ 30) (hi : i + 5 ≤ (gs G).2.1) (hN : (gs G).2.1 ≤ 2560) (hk : k + 2 ≤ 603072) (hn : n + 12 ≤ 7190633) (l6 l7 l8 : Value) (nx : Nx G (qi P nox) F x i k n) : WW G IL_law (qi P nox) 477 [.ref (gs G).1, .ref x, .ref (x + 350), .ref (x + 359), .ref (x + 360), .int (nI i), l6, l7, l8] [] M k n := by
  obtain ⟨q9, vq⟩ := lv.1.c1
  obtain ⟨cb, rb, fo, kl, ll, kd2, ll2⟩ := id lv
  refine r_aload_n (dk kL_law_p2 30 rfl) rfl ?_
  refine r_aload_n (dk kL_law_p2 31 rfl) rfl ?_
  refine r_iload (dk kL_law_p2 32 rfl) rfl ?_
  refine r_iconst (v := 1) (dk kL_law_p2 33 rfl) (by decide) ?_
  refine r_iadd (dk kL_law_p2 34 rfl) ?_
  refine r_sld (dk kL_law_p2 35 rfl) (sc_in (k := 1) (by omega) hN rfl) ?_
  refine r_aload_n (dk kL_law_p2 36 rfl) rfl ?_
  -- at 485
  refine r_callSX (I' := IL_weightOf) (as := [_, _, _]) (dk kL_law_p2 37 rfl) mh_weightOf ml_L_191 rfl rfl rfl (Nat.le_of_ble_eq_true rfl) ⟨by decide, by decide⟩ ⟨?_, ?_⟩ (hg_weightOf cb kl ll _ (k_X8_weightOf cb.o vq cb.i.1.1 _) (sq_weightOf _ _)) (fun _ _ z => z.elim) ?_
  · show k + 1 ≤ 603072
    omega
  · show n + 6 ≤ 7190633
    omega
  rintro v M1 ⟨y, hv, hy, fy, hj, cb1⟩
  subst hv
  show WW G IL_law _ 488 _ [.int y] M1 (k + 1) (n + 6)
  have rb1 := rb.fy fy (Nat.le_refl _)
  refine r_istore (dk kL_law_p2 38 rfl) (by decide) rfl ?_
  simp only [List.set_cons_succ, List.set_cons_zero]
  refine r_aload_n (dk kL_law_p2 39 rfl) rfl ?_
  refine r_aload_n (dk kL_law_p2 40 rfl) rfl ?_
  refine r_iload (dk kL_law_p2 41 rfl) rfl ?_
  refine r_iconst (v := 1) (dk kL_law_p2 42 rfl) (by decide) ?_
  refine r_iadd (dk kL_law_p2 43 rfl) ?_
  refine r_sld (dk kL_law_p2 44 rfl) (sc_in (k := 1) (by omega) hN rfl) ?_
  -- at 497
  refine r_callV (I' := IX9_weightOf) (as := [_]) (dk kL_law_p2 45 rfl) mv_X9_weightOf ml_L_193 rfl rfl rb1.o.1 rfl rfl (Nat.le_of_ble_eq_true rfl) ⟨by decide, by decide⟩ ⟨?_, ?_⟩ (m_of_sp rb1 (sp := sp_weightOf (bg B) _) (by have h9 := k_X9_weightOf (G := G) rb1.o (rb1.gi cb.i) ((gs G).2.2 (nI i + 1).toNatClampNeg); rw [rb1.g] at h9; exact h9)) (fun _ _ z => z.elim) ?_
  · show k + 1 + 0 ≤ 603072
    omega
  · show n + 6 + 0 ≤ 7190633
    omega
  rintro v M2 ⟨z, hv, mr, h8, hz, B2, be, rb2⟩
  subst hv
  show WW G IL_law _ 500 _ [.int z] M2 (k + 1) (n + 6)
  have lv2 := lv.step fy cb1 mr be rb2 (fo)
  refine r_istore (dk kL_law_p2 46 rfl) (by decide) rfl ?_
  simp only [List.set_cons_succ, List.set_cons_zero]
  refine r_aload_n (dk kL_law_p2 47 rfl) rfl ?_
  -- at 503
  refine r_callVp (I' := IX9_thrown) (as := []) (dk kL_law_p2 48 rfl) mv_X9_thrown ml_L_177 rfl rfl rb2.o.1 rfl rfl (Nat.le_of_ble_eq_true rfl) ⟨by decide, by decide⟩ ⟨rfl, rfl⟩ ⟨?_, ?_⟩ (k_X9_thrown rb2.o) ?_
  · show k + 1 ≤ 603072
    omega
  · show n + 6 ≤ 7190633
    omega
  refine r_iload (dk kL_law_p2 49 rfl) rfl ?_
  refine r_icmp_eq (tgt := 513) (dk kL_law_p2 50 rfl) (by decide) (fun c508 => ?_) (fun c508 => absurd (h8.trans hy.symm) c508)
  refine r_iload (dk kL_law_p2 53 rfl) rfl ?_
  -- at 515
  by_cases h0 : y = 0
  · have e9 : lg_cmp (mj M2 (x + 359) 0) z.toInt64 = 0 := by rw [mr.2.2.2.1, hj (hy.symm.trans h0), hz (hy.symm.trans h0)]; exact lg_cmp_self _
    refine r_if_ne (tgt := 530) (dk kL_law_p2 54 rfl) (by decide) (fun c515 => absurd c515 (not_not_intro h0)) (fun c515 => ?_)
    refine r_aload_n (dk kL_law_p2 55 rfl) rfl ?_
    refine r_iconst (v := 0) (dk kL_law_p2 56 rfl) (by decide) ?_
    refine r_lal (dk kL_law_p2 57 rfl) lv2.2.2.2.1 lv2.2.2.2.2.1 (j := 0) rfl (by decide) (by decide) ?_
    refine r_iload (dk kL_law_p2 58 rfl) rfl ?_
    refine r_i2l (dk kL_law_p2 59 rfl) ?_
    refine r_lcmp (dk kL_law_p3 0 rfl) ?_
    refine r_if_eq (tgt := 530) (dk kL_law_p3 1 rfl) (by decide) (fun c525 => ?_) (fun c525 => absurd e9 c525)
    refine r_goto (tgt := 3024) (dk kL_law_p3 4 rfl) (by decide) ?_
    -- at 3024
    exact nx _ _ _ _ _ _ _ _ lv2 (by omega) (by omega) (by omega)
  · refine r_if_ne (tgt := 530) (dk kL_law_p2 54 rfl) (by decide) (fun c515 => ?_) (fun c515 => absurd h0 c515)
    refine r_goto (tgt := 3024) (dk kL_law_p3 4 rfl) (by decide) ?_
    -- at 3024
    exact nx _ _ _ _ _ _ _ _ lv2 (by omega) (by omega) (by omega)
theorem arm_5 {P : Int32 → Mm → Prop} (lv : LV F M x B) (hF : F + 10 < 2 ^ 30) (hi : i + 5 ≤ (gs G).2.1) (hN : (gs G).2.1 ≤ 2560) (hk : k + 2 ≤ 603072) (hn : n + 12 ≤ 7190633) (l6 l7 l8 : Value) (nx : Nx G (qi P nox) F x i k n) : WW G IL_law (qi P nox) 533 [.ref (gs G).1, .ref x, .ref (x + 350), .ref (x + 359), .ref (x + 360), .int (nI i), l6, l7, l8] [] M k n := by
  obtain ⟨q9, vq⟩ := lv.1.c1
  obtain ⟨cb, rb, fo, kl, ll, kd2, ll2⟩ := id lv
  refine r_aload_n (dk kL_law_p3 5 rfl) rfl ?_
  refine r_aload_n (dk kL_law_p3 6 rfl) rfl ?_
  refine r_iload (dk kL_law_p3 7 rfl) rfl ?_
  refine r_iconst (v := 1) (dk kL_law_p3 8 rfl) (by decide) ?_
  refine r_iadd (dk kL_law_p3 9 rfl) ?_
  refine r_sld (dk kL_law_p3 10 rfl) (sc_in (k := 1) (by omega) hN rfl) ?_
  refine r_aload_n (dk kL_law_p3 11 rfl) rfl ?_
  -- at 541
  refine r_callSX (I' := IL_stoneIn) (as := [_, _, _]) (dk kL_law_p3 12 rfl) mh_stoneIn ml_L_194 rfl rfl rfl (Nat.le_of_ble_eq_true rfl) ⟨by decide, by decide⟩ ⟨?_, ?_⟩ (hg_stoneIn cb kl ll _ (k_X8_stoneIn cb.o vq cb.i.1.1 _) (sq_stoneIn _ _)) (fun _ _ z => z.elim) ?_
  · show k + 1 ≤ 603072
    omega
  · show n + 6 ≤ 7190633
    omega
  rintro v M1 ⟨y, hv, hy, fy, hj, cb1⟩
  subst hv
  show WW G IL_law _ 544 _ [.int y] M1 (k + 1) (n + 6)
  have rb1 := rb.fy fy (Nat.le_refl _)
  refine r_istore (dk kL_law_p3 13 rfl) (by decide) rfl ?_
  simp only [List.set_cons_succ, List.set_cons_zero]
  refine r_aload_n (dk kL_law_p3 14 rfl) rfl ?_
  refine r_aload_n (dk kL_law_p3 15 rfl) rfl ?_
  refine r_iload (dk kL_law_p3 16 rfl) rfl ?_
  refine r_iconst (v := 1) (dk kL_law_p3 17 rfl) (by decide) ?_
  refine r_iadd (dk kL_law_p3 18 rfl) ?_
  refine r_sld (dk kL_law_p3 19 rfl) (sc_in (k := 1) (by omega) hN rfl) ?_
  -- at 553
  refine r_callV (I' := IX9_stoneIn) (as := [_]) (dk kL_law_p3 20 rfl) mv_X9_stoneIn ml_L_196 rfl rfl rb1.o.1 rfl rfl (Nat.le_of_ble_eq_true rfl) ⟨by decide, by decide⟩ ⟨?_, ?_⟩ (m_of_sp rb1 (sp := sp_stoneIn (bg B) _) (by have h9 := k_X9_stoneIn (G := G) rb1.o (rb1.gi cb.i) ((gs G).2.2 (nI i + 1).toNatClampNeg); rw [rb1.g] at h9; exact h9)) (fun _ _ z => z.elim) ?_
  · show k + 1 + 0 ≤ 603072
    omega
  · show n + 6 + 0 ≤ 7190633
    omega
  rintro v M2 ⟨z, hv, mr, h8, hz, B2, be, rb2⟩
  subst hv
  show WW G IL_law _ 556 _ [.int z] M2 (k + 1) (n + 6)
  have lv2 := lv.step fy cb1 mr be rb2 (fo)
  refine r_istore (dk kL_law_p3 21 rfl) (by decide) rfl ?_
  simp only [List.set_cons_succ, List.set_cons_zero]
  refine r_aload_n (dk kL_law_p3 22 rfl) rfl ?_
  -- at 559
  refine r_callVp (I' := IX9_thrown) (as := []) (dk kL_law_p3 23 rfl) mv_X9_thrown ml_L_177 rfl rfl rb2.o.1 rfl rfl (Nat.le_of_ble_eq_true rfl) ⟨by decide, by decide⟩ ⟨rfl, rfl⟩ ⟨?_, ?_⟩ (k_X9_thrown rb2.o) ?_
  · show k + 1 ≤ 603072
    omega
  · show n + 6 ≤ 7190633
    omega
  refine r_iload (dk kL_law_p3 24 rfl) rfl ?_
  refine r_icmp_eq (tgt := 569) (dk kL_law_p3 25 rfl) (by decide) (fun c564 => ?_) (fun c564 => absurd (h8.trans hy.symm) c564)
  refine r_iload (dk kL_law_p3 28 rfl) rfl ?_
  -- at 571
  by_cases h0 : y = 0
  · have e9 : lg_cmp (mj M2 (x + 359) 0) z.toInt64 = 0 := by rw [mr.2.2.2.1, hj (hy.symm.trans h0), hz (hy.symm.trans h0)]; exact lg_cmp_self _
    refine r_if_ne (tgt := 586) (dk kL_law_p3 29 rfl) (by decide) (fun c571 => absurd c571 (not_not_intro h0)) (fun c571 => ?_)
    refine r_aload_n (dk kL_law_p3 30 rfl) rfl ?_
    refine r_iconst (v := 0) (dk kL_law_p3 31 rfl) (by decide) ?_
    refine r_lal (dk kL_law_p3 32 rfl) lv2.2.2.2.1 lv2.2.2.2.2.1 (j := 0) rfl (by decide) (by decide) ?_
    refine r_iload (dk kL_law_p3 33 rfl) rfl ?_
    refine r_i2l (dk kL_law_p3 34 rfl) ?_
    refine r_lcmp (dk kL_law_p3 35 rfl) ?_
    refine r_if_eq (tgt := 586) (dk kL_law_p3 36 rfl) (by decide) (fun c581 => ?_) (fun c581 => absurd e9 c581)
    refine r_goto (tgt := 3024) (dk kL_law_p3 39 rfl) (by decide) ?_
    -- at 3024
    exact nx _ _ _ _ _ _ _ _ lv2 (by omega) (by omega) (by omega)
  · refine r_if_ne (tgt := 586) (dk kL_law_p3 29 rfl) (by decide) (fun c571 => ?_) (fun c571 => absurd h0 c571)
    refine r_goto (tgt := 3024) (dk kL_law_p3 39 rfl) (by decide) ?_
    -- at 3024
    exact nx _ _ _ _ _ _ _ _ lv2 (by omega) (by omega) (by omega)
theorem arm_7 {P : Int32 → Mm → Prop} (lv : LV F M x B) (hF : F + 10 < 2 ^ 30) (hi : i + 5 ≤ (gs G).2.1) (hN : (gs G).2.1 ≤ 2560) (hk : k + 2 ≤ 603072) (hn : n + 12 ≤ 7190633) (l6 l7 l8 : Value) (nx : Nx G (qi P nox) F x i k n) : WW G IL_law (qi P nox) 602 [.ref (gs G).1, .ref x, .ref (x + 350), .ref (x + 359), .ref (x + 360), .int (nI i), l6, l7, l8] [] M k n := by
  obtain ⟨q9, vq⟩ := lv.1.c1
  obtain ⟨cb, rb, fo, kl, ll, kd2, ll2⟩ := id lv
  refine r_aload_n (dk kL_law_p3 47 rfl) rfl ?_
  refine r_aload_n (dk kL_law_p3 48 rfl) rfl ?_
  refine r_iload (dk kL_law_p3 49 rfl) rfl ?_
  refine r_iconst (v := 1) (dk kL_law_p3 50 rfl) (by decide) ?_
  refine r_iadd (dk kL_law_p3 51 rfl) ?_
  refine r_sld (dk kL_law_p3 52 rfl) (sc_in (k := 1) (by omega) hN rfl) ?_
  refine r_aload_n (dk kL_law_p3 53 rfl) rfl ?_
  -- at 610
  refine r_callSX (I' := IL_rankOf) (as := [_, _, _]) (dk kL_law_p3 54 rfl) mh_rankOf ml_L_201 rfl rfl rfl (Nat.le_of_ble_eq_true rfl) ⟨by decide, by decide⟩ ⟨?_, ?_⟩ (hg_rankOf cb kl ll _ (k_X8_rankOf cb.o vq cb.i.1.1 _) (sq_rankOf _ _)) (fun _ _ z => z.elim) ?_
  · show k + 1 ≤ 603072
    omega
  · show n + 6 ≤ 7190633
    omega
  rintro v M1 ⟨y, hv, hy, fy, hj, cb1⟩
  subst hv
  show WW G IL_law _ 613 _ [.int y] M1 (k + 1) (n + 6)
  have rb1 := rb.fy fy (Nat.le_refl _)
  refine r_istore (dk kL_law_p3 55 rfl) (by decide) rfl ?_
  simp only [List.set_cons_succ, List.set_cons_zero]
  refine r_aload_n (dk kL_law_p3 56 rfl) rfl ?_
  refine r_aload_n (dk kL_law_p3 57 rfl) rfl ?_
  refine r_iload (dk kL_law_p3 58 rfl) rfl ?_
  refine r_iconst (v := 1) (dk kL_law_p3 59 rfl) (by decide) ?_
  refine r_iadd (dk kL_law_p4 0 rfl) ?_
  refine r_sld (dk kL_law_p4 1 rfl) (sc_in (k := 1) (by omega) hN rfl) ?_
  -- at 622
  refine r_callV (I' := IX9_rankOf) (as := [_]) (dk kL_law_p4 2 rfl) mv_X9_rankOf ml_L_203 rfl rfl rb1.o.1 rfl rfl (Nat.le_of_ble_eq_true rfl) ⟨by decide, by decide⟩ ⟨?_, ?_⟩ (m_of_sp rb1 (sp := sp_rankOf (bg B) _) (by have h9 := k_X9_rankOf (G := G) rb1.o (rb1.gi cb.i) ((gs G).2.2 (nI i + 1).toNatClampNeg); rw [rb1.g] at h9; exact h9)) (fun _ _ z => z.elim) ?_
  · show k + 1 + 0 ≤ 603072
    omega
  · show n + 6 + 0 ≤ 7190633
    omega
  rintro v M2 ⟨z, hv, mr, h8, hz, B2, be, rb2⟩
  subst hv
  show WW G IL_law _ 625 _ [.int z] M2 (k + 1) (n + 6)
  have lv2 := lv.step fy cb1 mr be rb2 (fo)
  refine r_istore (dk kL_law_p4 3 rfl) (by decide) rfl ?_
  simp only [List.set_cons_succ, List.set_cons_zero]
  refine r_aload_n (dk kL_law_p4 4 rfl) rfl ?_
  -- at 628
  refine r_callVp (I' := IX9_thrown) (as := []) (dk kL_law_p4 5 rfl) mv_X9_thrown ml_L_177 rfl rfl rb2.o.1 rfl rfl (Nat.le_of_ble_eq_true rfl) ⟨by decide, by decide⟩ ⟨rfl, rfl⟩ ⟨?_, ?_⟩ (k_X9_thrown rb2.o) ?_
  · show k + 1 ≤ 603072
    omega
  · show n + 6 ≤ 7190633
    omega
  refine r_iload (dk kL_law_p4 6 rfl) rfl ?_
  refine r_icmp_eq (tgt := 638) (dk kL_law_p4 7 rfl) (by decide) (fun c633 => ?_) (fun c633 => absurd (h8.trans hy.symm) c633)
  refine r_iload (dk kL_law_p4 10 rfl) rfl ?_
  -- at 640
  by_cases h0 : y = 0
  · have e9 : lg_cmp (mj M2 (x + 359) 0) z.toInt64 = 0 := by rw [mr.2.2.2.1, hj (hy.symm.trans h0), hz (hy.symm.trans h0)]; exact lg_cmp_self _
    refine r_if_ne (tgt := 655) (dk kL_law_p4 11 rfl) (by decide) (fun c640 => absurd c640 (not_not_intro h0)) (fun c640 => ?_)
    refine r_aload_n (dk kL_law_p4 12 rfl) rfl ?_
    refine r_iconst (v := 0) (dk kL_law_p4 13 rfl) (by decide) ?_
    refine r_lal (dk kL_law_p4 14 rfl) lv2.2.2.2.1 lv2.2.2.2.2.1 (j := 0) rfl (by decide) (by decide) ?_
    refine r_iload (dk kL_law_p4 15 rfl) rfl ?_
    refine r_i2l (dk kL_law_p4 16 rfl) ?_
    refine r_lcmp (dk kL_law_p4 17 rfl) ?_
    refine r_if_eq (tgt := 655) (dk kL_law_p4 18 rfl) (by decide) (fun c650 => ?_) (fun c650 => absurd e9 c650)
    refine r_goto (tgt := 3024) (dk kL_law_p4 21 rfl) (by decide) ?_
    -- at 3024
    exact nx _ _ _ _ _ _ _ _ lv2 (by omega) (by omega) (by omega)
  · refine r_if_ne (tgt := 655) (dk kL_law_p4 11 rfl) (by decide) (fun c640 => ?_) (fun c640 => absurd h0 c640)
    refine r_goto (tgt := 3024) (dk kL_law_p4 21 rfl) (by decide) ?_
    -- at 3024
    exact nx _ _ _ _ _ _ _ _ lv2 (by omega) (by omega) (by omega)
theorem arm_8 {P : Int32 → Mm → Prop} (lv : LV F M x B) (hF : F + 10 < 2 ^ 30) (hi : i + 5 ≤ (gs G).2.1) (hN : (gs G).2.1 ≤ 2560) (hk : k + 2 ≤ 603072) (hn : n + 12 ≤ 7190633) (l6 l7 l8 : Value) (nx : Nx G (qi P nox) F x i k n) : WW G IL_law (qi P nox) 658 [.ref (gs G).1, .ref x, .ref (x + 350), .ref (x + 359), .ref (x + 360), .int (nI i), l6, l7, l8] [] M k n := by
  obtain ⟨q9, vq⟩ := lv.1.c1
  obtain ⟨cb, rb, fo, kl, ll, kd2, ll2⟩ := id lv
  refine r_aload_n (dk kL_law_p4 22 rfl) rfl ?_
  refine r_aload_n (dk kL_law_p4 23 rfl) rfl ?_
  refine r_iload (dk kL_law_p4 24 rfl) rfl ?_
  refine r_iconst (v := 1) (dk kL_law_p4 25 rfl) (by decide) ?_
  refine r_iadd (dk kL_law_p4 26 rfl) ?_
  refine r_sld (dk kL_law_p4 27 rfl) (sc_in (k := 1) (by omega) hN rfl) ?_
  refine r_aload_n (dk kL_law_p4 28 rfl) rfl ?_
  -- at 666
  refine r_callSX (I' := IL_petitionsOf) (as := [_, _, _]) (dk kL_law_p4 29 rfl) mh_petitionsOf ml_L_204 rfl rfl rfl (Nat.le_of_ble_eq_true rfl) ⟨by decide, by decide⟩ ⟨?_, ?_⟩ (hg_petitionsOf cb kl ll _ (k_X8_petitionsOf cb.o vq cb.i.1.1 _) (sq_petitionsOf _ _)) (fun _ _ z => z.elim) ?_
  · show k + 1 ≤ 603072
    omega
  · show n + 6 ≤ 7190633
    omega
  rintro v M1 ⟨y, hv, hy, fy, hj, cb1⟩
  subst hv
  show WW G IL_law _ 669 _ [.int y] M1 (k + 1) (n + 6)
  have rb1 := rb.fy fy (Nat.le_refl _)
  refine r_istore (dk kL_law_p4 30 rfl) (by decide) rfl ?_
  simp only [List.set_cons_succ, List.set_cons_zero]
  refine r_aload_n (dk kL_law_p4 31 rfl) rfl ?_
  refine r_aload_n (dk kL_law_p4 32 rfl) rfl ?_
  refine r_iload (dk kL_law_p4 33 rfl) rfl ?_
  refine r_iconst (v := 1) (dk kL_law_p4 34 rfl) (by decide) ?_
  refine r_iadd (dk kL_law_p4 35 rfl) ?_
  refine r_sld (dk kL_law_p4 36 rfl) (sc_in (k := 1) (by omega) hN rfl) ?_
  -- at 678
  refine r_callV (I' := IX9_petitionsOf) (as := [_]) (dk kL_law_p4 37 rfl) mv_X9_petitionsOf ml_L_206 rfl rfl rb1.o.1 rfl rfl (Nat.le_of_ble_eq_true rfl) ⟨by decide, by decide⟩ ⟨?_, ?_⟩ (m_of_sp rb1 (sp := sp_petitionsOf (bg B) _) (by have h9 := k_X9_petitionsOf (G := G) rb1.o (rb1.gi cb.i) ((gs G).2.2 (nI i + 1).toNatClampNeg); rw [rb1.g] at h9; exact h9)) (fun _ _ z => z.elim) ?_
  · show k + 1 + 0 ≤ 603072
    omega
  · show n + 6 + 0 ≤ 7190633
    omega
  rintro v M2 ⟨z, hv, mr, h8, hz, B2, be, rb2⟩
  subst hv
  show WW G IL_law _ 681 _ [.int z] M2 (k + 1) (n + 6)
  have lv2 := lv.step fy cb1 mr be rb2 (fo)
  refine r_istore (dk kL_law_p4 38 rfl) (by decide) rfl ?_
  simp only [List.set_cons_succ, List.set_cons_zero]
  refine r_aload_n (dk kL_law_p4 39 rfl) rfl ?_
  -- at 684
  refine r_callVp (I' := IX9_thrown) (as := []) (dk kL_law_p4 40 rfl) mv_X9_thrown ml_L_177 rfl rfl rb2.o.1 rfl rfl (Nat.le_of_ble_eq_true rfl) ⟨by decide, by decide⟩ ⟨rfl, rfl⟩ ⟨?_, ?_⟩ (k_X9_thrown rb2.o) ?_
  · show k + 1 ≤ 603072
    omega
  · show n + 6 ≤ 7190633
    omega
  refine r_iload (dk kL_law_p4 41 rfl) rfl ?_
  refine r_icmp_eq (tgt := 694) (dk kL_law_p4 42 rfl) (by decide) (fun c689 => ?_) (fun c689 => absurd (h8.trans hy.symm) c689)
  refine r_iload (dk kL_law_p4 45 rfl) rfl ?_
  -- at 696
  by_cases h0 : y = 0
  · have e9 : lg_cmp (mj M2 (x + 359) 0) z.toInt64 = 0 := by rw [mr.2.2.2.1, hj (hy.symm.trans h0), hz (hy.symm.trans h0)]; exact lg_cmp_self _
    refine r_if_ne (tgt := 711) (dk kL_law_p4 46 rfl) (by decide) (fun c696 => absurd c696 (not_not_intro h0)) (fun c696 => ?_)
    refine r_aload_n (dk kL_law_p4 47 rfl) rfl ?_
    refine r_iconst (v := 0) (dk kL_law_p4 48 rfl) (by decide) ?_
    refine r_lal (dk kL_law_p4 49 rfl) lv2.2.2.2.1 lv2.2.2.2.2.1 (j := 0) rfl (by decide) (by decide) ?_
    refine r_iload (dk kL_law_p4 50 rfl) rfl ?_
    refine r_i2l (dk kL_law_p4 51 rfl) ?_
    refine r_lcmp (dk kL_law_p4 52 rfl) ?_
    refine r_if_eq (tgt := 711) (dk kL_law_p4 53 rfl) (by decide) (fun c706 => ?_) (fun c706 => absurd e9 c706)
    refine r_goto (tgt := 3024) (dk kL_law_p4 56 rfl) (by decide) ?_
    -- at 3024
    exact nx _ _ _ _ _ _ _ _ lv2 (by omega) (by omega) (by omega)
  · refine r_if_ne (tgt := 711) (dk kL_law_p4 46 rfl) (by decide) (fun c696 => ?_) (fun c696 => absurd h0 c696)
    refine r_goto (tgt := 3024) (dk kL_law_p4 56 rfl) (by decide) ?_
    -- at 3024
    exact nx _ _ _ _ _ _ _ _ lv2 (by omega) (by omega) (by omega)
theorem arm_15 {P : Int32 → Mm → Prop} (lv : LV F M x B) (hF : F + 10 < 2 ^ 30) (hi : i + 5 ≤ (gs G).2.1) (hN : (gs G).2.1 ≤ 2560) (hk : k + 2 ≤ 603072) (hn : n + 12 ≤ 7190633) (l6 l7 l8 : Value) (nx : Nx G (qi P nox) F x i k n) : WW G IL_law (qi P nox) 1107 [.ref (gs G).1, .ref x, .ref (x + 350), .ref (x + 359), .ref (x + 360), .int (nI i), l6, l7, l8] [] M k n := by
  obtain ⟨q9, vq⟩ := lv.1.c1
  obtain ⟨cb, rb, fo, kl, ll, kd2, ll2⟩ := id lv
  refine r_aload_n (dk kL_law_p9 17 rfl) rfl ?_
  refine r_aload_n (dk kL_law_p9 18 rfl) rfl ?_
  refine r_iload (dk kL_law_p9 19 rfl) rfl ?_
  refine r_iconst (v := 1) (dk kL_law_p9 20 rfl) (by decide) ?_
  refine r_iadd (dk kL_law_p9 21 rfl) ?_
  refine r_sld (dk kL_law_p9 22 rfl) (sc_in (k := 1) (by omega) hN rfl) ?_
  refine r_aload_n (dk kL_law_p9 23 rfl) rfl ?_
  -- at 1115
  refine r_callSX (I' := IL_petitionAt) (as := [_, _, _]) (dk kL_law_p9 24 rfl) mh_petitionAt ml_L_228 rfl rfl rfl (Nat.le_of_ble_eq_true rfl) ⟨by decide, by decide⟩ ⟨?_, ?_⟩ (hg_petitionAt cb kl ll _ (k_X8_petitionAt cb.o vq cb.i.1.1 _) (sq_petitionAt _ _)) (fun _ _ z => z.elim) ?_
  · show k + 1 ≤ 603072
    omega
  · show n + 6 ≤ 7190633
    omega
  rintro v M1 ⟨y, hv, hy, fy, hj, cb1⟩
  subst hv
  show WW G IL_law _ 1118 _ [.int y] M1 (k + 1) (n + 6)
  have rb1 := rb.fy fy (Nat.le_refl _)
  refine r_istore (dk kL_law_p9 25 rfl) (by decide) rfl ?_
  simp only [List.set_cons_succ, List.set_cons_zero]
  refine r_aload_n (dk kL_law_p9 26 rfl) rfl ?_
  refine r_aload_n (dk kL_law_p9 27 rfl) rfl ?_
  refine r_iload (dk kL_law_p9 28 rfl) rfl ?_
  refine r_iconst (v := 1) (dk kL_law_p9 29 rfl) (by decide) ?_
  refine r_iadd (dk kL_law_p9 30 rfl) ?_
  refine r_sld (dk kL_law_p9 31 rfl) (sc_in (k := 1) (by omega) hN rfl) ?_
  -- at 1127
  refine r_callV (I' := IX9_petitionAt) (as := [_]) (dk kL_law_p9 32 rfl) mv_X9_petitionAt ml_L_230 rfl rfl rb1.o.1 rfl rfl (Nat.le_of_ble_eq_true rfl) ⟨by decide, by decide⟩ ⟨?_, ?_⟩ (m_of_sp rb1 (sp := sp_petitionAt (bg B) _) (by have h9 := k_X9_petitionAt (G := G) rb1.o (rb1.gi cb.i) ((gs G).2.2 (nI i + 1).toNatClampNeg); rw [rb1.g] at h9; exact h9)) (fun _ _ z => z.elim) ?_
  · show k + 1 + 0 ≤ 603072
    omega
  · show n + 6 + 0 ≤ 7190633
    omega
  rintro v M2 ⟨z, hv, mr, h8, hz, B2, be, rb2⟩
  subst hv
  show WW G IL_law _ 1130 _ [.int z] M2 (k + 1) (n + 6)
  have lv2 := lv.step fy cb1 mr be rb2 (fo)
  refine r_istore (dk kL_law_p9 33 rfl) (by decide) rfl ?_
  simp only [List.set_cons_succ, List.set_cons_zero]
  refine r_aload_n (dk kL_law_p9 34 rfl) rfl ?_
  -- at 1133
  refine r_callVp (I' := IX9_thrown) (as := []) (dk kL_law_p9 35 rfl) mv_X9_thrown ml_L_177 rfl rfl rb2.o.1 rfl rfl (Nat.le_of_ble_eq_true rfl) ⟨by decide, by decide⟩ ⟨rfl, rfl⟩ ⟨?_, ?_⟩ (k_X9_thrown rb2.o) ?_
  · show k + 1 ≤ 603072
    omega
  · show n + 6 ≤ 7190633
    omega
  refine r_iload (dk kL_law_p9 36 rfl) rfl ?_
  refine r_icmp_eq (tgt := 1143) (dk kL_law_p9 37 rfl) (by decide) (fun c1138 => ?_) (fun c1138 => absurd (h8.trans hy.symm) c1138)
  refine r_iload (dk kL_law_p9 40 rfl) rfl ?_
  -- at 1145
  by_cases h0 : y = 0
  · have e9 : lg_cmp (mj M2 (x + 359) 0) z.toInt64 = 0 := by rw [mr.2.2.2.1, hj (hy.symm.trans h0), hz (hy.symm.trans h0)]; exact lg_cmp_self _
    refine r_if_ne (tgt := 1160) (dk kL_law_p9 41 rfl) (by decide) (fun c1145 => absurd c1145 (not_not_intro h0)) (fun c1145 => ?_)
    refine r_aload_n (dk kL_law_p9 42 rfl) rfl ?_
    refine r_iconst (v := 0) (dk kL_law_p9 43 rfl) (by decide) ?_
    refine r_lal (dk kL_law_p9 44 rfl) lv2.2.2.2.1 lv2.2.2.2.2.1 (j := 0) rfl (by decide) (by decide) ?_
    refine r_iload (dk kL_law_p9 45 rfl) rfl ?_
    refine r_i2l (dk kL_law_p9 46 rfl) ?_
    refine r_lcmp (dk kL_law_p9 47 rfl) ?_
    refine r_if_eq (tgt := 1160) (dk kL_law_p9 48 rfl) (by decide) (fun c1155 => ?_) (fun c1155 => absurd e9 c1155)
    refine r_goto (tgt := 3024) (dk kL_law_p9 51 rfl) (by decide) ?_
    -- at 3024
    exact nx _ _ _ _ _ _ _ _ lv2 (by omega) (by omega) (by omega)
  · refine r_if_ne (tgt := 1160) (dk kL_law_p9 41 rfl) (by decide) (fun c1145 => ?_) (fun c1145 => absurd h0 c1145)
    refine r_goto (tgt := 3024) (dk kL_law_p9 51 rfl) (by decide) ?_
    -- at 3024
    exact nx _ _ _ _ _ _ _ _ lv2 (by omega) (by omega) (by omega)
theorem arm_16 {P : Int32 → Mm → Prop} (lv : LV F M x B) (hF : F + 10 < 2 ^ 30) (hi : i + 5 ≤ (gs G).2.1) (hN : (gs G).2.1 ≤ 2560) (hk : k + 2 ≤ 603072) (hn : n + 12 ≤ 7190633) (l6 l7 l8 : Value) (nx : Nx G (qi P nox) F x i k n) : WW G IL_law (qi P nox) 1163 [.ref (gs G).1, .ref x, .ref (x + 350), .ref (x + 359), .ref (x + 360), .int (nI i), l6, l7, l8] [] M k n := by
  obtain ⟨q9, vq⟩ := lv.1.c1
  obtain ⟨cb, rb, fo, kl, ll, kd2, ll2⟩ := id lv
  refine r_aload_n (dk kL_law_p9 52 rfl) rfl ?_
  refine r_aload_n (dk kL_law_p9 53 rfl) rfl ?_
  refine r_iload (dk kL_law_p9 54 rfl) rfl ?_
  refine r_iconst (v := 1) (dk kL_law_p9 55 rfl) (by decide) ?_
  refine r_iadd (dk kL_law_p9 56 rfl) ?_
  refine r_sld (dk kL_law_p9 57 rfl) (sc_in (k := 1) (by omega) hN rfl) ?_
  refine r_aload_n (dk kL_law_p9 58 rfl) rfl ?_
  -- at 1171
  refine r_callSX (I' := IL_positionOf) (as := [_, _, _]) (dk kL_law_p9 59 rfl) mh_positionOf ml_L_231 rfl rfl rfl (Nat.le_of_ble_eq_true rfl) ⟨by decide, by decide⟩ ⟨?_, ?_⟩ (hg_positionOf cb kl ll _ (k_X8_positionOf cb.o vq cb.i.1.1 _) (sq_positionOf _ _)) (fun _ _ z => z.elim) ?_
  · show k + 1 ≤ 603072
    omega
  · show n + 6 ≤ 7190633
    omega
  rintro v M1 ⟨y, hv, hy, fy, hj, cb1⟩
  subst hv
  show WW G IL_law _ 1174 _ [.int y] M1 (k + 1) (n + 6)
  have rb1 := rb.fy fy (Nat.le_refl _)
  refine r_istore (dk kL_law_p10 0 rfl) (by decide) rfl ?_
  simp only [List.set_cons_succ, List.set_cons_zero]
  refine r_aload_n (dk kL_law_p10 1 rfl) rfl ?_
  refine r_aload_n (dk kL_law_p10 2 rfl) rfl ?_
  refine r_iload (dk kL_law_p10 3 rfl) rfl ?_
  refine r_iconst (v := 1) (dk kL_law_p10 4 rfl) (by decide) ?_
  refine r_iadd (dk kL_law_p10 5 rfl) ?_
  refine r_sld (dk kL_law_p10 6 rfl) (sc_in (k := 1) (by omega) hN rfl) ?_
  -- at 1183
  refine r_callV (I' := IX9_positionOf) (as := [_]) (dk kL_law_p10 7 rfl) mv_X9_positionOf ml_L_233 rfl rfl rb1.o.1 rfl rfl (Nat.le_of_ble_eq_true rfl) ⟨by decide, by decide⟩ ⟨?_, ?_⟩ (m_of_sp rb1 (sp := sp_positionOf (bg B) _) (by have h9 := k_X9_positionOf (G := G) rb1.o (rb1.gi cb.i) ((gs G).2.2 (nI i + 1).toNatClampNeg); rw [rb1.g] at h9; exact h9)) (fun _ _ z => z.elim) ?_
  · show k + 1 + 0 ≤ 603072
    omega
  · show n + 6 + 0 ≤ 7190633
    omega
  rintro v M2 ⟨z, hv, mr, h8, hz, B2, be, rb2⟩
  subst hv
  show WW G IL_law _ 1186 _ [.int z] M2 (k + 1) (n + 6)
  have lv2 := lv.step fy cb1 mr be rb2 (fo)
  refine r_istore (dk kL_law_p10 8 rfl) (by decide) rfl ?_
  simp only [List.set_cons_succ, List.set_cons_zero]
  refine r_aload_n (dk kL_law_p10 9 rfl) rfl ?_
  -- at 1189
  refine r_callVp (I' := IX9_thrown) (as := []) (dk kL_law_p10 10 rfl) mv_X9_thrown ml_L_177 rfl rfl rb2.o.1 rfl rfl (Nat.le_of_ble_eq_true rfl) ⟨by decide, by decide⟩ ⟨rfl, rfl⟩ ⟨?_, ?_⟩ (k_X9_thrown rb2.o) ?_
  · show k + 1 ≤ 603072
    omega
  · show n + 6 ≤ 7190633
    omega
  refine r_iload (dk kL_law_p10 11 rfl) rfl ?_
  refine r_icmp_eq (tgt := 1199) (dk kL_law_p10 12 rfl) (by decide) (fun c1194 => ?_) (fun c1194 => absurd (h8.trans hy.symm) c1194)
  refine r_iload (dk kL_law_p10 15 rfl) rfl ?_
  -- at 1201
  by_cases h0 : y = 0
  · have e9 : lg_cmp (mj M2 (x + 359) 0) z.toInt64 = 0 := by rw [mr.2.2.2.1, hj (hy.symm.trans h0), hz (hy.symm.trans h0)]; exact lg_cmp_self _
    refine r_if_ne (tgt := 1216) (dk kL_law_p10 16 rfl) (by decide) (fun c1201 => absurd c1201 (not_not_intro h0)) (fun c1201 => ?_)
    refine r_aload_n (dk kL_law_p10 17 rfl) rfl ?_
    refine r_iconst (v := 0) (dk kL_law_p10 18 rfl) (by decide) ?_
    refine r_lal (dk kL_law_p10 19 rfl) lv2.2.2.2.1 lv2.2.2.2.2.1 (j := 0) rfl (by decide) (by decide) ?_
    refine r_iload (dk kL_law_p10 20 rfl) rfl ?_
    refine r_i2l (dk kL_law_p10 21 rfl) ?_
    refine r_lcmp (dk kL_law_p10 22 rfl) ?_
    refine r_if_eq (tgt := 1216) (dk kL_law_p10 23 rfl) (by decide) (fun c1211 => ?_) (fun c1211 => absurd e9 c1211)
    refine r_goto (tgt := 3024) (dk kL_law_p10 26 rfl) (by decide) ?_
    -- at 3024
    exact nx _ _ _ _ _ _ _ _ lv2 (by omega) (by omega) (by omega)
  · refine r_if_ne (tgt := 1216) (dk kL_law_p10 16 rfl) (by decide) (fun c1201 => ?_) (fun c1201 => absurd h0 c1201)
    refine r_goto (tgt := 3024) (dk kL_law_p10 26 rfl) (by decide) ?_
    -- at 3024
    exact nx _ _ _ _ _ _ _ _ lv2 (by omega) (by omega) (by omega)
theorem arm_17 {P : Int32 → Mm → Prop} (lv : LV F M x B) (hF : F + 10 < 2 ^ 30) (hi : i + 5 ≤ (gs G).2.1) (hN : (gs G).2.1 ≤ 2560) (hk : k + 2 ≤ 603072) (hn : n + 12 ≤ 7190633) (l6 l7 l8 : Value) (nx : Nx G (qi P nox) F x i k n) : WW G IL_law (qi P nox) 1219 [.ref (gs G).1, .ref x, .ref (x + 350), .ref (x + 359), .ref (x + 360), .int (nI i), l6, l7, l8] [] M k n := by
  obtain ⟨q9, vq⟩ := lv.1.c1
  obtain ⟨cb, rb, fo, kl, ll, kd2, ll2⟩ := id lv
  refine r_aload_n (dk kL_law_p10 27 rfl) rfl ?_
  refine r_aload_n (dk kL_law_p10 28 rfl) rfl ?_
  refine r_iload (dk kL_law_p10 29 rfl) rfl ?_
  refine r_iconst (v := 1) (dk kL_law_p10 30 rfl) (by decide) ?_
  refine r_iadd (dk kL_law_p10 31 rfl) ?_
  refine r_sld (dk kL_law_p10 32 rfl) (sc_in (k := 1) (by omega) hN rfl) ?_
  refine r_aload_n (dk kL_law_p10 33 rfl) rfl ?_
  -- at 1227
  refine r_callSX (I' := IL_stoneOf) (as := [_, _, _]) (dk kL_law_p10 34 rfl) mh_stoneOf ml_L_234 rfl rfl rfl (Nat.le_of_ble_eq_true rfl) ⟨by decide, by decide⟩ ⟨?_, ?_⟩ (hg_stoneOf cb kl ll _ (k_X8_stoneOf cb.o vq cb.i.1.1 _) (sq_stoneOf _ _)) (fun _ _ z => z.elim) ?_
  · show k + 1 ≤ 603072
    omega
  · show n + 6 ≤ 7190633
    omega
  rintro v M1 ⟨y, hv, hy, fy, hj, cb1⟩
  subst hv
  show WW G IL_law _ 1230 _ [.int y] M1 (k + 1) (n + 6)
  have rb1 := rb.fy fy (Nat.le_refl _)
  refine r_istore (dk kL_law_p10 35 rfl) (by decide) rfl ?_
  simp only [List.set_cons_succ, List.set_cons_zero]
  refine r_aload_n (dk kL_law_p10 36 rfl) rfl ?_
  refine r_aload_n (dk kL_law_p10 37 rfl) rfl ?_
  refine r_iload (dk kL_law_p10 38 rfl) rfl ?_
  refine r_iconst (v := 1) (dk kL_law_p10 39 rfl) (by decide) ?_
  refine r_iadd (dk kL_law_p10 40 rfl) ?_
  refine r_sld (dk kL_law_p10 41 rfl) (sc_in (k := 1) (by omega) hN rfl) ?_
  -- at 1239
  refine r_callV (I' := IX9_stoneOf) (as := [_]) (dk kL_law_p10 42 rfl) mv_X9_stoneOf ml_L_236 rfl rfl rb1.o.1 rfl rfl (Nat.le_of_ble_eq_true rfl) ⟨by decide, by decide⟩ ⟨?_, ?_⟩ (m_of_sp rb1 (sp := sp_stoneOf (bg B) _) (by have h9 := k_X9_stoneOf (G := G) rb1.o (rb1.gi cb.i) ((gs G).2.2 (nI i + 1).toNatClampNeg); rw [rb1.g] at h9; exact h9)) (fun _ _ z => z.elim) ?_
  · show k + 1 + 0 ≤ 603072
    omega
  · show n + 6 + 0 ≤ 7190633
    omega
  rintro v M2 ⟨z, hv, mr, h8, hz, B2, be, rb2⟩
  subst hv
  show WW G IL_law _ 1242 _ [.int z] M2 (k + 1) (n + 6)
  have lv2 := lv.step fy cb1 mr be rb2 (fo)
  refine r_istore (dk kL_law_p10 43 rfl) (by decide) rfl ?_
  simp only [List.set_cons_succ, List.set_cons_zero]
  refine r_aload_n (dk kL_law_p10 44 rfl) rfl ?_
  -- at 1245
  refine r_callVp (I' := IX9_thrown) (as := []) (dk kL_law_p10 45 rfl) mv_X9_thrown ml_L_177 rfl rfl rb2.o.1 rfl rfl (Nat.le_of_ble_eq_true rfl) ⟨by decide, by decide⟩ ⟨rfl, rfl⟩ ⟨?_, ?_⟩ (k_X9_thrown rb2.o) ?_
  · show k + 1 ≤ 603072
    omega
  · show n + 6 ≤ 7190633
    omega
  refine r_iload (dk kL_law_p10 46 rfl) rfl ?_
  refine r_icmp_eq (tgt := 1255) (dk kL_law_p10 47 rfl) (by decide) (fun c1250 => ?_) (fun c1250 => absurd (h8.trans hy.symm) c1250)
  refine r_iload (dk kL_law_p10 50 rfl) rfl ?_
  -- at 1257
  by_cases h0 : y = 0
  · have e9 : lg_cmp (mj M2 (x + 359) 0) z.toInt64 = 0 := by rw [mr.2.2.2.1, hj (hy.symm.trans h0), hz (hy.symm.trans h0)]; exact lg_cmp_self _
    refine r_if_ne (tgt := 1272) (dk kL_law_p10 51 rfl) (by decide) (fun c1257 => absurd c1257 (not_not_intro h0)) (fun c1257 => ?_)
    refine r_aload_n (dk kL_law_p10 52 rfl) rfl ?_
    refine r_iconst (v := 0) (dk kL_law_p10 53 rfl) (by decide) ?_
    refine r_lal (dk kL_law_p10 54 rfl) lv2.2.2.2.1 lv2.2.2.2.2.1 (j := 0) rfl (by decide) (by decide) ?_
    refine r_iload (dk kL_law_p10 55 rfl) rfl ?_
    refine r_i2l (dk kL_law_p10 56 rfl) ?_
    refine r_lcmp (dk kL_law_p10 57 rfl) ?_
    refine r_if_eq (tgt := 1272) (dk kL_law_p10 58 rfl) (by decide) (fun c1267 => ?_) (fun c1267 => absurd e9 c1267)
    refine r_goto (tgt := 3024) (dk kL_law_p11 1 rfl) (by decide) ?_
    -- at 3024
    exact nx _ _ _ _ _ _ _ _ lv2 (by omega) (by omega) (by omega)
  · refine r_if_ne (tgt := 1272) (dk kL_law_p10 51 rfl) (by decide) (fun c1257 => ?_) (fun c1257 => absurd h0 c1257)
    refine r_goto (tgt := 3024) (dk kL_law_p11 1 rfl) (by decide) ?_
    -- at 3024
    exact nx _ _ _ _ _ _ _ _ lv2 (by omega) (by omega) (by omega)
theorem arm_18 {P : Int32 → Mm → Prop} (lv : LV F M x B) (hF : F + 10 < 2 ^ 30) (hi : i + 5 ≤ (gs G).2.1) (hN : (gs G).2.1 ≤ 2560) (hk : k + 2 ≤ 603072) (hn : n + 12 ≤ 7190633) (l6 l7 l8 : Value) (nx : Nx G (qi P nox) F x i k n) : WW G IL_law (qi P nox) 1275 [.ref (gs G).1, .ref x, .ref (x + 350), .ref (x + 359), .ref (x + 360), .int (nI i), l6, l7, l8] [] M k n := by
  obtain ⟨q9, vq⟩ := lv.1.c1
  obtain ⟨cb, rb, fo, kl, ll, kd2, ll2⟩ := id lv
  refine r_aload_n (dk kL_law_p11 2 rfl) rfl ?_
  refine r_aload_n (dk kL_law_p11 3 rfl) rfl ?_
  refine r_iload (dk kL_law_p11 4 rfl) rfl ?_
  refine r_iconst (v := 1) (dk kL_law_p11 5 rfl) (by decide) ?_
  refine r_iadd (dk kL_law_p11 6 rfl) ?_
  refine r_sld (dk kL_law_p11 7 rfl) (sc_in (k := 1) (by omega) hN rfl) ?_
  refine r_aload_n (dk kL_law_p11 8 rfl) rfl ?_
  -- at 1283
  refine r_callSX (I' := IL_targetOf) (as := [_, _, _]) (dk kL_law_p11 9 rfl) mh_targetOf ml_L_237 rfl rfl rfl (Nat.le_of_ble_eq_true rfl) ⟨by decide, by decide⟩ ⟨?_, ?_⟩ (hg_targetOf cb kl ll _ (k_X8_targetOf cb.o vq cb.i.1.1 _) (sq_targetOf _ _)) (fun _ _ z => z.elim) ?_
  · show k + 1 ≤ 603072
    omega
  · show n + 6 ≤ 7190633
    omega
  rintro v M1 ⟨y, hv, hy, fy, hj, cb1⟩
  subst hv
  show WW G IL_law _ 1286 _ [.int y] M1 (k + 1) (n + 6)
  have rb1 := rb.fy fy (Nat.le_refl _)
  refine r_istore (dk kL_law_p11 10 rfl) (by decide) rfl ?_
  simp only [List.set_cons_succ, List.set_cons_zero]
  refine r_aload_n (dk kL_law_p11 11 rfl) rfl ?_
  refine r_aload_n (dk kL_law_p11 12 rfl) rfl ?_
  refine r_iload (dk kL_law_p11 13 rfl) rfl ?_
  refine r_iconst (v := 1) (dk kL_law_p11 14 rfl) (by decide) ?_
  refine r_iadd (dk kL_law_p11 15 rfl) ?_
  refine r_sld (dk kL_law_p11 16 rfl) (sc_in (k := 1) (by omega) hN rfl) ?_
  -- at 1295
  refine r_callV (I' := IX9_targetOf) (as := [_]) (dk kL_law_p11 17 rfl) mv_X9_targetOf ml_L_239 rfl rfl rb1.o.1 rfl rfl (Nat.le_of_ble_eq_true rfl) ⟨by decide, by decide⟩ ⟨?_, ?_⟩ (m_of_sp rb1 (sp := sp_targetOf (bg B) _) (by have h9 := k_X9_targetOf (G := G) rb1.o (rb1.gi cb.i) ((gs G).2.2 (nI i + 1).toNatClampNeg); rw [rb1.g] at h9; exact h9)) (fun _ _ z => z.elim) ?_
  · show k + 1 + 0 ≤ 603072
    omega
  · show n + 6 + 0 ≤ 7190633
    omega
  rintro v M2 ⟨z, hv, mr, h8, hz, B2, be, rb2⟩
  subst hv
  show WW G IL_law _ 1298 _ [.int z] M2 (k + 1) (n + 6)
  have lv2 := lv.step fy cb1 mr be rb2 (fo)
  refine r_istore (dk kL_law_p11 18 rfl) (by decide) rfl ?_
  simp only [List.set_cons_succ, List.set_cons_zero]
  refine r_aload_n (dk kL_law_p11 19 rfl) rfl ?_
  -- at 1301
  refine r_callVp (I' := IX9_thrown) (as := []) (dk kL_law_p11 20 rfl) mv_X9_thrown ml_L_177 rfl rfl rb2.o.1 rfl rfl (Nat.le_of_ble_eq_true rfl) ⟨by decide, by decide⟩ ⟨rfl, rfl⟩ ⟨?_, ?_⟩ (k_X9_thrown rb2.o) ?_
  · show k + 1 ≤ 603072
    omega
  · show n + 6 ≤ 7190633
    omega
  refine r_iload (dk kL_law_p11 21 rfl) rfl ?_
  refine r_icmp_eq (tgt := 1311) (dk kL_law_p11 22 rfl) (by decide) (fun c1306 => ?_) (fun c1306 => absurd (h8.trans hy.symm) c1306)
  refine r_iload (dk kL_law_p11 25 rfl) rfl ?_
  -- at 1313
  by_cases h0 : y = 0
  · have e9 : lg_cmp (mj M2 (x + 359) 0) z.toInt64 = 0 := by rw [mr.2.2.2.1, hj (hy.symm.trans h0), hz (hy.symm.trans h0)]; exact lg_cmp_self _
    refine r_if_ne (tgt := 1328) (dk kL_law_p11 26 rfl) (by decide) (fun c1313 => absurd c1313 (not_not_intro h0)) (fun c1313 => ?_)
    refine r_aload_n (dk kL_law_p11 27 rfl) rfl ?_
    refine r_iconst (v := 0) (dk kL_law_p11 28 rfl) (by decide) ?_
    refine r_lal (dk kL_law_p11 29 rfl) lv2.2.2.2.1 lv2.2.2.2.2.1 (j := 0) rfl (by decide) (by decide) ?_
    refine r_iload (dk kL_law_p11 30 rfl) rfl ?_
    refine r_i2l (dk kL_law_p11 31 rfl) ?_
    refine r_lcmp (dk kL_law_p11 32 rfl) ?_
    refine r_if_eq (tgt := 1328) (dk kL_law_p11 33 rfl) (by decide) (fun c1323 => ?_) (fun c1323 => absurd e9 c1323)
    refine r_goto (tgt := 3024) (dk kL_law_p11 36 rfl) (by decide) ?_
    -- at 3024
    exact nx _ _ _ _ _ _ _ _ lv2 (by omega) (by omega) (by omega)
  · refine r_if_ne (tgt := 1328) (dk kL_law_p11 26 rfl) (by decide) (fun c1313 => ?_) (fun c1313 => absurd h0 c1313)
    refine r_goto (tgt := 3024) (dk kL_law_p11 36 rfl) (by decide) ?_
    -- at 3024
    exact nx _ _ _ _ _ _ _ _ lv2 (by omega) (by omega) (by omega)
theorem arm_19 {P : Int32 → Mm → Prop} (lv : LV F M x B) (hF : F + 10 < 2 ^ 30) (hi : i + 5 ≤ (gs G).2.1) (hN : (gs G).2.1 ≤ 2560) (hk : k + 2 ≤ 603072) (hn : n + 12 ≤ 7190633) (l6 l7 l8 : Value) (nx : Nx G (qi P nox) F x i k n) : WW G IL_law (qi P nox) 1331 [.ref (gs G).1, .ref x, .ref (x + 350), .ref (x + 359), .ref (x + 360), .int (nI i), l6, l7, l8] [] M k n := by
  obtain ⟨q9, vq⟩ := lv.1.c1
  obtain ⟨cb, rb, fo, kl, ll, kd2, ll2⟩ := id lv
  refine r_aload_n (dk kL_law_p11 37 rfl) rfl ?_
  refine r_aload_n (dk kL_law_p11 38 rfl) rfl ?_
  refine r_iload (dk kL_law_p11 39 rfl) rfl ?_
  refine r_iconst (v := 1) (dk kL_law_p11 40 rfl) (by decide) ?_
  refine r_iadd (dk kL_law_p11 41 rfl) ?_
  refine r_sld (dk kL_law_p11 42 rfl) (sc_in (k := 1) (by omega) hN rfl) ?_
  refine r_aload_n (dk kL_law_p11 43 rfl) rfl ?_
  -- at 1339
  refine r_callSX (I' := IL_votesFor) (as := [_, _, _]) (dk kL_law_p11 44 rfl) mh_votesFor ml_L_240 rfl rfl rfl (Nat.le_of_ble_eq_true rfl) ⟨by decide, by decide⟩ ⟨?_, ?_⟩ (hg_votesFor cb kl ll _ (k_X8_votesFor cb.o vq cb.i.1.1 _) (sq_votesFor _ _)) (fun _ _ z => z.elim) ?_
  · show k + 1 ≤ 603072
    omega
  · show n + 6 ≤ 7190633
    omega
  rintro v M1 ⟨y, hv, hy, fy, hj, cb1⟩
  subst hv
  show WW G IL_law _ 1342 _ [.int y] M1 (k + 1) (n + 6)
  have rb1 := rb.fy fy (Nat.le_refl _)
  refine r_istore (dk kL_law_p11 45 rfl) (by decide) rfl ?_
  simp only [List.set_cons_succ, List.set_cons_zero]
  refine r_aload_n (dk kL_law_p11 46 rfl) rfl ?_
  refine r_aload_n (dk kL_law_p11 47 rfl) rfl ?_
  refine r_iload (dk kL_law_p11 48 rfl) rfl ?_
  refine r_iconst (v := 1) (dk kL_law_p11 49 rfl) (by decide) ?_
  refine r_iadd (dk kL_law_p11 50 rfl) ?_
  refine r_sld (dk kL_law_p11 51 rfl) (sc_in (k := 1) (by omega) hN rfl) ?_
  -- at 1351
  refine r_callV (I' := IX9_votesFor) (as := [_]) (dk kL_law_p11 52 rfl) mv_X9_votesFor ml_L_242 rfl rfl rb1.o.1 rfl rfl (Nat.le_of_ble_eq_true rfl) ⟨by decide, by decide⟩ ⟨?_, ?_⟩ (m_of_sp rb1 (sp := sp_votesFor (bg B) _) (by have h9 := k_X9_votesFor (G := G) rb1.o (rb1.gi cb.i) ((gs G).2.2 (nI i + 1).toNatClampNeg); rw [rb1.g] at h9; exact h9)) (fun _ _ z => z.elim) ?_
  · show k + 1 + 0 ≤ 603072
    omega
  · show n + 6 + 0 ≤ 7190633
    omega
  rintro v M2 ⟨z, hv, mr, h8, hz, B2, be, rb2⟩
  subst hv
  show WW G IL_law _ 1354 _ [.int z] M2 (k + 1) (n + 6)
  have lv2 := lv.step fy cb1 mr be rb2 (fo)
  refine r_istore (dk kL_law_p11 53 rfl) (by decide) rfl ?_
  simp only [List.set_cons_succ, List.set_cons_zero]
  refine r_aload_n (dk kL_law_p11 54 rfl) rfl ?_
  -- at 1357
  refine r_callVp (I' := IX9_thrown) (as := []) (dk kL_law_p11 55 rfl) mv_X9_thrown ml_L_177 rfl rfl rb2.o.1 rfl rfl (Nat.le_of_ble_eq_true rfl) ⟨by decide, by decide⟩ ⟨rfl, rfl⟩ ⟨?_, ?_⟩ (k_X9_thrown rb2.o) ?_
  · show k + 1 ≤ 603072
    omega
  · show n + 6 ≤ 7190633
    omega
  refine r_iload (dk kL_law_p11 56 rfl) rfl ?_
  refine r_icmp_eq (tgt := 1367) (dk kL_law_p11 57 rfl) (by decide) (fun c1362 => ?_) (fun c1362 => absurd (h8.trans hy.symm) c1362)
  refine r_iload (dk kL_law_p12 0 rfl) rfl ?_
  -- at 1369
  by_cases h0 : y = 0
  · have e9 : lg_cmp (mj M2 (x + 359) 0) z.toInt64 = 0 := by rw [mr.2.2.2.1, hj (hy.symm.trans h0), hz (hy.symm.trans h0)]; exact lg_cmp_self _
    refine r_if_ne (tgt := 1384) (dk kL_law_p12 1 rfl) (by decide) (fun c1369 => absurd c1369 (not_not_intro h0)) (fun c1369 => ?_)
    refine r_aload_n (dk kL_law_p12 2 rfl) rfl ?_
    refine r_iconst (v := 0) (dk kL_law_p12 3 rfl) (by decide) ?_
    refine r_lal (dk kL_law_p12 4 rfl) lv2.2.2.2.1 lv2.2.2.2.2.1 (j := 0) rfl (by decide) (by decide) ?_
    refine r_iload (dk kL_law_p12 5 rfl) rfl ?_
    refine r_i2l (dk kL_law_p12 6 rfl) ?_
    refine r_lcmp (dk kL_law_p12 7 rfl) ?_
    refine r_if_eq (tgt := 1384) (dk kL_law_p12 8 rfl) (by decide) (fun c1379 => ?_) (fun c1379 => absurd e9 c1379)
    refine r_goto (tgt := 3024) (dk kL_law_p12 11 rfl) (by decide) ?_
    -- at 3024
    exact nx _ _ _ _ _ _ _ _ lv2 (by omega) (by omega) (by omega)
  · refine r_if_ne (tgt := 1384) (dk kL_law_p12 1 rfl) (by decide) (fun c1369 => ?_) (fun c1369 => absurd h0 c1369)
    refine r_goto (tgt := 3024) (dk kL_law_p12 11 rfl) (by decide) ?_
    -- at 3024
    exact nx _ _ _ _ _ _ _ _ lv2 (by omega) (by omega) (by omega)
theorem arm_20 {P : Int32 → Mm → Prop} (lv : LV F M x B) (hF : F + 10 < 2 ^ 30) (hi : i + 5 ≤ (gs G).2.1) (hN : (gs G).2.1 ≤ 2560) (hk : k + 2 ≤ 603072) (hn : n + 12 ≤ 7190633) (l6 l7 l8 : Value) (nx : Nx G (qi P nox) F x i k n) : WW G IL_law (qi P nox) 1387 [.ref (gs G).1, .ref x, .ref (x + 350), .ref (x + 359), .ref (x + 360), .int (nI i), l6, l7, l8] [] M k n := by
  obtain ⟨q9, vq⟩ := lv.1.c1
  obtain ⟨cb, rb, fo, kl, ll, kd2, ll2⟩ := id lv
  refine r_aload_n (dk kL_law_p12 12 rfl) rfl ?_
  refine r_aload_n (dk kL_law_p12 13 rfl) rfl ?_
  refine r_iload (dk kL_law_p12 14 rfl) rfl ?_
  refine r_iconst (v := 1) (dk kL_law_p12 15 rfl) (by decide) ?_
  refine r_iadd (dk kL_law_p12 16 rfl) ?_
  refine r_sld (dk kL_law_p12 17 rfl) (sc_in (k := 1) (by omega) hN rfl) ?_
  refine r_aload_n (dk kL_law_p12 18 rfl) rfl ?_
  -- at 1395
  refine r_callSX (I' := IL_votesAgainst) (as := [_, _, _]) (dk kL_law_p12 19 rfl) mh_votesAgainst ml_L_243 rfl rfl rfl (Nat.le_of_ble_eq_true rfl) ⟨by decide, by decide⟩ ⟨?_, ?_⟩ (hg_votesAgainst cb kl ll _ (k_X8_votesAgainst cb.o vq cb.i.1.1 _) (sq_votesAgainst _ _)) (fun _ _ z => z.elim) ?_
  · show k + 1 ≤ 603072
    omega
  · show n + 6 ≤ 7190633
    omega
  rintro v M1 ⟨y, hv, hy, fy, hj, cb1⟩
  subst hv
  show WW G IL_law _ 1398 _ [.int y] M1 (k + 1) (n + 6)
  have rb1 := rb.fy fy (Nat.le_refl _)
  refine r_istore (dk kL_law_p12 20 rfl) (by decide) rfl ?_
  simp only [List.set_cons_succ, List.set_cons_zero]
  refine r_aload_n (dk kL_law_p12 21 rfl) rfl ?_
  refine r_aload_n (dk kL_law_p12 22 rfl) rfl ?_
  refine r_iload (dk kL_law_p12 23 rfl) rfl ?_
  refine r_iconst (v := 1) (dk kL_law_p12 24 rfl) (by decide) ?_
  refine r_iadd (dk kL_law_p12 25 rfl) ?_
  refine r_sld (dk kL_law_p12 26 rfl) (sc_in (k := 1) (by omega) hN rfl) ?_
  -- at 1407
  refine r_callV (I' := IX9_votesAgainst) (as := [_]) (dk kL_law_p12 27 rfl) mv_X9_votesAgainst ml_L_245 rfl rfl rb1.o.1 rfl rfl (Nat.le_of_ble_eq_true rfl) ⟨by decide, by decide⟩ ⟨?_, ?_⟩ (m_of_sp rb1 (sp := sp_votesAgainst (bg B) _) (by have h9 := k_X9_votesAgainst (G := G) rb1.o (rb1.gi cb.i) ((gs G).2.2 (nI i + 1).toNatClampNeg); rw [rb1.g] at h9; exact h9)) (fun _ _ z => z.elim) ?_
  · show k + 1 + 0 ≤ 603072
    omega
  · show n + 6 + 0 ≤ 7190633
    omega
  rintro v M2 ⟨z, hv, mr, h8, hz, B2, be, rb2⟩
  subst hv
  show WW G IL_law _ 1410 _ [.int z] M2 (k + 1) (n + 6)
  have lv2 := lv.step fy cb1 mr be rb2 (fo)
  refine r_istore (dk kL_law_p12 28 rfl) (by decide) rfl ?_
  simp only [List.set_cons_succ, List.set_cons_zero]
  refine r_aload_n (dk kL_law_p12 29 rfl) rfl ?_
  -- at 1413
  refine r_callVp (I' := IX9_thrown) (as := []) (dk kL_law_p12 30 rfl) mv_X9_thrown ml_L_177 rfl rfl rb2.o.1 rfl rfl (Nat.le_of_ble_eq_true rfl) ⟨by decide, by decide⟩ ⟨rfl, rfl⟩ ⟨?_, ?_⟩ (k_X9_thrown rb2.o) ?_
  · show k + 1 ≤ 603072
    omega
  · show n + 6 ≤ 7190633
    omega
  refine r_iload (dk kL_law_p12 31 rfl) rfl ?_
  refine r_icmp_eq (tgt := 1423) (dk kL_law_p12 32 rfl) (by decide) (fun c1418 => ?_) (fun c1418 => absurd (h8.trans hy.symm) c1418)
  refine r_iload (dk kL_law_p12 35 rfl) rfl ?_
  -- at 1425
  by_cases h0 : y = 0
  · have e9 : lg_cmp (mj M2 (x + 359) 0) z.toInt64 = 0 := by rw [mr.2.2.2.1, hj (hy.symm.trans h0), hz (hy.symm.trans h0)]; exact lg_cmp_self _
    refine r_if_ne (tgt := 1440) (dk kL_law_p12 36 rfl) (by decide) (fun c1425 => absurd c1425 (not_not_intro h0)) (fun c1425 => ?_)
    refine r_aload_n (dk kL_law_p12 37 rfl) rfl ?_
    refine r_iconst (v := 0) (dk kL_law_p12 38 rfl) (by decide) ?_
    refine r_lal (dk kL_law_p12 39 rfl) lv2.2.2.2.1 lv2.2.2.2.2.1 (j := 0) rfl (by decide) (by decide) ?_
    refine r_iload (dk kL_law_p12 40 rfl) rfl ?_
    refine r_i2l (dk kL_law_p12 41 rfl) ?_
    refine r_lcmp (dk kL_law_p12 42 rfl) ?_
    refine r_if_eq (tgt := 1440) (dk kL_law_p12 43 rfl) (by decide) (fun c1435 => ?_) (fun c1435 => absurd e9 c1435)
    refine r_goto (tgt := 3024) (dk kL_law_p12 46 rfl) (by decide) ?_
    -- at 3024
    exact nx _ _ _ _ _ _ _ _ lv2 (by omega) (by omega) (by omega)
  · refine r_if_ne (tgt := 1440) (dk kL_law_p12 36 rfl) (by decide) (fun c1425 => ?_) (fun c1425 => absurd h0 c1425)
    refine r_goto (tgt := 3024) (dk kL_law_p12 46 rfl) (by decide) ?_
    -- at 3024
    exact nx _ _ _ _ _ _ _ _ lv2 (by omega) (by omega) (by omega)
theorem arm_28 {P : Int32 → Mm → Prop} (lv : LV F M x B) (hF : F + 10 < 2 ^ 30) (hi : i + 5 ≤ (gs G).2.1) (hN : (gs G).2.1 ≤ 2560) (hk : k + 2 ≤ 603072) (hn : n + 12 ≤ 7190633) (l6 l7 l8 : Value) (nx : Nx G (qi P nox) F x i k n) : WW G IL_law (qi P nox) 1758 [.ref (gs G).1, .ref x, .ref (x + 350), .ref (x + 359), .ref (x + 360), .int (nI i), l6, l7, l8] [] M k n := by
  obtain ⟨q9, vq⟩ := lv.1.c1
  obtain ⟨cb, rb, fo, kl, ll, kd2, ll2⟩ := id lv
  refine r_aload_n (dk kL_law_p15 55 rfl) rfl ?_
  refine r_aload_n (dk kL_law_p15 56 rfl) rfl ?_
  refine r_iload (dk kL_law_p15 57 rfl) rfl ?_
  refine r_iconst (v := 1) (dk kL_law_p15 58 rfl) (by decide) ?_
  refine r_iadd (dk kL_law_p15 59 rfl) ?_
  refine r_sld (dk kL_law_p16 0 rfl) (sc_in (k := 1) (by omega) hN rfl) ?_
  refine r_aload_n (dk kL_law_p16 1 rfl) rfl ?_
  -- at 1766
  refine r_callSX (I' := IL_citationCount) (as := [_, _, _]) (dk kL_law_p16 2 rfl) mh_citationCount ml_L_270 rfl rfl rfl (Nat.le_of_ble_eq_true rfl) ⟨by decide, by decide⟩ ⟨?_, ?_⟩ (hg_citationCount cb kl ll _ (k_X8_citationCount cb.o vq cb.i.1.1 _) (sq_citationCount _ _)) (fun _ _ z => z.elim) ?_
  · show k + 1 ≤ 603072
    omega
  · show n + 6 ≤ 7190633
    omega
  rintro v M1 ⟨y, hv, hy, fy, hj, cb1⟩
  subst hv
  show WW G IL_law _ 1769 _ [.int y] M1 (k + 1) (n + 6)
  have rb1 := rb.fy fy (Nat.le_refl _)
  refine r_istore (dk kL_law_p16 3 rfl) (by decide) rfl ?_
  simp only [List.set_cons_succ, List.set_cons_zero]
  refine r_aload_n (dk kL_law_p16 4 rfl) rfl ?_
  refine r_aload_n (dk kL_law_p16 5 rfl) rfl ?_
  refine r_iload (dk kL_law_p16 6 rfl) rfl ?_
  refine r_iconst (v := 1) (dk kL_law_p16 7 rfl) (by decide) ?_
  refine r_iadd (dk kL_law_p16 8 rfl) ?_
  refine r_sld (dk kL_law_p16 9 rfl) (sc_in (k := 1) (by omega) hN rfl) ?_
  -- at 1778
  refine r_callV (I' := IX9_citationCount) (as := [_]) (dk kL_law_p16 10 rfl) mv_X9_citationCount ml_L_272 rfl rfl rb1.o.1 rfl rfl (Nat.le_of_ble_eq_true rfl) ⟨by decide, by decide⟩ ⟨?_, ?_⟩ (m_of_sp rb1 (sp := sp_citationCount (bg B) _) (by have h9 := k_X9_citationCount (G := G) rb1.o (rb1.gi cb.i) ((gs G).2.2 (nI i + 1).toNatClampNeg); rw [rb1.g] at h9; exact h9)) (fun _ _ z => z.elim) ?_
  · show k + 1 + 0 ≤ 603072
    omega
  · show n + 6 + 0 ≤ 7190633
    omega
  rintro v M2 ⟨z, hv, mr, h8, hz, B2, be, rb2⟩
  subst hv
  show WW G IL_law _ 1781 _ [.int z] M2 (k + 1) (n + 6)
  have lv2 := lv.step fy cb1 mr be rb2 (fo)
  refine r_istore (dk kL_law_p16 11 rfl) (by decide) rfl ?_
  simp only [List.set_cons_succ, List.set_cons_zero]
  refine r_aload_n (dk kL_law_p16 12 rfl) rfl ?_
  -- at 1784
  refine r_callVp (I' := IX9_thrown) (as := []) (dk kL_law_p16 13 rfl) mv_X9_thrown ml_L_177 rfl rfl rb2.o.1 rfl rfl (Nat.le_of_ble_eq_true rfl) ⟨by decide, by decide⟩ ⟨rfl, rfl⟩ ⟨?_, ?_⟩ (k_X9_thrown rb2.o) ?_
  · show k + 1 ≤ 603072
    omega
  · show n + 6 ≤ 7190633
    omega
  refine r_iload (dk kL_law_p16 14 rfl) rfl ?_
  refine r_icmp_eq (tgt := 1794) (dk kL_law_p16 15 rfl) (by decide) (fun c1789 => ?_) (fun c1789 => absurd (h8.trans hy.symm) c1789)
  refine r_iload (dk kL_law_p16 18 rfl) rfl ?_
  -- at 1796
  by_cases h0 : y = 0
  · have e9 : lg_cmp (mj M2 (x + 359) 0) z.toInt64 = 0 := by rw [mr.2.2.2.1, hj (hy.symm.trans h0), hz (hy.symm.trans h0)]; exact lg_cmp_self _
    refine r_if_ne (tgt := 1811) (dk kL_law_p16 19 rfl) (by decide) (fun c1796 => absurd c1796 (not_not_intro h0)) (fun c1796 => ?_)
    refine r_aload_n (dk kL_law_p16 20 rfl) rfl ?_
    refine r_iconst (v := 0) (dk kL_law_p16 21 rfl) (by decide) ?_
    refine r_lal (dk kL_law_p16 22 rfl) lv2.2.2.2.1 lv2.2.2.2.2.1 (j := 0) rfl (by decide) (by decide) ?_
    refine r_iload (dk kL_law_p16 23 rfl) rfl ?_
    refine r_i2l (dk kL_law_p16 24 rfl) ?_
    refine r_lcmp (dk kL_law_p16 25 rfl) ?_
    refine r_if_eq (tgt := 1811) (dk kL_law_p16 26 rfl) (by decide) (fun c1806 => ?_) (fun c1806 => absurd e9 c1806)
    refine r_goto (tgt := 3024) (dk kL_law_p16 29 rfl) (by decide) ?_
    -- at 3024
    exact nx _ _ _ _ _ _ _ _ lv2 (by omega) (by omega) (by omega)
  · refine r_if_ne (tgt := 1811) (dk kL_law_p16 19 rfl) (by decide) (fun c1796 => ?_) (fun c1796 => absurd h0 c1796)
    refine r_goto (tgt := 3024) (dk kL_law_p16 29 rfl) (by decide) ?_
    -- at 3024
    exact nx _ _ _ _ _ _ _ _ lv2 (by omega) (by omega) (by omega)
theorem arm_29 {P : Int32 → Mm → Prop} (lv : LV F M x B) (hF : F + 10 < 2 ^ 30) (hi : i + 5 ≤ (gs G).2.1) (hN : (gs G).2.1 ≤ 2560) (hk : k + 2 ≤ 603072) (hn : n + 12 ≤ 7190633) (l6 l7 l8 : Value) (nx : Nx G (qi P nox) F x i k n) : WW G IL_law (qi P nox) 1814 [.ref (gs G).1, .ref x, .ref (x + 350), .ref (x + 359), .ref (x + 360), .int (nI i), l6, l7, l8] [] M k n := by
  obtain ⟨q9, vq⟩ := lv.1.c1
  obtain ⟨cb, rb, fo, kl, ll, kd2, ll2⟩ := id lv
  refine r_aload_n (dk kL_law_p16 30 rfl) rfl ?_
  refine r_aload_n (dk kL_law_p16 31 rfl) rfl ?_
  refine r_iload (dk kL_law_p16 32 rfl) rfl ?_
  refine r_iconst (v := 1) (dk kL_law_p16 33 rfl) (by decide) ?_
  refine r_iadd (dk kL_law_p16 34 rfl) ?_
  refine r_sld (dk kL_law_p16 35 rfl) (sc_in (k := 1) (by omega) hN rfl) ?_
  refine r_aload_n (dk kL_law_p16 36 rfl) rfl ?_
  refine r_iload (dk kL_law_p16 37 rfl) rfl ?_
  refine r_iconst (v := 2) (dk kL_law_p16 38 rfl) (by decide) ?_
  refine r_iadd (dk kL_law_p16 39 rfl) ?_
  refine r_sld (dk kL_law_p16 40 rfl) (sc_in (k := 2) (by omega) hN rfl) ?_
  refine r_aload_n (dk kL_law_p16 41 rfl) rfl ?_
  -- at 1828
  refine r_callSX (I' := IL_citation) (as := [_, _, _, _]) (dk kL_law_p16 42 rfl) mh_citation ml_L_273 rfl rfl rfl (Nat.le_of_ble_eq_true rfl) ⟨by decide, by decide⟩ ⟨?_, ?_⟩ (hg_citation cb kl ll _ _ (k_X8_citation cb.o vq cb.i.1.1 _ _) (sq_citation _ _ _)) (fun _ _ z => z.elim) ?_
  · show k + 2 ≤ 603072
    omega
  · show n + 12 ≤ 7190633
    omega
  rintro v M1 ⟨y, hv, hy, fy, hj, cb1⟩
  subst hv
  show WW G IL_law _ 1831 _ [.int y] M1 (k + 2) (n + 12)
  have rb1 := rb.fy fy (Nat.le_refl _)
  refine r_istore (dk kL_law_p16 43 rfl) (by decide) rfl ?_
  simp only [List.set_cons_succ, List.set_cons_zero]
  refine r_aload_n (dk kL_law_p16 44 rfl) rfl ?_
  refine r_aload_n (dk kL_law_p16 45 rfl) rfl ?_
  refine r_iload (dk kL_law_p16 46 rfl) rfl ?_
  refine r_iconst (v := 1) (dk kL_law_p16 47 rfl) (by decide) ?_
  refine r_iadd (dk kL_law_p16 48 rfl) ?_
  refine r_sld (dk kL_law_p16 49 rfl) (sc_in (k := 1) (by omega) hN rfl) ?_
  refine r_aload_n (dk kL_law_p16 50 rfl) rfl ?_
  refine r_iload (dk kL_law_p16 51 rfl) rfl ?_
  refine r_iconst (v := 2) (dk kL_law_p16 52 rfl) (by decide) ?_
  refine r_iadd (dk kL_law_p16 53 rfl) ?_
  refine r_sld (dk kL_law_p16 54 rfl) (sc_in (k := 2) (by omega) hN rfl) ?_
  -- at 1846
  refine r_callV (I' := IX9_citation) (as := [_, _]) (dk kL_law_p16 55 rfl) mv_X9_citation ml_L_275 rfl rfl rb1.o.1 rfl rfl (Nat.le_of_ble_eq_true rfl) ⟨by decide, by decide⟩ ⟨?_, ?_⟩ (m_of_sp rb1 (sp := sp_citation (bg B) _ _) (by have h9 := k_X9_citation (G := G) rb1.o (rb1.gi cb.i) ((gs G).2.2 (nI i + 1).toNatClampNeg) ((gs G).2.2 (nI i + 2).toNatClampNeg); rw [rb1.g] at h9; exact h9)) (fun _ _ z => z.elim) ?_
  · show k + 2 + 0 ≤ 603072
    omega
  · show n + 12 + 0 ≤ 7190633
    omega
  rintro v M2 ⟨z, hv, mr, h8, hz, B2, be, rb2⟩
  subst hv
  show WW G IL_law _ 1849 _ [.int z] M2 (k + 2) (n + 12)
  have lv2 := lv.step fy cb1 mr be rb2 (fo)
  refine r_istore (dk kL_law_p16 56 rfl) (by decide) rfl ?_
  simp only [List.set_cons_succ, List.set_cons_zero]
  refine r_aload_n (dk kL_law_p16 57 rfl) rfl ?_
  -- at 1852
  refine r_callVp (I' := IX9_thrown) (as := []) (dk kL_law_p16 58 rfl) mv_X9_thrown ml_L_177 rfl rfl rb2.o.1 rfl rfl (Nat.le_of_ble_eq_true rfl) ⟨by decide, by decide⟩ ⟨rfl, rfl⟩ ⟨?_, ?_⟩ (k_X9_thrown rb2.o) ?_
  · show k + 2 ≤ 603072
    omega
  · show n + 12 ≤ 7190633
    omega
  refine r_iload (dk kL_law_p16 59 rfl) rfl ?_
  refine r_icmp_eq (tgt := 1862) (dk kL_law_p17 0 rfl) (by decide) (fun c1857 => ?_) (fun c1857 => absurd (h8.trans hy.symm) c1857)
  refine r_iload (dk kL_law_p17 3 rfl) rfl ?_
  -- at 1864
  by_cases h0 : y = 0
  · have e9 : lg_cmp (mj M2 (x + 359) 0) z.toInt64 = 0 := by rw [mr.2.2.2.1, hj (hy.symm.trans h0), hz (hy.symm.trans h0)]; exact lg_cmp_self _
    refine r_if_ne (tgt := 1879) (dk kL_law_p17 4 rfl) (by decide) (fun c1864 => absurd c1864 (not_not_intro h0)) (fun c1864 => ?_)
    refine r_aload_n (dk kL_law_p17 5 rfl) rfl ?_
    refine r_iconst (v := 0) (dk kL_law_p17 6 rfl) (by decide) ?_
    refine r_lal (dk kL_law_p17 7 rfl) lv2.2.2.2.1 lv2.2.2.2.2.1 (j := 0) rfl (by decide) (by decide) ?_
    refine r_iload (dk kL_law_p17 8 rfl) rfl ?_
    refine r_i2l (dk kL_law_p17 9 rfl) ?_
    refine r_lcmp (dk kL_law_p17 10 rfl) ?_
    refine r_if_eq (tgt := 1879) (dk kL_law_p17 11 rfl) (by decide) (fun c1874 => ?_) (fun c1874 => absurd e9 c1874)
    refine r_goto (tgt := 3024) (dk kL_law_p17 14 rfl) (by decide) ?_
    -- at 3024
    exact nx _ _ _ _ _ _ _ _ lv2 (by omega) (by omega) (by omega)
  · refine r_if_ne (tgt := 1879) (dk kL_law_p17 4 rfl) (by decide) (fun c1864 => ?_) (fun c1864 => absurd h0 c1864)
    refine r_goto (tgt := 3024) (dk kL_law_p17 14 rfl) (by decide) ?_
    -- at 3024
    exact nx _ _ _ _ _ _ _ _ lv2 (by omega) (by omega) (by omega)
theorem arm_30 {P : Int32 → Mm → Prop} (lv : LV F M x B) (hF : F + 10 < 2 ^ 30) (hi : i + 5 ≤ (gs G).2.1) (hN : (gs G).2.1 ≤ 2560) (hk : k + 2 ≤ 603072) (hn : n + 12 ≤ 7190633) (l6 l7 l8 : Value) (nx : Nx G (qi P nox) F x i k n) : WW G IL_law (qi P nox) 1882 [.ref (gs G).1, .ref x, .ref (x + 350), .ref (x + 359), .ref (x + 360), .int (nI i), l6, l7, l8] [] M k n := by
  obtain ⟨q9, vq⟩ := lv.1.c1
  obtain ⟨cb, rb, fo, kl, ll, kd2, ll2⟩ := id lv
  refine r_aload_n (dk kL_law_p17 15 rfl) rfl ?_
  refine r_aload_n (dk kL_law_p17 16 rfl) rfl ?_
  refine r_iload (dk kL_law_p17 17 rfl) rfl ?_
  refine r_iconst (v := 1) (dk kL_law_p17 18 rfl) (by decide) ?_
  refine r_iadd (dk kL_law_p17 19 rfl) ?_
  refine r_sld (dk kL_law_p17 20 rfl) (sc_in (k := 1) (by omega) hN rfl) ?_
  refine r_aload_n (dk kL_law_p17 21 rfl) rfl ?_
  -- at 1890
  refine r_callSX (I' := IL_citedBy) (as := [_, _, _]) (dk kL_law_p17 22 rfl) mh_citedBy ml_L_276 rfl rfl rfl (Nat.le_of_ble_eq_true rfl) ⟨by decide, by decide⟩ ⟨?_, ?_⟩ (hg_citedBy cb kl ll _ (k_X8_citedBy cb.o vq cb.i.1.1 _) (sq_citedBy _ _)) (fun _ _ z => z.elim) ?_
  · show k + 1 ≤ 603072
    omega
  · show n + 6 ≤ 7190633
    omega
  rintro v M1 ⟨y, hv, hy, fy, hj, cb1⟩
  subst hv
  show WW G IL_law _ 1893 _ [.int y] M1 (k + 1) (n + 6)
  have rb1 := rb.fy fy (Nat.le_refl _)
  refine r_istore (dk kL_law_p17 23 rfl) (by decide) rfl ?_
  simp only [List.set_cons_succ, List.set_cons_zero]
  refine r_aload_n (dk kL_law_p17 24 rfl) rfl ?_
  refine r_aload_n (dk kL_law_p17 25 rfl) rfl ?_
  refine r_iload (dk kL_law_p17 26 rfl) rfl ?_
  refine r_iconst (v := 1) (dk kL_law_p17 27 rfl) (by decide) ?_
  refine r_iadd (dk kL_law_p17 28 rfl) ?_
  refine r_sld (dk kL_law_p17 29 rfl) (sc_in (k := 1) (by omega) hN rfl) ?_
  -- at 1902
  refine r_callV (I' := IX9_citedBy) (as := [_]) (dk kL_law_p17 30 rfl) mv_X9_citedBy ml_L_278 rfl rfl rb1.o.1 rfl rfl (Nat.le_of_ble_eq_true rfl) ⟨by decide, by decide⟩ ⟨?_, ?_⟩ (m_of_sp rb1 (sp := sp_citedBy (bg B) _) (by have h9 := k_X9_citedBy (G := G) rb1.o (rb1.gi cb.i) ((gs G).2.2 (nI i + 1).toNatClampNeg); rw [rb1.g] at h9; exact h9)) (fun _ _ z => z.elim) ?_
  · show k + 1 + 0 ≤ 603072
    omega
  · show n + 6 + 0 ≤ 7190633
    omega
  rintro v M2 ⟨z, hv, mr, h8, hz, B2, be, rb2⟩
  subst hv
  show WW G IL_law _ 1905 _ [.int z] M2 (k + 1) (n + 6)
  have lv2 := lv.step fy cb1 mr be rb2 (fo)
  refine r_istore (dk kL_law_p17 31 rfl) (by decide) rfl ?_
  simp only [List.set_cons_succ, List.set_cons_zero]
  refine r_aload_n (dk kL_law_p17 32 rfl) rfl ?_
  -- at 1908
  refine r_callVp (I' := IX9_thrown) (as := []) (dk kL_law_p17 33 rfl) mv_X9_thrown ml_L_177 rfl rfl rb2.o.1 rfl rfl (Nat.le_of_ble_eq_true rfl) ⟨by decide, by decide⟩ ⟨rfl, rfl⟩ ⟨?_, ?_⟩ (k_X9_thrown rb2.o) ?_
  · show k + 1 ≤ 603072
    omega
  · show n + 6 ≤ 7190633
    omega
  refine r_iload (dk kL_law_p17 34 rfl) rfl ?_
  refine r_icmp_eq (tgt := 1918) (dk kL_law_p17 35 rfl) (by decide) (fun c1913 => ?_) (fun c1913 => absurd (h8.trans hy.symm) c1913)
  refine r_iload (dk kL_law_p17 38 rfl) rfl ?_
  -- at 1920
  by_cases h0 : y = 0
  · have e9 : lg_cmp (mj M2 (x + 359) 0) z.toInt64 = 0 := by rw [mr.2.2.2.1, hj (hy.symm.trans h0), hz (hy.symm.trans h0)]; exact lg_cmp_self _
    refine r_if_ne (tgt := 1935) (dk kL_law_p17 39 rfl) (by decide) (fun c1920 => absurd c1920 (not_not_intro h0)) (fun c1920 => ?_)
    refine r_aload_n (dk kL_law_p17 40 rfl) rfl ?_
    refine r_iconst (v := 0) (dk kL_law_p17 41 rfl) (by decide) ?_
    refine r_lal (dk kL_law_p17 42 rfl) lv2.2.2.2.1 lv2.2.2.2.2.1 (j := 0) rfl (by decide) (by decide) ?_
    refine r_iload (dk kL_law_p17 43 rfl) rfl ?_
    refine r_i2l (dk kL_law_p17 44 rfl) ?_
    refine r_lcmp (dk kL_law_p17 45 rfl) ?_
    refine r_if_eq (tgt := 1935) (dk kL_law_p17 46 rfl) (by decide) (fun c1930 => ?_) (fun c1930 => absurd e9 c1930)
    refine r_goto (tgt := 3024) (dk kL_law_p17 49 rfl) (by decide) ?_
    -- at 3024
    exact nx _ _ _ _ _ _ _ _ lv2 (by omega) (by omega) (by omega)
  · refine r_if_ne (tgt := 1935) (dk kL_law_p17 39 rfl) (by decide) (fun c1920 => ?_) (fun c1920 => absurd h0 c1920)
    refine r_goto (tgt := 3024) (dk kL_law_p17 49 rfl) (by decide) ?_
    -- at 3024
    exact nx _ _ _ _ _ _ _ _ lv2 (by omega) (by omega) (by omega)
theorem arm_31 {P : Int32 → Mm → Prop} (lv : LV F M x B) (hF : F + 10 < 2 ^ 30) (hi : i + 5 ≤ (gs G).2.1) (hN : (gs G).2.1 ≤ 2560) (hk : k + 2 ≤ 603072) (hn : n + 12 ≤ 7190633) (l6 l7 l8 : Value) (nx : Nx G (qi P nox) F x i k n) : WW G IL_law (qi P nox) 1938 [.ref (gs G).1, .ref x, .ref (x + 350), .ref (x + 359), .ref (x + 360), .int (nI i), l6, l7, l8] [] M k n := by
  obtain ⟨q9, vq⟩ := lv.1.c1
  obtain ⟨cb, rb, fo, kl, ll, kd2, ll2⟩ := id lv
  refine r_aload_n (dk kL_law_p17 50 rfl) rfl ?_
  refine r_aload_n (dk kL_law_p17 51 rfl) rfl ?_
  refine r_iload (dk kL_law_p17 52 rfl) rfl ?_
  refine r_iconst (v := 1) (dk kL_law_p17 53 rfl) (by decide) ?_
  refine r_iadd (dk kL_law_p17 54 rfl) ?_
  refine r_sld (dk kL_law_p17 55 rfl) (sc_in (k := 1) (by omega) hN rfl) ?_
  refine r_aload_n (dk kL_law_p17 56 rfl) rfl ?_
  -- at 1946
  refine r_callSX (I' := IL_depth) (as := [_, _, _]) (dk kL_law_p17 57 rfl) mh_depth ml_L_279 rfl rfl rfl (Nat.le_of_ble_eq_true rfl) ⟨by decide, by decide⟩ ⟨?_, ?_⟩ (hg_depth cb kl ll _ (k_X8_depth cb.o vq cb.i.1.1 _) (sq_depth _ _)) (fun _ _ z => z.elim) ?_
  · show k + 1 ≤ 603072
    omega
  · show n + 6 ≤ 7190633
    omega
  rintro v M1 ⟨y, hv, hy, fy, hj, cb1⟩
  subst hv
  show WW G IL_law _ 1949 _ [.int y] M1 (k + 1) (n + 6)
  have rb1 := rb.fy fy (Nat.le_refl _)
  refine r_istore (dk kL_law_p17 58 rfl) (by decide) rfl ?_
  simp only [List.set_cons_succ, List.set_cons_zero]
  refine r_aload_n (dk kL_law_p17 59 rfl) rfl ?_
  refine r_aload_n (dk kL_law_p18 0 rfl) rfl ?_
  refine r_iload (dk kL_law_p18 1 rfl) rfl ?_
  refine r_iconst (v := 1) (dk kL_law_p18 2 rfl) (by decide) ?_
  refine r_iadd (dk kL_law_p18 3 rfl) ?_
  refine r_sld (dk kL_law_p18 4 rfl) (sc_in (k := 1) (by omega) hN rfl) ?_
  -- at 1958
  refine r_callV (I' := IX9_depth) (as := [_]) (dk kL_law_p18 5 rfl) mv_X9_depth ml_L_281 rfl rfl rb1.o.1 rfl rfl (Nat.le_of_ble_eq_true rfl) ⟨by decide, by decide⟩ ⟨?_, ?_⟩ (m_depth rb1 cb.i _) (fun _ _ z => z.elim) ?_
  · show k + 1 + 0 ≤ 603072
    omega
  · show n + 6 + 0 ≤ 7190633
    omega
  rintro v M2 ⟨z, hv, mr, h8, hz, B2, be, rb2⟩
  subst hv
  show WW G IL_law _ 1961 _ [.int z] M2 (k + 1) (n + 6)
  have lv2 := lv.step fy cb1 mr be rb2 (fo)
  refine r_istore (dk kL_law_p18 6 rfl) (by decide) rfl ?_
  simp only [List.set_cons_succ, List.set_cons_zero]
  refine r_aload_n (dk kL_law_p18 7 rfl) rfl ?_
  -- at 1964
  refine r_callVp (I' := IX9_thrown) (as := []) (dk kL_law_p18 8 rfl) mv_X9_thrown ml_L_177 rfl rfl rb2.o.1 rfl rfl (Nat.le_of_ble_eq_true rfl) ⟨by decide, by decide⟩ ⟨rfl, rfl⟩ ⟨?_, ?_⟩ (k_X9_thrown rb2.o) ?_
  · show k + 1 ≤ 603072
    omega
  · show n + 6 ≤ 7190633
    omega
  refine r_iload (dk kL_law_p18 9 rfl) rfl ?_
  refine r_icmp_eq (tgt := 1974) (dk kL_law_p18 10 rfl) (by decide) (fun c1969 => ?_) (fun c1969 => absurd (h8.trans hy.symm) c1969)
  refine r_iload (dk kL_law_p18 13 rfl) rfl ?_
  -- at 1976
  by_cases h0 : y = 0
  · have e9 : lg_cmp (mj M2 (x + 359) 0) z.toInt64 = 0 := by rw [mr.2.2.2.1, hj (hy.symm.trans h0), hz (hy.symm.trans h0)]; exact lg_cmp_self _
    refine r_if_ne (tgt := 1991) (dk kL_law_p18 14 rfl) (by decide) (fun c1976 => absurd c1976 (not_not_intro h0)) (fun c1976 => ?_)
    refine r_aload_n (dk kL_law_p18 15 rfl) rfl ?_
    refine r_iconst (v := 0) (dk kL_law_p18 16 rfl) (by decide) ?_
    refine r_lal (dk kL_law_p18 17 rfl) lv2.2.2.2.1 lv2.2.2.2.2.1 (j := 0) rfl (by decide) (by decide) ?_
    refine r_iload (dk kL_law_p18 18 rfl) rfl ?_
    refine r_i2l (dk kL_law_p18 19 rfl) ?_
    refine r_lcmp (dk kL_law_p18 20 rfl) ?_
    refine r_if_eq (tgt := 1991) (dk kL_law_p18 21 rfl) (by decide) (fun c1986 => ?_) (fun c1986 => absurd e9 c1986)
    refine r_goto (tgt := 3024) (dk kL_law_p18 24 rfl) (by decide) ?_
    -- at 3024
    exact nx _ _ _ _ _ _ _ _ lv2 (by omega) (by omega) (by omega)
  · refine r_if_ne (tgt := 1991) (dk kL_law_p18 14 rfl) (by decide) (fun c1976 => ?_) (fun c1976 => absurd h0 c1976)
    refine r_goto (tgt := 3024) (dk kL_law_p18 24 rfl) (by decide) ?_
    -- at 3024
    exact nx _ _ _ _ _ _ _ _ lv2 (by omega) (by omega) (by omega)
theorem arm_33 {P : Int32 → Mm → Prop} (lv : LV F M x B) (hF : F + 10 < 2 ^ 30) (hi : i + 5 ≤ (gs G).2.1) (hN : (gs G).2.1 ≤ 2560) (hk : k + 2 ≤ 603072) (hn : n + 12 ≤ 7190633) (l6 l7 l8 : Value) (nx : Nx G (qi P nox) F x i k n) : WW G IL_law (qi P nox) 2069 [.ref (gs G).1, .ref x, .ref (x + 350), .ref (x + 359), .ref (x + 360), .int (nI i), l6, l7, l8] [] M k n := by
  obtain ⟨q9, vq⟩ := lv.1.c1
  obtain ⟨cb, rb, fo, kl, ll, kd2, ll2⟩ := id lv
  refine r_aload_n (dk kL_law_p19 13 rfl) rfl ?_
  refine r_aload_n (dk kL_law_p19 14 rfl) rfl ?_
  refine r_iload (dk kL_law_p19 15 rfl) rfl ?_
  refine r_iconst (v := 1) (dk kL_law_p19 16 rfl) (by decide) ?_
  refine r_iadd (dk kL_law_p19 17 rfl) ?_
  refine r_sld (dk kL_law_p19 18 rfl) (sc_in (k := 1) (by omega) hN rfl) ?_
  refine r_aload_n (dk kL_law_p19 19 rfl) rfl ?_
  -- at 2077
  refine r_callSX (I' := IL_influence) (as := [_, _, _]) (dk kL_law_p19 20 rfl) mh_influence ml_L_285 rfl rfl rfl (Nat.le_of_ble_eq_true rfl) ⟨by decide, by decide⟩ ⟨?_, ?_⟩ (hg_influence cb kl ll _ (k_X8_influence cb.o vq cb.i.1.1 _) (sq_influence _ _)) (fun _ _ z => z.elim) ?_
  · show k + 1 ≤ 603072
    omega
  · show n + 6 ≤ 7190633
    omega
  rintro v M1 ⟨y, hv, hy, fy, hj, cb1⟩
  subst hv
  show WW G IL_law _ 2080 _ [.int y] M1 (k + 1) (n + 6)
  have rb1 := rb.fy fy (Nat.le_refl _)
  refine r_istore (dk kL_law_p19 21 rfl) (by decide) rfl ?_
  simp only [List.set_cons_succ, List.set_cons_zero]
  refine r_aload_n (dk kL_law_p19 22 rfl) rfl ?_
  refine r_aload_n (dk kL_law_p19 23 rfl) rfl ?_
  refine r_iload (dk kL_law_p19 24 rfl) rfl ?_
  refine r_iconst (v := 1) (dk kL_law_p19 25 rfl) (by decide) ?_
  refine r_iadd (dk kL_law_p19 26 rfl) ?_
  refine r_sld (dk kL_law_p19 27 rfl) (sc_in (k := 1) (by omega) hN rfl) ?_
  -- at 2089
  refine r_callV (I' := IX9_influence) (as := [_]) (dk kL_law_p19 28 rfl) mv_X9_influence ml_L_287 rfl rfl rb1.o.1 rfl rfl (Nat.le_of_ble_eq_true rfl) ⟨by decide, by decide⟩ ⟨?_, ?_⟩ (m_of_sp rb1 (sp := sp_influence (bg B) _) (by have h9 := k_X9_influence (G := G) rb1.o (rb1.gi cb.i) ((gs G).2.2 (nI i + 1).toNatClampNeg); rw [rb1.g] at h9; exact h9)) (fun _ _ z => z.elim) ?_
  · show k + 1 + 0 ≤ 603072
    omega
  · show n + 6 + 0 ≤ 7190633
    omega
  rintro v M2 ⟨z, hv, mr, h8, hz, B2, be, rb2⟩
  subst hv
  show WW G IL_law _ 2092 _ [.int z] M2 (k + 1) (n + 6)
  have lv2 := lv.step fy cb1 mr be rb2 (fo)
  refine r_istore (dk kL_law_p19 29 rfl) (by decide) rfl ?_
  simp only [List.set_cons_succ, List.set_cons_zero]
  refine r_aload_n (dk kL_law_p19 30 rfl) rfl ?_
  -- at 2095
  refine r_callVp (I' := IX9_thrown) (as := []) (dk kL_law_p19 31 rfl) mv_X9_thrown ml_L_177 rfl rfl rb2.o.1 rfl rfl (Nat.le_of_ble_eq_true rfl) ⟨by decide, by decide⟩ ⟨rfl, rfl⟩ ⟨?_, ?_⟩ (k_X9_thrown rb2.o) ?_
  · show k + 1 ≤ 603072
    omega
  · show n + 6 ≤ 7190633
    omega
  refine r_iload (dk kL_law_p19 32 rfl) rfl ?_
  refine r_icmp_eq (tgt := 2105) (dk kL_law_p19 33 rfl) (by decide) (fun c2100 => ?_) (fun c2100 => absurd (h8.trans hy.symm) c2100)
  refine r_iload (dk kL_law_p19 36 rfl) rfl ?_
  -- at 2107
  by_cases h0 : y = 0
  · have e9 : lg_cmp (mj M2 (x + 359) 0) z.toInt64 = 0 := by rw [mr.2.2.2.1, hj (hy.symm.trans h0), hz (hy.symm.trans h0)]; exact lg_cmp_self _
    refine r_if_ne (tgt := 2122) (dk kL_law_p19 37 rfl) (by decide) (fun c2107 => absurd c2107 (not_not_intro h0)) (fun c2107 => ?_)
    refine r_aload_n (dk kL_law_p19 38 rfl) rfl ?_
    refine r_iconst (v := 0) (dk kL_law_p19 39 rfl) (by decide) ?_
    refine r_lal (dk kL_law_p19 40 rfl) lv2.2.2.2.1 lv2.2.2.2.2.1 (j := 0) rfl (by decide) (by decide) ?_
    refine r_iload (dk kL_law_p19 41 rfl) rfl ?_
    refine r_i2l (dk kL_law_p19 42 rfl) ?_
    refine r_lcmp (dk kL_law_p19 43 rfl) ?_
    refine r_if_eq (tgt := 2122) (dk kL_law_p19 44 rfl) (by decide) (fun c2117 => ?_) (fun c2117 => absurd e9 c2117)
    refine r_goto (tgt := 3024) (dk kL_law_p19 47 rfl) (by decide) ?_
    -- at 3024
    exact nx _ _ _ _ _ _ _ _ lv2 (by omega) (by omega) (by omega)
  · refine r_if_ne (tgt := 2122) (dk kL_law_p19 37 rfl) (by decide) (fun c2107 => ?_) (fun c2107 => absurd h0 c2107)
    refine r_goto (tgt := 3024) (dk kL_law_p19 47 rfl) (by decide) ?_
    -- at 3024
    exact nx _ _ _ _ _ _ _ _ lv2 (by omega) (by omega) (by omega)
theorem arm_34 {P : Int32 → Mm → Prop} (lv : LV F M x B) (hF : F + 10 < 2 ^ 30) (hi : i + 5 ≤ (gs G).2.1) (hN : (gs G).2.1 ≤ 2560) (hk : k + 2 ≤ 603072) (hn : n + 12 ≤ 7190633) (l6 l7 l8 : Value) (nx : Nx G (qi P nox) F x i k n) : WW G IL_law (qi P nox) 2125 [.ref (gs G).1, .ref x, .ref (x + 350), .ref (x + 359), .ref (x + 360), .int (nI i), l6, l7, l8] [] M k n := by
  obtain ⟨q9, vq⟩ := lv.1.c1
  obtain ⟨cb, rb, fo, kl, ll, kd2, ll2⟩ := id lv
  refine r_aload_n (dk kL_law_p19 48 rfl) rfl ?_
  refine r_aload_n (dk kL_law_p19 49 rfl) rfl ?_
  refine r_iload (dk kL_law_p19 50 rfl) rfl ?_
  refine r_iconst (v := 1) (dk kL_law_p19 51 rfl) (by decide) ?_
  refine r_iadd (dk kL_law_p19 52 rfl) ?_
  refine r_sld (dk kL_law_p19 53 rfl) (sc_in (k := 1) (by omega) hN rfl) ?_
  refine r_aload_n (dk kL_law_p19 54 rfl) rfl ?_
  -- at 2133
  refine r_callSX (I' := IL_influenceByMarking) (as := [_, _, _]) (dk kL_law_p19 55 rfl) mh_influenceByMarking ml_L_288 rfl rfl rfl (Nat.le_of_ble_eq_true rfl) ⟨by decide, by decide⟩ ⟨?_, ?_⟩ (hg_influenceByMarking cb kl ll _ (k_X8_influenceByMarking cb.o vq cb.i.1.1 _) (sq_influence _ _)) (fun _ _ z => z.elim) ?_
  · show k + 1 ≤ 603072
    omega
  · show n + 6 ≤ 7190633
    omega
  rintro v M1 ⟨y, hv, hy, fy, hj, cb1⟩
  subst hv
  show WW G IL_law _ 2136 _ [.int y] M1 (k + 1) (n + 6)
  have rb1 := rb.fy fy (Nat.le_refl _)
  refine r_istore (dk kL_law_p19 56 rfl) (by decide) rfl ?_
  simp only [List.set_cons_succ, List.set_cons_zero]
  refine r_aload_n (dk kL_law_p19 57 rfl) rfl ?_
  refine r_aload_n (dk kL_law_p19 58 rfl) rfl ?_
  refine r_iload (dk kL_law_p19 59 rfl) rfl ?_
  refine r_iconst (v := 1) (dk kL_law_p20 0 rfl) (by decide) ?_
  refine r_iadd (dk kL_law_p20 1 rfl) ?_
  refine r_sld (dk kL_law_p20 2 rfl) (sc_in (k := 1) (by omega) hN rfl) ?_
  -- at 2145
  refine r_callV (I' := IX9_influenceByMarking) (as := [_]) (dk kL_law_p20 3 rfl) mv_X9_influenceByMarking ml_L_290 rfl rfl rb1.o.1 rfl rfl (Nat.le_of_ble_eq_true rfl) ⟨by decide, by decide⟩ ⟨?_, ?_⟩ (m_of_sp rb1 (sp := sp_influence (bg B) _) (by have h9 := k_X9_influenceByMarking (G := G) rb1.o (rb1.gi cb.i) ((gs G).2.2 (nI i + 1).toNatClampNeg); rw [rb1.g] at h9; exact h9)) (fun _ _ z => z.elim) ?_
  · show k + 1 + 0 ≤ 603072
    omega
  · show n + 6 + 0 ≤ 7190633
    omega
  rintro v M2 ⟨z, hv, mr, h8, hz, B2, be, rb2⟩
  subst hv
  show WW G IL_law _ 2148 _ [.int z] M2 (k + 1) (n + 6)
  have lv2 := lv.step fy cb1 mr be rb2 (fo)
  refine r_istore (dk kL_law_p20 4 rfl) (by decide) rfl ?_
  simp only [List.set_cons_succ, List.set_cons_zero]
  refine r_aload_n (dk kL_law_p20 5 rfl) rfl ?_
  -- at 2151
  refine r_callVp (I' := IX9_thrown) (as := []) (dk kL_law_p20 6 rfl) mv_X9_thrown ml_L_177 rfl rfl rb2.o.1 rfl rfl (Nat.le_of_ble_eq_true rfl) ⟨by decide, by decide⟩ ⟨rfl, rfl⟩ ⟨?_, ?_⟩ (k_X9_thrown rb2.o) ?_
  · show k + 1 ≤ 603072
    omega
  · show n + 6 ≤ 7190633
    omega
  refine r_iload (dk kL_law_p20 7 rfl) rfl ?_
  refine r_icmp_eq (tgt := 2161) (dk kL_law_p20 8 rfl) (by decide) (fun c2156 => ?_) (fun c2156 => absurd (h8.trans hy.symm) c2156)
  refine r_iload (dk kL_law_p20 11 rfl) rfl ?_
  -- at 2163
  by_cases h0 : y = 0
  · have e9 : lg_cmp (mj M2 (x + 359) 0) z.toInt64 = 0 := by rw [mr.2.2.2.1, hj (hy.symm.trans h0), hz (hy.symm.trans h0)]; exact lg_cmp_self _
    refine r_if_ne (tgt := 2178) (dk kL_law_p20 12 rfl) (by decide) (fun c2163 => absurd c2163 (not_not_intro h0)) (fun c2163 => ?_)
    refine r_aload_n (dk kL_law_p20 13 rfl) rfl ?_
    refine r_iconst (v := 0) (dk kL_law_p20 14 rfl) (by decide) ?_
    refine r_lal (dk kL_law_p20 15 rfl) lv2.2.2.2.1 lv2.2.2.2.2.1 (j := 0) rfl (by decide) (by decide) ?_
    refine r_iload (dk kL_law_p20 16 rfl) rfl ?_
    refine r_i2l (dk kL_law_p20 17 rfl) ?_
    refine r_lcmp (dk kL_law_p20 18 rfl) ?_
    refine r_if_eq (tgt := 2178) (dk kL_law_p20 19 rfl) (by decide) (fun c2173 => ?_) (fun c2173 => absurd e9 c2173)
    refine r_goto (tgt := 3024) (dk kL_law_p20 22 rfl) (by decide) ?_
    -- at 3024
    exact nx _ _ _ _ _ _ _ _ lv2 (by omega) (by omega) (by omega)
  · refine r_if_ne (tgt := 2178) (dk kL_law_p20 12 rfl) (by decide) (fun c2163 => ?_) (fun c2163 => absurd h0 c2163)
    refine r_goto (tgt := 3024) (dk kL_law_p20 22 rfl) (by decide) ?_
    -- at 3024
    exact nx _ _ _ _ _ _ _ _ lv2 (by omega) (by omega) (by omega)
theorem arm_35 {P : Int32 → Mm → Prop} (lv : LV F M x B) (hF : F + 10 < 2 ^ 30) (hi : i + 5 ≤ (gs G).2.1) (hN : (gs G).2.1 ≤ 2560) (hk : k + 2 ≤ 603072) (hn : n + 12 ≤ 7190633) (l6 l7 l8 : Value) (nx : Nx G (qi P nox) F x i k n) : WW G IL_law (qi P nox) 2181 [.ref (gs G).1, .ref x, .ref (x + 350), .ref (x + 359), .ref (x + 360), .int (nI i), l6, l7, l8] [] M k n := by
  obtain ⟨q9, vq⟩ := lv.1.c1
  obtain ⟨cb, rb, fo, kl, ll, kd2, ll2⟩ := id lv
  refine r_aload_n (dk kL_law_p20 23 rfl) rfl ?_
  refine r_aload_n (dk kL_law_p20 24 rfl) rfl ?_
  refine r_iload (dk kL_law_p20 25 rfl) rfl ?_
  refine r_iconst (v := 1) (dk kL_law_p20 26 rfl) (by decide) ?_
  refine r_iadd (dk kL_law_p20 27 rfl) ?_
  refine r_sld (dk kL_law_p20 28 rfl) (sc_in (k := 1) (by omega) hN rfl) ?_
  refine r_aload_n (dk kL_law_p20 29 rfl) rfl ?_
  -- at 2189
  refine r_callSX (I' := IL_rulingByInfluence) (as := [_, _, _]) (dk kL_law_p20 30 rfl) mh_rulingByInfluence ml_L_291 rfl rfl rfl (Nat.le_of_ble_eq_true rfl) ⟨by decide, by decide⟩ ⟨?_, ?_⟩ (hg_rulingByInfluence cb kl ll _ (k_X8_rulingByInfluence cb.o vq cb.i.1.1 _) (sq_rulingByInfluence _ _)) (fun _ _ z => z.elim) ?_
  · show k + 1 ≤ 603072
    omega
  · show n + 6 ≤ 7190633
    omega
  rintro v M1 ⟨y, hv, hy, fy, hj, cb1⟩
  subst hv
  show WW G IL_law _ 2192 _ [.int y] M1 (k + 1) (n + 6)
  have rb1 := rb.fy fy (Nat.le_refl _)
  refine r_istore (dk kL_law_p20 31 rfl) (by decide) rfl ?_
  simp only [List.set_cons_succ, List.set_cons_zero]
  refine r_aload_n (dk kL_law_p20 32 rfl) rfl ?_
  refine r_aload_n (dk kL_law_p20 33 rfl) rfl ?_
  refine r_iload (dk kL_law_p20 34 rfl) rfl ?_
  refine r_iconst (v := 1) (dk kL_law_p20 35 rfl) (by decide) ?_
  refine r_iadd (dk kL_law_p20 36 rfl) ?_
  refine r_sld (dk kL_law_p20 37 rfl) (sc_in (k := 1) (by omega) hN rfl) ?_
  -- at 2201
  refine r_callV (I' := IX9_rulingByInfluence) (as := [_]) (dk kL_law_p20 38 rfl) mv_X9_rulingByInfluence ml_L_293 rfl rfl rb1.o.1 rfl rfl (Nat.le_of_ble_eq_true rfl) ⟨by decide, by decide⟩ ⟨?_, ?_⟩ (m_of_s8 rb1 (sp := sp_rulingByInfluence (bg B) _) (by have h9 := k_X9_rulingByInfluence (G := G) rb1.o (rb1.gi cb.i) ((gs G).2.2 (nI i + 1).toNatClampNeg); rw [rb1.g] at h9; exact h9)) (fun _ _ z => z.elim) ?_
  · show k + 1 + 0 ≤ 603072
    omega
  · show n + 6 + 0 ≤ 7190633
    omega
  rintro v M2 ⟨z, hv, mr, h8, hz, B2, be, rb2⟩
  subst hv
  show WW G IL_law _ 2204 _ [.int z] M2 (k + 1) (n + 6)
  have lv2 := lv.step fy cb1 mr be rb2 (fo)
  refine r_istore (dk kL_law_p20 39 rfl) (by decide) rfl ?_
  simp only [List.set_cons_succ, List.set_cons_zero]
  refine r_aload_n (dk kL_law_p20 40 rfl) rfl ?_
  -- at 2207
  refine r_callVp (I' := IX9_thrown) (as := []) (dk kL_law_p20 41 rfl) mv_X9_thrown ml_L_177 rfl rfl rb2.o.1 rfl rfl (Nat.le_of_ble_eq_true rfl) ⟨by decide, by decide⟩ ⟨rfl, rfl⟩ ⟨?_, ?_⟩ (k_X9_thrown rb2.o) ?_
  · show k + 1 ≤ 603072
    omega
  · show n + 6 ≤ 7190633
    omega
  refine r_iload (dk kL_law_p20 42 rfl) rfl ?_
  refine r_icmp_eq (tgt := 2217) (dk kL_law_p20 43 rfl) (by decide) (fun c2212 => ?_) (fun c2212 => absurd (h8.trans hy.symm) c2212)
  refine r_iload (dk kL_law_p20 46 rfl) rfl ?_
  -- at 2219
  by_cases h0 : y = 0
  · have e9 : lg_cmp (mj M2 (x + 359) 0) z.toInt64 = 0 := by rw [mr.2.2.2.1, hj (hy.symm.trans h0), hz (hy.symm.trans h0)]; exact lg_cmp_self _
    refine r_if_ne (tgt := 2234) (dk kL_law_p20 47 rfl) (by decide) (fun c2219 => absurd c2219 (not_not_intro h0)) (fun c2219 => ?_)
    refine r_aload_n (dk kL_law_p20 48 rfl) rfl ?_
    refine r_iconst (v := 0) (dk kL_law_p20 49 rfl) (by decide) ?_
    refine r_lal (dk kL_law_p20 50 rfl) lv2.2.2.2.1 lv2.2.2.2.2.1 (j := 0) rfl (by decide) (by decide) ?_
    refine r_iload (dk kL_law_p20 51 rfl) rfl ?_
    refine r_i2l (dk kL_law_p20 52 rfl) ?_
    refine r_lcmp (dk kL_law_p20 53 rfl) ?_
    refine r_if_eq (tgt := 2234) (dk kL_law_p20 54 rfl) (by decide) (fun c2229 => ?_) (fun c2229 => absurd e9 c2229)
    refine r_goto (tgt := 3024) (dk kL_law_p20 57 rfl) (by decide) ?_
    -- at 3024
    exact nx _ _ _ _ _ _ _ _ lv2 (by omega) (by omega) (by omega)
  · refine r_if_ne (tgt := 2234) (dk kL_law_p20 47 rfl) (by decide) (fun c2219 => ?_) (fun c2219 => absurd h0 c2219)
    refine r_goto (tgt := 3024) (dk kL_law_p20 57 rfl) (by decide) ?_
    -- at 3024
    exact nx _ _ _ _ _ _ _ _ lv2 (by omega) (by omega) (by omega)
end LAW
