/-! THE LAW: its steps -/
section LAW
variable {G : GG} {M : Mm} {x F i k n : Nat} {B : BS}
theorem arm_0 {P : Int32 → Mm → Prop} (lv : LV F M x B) (hF : F + 10 < 2 ^ 30) (hi : i + 5 ≤ (gs G).2.1) (hN : (gs G).2.1 ≤ 2560) (hk : k + 2 ≤ 603072) (hn : n + 12 ≤ 7190633) (l6 l7 l8 : Value) (nx : Nx G (qi P nox) F x i k n) : WW G IL_law (qi P nox) 284 [.ref (gs G).1, .ref x, .ref (x + 350), .ref (x + 359), .ref (x + 360), .int (nI i), l6, l7, l8] [] M k n := by
  obtain ⟨cb, rb, fo, kl, ll, kd2, ll2⟩ := id lv
  refine r_aload_n (dk kL_law_p0 28 rfl) rfl ?_
  refine r_aload_n (dk kL_law_p0 29 rfl) rfl ?_
  refine r_iload (dk kL_law_p0 30 rfl) rfl ?_
  refine r_iconst (v := 1) (dk kL_law_p0 31 rfl) (by decide) ?_
  refine r_iadd (dk kL_law_p0 32 rfl) ?_
  refine r_sld (dk kL_law_p0 33 rfl) (sc_in (k := 1) (by omega) hN rfl) ?_
  refine r_aload_n (dk kL_law_p0 34 rfl) rfl ?_
  refine r_iload (dk kL_law_p0 35 rfl) rfl ?_
  refine r_iconst (v := 2) (dk kL_law_p0 36 rfl) (by decide) ?_
  refine r_iadd (dk kL_law_p0 37 rfl) ?_
  refine r_sld (dk kL_law_p0 38 rfl) (sc_in (k := 2) (by omega) hN rfl) ?_
  refine r_aload_n (dk kL_law_p0 39 rfl) rfl ?_
  -- at 298
  refine r_callSX (I' := IL_addStone) (as := [_, _, _, _]) (dk kL_law_p0 40 rfl) mh_addStone ml_L_171 rfl rfl rfl (Nat.le_of_ble_eq_true rfl) ⟨by decide, by decide⟩ ⟨?_, ?_⟩ (h_addStone cb (by omega) kl ll _ _) (fun _ _ z => z.elim) ?_
  · show k + 1 ≤ 603072
    omega
  · show n + 6 ≤ 7190633
    omega
  rintro v M1 ⟨y, hv, hy, fy, hj, cb1⟩
  subst hv
  show WW G IL_law _ 301 _ [.int y] M1 (k + 1) (n + 6)
  have rb1 := rb.fy fy (Nat.le_refl _)
  refine r_istore (dk kL_law_p0 41 rfl) (by decide) rfl ?_
  simp only [List.set_cons_succ, List.set_cons_zero]
  refine r_aload_n (dk kL_law_p0 42 rfl) rfl ?_
  refine r_aload_n (dk kL_law_p0 43 rfl) rfl ?_
  refine r_iload (dk kL_law_p0 44 rfl) rfl ?_
  refine r_iconst (v := 1) (dk kL_law_p0 45 rfl) (by decide) ?_
  refine r_iadd (dk kL_law_p0 46 rfl) ?_
  refine r_sld (dk kL_law_p0 47 rfl) (sc_in (k := 1) (by omega) hN rfl) ?_
  refine r_aload_n (dk kL_law_p0 48 rfl) rfl ?_
  refine r_iload (dk kL_law_p0 49 rfl) rfl ?_
  refine r_iconst (v := 2) (dk kL_law_p0 50 rfl) (by decide) ?_
  refine r_iadd (dk kL_law_p0 51 rfl) ?_
  refine r_sld (dk kL_law_p0 52 rfl) (sc_in (k := 2) (by omega) hN rfl) ?_
  -- at 316
  refine r_callV (I' := IX9_addStone) (as := [_, _]) (dk kL_law_p0 53 rfl) mv_X9_addStone ml_L_176 rfl rfl rb1.o.1 rfl rfl (Nat.le_of_ble_eq_true rfl) ⟨by decide, by decide⟩ ⟨?_, ?_⟩ (m_of_co rb1 cb.i (co := sp_addStone (bg B) _ _) (by have h9 := k_X9_addStone (G := G) rb1.o (rb1.gi cb.i) (rb1.nk cb.i) ((gs G).2.2 (nI i + 1).toNatClampNeg) ((gs G).2.2 (nI i + 2).toNatClampNeg); rw [rb1.g] at h9; exact h9)) (fun _ _ z => z.elim) ?_
  · show k + 1 + 0 ≤ 603072
    omega
  · show n + 6 + 0 ≤ 7190633
    omega
  rintro v M2 ⟨z, hv, mr, h8, hz, B2, be, rb2⟩
  subst hv
  show WW G IL_law _ 319 _ [.int z] M2 (k + 1) (n + 6)
  have lv2 := lv.step fy cb1 mr be rb2 (FO.out fo _)
  refine r_istore (dk kL_law_p0 54 rfl) (by decide) rfl ?_
  simp only [List.set_cons_succ, List.set_cons_zero]
  refine r_aload_n (dk kL_law_p0 55 rfl) rfl ?_
  -- at 322
  refine r_callVp (I' := IX9_thrown) (as := []) (dk kL_law_p0 56 rfl) mv_X9_thrown ml_L_177 rfl rfl rb2.o.1 rfl rfl (Nat.le_of_ble_eq_true rfl) ⟨by decide, by decide⟩ ⟨rfl, rfl⟩ ⟨?_, ?_⟩ (k_X9_thrown rb2.o) ?_
  · show k + 1 ≤ 603072
    omega
  · show n + 6 ≤ 7190633
    omega
  refine r_iload (dk kL_law_p0 57 rfl) rfl ?_
  refine r_icmp_eq (tgt := 332) (dk kL_law_p0 58 rfl) (by decide) (fun c327 => ?_) (fun c327 => absurd (h8.trans hy.symm) c327)
  refine r_iload (dk kL_law_p1 1 rfl) rfl ?_
  -- at 334
  by_cases h0 : y = 0
  · have e9 : lg_cmp (mj M2 (x + 359) 0) z.toInt64 = 0 := by rw [mr.2.2.2.1, hj (hy.symm.trans h0), hz (hy.symm.trans h0)]; exact lg_cmp_self _
    refine r_if_ne (tgt := 349) (dk kL_law_p1 2 rfl) (by decide) (fun c334 => absurd c334 (not_not_intro h0)) (fun c334 => ?_)
    refine r_aload_n (dk kL_law_p1 3 rfl) rfl ?_
    refine r_iconst (v := 0) (dk kL_law_p1 4 rfl) (by decide) ?_
    refine r_lal (dk kL_law_p1 5 rfl) lv2.2.2.2.1 lv2.2.2.2.2.1 (j := 0) rfl (by decide) (by decide) ?_
    refine r_iload (dk kL_law_p1 6 rfl) rfl ?_
    refine r_i2l (dk kL_law_p1 7 rfl) ?_
    refine r_lcmp (dk kL_law_p1 8 rfl) ?_
    refine r_if_eq (tgt := 349) (dk kL_law_p1 9 rfl) (by decide) (fun c344 => ?_) (fun c344 => absurd e9 c344)
    refine r_goto (tgt := 3024) (dk kL_law_p1 12 rfl) (by decide) ?_
    -- at 3024
    exact nx _ _ _ _ _ _ _ _ lv2 (by omega) (by omega) (by omega)
  · refine r_if_ne (tgt := 349) (dk kL_law_p1 2 rfl) (by decide) (fun c334 => ?_) (fun c334 => absurd h0 c334)
    refine r_goto (tgt := 3024) (dk kL_law_p1 12 rfl) (by decide) ?_
    -- at 3024
    exact nx _ _ _ _ _ _ _ _ lv2 (by omega) (by omega) (by omega)
theorem arm_1 {P : Int32 → Mm → Prop} (lv : LV F M x B) (hF : F + 10 < 2 ^ 30) (hi : i + 5 ≤ (gs G).2.1) (hN : (gs G).2.1 ≤ 2560) (hk : k + 2 ≤ 603072) (hn : n + 12 ≤ 7190633) (l6 l7 l8 : Value) (nx : Nx G (qi P nox) F x i k n) : WW G IL_law (qi P nox) 352 [.ref (gs G).1, .ref x, .ref (x + 350), .ref (x + 359), .ref (x + 360), .int (nI i), l6, l7, l8] [] M k n := by
  obtain ⟨cb, rb, fo, kl, ll, kd2, ll2⟩ := id lv
  refine r_aload_n (dk kL_law_p1 13 rfl) rfl ?_
  refine r_aload_n (dk kL_law_p1 14 rfl) rfl ?_
  refine r_iload (dk kL_law_p1 15 rfl) rfl ?_
  refine r_iconst (v := 1) (dk kL_law_p1 16 rfl) (by decide) ?_
  refine r_iadd (dk kL_law_p1 17 rfl) ?_
  refine r_sld (dk kL_law_p1 18 rfl) (sc_in (k := 1) (by omega) hN rfl) ?_
  refine r_aload_n (dk kL_law_p1 19 rfl) rfl ?_
  -- at 360
  refine r_callSX (I' := IL_addOfficer) (as := [_, _, _]) (dk kL_law_p1 20 rfl) mh_addOfficer ml_L_180 rfl rfl rfl (Nat.le_of_ble_eq_true rfl) ⟨by decide, by decide⟩ ⟨?_, ?_⟩ (h_addOfficer cb (by omega) kl ll _) (fun _ _ z => z.elim) ?_
  · show k + 1 ≤ 603072
    omega
  · show n + 6 ≤ 7190633
    omega
  rintro v M1 ⟨y, hv, hy, fy, hj, cb1⟩
  subst hv
  show WW G IL_law _ 363 _ [.int y] M1 (k + 1) (n + 6)
  have rb1 := rb.fy fy (Nat.le_refl _)
  refine r_istore (dk kL_law_p1 21 rfl) (by decide) rfl ?_
  simp only [List.set_cons_succ, List.set_cons_zero]
  refine r_aload_n (dk kL_law_p1 22 rfl) rfl ?_
  refine r_aload_n (dk kL_law_p1 23 rfl) rfl ?_
  refine r_iload (dk kL_law_p1 24 rfl) rfl ?_
  refine r_iconst (v := 1) (dk kL_law_p1 25 rfl) (by decide) ?_
  refine r_iadd (dk kL_law_p1 26 rfl) ?_
  refine r_sld (dk kL_law_p1 27 rfl) (sc_in (k := 1) (by omega) hN rfl) ?_
  -- at 372
  refine r_callV (I' := IX9_addOfficer) (as := [_]) (dk kL_law_p1 28 rfl) mv_X9_addOfficer ml_L_183 rfl rfl rb1.o.1 rfl rfl (Nat.le_of_ble_eq_true rfl) ⟨by decide, by decide⟩ ⟨?_, ?_⟩ (m_of_co rb1 cb.i (co := sp_addOfficer (bg B) _) (by have h9 := k_X9_addOfficer (G := G) rb1.o (rb1.gi cb.i) (rb1.nk cb.i) ((gs G).2.2 (nI i + 1).toNatClampNeg); rw [rb1.g] at h9; exact h9)) (fun _ _ z => z.elim) ?_
  · show k + 1 + 0 ≤ 603072
    omega
  · show n + 6 + 0 ≤ 7190633
    omega
  rintro v M2 ⟨z, hv, mr, h8, hz, B2, be, rb2⟩
  subst hv
  show WW G IL_law _ 375 _ [.int z] M2 (k + 1) (n + 6)
  have lv2 := lv.step fy cb1 mr be rb2 (FO.out fo _)
  refine r_istore (dk kL_law_p1 29 rfl) (by decide) rfl ?_
  simp only [List.set_cons_succ, List.set_cons_zero]
  refine r_aload_n (dk kL_law_p1 30 rfl) rfl ?_
  -- at 378
  refine r_callVp (I' := IX9_thrown) (as := []) (dk kL_law_p1 31 rfl) mv_X9_thrown ml_L_177 rfl rfl rb2.o.1 rfl rfl (Nat.le_of_ble_eq_true rfl) ⟨by decide, by decide⟩ ⟨rfl, rfl⟩ ⟨?_, ?_⟩ (k_X9_thrown rb2.o) ?_
  · show k + 1 ≤ 603072
    omega
  · show n + 6 ≤ 7190633
    omega
  refine r_iload (dk kL_law_p1 32 rfl) rfl ?_
  refine r_icmp_eq (tgt := 388) (dk kL_law_p1 33 rfl) (by decide) (fun c383 => ?_) (fun c383 => absurd (h8.trans hy.symm) c383)
  refine r_iload (dk kL_law_p1 36 rfl) rfl ?_
  -- at 390
  by_cases h0 : y = 0
  · have e9 : lg_cmp (mj M2 (x + 359) 0) z.toInt64 = 0 := by rw [mr.2.2.2.1, hj (hy.symm.trans h0), hz (hy.symm.trans h0)]; exact lg_cmp_self _
    refine r_if_ne (tgt := 405) (dk kL_law_p1 37 rfl) (by decide) (fun c390 => absurd c390 (not_not_intro h0)) (fun c390 => ?_)
    refine r_aload_n (dk kL_law_p1 38 rfl) rfl ?_
    refine r_iconst (v := 0) (dk kL_law_p1 39 rfl) (by decide) ?_
    refine r_lal (dk kL_law_p1 40 rfl) lv2.2.2.2.1 lv2.2.2.2.2.1 (j := 0) rfl (by decide) (by decide) ?_
    refine r_iload (dk kL_law_p1 41 rfl) rfl ?_
    refine r_i2l (dk kL_law_p1 42 rfl) ?_
    refine r_lcmp (dk kL_law_p1 43 rfl) ?_
    refine r_if_eq (tgt := 405) (dk kL_law_p1 44 rfl) (by decide) (fun c400 => ?_) (fun c400 => absurd e9 c400)
    refine r_goto (tgt := 3024) (dk kL_law_p1 47 rfl) (by decide) ?_
    -- at 3024
    exact nx _ _ _ _ _ _ _ _ lv2 (by omega) (by omega) (by omega)
  · refine r_if_ne (tgt := 405) (dk kL_law_p1 37 rfl) (by decide) (fun c390 => ?_) (fun c390 => absurd h0 c390)
    refine r_goto (tgt := 3024) (dk kL_law_p1 47 rfl) (by decide) ?_
    -- at 3024
    exact nx _ _ _ _ _ _ _ _ lv2 (by omega) (by omega) (by omega)
theorem arm_9 {P : Int32 → Mm → Prop} (lv : LV F M x B) (hF : F + 10 < 2 ^ 30) (hi : i + 5 ≤ (gs G).2.1) (hN : (gs G).2.1 ≤ 2560) (hk : k + 2 ≤ 603072) (hn : n + 12 ≤ 7190633) (l6 l7 l8 : Value) (nx : Nx G (qi P nox) F x i k n) : WW G IL_law (qi P nox) 714 [.ref (gs G).1, .ref x, .ref (x + 350), .ref (x + 359), .ref (x + 360), .int (nI i), l6, l7, l8] [] M k n := by
  obtain ⟨cb, rb, fo, kl, ll, kd2, ll2⟩ := id lv
  refine r_aload_n (dk kL_law_p4 57 rfl) rfl ?_
  refine r_aload_n (dk kL_law_p4 58 rfl) rfl ?_
  refine r_iload (dk kL_law_p4 59 rfl) rfl ?_
  refine r_iconst (v := 1) (dk kL_law_p5 0 rfl) (by decide) ?_
  refine r_iadd (dk kL_law_p5 1 rfl) ?_
  refine r_sld (dk kL_law_p5 2 rfl) (sc_in (k := 1) (by omega) hN rfl) ?_
  refine r_aload_n (dk kL_law_p5 3 rfl) rfl ?_
  refine r_iload (dk kL_law_p5 4 rfl) rfl ?_
  refine r_iconst (v := 2) (dk kL_law_p5 5 rfl) (by decide) ?_
  refine r_iadd (dk kL_law_p5 6 rfl) ?_
  refine r_sld (dk kL_law_p5 7 rfl) (sc_in (k := 2) (by omega) hN rfl) ?_
  refine r_aload_n (dk kL_law_p5 8 rfl) rfl ?_
  refine r_iload (dk kL_law_p5 9 rfl) rfl ?_
  refine r_iconst (v := 3) (dk kL_law_p5 10 rfl) (by decide) ?_
  refine r_iadd (dk kL_law_p5 11 rfl) ?_
  refine r_sld (dk kL_law_p5 12 rfl) (sc_in (k := 3) (by omega) hN rfl) ?_
  refine r_aload_n (dk kL_law_p5 13 rfl) rfl ?_
  refine r_iload (dk kL_law_p5 14 rfl) rfl ?_
  refine r_iconst (v := 4) (dk kL_law_p5 15 rfl) (by decide) ?_
  refine r_iadd (dk kL_law_p5 16 rfl) ?_
  refine r_sld (dk kL_law_p5 17 rfl) (sc_in (k := 4) (by omega) hN rfl) ?_
  refine r_aload_n (dk kL_law_p5 18 rfl) rfl ?_
  -- at 740
  refine r_callSX (I' := IL_file) (as := [_, _, _, _, _, _]) (dk kL_law_p5 19 rfl) mh_file ml_L_207 rfl rfl rfl (Nat.le_of_ble_eq_true rfl) ⟨by decide, by decide⟩ ⟨?_, ?_⟩ (h_file cb (by omega) kl ll _ _ _ _) (fun _ _ z => z.elim) ?_
  · show k + 1 ≤ 603072
    omega
  · show n + 6 ≤ 7190633
    omega
  rintro v M1 ⟨y, hv, hy, fy, hj, cb1⟩
  subst hv
  show WW G IL_law _ 743 _ [.int y] M1 (k + 1) (n + 6)
  have rb1 := rb.fy fy (Nat.le_refl _)
  refine r_istore (dk kL_law_p5 20 rfl) (by decide) rfl ?_
  simp only [List.set_cons_succ, List.set_cons_zero]
  refine r_aload_n (dk kL_law_p5 21 rfl) rfl ?_
  refine r_aload_n (dk kL_law_p5 22 rfl) rfl ?_
  refine r_iload (dk kL_law_p5 23 rfl) rfl ?_
  refine r_iconst (v := 1) (dk kL_law_p5 24 rfl) (by decide) ?_
  refine r_iadd (dk kL_law_p5 25 rfl) ?_
  refine r_sld (dk kL_law_p5 26 rfl) (sc_in (k := 1) (by omega) hN rfl) ?_
  refine r_aload_n (dk kL_law_p5 27 rfl) rfl ?_
  refine r_iload (dk kL_law_p5 28 rfl) rfl ?_
  refine r_iconst (v := 2) (dk kL_law_p5 29 rfl) (by decide) ?_
  refine r_iadd (dk kL_law_p5 30 rfl) ?_
  refine r_sld (dk kL_law_p5 31 rfl) (sc_in (k := 2) (by omega) hN rfl) ?_
  refine r_aload_n (dk kL_law_p5 32 rfl) rfl ?_
  refine r_iload (dk kL_law_p5 33 rfl) rfl ?_
  refine r_iconst (v := 3) (dk kL_law_p5 34 rfl) (by decide) ?_
  refine r_iadd (dk kL_law_p5 35 rfl) ?_
  refine r_sld (dk kL_law_p5 36 rfl) (sc_in (k := 3) (by omega) hN rfl) ?_
  refine r_aload_n (dk kL_law_p5 37 rfl) rfl ?_
  refine r_iload (dk kL_law_p5 38 rfl) rfl ?_
  refine r_iconst (v := 4) (dk kL_law_p5 39 rfl) (by decide) ?_
  refine r_iadd (dk kL_law_p5 40 rfl) ?_
  refine r_sld (dk kL_law_p5 41 rfl) (sc_in (k := 4) (by omega) hN rfl) ?_
  -- at 770
  refine r_callV (I' := IX9_file) (as := [_, _, _, _]) (dk kL_law_p5 42 rfl) mv_X9_file ml_L_210 rfl rfl rb1.o.1 rfl rfl (Nat.le_of_ble_eq_true rfl) ⟨by decide, by decide⟩ ⟨?_, ?_⟩ (m_of_co rb1 cb.i (co := sp_file (bg B) _ _ _ _) (by have h9 := k_X9_file (G := G) rb1.o (rb1.gi cb.i) (rb1.nk cb.i) ((gs G).2.2 (nI i + 1).toNatClampNeg) ((gs G).2.2 (nI i + 2).toNatClampNeg) ((gs G).2.2 (nI i + 3).toNatClampNeg) ((gs G).2.2 (nI i + 4).toNatClampNeg); rw [rb1.g] at h9; exact h9)) (fun _ _ z => z.elim) ?_
  · show k + 1 + 0 ≤ 603072
    omega
  · show n + 6 + 0 ≤ 7190633
    omega
  rintro v M2 ⟨z, hv, mr, h8, hz, B2, be, rb2⟩
  subst hv
  show WW G IL_law _ 773 _ [.int z] M2 (k + 1) (n + 6)
  have lv2 := lv.step fy cb1 mr be rb2 (FO.out fo _)
  refine r_istore (dk kL_law_p5 43 rfl) (by decide) rfl ?_
  simp only [List.set_cons_succ, List.set_cons_zero]
  refine r_aload_n (dk kL_law_p5 44 rfl) rfl ?_
  -- at 776
  refine r_callVp (I' := IX9_thrown) (as := []) (dk kL_law_p5 45 rfl) mv_X9_thrown ml_L_177 rfl rfl rb2.o.1 rfl rfl (Nat.le_of_ble_eq_true rfl) ⟨by decide, by decide⟩ ⟨rfl, rfl⟩ ⟨?_, ?_⟩ (k_X9_thrown rb2.o) ?_
  · show k + 1 ≤ 603072
    omega
  · show n + 6 ≤ 7190633
    omega
  refine r_iload (dk kL_law_p5 46 rfl) rfl ?_
  refine r_icmp_eq (tgt := 786) (dk kL_law_p5 47 rfl) (by decide) (fun c781 => ?_) (fun c781 => absurd (h8.trans hy.symm) c781)
  refine r_iload (dk kL_law_p5 50 rfl) rfl ?_
  -- at 788
  by_cases h0 : y = 0
  · have e9 : lg_cmp (mj M2 (x + 359) 0) z.toInt64 = 0 := by rw [mr.2.2.2.1, hj (hy.symm.trans h0), hz (hy.symm.trans h0)]; exact lg_cmp_self _
    refine r_if_ne (tgt := 803) (dk kL_law_p5 51 rfl) (by decide) (fun c788 => absurd c788 (not_not_intro h0)) (fun c788 => ?_)
    refine r_aload_n (dk kL_law_p5 52 rfl) rfl ?_
    refine r_iconst (v := 0) (dk kL_law_p5 53 rfl) (by decide) ?_
    refine r_lal (dk kL_law_p5 54 rfl) lv2.2.2.2.1 lv2.2.2.2.2.1 (j := 0) rfl (by decide) (by decide) ?_
    refine r_iload (dk kL_law_p5 55 rfl) rfl ?_
    refine r_i2l (dk kL_law_p5 56 rfl) ?_
    refine r_lcmp (dk kL_law_p5 57 rfl) ?_
    refine r_if_eq (tgt := 803) (dk kL_law_p5 58 rfl) (by decide) (fun c798 => ?_) (fun c798 => absurd e9 c798)
    refine r_goto (tgt := 3024) (dk kL_law_p6 1 rfl) (by decide) ?_
    -- at 3024
    exact nx _ _ _ _ _ _ _ _ lv2 (by omega) (by omega) (by omega)
  · refine r_if_ne (tgt := 803) (dk kL_law_p5 51 rfl) (by decide) (fun c788 => ?_) (fun c788 => absurd h0 c788)
    refine r_goto (tgt := 3024) (dk kL_law_p6 1 rfl) (by decide) ?_
    -- at 3024
    exact nx _ _ _ _ _ _ _ _ lv2 (by omega) (by omega) (by omega)
theorem arm_11 {P : Int32 → Mm → Prop} (lv : LV F M x B) (hF : F + 10 < 2 ^ 30) (hi : i + 5 ≤ (gs G).2.1) (hN : (gs G).2.1 ≤ 2560) (hk : k + 2 ≤ 603072) (hn : n + 12 ≤ 7190633) (l6 l7 l8 : Value) (nx : Nx G (qi P nox) F x i k n) : WW G IL_law (qi P nox) 902 [.ref (gs G).1, .ref x, .ref (x + 350), .ref (x + 359), .ref (x + 360), .int (nI i), l6, l7, l8] [] M k n := by
  obtain ⟨cb, rb, fo, kl, ll, kd2, ll2⟩ := id lv
  refine r_aload_n (dk kL_law_p7 5 rfl) rfl ?_
  refine r_aload_n (dk kL_law_p7 6 rfl) rfl ?_
  refine r_iload (dk kL_law_p7 7 rfl) rfl ?_
  refine r_iconst (v := 1) (dk kL_law_p7 8 rfl) (by decide) ?_
  refine r_iadd (dk kL_law_p7 9 rfl) ?_
  refine r_sld (dk kL_law_p7 10 rfl) (sc_in (k := 1) (by omega) hN rfl) ?_
  refine r_aload_n (dk kL_law_p7 11 rfl) rfl ?_
  refine r_iload (dk kL_law_p7 12 rfl) rfl ?_
  refine r_iconst (v := 2) (dk kL_law_p7 13 rfl) (by decide) ?_
  refine r_iadd (dk kL_law_p7 14 rfl) ?_
  refine r_sld (dk kL_law_p7 15 rfl) (sc_in (k := 2) (by omega) hN rfl) ?_
  refine r_aload_n (dk kL_law_p7 16 rfl) rfl ?_
  -- at 916
  refine r_callSX (I' := IL_cite) (as := [_, _, _, _]) (dk kL_law_p7 17 rfl) mh_cite ml_L_215 rfl rfl rfl (Nat.le_of_ble_eq_true rfl) ⟨by decide, by decide⟩ ⟨?_, ?_⟩ (h_cite cb (by omega) kl ll _ _) (fun _ _ z => z.elim) ?_
  · show k + 1 ≤ 603072
    omega
  · show n + 6 ≤ 7190633
    omega
  rintro v M1 ⟨y, hv, hy, fy, hj, cb1⟩
  subst hv
  show WW G IL_law _ 919 _ [.int y] M1 (k + 1) (n + 6)
  have rb1 := rb.fy fy (Nat.le_refl _)
  refine r_istore (dk kL_law_p7 18 rfl) (by decide) rfl ?_
  simp only [List.set_cons_succ, List.set_cons_zero]
  refine r_aload_n (dk kL_law_p7 19 rfl) rfl ?_
  refine r_aload_n (dk kL_law_p7 20 rfl) rfl ?_
  refine r_iload (dk kL_law_p7 21 rfl) rfl ?_
  refine r_iconst (v := 1) (dk kL_law_p7 22 rfl) (by decide) ?_
  refine r_iadd (dk kL_law_p7 23 rfl) ?_
  refine r_sld (dk kL_law_p7 24 rfl) (sc_in (k := 1) (by omega) hN rfl) ?_
  refine r_aload_n (dk kL_law_p7 25 rfl) rfl ?_
  refine r_iload (dk kL_law_p7 26 rfl) rfl ?_
  refine r_iconst (v := 2) (dk kL_law_p7 27 rfl) (by decide) ?_
  refine r_iadd (dk kL_law_p7 28 rfl) ?_
  refine r_sld (dk kL_law_p7 29 rfl) (sc_in (k := 2) (by omega) hN rfl) ?_
  -- at 934
  refine r_callV (I' := IX9_cite) (as := [_, _]) (dk kL_law_p7 30 rfl) mv_X9_cite ml_L_217 rfl rfl rb1.o.1 rfl rfl (Nat.le_of_ble_eq_true rfl) ⟨by decide, by decide⟩ ⟨?_, ?_⟩ (m_of_co rb1 cb.i (co := sp_cite (bg B) _ _) (by have h9 := k_X9_cite (G := G) rb1.o (rb1.gi cb.i) (rb1.nk cb.i) ((gs G).2.2 (nI i + 1).toNatClampNeg) ((gs G).2.2 (nI i + 2).toNatClampNeg); rw [rb1.g] at h9; exact h9)) (fun _ _ z => z.elim) ?_
  · show k + 1 + 0 ≤ 603072
    omega
  · show n + 6 + 0 ≤ 7190633
    omega
  rintro v M2 ⟨z, hv, mr, h8, hz, B2, be, rb2⟩
  subst hv
  show WW G IL_law _ 937 _ [.int z] M2 (k + 1) (n + 6)
  have lv2 := lv.step fy cb1 mr be rb2 (FO.out fo _)
  refine r_istore (dk kL_law_p7 31 rfl) (by decide) rfl ?_
  simp only [List.set_cons_succ, List.set_cons_zero]
  refine r_aload_n (dk kL_law_p7 32 rfl) rfl ?_
  -- at 940
  refine r_callVp (I' := IX9_thrown) (as := []) (dk kL_law_p7 33 rfl) mv_X9_thrown ml_L_177 rfl rfl rb2.o.1 rfl rfl (Nat.le_of_ble_eq_true rfl) ⟨by decide, by decide⟩ ⟨rfl, rfl⟩ ⟨?_, ?_⟩ (k_X9_thrown rb2.o) ?_
  · show k + 1 ≤ 603072
    omega
  · show n + 6 ≤ 7190633
    omega
  refine r_iload (dk kL_law_p7 34 rfl) rfl ?_
  refine r_icmp_eq (tgt := 950) (dk kL_law_p7 35 rfl) (by decide) (fun c945 => ?_) (fun c945 => absurd (h8.trans hy.symm) c945)
  refine r_iload (dk kL_law_p7 38 rfl) rfl ?_
  -- at 952
  by_cases h0 : y = 0
  · have e9 : lg_cmp (mj M2 (x + 359) 0) z.toInt64 = 0 := by rw [mr.2.2.2.1, hj (hy.symm.trans h0), hz (hy.symm.trans h0)]; exact lg_cmp_self _
    refine r_if_ne (tgt := 967) (dk kL_law_p7 39 rfl) (by decide) (fun c952 => absurd c952 (not_not_intro h0)) (fun c952 => ?_)
    refine r_aload_n (dk kL_law_p7 40 rfl) rfl ?_
    refine r_iconst (v := 0) (dk kL_law_p7 41 rfl) (by decide) ?_
    refine r_lal (dk kL_law_p7 42 rfl) lv2.2.2.2.1 lv2.2.2.2.2.1 (j := 0) rfl (by decide) (by decide) ?_
    refine r_iload (dk kL_law_p7 43 rfl) rfl ?_
    refine r_i2l (dk kL_law_p7 44 rfl) ?_
    refine r_lcmp (dk kL_law_p7 45 rfl) ?_
    refine r_if_eq (tgt := 967) (dk kL_law_p7 46 rfl) (by decide) (fun c962 => ?_) (fun c962 => absurd e9 c962)
    refine r_goto (tgt := 3024) (dk kL_law_p7 49 rfl) (by decide) ?_
    -- at 3024
    exact nx _ _ _ _ _ _ _ _ lv2 (by omega) (by omega) (by omega)
  · refine r_if_ne (tgt := 967) (dk kL_law_p7 39 rfl) (by decide) (fun c952 => ?_) (fun c952 => absurd h0 c952)
    refine r_goto (tgt := 3024) (dk kL_law_p7 49 rfl) (by decide) ?_
    -- at 3024
    exact nx _ _ _ _ _ _ _ _ lv2 (by omega) (by omega) (by omega)
theorem arm_12 {P : Int32 → Mm → Prop} (lv : LV F M x B) (hF : F + 10 < 2 ^ 30) (hi : i + 5 ≤ (gs G).2.1) (hN : (gs G).2.1 ≤ 2560) (hk : k + 2 ≤ 603072) (hn : n + 12 ≤ 7190633) (l6 l7 l8 : Value) (nx : Nx G (qi P nox) F x i k n) : WW G IL_law (qi P nox) 970 [.ref (gs G).1, .ref x, .ref (x + 350), .ref (x + 359), .ref (x + 360), .int (nI i), l6, l7, l8] [] M k n := by
  obtain ⟨cb, rb, fo, kl, ll, kd2, ll2⟩ := id lv
  refine r_aload_n (dk kL_law_p7 50 rfl) rfl ?_
  refine r_aload_n (dk kL_law_p7 51 rfl) rfl ?_
  refine r_iload (dk kL_law_p7 52 rfl) rfl ?_
  refine r_iconst (v := 1) (dk kL_law_p7 53 rfl) (by decide) ?_
  refine r_iadd (dk kL_law_p7 54 rfl) ?_
  refine r_sld (dk kL_law_p7 55 rfl) (sc_in (k := 1) (by omega) hN rfl) ?_
  refine r_aload_n (dk kL_law_p7 56 rfl) rfl ?_
  refine r_iload (dk kL_law_p7 57 rfl) rfl ?_
  refine r_iconst (v := 2) (dk kL_law_p7 58 rfl) (by decide) ?_
  refine r_iadd (dk kL_law_p7 59 rfl) ?_
  refine r_sld (dk kL_law_p8 0 rfl) (sc_in (k := 2) (by omega) hN rfl) ?_
  refine r_aload_n (dk kL_law_p8 1 rfl) rfl ?_
  -- at 984
  refine r_callSX (I' := IL_veto) (as := [_, _, _, _]) (dk kL_law_p8 2 rfl) mh_veto ml_L_218 rfl rfl rfl (Nat.le_of_ble_eq_true rfl) ⟨by decide, by decide⟩ ⟨?_, ?_⟩ (h_veto cb (by omega) kl ll _ _) (fun _ _ z => z.elim) ?_
  · show k + 1 ≤ 603072
    omega
  · show n + 6 ≤ 7190633
    omega
  rintro v M1 ⟨y, hv, hy, fy, hj, cb1⟩
  subst hv
  show WW G IL_law _ 987 _ [.int y] M1 (k + 1) (n + 6)
  have rb1 := rb.fy fy (Nat.le_refl _)
  refine r_istore (dk kL_law_p8 3 rfl) (by decide) rfl ?_
  simp only [List.set_cons_succ, List.set_cons_zero]
  refine r_aload_n (dk kL_law_p8 4 rfl) rfl ?_
  refine r_aload_n (dk kL_law_p8 5 rfl) rfl ?_
  refine r_iload (dk kL_law_p8 6 rfl) rfl ?_
  refine r_iconst (v := 1) (dk kL_law_p8 7 rfl) (by decide) ?_
  refine r_iadd (dk kL_law_p8 8 rfl) ?_
  refine r_sld (dk kL_law_p8 9 rfl) (sc_in (k := 1) (by omega) hN rfl) ?_
  refine r_aload_n (dk kL_law_p8 10 rfl) rfl ?_
  refine r_iload (dk kL_law_p8 11 rfl) rfl ?_
  refine r_iconst (v := 2) (dk kL_law_p8 12 rfl) (by decide) ?_
  refine r_iadd (dk kL_law_p8 13 rfl) ?_
  refine r_sld (dk kL_law_p8 14 rfl) (sc_in (k := 2) (by omega) hN rfl) ?_
  -- at 1002
  refine r_callV (I' := IX9_veto) (as := [_, _]) (dk kL_law_p8 15 rfl) mv_X9_veto ml_L_220 rfl rfl rb1.o.1 rfl rfl (Nat.le_of_ble_eq_true rfl) ⟨by decide, by decide⟩ ⟨?_, ?_⟩ (m_of_co rb1 cb.i (co := sp_veto (bg B) _ _) (by have h9 := k_X9_veto (G := G) rb1.o (rb1.gi cb.i) (rb1.nk cb.i) ((gs G).2.2 (nI i + 1).toNatClampNeg) ((gs G).2.2 (nI i + 2).toNatClampNeg); rw [rb1.g] at h9; exact h9)) (fun _ _ z => z.elim) ?_
  · show k + 1 + 0 ≤ 603072
    omega
  · show n + 6 + 0 ≤ 7190633
    omega
  rintro v M2 ⟨z, hv, mr, h8, hz, B2, be, rb2⟩
  subst hv
  show WW G IL_law _ 1005 _ [.int z] M2 (k + 1) (n + 6)
  have lv2 := lv.step fy cb1 mr be rb2 (FO.out fo _)
  refine r_istore (dk kL_law_p8 16 rfl) (by decide) rfl ?_
  simp only [List.set_cons_succ, List.set_cons_zero]
  refine r_aload_n (dk kL_law_p8 17 rfl) rfl ?_
  -- at 1008
  refine r_callVp (I' := IX9_thrown) (as := []) (dk kL_law_p8 18 rfl) mv_X9_thrown ml_L_177 rfl rfl rb2.o.1 rfl rfl (Nat.le_of_ble_eq_true rfl) ⟨by decide, by decide⟩ ⟨rfl, rfl⟩ ⟨?_, ?_⟩ (k_X9_thrown rb2.o) ?_
  · show k + 1 ≤ 603072
    omega
  · show n + 6 ≤ 7190633
    omega
  refine r_iload (dk kL_law_p8 19 rfl) rfl ?_
  refine r_icmp_eq (tgt := 1018) (dk kL_law_p8 20 rfl) (by decide) (fun c1013 => ?_) (fun c1013 => absurd (h8.trans hy.symm) c1013)
  refine r_iload (dk kL_law_p8 23 rfl) rfl ?_
  -- at 1020
  by_cases h0 : y = 0
  · have e9 : lg_cmp (mj M2 (x + 359) 0) z.toInt64 = 0 := by rw [mr.2.2.2.1, hj (hy.symm.trans h0), hz (hy.symm.trans h0)]; exact lg_cmp_self _
    refine r_if_ne (tgt := 1035) (dk kL_law_p8 24 rfl) (by decide) (fun c1020 => absurd c1020 (not_not_intro h0)) (fun c1020 => ?_)
    refine r_aload_n (dk kL_law_p8 25 rfl) rfl ?_
    refine r_iconst (v := 0) (dk kL_law_p8 26 rfl) (by decide) ?_
    refine r_lal (dk kL_law_p8 27 rfl) lv2.2.2.2.1 lv2.2.2.2.2.1 (j := 0) rfl (by decide) (by decide) ?_
    refine r_iload (dk kL_law_p8 28 rfl) rfl ?_
    refine r_i2l (dk kL_law_p8 29 rfl) ?_
    refine r_lcmp (dk kL_law_p8 30 rfl) ?_
    refine r_if_eq (tgt := 1035) (dk kL_law_p8 31 rfl) (by decide) (fun c1030 => ?_) (fun c1030 => absurd e9 c1030)
    refine r_goto (tgt := 3024) (dk kL_law_p8 34 rfl) (by decide) ?_
    -- at 3024
    exact nx _ _ _ _ _ _ _ _ lv2 (by omega) (by omega) (by omega)
  · refine r_if_ne (tgt := 1035) (dk kL_law_p8 24 rfl) (by decide) (fun c1020 => ?_) (fun c1020 => absurd h0 c1020)
    refine r_goto (tgt := 3024) (dk kL_law_p8 34 rfl) (by decide) ?_
    -- at 3024
    exact nx _ _ _ _ _ _ _ _ lv2 (by omega) (by omega) (by omega)
theorem arm_13 {P : Int32 → Mm → Prop} (lv : LV F M x B) (hF : F + 10 < 2 ^ 30) (hi : i + 5 ≤ (gs G).2.1) (hN : (gs G).2.1 ≤ 2560) (hk : k + 2 ≤ 603072) (hn : n + 12 ≤ 7190633) (l6 l7 l8 : Value) (nx : Nx G (qi P nox) F x i k n) : WW G IL_law (qi P nox) 1038 [.ref (gs G).1, .ref x, .ref (x + 350), .ref (x + 359), .ref (x + 360), .int (nI i), l6, l7, l8] [] M k n := by
  obtain ⟨cb, rb, fo, kl, ll, kd2, ll2⟩ := id lv
  refine r_aload_n (dk kL_law_p8 35 rfl) rfl ?_
  refine r_aload_n (dk kL_law_p8 36 rfl) rfl ?_
  refine r_iload (dk kL_law_p8 37 rfl) rfl ?_
  refine r_iconst (v := 1) (dk kL_law_p8 38 rfl) (by decide) ?_
  refine r_iadd (dk kL_law_p8 39 rfl) ?_
  refine r_sld (dk kL_law_p8 40 rfl) (sc_in (k := 1) (by omega) hN rfl) ?_
  refine r_aload_n (dk kL_law_p8 41 rfl) rfl ?_
  -- at 1046
  refine r_callSX (I' := IL_withdraw) (as := [_, _, _]) (dk kL_law_p8 42 rfl) mh_withdraw ml_L_221 rfl rfl rfl (Nat.le_of_ble_eq_true rfl) ⟨by decide, by decide⟩ ⟨?_, ?_⟩ (h_withdraw cb (by omega) kl ll _) (fun _ _ z => z.elim) ?_
  · show k + 1 ≤ 603072
    omega
  · show n + 6 ≤ 7190633
    omega
  rintro v M1 ⟨y, hv, hy, fy, hj, cb1⟩
  subst hv
  show WW G IL_law _ 1049 _ [.int y] M1 (k + 1) (n + 6)
  have rb1 := rb.fy fy (Nat.le_refl _)
  refine r_istore (dk kL_law_p8 43 rfl) (by decide) rfl ?_
  simp only [List.set_cons_succ, List.set_cons_zero]
  refine r_aload_n (dk kL_law_p8 44 rfl) rfl ?_
  refine r_aload_n (dk kL_law_p8 45 rfl) rfl ?_
  refine r_iload (dk kL_law_p8 46 rfl) rfl ?_
  refine r_iconst (v := 1) (dk kL_law_p8 47 rfl) (by decide) ?_
  refine r_iadd (dk kL_law_p8 48 rfl) ?_
  refine r_sld (dk kL_law_p8 49 rfl) (sc_in (k := 1) (by omega) hN rfl) ?_
  -- at 1058
  refine r_callV (I' := IX9_withdraw) (as := [_]) (dk kL_law_p8 50 rfl) mv_X9_withdraw ml_L_223 rfl rfl rb1.o.1 rfl rfl (Nat.le_of_ble_eq_true rfl) ⟨by decide, by decide⟩ ⟨?_, ?_⟩ (m_of_co rb1 cb.i (co := sp_withdraw (bg B) _) (by have h9 := k_X9_withdraw (G := G) rb1.o (rb1.gi cb.i) (rb1.nk cb.i) ((gs G).2.2 (nI i + 1).toNatClampNeg); rw [rb1.g] at h9; exact h9)) (fun _ _ z => z.elim) ?_
  · show k + 1 + 0 ≤ 603072
    omega
  · show n + 6 + 0 ≤ 7190633
    omega
  rintro v M2 ⟨z, hv, mr, h8, hz, B2, be, rb2⟩
  subst hv
  show WW G IL_law _ 1061 _ [.int z] M2 (k + 1) (n + 6)
  have lv2 := lv.step fy cb1 mr be rb2 (FO.out fo _)
  refine r_istore (dk kL_law_p8 51 rfl) (by decide) rfl ?_
  simp only [List.set_cons_succ, List.set_cons_zero]
  refine r_aload_n (dk kL_law_p8 52 rfl) rfl ?_
  -- at 1064
  refine r_callVp (I' := IX9_thrown) (as := []) (dk kL_law_p8 53 rfl) mv_X9_thrown ml_L_177 rfl rfl rb2.o.1 rfl rfl (Nat.le_of_ble_eq_true rfl) ⟨by decide, by decide⟩ ⟨rfl, rfl⟩ ⟨?_, ?_⟩ (k_X9_thrown rb2.o) ?_
  · show k + 1 ≤ 603072
    omega
  · show n + 6 ≤ 7190633
    omega
  refine r_iload (dk kL_law_p8 54 rfl) rfl ?_
  refine r_icmp_eq (tgt := 1074) (dk kL_law_p8 55 rfl) (by decide) (fun c1069 => ?_) (fun c1069 => absurd (h8.trans hy.symm) c1069)
  refine r_iload (dk kL_law_p8 58 rfl) rfl ?_
  -- at 1076
  by_cases h0 : y = 0
  · have e9 : lg_cmp (mj M2 (x + 359) 0) z.toInt64 = 0 := by rw [mr.2.2.2.1, hj (hy.symm.trans h0), hz (hy.symm.trans h0)]; exact lg_cmp_self _
    refine r_if_ne (tgt := 1091) (dk kL_law_p8 59 rfl) (by decide) (fun c1076 => absurd c1076 (not_not_intro h0)) (fun c1076 => ?_)
    refine r_aload_n (dk kL_law_p9 0 rfl) rfl ?_
    refine r_iconst (v := 0) (dk kL_law_p9 1 rfl) (by decide) ?_
    refine r_lal (dk kL_law_p9 2 rfl) lv2.2.2.2.1 lv2.2.2.2.2.1 (j := 0) rfl (by decide) (by decide) ?_
    refine r_iload (dk kL_law_p9 3 rfl) rfl ?_
    refine r_i2l (dk kL_law_p9 4 rfl) ?_
    refine r_lcmp (dk kL_law_p9 5 rfl) ?_
    refine r_if_eq (tgt := 1091) (dk kL_law_p9 6 rfl) (by decide) (fun c1086 => ?_) (fun c1086 => absurd e9 c1086)
    refine r_goto (tgt := 3024) (dk kL_law_p9 9 rfl) (by decide) ?_
    -- at 3024
    exact nx _ _ _ _ _ _ _ _ lv2 (by omega) (by omega) (by omega)
  · refine r_if_ne (tgt := 1091) (dk kL_law_p8 59 rfl) (by decide) (fun c1076 => ?_) (fun c1076 => absurd h0 c1076)
    refine r_goto (tgt := 3024) (dk kL_law_p9 9 rfl) (by decide) ?_
    -- at 3024
    exact nx _ _ _ _ _ _ _ _ lv2 (by omega) (by omega) (by omega)
theorem arm_22 {P : Int32 → Mm → Prop} (lv : LV F M x B) (hF : F + 10 < 2 ^ 30) (hi : i + 5 ≤ (gs G).2.1) (hN : (gs G).2.1 ≤ 2560) (hk : k + 2 ≤ 603072) (hn : n + 12 ≤ 7190633) (l6 l7 l8 : Value) (nx : Nx G (qi P nox) F x i k n) : WW G IL_law (qi P nox) 1506 [.ref (gs G).1, .ref x, .ref (x + 350), .ref (x + 359), .ref (x + 360), .int (nI i), l6, l7, l8] [] M k n := by
  obtain ⟨cb, rb, fo, kl, ll, kd2, ll2⟩ := id lv
  refine r_aload_n (dk kL_law_p13 25 rfl) rfl ?_
  refine r_aload_n (dk kL_law_p13 26 rfl) rfl ?_
  refine r_iload (dk kL_law_p13 27 rfl) rfl ?_
  refine r_iconst (v := 1) (dk kL_law_p13 28 rfl) (by decide) ?_
  refine r_iadd (dk kL_law_p13 29 rfl) ?_
  refine r_sld (dk kL_law_p13 30 rfl) (sc_in (k := 1) (by omega) hN rfl) ?_
  refine r_aload_n (dk kL_law_p13 31 rfl) rfl ?_
  -- at 1514
  refine r_callSX (I' := IL_setQuorum) (as := [_, _, _]) (dk kL_law_p13 32 rfl) mh_setQuorum ml_L_249 rfl rfl rfl (Nat.le_of_ble_eq_true rfl) ⟨by decide, by decide⟩ ⟨?_, ?_⟩ (h_setQuorum cb (by omega) kl ll _) (fun _ _ z => z.elim) ?_
  · show k + 1 ≤ 603072
    omega
  · show n + 6 ≤ 7190633
    omega
  rintro v M1 ⟨y, hv, hy, fy, hj, cb1⟩
  subst hv
  show WW G IL_law _ 1517 _ [.int y] M1 (k + 1) (n + 6)
  have rb1 := rb.fy fy (Nat.le_refl _)
  refine r_istore (dk kL_law_p13 33 rfl) (by decide) rfl ?_
  simp only [List.set_cons_succ, List.set_cons_zero]
  refine r_aload_n (dk kL_law_p13 34 rfl) rfl ?_
  refine r_aload_n (dk kL_law_p13 35 rfl) rfl ?_
  refine r_iload (dk kL_law_p13 36 rfl) rfl ?_
  refine r_iconst (v := 1) (dk kL_law_p13 37 rfl) (by decide) ?_
  refine r_iadd (dk kL_law_p13 38 rfl) ?_
  refine r_sld (dk kL_law_p13 39 rfl) (sc_in (k := 1) (by omega) hN rfl) ?_
  -- at 1526
  refine r_callV (I' := IX9_setQuorum) (as := [_]) (dk kL_law_p13 40 rfl) mv_X9_setQuorum ml_L_251 rfl rfl rb1.o.1 rfl rfl (Nat.le_of_ble_eq_true rfl) ⟨by decide, by decide⟩ ⟨?_, ?_⟩ (m_of_co rb1 cb.i (co := sp_setQuorum (bg B) _) (by have h9 := k_X9_setQuorum (G := G) rb1.o (rb1.gi cb.i) (rb1.nk cb.i) ((gs G).2.2 (nI i + 1).toNatClampNeg); rw [rb1.g] at h9; exact h9)) (fun _ _ z => z.elim) ?_
  · show k + 1 + 0 ≤ 603072
    omega
  · show n + 6 + 0 ≤ 7190633
    omega
  rintro v M2 ⟨z, hv, mr, h8, hz, B2, be, rb2⟩
  subst hv
  show WW G IL_law _ 1529 _ [.int z] M2 (k + 1) (n + 6)
  have lv2 := lv.step fy cb1 mr be rb2 (FO.out fo _)
  refine r_istore (dk kL_law_p13 41 rfl) (by decide) rfl ?_
  simp only [List.set_cons_succ, List.set_cons_zero]
  refine r_aload_n (dk kL_law_p13 42 rfl) rfl ?_
  -- at 1532
  refine r_callVp (I' := IX9_thrown) (as := []) (dk kL_law_p13 43 rfl) mv_X9_thrown ml_L_177 rfl rfl rb2.o.1 rfl rfl (Nat.le_of_ble_eq_true rfl) ⟨by decide, by decide⟩ ⟨rfl, rfl⟩ ⟨?_, ?_⟩ (k_X9_thrown rb2.o) ?_
  · show k + 1 ≤ 603072
    omega
  · show n + 6 ≤ 7190633
    omega
  refine r_iload (dk kL_law_p13 44 rfl) rfl ?_
  refine r_icmp_eq (tgt := 1542) (dk kL_law_p13 45 rfl) (by decide) (fun c1537 => ?_) (fun c1537 => absurd (h8.trans hy.symm) c1537)
  refine r_iload (dk kL_law_p13 48 rfl) rfl ?_
  -- at 1544
  by_cases h0 : y = 0
  · have e9 : lg_cmp (mj M2 (x + 359) 0) z.toInt64 = 0 := by rw [mr.2.2.2.1, hj (hy.symm.trans h0), hz (hy.symm.trans h0)]; exact lg_cmp_self _
    refine r_if_ne (tgt := 1559) (dk kL_law_p13 49 rfl) (by decide) (fun c1544 => absurd c1544 (not_not_intro h0)) (fun c1544 => ?_)
    refine r_aload_n (dk kL_law_p13 50 rfl) rfl ?_
    refine r_iconst (v := 0) (dk kL_law_p13 51 rfl) (by decide) ?_
    refine r_lal (dk kL_law_p13 52 rfl) lv2.2.2.2.1 lv2.2.2.2.2.1 (j := 0) rfl (by decide) (by decide) ?_
    refine r_iload (dk kL_law_p13 53 rfl) rfl ?_
    refine r_i2l (dk kL_law_p13 54 rfl) ?_
    refine r_lcmp (dk kL_law_p13 55 rfl) ?_
    refine r_if_eq (tgt := 1559) (dk kL_law_p13 56 rfl) (by decide) (fun c1554 => ?_) (fun c1554 => absurd e9 c1554)
    refine r_goto (tgt := 3024) (dk kL_law_p13 59 rfl) (by decide) ?_
    -- at 3024
    exact nx _ _ _ _ _ _ _ _ lv2 (by omega) (by omega) (by omega)
  · refine r_if_ne (tgt := 1559) (dk kL_law_p13 49 rfl) (by decide) (fun c1544 => ?_) (fun c1544 => absurd h0 c1544)
    refine r_goto (tgt := 3024) (dk kL_law_p13 59 rfl) (by decide) ?_
    -- at 3024
    exact nx _ _ _ _ _ _ _ _ lv2 (by omega) (by omega) (by omega)
theorem arm_23 {P : Int32 → Mm → Prop} (lv : LV F M x B) (hF : F + 10 < 2 ^ 30) (hi : i + 5 ≤ (gs G).2.1) (hN : (gs G).2.1 ≤ 2560) (hk : k + 2 ≤ 603072) (hn : n + 12 ≤ 7190633) (l6 l7 l8 : Value) (nx : Nx G (qi P nox) F x i k n) : WW G IL_law (qi P nox) 1562 [.ref (gs G).1, .ref x, .ref (x + 350), .ref (x + 359), .ref (x + 360), .int (nI i), l6, l7, l8] [] M k n := by
  obtain ⟨cb, rb, fo, kl, ll, kd2, ll2⟩ := id lv
  refine r_aload_n (dk kL_law_p14 0 rfl) rfl ?_
  refine r_aload_n (dk kL_law_p14 1 rfl) rfl ?_
  -- at 1564
  refine r_callSX (I' := IL_decide) (as := [_, _]) (dk kL_law_p14 2 rfl) mh_decide ml_L_252 rfl rfl rfl (Nat.le_of_ble_eq_true rfl) ⟨by decide, by decide⟩ ⟨?_, ?_⟩ (h_decide cb (by omega) kl ll) (fun _ _ z => z.elim) ?_
  · show k + 1 ≤ 603072
    omega
  · show n + 6 ≤ 7190633
    omega
  rintro v M1 ⟨y, hv, hy, fy, hj, cb1⟩
  subst hv
  show WW G IL_law _ 1567 _ [.int y] M1 (k + 1) (n + 6)
  have rb1 := rb.fy fy (Nat.le_refl _)
  refine r_istore (dk kL_law_p14 3 rfl) (by decide) rfl ?_
  simp only [List.set_cons_succ, List.set_cons_zero]
  refine r_aload_n (dk kL_law_p14 4 rfl) rfl ?_
  -- at 1570
  refine r_callV (I' := IX9_decide) (as := []) (dk kL_law_p14 5 rfl) mv_X9_decide ml_L_255 rfl rfl rb1.o.1 rfl rfl (Nat.le_of_ble_eq_true rfl) ⟨by decide, by decide⟩ ⟨?_, ?_⟩ (m_decide rb1 cb.i) (fun _ _ z => z.elim) ?_
  · show k + 1 + 0 ≤ 603072
    omega
  · show n + 6 + 0 ≤ 7190633
    omega
  rintro v M2 ⟨z, hv, mr, h8, hz, B2, be, rb2⟩
  subst hv
  show WW G IL_law _ 1573 _ [.int z] M2 (k + 1) (n + 6)
  have lv2 := lv.step fy cb1 mr be rb2 (FO.out fo _)
  refine r_istore (dk kL_law_p14 6 rfl) (by decide) rfl ?_
  simp only [List.set_cons_succ, List.set_cons_zero]
  refine r_aload_n (dk kL_law_p14 7 rfl) rfl ?_
  -- at 1576
  refine r_callVp (I' := IX9_thrown) (as := []) (dk kL_law_p14 8 rfl) mv_X9_thrown ml_L_177 rfl rfl rb2.o.1 rfl rfl (Nat.le_of_ble_eq_true rfl) ⟨by decide, by decide⟩ ⟨rfl, rfl⟩ ⟨?_, ?_⟩ (k_X9_thrown rb2.o) ?_
  · show k + 1 ≤ 603072
    omega
  · show n + 6 ≤ 7190633
    omega
  refine r_iload (dk kL_law_p14 9 rfl) rfl ?_
  refine r_icmp_eq (tgt := 1586) (dk kL_law_p14 10 rfl) (by decide) (fun c1581 => ?_) (fun c1581 => absurd (h8.trans hy.symm) c1581)
  refine r_iload (dk kL_law_p14 13 rfl) rfl ?_
  -- at 1588
  by_cases h0 : y = 0
  · have e9 : lg_cmp (mj M2 (x + 359) 0) z.toInt64 = 0 := by rw [mr.2.2.2.1, hj (hy.symm.trans h0), hz (hy.symm.trans h0)]; exact lg_cmp_self _
    refine r_if_ne (tgt := 1603) (dk kL_law_p14 14 rfl) (by decide) (fun c1588 => absurd c1588 (not_not_intro h0)) (fun c1588 => ?_)
    refine r_aload_n (dk kL_law_p14 15 rfl) rfl ?_
    refine r_iconst (v := 0) (dk kL_law_p14 16 rfl) (by decide) ?_
    refine r_lal (dk kL_law_p14 17 rfl) lv2.2.2.2.1 lv2.2.2.2.2.1 (j := 0) rfl (by decide) (by decide) ?_
    refine r_iload (dk kL_law_p14 18 rfl) rfl ?_
    refine r_i2l (dk kL_law_p14 19 rfl) ?_
    refine r_lcmp (dk kL_law_p14 20 rfl) ?_
    refine r_if_eq (tgt := 1603) (dk kL_law_p14 21 rfl) (by decide) (fun c1598 => ?_) (fun c1598 => absurd e9 c1598)
    refine r_goto (tgt := 3024) (dk kL_law_p14 24 rfl) (by decide) ?_
    -- at 3024
    exact nx _ _ _ _ _ _ _ _ lv2 (by omega) (by omega) (by omega)
  · refine r_if_ne (tgt := 1603) (dk kL_law_p14 14 rfl) (by decide) (fun c1588 => ?_) (fun c1588 => absurd h0 c1588)
    refine r_goto (tgt := 3024) (dk kL_law_p14 24 rfl) (by decide) ?_
    -- at 3024
    exact nx _ _ _ _ _ _ _ _ lv2 (by omega) (by omega) (by omega)
end LAW
