/-! THE LAW: its steps: votes, letters, lines, snapshots, counts -/
theorem nch_i2c (v : Int32) : narrow .char (.int (v.toUInt32 % 65536).toInt32) = .int (v.toUInt32 % 65536).toInt32 := by
  have h : v.toUInt32 % 65536 % 65536 = v.toUInt32 % 65536 := UInt32.toNat_inj.mp (by simp only [UInt32.toNat_mod]; exact Nat.mod_mod _ _)
  simp [narrow]
  rw [h]
section LAW
variable {G : GG} {M : Mm} {x F i k n : Nat} {B : BS}
theorem arm_10_T {P : Int32 → Mm → Prop} (lv : LV F M x B) (hF : F + 10 < 2 ^ 30) (hi : i + 5 ≤ (gs G).2.1) (hN : (gs G).2.1 ≤ 2560) (hk : k + 2 ≤ 603072) (hn : n + 12 ≤ 7190633) (hb : ((gs G).2.2 (nI i + 3).toNatClampNeg) = 0) (l6 l7 l8 : Value) (nx : Nx G (qi P nox) F x i k n) : WW G IL_law (qi P nox) 806 [.ref (gs G).1, .ref x, .ref (x + 350), .ref (x + 359), .ref (x + 360), .int (nI i), l6, l7, l8] [] M k n := by
  obtain ⟨cb, rb, fo, kl, ll, kd2, ll2⟩ := id lv
  refine r_aload_n (dk kL_law_p6 2 rfl) rfl ?_
  refine r_aload_n (dk kL_law_p6 3 rfl) rfl ?_
  refine r_iload (dk kL_law_p6 4 rfl) rfl ?_
  refine r_iconst (v := 1) (dk kL_law_p6 5 rfl) (by decide) ?_
  refine r_iadd (dk kL_law_p6 6 rfl) ?_
  refine r_sld (dk kL_law_p6 7 rfl) (sc_in (k := 1) (by omega) hN rfl) ?_
  refine r_aload_n (dk kL_law_p6 8 rfl) rfl ?_
  refine r_iload (dk kL_law_p6 9 rfl) rfl ?_
  refine r_iconst (v := 2) (dk kL_law_p6 10 rfl) (by decide) ?_
  refine r_iadd (dk kL_law_p6 11 rfl) ?_
  refine r_sld (dk kL_law_p6 12 rfl) (sc_in (k := 2) (by omega) hN rfl) ?_
  refine r_aload_n (dk kL_law_p6 13 rfl) rfl ?_
  refine r_iload (dk kL_law_p6 14 rfl) rfl ?_
  refine r_iconst (v := 3) (dk kL_law_p6 15 rfl) (by decide) ?_
  refine r_iadd (dk kL_law_p6 16 rfl) ?_
  refine r_sld (dk kL_law_p6 17 rfl) (sc_in (k := 3) (by omega) hN rfl) ?_
  refine r_if_eq (tgt := 832) (dk kL_law_p6 18 rfl) (by decide) (fun c825 => ?_) (fun c825 => absurd hb c825)
  refine r_iconst (v := 0) (dk kL_law_p6 21 rfl) (by decide) ?_
  refine r_aload_n (dk kL_law_p6 22 rfl) rfl ?_
  -- at 834
  refine r_callSX (I' := IL_vote) (as := [_, _, _, _, _]) (dk kL_law_p6 23 rfl) mh_vote ml_L_211 rfl rfl rfl (Nat.le_of_ble_eq_true rfl) ⟨by decide, by decide⟩ ⟨?_, ?_⟩ (h_vote cb (by omega) kl ll _ _ 0) (fun _ _ z => z.elim) ?_
  · show k + 1 ≤ 603072
    omega
  · show n + 6 ≤ 7190633
    omega
  rintro v M1 ⟨y, hv, hy, fy, hj, cb1⟩
  subst hv
  show WW G IL_law _ 837 _ [.int y] M1 (k + 1) (n + 6)
  have rb1 := rb.fy fy (Nat.le_refl _)
  refine r_istore (dk kL_law_p6 24 rfl) (by decide) rfl ?_
  simp only [List.set_cons_succ, List.set_cons_zero]
  refine r_aload_n (dk kL_law_p6 25 rfl) rfl ?_
  refine r_aload_n (dk kL_law_p6 26 rfl) rfl ?_
  refine r_iload (dk kL_law_p6 27 rfl) rfl ?_
  refine r_iconst (v := 1) (dk kL_law_p6 28 rfl) (by decide) ?_
  refine r_iadd (dk kL_law_p6 29 rfl) ?_
  refine r_sld (dk kL_law_p6 30 rfl) (sc_in (k := 1) (by omega) hN rfl) ?_
  refine r_aload_n (dk kL_law_p6 31 rfl) rfl ?_
  refine r_iload (dk kL_law_p6 32 rfl) rfl ?_
  refine r_iconst (v := 2) (dk kL_law_p6 33 rfl) (by decide) ?_
  refine r_iadd (dk kL_law_p6 34 rfl) ?_
  refine r_sld (dk kL_law_p6 35 rfl) (sc_in (k := 2) (by omega) hN rfl) ?_
  refine r_aload_n (dk kL_law_p6 36 rfl) rfl ?_
  refine r_iload (dk kL_law_p6 37 rfl) rfl ?_
  refine r_iconst (v := 3) (dk kL_law_p6 38 rfl) (by decide) ?_
  refine r_iadd (dk kL_law_p6 39 rfl) ?_
  refine r_sld (dk kL_law_p6 40 rfl) (sc_in (k := 3) (by omega) hN rfl) ?_
  refine r_if_eq (tgt := 865) (dk kL_law_p6 41 rfl) (by decide) (fun c858 => ?_) (fun c858 => absurd hb c858)
  refine r_iconst (v := 0) (dk kL_law_p6 44 rfl) (by decide) ?_
  -- at 866
  refine r_callV (I' := IX9_vote) (as := [_, _, _]) (dk kL_law_p6 45 rfl) mv_X9_vote ml_L_214 rfl rfl rb1.o.1 rfl rfl (Nat.le_of_ble_eq_true rfl) ⟨by decide, by decide⟩ ⟨?_, ?_⟩ (m_of_co rb1 cb.i (co := sp_vote (bg B) _ _ 0) (by have h9 := k_X9_vote (G := G) rb1.o (rb1.gi cb.i) (rb1.nk cb.i) ((gs G).2.2 (nI i + 1).toNatClampNeg) ((gs G).2.2 (nI i + 2).toNatClampNeg) 0; rw [rb1.g] at h9; exact h9)) (fun _ _ z => z.elim) ?_
  · show k + 1 + 0 ≤ 603072
    omega
  · show n + 6 + 0 ≤ 7190633
    omega
  rintro v M2 ⟨z, hv, mr, h8, hz, B2, be, rb2⟩
  subst hv
  show WW G IL_law _ 869 _ [.int z] M2 (k + 1) (n + 6)
  have lv2 := lv.step fy cb1 mr be rb2 (FO.out fo _)
  refine r_istore (dk kL_law_p6 46 rfl) (by decide) rfl ?_
  simp only [List.set_cons_succ, List.set_cons_zero]
  refine r_aload_n (dk kL_law_p6 47 rfl) rfl ?_
  -- at 872
  refine r_callVp (I' := IX9_thrown) (as := []) (dk kL_law_p6 48 rfl) mv_X9_thrown ml_L_177 rfl rfl rb2.o.1 rfl rfl (Nat.le_of_ble_eq_true rfl) ⟨by decide, by decide⟩ ⟨rfl, rfl⟩ ⟨?_, ?_⟩ (k_X9_thrown rb2.o) ?_
  · show k + 1 ≤ 603072
    omega
  · show n + 6 ≤ 7190633
    omega
  refine r_iload (dk kL_law_p6 49 rfl) rfl ?_
  refine r_icmp_eq (tgt := 882) (dk kL_law_p6 50 rfl) (by decide) (fun c877 => ?_) (fun c877 => absurd (h8.trans hy.symm) c877)
  refine r_iload (dk kL_law_p6 53 rfl) rfl ?_
  -- at 884
  by_cases h0 : y = 0
  · have e9 : lg_cmp (mj M2 (x + 359) 0) z.toInt64 = 0 := by rw [mr.2.2.2.1, hj (hy.symm.trans h0), hz (hy.symm.trans h0)]; exact lg_cmp_self _
    refine r_if_ne (tgt := 899) (dk kL_law_p6 54 rfl) (by decide) (fun c884 => absurd c884 (not_not_intro h0)) (fun c884 => ?_)
    refine r_aload_n (dk kL_law_p6 55 rfl) rfl ?_
    refine r_iconst (v := 0) (dk kL_law_p6 56 rfl) (by decide) ?_
    refine r_lal (dk kL_law_p6 57 rfl) lv2.2.2.2.1 lv2.2.2.2.2.1 (j := 0) rfl (by decide) (by decide) ?_
    refine r_iload (dk kL_law_p6 58 rfl) rfl ?_
    refine r_i2l (dk kL_law_p6 59 rfl) ?_
    refine r_lcmp (dk kL_law_p7 0 rfl) ?_
    refine r_if_eq (tgt := 899) (dk kL_law_p7 1 rfl) (by decide) (fun c894 => ?_) (fun c894 => absurd e9 c894)
    refine r_goto (tgt := 3024) (dk kL_law_p7 4 rfl) (by decide) ?_
    -- at 3024
    exact nx _ _ _ _ _ _ _ _ lv2 (by omega) (by omega) (by omega)
  · refine r_if_ne (tgt := 899) (dk kL_law_p6 54 rfl) (by decide) (fun c884 => ?_) (fun c884 => absurd h0 c884)
    refine r_goto (tgt := 3024) (dk kL_law_p7 4 rfl) (by decide) ?_
    -- at 3024
    exact nx _ _ _ _ _ _ _ _ lv2 (by omega) (by omega) (by omega)
theorem arm_10_F {P : Int32 → Mm → Prop} (lv : LV F M x B) (hF : F + 10 < 2 ^ 30) (hi : i + 5 ≤ (gs G).2.1) (hN : (gs G).2.1 ≤ 2560) (hk : k + 2 ≤ 603072) (hn : n + 12 ≤ 7190633) (hb : ¬ ((gs G).2.2 (nI i + 3).toNatClampNeg) = 0) (l6 l7 l8 : Value) (nx : Nx G (qi P nox) F x i k n) : WW G IL_law (qi P nox) 806 [.ref (gs G).1, .ref x, .ref (x + 350), .ref (x + 359), .ref (x + 360), .int (nI i), l6, l7, l8] [] M k n := by
  obtain ⟨cb, rb, fo, kl, ll, kd2, ll2⟩ := id lv
  refine r_aload_n (dk kL_law_p6 2 rfl) rfl ?_
  refine r_aload_n (dk kL_law_p6 3 rfl) rfl ?_
  refine r_iload (dk kL_law_p6 4 rfl) rfl ?_
  refine r_iconst (v := 1) (dk kL_law_p6 5 rfl) (by decide) ?_
  refine r_iadd (dk kL_law_p6 6 rfl) ?_
  refine r_sld (dk kL_law_p6 7 rfl) (sc_in (k := 1) (by omega) hN rfl) ?_
  refine r_aload_n (dk kL_law_p6 8 rfl) rfl ?_
  refine r_iload (dk kL_law_p6 9 rfl) rfl ?_
  refine r_iconst (v := 2) (dk kL_law_p6 10 rfl) (by decide) ?_
  refine r_iadd (dk kL_law_p6 11 rfl) ?_
  refine r_sld (dk kL_law_p6 12 rfl) (sc_in (k := 2) (by omega) hN rfl) ?_
  refine r_aload_n (dk kL_law_p6 13 rfl) rfl ?_
  refine r_iload (dk kL_law_p6 14 rfl) rfl ?_
  refine r_iconst (v := 3) (dk kL_law_p6 15 rfl) (by decide) ?_
  refine r_iadd (dk kL_law_p6 16 rfl) ?_
  refine r_sld (dk kL_law_p6 17 rfl) (sc_in (k := 3) (by omega) hN rfl) ?_
  refine r_if_eq (tgt := 832) (dk kL_law_p6 18 rfl) (by decide) (fun c825 => absurd c825 hb) (fun c825 => ?_)
  refine r_iconst (v := 1) (dk kL_law_p6 19 rfl) (by decide) ?_
  refine r_goto (tgt := 833) (dk kL_law_p6 20 rfl) (by decide) ?_
  refine r_aload_n (dk kL_law_p6 22 rfl) rfl ?_
  -- at 834
  refine r_callSX (I' := IL_vote) (as := [_, _, _, _, _]) (dk kL_law_p6 23 rfl) mh_vote ml_L_211 rfl rfl rfl (Nat.le_of_ble_eq_true rfl) ⟨by decide, by decide⟩ ⟨?_, ?_⟩ (h_vote cb (by omega) kl ll _ _ 1) (fun _ _ z => z.elim) ?_
  · show k + 1 ≤ 603072
    omega
  · show n + 6 ≤ 7190633
    omega
  rintro v M1 ⟨y, hv, hy, fy, hj, cb1⟩
  subst hv
  show WW G IL_law _ 837 _ [.int y] M1 (k + 1) (n + 6)
  have rb1 := rb.fy fy (Nat.le_refl _)
  refine r_istore (dk kL_law_p6 24 rfl) (by decide) rfl ?_
  simp only [List.set_cons_succ, List.set_cons_zero]
  refine r_aload_n (dk kL_law_p6 25 rfl) rfl ?_
  refine r_aload_n (dk kL_law_p6 26 rfl) rfl ?_
  refine r_iload (dk kL_law_p6 27 rfl) rfl ?_
  refine r_iconst (v := 1) (dk kL_law_p6 28 rfl) (by decide) ?_
  refine r_iadd (dk kL_law_p6 29 rfl) ?_
  refine r_sld (dk kL_law_p6 30 rfl) (sc_in (k := 1) (by omega) hN rfl) ?_
  refine r_aload_n (dk kL_law_p6 31 rfl) rfl ?_
  refine r_iload (dk kL_law_p6 32 rfl) rfl ?_
  refine r_iconst (v := 2) (dk kL_law_p6 33 rfl) (by decide) ?_
  refine r_iadd (dk kL_law_p6 34 rfl) ?_
  refine r_sld (dk kL_law_p6 35 rfl) (sc_in (k := 2) (by omega) hN rfl) ?_
  refine r_aload_n (dk kL_law_p6 36 rfl) rfl ?_
  refine r_iload (dk kL_law_p6 37 rfl) rfl ?_
  refine r_iconst (v := 3) (dk kL_law_p6 38 rfl) (by decide) ?_
  refine r_iadd (dk kL_law_p6 39 rfl) ?_
  refine r_sld (dk kL_law_p6 40 rfl) (sc_in (k := 3) (by omega) hN rfl) ?_
  refine r_if_eq (tgt := 865) (dk kL_law_p6 41 rfl) (by decide) (fun c858 => absurd c858 hb) (fun c858 => ?_)
  refine r_iconst (v := 1) (dk kL_law_p6 42 rfl) (by decide) ?_
  refine r_goto (tgt := 866) (dk kL_law_p6 43 rfl) (by decide) ?_
  -- at 866
  refine r_callV (I' := IX9_vote) (as := [_, _, _]) (dk kL_law_p6 45 rfl) mv_X9_vote ml_L_214 rfl rfl rb1.o.1 rfl rfl (Nat.le_of_ble_eq_true rfl) ⟨by decide, by decide⟩ ⟨?_, ?_⟩ (m_of_co rb1 cb.i (co := sp_vote (bg B) _ _ 1) (by have h9 := k_X9_vote (G := G) rb1.o (rb1.gi cb.i) (rb1.nk cb.i) ((gs G).2.2 (nI i + 1).toNatClampNeg) ((gs G).2.2 (nI i + 2).toNatClampNeg) 1; rw [rb1.g] at h9; exact h9)) (fun _ _ z => z.elim) ?_
  · show k + 1 + 0 ≤ 603072
    omega
  · show n + 6 + 0 ≤ 7190633
    omega
  rintro v M2 ⟨z, hv, mr, h8, hz, B2, be, rb2⟩
  subst hv
  show WW G IL_law _ 869 _ [.int z] M2 (k + 1) (n + 6)
  have lv2 := lv.step fy cb1 mr be rb2 (FO.out fo _)
  refine r_istore (dk kL_law_p6 46 rfl) (by decide) rfl ?_
  simp only [List.set_cons_succ, List.set_cons_zero]
  refine r_aload_n (dk kL_law_p6 47 rfl) rfl ?_
  -- at 872
  refine r_callVp (I' := IX9_thrown) (as := []) (dk kL_law_p6 48 rfl) mv_X9_thrown ml_L_177 rfl rfl rb2.o.1 rfl rfl (Nat.le_of_ble_eq_true rfl) ⟨by decide, by decide⟩ ⟨rfl, rfl⟩ ⟨?_, ?_⟩ (k_X9_thrown rb2.o) ?_
  · show k + 1 ≤ 603072
    omega
  · show n + 6 ≤ 7190633
    omega
  refine r_iload (dk kL_law_p6 49 rfl) rfl ?_
  refine r_icmp_eq (tgt := 882) (dk kL_law_p6 50 rfl) (by decide) (fun c877 => ?_) (fun c877 => absurd (h8.trans hy.symm) c877)
  refine r_iload (dk kL_law_p6 53 rfl) rfl ?_
  -- at 884
  by_cases h0 : y = 0
  · have e9 : lg_cmp (mj M2 (x + 359) 0) z.toInt64 = 0 := by rw [mr.2.2.2.1, hj (hy.symm.trans h0), hz (hy.symm.trans h0)]; exact lg_cmp_self _
    refine r_if_ne (tgt := 899) (dk kL_law_p6 54 rfl) (by decide) (fun c884 => absurd c884 (not_not_intro h0)) (fun c884 => ?_)
    refine r_aload_n (dk kL_law_p6 55 rfl) rfl ?_
    refine r_iconst (v := 0) (dk kL_law_p6 56 rfl) (by decide) ?_
    refine r_lal (dk kL_law_p6 57 rfl) lv2.2.2.2.1 lv2.2.2.2.2.1 (j := 0) rfl (by decide) (by decide) ?_
    refine r_iload (dk kL_law_p6 58 rfl) rfl ?_
    refine r_i2l (dk kL_law_p6 59 rfl) ?_
    refine r_lcmp (dk kL_law_p7 0 rfl) ?_
    refine r_if_eq (tgt := 899) (dk kL_law_p7 1 rfl) (by decide) (fun c894 => ?_) (fun c894 => absurd e9 c894)
    refine r_goto (tgt := 3024) (dk kL_law_p7 4 rfl) (by decide) ?_
    -- at 3024
    exact nx _ _ _ _ _ _ _ _ lv2 (by omega) (by omega) (by omega)
  · refine r_if_ne (tgt := 899) (dk kL_law_p6 54 rfl) (by decide) (fun c884 => ?_) (fun c884 => absurd h0 c884)
    refine r_goto (tgt := 3024) (dk kL_law_p7 4 rfl) (by decide) ?_
    -- at 3024
    exact nx _ _ _ _ _ _ _ _ lv2 (by omega) (by omega) (by omega)
theorem arm_42 {P : Int32 → Mm → Prop} (lv : LV F M x B) (hF : F + 10 < 2 ^ 30) (hi : i + 5 ≤ (gs G).2.1) (hN : (gs G).2.1 ≤ 2560) (hk : k + 2 ≤ 603072) (hn : n + 12 ≤ 7190633) (l6 l7 l8 : Value) (nx : Nx G (qi P nox) F x i k n) : WW G IL_law (qi P nox) 2420 [.ref (gs G).1, .ref x, .ref (x + 350), .ref (x + 359), .ref (x + 360), .int (nI i), l6, l7, l8] [] M k n := by
  obtain ⟨cb, rb, fo, kl, ll, kd2, ll2⟩ := id lv
  refine r_aload_n (dk kL_law_p22 39 rfl) rfl ?_
  refine r_aload_n (dk kL_law_p22 40 rfl) rfl ?_
  refine r_iload (dk kL_law_p22 41 rfl) rfl ?_
  refine r_iconst (v := 1) (dk kL_law_p22 42 rfl) (by decide) ?_
  refine r_iadd (dk kL_law_p22 43 rfl) ?_
  refine r_sld (dk kL_law_p22 44 rfl) (sc_in (k := 1) (by omega) hN rfl) ?_
  refine r_i2c (dk kL_law_p22 45 rfl) ?_
  refine r_aload_n (dk kL_law_p22 46 rfl) rfl ?_
  -- at 2429
  refine r_callSX (I' := IL_feed) (as := [_, _, _]) (dk kL_law_p22 47 rfl) mh_feed ml_L_317 rfl rfl rfl (Nat.le_of_ble_eq_true rfl) ⟨by decide, by decide⟩ ⟨?_, ?_⟩ (hg_feed cb kl ll _ (k_X8_feed cb (nch_i2c _))) (fun _ _ z => z.elim) ?_
  · show k + 1 ≤ 603072
    omega
  · show n + 6 ≤ 7190633
    omega
  rintro v M1 ⟨y, hv, hy, fy, hj, cb1⟩
  subst hv
  show WW G IL_law _ 2432 _ [.int y] M1 (k + 1) (n + 6)
  have rb1 := rb.fy fy (Nat.le_refl _)
  refine r_istore (dk kL_law_p22 48 rfl) (by decide) rfl ?_
  simp only [List.set_cons_succ, List.set_cons_zero]
  refine r_aload_n (dk kL_law_p22 49 rfl) rfl ?_
  refine r_aload_n (dk kL_law_p22 50 rfl) rfl ?_
  refine r_iload (dk kL_law_p22 51 rfl) rfl ?_
  refine r_iconst (v := 1) (dk kL_law_p22 52 rfl) (by decide) ?_
  refine r_iadd (dk kL_law_p22 53 rfl) ?_
  refine r_sld (dk kL_law_p22 54 rfl) (sc_in (k := 1) (by omega) hN rfl) ?_
  refine r_i2c (dk kL_law_p22 55 rfl) ?_
  -- at 2442
  refine r_callV (I' := IX9_feed) (as := [_]) (dk kL_law_p22 56 rfl) mv_X9_feed ml_L_320 rfl rfl rb1.o.1 rfl rfl (Nat.le_of_ble_eq_true rfl) ⟨by decide, by decide⟩ ⟨?_, ?_⟩ (m_feed rb1 _) (fun _ _ z => z.elim) ?_
  · show k + 1 + 0 ≤ 603072
    omega
  · show n + 6 + 0 ≤ 7190633
    omega
  rintro v M2 ⟨z, hv, mr, h8, hz, B2, be, rb2⟩
  subst hv
  show WW G IL_law _ 2445 _ [.int z] M2 (k + 1) (n + 6)
  have lv2 := lv.step fy cb1 mr be rb2 (by split <;> exact fo)
  refine r_istore (dk kL_law_p22 57 rfl) (by decide) rfl ?_
  simp only [List.set_cons_succ, List.set_cons_zero]
  refine r_aload_n (dk kL_law_p22 58 rfl) rfl ?_
  -- at 2448
  refine r_callVp (I' := IX9_thrown) (as := []) (dk kL_law_p22 59 rfl) mv_X9_thrown ml_L_177 rfl rfl rb2.o.1 rfl rfl (Nat.le_of_ble_eq_true rfl) ⟨by decide, by decide⟩ ⟨rfl, rfl⟩ ⟨?_, ?_⟩ (k_X9_thrown rb2.o) ?_
  · show k + 1 ≤ 603072
    omega
  · show n + 6 ≤ 7190633
    omega
  refine r_iload (dk kL_law_p23 0 rfl) rfl ?_
  refine r_icmp_eq (tgt := 2458) (dk kL_law_p23 1 rfl) (by decide) (fun c2453 => ?_) (fun c2453 => absurd (h8.trans hy.symm) c2453)
  refine r_iload (dk kL_law_p23 4 rfl) rfl ?_
  -- at 2460
  by_cases h0 : y = 0
  · have e9 : lg_cmp (mj M2 (x + 359) 0) z.toInt64 = 0 := by rw [mr.2.2.2.1, hj (hy.symm.trans h0), hz (hy.symm.trans h0)]; exact lg_cmp_self _
    refine r_if_ne (tgt := 2475) (dk kL_law_p23 5 rfl) (by decide) (fun c2460 => absurd c2460 (not_not_intro h0)) (fun c2460 => ?_)
    refine r_aload_n (dk kL_law_p23 6 rfl) rfl ?_
    refine r_iconst (v := 0) (dk kL_law_p23 7 rfl) (by decide) ?_
    refine r_lal (dk kL_law_p23 8 rfl) lv2.2.2.2.1 lv2.2.2.2.2.1 (j := 0) rfl (by decide) (by decide) ?_
    refine r_iload (dk kL_law_p23 9 rfl) rfl ?_
    refine r_i2l (dk kL_law_p23 10 rfl) ?_
    refine r_lcmp (dk kL_law_p23 11 rfl) ?_
    refine r_if_eq (tgt := 2475) (dk kL_law_p23 12 rfl) (by decide) (fun c2470 => ?_) (fun c2470 => absurd e9 c2470)
    refine r_goto (tgt := 3024) (dk kL_law_p23 15 rfl) (by decide) ?_
    -- at 3024
    exact nx _ _ _ _ _ _ _ _ lv2 (by omega) (by omega) (by omega)
  · refine r_if_ne (tgt := 2475) (dk kL_law_p23 5 rfl) (by decide) (fun c2460 => ?_) (fun c2460 => absurd h0 c2460)
    refine r_goto (tgt := 3024) (dk kL_law_p23 15 rfl) (by decide) ?_
    -- at 3024
    exact nx _ _ _ _ _ _ _ _ lv2 (by omega) (by omega) (by omega)
theorem arm_45_N {P : Int32 → Mm → Prop} (lv : LV F M x B) (hF : F + 10 < 2 ^ 30) (hi : i + 5 ≤ (gs G).2.1) (hN : (gs G).2.1 ≤ 2560) (hk : k + 2 ≤ 603072) (hn : n + 12 ≤ 7190633) (hp : gPlace (bg B) ((gs G).2.2 (nI i + 1).toNatClampNeg) = none) (l6 l7 l8 : Value) (nx : Nx G (qi P nox) F x i k n) : WW G IL_law (qi P nox) 2566 [.ref (gs G).1, .ref x, .ref (x + 350), .ref (x + 359), .ref (x + 360), .int (nI i), l6, l7, l8] [] M k n := by
  obtain ⟨cb, rb, fo, kl, ll, kd2, ll2⟩ := id lv
  refine r_aload_n (dk kL_law_p24 6 rfl) rfl ?_
  refine r_aload_n (dk kL_law_p24 7 rfl) rfl ?_
  refine r_iload (dk kL_law_p24 8 rfl) rfl ?_
  refine r_iconst (v := 1) (dk kL_law_p24 9 rfl) (by decide) ?_
  refine r_iadd (dk kL_law_p24 10 rfl) ?_
  refine r_sld (dk kL_law_p24 11 rfl) (sc_in (k := 1) (by omega) hN rfl) ?_
  refine r_aload_n (dk kL_law_p24 12 rfl) rfl ?_
  -- at 2574
  refine r_callSX (I' := IL_writePetition) (as := [_, _, _]) (dk kL_law_p24 13 rfl) mh_writePetition ml_L_327 rfl rfl rfl (Nat.le_of_ble_eq_true rfl) ⟨by decide, by decide⟩ ⟨?_, ?_⟩ (hg_writePetition cb kl ll _ (k_X8_writePetitionN cb hp 0 B)) (fun _ _ z => z.elim) ?_
  · show k + 1 ≤ 603072
    omega
  · show n + 6 ≤ 7190633
    omega
  rintro v M1 ⟨y, hv, hy, fy, hj, cb1⟩
  subst hv
  show WW G IL_law _ 2577 _ [.int y] M1 (k + 1) (n + 6)
  have rb1 := rb.fy fy (Nat.le_refl _)
  refine r_istore (dk kL_law_p24 14 rfl) (by decide) rfl ?_
  simp only [List.set_cons_succ, List.set_cons_zero]
  refine r_aload_n (dk kL_law_p24 15 rfl) rfl ?_
  refine r_aload_n (dk kL_law_p24 16 rfl) rfl ?_
  refine r_iload (dk kL_law_p24 17 rfl) rfl ?_
  refine r_iconst (v := 1) (dk kL_law_p24 18 rfl) (by decide) ?_
  refine r_iadd (dk kL_law_p24 19 rfl) ?_
  refine r_sld (dk kL_law_p24 20 rfl) (sc_in (k := 1) (by omega) hN rfl) ?_
  -- at 2586
  refine r_callV (I' := IX9_writePetition) (as := [_]) (dk kL_law_p24 21 rfl) mv_X9_writePetition ml_L_329 rfl rfl rb1.o.1 rfl rfl (Nat.le_of_ble_eq_true rfl) ⟨by decide, by decide⟩ ⟨?_, ?_⟩ (m_writePetitionN rb1 cb.i hp 0) (fun _ _ z => z.elim) ?_
  · show k + 1 + 0 ≤ 603072
    omega
  · show n + 6 + 0 ≤ 7190633
    omega
  rintro v M2 ⟨z, hv, mr, h8, hz, B2, be, rb2⟩
  subst hv
  show WW G IL_law _ 2589 _ [.int z] M2 (k + 1) (n + 6)
  have lv2 := lv.step fy cb1 mr be rb2 (fo)
  refine r_istore (dk kL_law_p24 22 rfl) (by decide) rfl ?_
  simp only [List.set_cons_succ, List.set_cons_zero]
  refine r_aload_n (dk kL_law_p24 23 rfl) rfl ?_
  -- at 2592
  refine r_callVp (I' := IX9_thrown) (as := []) (dk kL_law_p24 24 rfl) mv_X9_thrown ml_L_177 rfl rfl rb2.o.1 rfl rfl (Nat.le_of_ble_eq_true rfl) ⟨by decide, by decide⟩ ⟨rfl, rfl⟩ ⟨?_, ?_⟩ (k_X9_thrown rb2.o) ?_
  · show k + 1 ≤ 603072
    omega
  · show n + 6 ≤ 7190633
    omega
  refine r_iload (dk kL_law_p24 25 rfl) rfl ?_
  refine r_icmp_eq (tgt := 2602) (dk kL_law_p24 26 rfl) (by decide) (fun c2597 => ?_) (fun c2597 => absurd (h8.trans hy.symm) c2597)
  refine r_iload (dk kL_law_p24 29 rfl) rfl ?_
  -- at 2604
  by_cases h0 : y = 0
  · have e9 : lg_cmp (mj M2 (x + 359) 0) z.toInt64 = 0 := by rw [mr.2.2.2.1, hj (hy.symm.trans h0), hz (hy.symm.trans h0)]; exact lg_cmp_self _
    refine r_if_ne (tgt := 2619) (dk kL_law_p24 30 rfl) (by decide) (fun c2604 => absurd c2604 (not_not_intro h0)) (fun c2604 => ?_)
    refine r_aload_n (dk kL_law_p24 31 rfl) rfl ?_
    refine r_iconst (v := 0) (dk kL_law_p24 32 rfl) (by decide) ?_
    refine r_lal (dk kL_law_p24 33 rfl) lv2.2.2.2.1 lv2.2.2.2.2.1 (j := 0) rfl (by decide) (by decide) ?_
    refine r_iload (dk kL_law_p24 34 rfl) rfl ?_
    refine r_i2l (dk kL_law_p24 35 rfl) ?_
    refine r_lcmp (dk kL_law_p24 36 rfl) ?_
    refine r_if_eq (tgt := 2619) (dk kL_law_p24 37 rfl) (by decide) (fun c2614 => ?_) (fun c2614 => absurd e9 c2614)
    refine r_goto (tgt := 3024) (dk kL_law_p24 40 rfl) (by decide) ?_
    -- at 3024
    exact nx _ _ _ _ _ _ _ _ lv2 (by omega) (by omega) (by omega)
  · refine r_if_ne (tgt := 2619) (dk kL_law_p24 30 rfl) (by decide) (fun c2604 => ?_) (fun c2604 => absurd h0 c2604)
    refine r_goto (tgt := 3024) (dk kL_law_p24 40 rfl) (by decide) ?_
    -- at 3024
    exact nx _ _ _ _ _ _ _ _ lv2 (by omega) (by omega) (by omega)
theorem arm_45_S {P : Int32 → Mm → Prop} (lv : LV F M x B) (hF : F + 10 < 2 ^ 30) (hi : i + 5 ≤ (gs G).2.1) (hN : (gs G).2.1 ≤ 2560) (hk : k + 2 ≤ 603072) (hn : n + 12 ≤ 7190633) {p9 : Nat} (hp : gPlace (bg B) ((gs G).2.2 (nI i + 1).toNatClampNeg) = some p9) (l6 l7 l8 : Value) (nx : Nx G (qi P nox) F x i k n) : WW G IL_law (qi P nox) 2566 [.ref (gs G).1, .ref x, .ref (x + 350), .ref (x + 359), .ref (x + 360), .int (nI i), l6, l7, l8] [] M k n := by
  obtain ⟨cb, rb, fo, kl, ll, kd2, ll2⟩ := id lv
  refine r_aload_n (dk kL_law_p24 6 rfl) rfl ?_
  refine r_aload_n (dk kL_law_p24 7 rfl) rfl ?_
  refine r_iload (dk kL_law_p24 8 rfl) rfl ?_
  refine r_iconst (v := 1) (dk kL_law_p24 9 rfl) (by decide) ?_
  refine r_iadd (dk kL_law_p24 10 rfl) ?_
  refine r_sld (dk kL_law_p24 11 rfl) (sc_in (k := 1) (by omega) hN rfl) ?_
  refine r_aload_n (dk kL_law_p24 12 rfl) rfl ?_
  -- at 2574
  refine r_callSX (I' := IL_writePetition) (as := [_, _, _]) (dk kL_law_p24 13 rfl) mh_writePetition ml_L_327 rfl rfl rfl (Nat.le_of_ble_eq_true rfl) ⟨by decide, by decide⟩ ⟨?_, ?_⟩ (hg_writePetition cb kl ll _ (k_X8_writePetition cb hp)) (fun _ _ z => z.elim) ?_
  · show k + 1 ≤ 603072
    omega
  · show n + 6 ≤ 7190633
    omega
  rintro v M1 ⟨y, hv, hy, fy, hj, cb1⟩
  subst hv
  show WW G IL_law _ 2577 _ [.int y] M1 (k + 1) (n + 6)
  have rb1 := rb.fy fy (Nat.le_refl _)
  refine r_istore (dk kL_law_p24 14 rfl) (by decide) rfl ?_
  simp only [List.set_cons_succ, List.set_cons_zero]
  refine r_aload_n (dk kL_law_p24 15 rfl) rfl ?_
  refine r_aload_n (dk kL_law_p24 16 rfl) rfl ?_
  refine r_iload (dk kL_law_p24 17 rfl) rfl ?_
  refine r_iconst (v := 1) (dk kL_law_p24 18 rfl) (by decide) ?_
  refine r_iadd (dk kL_law_p24 19 rfl) ?_
  refine r_sld (dk kL_law_p24 20 rfl) (sc_in (k := 1) (by omega) hN rfl) ?_
  -- at 2586
  refine r_callV (I' := IX9_writePetition) (as := [_]) (dk kL_law_p24 21 rfl) mv_X9_writePetition ml_L_329 rfl rfl rb1.o.1 rfl rfl (Nat.le_of_ble_eq_true rfl) ⟨by decide, by decide⟩ ⟨?_, ?_⟩ (m_writePetition rb1 cb.i hp (mi M (x + 336))) (fun _ _ z => z.elim) ?_
  · show k + 1 + 0 ≤ 603072
    omega
  · show n + 6 + 0 ≤ 7190633
    omega
  rintro v M2 ⟨z, hv, mr, h8, hz, B2, be, rb2⟩
  subst hv
  show WW G IL_law _ 2589 _ [.int z] M2 (k + 1) (n + 6)
  have lv2 := lv.step fy cb1 mr be rb2 (fo)
  refine r_istore (dk kL_law_p24 22 rfl) (by decide) rfl ?_
  simp only [List.set_cons_succ, List.set_cons_zero]
  refine r_aload_n (dk kL_law_p24 23 rfl) rfl ?_
  -- at 2592
  refine r_callVp (I' := IX9_thrown) (as := []) (dk kL_law_p24 24 rfl) mv_X9_thrown ml_L_177 rfl rfl rb2.o.1 rfl rfl (Nat.le_of_ble_eq_true rfl) ⟨by decide, by decide⟩ ⟨rfl, rfl⟩ ⟨?_, ?_⟩ (k_X9_thrown rb2.o) ?_
  · show k + 1 ≤ 603072
    omega
  · show n + 6 ≤ 7190633
    omega
  refine r_iload (dk kL_law_p24 25 rfl) rfl ?_
  refine r_icmp_eq (tgt := 2602) (dk kL_law_p24 26 rfl) (by decide) (fun c2597 => ?_) (fun c2597 => absurd (h8.trans hy.symm) c2597)
  refine r_iload (dk kL_law_p24 29 rfl) rfl ?_
  -- at 2604
  by_cases h0 : y = 0
  · have e9 : lg_cmp (mj M2 (x + 359) 0) z.toInt64 = 0 := by rw [mr.2.2.2.1, hj (hy.symm.trans h0), hz (hy.symm.trans h0)]; exact lg_cmp_self _
    refine r_if_ne (tgt := 2619) (dk kL_law_p24 30 rfl) (by decide) (fun c2604 => absurd c2604 (not_not_intro h0)) (fun c2604 => ?_)
    refine r_aload_n (dk kL_law_p24 31 rfl) rfl ?_
    refine r_iconst (v := 0) (dk kL_law_p24 32 rfl) (by decide) ?_
    refine r_lal (dk kL_law_p24 33 rfl) lv2.2.2.2.1 lv2.2.2.2.2.1 (j := 0) rfl (by decide) (by decide) ?_
    refine r_iload (dk kL_law_p24 34 rfl) rfl ?_
    refine r_i2l (dk kL_law_p24 35 rfl) ?_
    refine r_lcmp (dk kL_law_p24 36 rfl) ?_
    refine r_if_eq (tgt := 2619) (dk kL_law_p24 37 rfl) (by decide) (fun c2614 => ?_) (fun c2614 => absurd e9 c2614)
    refine r_goto (tgt := 3024) (dk kL_law_p24 40 rfl) (by decide) ?_
    -- at 3024
    exact nx _ _ _ _ _ _ _ _ lv2 (by omega) (by omega) (by omega)
  · refine r_if_ne (tgt := 2619) (dk kL_law_p24 30 rfl) (by decide) (fun c2604 => ?_) (fun c2604 => absurd h0 c2604)
    refine r_goto (tgt := 3024) (dk kL_law_p24 40 rfl) (by decide) ?_
    -- at 3024
    exact nx _ _ _ _ _ _ _ _ lv2 (by omega) (by omega) (by omega)
theorem arm_55_N {P : Int32 → Mm → Prop} (lv : LV F M x B) (hF : F + 10 < 2 ^ 30) (hi : i + 5 ≤ (gs G).2.1) (hN : (gs G).2.1 ≤ 2560) (hk : k + 2 ≤ 603072) (hn : n + 12 ≤ 7190633) (hs : bs B = none) (l6 l7 l8 : Value) (nx : Nx G (qi P nox) F x i k n) : WW G IL_law (qi P nox) 2980 [.ref (gs G).1, .ref x, .ref (x + 350), .ref (x + 359), .ref (x + 360), .int (nI i), l6, l7, l8] [] M k n := by
  obtain ⟨cb, rb, fo, kl, ll, kd2, ll2⟩ := id lv
  refine r_aload_n (dk kL_law_p28 10 rfl) rfl ?_
  refine r_aload_n (dk kL_law_p28 11 rfl) rfl ?_
  -- at 2982
  refine r_callSX (I' := IL_restoreSnapshot) (as := [_, _]) (dk kL_law_p28 12 rfl) mh_restoreSnapshot ml_L_359 rfl rfl rfl (Nat.le_of_ble_eq_true rfl) ⟨by decide, by decide⟩ ⟨?_, ?_⟩ (hg_restoreSnapshot cb kl ll (k_X8_restoreSnapshotN cb hs 0 B)) (fun _ _ z => z.elim) ?_
  · show k + 1 ≤ 603072
    omega
  · show n + 6 ≤ 7190633
    omega
  rintro v M1 ⟨y, hv, hy, fy, hj, cb1⟩
  subst hv
  show WW G IL_law _ 2985 _ [.int y] M1 (k + 1) (n + 6)
  have rb1 := rb.fy fy (Nat.le_refl _)
  refine r_istore (dk kL_law_p28 13 rfl) (by decide) rfl ?_
  simp only [List.set_cons_succ, List.set_cons_zero]
  refine r_aload_n (dk kL_law_p28 14 rfl) rfl ?_
  -- at 2988
  refine r_callV (I' := IX9_restoreSnapshot) (as := []) (dk kL_law_p28 15 rfl) mv_X9_restoreSnapshot ml_L_361 rfl rfl rb1.o.1 rfl rfl (Nat.le_of_ble_eq_true rfl) ⟨by decide, by decide⟩ ⟨?_, ?_⟩ (m_restoreSnapshotN rb1 hs 0) (fun _ _ z => z.elim) ?_
  · show k + 1 + 0 ≤ 603072
    omega
  · show n + 6 + 0 ≤ 7190633
    omega
  rintro v M2 ⟨z, hv, mr, h8, hz, B2, be, rb2⟩
  subst hv
  show WW G IL_law _ 2991 _ [.int z] M2 (k + 1) (n + 6)
  have lv2 := lv.step fy cb1 mr be rb2 (fo)
  refine r_istore (dk kL_law_p28 16 rfl) (by decide) rfl ?_
  simp only [List.set_cons_succ, List.set_cons_zero]
  refine r_aload_n (dk kL_law_p28 17 rfl) rfl ?_
  -- at 2994
  refine r_callVp (I' := IX9_thrown) (as := []) (dk kL_law_p28 18 rfl) mv_X9_thrown ml_L_177 rfl rfl rb2.o.1 rfl rfl (Nat.le_of_ble_eq_true rfl) ⟨by decide, by decide⟩ ⟨rfl, rfl⟩ ⟨?_, ?_⟩ (k_X9_thrown rb2.o) ?_
  · show k + 1 ≤ 603072
    omega
  · show n + 6 ≤ 7190633
    omega
  refine r_iload (dk kL_law_p28 19 rfl) rfl ?_
  refine r_icmp_eq (tgt := 3004) (dk kL_law_p28 20 rfl) (by decide) (fun c2999 => ?_) (fun c2999 => absurd (h8.trans hy.symm) c2999)
  refine r_iload (dk kL_law_p28 23 rfl) rfl ?_
  -- at 3006
  by_cases h0 : y = 0
  · have e9 : lg_cmp (mj M2 (x + 359) 0) z.toInt64 = 0 := by rw [mr.2.2.2.1, hj (hy.symm.trans h0), hz (hy.symm.trans h0)]; exact lg_cmp_self _
    refine r_if_ne (tgt := 3021) (dk kL_law_p28 24 rfl) (by decide) (fun c3006 => absurd c3006 (not_not_intro h0)) (fun c3006 => ?_)
    refine r_aload_n (dk kL_law_p28 25 rfl) rfl ?_
    refine r_iconst (v := 0) (dk kL_law_p28 26 rfl) (by decide) ?_
    refine r_lal (dk kL_law_p28 27 rfl) lv2.2.2.2.1 lv2.2.2.2.2.1 (j := 0) rfl (by decide) (by decide) ?_
    refine r_iload (dk kL_law_p28 28 rfl) rfl ?_
    refine r_i2l (dk kL_law_p28 29 rfl) ?_
    refine r_lcmp (dk kL_law_p28 30 rfl) ?_
    refine r_if_eq (tgt := 3021) (dk kL_law_p28 31 rfl) (by decide) (fun c3016 => ?_) (fun c3016 => absurd e9 c3016)
    refine r_goto (tgt := 3024) (dk kL_law_p28 34 rfl) (by decide) ?_
    -- at 3024
    exact nx _ _ _ _ _ _ _ _ lv2 (by omega) (by omega) (by omega)
  · refine r_if_ne (tgt := 3021) (dk kL_law_p28 24 rfl) (by decide) (fun c3006 => ?_) (fun c3006 => absurd h0 c3006)
    refine r_goto (tgt := 3024) (dk kL_law_p28 34 rfl) (by decide) ?_
    -- at 3024
    exact nx _ _ _ _ _ _ _ _ lv2 (by omega) (by omega) (by omega)
theorem arm_55_S {P : Int32 → Mm → Prop} (lv : LV F M x B) (hF : F + 10 < 2 ^ 30) (hi : i + 5 ≤ (gs G).2.1) (hN : (gs G).2.1 ≤ 2560) (hk : k + 2 ≤ 603072) (hn : n + 12 ≤ 7190633) {s9 : Nat → Int32} (hs : bs B = some s9) (l6 l7 l8 : Value) (nx : Nx G (qi P nox) F x i k n) : WW G IL_law (qi P nox) 2980 [.ref (gs G).1, .ref x, .ref (x + 350), .ref (x + 359), .ref (x + 360), .int (nI i), l6, l7, l8] [] M k n := by
  obtain ⟨cb, rb, fo, kl, ll, kd2, ll2⟩ := id lv
  refine r_aload_n (dk kL_law_p28 10 rfl) rfl ?_
  refine r_aload_n (dk kL_law_p28 11 rfl) rfl ?_
  -- at 2982
  refine r_callSX (I' := IL_restoreSnapshot) (as := [_, _]) (dk kL_law_p28 12 rfl) mh_restoreSnapshot ml_L_359 rfl rfl rfl (Nat.le_of_ble_eq_true rfl) ⟨by decide, by decide⟩ ⟨?_, ?_⟩ (hg_restoreSnapshot cb kl ll (k_X8_restoreSnapshot cb hs)) (fun _ _ z => z.elim) ?_
  · show k + 1 ≤ 603072
    omega
  · show n + 6 ≤ 7190633
    omega
  rintro v M1 ⟨y, hv, hy, fy, hj, cb1⟩
  subst hv
  show WW G IL_law _ 2985 _ [.int y] M1 (k + 1) (n + 6)
  have rb1 := rb.fy fy (Nat.le_refl _)
  refine r_istore (dk kL_law_p28 13 rfl) (by decide) rfl ?_
  simp only [List.set_cons_succ, List.set_cons_zero]
  refine r_aload_n (dk kL_law_p28 14 rfl) rfl ?_
  -- at 2988
  refine r_callV (I' := IX9_restoreSnapshot) (as := []) (dk kL_law_p28 15 rfl) mv_X9_restoreSnapshot ml_L_361 rfl rfl rb1.o.1 rfl rfl (Nat.le_of_ble_eq_true rfl) ⟨by decide, by decide⟩ ⟨?_, ?_⟩ (m_restoreSnapshot rb1 hs) (fun _ _ z => z.elim) ?_
  · show k + 1 + 0 ≤ 603072
    omega
  · show n + 6 + 0 ≤ 7190633
    omega
  rintro v M2 ⟨z, hv, mr, h8, hz, B2, be, rb2⟩
  subst hv
  show WW G IL_law _ 2991 _ [.int z] M2 (k + 1) (n + 6)
  have lv2 := lv.step fy cb1 mr be rb2 (fo)
  refine r_istore (dk kL_law_p28 16 rfl) (by decide) rfl ?_
  simp only [List.set_cons_succ, List.set_cons_zero]
  refine r_aload_n (dk kL_law_p28 17 rfl) rfl ?_
  -- at 2994
  refine r_callVp (I' := IX9_thrown) (as := []) (dk kL_law_p28 18 rfl) mv_X9_thrown ml_L_177 rfl rfl rb2.o.1 rfl rfl (Nat.le_of_ble_eq_true rfl) ⟨by decide, by decide⟩ ⟨rfl, rfl⟩ ⟨?_, ?_⟩ (k_X9_thrown rb2.o) ?_
  · show k + 1 ≤ 603072
    omega
  · show n + 6 ≤ 7190633
    omega
  refine r_iload (dk kL_law_p28 19 rfl) rfl ?_
  refine r_icmp_eq (tgt := 3004) (dk kL_law_p28 20 rfl) (by decide) (fun c2999 => ?_) (fun c2999 => absurd (h8.trans hy.symm) c2999)
  refine r_iload (dk kL_law_p28 23 rfl) rfl ?_
  -- at 3006
  by_cases h0 : y = 0
  · have e9 : lg_cmp (mj M2 (x + 359) 0) z.toInt64 = 0 := by rw [mr.2.2.2.1, hj (hy.symm.trans h0), hz (hy.symm.trans h0)]; exact lg_cmp_self _
    refine r_if_ne (tgt := 3021) (dk kL_law_p28 24 rfl) (by decide) (fun c3006 => absurd c3006 (not_not_intro h0)) (fun c3006 => ?_)
    refine r_aload_n (dk kL_law_p28 25 rfl) rfl ?_
    refine r_iconst (v := 0) (dk kL_law_p28 26 rfl) (by decide) ?_
    refine r_lal (dk kL_law_p28 27 rfl) lv2.2.2.2.1 lv2.2.2.2.2.1 (j := 0) rfl (by decide) (by decide) ?_
    refine r_iload (dk kL_law_p28 28 rfl) rfl ?_
    refine r_i2l (dk kL_law_p28 29 rfl) ?_
    refine r_lcmp (dk kL_law_p28 30 rfl) ?_
    refine r_if_eq (tgt := 3021) (dk kL_law_p28 31 rfl) (by decide) (fun c3016 => ?_) (fun c3016 => absurd e9 c3016)
    refine r_goto (tgt := 3024) (dk kL_law_p28 34 rfl) (by decide) ?_
    -- at 3024
    exact nx _ _ _ _ _ _ _ _ lv2 (by omega) (by omega) (by omega)
  · refine r_if_ne (tgt := 3021) (dk kL_law_p28 24 rfl) (by decide) (fun c3006 => ?_) (fun c3006 => absurd h0 c3006)
    refine r_goto (tgt := 3024) (dk kL_law_p28 34 rfl) (by decide) ?_
    -- at 3024
    exact nx _ _ _ _ _ _ _ _ lv2 (by omega) (by omega) (by omega)
theorem arm_47_N {P : Int32 → Mm → Prop} (lv : LV F M x B) (hF : F + 10 < 2 ^ 30) (hi : i + 5 ≤ (gs G).2.1) (hN : (gs G).2.1 ≤ 2560) (hk : k + 2 ≤ 603072) (hn : n + 12 ≤ 7190633) (hl : ixo (bl B).2 ((gs G).2.2 (nI i + 1).toNatClampNeg) = none) (l6 l7 l8 : Value) (nx : Nx G (qi P nox) F x i k n) : WW G IL_law (qi P nox) 2678 [.ref (gs G).1, .ref x, .ref (x + 350), .ref (x + 359), .ref (x + 360), .int (nI i), l6, l7, l8] [] M k n := by
  obtain ⟨cb, rb, fo, kl, ll, kd2, ll2⟩ := id lv
  refine r_aload_n (dk kL_law_p25 16 rfl) rfl ?_
  refine r_aload_n (dk kL_law_p25 17 rfl) rfl ?_
  refine r_iload (dk kL_law_p25 18 rfl) rfl ?_
  refine r_iconst (v := 1) (dk kL_law_p25 19 rfl) (by decide) ?_
  refine r_iadd (dk kL_law_p25 20 rfl) ?_
  refine r_sld (dk kL_law_p25 21 rfl) (sc_in (k := 1) (by omega) hN rfl) ?_
  refine r_aload_n (dk kL_law_p25 22 rfl) rfl ?_
  -- at 2686
  refine r_callSX (I' := IL_lineCharacter) (as := [_, _, _]) (dk kL_law_p25 23 rfl) mh_lineCharacter ml_L_333 rfl rfl rfl (Nat.le_of_ble_eq_true rfl) ⟨by decide, by decide⟩ ⟨?_, ?_⟩ (hg_lineCharacter (sp := (1, 32)) cb kl ll _ (by have h9 := k_X8_lineCharacter (G := G) cb.o cb.c5 ((gs G).2.2 (nI i + 1).toNatClampNeg); rw [hl] at h9; exact h9) (Or.inr rfl)) (fun _ _ z => z.elim) ?_
  · show k + 1 ≤ 603072
    omega
  · show n + 6 ≤ 7190633
    omega
  rintro v M1 ⟨y, hv, hy, fy, hj, cb1⟩
  subst hv
  show WW G IL_law _ 2689 _ [.int y] M1 (k + 1) (n + 6)
  have rb1 := rb.fy fy (Nat.le_refl _)
  refine r_istore (dk kL_law_p25 24 rfl) (by decide) rfl ?_
  simp only [List.set_cons_succ, List.set_cons_zero]
  refine r_aload_n (dk kL_law_p25 25 rfl) rfl ?_
  refine r_aload_n (dk kL_law_p25 26 rfl) rfl ?_
  refine r_iload (dk kL_law_p25 27 rfl) rfl ?_
  refine r_iconst (v := 1) (dk kL_law_p25 28 rfl) (by decide) ?_
  refine r_iadd (dk kL_law_p25 29 rfl) ?_
  refine r_sld (dk kL_law_p25 30 rfl) (sc_in (k := 1) (by omega) hN rfl) ?_
  -- at 2698
  refine r_callV (I' := IX9_lineCharacter) (as := [_]) (dk kL_law_p25 31 rfl) mv_X9_lineCharacter ml_L_335 rfl rfl rb1.o.1 rfl rfl (Nat.le_of_ble_eq_true rfl) ⟨by decide, by decide⟩ ⟨?_, ?_⟩ ((by have h9 := m_lineCharacter (G := G) rb1 cb.c5.2.1 cb.c5.2.2.2 ((gs G).2.2 (nI i + 1).toNatClampNeg); unfold sp_lineCharacter at h9; rw [hl] at h9; exact h9 : KK G IX9_lineCharacter [.ref (x + 350), .int ((gs G).2.2 (nI i + 1).toNatClampNeg)] M1 (QM M1 (x + 350) 1 32 B))) (fun _ _ z => z.elim) ?_
  · show k + 1 + 0 ≤ 603072
    omega
  · show n + 6 + 0 ≤ 7190633
    omega
  rintro v M2 ⟨z, hv, mr, h8, hz, B2, be, rb2⟩
  subst hv
  show WW G IL_law _ 2701 _ [.int z] M2 (k + 1) (n + 6)
  have lv2 := lv.step fy cb1 mr be rb2 (fo)
  refine r_istore (dk kL_law_p25 32 rfl) (by decide) rfl ?_
  simp only [List.set_cons_succ, List.set_cons_zero]
  refine r_aload_n (dk kL_law_p25 33 rfl) rfl ?_
  -- at 2704
  refine r_callVp (I' := IX9_thrown) (as := []) (dk kL_law_p25 34 rfl) mv_X9_thrown ml_L_177 rfl rfl rb2.o.1 rfl rfl (Nat.le_of_ble_eq_true rfl) ⟨by decide, by decide⟩ ⟨rfl, rfl⟩ ⟨?_, ?_⟩ (k_X9_thrown rb2.o) ?_
  · show k + 1 ≤ 603072
    omega
  · show n + 6 ≤ 7190633
    omega
  refine r_iload (dk kL_law_p25 35 rfl) rfl ?_
  refine r_icmp_eq (tgt := 2714) (dk kL_law_p25 36 rfl) (by decide) (fun c2709 => ?_) (fun c2709 => absurd (h8.trans hy.symm) c2709)
  refine r_iload (dk kL_law_p25 39 rfl) rfl ?_
  -- at 2716
  by_cases h0 : y = 0
  · have e9 : lg_cmp (mj M2 (x + 359) 0) z.toInt64 = 0 := by rw [mr.2.2.2.1, hj (hy.symm.trans h0), hz (hy.symm.trans h0)]; exact lg_cmp_self _
    refine r_if_ne (tgt := 2731) (dk kL_law_p25 40 rfl) (by decide) (fun c2716 => absurd c2716 (not_not_intro h0)) (fun c2716 => ?_)
    refine r_aload_n (dk kL_law_p25 41 rfl) rfl ?_
    refine r_iconst (v := 0) (dk kL_law_p25 42 rfl) (by decide) ?_
    refine r_lal (dk kL_law_p25 43 rfl) lv2.2.2.2.1 lv2.2.2.2.2.1 (j := 0) rfl (by decide) (by decide) ?_
    refine r_iload (dk kL_law_p25 44 rfl) rfl ?_
    refine r_i2l (dk kL_law_p25 45 rfl) ?_
    refine r_lcmp (dk kL_law_p25 46 rfl) ?_
    refine r_if_eq (tgt := 2731) (dk kL_law_p25 47 rfl) (by decide) (fun c2726 => ?_) (fun c2726 => absurd e9 c2726)
    refine r_goto (tgt := 3024) (dk kL_law_p25 50 rfl) (by decide) ?_
    -- at 3024
    exact nx _ _ _ _ _ _ _ _ lv2 (by omega) (by omega) (by omega)
  · refine r_if_ne (tgt := 2731) (dk kL_law_p25 40 rfl) (by decide) (fun c2716 => ?_) (fun c2716 => absurd h0 c2716)
    refine r_goto (tgt := 3024) (dk kL_law_p25 50 rfl) (by decide) ?_
    -- at 3024
    exact nx _ _ _ _ _ _ _ _ lv2 (by omega) (by omega) (by omega)
theorem arm_47_S {P : Int32 → Mm → Prop} (lv : LV F M x B) (hF : F + 10 < 2 ^ 30) (hi : i + 5 ≤ (gs G).2.1) (hN : (gs G).2.1 ≤ 2560) (hk : k + 2 ≤ 603072) (hn : n + 12 ≤ 7190633) {p9 : Nat} (hl : ixo (bl B).2 ((gs G).2.2 (nI i + 1).toNatClampNeg) = some p9) (l6 l7 l8 : Value) (nx : Nx G (qi P nox) F x i k n) : WW G IL_law (qi P nox) 2678 [.ref (gs G).1, .ref x, .ref (x + 350), .ref (x + 359), .ref (x + 360), .int (nI i), l6, l7, l8] [] M k n := by
  obtain ⟨cb, rb, fo, kl, ll, kd2, ll2⟩ := id lv
  refine r_aload_n (dk kL_law_p25 16 rfl) rfl ?_
  refine r_aload_n (dk kL_law_p25 17 rfl) rfl ?_
  refine r_iload (dk kL_law_p25 18 rfl) rfl ?_
  refine r_iconst (v := 1) (dk kL_law_p25 19 rfl) (by decide) ?_
  refine r_iadd (dk kL_law_p25 20 rfl) ?_
  refine r_sld (dk kL_law_p25 21 rfl) (sc_in (k := 1) (by omega) hN rfl) ?_
  refine r_aload_n (dk kL_law_p25 22 rfl) rfl ?_
  -- at 2686
  refine r_callSX (I' := IL_lineCharacter) (as := [_, _, _]) (dk kL_law_p25 23 rfl) mh_lineCharacter ml_L_333 rfl rfl rfl (Nat.le_of_ble_eq_true rfl) ⟨by decide, by decide⟩ ⟨?_, ?_⟩ (hg_lineCharacter (sp := (0, (bl B).1 p9)) cb kl ll _ (by have h9 := k_X8_lineCharacter (G := G) cb.o cb.c5 ((gs G).2.2 (nI i + 1).toNatClampNeg); rw [hl] at h9; exact h9) (Or.inl rfl)) (fun _ _ z => z.elim) ?_
  · show k + 1 ≤ 603072
    omega
  · show n + 6 ≤ 7190633
    omega
  rintro v M1 ⟨y, hv, hy, fy, hj, cb1⟩
  subst hv
  show WW G IL_law _ 2689 _ [.int y] M1 (k + 1) (n + 6)
  have rb1 := rb.fy fy (Nat.le_refl _)
  refine r_istore (dk kL_law_p25 24 rfl) (by decide) rfl ?_
  simp only [List.set_cons_succ, List.set_cons_zero]
  refine r_aload_n (dk kL_law_p25 25 rfl) rfl ?_
  refine r_aload_n (dk kL_law_p25 26 rfl) rfl ?_
  refine r_iload (dk kL_law_p25 27 rfl) rfl ?_
  refine r_iconst (v := 1) (dk kL_law_p25 28 rfl) (by decide) ?_
  refine r_iadd (dk kL_law_p25 29 rfl) ?_
  refine r_sld (dk kL_law_p25 30 rfl) (sc_in (k := 1) (by omega) hN rfl) ?_
  -- at 2698
  refine r_callV (I' := IX9_lineCharacter) (as := [_]) (dk kL_law_p25 31 rfl) mv_X9_lineCharacter ml_L_335 rfl rfl rb1.o.1 rfl rfl (Nat.le_of_ble_eq_true rfl) ⟨by decide, by decide⟩ ⟨?_, ?_⟩ ((by have h9 := m_lineCharacter (G := G) rb1 cb.c5.2.1 cb.c5.2.2.2 ((gs G).2.2 (nI i + 1).toNatClampNeg); unfold sp_lineCharacter at h9; rw [hl] at h9; exact h9 : KK G IX9_lineCharacter [.ref (x + 350), .int ((gs G).2.2 (nI i + 1).toNatClampNeg)] M1 (QM M1 (x + 350) 0 ((bl B).1 p9) B))) (fun _ _ z => z.elim) ?_
  · show k + 1 + 0 ≤ 603072
    omega
  · show n + 6 + 0 ≤ 7190633
    omega
  rintro v M2 ⟨z, hv, mr, h8, hz, B2, be, rb2⟩
  subst hv
  show WW G IL_law _ 2701 _ [.int z] M2 (k + 1) (n + 6)
  have lv2 := lv.step fy cb1 mr be rb2 (fo)
  refine r_istore (dk kL_law_p25 32 rfl) (by decide) rfl ?_
  simp only [List.set_cons_succ, List.set_cons_zero]
  refine r_aload_n (dk kL_law_p25 33 rfl) rfl ?_
  -- at 2704
  refine r_callVp (I' := IX9_thrown) (as := []) (dk kL_law_p25 34 rfl) mv_X9_thrown ml_L_177 rfl rfl rb2.o.1 rfl rfl (Nat.le_of_ble_eq_true rfl) ⟨by decide, by decide⟩ ⟨rfl, rfl⟩ ⟨?_, ?_⟩ (k_X9_thrown rb2.o) ?_
  · show k + 1 ≤ 603072
    omega
  · show n + 6 ≤ 7190633
    omega
  refine r_iload (dk kL_law_p25 35 rfl) rfl ?_
  refine r_icmp_eq (tgt := 2714) (dk kL_law_p25 36 rfl) (by decide) (fun c2709 => ?_) (fun c2709 => absurd (h8.trans hy.symm) c2709)
  refine r_iload (dk kL_law_p25 39 rfl) rfl ?_
  -- at 2716
  by_cases h0 : y = 0
  · have e9 : lg_cmp (mj M2 (x + 359) 0) z.toInt64 = 0 := by rw [mr.2.2.2.1, hj (hy.symm.trans h0), hz (hy.symm.trans h0)]; exact lg_cmp_self _
    refine r_if_ne (tgt := 2731) (dk kL_law_p25 40 rfl) (by decide) (fun c2716 => absurd c2716 (not_not_intro h0)) (fun c2716 => ?_)
    refine r_aload_n (dk kL_law_p25 41 rfl) rfl ?_
    refine r_iconst (v := 0) (dk kL_law_p25 42 rfl) (by decide) ?_
    refine r_lal (dk kL_law_p25 43 rfl) lv2.2.2.2.1 lv2.2.2.2.2.1 (j := 0) rfl (by decide) (by decide) ?_
    refine r_iload (dk kL_law_p25 44 rfl) rfl ?_
    refine r_i2l (dk kL_law_p25 45 rfl) ?_
    refine r_lcmp (dk kL_law_p25 46 rfl) ?_
    refine r_if_eq (tgt := 2731) (dk kL_law_p25 47 rfl) (by decide) (fun c2726 => ?_) (fun c2726 => absurd e9 c2726)
    refine r_goto (tgt := 3024) (dk kL_law_p25 50 rfl) (by decide) ?_
    -- at 3024
    exact nx _ _ _ _ _ _ _ _ lv2 (by omega) (by omega) (by omega)
  · refine r_if_ne (tgt := 2731) (dk kL_law_p25 40 rfl) (by decide) (fun c2716 => ?_) (fun c2716 => absurd h0 c2716)
    refine r_goto (tgt := 3024) (dk kL_law_p25 50 rfl) (by decide) ?_
    -- at 3024
    exact nx _ _ _ _ _ _ _ _ lv2 (by omega) (by omega) (by omega)
end LAW
