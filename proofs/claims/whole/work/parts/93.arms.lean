/-! THE LAW: its steps: truths, texts, denials -/
theorem FO.xo {B : BS} (f : FO B) (h60 : (btx B).1 ≤ 60) : FO (xO B).2.2 := by
  cases hok : (tOK (btx B).2 (btx B).1).1 with
  | false =>
    rw [xO_f hok]
    exact Or.inr (nI_nn (Nat.lt_of_le_of_lt (Nat.le_trans tOK_le h60) (by decide)))
  | true =>
    cases hx : xFail (bg B) (btx B).2 (btx B).1 (tOK (btx B).2 (btx B).1).2.2 with
    | none =>
      rw [xO_n hok hx]
      exact f
    | some j =>
      rw [xO_s hok hx]
      exact f
section LAW
variable {G : GG} {M : Mm} {x F i k n : Nat} {B : BS}
theorem arm_21 {P : Int32 → Mm → Prop} (lv : LV F M x B) (hF : F + 10 < 2 ^ 30) (hi : i + 5 ≤ (gs G).2.1) (hN : (gs G).2.1 ≤ 2560) (hk : k + 2 ≤ 603072) (hn : n + 12 ≤ 7190633) (l6 l7 l8 : Value) (nx : Nx G (qi P nox) F x i k n) : WW G IL_law (qi P nox) 1443 [.ref (gs G).1, .ref x, .ref (x + 350), .ref (x + 359), .ref (x + 360), .int (nI i), l6, l7, l8] [] M k n := by
  obtain ⟨q9, vq⟩ := lv.1.c1
  obtain ⟨cb, rb, fo, kl, ll, kd2, ll2⟩ := id lv
  refine r_aload_n (dk kL_law_p12 47 rfl) rfl ?_
  refine r_aload_n (dk kL_law_p12 48 rfl) rfl ?_
  refine r_iload (dk kL_law_p12 49 rfl) rfl ?_
  refine r_iconst (v := 1) (dk kL_law_p12 50 rfl) (by decide) ?_
  refine r_iadd (dk kL_law_p12 51 rfl) ?_
  refine r_sld (dk kL_law_p12 52 rfl) (sc_in (k := 1) (by omega) hN rfl) ?_
  refine r_aload_n (dk kL_law_p12 53 rfl) rfl ?_
  -- at 1451
  refine r_callSX (I' := IL_wouldBeGranted) (as := [_, _, _]) (dk kL_law_p12 54 rfl) mh_wouldBeGranted ml_L_246 rfl rfl rfl (Nat.le_of_ble_eq_true rfl) ⟨by decide, by decide⟩ ⟨?_, ?_⟩ (hg_wouldBeGranted cb kl ll _ (k_X8_wouldBeGranted cb.o vq cb.i.1.1 _) (sq_wouldBeGranted _ _)) (fun _ _ z => z.elim) ?_
  · show k + 1 ≤ 603072
    omega
  · show n + 6 ≤ 7190633
    omega
  rintro v M1 ⟨y, hv, hy, fy, hj, cb1⟩
  subst hv
  show WW G IL_law _ 1454 _ [.int y] M1 (k + 1) (n + 6)
  have rb1 := rb.fy fy (Nat.le_refl _)
  refine r_istore (dk kL_law_p12 55 rfl) (by decide) rfl ?_
  simp only [List.set_cons_succ, List.set_cons_zero]
  refine r_aload_n (dk kL_law_p12 56 rfl) rfl ?_
  refine r_aload_n (dk kL_law_p12 57 rfl) rfl ?_
  refine r_iload (dk kL_law_p12 58 rfl) rfl ?_
  refine r_iconst (v := 1) (dk kL_law_p12 59 rfl) (by decide) ?_
  refine r_iadd (dk kL_law_p13 0 rfl) ?_
  refine r_sld (dk kL_law_p13 1 rfl) (sc_in (k := 1) (by omega) hN rfl) ?_
  -- at 1463
  refine r_callV (I' := IX9_wouldBeGranted) (as := [_]) (dk kL_law_p13 2 rfl) mv_X9_wouldBeGranted ml_L_248 rfl rfl rb1.o.1 rfl rfl (Nat.le_of_ble_eq_true rfl) ⟨by decide, by decide⟩ ⟨?_, ?_⟩ (m_of_sp rb1 (sp := sp_wouldBeGranted (bg B) _) (by have h9 := k_X9_wouldBeGranted (G := G) rb1.o (rb1.gi cb.i) ((gs G).2.2 (nI i + 1).toNatClampNeg); rw [rb1.g] at h9; exact h9)) (fun _ _ z => z.elim) ?_
  · show k + 1 + 0 ≤ 603072
    omega
  · show n + 6 + 0 ≤ 7190633
    omega
  rintro v M2 ⟨z, hv, mr, h8, hz, B2, be, rb2⟩
  subst hv
  show WW G IL_law _ 1466 _ [.int z] M2 (k + 1) (n + 6)
  have lv2 := lv.step fy cb1 mr be rb2 (fo)
  refine r_istore (dk kL_law_p13 3 rfl) (by decide) rfl ?_
  simp only [List.set_cons_succ, List.set_cons_zero]
  refine r_aload_n (dk kL_law_p13 4 rfl) rfl ?_
  -- at 1469
  refine r_callVp (I' := IX9_thrown) (as := []) (dk kL_law_p13 5 rfl) mv_X9_thrown ml_L_177 rfl rfl rb2.o.1 rfl rfl (Nat.le_of_ble_eq_true rfl) ⟨by decide, by decide⟩ ⟨rfl, rfl⟩ ⟨?_, ?_⟩ (k_X9_thrown rb2.o) ?_
  · show k + 1 ≤ 603072
    omega
  · show n + 6 ≤ 7190633
    omega
  refine r_iload (dk kL_law_p13 6 rfl) rfl ?_
  refine r_icmp_eq (tgt := 1479) (dk kL_law_p13 7 rfl) (by decide) (fun c1474 => ?_) (fun c1474 => absurd (h8.trans hy.symm) c1474)
  refine r_iload (dk kL_law_p13 10 rfl) rfl ?_
  -- at 1481
  by_cases h0 : y = 0
  · have hz1 := hz (hy.symm.trans h0)
    have hj1 := hj (hy.symm.trans h0)
    rcases sq_wouldBeGranted (bg B) ((gs G).2.2 (nI i + 1).toNatClampNeg) with ⟨e1, e2⟩ | ⟨e1, e2⟩ | e1
    · have e9 : lg_cmp (mj M2 (x + 359) 0) 0 = 0 := by rw [mr.2.2.2.1, hj1, e2]; rfl
      refine r_if_ne (tgt := 1503) (dk kL_law_p13 11 rfl) (by decide) (fun c1481 => absurd c1481 (not_not_intro h0)) (fun c1481 => ?_)
      refine r_aload_n (dk kL_law_p13 12 rfl) rfl ?_
      refine r_iconst (v := 0) (dk kL_law_p13 13 rfl) (by decide) ?_
      refine r_lal (dk kL_law_p13 14 rfl) lv2.2.2.2.1 lv2.2.2.2.2.1 (j := 0) rfl (by decide) (by decide) ?_
      refine r_iload (dk kL_law_p13 15 rfl) rfl ?_
      refine r_if_eq (tgt := 1496) (dk kL_law_p13 16 rfl) (by decide) (fun c1489 => ?_) (fun c1489 => absurd (hz1.trans e2) c1489)
      refine r_lconst (v := 0) (dk kL_law_p13 19 rfl) (by decide) ?_
      refine r_lcmp (dk kL_law_p13 20 rfl) ?_
      refine r_if_eq (tgt := 1503) (dk kL_law_p13 21 rfl) (by decide) (fun c1498 => ?_) (fun c1498 => absurd e9 c1498)
      refine r_goto (tgt := 3024) (dk kL_law_p13 24 rfl) (by decide) ?_
      -- at 3024
      exact nx _ _ _ _ _ _ _ _ lv2 (by omega) (by omega) (by omega)
    · have e9 : lg_cmp (mj M2 (x + 359) 0) 1 = 0 := by rw [mr.2.2.2.1, hj1, e2]; rfl
      refine r_if_ne (tgt := 1503) (dk kL_law_p13 11 rfl) (by decide) (fun c1481 => absurd c1481 (not_not_intro h0)) (fun c1481 => ?_)
      refine r_aload_n (dk kL_law_p13 12 rfl) rfl ?_
      refine r_iconst (v := 0) (dk kL_law_p13 13 rfl) (by decide) ?_
      refine r_lal (dk kL_law_p13 14 rfl) lv2.2.2.2.1 lv2.2.2.2.2.1 (j := 0) rfl (by decide) (by decide) ?_
      refine r_iload (dk kL_law_p13 15 rfl) rfl ?_
      refine r_if_eq (tgt := 1496) (dk kL_law_p13 16 rfl) (by decide) (fun c1489 => absurd c1489 (by rw [hz1, e2]; decide)) (fun c1489 => ?_)
      refine r_lconst (v := 1) (dk kL_law_p13 17 rfl) (by decide) ?_
      refine r_goto (tgt := 1497) (dk kL_law_p13 18 rfl) (by decide) ?_
      refine r_lcmp (dk kL_law_p13 20 rfl) ?_
      refine r_if_eq (tgt := 1503) (dk kL_law_p13 21 rfl) (by decide) (fun c1498 => ?_) (fun c1498 => absurd e9 c1498)
      refine r_goto (tgt := 3024) (dk kL_law_p13 24 rfl) (by decide) ?_
      -- at 3024
      exact nx _ _ _ _ _ _ _ _ lv2 (by omega) (by omega) (by omega)
    · exact absurd (hy.symm.trans h0) (by rw [e1]; decide)
  · refine r_if_ne (tgt := 1503) (dk kL_law_p13 11 rfl) (by decide) (fun c1481 => ?_) (fun c1481 => absurd h0 c1481)
    refine r_goto (tgt := 3024) (dk kL_law_p13 24 rfl) (by decide) ?_
    -- at 3024
    exact nx _ _ _ _ _ _ _ _ lv2 (by omega) (by omega) (by omega)
theorem arm_26 {P : Int32 → Mm → Prop} (lv : LV F M x B) (hF : F + 10 < 2 ^ 30) (hi : i + 5 ≤ (gs G).2.1) (hN : (gs G).2.1 ≤ 2560) (hk : k + 2 ≤ 603072) (hn : n + 12 ≤ 7190633) (l6 l7 l8 : Value) (nx : Nx G (qi P nox) F x i k n) : WW G IL_law (qi P nox) 1632 [.ref (gs G).1, .ref x, .ref (x + 350), .ref (x + 359), .ref (x + 360), .int (nI i), l6, l7, l8] [] M k n := by
  obtain ⟨q9, vq⟩ := lv.1.c1
  obtain ⟨cb, rb, fo, kl, ll, kd2, ll2⟩ := id lv
  refine r_aload_n (dk kL_law_p14 39 rfl) rfl ?_
  refine r_aload_n (dk kL_law_p14 40 rfl) rfl ?_
  refine r_iload (dk kL_law_p14 41 rfl) rfl ?_
  refine r_iconst (v := 1) (dk kL_law_p14 42 rfl) (by decide) ?_
  refine r_iadd (dk kL_law_p14 43 rfl) ?_
  refine r_sld (dk kL_law_p14 44 rfl) (sc_in (k := 1) (by omega) hN rfl) ?_
  refine r_aload_n (dk kL_law_p14 45 rfl) rfl ?_
  -- at 1640
  refine r_callSX (I' := IL_isGranted) (as := [_, _, _]) (dk kL_law_p14 46 rfl) mh_isGranted ml_L_264 rfl rfl rfl (Nat.le_of_ble_eq_true rfl) ⟨by decide, by decide⟩ ⟨?_, ?_⟩ (hg_isGranted cb kl ll _ (k_X8_isGranted cb.o vq cb.i.1.1 _) (sq_isGranted _ _)) (fun _ _ z => z.elim) ?_
  · show k + 1 ≤ 603072
    omega
  · show n + 6 ≤ 7190633
    omega
  rintro v M1 ⟨y, hv, hy, fy, hj, cb1⟩
  subst hv
  show WW G IL_law _ 1643 _ [.int y] M1 (k + 1) (n + 6)
  have rb1 := rb.fy fy (Nat.le_refl _)
  refine r_istore (dk kL_law_p14 47 rfl) (by decide) rfl ?_
  simp only [List.set_cons_succ, List.set_cons_zero]
  refine r_aload_n (dk kL_law_p14 48 rfl) rfl ?_
  refine r_aload_n (dk kL_law_p14 49 rfl) rfl ?_
  refine r_iload (dk kL_law_p14 50 rfl) rfl ?_
  refine r_iconst (v := 1) (dk kL_law_p14 51 rfl) (by decide) ?_
  refine r_iadd (dk kL_law_p14 52 rfl) ?_
  refine r_sld (dk kL_law_p14 53 rfl) (sc_in (k := 1) (by omega) hN rfl) ?_
  -- at 1652
  refine r_callV (I' := IX9_isGranted) (as := [_]) (dk kL_law_p14 54 rfl) mv_X9_isGranted ml_L_266 rfl rfl rb1.o.1 rfl rfl (Nat.le_of_ble_eq_true rfl) ⟨by decide, by decide⟩ ⟨?_, ?_⟩ (m_of_sp rb1 (sp := sp_isGranted (bg B) _) (by have h9 := k_X9_isGranted (G := G) rb1.o (rb1.gi cb.i) ((gs G).2.2 (nI i + 1).toNatClampNeg); rw [rb1.g] at h9; exact h9)) (fun _ _ z => z.elim) ?_
  · show k + 1 + 0 ≤ 603072
    omega
  · show n + 6 + 0 ≤ 7190633
    omega
  rintro v M2 ⟨z, hv, mr, h8, hz, B2, be, rb2⟩
  subst hv
  show WW G IL_law _ 1655 _ [.int z] M2 (k + 1) (n + 6)
  have lv2 := lv.step fy cb1 mr be rb2 (fo)
  refine r_istore (dk kL_law_p14 55 rfl) (by decide) rfl ?_
  simp only [List.set_cons_succ, List.set_cons_zero]
  refine r_aload_n (dk kL_law_p14 56 rfl) rfl ?_
  -- at 1658
  refine r_callVp (I' := IX9_thrown) (as := []) (dk kL_law_p14 57 rfl) mv_X9_thrown ml_L_177 rfl rfl rb2.o.1 rfl rfl (Nat.le_of_ble_eq_true rfl) ⟨by decide, by decide⟩ ⟨rfl, rfl⟩ ⟨?_, ?_⟩ (k_X9_thrown rb2.o) ?_
  · show k + 1 ≤ 603072
    omega
  · show n + 6 ≤ 7190633
    omega
  refine r_iload (dk kL_law_p14 58 rfl) rfl ?_
  refine r_icmp_eq (tgt := 1668) (dk kL_law_p14 59 rfl) (by decide) (fun c1663 => ?_) (fun c1663 => absurd (h8.trans hy.symm) c1663)
  refine r_iload (dk kL_law_p15 2 rfl) rfl ?_
  -- at 1670
  by_cases h0 : y = 0
  · have hz1 := hz (hy.symm.trans h0)
    have hj1 := hj (hy.symm.trans h0)
    rcases sq_isGranted (bg B) ((gs G).2.2 (nI i + 1).toNatClampNeg) with ⟨e1, e2⟩ | ⟨e1, e2⟩ | e1
    · have e9 : lg_cmp (mj M2 (x + 359) 0) 0 = 0 := by rw [mr.2.2.2.1, hj1, e2]; rfl
      refine r_if_ne (tgt := 1692) (dk kL_law_p15 3 rfl) (by decide) (fun c1670 => absurd c1670 (not_not_intro h0)) (fun c1670 => ?_)
      refine r_aload_n (dk kL_law_p15 4 rfl) rfl ?_
      refine r_iconst (v := 0) (dk kL_law_p15 5 rfl) (by decide) ?_
      refine r_lal (dk kL_law_p15 6 rfl) lv2.2.2.2.1 lv2.2.2.2.2.1 (j := 0) rfl (by decide) (by decide) ?_
      refine r_iload (dk kL_law_p15 7 rfl) rfl ?_
      refine r_if_eq (tgt := 1685) (dk kL_law_p15 8 rfl) (by decide) (fun c1678 => ?_) (fun c1678 => absurd (hz1.trans e2) c1678)
      refine r_lconst (v := 0) (dk kL_law_p15 11 rfl) (by decide) ?_
      refine r_lcmp (dk kL_law_p15 12 rfl) ?_
      refine r_if_eq (tgt := 1692) (dk kL_law_p15 13 rfl) (by decide) (fun c1687 => ?_) (fun c1687 => absurd e9 c1687)
      refine r_goto (tgt := 3024) (dk kL_law_p15 16 rfl) (by decide) ?_
      -- at 3024
      exact nx _ _ _ _ _ _ _ _ lv2 (by omega) (by omega) (by omega)
    · have e9 : lg_cmp (mj M2 (x + 359) 0) 1 = 0 := by rw [mr.2.2.2.1, hj1, e2]; rfl
      refine r_if_ne (tgt := 1692) (dk kL_law_p15 3 rfl) (by decide) (fun c1670 => absurd c1670 (not_not_intro h0)) (fun c1670 => ?_)
      refine r_aload_n (dk kL_law_p15 4 rfl) rfl ?_
      refine r_iconst (v := 0) (dk kL_law_p15 5 rfl) (by decide) ?_
      refine r_lal (dk kL_law_p15 6 rfl) lv2.2.2.2.1 lv2.2.2.2.2.1 (j := 0) rfl (by decide) (by decide) ?_
      refine r_iload (dk kL_law_p15 7 rfl) rfl ?_
      refine r_if_eq (tgt := 1685) (dk kL_law_p15 8 rfl) (by decide) (fun c1678 => absurd c1678 (by rw [hz1, e2]; decide)) (fun c1678 => ?_)
      refine r_lconst (v := 1) (dk kL_law_p15 9 rfl) (by decide) ?_
      refine r_goto (tgt := 1686) (dk kL_law_p15 10 rfl) (by decide) ?_
      refine r_lcmp (dk kL_law_p15 12 rfl) ?_
      refine r_if_eq (tgt := 1692) (dk kL_law_p15 13 rfl) (by decide) (fun c1687 => ?_) (fun c1687 => absurd e9 c1687)
      refine r_goto (tgt := 3024) (dk kL_law_p15 16 rfl) (by decide) ?_
      -- at 3024
      exact nx _ _ _ _ _ _ _ _ lv2 (by omega) (by omega) (by omega)
    · exact absurd (hy.symm.trans h0) (by rw [e1]; decide)
  · refine r_if_ne (tgt := 1692) (dk kL_law_p15 3 rfl) (by decide) (fun c1670 => ?_) (fun c1670 => absurd h0 c1670)
    refine r_goto (tgt := 3024) (dk kL_law_p15 16 rfl) (by decide) ?_
    -- at 3024
    exact nx _ _ _ _ _ _ _ _ lv2 (by omega) (by omega) (by omega)
theorem arm_27 {P : Int32 → Mm → Prop} (lv : LV F M x B) (hF : F + 10 < 2 ^ 30) (hi : i + 5 ≤ (gs G).2.1) (hN : (gs G).2.1 ≤ 2560) (hk : k + 2 ≤ 603072) (hn : n + 12 ≤ 7190633) (l6 l7 l8 : Value) (nx : Nx G (qi P nox) F x i k n) : WW G IL_law (qi P nox) 1695 [.ref (gs G).1, .ref x, .ref (x + 350), .ref (x + 359), .ref (x + 360), .int (nI i), l6, l7, l8] [] M k n := by
  obtain ⟨q9, vq⟩ := lv.1.c1
  obtain ⟨cb, rb, fo, kl, ll, kd2, ll2⟩ := id lv
  refine r_aload_n (dk kL_law_p15 17 rfl) rfl ?_
  refine r_aload_n (dk kL_law_p15 18 rfl) rfl ?_
  refine r_iload (dk kL_law_p15 19 rfl) rfl ?_
  refine r_iconst (v := 1) (dk kL_law_p15 20 rfl) (by decide) ?_
  refine r_iadd (dk kL_law_p15 21 rfl) ?_
  refine r_sld (dk kL_law_p15 22 rfl) (sc_in (k := 1) (by omega) hN rfl) ?_
  refine r_aload_n (dk kL_law_p15 23 rfl) rfl ?_
  -- at 1703
  refine r_callSX (I' := IL_isCarriedOut) (as := [_, _, _]) (dk kL_law_p15 24 rfl) mh_isCarriedOut ml_L_267 rfl rfl rfl (Nat.le_of_ble_eq_true rfl) ⟨by decide, by decide⟩ ⟨?_, ?_⟩ (hg_isCarriedOut cb kl ll _ (k_X8_isCarriedOut cb.o vq cb.i.1.1 _) (sq_isCarriedOut _ _)) (fun _ _ z => z.elim) ?_
  · show k + 1 ≤ 603072
    omega
  · show n + 6 ≤ 7190633
    omega
  rintro v M1 ⟨y, hv, hy, fy, hj, cb1⟩
  subst hv
  show WW G IL_law _ 1706 _ [.int y] M1 (k + 1) (n + 6)
  have rb1 := rb.fy fy (Nat.le_refl _)
  refine r_istore (dk kL_law_p15 25 rfl) (by decide) rfl ?_
  simp only [List.set_cons_succ, List.set_cons_zero]
  refine r_aload_n (dk kL_law_p15 26 rfl) rfl ?_
  refine r_aload_n (dk kL_law_p15 27 rfl) rfl ?_
  refine r_iload (dk kL_law_p15 28 rfl) rfl ?_
  refine r_iconst (v := 1) (dk kL_law_p15 29 rfl) (by decide) ?_
  refine r_iadd (dk kL_law_p15 30 rfl) ?_
  refine r_sld (dk kL_law_p15 31 rfl) (sc_in (k := 1) (by omega) hN rfl) ?_
  -- at 1715
  refine r_callV (I' := IX9_isCarriedOut) (as := [_]) (dk kL_law_p15 32 rfl) mv_X9_isCarriedOut ml_L_269 rfl rfl rb1.o.1 rfl rfl (Nat.le_of_ble_eq_true rfl) ⟨by decide, by decide⟩ ⟨?_, ?_⟩ (m_of_sp rb1 (sp := sp_isCarriedOut (bg B) _) (by have h9 := k_X9_isCarriedOut (G := G) rb1.o (rb1.gi cb.i) ((gs G).2.2 (nI i + 1).toNatClampNeg); rw [rb1.g] at h9; exact h9)) (fun _ _ z => z.elim) ?_
  · show k + 1 + 0 ≤ 603072
    omega
  · show n + 6 + 0 ≤ 7190633
    omega
  rintro v M2 ⟨z, hv, mr, h8, hz, B2, be, rb2⟩
  subst hv
  show WW G IL_law _ 1718 _ [.int z] M2 (k + 1) (n + 6)
  have lv2 := lv.step fy cb1 mr be rb2 (fo)
  refine r_istore (dk kL_law_p15 33 rfl) (by decide) rfl ?_
  simp only [List.set_cons_succ, List.set_cons_zero]
  refine r_aload_n (dk kL_law_p15 34 rfl) rfl ?_
  -- at 1721
  refine r_callVp (I' := IX9_thrown) (as := []) (dk kL_law_p15 35 rfl) mv_X9_thrown ml_L_177 rfl rfl rb2.o.1 rfl rfl (Nat.le_of_ble_eq_true rfl) ⟨by decide, by decide⟩ ⟨rfl, rfl⟩ ⟨?_, ?_⟩ (k_X9_thrown rb2.o) ?_
  · show k + 1 ≤ 603072
    omega
  · show n + 6 ≤ 7190633
    omega
  refine r_iload (dk kL_law_p15 36 rfl) rfl ?_
  refine r_icmp_eq (tgt := 1731) (dk kL_law_p15 37 rfl) (by decide) (fun c1726 => ?_) (fun c1726 => absurd (h8.trans hy.symm) c1726)
  refine r_iload (dk kL_law_p15 40 rfl) rfl ?_
  -- at 1733
  by_cases h0 : y = 0
  · have hz1 := hz (hy.symm.trans h0)
    have hj1 := hj (hy.symm.trans h0)
    rcases sq_isCarriedOut (bg B) ((gs G).2.2 (nI i + 1).toNatClampNeg) with ⟨e1, e2⟩ | ⟨e1, e2⟩ | e1
    · have e9 : lg_cmp (mj M2 (x + 359) 0) 0 = 0 := by rw [mr.2.2.2.1, hj1, e2]; rfl
      refine r_if_ne (tgt := 1755) (dk kL_law_p15 41 rfl) (by decide) (fun c1733 => absurd c1733 (not_not_intro h0)) (fun c1733 => ?_)
      refine r_aload_n (dk kL_law_p15 42 rfl) rfl ?_
      refine r_iconst (v := 0) (dk kL_law_p15 43 rfl) (by decide) ?_
      refine r_lal (dk kL_law_p15 44 rfl) lv2.2.2.2.1 lv2.2.2.2.2.1 (j := 0) rfl (by decide) (by decide) ?_
      refine r_iload (dk kL_law_p15 45 rfl) rfl ?_
      refine r_if_eq (tgt := 1748) (dk kL_law_p15 46 rfl) (by decide) (fun c1741 => ?_) (fun c1741 => absurd (hz1.trans e2) c1741)
      refine r_lconst (v := 0) (dk kL_law_p15 49 rfl) (by decide) ?_
      refine r_lcmp (dk kL_law_p15 50 rfl) ?_
      refine r_if_eq (tgt := 1755) (dk kL_law_p15 51 rfl) (by decide) (fun c1750 => ?_) (fun c1750 => absurd e9 c1750)
      refine r_goto (tgt := 3024) (dk kL_law_p15 54 rfl) (by decide) ?_
      -- at 3024
      exact nx _ _ _ _ _ _ _ _ lv2 (by omega) (by omega) (by omega)
    · have e9 : lg_cmp (mj M2 (x + 359) 0) 1 = 0 := by rw [mr.2.2.2.1, hj1, e2]; rfl
      refine r_if_ne (tgt := 1755) (dk kL_law_p15 41 rfl) (by decide) (fun c1733 => absurd c1733 (not_not_intro h0)) (fun c1733 => ?_)
      refine r_aload_n (dk kL_law_p15 42 rfl) rfl ?_
      refine r_iconst (v := 0) (dk kL_law_p15 43 rfl) (by decide) ?_
      refine r_lal (dk kL_law_p15 44 rfl) lv2.2.2.2.1 lv2.2.2.2.2.1 (j := 0) rfl (by decide) (by decide) ?_
      refine r_iload (dk kL_law_p15 45 rfl) rfl ?_
      refine r_if_eq (tgt := 1748) (dk kL_law_p15 46 rfl) (by decide) (fun c1741 => absurd c1741 (by rw [hz1, e2]; decide)) (fun c1741 => ?_)
      refine r_lconst (v := 1) (dk kL_law_p15 47 rfl) (by decide) ?_
      refine r_goto (tgt := 1749) (dk kL_law_p15 48 rfl) (by decide) ?_
      refine r_lcmp (dk kL_law_p15 50 rfl) ?_
      refine r_if_eq (tgt := 1755) (dk kL_law_p15 51 rfl) (by decide) (fun c1750 => ?_) (fun c1750 => absurd e9 c1750)
      refine r_goto (tgt := 3024) (dk kL_law_p15 54 rfl) (by decide) ?_
      -- at 3024
      exact nx _ _ _ _ _ _ _ _ lv2 (by omega) (by omega) (by omega)
    · exact absurd (hy.symm.trans h0) (by rw [e1]; decide)
  · refine r_if_ne (tgt := 1755) (dk kL_law_p15 41 rfl) (by decide) (fun c1733 => ?_) (fun c1733 => absurd h0 c1733)
    refine r_goto (tgt := 3024) (dk kL_law_p15 54 rfl) (by decide) ?_
    -- at 3024
    exact nx _ _ _ _ _ _ _ _ lv2 (by omega) (by omega) (by omega)
theorem arm_32 {P : Int32 → Mm → Prop} (lv : LV F M x B) (hF : F + 10 < 2 ^ 30) (hi : i + 5 ≤ (gs G).2.1) (hN : (gs G).2.1 ≤ 2560) (hk : k + 2 ≤ 603072) (hn : n + 12 ≤ 7190633) (l6 l7 l8 : Value) (nx : Nx G (qi P nox) F x i k n) : WW G IL_law (qi P nox) 1994 [.ref (gs G).1, .ref x, .ref (x + 350), .ref (x + 359), .ref (x + 360), .int (nI i), l6, l7, l8] [] M k n := by
  obtain ⟨q9, vq⟩ := lv.1.c1
  obtain ⟨cb, rb, fo, kl, ll, kd2, ll2⟩ := id lv
  refine r_aload_n (dk kL_law_p18 25 rfl) rfl ?_
  refine r_aload_n (dk kL_law_p18 26 rfl) rfl ?_
  refine r_iload (dk kL_law_p18 27 rfl) rfl ?_
  refine r_iconst (v := 1) (dk kL_law_p18 28 rfl) (by decide) ?_
  refine r_iadd (dk kL_law_p18 29 rfl) ?_
  refine r_sld (dk kL_law_p18 30 rfl) (sc_in (k := 1) (by omega) hN rfl) ?_
  refine r_aload_n (dk kL_law_p18 31 rfl) rfl ?_
  refine r_iload (dk kL_law_p18 32 rfl) rfl ?_
  refine r_iconst (v := 2) (dk kL_law_p18 33 rfl) (by decide) ?_
  refine r_iadd (dk kL_law_p18 34 rfl) ?_
  refine r_sld (dk kL_law_p18 35 rfl) (sc_in (k := 2) (by omega) hN rfl) ?_
  refine r_aload_n (dk kL_law_p18 36 rfl) rfl ?_
  -- at 2008
  refine r_callSX (I' := IL_isBasedOn) (as := [_, _, _, _]) (dk kL_law_p18 37 rfl) mh_isBasedOn ml_L_282 rfl rfl rfl (Nat.le_of_ble_eq_true rfl) ⟨by decide, by decide⟩ ⟨?_, ?_⟩ (hg_isBasedOn cb kl ll _ _ (k_X8_isBasedOn cb.o vq cb.i.1.1 _ _) (sq_isBasedOn _ _ _)) (fun _ _ z => z.elim) ?_
  · show k + 2 ≤ 603072
    omega
  · show n + 12 ≤ 7190633
    omega
  rintro v M1 ⟨y, hv, hy, fy, hj, cb1⟩
  subst hv
  show WW G IL_law _ 2011 _ [.int y] M1 (k + 2) (n + 12)
  have rb1 := rb.fy fy (Nat.le_refl _)
  refine r_istore (dk kL_law_p18 38 rfl) (by decide) rfl ?_
  simp only [List.set_cons_succ, List.set_cons_zero]
  refine r_aload_n (dk kL_law_p18 39 rfl) rfl ?_
  refine r_aload_n (dk kL_law_p18 40 rfl) rfl ?_
  refine r_iload (dk kL_law_p18 41 rfl) rfl ?_
  refine r_iconst (v := 1) (dk kL_law_p18 42 rfl) (by decide) ?_
  refine r_iadd (dk kL_law_p18 43 rfl) ?_
  refine r_sld (dk kL_law_p18 44 rfl) (sc_in (k := 1) (by omega) hN rfl) ?_
  refine r_aload_n (dk kL_law_p18 45 rfl) rfl ?_
  refine r_iload (dk kL_law_p18 46 rfl) rfl ?_
  refine r_iconst (v := 2) (dk kL_law_p18 47 rfl) (by decide) ?_
  refine r_iadd (dk kL_law_p18 48 rfl) ?_
  refine r_sld (dk kL_law_p18 49 rfl) (sc_in (k := 2) (by omega) hN rfl) ?_
  -- at 2026
  refine r_callV (I' := IX9_isBasedOn) (as := [_, _]) (dk kL_law_p18 50 rfl) mv_X9_isBasedOn ml_L_284 rfl rfl rb1.o.1 rfl rfl (Nat.le_of_ble_eq_true rfl) ⟨by decide, by decide⟩ ⟨?_, ?_⟩ (m_of_sp rb1 (sp := sp_isBasedOn (bg B) _ _) (by have h9 := k_X9_isBasedOn (G := G) rb1.o (rb1.gi cb.i) ((gs G).2.2 (nI i + 1).toNatClampNeg) ((gs G).2.2 (nI i + 2).toNatClampNeg); rw [rb1.g] at h9; exact h9)) (fun _ _ z => z.elim) ?_
  · show k + 2 + 0 ≤ 603072
    omega
  · show n + 12 + 0 ≤ 7190633
    omega
  rintro v M2 ⟨z, hv, mr, h8, hz, B2, be, rb2⟩
  subst hv
  show WW G IL_law _ 2029 _ [.int z] M2 (k + 2) (n + 12)
  have lv2 := lv.step fy cb1 mr be rb2 (fo)
  refine r_istore (dk kL_law_p18 51 rfl) (by decide) rfl ?_
  simp only [List.set_cons_succ, List.set_cons_zero]
  refine r_aload_n (dk kL_law_p18 52 rfl) rfl ?_
  -- at 2032
  refine r_callVp (I' := IX9_thrown) (as := []) (dk kL_law_p18 53 rfl) mv_X9_thrown ml_L_177 rfl rfl rb2.o.1 rfl rfl (Nat.le_of_ble_eq_true rfl) ⟨by decide, by decide⟩ ⟨rfl, rfl⟩ ⟨?_, ?_⟩ (k_X9_thrown rb2.o) ?_
  · show k + 2 ≤ 603072
    omega
  · show n + 12 ≤ 7190633
    omega
  refine r_iload (dk kL_law_p18 54 rfl) rfl ?_
  refine r_icmp_eq (tgt := 2042) (dk kL_law_p18 55 rfl) (by decide) (fun c2037 => ?_) (fun c2037 => absurd (h8.trans hy.symm) c2037)
  refine r_iload (dk kL_law_p18 58 rfl) rfl ?_
  -- at 2044
  by_cases h0 : y = 0
  · have hz1 := hz (hy.symm.trans h0)
    have hj1 := hj (hy.symm.trans h0)
    rcases sq_isBasedOn (bg B) ((gs G).2.2 (nI i + 1).toNatClampNeg) ((gs G).2.2 (nI i + 2).toNatClampNeg) with ⟨e1, e2⟩ | ⟨e1, e2⟩ | e1
    · have e9 : lg_cmp (mj M2 (x + 359) 0) 0 = 0 := by rw [mr.2.2.2.1, hj1, e2]; rfl
      refine r_if_ne (tgt := 2066) (dk kL_law_p18 59 rfl) (by decide) (fun c2044 => absurd c2044 (not_not_intro h0)) (fun c2044 => ?_)
      refine r_aload_n (dk kL_law_p19 0 rfl) rfl ?_
      refine r_iconst (v := 0) (dk kL_law_p19 1 rfl) (by decide) ?_
      refine r_lal (dk kL_law_p19 2 rfl) lv2.2.2.2.1 lv2.2.2.2.2.1 (j := 0) rfl (by decide) (by decide) ?_
      refine r_iload (dk kL_law_p19 3 rfl) rfl ?_
      refine r_if_eq (tgt := 2059) (dk kL_law_p19 4 rfl) (by decide) (fun c2052 => ?_) (fun c2052 => absurd (hz1.trans e2) c2052)
      refine r_lconst (v := 0) (dk kL_law_p19 7 rfl) (by decide) ?_
      refine r_lcmp (dk kL_law_p19 8 rfl) ?_
      refine r_if_eq (tgt := 2066) (dk kL_law_p19 9 rfl) (by decide) (fun c2061 => ?_) (fun c2061 => absurd e9 c2061)
      refine r_goto (tgt := 3024) (dk kL_law_p19 12 rfl) (by decide) ?_
      -- at 3024
      exact nx _ _ _ _ _ _ _ _ lv2 (by omega) (by omega) (by omega)
    · have e9 : lg_cmp (mj M2 (x + 359) 0) 1 = 0 := by rw [mr.2.2.2.1, hj1, e2]; rfl
      refine r_if_ne (tgt := 2066) (dk kL_law_p18 59 rfl) (by decide) (fun c2044 => absurd c2044 (not_not_intro h0)) (fun c2044 => ?_)
      refine r_aload_n (dk kL_law_p19 0 rfl) rfl ?_
      refine r_iconst (v := 0) (dk kL_law_p19 1 rfl) (by decide) ?_
      refine r_lal (dk kL_law_p19 2 rfl) lv2.2.2.2.1 lv2.2.2.2.2.1 (j := 0) rfl (by decide) (by decide) ?_
      refine r_iload (dk kL_law_p19 3 rfl) rfl ?_
      refine r_if_eq (tgt := 2059) (dk kL_law_p19 4 rfl) (by decide) (fun c2052 => absurd c2052 (by rw [hz1, e2]; decide)) (fun c2052 => ?_)
      refine r_lconst (v := 1) (dk kL_law_p19 5 rfl) (by decide) ?_
      refine r_goto (tgt := 2060) (dk kL_law_p19 6 rfl) (by decide) ?_
      refine r_lcmp (dk kL_law_p19 8 rfl) ?_
      refine r_if_eq (tgt := 2066) (dk kL_law_p19 9 rfl) (by decide) (fun c2061 => ?_) (fun c2061 => absurd e9 c2061)
      refine r_goto (tgt := 3024) (dk kL_law_p19 12 rfl) (by decide) ?_
      -- at 3024
      exact nx _ _ _ _ _ _ _ _ lv2 (by omega) (by omega) (by omega)
    · exact absurd (hy.symm.trans h0) (by rw [e1]; decide)
  · refine r_if_ne (tgt := 2066) (dk kL_law_p18 59 rfl) (by decide) (fun c2044 => ?_) (fun c2044 => absurd h0 c2044)
    refine r_goto (tgt := 3024) (dk kL_law_p19 12 rfl) (by decide) ?_
    -- at 3024
    exact nx _ _ _ _ _ _ _ _ lv2 (by omega) (by omega) (by omega)
theorem arm_52 {P : Int32 → Mm → Prop} (lv : LV F M x B) (hF : F + 10 < 2 ^ 30) (hi : i + 5 ≤ (gs G).2.1) (hN : (gs G).2.1 ≤ 2560) (hk : k + 2 ≤ 603072) (hn : n + 12 ≤ 7190633) (l6 l7 l8 : Value) (nx : Nx G (qi P nox) F x i k n) : WW G IL_law (qi P nox) 2910 [.ref (gs G).1, .ref x, .ref (x + 350), .ref (x + 359), .ref (x + 360), .int (nI i), l6, l7, l8] [] M k n := by
  obtain ⟨cb, rb, fo, kl, ll, kd2, ll2⟩ := id lv
  refine r_aload_n (dk kL_law_p27 31 rfl) rfl ?_
  refine r_aload_n (dk kL_law_p27 32 rfl) rfl ?_
  -- at 2912
  refine r_callSX (I' := IL_undo) (as := [_, _]) (dk kL_law_p27 33 rfl) mh_undo ml_L_348 rfl rfl rfl (Nat.le_of_ble_eq_true rfl) ⟨by decide, by decide⟩ ⟨?_, ?_⟩ (hg_undo cb kl ll (k_X8_undo cb)) (fun _ _ z => z.elim) ?_
  · show k + 1 ≤ 603072
    omega
  · show n + 6 ≤ 7190633
    omega
  rintro v M1 ⟨y, hv, hy, fy, hj, cb1⟩
  subst hv
  show WW G IL_law _ 2915 _ [.int y] M1 (k + 1) (n + 6)
  have rb1 := rb.fy fy (Nat.le_refl _)
  refine r_istore (dk kL_law_p27 34 rfl) (by decide) rfl ?_
  simp only [List.set_cons_succ, List.set_cons_zero]
  refine r_aload_n (dk kL_law_p27 35 rfl) rfl ?_
  -- at 2918
  refine r_callV (I' := IX9_undo) (as := []) (dk kL_law_p27 36 rfl) mv_X9_undo ml_L_350 rfl rfl rb1.o.1 rfl rfl (Nat.le_of_ble_eq_true rfl) ⟨by decide, by decide⟩ ⟨?_, ?_⟩ (m_undo rb1 cb.i) (fun _ _ z => z.elim) ?_
  · show k + 1 + 0 ≤ 603072
    omega
  · show n + 6 + 0 ≤ 7190633
    omega
  rintro v M2 ⟨z, hv, mr, h8, hz, B2, be, rb2⟩
  subst hv
  show WW G IL_law _ 2921 _ [.int z] M2 (k + 1) (n + 6)
  have lv2 := lv.step fy cb1 mr be rb2 (by split <;> exact fo)
  refine r_istore (dk kL_law_p27 37 rfl) (by decide) rfl ?_
  simp only [List.set_cons_succ, List.set_cons_zero]
  refine r_aload_n (dk kL_law_p27 38 rfl) rfl ?_
  -- at 2924
  refine r_callVp (I' := IX9_thrown) (as := []) (dk kL_law_p27 39 rfl) mv_X9_thrown ml_L_177 rfl rfl rb2.o.1 rfl rfl (Nat.le_of_ble_eq_true rfl) ⟨by decide, by decide⟩ ⟨rfl, rfl⟩ ⟨?_, ?_⟩ (k_X9_thrown rb2.o) ?_
  · show k + 1 ≤ 603072
    omega
  · show n + 6 ≤ 7190633
    omega
  refine r_iload (dk kL_law_p27 40 rfl) rfl ?_
  refine r_icmp_eq (tgt := 2934) (dk kL_law_p27 41 rfl) (by decide) (fun c2929 => ?_) (fun c2929 => absurd (h8.trans hy.symm) c2929)
  refine r_iload (dk kL_law_p27 44 rfl) rfl ?_
  -- at 2936
  by_cases h0 : y = 0
  · have e9 : lg_cmp (mj M2 (x + 359) 0) z.toInt64 = 0 := by rw [mr.2.2.2.1, hj (hy.symm.trans h0), hz (hy.symm.trans h0)]; exact lg_cmp_self _
    refine r_if_ne (tgt := 2951) (dk kL_law_p27 45 rfl) (by decide) (fun c2936 => absurd c2936 (not_not_intro h0)) (fun c2936 => ?_)
    refine r_aload_n (dk kL_law_p27 46 rfl) rfl ?_
    refine r_iconst (v := 0) (dk kL_law_p27 47 rfl) (by decide) ?_
    refine r_lal (dk kL_law_p27 48 rfl) lv2.2.2.2.1 lv2.2.2.2.2.1 (j := 0) rfl (by decide) (by decide) ?_
    refine r_iload (dk kL_law_p27 49 rfl) rfl ?_
    refine r_i2l (dk kL_law_p27 50 rfl) ?_
    refine r_lcmp (dk kL_law_p27 51 rfl) ?_
    refine r_if_eq (tgt := 2951) (dk kL_law_p27 52 rfl) (by decide) (fun c2946 => ?_) (fun c2946 => absurd e9 c2946)
    refine r_goto (tgt := 3024) (dk kL_law_p27 55 rfl) (by decide) ?_
    -- at 3024
    exact nx _ _ _ _ _ _ _ _ lv2 (by omega) (by omega) (by omega)
  · refine r_if_ne (tgt := 2951) (dk kL_law_p27 45 rfl) (by decide) (fun c2936 => ?_) (fun c2936 => absurd h0 c2936)
    refine r_goto (tgt := 3024) (dk kL_law_p27 55 rfl) (by decide) ?_
    -- at 3024
    exact nx _ _ _ _ _ _ _ _ lv2 (by omega) (by omega) (by omega)
theorem arm_43 {P : Int32 → Mm → Prop} (lv : LV F M x B) (hF : F + 10 < 2 ^ 30) (hi : i + 5 ≤ (gs G).2.1) (hN : (gs G).2.1 ≤ 2560) (hk : k + 2 ≤ 603072) (hn : n + 12 ≤ 7190633) (l6 l7 l8 : Value) (nx : Nx G (qi P nox) F x i k n) : WW G IL_law (qi P nox) 2478 [.ref (gs G).1, .ref x, .ref (x + 350), .ref (x + 359), .ref (x + 360), .int (nI i), l6, l7, l8] [] M k n := by
  obtain ⟨cb, rb, fo, kl, ll, kd2, ll2⟩ := id lv
  refine r_aload_n (dk kL_law_p23 16 rfl) rfl ?_
  refine r_aload_n (dk kL_law_p23 17 rfl) rfl ?_
  -- at 2480
  refine r_callSX (I' := IL_execute) (as := [_, _]) (dk kL_law_p23 18 rfl) mh_execute ml_L_321 rfl rfl rfl (Nat.le_of_ble_eq_true rfl) ⟨by decide, by decide⟩ ⟨?_, ?_⟩ (h_execute cb (by omega) kl ll) (fun _ _ z => z.elim) ?_
  · show k + 1 ≤ 603072
    omega
  · show n + 6 ≤ 7190633
    omega
  rintro v M1 ⟨y, hv, hy, fy, hj, cb1⟩
  subst hv
  show WW G IL_law _ 2483 _ [.int y] M1 (k + 1) (n + 6)
  have rb1 := rb.fy fy (Nat.le_refl _)
  refine r_istore (dk kL_law_p23 19 rfl) (by decide) rfl ?_
  simp only [List.set_cons_succ, List.set_cons_zero]
  refine r_aload_n (dk kL_law_p23 20 rfl) rfl ?_
  -- at 2486
  refine r_callV (I' := IX9_execute) (as := []) (dk kL_law_p23 21 rfl) mv_X9_execute ml_L_323 rfl rfl rb1.o.1 rfl rfl (Nat.le_of_ble_eq_true rfl) ⟨by decide, by decide⟩ ⟨?_, ?_⟩ (m_execute rb1 cb.i (by omega)) (fun _ _ z => z.elim) ?_
  · show k + 1 + 0 ≤ 603072
    omega
  · show n + 6 + 0 ≤ 7190633
    omega
  rintro v M2 ⟨z, hv, mr, h8, hz, B2, be, rb2⟩
  subst hv
  show WW G IL_law _ 2489 _ [.int z] M2 (k + 1) (n + 6)
  have lv2 := lv.step fy cb1 mr be rb2 (fo.xo rb.2.2.2.2.1.2.1)
  refine r_istore (dk kL_law_p23 22 rfl) (by decide) rfl ?_
  simp only [List.set_cons_succ, List.set_cons_zero]
  refine r_aload_n (dk kL_law_p23 23 rfl) rfl ?_
  -- at 2492
  refine r_callVp (I' := IX9_thrown) (as := []) (dk kL_law_p23 24 rfl) mv_X9_thrown ml_L_177 rfl rfl rb2.o.1 rfl rfl (Nat.le_of_ble_eq_true rfl) ⟨by decide, by decide⟩ ⟨rfl, rfl⟩ ⟨?_, ?_⟩ (k_X9_thrown rb2.o) ?_
  · show k + 1 ≤ 603072
    omega
  · show n + 6 ≤ 7190633
    omega
  refine r_iload (dk kL_law_p23 25 rfl) rfl ?_
  refine r_icmp_eq (tgt := 2502) (dk kL_law_p23 26 rfl) (by decide) (fun c2497 => ?_) (fun c2497 => absurd (h8.trans hy.symm) c2497)
  refine r_iload (dk kL_law_p23 29 rfl) rfl ?_
  -- at 2504
  by_cases h0 : y = 0
  · have e9 : lg_cmp (mj M2 (x + 359) 0) z.toInt64 = 0 := by rw [mr.2.2.2.1, hj (hy.symm.trans h0), hz (hy.symm.trans h0)]; exact lg_cmp_self _
    refine r_if_ne (tgt := 2519) (dk kL_law_p23 30 rfl) (by decide) (fun c2504 => absurd c2504 (not_not_intro h0)) (fun c2504 => ?_)
    refine r_aload_n (dk kL_law_p23 31 rfl) rfl ?_
    refine r_iconst (v := 0) (dk kL_law_p23 32 rfl) (by decide) ?_
    refine r_lal (dk kL_law_p23 33 rfl) lv2.2.2.2.1 lv2.2.2.2.2.1 (j := 0) rfl (by decide) (by decide) ?_
    refine r_iload (dk kL_law_p23 34 rfl) rfl ?_
    refine r_i2l (dk kL_law_p23 35 rfl) ?_
    refine r_lcmp (dk kL_law_p23 36 rfl) ?_
    refine r_if_eq (tgt := 2519) (dk kL_law_p23 37 rfl) (by decide) (fun c2514 => ?_) (fun c2514 => absurd e9 c2514)
    refine r_goto (tgt := 3024) (dk kL_law_p23 40 rfl) (by decide) ?_
    -- at 3024
    exact nx _ _ _ _ _ _ _ _ lv2 (by omega) (by omega) (by omega)
  · refine r_if_ne (tgt := 2519) (dk kL_law_p23 30 rfl) (by decide) (fun c2504 => ?_) (fun c2504 => absurd h0 c2504)
    refine r_goto (tgt := 3024) (dk kL_law_p23 40 rfl) (by decide) ?_
    -- at 3024
    exact nx _ _ _ _ _ _ _ _ lv2 (by omega) (by omega) (by omega)
theorem arm_46 {P : Int32 → Mm → Prop} (lv : LV F M x B) (hF : F + 10 < 2 ^ 30) (hi : i + 5 ≤ (gs G).2.1) (hN : (gs G).2.1 ≤ 2560) (hk : k + 2 ≤ 603072) (hn : n + 12 ≤ 7190633) (l6 l7 l8 : Value) (nx : Nx G (qi P nox) F x i k n) : WW G IL_law (qi P nox) 2622 [.ref (gs G).1, .ref x, .ref (x + 350), .ref (x + 359), .ref (x + 360), .int (nI i), l6, l7, l8] [] M k n := by
  obtain ⟨cb, rb, fo, kl, ll, kd2, ll2⟩ := id lv
  refine r_aload_n (dk kL_law_p24 41 rfl) rfl ?_
  refine r_aload_n (dk kL_law_p24 42 rfl) rfl ?_
  refine r_iload (dk kL_law_p24 43 rfl) rfl ?_
  refine r_iconst (v := 1) (dk kL_law_p24 44 rfl) (by decide) ?_
  refine r_iadd (dk kL_law_p24 45 rfl) ?_
  refine r_sld (dk kL_law_p24 46 rfl) (sc_in (k := 1) (by omega) hN rfl) ?_
  refine r_aload_n (dk kL_law_p24 47 rfl) rfl ?_
  -- at 2630
  refine r_callSX (I' := IL_writeRow) (as := [_, _, _]) (dk kL_law_p24 48 rfl) mh_writeRow ml_L_330 rfl rfl rfl (Nat.le_of_ble_eq_true rfl) ⟨by decide, by decide⟩ ⟨?_, ?_⟩ (hg_writeRow cb kl ll _ (k_X8_writeRow cb _)) (fun _ _ z => z.elim) ?_
  · show k + 1 ≤ 603072
    omega
  · show n + 6 ≤ 7190633
    omega
  rintro v M1 ⟨y, hv, hy, fy, hj, cb1⟩
  subst hv
  show WW G IL_law _ 2633 _ [.int y] M1 (k + 1) (n + 6)
  have rb1 := rb.fy fy (Nat.le_refl _)
  refine r_istore (dk kL_law_p24 49 rfl) (by decide) rfl ?_
  simp only [List.set_cons_succ, List.set_cons_zero]
  refine r_aload_n (dk kL_law_p24 50 rfl) rfl ?_
  refine r_aload_n (dk kL_law_p24 51 rfl) rfl ?_
  refine r_iload (dk kL_law_p24 52 rfl) rfl ?_
  refine r_iconst (v := 1) (dk kL_law_p24 53 rfl) (by decide) ?_
  refine r_iadd (dk kL_law_p24 54 rfl) ?_
  refine r_sld (dk kL_law_p24 55 rfl) (sc_in (k := 1) (by omega) hN rfl) ?_
  -- at 2642
  refine r_callV (I' := IX9_writeRow) (as := [_]) (dk kL_law_p24 56 rfl) mv_X9_writeRow ml_L_332 rfl rfl rb1.o.1 rfl rfl (Nat.le_of_ble_eq_true rfl) ⟨by decide, by decide⟩ ⟨?_, ?_⟩ (m_writeRow rb1 cb.i _ (mi M (x + 336))) (fun _ _ z => z.elim) ?_
  · show k + 1 + 0 ≤ 603072
    omega
  · show n + 6 + 0 ≤ 7190633
    omega
  rintro v M2 ⟨z, hv, mr, h8, hz, B2, be, rb2⟩
  subst hv
  show WW G IL_law _ 2645 _ [.int z] M2 (k + 1) (n + 6)
  have lv2 := lv.step fy cb1 mr be rb2 (by split <;> exact fo)
  refine r_istore (dk kL_law_p24 57 rfl) (by decide) rfl ?_
  simp only [List.set_cons_succ, List.set_cons_zero]
  refine r_aload_n (dk kL_law_p24 58 rfl) rfl ?_
  -- at 2648
  refine r_callVp (I' := IX9_thrown) (as := []) (dk kL_law_p24 59 rfl) mv_X9_thrown ml_L_177 rfl rfl rb2.o.1 rfl rfl (Nat.le_of_ble_eq_true rfl) ⟨by decide, by decide⟩ ⟨rfl, rfl⟩ ⟨?_, ?_⟩ (k_X9_thrown rb2.o) ?_
  · show k + 1 ≤ 603072
    omega
  · show n + 6 ≤ 7190633
    omega
  refine r_iload (dk kL_law_p25 0 rfl) rfl ?_
  refine r_icmp_eq (tgt := 2658) (dk kL_law_p25 1 rfl) (by decide) (fun c2653 => ?_) (fun c2653 => absurd (h8.trans hy.symm) c2653)
  refine r_iload (dk kL_law_p25 4 rfl) rfl ?_
  -- at 2660
  by_cases h0 : y = 0
  · have e9 : lg_cmp (mj M2 (x + 359) 0) z.toInt64 = 0 := by rw [mr.2.2.2.1, hj (hy.symm.trans h0), hz (hy.symm.trans h0)]; exact lg_cmp_self _
    refine r_if_ne (tgt := 2675) (dk kL_law_p25 5 rfl) (by decide) (fun c2660 => absurd c2660 (not_not_intro h0)) (fun c2660 => ?_)
    refine r_aload_n (dk kL_law_p25 6 rfl) rfl ?_
    refine r_iconst (v := 0) (dk kL_law_p25 7 rfl) (by decide) ?_
    refine r_lal (dk kL_law_p25 8 rfl) lv2.2.2.2.1 lv2.2.2.2.2.1 (j := 0) rfl (by decide) (by decide) ?_
    refine r_iload (dk kL_law_p25 9 rfl) rfl ?_
    refine r_i2l (dk kL_law_p25 10 rfl) ?_
    refine r_lcmp (dk kL_law_p25 11 rfl) ?_
    refine r_if_eq (tgt := 2675) (dk kL_law_p25 12 rfl) (by decide) (fun c2670 => ?_) (fun c2670 => absurd e9 c2670)
    refine r_goto (tgt := 3024) (dk kL_law_p25 15 rfl) (by decide) ?_
    -- at 3024
    exact nx _ _ _ _ _ _ _ _ lv2 (by omega) (by omega) (by omega)
  · refine r_if_ne (tgt := 2675) (dk kL_law_p25 5 rfl) (by decide) (fun c2660 => ?_) (fun c2660 => absurd h0 c2660)
    refine r_goto (tgt := 3024) (dk kL_law_p25 15 rfl) (by decide) ?_
    -- at 3024
    exact nx _ _ _ _ _ _ _ _ lv2 (by omega) (by omega) (by omega)
theorem arm_44 {P : Int32 → Mm → Prop} (lv : LV F M x B) (hF : F + 10 < 2 ^ 30) (hi : i + 5 ≤ (gs G).2.1) (hN : (gs G).2.1 ≤ 2560) (hk : k + 2 ≤ 603072) (hn : n + 12 ≤ 7190633) (l6 l7 l8 : Value) (nx : Nx G (qi P nox) F x i k n) : WW G IL_law (qi P nox) 2522 [.ref (gs G).1, .ref x, .ref (x + 350), .ref (x + 359), .ref (x + 360), .int (nI i), l6, l7, l8] [] M k n := by
  obtain ⟨cb, rb, fo, kl, ll, kd2, ll2⟩ := id lv
  refine r_aload_n (dk kL_law_p23 41 rfl) rfl ?_
  refine r_aload_n (dk kL_law_p23 42 rfl) rfl ?_
  -- at 2524
  refine r_callSX (I' := IL_faultPosition) (as := [_, _]) (dk kL_law_p23 43 rfl) mh_faultPosition ml_L_324 rfl rfl rfl (Nat.le_of_ble_eq_true rfl) ⟨by decide, by decide⟩ ⟨?_, ?_⟩ (hg_faultPosition cb kl ll (k_X8_faultPosition cb.o cb.c6 fo) (bI_01 _)) (fun _ _ z => z.elim) ?_
  · show k + 1 ≤ 603072
    omega
  · show n + 6 ≤ 7190633
    omega
  rintro v M1 ⟨y, hv, hy, fy, hj, cb1⟩
  subst hv
  show WW G IL_law _ 2527 _ [.int y] M1 (k + 1) (n + 6)
  have rb1 := rb.fy fy (Nat.le_refl _)
  refine r_istore (dk kL_law_p23 44 rfl) (by decide) rfl ?_
  simp only [List.set_cons_succ, List.set_cons_zero]
  refine r_aload_n (dk kL_law_p23 45 rfl) rfl ?_
  -- at 2530
  refine r_callV (I' := IX9_faultPosition) (as := []) (dk kL_law_p23 46 rfl) mv_X9_faultPosition ml_L_326 rfl rfl rb1.o.1 rfl rfl (Nat.le_of_ble_eq_true rfl) ⟨by decide, by decide⟩ ⟨?_, ?_⟩ (m_faultPosition rb1) (fun _ _ z => z.elim) ?_
  · show k + 1 + 0 ≤ 603072
    omega
  · show n + 6 + 0 ≤ 7190633
    omega
  rintro v M2 ⟨z, hv, mr, h8, hz, B2, be, rb2⟩
  subst hv
  show WW G IL_law _ 2533 _ [.int z] M2 (k + 1) (n + 6)
  have lv2 := lv.step fy cb1 mr be rb2 (fo)
  refine r_istore (dk kL_law_p23 47 rfl) (by decide) rfl ?_
  simp only [List.set_cons_succ, List.set_cons_zero]
  refine r_aload_n (dk kL_law_p23 48 rfl) rfl ?_
  -- at 2536
  refine r_callVp (I' := IX9_thrown) (as := []) (dk kL_law_p23 49 rfl) mv_X9_thrown ml_L_177 rfl rfl rb2.o.1 rfl rfl (Nat.le_of_ble_eq_true rfl) ⟨by decide, by decide⟩ ⟨rfl, rfl⟩ ⟨?_, ?_⟩ (k_X9_thrown rb2.o) ?_
  · show k + 1 ≤ 603072
    omega
  · show n + 6 ≤ 7190633
    omega
  refine r_iload (dk kL_law_p23 50 rfl) rfl ?_
  refine r_icmp_eq (tgt := 2546) (dk kL_law_p23 51 rfl) (by decide) (fun c2541 => ?_) (fun c2541 => absurd (h8.trans hy.symm) c2541)
  refine r_iload (dk kL_law_p23 54 rfl) rfl ?_
  -- at 2548
  by_cases h0 : y = 0
  · have e9 : lg_cmp (mj M2 (x + 359) 0) z.toInt64 = 0 := by rw [mr.2.2.2.1, hj (hy.symm.trans h0), hz (hy.symm.trans h0)]; exact lg_cmp_self _
    refine r_if_ne (tgt := 2563) (dk kL_law_p23 55 rfl) (by decide) (fun c2548 => absurd c2548 (not_not_intro h0)) (fun c2548 => ?_)
    refine r_aload_n (dk kL_law_p23 56 rfl) rfl ?_
    refine r_iconst (v := 0) (dk kL_law_p23 57 rfl) (by decide) ?_
    refine r_lal (dk kL_law_p23 58 rfl) lv2.2.2.2.1 lv2.2.2.2.2.1 (j := 0) rfl (by decide) (by decide) ?_
    refine r_iload (dk kL_law_p23 59 rfl) rfl ?_
    refine r_i2l (dk kL_law_p24 0 rfl) ?_
    refine r_lcmp (dk kL_law_p24 1 rfl) ?_
    refine r_if_eq (tgt := 2563) (dk kL_law_p24 2 rfl) (by decide) (fun c2558 => ?_) (fun c2558 => absurd e9 c2558)
    refine r_goto (tgt := 3024) (dk kL_law_p24 5 rfl) (by decide) ?_
    -- at 3024
    exact nx _ _ _ _ _ _ _ _ lv2 (by omega) (by omega) (by omega)
  · refine r_if_ne (tgt := 2563) (dk kL_law_p23 55 rfl) (by decide) (fun c2548 => ?_) (fun c2548 => absurd h0 c2548)
    refine r_goto (tgt := 3024) (dk kL_law_p24 5 rfl) (by decide) ?_
    -- at 3024
    exact nx _ _ _ _ _ _ _ _ lv2 (by omega) (by omega) (by omega)
theorem arm_48 {P : Int32 → Mm → Prop} (lv : LV F M x B) (hF : F + 10 < 2 ^ 30) (hi : i + 5 ≤ (gs G).2.1) (hN : (gs G).2.1 ≤ 2560) (hk : k + 2 ≤ 603072) (hn : n + 12 ≤ 7190633) (l6 l7 l8 : Value) (nx : Nx G (qi P nox) F x i k n) : WW G IL_law (qi P nox) 2734 [.ref (gs G).1, .ref x, .ref (x + 350), .ref (x + 359), .ref (x + 360), .int (nI i), l6, l7, l8] [] M k n := by
  obtain ⟨cb, rb, fo, kl, ll, kd2, ll2⟩ := id lv
  refine r_aload_n (dk kL_law_p25 51 rfl) rfl ?_
  refine r_aload_n (dk kL_law_p25 52 rfl) rfl ?_
  -- at 2736
  refine r_callSX (I' := IL_denial) (as := [_, _]) (dk kL_law_p25 53 rfl) mh_denial ml_L_336 rfl rfl rfl (Nat.le_of_ble_eq_true rfl) ⟨by decide, by decide⟩ ⟨?_, ?_⟩ (hg_denial cb kl ll (by have h9 := k_X8_denial (G := G) cb.o; rw [cb.c7.1] at h9; exact h9) (bI_01 _)) (fun _ _ z => z.elim) ?_
  · show k + 1 ≤ 603072
    omega
  · show n + 6 ≤ 7190633
    omega
  rintro v M1 ⟨y, hv, hy, fy, hj, cb1⟩
  subst hv
  show WW G IL_law _ 2739 _ [.int y] M1 (k + 1) (n + 6)
  have rb1 := rb.fy fy (Nat.le_refl _)
  refine r_istore (dk kL_law_p25 54 rfl) (by decide) rfl ?_
  simp only [List.set_cons_succ, List.set_cons_zero]
  refine r_aload_n (dk kL_law_p25 55 rfl) rfl ?_
  -- at 2742
  refine r_callV (I' := IX9_denial) (as := []) (dk kL_law_p25 56 rfl) mv_X9_denial ml_L_338 rfl rfl rb1.o.1 rfl rfl (Nat.le_of_ble_eq_true rfl) ⟨by decide, by decide⟩ ⟨?_, ?_⟩ (m_denial rb1) (fun _ _ z => z.elim) ?_
  · show k + 1 + 0 ≤ 603072
    omega
  · show n + 6 + 0 ≤ 7190633
    omega
  rintro v M2 ⟨z, hv, mr, h8, hz, B2, be, rb2⟩
  subst hv
  show WW G IL_law _ 2745 _ [.int z] M2 (k + 1) (n + 6)
  have lv2 := lv.step fy cb1 mr be rb2 (fo)
  refine r_istore (dk kL_law_p25 57 rfl) (by decide) rfl ?_
  simp only [List.set_cons_succ, List.set_cons_zero]
  refine r_aload_n (dk kL_law_p25 58 rfl) rfl ?_
  -- at 2748
  refine r_callVp (I' := IX9_thrown) (as := []) (dk kL_law_p25 59 rfl) mv_X9_thrown ml_L_177 rfl rfl rb2.o.1 rfl rfl (Nat.le_of_ble_eq_true rfl) ⟨by decide, by decide⟩ ⟨rfl, rfl⟩ ⟨?_, ?_⟩ (k_X9_thrown rb2.o) ?_
  · show k + 1 ≤ 603072
    omega
  · show n + 6 ≤ 7190633
    omega
  refine r_iload (dk kL_law_p26 0 rfl) rfl ?_
  refine r_icmp_eq (tgt := 2758) (dk kL_law_p26 1 rfl) (by decide) (fun c2753 => ?_) (fun c2753 => absurd (h8.trans hy.symm) c2753)
  refine r_iload (dk kL_law_p26 4 rfl) rfl ?_
  -- at 2760
  by_cases h0 : y = 0
  · have e9 : lg_cmp (mj M2 (x + 359) 0) z.toInt64 = 0 := by rw [mr.2.2.2.1, hj (hy.symm.trans h0), hz (hy.symm.trans h0)]; exact lg_cmp_self _
    refine r_if_ne (tgt := 2775) (dk kL_law_p26 5 rfl) (by decide) (fun c2760 => absurd c2760 (not_not_intro h0)) (fun c2760 => ?_)
    refine r_aload_n (dk kL_law_p26 6 rfl) rfl ?_
    refine r_iconst (v := 0) (dk kL_law_p26 7 rfl) (by decide) ?_
    refine r_lal (dk kL_law_p26 8 rfl) lv2.2.2.2.1 lv2.2.2.2.2.1 (j := 0) rfl (by decide) (by decide) ?_
    refine r_iload (dk kL_law_p26 9 rfl) rfl ?_
    refine r_i2l (dk kL_law_p26 10 rfl) ?_
    refine r_lcmp (dk kL_law_p26 11 rfl) ?_
    refine r_if_eq (tgt := 2775) (dk kL_law_p26 12 rfl) (by decide) (fun c2770 => ?_) (fun c2770 => absurd e9 c2770)
    refine r_goto (tgt := 3024) (dk kL_law_p26 15 rfl) (by decide) ?_
    -- at 3024
    exact nx _ _ _ _ _ _ _ _ lv2 (by omega) (by omega) (by omega)
  · refine r_if_ne (tgt := 2775) (dk kL_law_p26 5 rfl) (by decide) (fun c2760 => ?_) (fun c2760 => absurd h0 c2760)
    refine r_goto (tgt := 3024) (dk kL_law_p26 15 rfl) (by decide) ?_
    -- at 3024
    exact nx _ _ _ _ _ _ _ _ lv2 (by omega) (by omega) (by omega)
theorem arm_49 {P : Int32 → Mm → Prop} (lv : LV F M x B) (hF : F + 10 < 2 ^ 30) (hi : i + 5 ≤ (gs G).2.1) (hN : (gs G).2.1 ≤ 2560) (hk : k + 2 ≤ 603072) (hn : n + 12 ≤ 7190633) (l6 l7 l8 : Value) (nx : Nx G (qi P nox) F x i k n) : WW G IL_law (qi P nox) 2778 [.ref (gs G).1, .ref x, .ref (x + 350), .ref (x + 359), .ref (x + 360), .int (nI i), l6, l7, l8] [] M k n := by
  obtain ⟨cb, rb, fo, kl, ll, kd2, ll2⟩ := id lv
  refine r_aload_n (dk kL_law_p26 16 rfl) rfl ?_
  refine r_aload_n (dk kL_law_p26 17 rfl) rfl ?_
  -- at 2780
  refine r_callSX (I' := IL_denialDetail) (as := [_, _]) (dk kL_law_p26 18 rfl) mh_denialDetail ml_L_339 rfl rfl rfl (Nat.le_of_ble_eq_true rfl) ⟨by decide, by decide⟩ ⟨?_, ?_⟩ (hg_denialDetail cb kl ll (by have h9 := k_X8_denialDetail (G := G) cb.o; rw [cb.c7.1, cb.c7.2.1] at h9; exact h9) (bI_01 _)) (fun _ _ z => z.elim) ?_
  · show k + 1 ≤ 603072
    omega
  · show n + 6 ≤ 7190633
    omega
  rintro v M1 ⟨y, hv, hy, fy, hj, cb1⟩
  subst hv
  show WW G IL_law _ 2783 _ [.int y] M1 (k + 1) (n + 6)
  have rb1 := rb.fy fy (Nat.le_refl _)
  refine r_istore (dk kL_law_p26 19 rfl) (by decide) rfl ?_
  simp only [List.set_cons_succ, List.set_cons_zero]
  refine r_aload_n (dk kL_law_p26 20 rfl) rfl ?_
  -- at 2786
  refine r_callV (I' := IX9_denialDetail) (as := []) (dk kL_law_p26 21 rfl) mv_X9_denialDetail ml_L_341 rfl rfl rb1.o.1 rfl rfl (Nat.le_of_ble_eq_true rfl) ⟨by decide, by decide⟩ ⟨?_, ?_⟩ (m_denialDetail rb1) (fun _ _ z => z.elim) ?_
  · show k + 1 + 0 ≤ 603072
    omega
  · show n + 6 + 0 ≤ 7190633
    omega
  rintro v M2 ⟨z, hv, mr, h8, hz, B2, be, rb2⟩
  subst hv
  show WW G IL_law _ 2789 _ [.int z] M2 (k + 1) (n + 6)
  have lv2 := lv.step fy cb1 mr be rb2 (fo)
  refine r_istore (dk kL_law_p26 22 rfl) (by decide) rfl ?_
  simp only [List.set_cons_succ, List.set_cons_zero]
  refine r_aload_n (dk kL_law_p26 23 rfl) rfl ?_
  -- at 2792
  refine r_callVp (I' := IX9_thrown) (as := []) (dk kL_law_p26 24 rfl) mv_X9_thrown ml_L_177 rfl rfl rb2.o.1 rfl rfl (Nat.le_of_ble_eq_true rfl) ⟨by decide, by decide⟩ ⟨rfl, rfl⟩ ⟨?_, ?_⟩ (k_X9_thrown rb2.o) ?_
  · show k + 1 ≤ 603072
    omega
  · show n + 6 ≤ 7190633
    omega
  refine r_iload (dk kL_law_p26 25 rfl) rfl ?_
  refine r_icmp_eq (tgt := 2802) (dk kL_law_p26 26 rfl) (by decide) (fun c2797 => ?_) (fun c2797 => absurd (h8.trans hy.symm) c2797)
  refine r_iload (dk kL_law_p26 29 rfl) rfl ?_
  -- at 2804
  by_cases h0 : y = 0
  · have e9 : lg_cmp (mj M2 (x + 359) 0) z.toInt64 = 0 := by rw [mr.2.2.2.1, hj (hy.symm.trans h0), hz (hy.symm.trans h0)]; exact lg_cmp_self _
    refine r_if_ne (tgt := 2819) (dk kL_law_p26 30 rfl) (by decide) (fun c2804 => absurd c2804 (not_not_intro h0)) (fun c2804 => ?_)
    refine r_aload_n (dk kL_law_p26 31 rfl) rfl ?_
    refine r_iconst (v := 0) (dk kL_law_p26 32 rfl) (by decide) ?_
    refine r_lal (dk kL_law_p26 33 rfl) lv2.2.2.2.1 lv2.2.2.2.2.1 (j := 0) rfl (by decide) (by decide) ?_
    refine r_iload (dk kL_law_p26 34 rfl) rfl ?_
    refine r_i2l (dk kL_law_p26 35 rfl) ?_
    refine r_lcmp (dk kL_law_p26 36 rfl) ?_
    refine r_if_eq (tgt := 2819) (dk kL_law_p26 37 rfl) (by decide) (fun c2814 => ?_) (fun c2814 => absurd e9 c2814)
    refine r_goto (tgt := 3024) (dk kL_law_p26 40 rfl) (by decide) ?_
    -- at 3024
    exact nx _ _ _ _ _ _ _ _ lv2 (by omega) (by omega) (by omega)
  · refine r_if_ne (tgt := 2819) (dk kL_law_p26 30 rfl) (by decide) (fun c2804 => ?_) (fun c2804 => absurd h0 c2804)
    refine r_goto (tgt := 3024) (dk kL_law_p26 40 rfl) (by decide) ?_
    -- at 3024
    exact nx _ _ _ _ _ _ _ _ lv2 (by omega) (by omega) (by omega)
theorem arm_50 {P : Int32 → Mm → Prop} (lv : LV F M x B) (hF : F + 10 < 2 ^ 30) (hi : i + 5 ≤ (gs G).2.1) (hN : (gs G).2.1 ≤ 2560) (hk : k + 2 ≤ 603072) (hn : n + 12 ≤ 7190633) (l6 l7 l8 : Value) (nx : Nx G (qi P nox) F x i k n) : WW G IL_law (qi P nox) 2822 [.ref (gs G).1, .ref x, .ref (x + 350), .ref (x + 359), .ref (x + 360), .int (nI i), l6, l7, l8] [] M k n := by
  obtain ⟨cb, rb, fo, kl, ll, kd2, ll2⟩ := id lv
  refine r_aload_n (dk kL_law_p26 41 rfl) rfl ?_
  refine r_aload_n (dk kL_law_p26 42 rfl) rfl ?_
  -- at 2824
  refine r_callSX (I' := IL_denialCause) (as := [_, _]) (dk kL_law_p26 43 rfl) mh_denialCause ml_L_342 rfl rfl rfl (Nat.le_of_ble_eq_true rfl) ⟨by decide, by decide⟩ ⟨?_, ?_⟩ (hg_denialCause cb kl ll (by have h9 := k_X8_denialCause (G := G) cb.o; rw [cb.c7.2.2.1] at h9; exact h9) (bI_01 _)) (fun _ _ z => z.elim) ?_
  · show k + 1 ≤ 603072
    omega
  · show n + 6 ≤ 7190633
    omega
  rintro v M1 ⟨y, hv, hy, fy, hj, cb1⟩
  subst hv
  show WW G IL_law _ 2827 _ [.int y] M1 (k + 1) (n + 6)
  have rb1 := rb.fy fy (Nat.le_refl _)
  refine r_istore (dk kL_law_p26 44 rfl) (by decide) rfl ?_
  simp only [List.set_cons_succ, List.set_cons_zero]
  refine r_aload_n (dk kL_law_p26 45 rfl) rfl ?_
  -- at 2830
  refine r_callV (I' := IX9_denialCause) (as := []) (dk kL_law_p26 46 rfl) mv_X9_denialCause ml_L_344 rfl rfl rb1.o.1 rfl rfl (Nat.le_of_ble_eq_true rfl) ⟨by decide, by decide⟩ ⟨?_, ?_⟩ (m_denialCause rb1) (fun _ _ z => z.elim) ?_
  · show k + 1 + 0 ≤ 603072
    omega
  · show n + 6 + 0 ≤ 7190633
    omega
  rintro v M2 ⟨z, hv, mr, h8, hz, B2, be, rb2⟩
  subst hv
  show WW G IL_law _ 2833 _ [.int z] M2 (k + 1) (n + 6)
  have lv2 := lv.step fy cb1 mr be rb2 (fo)
  refine r_istore (dk kL_law_p26 47 rfl) (by decide) rfl ?_
  simp only [List.set_cons_succ, List.set_cons_zero]
  refine r_aload_n (dk kL_law_p26 48 rfl) rfl ?_
  -- at 2836
  refine r_callVp (I' := IX9_thrown) (as := []) (dk kL_law_p26 49 rfl) mv_X9_thrown ml_L_177 rfl rfl rb2.o.1 rfl rfl (Nat.le_of_ble_eq_true rfl) ⟨by decide, by decide⟩ ⟨rfl, rfl⟩ ⟨?_, ?_⟩ (k_X9_thrown rb2.o) ?_
  · show k + 1 ≤ 603072
    omega
  · show n + 6 ≤ 7190633
    omega
  refine r_iload (dk kL_law_p26 50 rfl) rfl ?_
  refine r_icmp_eq (tgt := 2846) (dk kL_law_p26 51 rfl) (by decide) (fun c2841 => ?_) (fun c2841 => absurd (h8.trans hy.symm) c2841)
  refine r_iload (dk kL_law_p26 54 rfl) rfl ?_
  -- at 2848
  by_cases h0 : y = 0
  · have e9 : lg_cmp (mj M2 (x + 359) 0) z.toInt64 = 0 := by rw [mr.2.2.2.1, hj (hy.symm.trans h0), hz (hy.symm.trans h0)]; exact lg_cmp_self _
    refine r_if_ne (tgt := 2863) (dk kL_law_p26 55 rfl) (by decide) (fun c2848 => absurd c2848 (not_not_intro h0)) (fun c2848 => ?_)
    refine r_aload_n (dk kL_law_p26 56 rfl) rfl ?_
    refine r_iconst (v := 0) (dk kL_law_p26 57 rfl) (by decide) ?_
    refine r_lal (dk kL_law_p26 58 rfl) lv2.2.2.2.1 lv2.2.2.2.2.1 (j := 0) rfl (by decide) (by decide) ?_
    refine r_iload (dk kL_law_p26 59 rfl) rfl ?_
    refine r_i2l (dk kL_law_p27 0 rfl) ?_
    refine r_lcmp (dk kL_law_p27 1 rfl) ?_
    refine r_if_eq (tgt := 2863) (dk kL_law_p27 2 rfl) (by decide) (fun c2858 => ?_) (fun c2858 => absurd e9 c2858)
    refine r_goto (tgt := 3024) (dk kL_law_p27 5 rfl) (by decide) ?_
    -- at 3024
    exact nx _ _ _ _ _ _ _ _ lv2 (by omega) (by omega) (by omega)
  · refine r_if_ne (tgt := 2863) (dk kL_law_p26 55 rfl) (by decide) (fun c2848 => ?_) (fun c2848 => absurd h0 c2848)
    refine r_goto (tgt := 3024) (dk kL_law_p27 5 rfl) (by decide) ?_
    -- at 3024
    exact nx _ _ _ _ _ _ _ _ lv2 (by omega) (by omega) (by omega)
theorem arm_51 {P : Int32 → Mm → Prop} (lv : LV F M x B) (hF : F + 10 < 2 ^ 30) (hi : i + 5 ≤ (gs G).2.1) (hN : (gs G).2.1 ≤ 2560) (hk : k + 2 ≤ 603072) (hn : n + 12 ≤ 7190633) (l6 l7 l8 : Value) (nx : Nx G (qi P nox) F x i k n) : WW G IL_law (qi P nox) 2866 [.ref (gs G).1, .ref x, .ref (x + 350), .ref (x + 359), .ref (x + 360), .int (nI i), l6, l7, l8] [] M k n := by
  obtain ⟨cb, rb, fo, kl, ll, kd2, ll2⟩ := id lv
  refine r_aload_n (dk kL_law_p27 6 rfl) rfl ?_
  refine r_aload_n (dk kL_law_p27 7 rfl) rfl ?_
  -- at 2868
  refine r_callSX (I' := IL_denialCauseDetail) (as := [_, _]) (dk kL_law_p27 8 rfl) mh_denialCauseDetail ml_L_345 rfl rfl rfl (Nat.le_of_ble_eq_true rfl) ⟨by decide, by decide⟩ ⟨?_, ?_⟩ (hg_denialCauseDetail cb kl ll (by have h9 := k_X8_denialCauseDetail (G := G) cb.o; rw [cb.c7.2.2.1, cb.c7.2.2.2] at h9; exact h9) (bI_01 _)) (fun _ _ z => z.elim) ?_
  · show k + 1 ≤ 603072
    omega
  · show n + 6 ≤ 7190633
    omega
  rintro v M1 ⟨y, hv, hy, fy, hj, cb1⟩
  subst hv
  show WW G IL_law _ 2871 _ [.int y] M1 (k + 1) (n + 6)
  have rb1 := rb.fy fy (Nat.le_refl _)
  refine r_istore (dk kL_law_p27 9 rfl) (by decide) rfl ?_
  simp only [List.set_cons_succ, List.set_cons_zero]
  refine r_aload_n (dk kL_law_p27 10 rfl) rfl ?_
  -- at 2874
  refine r_callV (I' := IX9_denialCauseDetail) (as := []) (dk kL_law_p27 11 rfl) mv_X9_denialCauseDetail ml_L_347 rfl rfl rb1.o.1 rfl rfl (Nat.le_of_ble_eq_true rfl) ⟨by decide, by decide⟩ ⟨?_, ?_⟩ (m_denialCauseDetail rb1) (fun _ _ z => z.elim) ?_
  · show k + 1 + 0 ≤ 603072
    omega
  · show n + 6 + 0 ≤ 7190633
    omega
  rintro v M2 ⟨z, hv, mr, h8, hz, B2, be, rb2⟩
  subst hv
  show WW G IL_law _ 2877 _ [.int z] M2 (k + 1) (n + 6)
  have lv2 := lv.step fy cb1 mr be rb2 (fo)
  refine r_istore (dk kL_law_p27 12 rfl) (by decide) rfl ?_
  simp only [List.set_cons_succ, List.set_cons_zero]
  refine r_aload_n (dk kL_law_p27 13 rfl) rfl ?_
  -- at 2880
  refine r_callVp (I' := IX9_thrown) (as := []) (dk kL_law_p27 14 rfl) mv_X9_thrown ml_L_177 rfl rfl rb2.o.1 rfl rfl (Nat.le_of_ble_eq_true rfl) ⟨by decide, by decide⟩ ⟨rfl, rfl⟩ ⟨?_, ?_⟩ (k_X9_thrown rb2.o) ?_
  · show k + 1 ≤ 603072
    omega
  · show n + 6 ≤ 7190633
    omega
  refine r_iload (dk kL_law_p27 15 rfl) rfl ?_
  refine r_icmp_eq (tgt := 2890) (dk kL_law_p27 16 rfl) (by decide) (fun c2885 => ?_) (fun c2885 => absurd (h8.trans hy.symm) c2885)
  refine r_iload (dk kL_law_p27 19 rfl) rfl ?_
  -- at 2892
  by_cases h0 : y = 0
  · have e9 : lg_cmp (mj M2 (x + 359) 0) z.toInt64 = 0 := by rw [mr.2.2.2.1, hj (hy.symm.trans h0), hz (hy.symm.trans h0)]; exact lg_cmp_self _
    refine r_if_ne (tgt := 2907) (dk kL_law_p27 20 rfl) (by decide) (fun c2892 => absurd c2892 (not_not_intro h0)) (fun c2892 => ?_)
    refine r_aload_n (dk kL_law_p27 21 rfl) rfl ?_
    refine r_iconst (v := 0) (dk kL_law_p27 22 rfl) (by decide) ?_
    refine r_lal (dk kL_law_p27 23 rfl) lv2.2.2.2.1 lv2.2.2.2.2.1 (j := 0) rfl (by decide) (by decide) ?_
    refine r_iload (dk kL_law_p27 24 rfl) rfl ?_
    refine r_i2l (dk kL_law_p27 25 rfl) ?_
    refine r_lcmp (dk kL_law_p27 26 rfl) ?_
    refine r_if_eq (tgt := 2907) (dk kL_law_p27 27 rfl) (by decide) (fun c2902 => ?_) (fun c2902 => absurd e9 c2902)
    refine r_goto (tgt := 3024) (dk kL_law_p27 30 rfl) (by decide) ?_
    -- at 3024
    exact nx _ _ _ _ _ _ _ _ lv2 (by omega) (by omega) (by omega)
  · refine r_if_ne (tgt := 2907) (dk kL_law_p27 20 rfl) (by decide) (fun c2892 => ?_) (fun c2892 => absurd h0 c2892)
    refine r_goto (tgt := 3024) (dk kL_law_p27 30 rfl) (by decide) ?_
    -- at 3024
    exact nx _ _ _ _ _ _ _ _ lv2 (by omega) (by omega) (by omega)
end LAW
