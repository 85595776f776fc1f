/-! THE LAW: its steps: means -/
theorem lz_st2 {ls : Array Slot} {n i : Nat} {L : List Value} {v : Value} (hk : okc L i = true) (h : lv_has ls n ((i, v) :: (lz 0 L).filter (fun q => !(q.1 == i) && (!(q.1 == i + 1) && !(q.1 + 1 == i && q.2.category == 2))))) : lv_has ls n (lz 0 ((L.set i v).set (i + 1) lj)) := by
  refine ⟨h.1, h.2.1, fun q hq => ?_⟩
  obtain ⟨j, h1, h2, h3⟩ := lz_inv _ _ _ hq
  rw [Nat.zero_add] at h1
  subst h1
  obtain ⟨j, w⟩ := q
  dsimp only at h2 h3 ⊢
  by_cases hj1 : j = i + 1
  · subst hj1
    have hl : i + 1 < (L.set i v).length := by
      have := (List.getElem?_eq_some_iff.mp h2).1
      simpa using this
    rw [List.getElem?_set_self hl] at h2
    cases h2
    exact absurd rfl (h3 0)
  rw [List.getElem?_set_ne (Ne.symm hj1)] at h2
  by_cases hj : j = i
  · subst hj
    have hl : j < L.length := by
      have := (List.getElem?_eq_some_iff.mp h2).1
      simpa using this
    rw [List.getElem?_set_self hl] at h2
    cases h2
    exact h.2.2 _ List.mem_cons_self
  · rw [List.getElem?_set_ne (Ne.symm hj)] at h2
    have h4 := lz_mem L 0 j w h2 h3
    rw [Nat.zero_add] at h4
    refine h.2.2 (j, w) (List.mem_cons_of_mem _ (List.mem_filter.mpr ⟨h4, ?_⟩))
    have h5 : (j == i) = false := by simp [hj]
    have h7 : (j == i + 1) = false := by simp [hj1]
    have h8 : (j + 1 == i && w.category == 2) = false := by
      by_cases h6 : j + 1 = i
      · subst h6
        have hk : (match L[j]? with
          | some w => w.category == 1
          | none => true) = true := hk
        rw [h2] at hk
        have h9 : w.category = 1 := by simpa using hk
        simp [h9]
      · simp [h6]
    dsimp only
    rw [h5, h7, h8]
    rfl
theorem r_dstore {G : GG} {I : MI} {Q : QQ} {pc : Nat} {L st : List Value} {M : Mm} {k n : Nat} {i : Nat} {x : UInt64} (hd : decode (mB I) pc = .ok (.dstore i, 2)) (hi : i + 1 < mL I) (ho : okc L i = true) (h : WW G I Q (pc + 2) ((L.set i (.double x)).set (i + 1) lj) st M k n) : WW G I Q pc L (.double x :: st) M k n := by
  intro p e s m args below meth c H locs ls C Y S V
  exact lv_dstore C.1 C.2.1 hd V hi rfl (fun ls' hl' => h p e s m args below meth c H locs ls' C Y S (lz_st2 ho hl'))
theorem cmp_64 : ∀ a, a < 97 → ∀ b, b < 9 → b ≠ 0 → Op.cmpValue (FP.dcmp (FP.ddiv (FP.i2d (nI a)) (FP.i2d (nI b))) (FP.ddiv (FP.i2d (nI a)) (FP.i2d (nI b)))) .l = 0 := by decide +kernel
theorem cmp_32 : ∀ a, a < 17 → ∀ b, b < 17 → b ≠ 0 → Op.cmpValue (FP.dcmp (FP.f2d (FP.fdiv (FP.i2f (nI a)) (FP.i2f (nI b)))) (FP.f2d (FP.fdiv (FP.i2f (nI a)) (FP.i2f (nI b))))) .l = 0 := by decide +kernel
section LAW
variable {G : GG} {M : Mm} {x F i k n : Nat} {B : BS}
theorem arm_40 {P : Int32 → Mm → Prop} (lv : LV F M x B) (hF : F + 10 < 2 ^ 30) (hi : i + 5 ≤ (gs G).2.1) (hN : (gs G).2.1 ≤ 2560) (hk : k + 2 ≤ 603072) (hn : n + 12 ≤ 7190633) (l6 l7 l8 : Value) (nx : Nx G (qi P nox) F x i k n) : WW G IL_law (qi P nox) 2289 [.ref (gs G).1, .ref x, .ref (x + 350), .ref (x + 359), .ref (x + 360), .int (nI i), l6, l7, l8] [] M k n := by
  obtain ⟨cb, rb, fo, kl, ll, kd2, ll2⟩ := id lv
  refine r_aload_n (dk kL_law_p21 26 rfl) rfl ?_
  refine r_aload (dk kL_law_p21 27 rfl) rfl ?_
  -- at 2292
  refine r_callSX (I' := IL_meanVotes) (as := [_, _]) (dk kL_law_p21 28 rfl) mh_meanVotes ml_L_310 rfl rfl rfl (Nat.le_of_ble_eq_true rfl) ⟨by decide, by decide⟩ ⟨?_, ?_⟩ (h_meanVotes cb kd2 ll2) (fun _ _ z => z.elim) ?_
  · show k + 1 ≤ 603072
    omega
  · show n + 6 ≤ 7190633
    omega
  rintro v M1 ⟨y, hv, hy, fy, hj, cb1⟩
  subst hv
  show WW G IL_law _ 2295 _ [.int y] M1 (k + 1) (n + 6)
  have rb1 := rb.fy fy (Nat.le_refl _)
  refine r_istore (dk kL_law_p21 29 rfl) (by decide) rfl ?_
  simp only [List.set_cons_succ, List.set_cons_zero]
  refine r_aload_n (dk kL_law_p21 30 rfl) rfl ?_
  -- at 2298
  refine r_callV (I' := IX9_meanVotes) (as := []) (dk kL_law_p21 31 rfl) mv_X9_meanVotes ml_L_313 rfl rfl rb1.o.1 rfl rfl (Nat.le_of_ble_eq_true rfl) ⟨by decide, by decide⟩ ⟨?_, ?_⟩ (k_X9_meanVotes rb1.o (rb1.gi cb.i)) (fun _ _ z => z.elim) ?_
  · show k + 1 + 0 ≤ 603072
    omega
  · show n + 6 + 0 ≤ 7190633
    omega
  rintro v M2 ⟨z, hv, hz, hM⟩
  subst hv
  rw [rb1.g] at hz hM
  subst hM
  show WW G IL_law _ 2301 _ [.double z] _ (k + 1) (n + 6)
  have mr := mr_fail M1 (x + 350) (bI (gn (bg B) 3 = 0))
  have h8 := mfail_8 M1 (x + 350) (bI (gn (bg B) 3 = 0))
  have rb2 := rb1.fail (bI (gn (bg B) 3 = 0))
  have lv2 := lv.step fy cb1 mr (BE.rfl B) rb2 fo
  have hd2 : md (mFail M1 (x + 350) (bI (gn (bg B) 3 = 0))) = md M1 := rfl
  generalize mFail M1 (x + 350) (bI (gn (bg B) 3 = 0)) = M2 at *
  refine r_dstore (dk kL_law_p21 32 rfl) (by decide) rfl ?_
  simp only [List.set_cons_succ, List.set_cons_zero]
  refine r_aload_n (dk kL_law_p21 33 rfl) rfl ?_
  -- at 2304
  refine r_callVp (I' := IX9_thrown) (as := []) (dk kL_law_p21 34 rfl) mv_X9_thrown ml_L_177 rfl rfl rb2.o.1 rfl rfl (Nat.le_of_ble_eq_true rfl) ⟨by decide, by decide⟩ ⟨rfl, rfl⟩ ⟨?_, ?_⟩ (k_X9_thrown rb2.o) ?_
  · show k + 1 ≤ 603072
    omega
  · show n + 6 ≤ 7190633
    omega
  by_cases c3 : gn (bg B) 3 = 0
  · rw [if_pos c3] at hy
    rw [bI_t c3] at h8
    subst hy
    refine r_iload (dk kL_law_p21 35 rfl) rfl ?_
    refine r_icmp_eq (tgt := 2314) (dk kL_law_p21 36 rfl) (by decide) (fun c2309 => ?_) (fun c2309 => absurd h8 c2309)
    refine r_iload (dk kL_law_p21 39 rfl) rfl ?_
    refine r_if_ne (tgt := 2351) (dk kL_law_p21 40 rfl) (by decide) (fun c2316 => ?_) (fun c2316 => absurd (by decide) c2316)
    refine r_goto (tgt := 3024) (dk kL_law_p22 1 rfl) (by decide) ?_
    -- at 3024
    exact nx _ _ _ _ _ _ _ _ lv2 (by omega) (by omega) (by omega)
  · rw [if_neg c3] at hy hz hj
    rw [bI_f c3] at h8
    subst hy
    have hp := cb.i.1.1.p.2
    have hle := gSv_le (bg B) (gn (bg B) 3)
    have e9 : Op.cmpValue (FP.dcmp (md M2 (x + 360) 0) z) .l = 0 := by
      rw [hd2, hj rfl, hz]
      exact cmp_64 _ (by omega) _ hp c3
    refine r_iload (dk kL_law_p21 35 rfl) rfl ?_
    refine r_icmp_eq (tgt := 2314) (dk kL_law_p21 36 rfl) (by decide) (fun c2309 => ?_) (fun c2309 => absurd h8 c2309)
    refine r_iload (dk kL_law_p21 39 rfl) rfl ?_
    refine r_if_ne (tgt := 2351) (dk kL_law_p21 40 rfl) (by decide) (fun c2316 => absurd c2316 (by decide)) (fun c2316 => ?_)
    refine r_aload (dk kL_law_p21 41 rfl) rfl ?_
    refine r_iconst (v := 0) (dk kL_law_p21 42 rfl) (by decide) ?_
    refine r_dal (dk kL_law_p21 43 rfl) lv2.2.2.2.2.2.1 lv2.2.2.2.2.2.2 (j := 0) rfl (by decide) (by decide) ?_
    refine r_dload (dk kL_law_p21 44 rfl) rfl ?_
    refine r_dcmp (dk kL_law_p21 45 rfl) ?_
    refine r_if_eq (tgt := 2351) (dk kL_law_p21 46 rfl) (by decide) (fun c2326 => ?_) (fun c2326 => absurd e9 c2326)
    refine r_goto (tgt := 3024) (dk kL_law_p22 1 rfl) (by decide) ?_
    -- at 3024
    exact nx _ _ _ _ _ _ _ _ lv2 (by omega) (by omega) (by omega)
theorem arm_41 {P : Int32 → Mm → Prop} (lv : LV F M x B) (hF : F + 10 < 2 ^ 30) (hi : i + 5 ≤ (gs G).2.1) (hN : (gs G).2.1 ≤ 2560) (hk : k + 2 ≤ 603072) (hn : n + 12 ≤ 7190633) (l6 l7 l8 : Value) (nx : Nx G (qi P nox) F x i k n) : WW G IL_law (qi P nox) 2354 [.ref (gs G).1, .ref x, .ref (x + 350), .ref (x + 359), .ref (x + 360), .int (nI i), l6, l7, l8] [] M k n := by
  obtain ⟨cb, rb, fo, kl, ll, kd2, ll2⟩ := id lv
  refine r_aload_n (dk kL_law_p22 2 rfl) rfl ?_
  refine r_aload (dk kL_law_p22 3 rfl) rfl ?_
  -- at 2357
  refine r_callSX (I' := IL_grantedShare) (as := [_, _]) (dk kL_law_p22 4 rfl) mh_grantedShare ml_L_314 rfl rfl rfl (Nat.le_of_ble_eq_true rfl) ⟨by decide, by decide⟩ ⟨?_, ?_⟩ (h_grantedShare cb kd2 ll2) (fun _ _ z => z.elim) ?_
  · show k + 1 ≤ 603072
    omega
  · show n + 6 ≤ 7190633
    omega
  rintro v M1 ⟨y, hv, hy, fy, hj, cb1⟩
  subst hv
  show WW G IL_law _ 2360 _ [.int y] M1 (k + 1) (n + 6)
  have rb1 := rb.fy fy (Nat.le_refl _)
  refine r_istore (dk kL_law_p22 5 rfl) (by decide) rfl ?_
  simp only [List.set_cons_succ, List.set_cons_zero]
  refine r_aload_n (dk kL_law_p22 6 rfl) rfl ?_
  -- at 2363
  refine r_callV (I' := IX9_grantedShare) (as := []) (dk kL_law_p22 7 rfl) mv_X9_grantedShare ml_L_316 rfl rfl rb1.o.1 rfl rfl (Nat.le_of_ble_eq_true rfl) ⟨by decide, by decide⟩ ⟨?_, ?_⟩ (k_X9_grantedShare rb1.o (rb1.gi cb.i)) (fun _ _ z => z.elim) ?_
  · show k + 1 + 0 ≤ 603072
    omega
  · show n + 6 + 0 ≤ 7190633
    omega
  rintro v M2 ⟨z, hv, hz, hM⟩
  subst hv
  rw [rb1.g] at hz hM
  subst hM
  show WW G IL_law _ 2366 _ [.float z] _ (k + 1) (n + 6)
  have mr := mr_fail M1 (x + 350) (bI (gn (bg B) 5 = 0))
  have h8 := mfail_8 M1 (x + 350) (bI (gn (bg B) 5 = 0))
  have rb2 := rb1.fail (bI (gn (bg B) 5 = 0))
  have lv2 := lv.step fy cb1 mr (BE.rfl B) rb2 fo
  have hd2 : md (mFail M1 (x + 350) (bI (gn (bg B) 5 = 0))) = md M1 := rfl
  generalize mFail M1 (x + 350) (bI (gn (bg B) 5 = 0)) = M2 at *
  refine r_fstore (dk kL_law_p22 8 rfl) (by decide) rfl ?_
  simp only [List.set_cons_succ, List.set_cons_zero]
  refine r_aload_n (dk kL_law_p22 9 rfl) rfl ?_
  -- at 2369
  refine r_callVp (I' := IX9_thrown) (as := []) (dk kL_law_p22 10 rfl) mv_X9_thrown ml_L_177 rfl rfl rb2.o.1 rfl rfl (Nat.le_of_ble_eq_true rfl) ⟨by decide, by decide⟩ ⟨rfl, rfl⟩ ⟨?_, ?_⟩ (k_X9_thrown rb2.o) ?_
  · show k + 1 ≤ 603072
    omega
  · show n + 6 ≤ 7190633
    omega
  by_cases c3 : gn (bg B) 5 = 0
  · rw [if_pos c3] at hy
    rw [bI_t c3] at h8
    subst hy
    refine r_iload (dk kL_law_p22 11 rfl) rfl ?_
    refine r_icmp_eq (tgt := 2379) (dk kL_law_p22 12 rfl) (by decide) (fun c2374 => ?_) (fun c2374 => absurd h8 c2374)
    refine r_iload (dk kL_law_p22 15 rfl) rfl ?_
    refine r_if_ne (tgt := 2417) (dk kL_law_p22 16 rfl) (by decide) (fun c2381 => ?_) (fun c2381 => absurd (by decide) c2381)
    refine r_goto (tgt := 3024) (dk kL_law_p22 38 rfl) (by decide) ?_
    -- at 3024
    exact nx _ _ _ _ _ _ _ _ lv2 (by omega) (by omega) (by omega)
  · rw [if_neg c3] at hy hz hj
    rw [bI_f c3] at h8
    subst hy
    have hr := cb.i.1.1.r.2
    have hle := gSg_le cb.i.1.1 (gn (bg B) 5) (Nat.le_refl _)
    have hnn : vf_n64 (FP.f2d z) := by
      rw [hz]
      exact nn_f2d _ (by omega) _ (by omega) c3
    have e9 : Op.cmpValue (FP.dcmp (md M2 (x + 360) 0) (FP.f2d z)) .l = 0 := by
      rw [hd2, hj rfl, hz]
      exact cmp_32 _ (by omega) _ (by omega) c3
    refine r_iload (dk kL_law_p22 11 rfl) rfl ?_
    refine r_icmp_eq (tgt := 2379) (dk kL_law_p22 12 rfl) (by decide) (fun c2374 => ?_) (fun c2374 => absurd h8 c2374)
    refine r_iload (dk kL_law_p22 15 rfl) rfl ?_
    refine r_if_ne (tgt := 2417) (dk kL_law_p22 16 rfl) (by decide) (fun c2381 => absurd c2381 (by decide)) (fun c2381 => ?_)
    refine r_aload (dk kL_law_p22 17 rfl) rfl ?_
    refine r_iconst (v := 0) (dk kL_law_p22 18 rfl) (by decide) ?_
    refine r_dal (dk kL_law_p22 19 rfl) lv2.2.2.2.2.2.1 lv2.2.2.2.2.2.2 (j := 0) rfl (by decide) (by decide) ?_
    refine r_fload (dk kL_law_p22 20 rfl) rfl ?_
    refine r_f2d (dk kL_law_p22 21 rfl) hnn ?_
    refine r_dcmp (dk kL_law_p22 22 rfl) ?_
    refine r_if_eq (tgt := 2417) (dk kL_law_p22 23 rfl) (by decide) (fun c2392 => ?_) (fun c2392 => absurd e9 c2392)
    refine r_goto (tgt := 3024) (dk kL_law_p22 38 rfl) (by decide) ?_
    -- at 3024
    exact nx _ _ _ _ _ _ _ _ lv2 (by omega) (by omega) (by omega)
end LAW
