/-! THE CLASS: further attempts -/
theorem ixo_0 {n : Nat} (hn : n < 2 ^ 31) {x : Int32} (h : ixo n x = none) : ¬ (0 ≤ x ∧ x < nI n) := by
  rcases ixo_c hn x with ⟨-, z⟩ | ⟨k, -, -, z, -⟩
  · intro ⟨h1, h2⟩
    obtain ⟨k, hk, rfl⟩ := nI_of (Int32.not_lt.mpr h1)
    exact z ((nI_lt0 hn).mpr ⟨k, (nI_ltI hk hn).mp h2, rfl⟩)
  · rw [h] at z; cases z
theorem ixo_1 {n : Nat} (hn : n < 2 ^ 31) {x : Int32} {k : Nat} (h : ixo n x = some k) : k < n ∧ x = nI k ∧ (0 ≤ x ∧ x < nI n) := by
  rcases ixo_c hn x with ⟨z, -⟩ | ⟨j, h1, h2, z, h3, -⟩
  · rw [h] at z; cases z
  · rw [h] at z
    cases z
    exact ⟨h1, h2, h3, by rw [h2]; exact nI_lt h1 hn⟩
section CLASS
variable {G : GG} {M : Mm} {x F : Nat} {g : Nat → Int32} {q : Nat → Nat}
theorem k_X8_lodgePetition (o : BO M x) (v : SV M (x + 1) g q) (i : GI F g) (hF : F + 1 < 2 ^ 30) (u : GU g) (a s c w : Int32) : KK G IX8_lodgePetition [.ref x, .int a, .int s, .int c, .int w] M (qi (QA M x (sp_file g a s c w) tc1) nox) := by
  refine KK.ofW (by decide) (by simp [Value.category]) (Nat.le_of_ble_eq_true rfl) rfl ?_
  show WW _ _ _ 0 [_, _, _, _, _, lj] [] _ _ _
  have s11 := i.s.2
  have o7 := i.o.2
  have p9 := i.p.2
  cases ea : ixo (gn g 1) a with
  | none =>
    have e0 : sp_file g a s c w = cThr 1 := by unfold sp_file; rw [ea]
    have hn := ixo_0 (by omega) ea
    rw [e0]
    refine r_aload_n (dk kX8_lodgePetition_p0 0 rfl) rfl ?_
    refine r_getR (dk kX8_lodgePetition_p0 1 rfl) fa_X8_12_7 o.k rfl o.r0 ?_
    refine r_iload_n (dk kX8_lodgePetition_p0 2 rfl) rfl ?_
    refine r_callVp (I' := IX6_hasOfficer) (as := [_]) (dk kX8_lodgePetition_p0 3 rfl) mv_X6_hasOfficer ml_X8_102 rfl rfl o.s.k rfl rfl (Nat.le_of_ble_eq_true rfl) ⟨by decide, by decide⟩ ⟨rfl, rfl⟩ ⟨Nat.le_of_ble_eq_true rfl, Nat.le_of_ble_eq_true rfl⟩ (k_X6_hasOfficer o.s.k a) ?_
    -- at 8
    rw [v.c1 i, bI_f hn]
    refine r_if_eq (tgt := 29) (dk kX8_lodgePetition_p0 4 rfl) (by decide) (fun c8 => ?_) (fun c8 => absurd rfl c8)
    refine r_iconst (v := (-1)) (dk kX8_lodgePetition_p0 13 rfl) (by decide) ?_
    refine r_ireturn (dk kX8_lodgePetition_p0 14 rfl) rfl rfl ⟨Nat.le_of_ble_eq_true rfl, Nat.le_of_ble_eq_true rfl⟩ (QA.thr (by decide) rfl)
  | some n =>
    obtain ⟨hn1, rfl, hn3⟩ := ixo_1 (by omega) ea
    cases es : ixo (gn g 0) s with
    | none =>
      have e0 : sp_file g (nI n) s c w = cThr 1 := by unfold sp_file; rw [ea, es]
      have hm := ixo_0 (by omega) es
      rw [e0]
      refine r_aload_n (dk kX8_lodgePetition_p0 0 rfl) rfl ?_
      refine r_getR (dk kX8_lodgePetition_p0 1 rfl) fa_X8_12_7 o.k rfl o.r0 ?_
      refine r_iload_n (dk kX8_lodgePetition_p0 2 rfl) rfl ?_
      refine r_callVp (I' := IX6_hasOfficer) (as := [_]) (dk kX8_lodgePetition_p0 3 rfl) mv_X6_hasOfficer ml_X8_102 rfl rfl o.s.k rfl rfl (Nat.le_of_ble_eq_true rfl) ⟨by decide, by decide⟩ ⟨rfl, rfl⟩ ⟨Nat.le_of_ble_eq_true rfl, Nat.le_of_ble_eq_true rfl⟩ (k_X6_hasOfficer o.s.k _) ?_
      -- at 8
      rw [v.c1 i, bI_t hn3]
      refine r_if_eq (tgt := 29) (dk kX8_lodgePetition_p0 4 rfl) (by decide) (fun c8 => absurd c8 (by decide)) (fun c8 => ?_)
      refine r_aload_n (dk kX8_lodgePetition_p0 5 rfl) rfl ?_
      refine r_getR (dk kX8_lodgePetition_p0 6 rfl) fa_X8_12_7 o.k rfl o.r0 ?_
      refine r_iload_n (dk kX8_lodgePetition_p0 7 rfl) rfl ?_
      refine r_callVp (I' := IX6_hasStone) (as := [_]) (dk kX8_lodgePetition_p0 8 rfl) mv_X6_hasStone ml_X8_69 rfl rfl o.s.k rfl rfl (Nat.le_of_ble_eq_true rfl) ⟨by decide, by decide⟩ ⟨rfl, rfl⟩ ⟨Nat.le_of_ble_eq_true rfl, Nat.le_of_ble_eq_true rfl⟩ (k_X6_hasStone o.s.k s) ?_
      -- at 19
      rw [v.c0 i, bI_f hm]
      refine r_if_eq (tgt := 29) (dk kX8_lodgePetition_p0 9 rfl) (by decide) (fun c19 => ?_) (fun c19 => absurd rfl c19)
      refine r_iconst (v := (-1)) (dk kX8_lodgePetition_p0 13 rfl) (by decide) ?_
      refine r_ireturn (dk kX8_lodgePetition_p0 14 rfl) rfl rfl ⟨Nat.le_of_ble_eq_true rfl, Nat.le_of_ble_eq_true rfl⟩ (QA.thr (by decide) rfl)
    | some m =>
      obtain ⟨hm1, rfl, hm3⟩ := ixo_1 (by omega) es
      have start : WW G IX8_lodgePetition (qi (QA M x (sp_file g (nI n) (nI m) c w) tc1) nox) 26 [.ref x, .int (nI n), .int (nI m), .int c, .int w, lj] [.int (bI (0 ≤ c ∧ c ≤ 24))] M 0 0 → WW G IX8_lodgePetition (qi (QA M x (sp_file g (nI n) (nI m) c w) tc1) nox) 0 [.ref x, .int (nI n), .int (nI m), .int c, .int w, lj] [] M 0 0 := by
        intro hh
        refine r_aload_n (dk kX8_lodgePetition_p0 0 rfl) rfl ?_
        refine r_getR (dk kX8_lodgePetition_p0 1 rfl) fa_X8_12_7 o.k rfl o.r0 ?_
        refine r_iload_n (dk kX8_lodgePetition_p0 2 rfl) rfl ?_
        refine r_callVp (I' := IX6_hasOfficer) (as := [_]) (dk kX8_lodgePetition_p0 3 rfl) mv_X6_hasOfficer ml_X8_102 rfl rfl o.s.k rfl rfl (Nat.le_of_ble_eq_true rfl) ⟨by decide, by decide⟩ ⟨rfl, rfl⟩ ⟨Nat.le_of_ble_eq_true rfl, Nat.le_of_ble_eq_true rfl⟩ (k_X6_hasOfficer o.s.k _) ?_
        -- at 8
        rw [v.c1 i, bI_t hn3]
        refine r_if_eq (tgt := 29) (dk kX8_lodgePetition_p0 4 rfl) (by decide) (fun c8 => absurd c8 (by decide)) (fun c8 => ?_)
        refine r_aload_n (dk kX8_lodgePetition_p0 5 rfl) rfl ?_
        refine r_getR (dk kX8_lodgePetition_p0 6 rfl) fa_X8_12_7 o.k rfl o.r0 ?_
        refine r_iload_n (dk kX8_lodgePetition_p0 7 rfl) rfl ?_
        refine r_callVp (I' := IX6_hasStone) (as := [_]) (dk kX8_lodgePetition_p0 8 rfl) mv_X6_hasStone ml_X8_69 rfl rfl o.s.k rfl rfl (Nat.le_of_ble_eq_true rfl) ⟨by decide, by decide⟩ ⟨rfl, rfl⟩ ⟨Nat.le_of_ble_eq_true rfl, Nat.le_of_ble_eq_true rfl⟩ (k_X6_hasStone o.s.k _) ?_
        -- at 19
        rw [v.c0 i, bI_t hm3]
        refine r_if_eq (tgt := 29) (dk kX8_lodgePetition_p0 9 rfl) (by decide) (fun c19 => absurd c19 (by decide)) (fun c19 => ?_)
        refine r_iload_n (dk kX8_lodgePetition_p0 10 rfl) rfl ?_
        refine r_callSp (I' := IX8_isCell) (as := [_]) (dk kX8_lodgePetition_p0 11 rfl) ms_X8_isCell ml_X8_86 rfl rfl rfl (Nat.le_of_ble_eq_true rfl) ⟨by decide, by decide⟩ ⟨rfl, rfl⟩ ⟨Nat.le_of_ble_eq_true rfl, Nat.le_of_ble_eq_true rfl⟩ (k_X8_isCell c) ?_
        -- at 26
        exact hh
      apply start
      by_cases hc : 0 ≤ c ∧ c ≤ 24
      · rw [bI_t hc]
        by_cases hw : 0 ≤ w ∧ w ≤ 9
        · cases eb : gAbout g (nI m) with
          | some p =>
            have e0 : sp_file g (nI n) (nI m) c w = cDen 3 3 (g (35 + 11 * p)) := by unfold sp_file; rw [ea, es]; show (if 0 ≤ c ∧ c ≤ 24 then _ else _) = _; rw [if_pos hc, if_pos hw, eb]
            rw [e0]
            obtain ⟨j, hj, hqj⟩ := v.o.at (fx_lt eb)
            have ka := o.s.ka (j := j) (by omega)
            refine r_if_ne (tgt := 31) (dk kX8_lodgePetition_p0 12 rfl) (by decide) (fun c26 => ?_) (fun c26 => absurd (by decide) c26)
            refine r_iload (dk kX8_lodgePetition_p0 15 rfl) rfl ?_
            refine r_if_lt (tgt := 43) (dk kX8_lodgePetition_p0 16 rfl) (by decide) (fun c33 => absurd c33 (Int32.not_lt.mpr hw.1)) (fun c33 => ?_)
            refine r_iload (dk kX8_lodgePetition_p0 17 rfl) rfl ?_
            refine r_bipush (v := 9) (dk kX8_lodgePetition_p0 18 rfl) (by decide) ?_
            refine r_icmp_le (tgt := 46) (dk kX8_lodgePetition_p0 19 rfl) (by decide) (fun c40 => ?_) (fun c40 => absurd hw.2 c40)
            refine r_aload_n (dk kX8_lodgePetition_p0 22 rfl) rfl ?_
            refine r_getR (dk kX8_lodgePetition_p0 23 rfl) fa_X8_12_7 o.k rfl o.r0 ?_
            refine r_iload_n (dk kX8_lodgePetition_p0 24 rfl) rfl ?_
            refine r_callVr (I' := IX6_findPetitionFor) (as := [_]) (dk kX8_lodgePetition_p0 25 rfl) mv_X6_findPetitionFor ml_X8_355 rfl rfl o.s.k rfl rfl (Nat.le_of_ble_eq_true rfl) ⟨by decide, by decide⟩ ⟨rfl, rfl⟩ ⟨Nat.le_of_ble_eq_true rfl, Nat.le_of_ble_eq_true rfl⟩ (k_X6_findPetitionFor o.s v i u hj (by rw [hqj]; exact eb)) ?_
            refine r_astore (dk kX8_lodgePetition_p0 26 rfl) (by decide) rfl ?_
            simp only [List.set_cons_succ, List.set_cons_zero]
            refine r_aload (dk kX8_lodgePetition_p0 27 rfl) rfl ?_
            refine r_ifnull (dk kX8_lodgePetition_p0 28 rfl) ?_
            refine r_aload_n (dk kX8_lodgePetition_p0 29 rfl) rfl ?_
            refine r_iconst (v := 3) (dk kX8_lodgePetition_p0 30 rfl) (by decide) ?_
            refine r_aload (dk kX8_lodgePetition_p0 31 rfl) rfl ?_
            refine r_geti (dk kX8_lodgePetition_p0 32 rfl) fa_X8_141_3 ka rfl ?_
            -- at 68
            rw [(v.p hj).1, hqj]
            refine r_callVp (I' := IX8_deny) (as := [_, _]) (dk kX8_lodgePetition_p0 33 rfl) mv_X8_deny ml_X8_346 rfl rfl o.k rfl rfl (Nat.le_of_ble_eq_true rfl) ⟨by decide, by decide⟩ ⟨rfl, rfl⟩ ⟨Nat.le_of_ble_eq_true rfl, Nat.le_of_ble_eq_true rfl⟩ (k_X8_deny o _ _) ?_
            refine r_ireturn (dk kX8_lodgePetition_p0 34 rfl) rfl rfl ⟨Nat.le_of_ble_eq_true rfl, Nat.le_of_ble_eq_true rfl⟩ (QA.den _ (by decide) (by decide))
          | none =>
            have e0 : sp_file g (nI n) (nI m) c w = if g (9 + 2 * m) = c then cDen 3 4 c else if gn g 3 = 8 then cDen 3 1 8 else cOk (g 4) (gFile g n m c w) := by unfold sp_file; rw [ea, es]; show (if 0 ≤ c ∧ c ≤ 24 then _ else _) = _; rw [if_pos hc, if_pos hw, eb]
            refine r_if_ne (tgt := 31) (dk kX8_lodgePetition_p0 12 rfl) (by decide) (fun c26 => ?_) (fun c26 => absurd (by decide) c26)
            refine r_iload (dk kX8_lodgePetition_p0 15 rfl) rfl ?_
            refine r_if_lt (tgt := 43) (dk kX8_lodgePetition_p0 16 rfl) (by decide) (fun c33 => absurd c33 (Int32.not_lt.mpr hw.1)) (fun c33 => ?_)
            refine r_iload (dk kX8_lodgePetition_p0 17 rfl) rfl ?_
            refine r_bipush (v := 9) (dk kX8_lodgePetition_p0 18 rfl) (by decide) ?_
            refine r_icmp_le (tgt := 46) (dk kX8_lodgePetition_p0 19 rfl) (by decide) (fun c40 => ?_) (fun c40 => absurd hw.2 c40)
            refine r_aload_n (dk kX8_lodgePetition_p0 22 rfl) rfl ?_
            refine r_getR (dk kX8_lodgePetition_p0 23 rfl) fa_X8_12_7 o.k rfl o.r0 ?_
            refine r_iload_n (dk kX8_lodgePetition_p0 24 rfl) rfl ?_
            refine r_callVz (I' := IX6_findPetitionFor) (as := [_]) (dk kX8_lodgePetition_p0 25 rfl) mv_X6_findPetitionFor ml_X8_355 rfl rfl o.s.k rfl rfl (Nat.le_of_ble_eq_true rfl) ⟨by decide, by decide⟩ ⟨rfl, rfl⟩ ⟨Nat.le_of_ble_eq_true rfl, Nat.le_of_ble_eq_true rfl⟩ (k_X6_findPetitionForZ o.s v i eb) ?_
            refine r_astoreN (dk kX8_lodgePetition_p0 26 rfl) (by decide) rfl ?_
            simp only [List.set_cons_succ, List.set_cons_zero]
            refine r_aloadN (dk kX8_lodgePetition_p0 27 rfl) rfl ?_
            refine r_ifnullN (tgt := 72) (dk kX8_lodgePetition_p0 28 rfl) (by decide) ?_
            refine r_aload_n (dk kX8_lodgePetition_p0 35 rfl) rfl ?_
            refine r_getR (dk kX8_lodgePetition_p0 36 rfl) fa_X8_12_7 o.k rfl o.r0 ?_
            refine r_getR (dk kX8_lodgePetition_p0 37 rfl) fa_X8_80_5 o.s.k rfl o.s.r0 ?_
            refine r_iload_n (dk kX8_lodgePetition_p0 38 rfl) rfl ?_
            refine r_ial (dk kX8_lodgePetition_p0 39 rfl) o.s.k1 o.s.l1 (j := m) rfl (by omega) (by decide) ?_
            -- at 81
            rw [v.cell hm1]
            by_cases h4 : g (9 + 2 * m) = c
            · rw [if_pos h4] at e0
              rw [e0]
              refine r_iload_n (dk kX8_lodgePetition_p0 40 rfl) rfl ?_
              refine r_icmp_ne (tgt := 92) (dk kX8_lodgePetition_p0 41 rfl) (by decide) (fun c82 => absurd c82 (fun z => z h4)) (fun c82 => ?_)
              refine r_aload_n (dk kX8_lodgePetition_p0 42 rfl) rfl ?_
              refine r_iconst (v := 4) (dk kX8_lodgePetition_p0 43 rfl) (by decide) ?_
              refine r_iload_n (dk kX8_lodgePetition_p0 44 rfl) rfl ?_
              refine r_callVp (I' := IX8_deny) (as := [_, _]) (dk kX8_lodgePetition_p0 45 rfl) mv_X8_deny ml_X8_346 rfl rfl o.k rfl rfl (Nat.le_of_ble_eq_true rfl) ⟨by decide, by decide⟩ ⟨rfl, rfl⟩ ⟨Nat.le_of_ble_eq_true rfl, Nat.le_of_ble_eq_true rfl⟩ (k_X8_deny o _ _) ?_
              refine r_ireturn (dk kX8_lodgePetition_p0 46 rfl) rfl rfl ⟨Nat.le_of_ble_eq_true rfl, Nat.le_of_ble_eq_true rfl⟩ (QA.den _ (by decide) (by decide))
            · rw [if_neg h4] at e0
              refine r_iload_n (dk kX8_lodgePetition_p0 40 rfl) rfl ?_
              refine r_icmp_ne (tgt := 92) (dk kX8_lodgePetition_p0 41 rfl) (by decide) (fun c82 => ?_) (fun c82 => absurd h4 c82)
              refine r_aload_n (dk kX8_lodgePetition_p0 47 rfl) rfl ?_
              refine r_getR (dk kX8_lodgePetition_p0 48 rfl) fa_X8_12_7 o.k rfl o.r0 ?_
              refine r_geti (dk kX8_lodgePetition_p0 49 rfl) fa_X8_110_5 o.s.k rfl ?_
              -- at 99
              rw [v.c3 i]
              by_cases h8 : gn g 3 = 8
              · rw [if_pos h8] at e0
                rw [e0]
                refine r_bipush (v := 8) (dk kX8_lodgePetition_p0 50 rfl) (by decide) ?_
                refine r_icmp_lt (tgt := 112) (dk kX8_lodgePetition_p0 51 rfl) (by decide) (fun c101 => absurd c101 (by rw [h8]; decide)) (fun c101 => ?_)
                refine r_aload_n (dk kX8_lodgePetition_p0 52 rfl) rfl ?_
                refine r_iconst (v := 1) (dk kX8_lodgePetition_p0 53 rfl) (by decide) ?_
                refine r_bipush (v := 8) (dk kX8_lodgePetition_p0 54 rfl) (by decide) ?_
                refine r_callVp (I' := IX8_deny) (as := [_, _]) (dk kX8_lodgePetition_p0 55 rfl) mv_X8_deny ml_X8_346 rfl rfl o.k rfl rfl (Nat.le_of_ble_eq_true rfl) ⟨by decide, by decide⟩ ⟨rfl, rfl⟩ ⟨Nat.le_of_ble_eq_true rfl, Nat.le_of_ble_eq_true rfl⟩ (k_X8_deny o _ _) ?_
                refine r_ireturn (dk kX8_lodgePetition_p0 56 rfl) rfl rfl ⟨Nat.le_of_ble_eq_true rfl, Nat.le_of_ble_eq_true rfl⟩ (QA.den _ (by decide) (by decide))
              · rw [if_neg h8] at e0
                rw [e0]
                refine r_bipush (v := 8) (dk kX8_lodgePetition_p0 50 rfl) (by decide) ?_
                refine r_icmp_lt (tgt := 112) (dk kX8_lodgePetition_p0 51 rfl) (by decide) (fun c101 => ?_) (fun c101 => absurd (nI_lt (a := gn g 3) (b := 8) (by omega) (by decide)) c101)
                refine r_aload_n (dk kX8_lodgePetition_p0 57 rfl) rfl ?_
                refine r_getR (dk kX8_lodgePetition_p0 58 rfl) fa_X8_12_7 o.k rfl o.r0 ?_
                refine r_iload_n (dk kX8_lodgePetition_p0 59 rfl) rfl ?_
                refine r_iload_n (dk kX8_lodgePetition_p1 0 rfl) rfl ?_
                refine r_iload_n (dk kX8_lodgePetition_p1 1 rfl) rfl ?_
                refine r_iload (dk kX8_lodgePetition_p1 2 rfl) rfl ?_
                refine r_callV (I' := IX6_enqueue) (as := [_, _, _, _]) (dk kX8_lodgePetition_p1 3 rfl) mv_X6_enqueue ml_X8_358 rfl rfl o.s.k rfl rfl (Nat.le_of_ble_eq_true rfl) ⟨by decide, by decide⟩ ⟨Nat.le_of_ble_eq_true rfl, Nat.le_of_ble_eq_true rfl⟩ (k_X6_enqueue o.s v i hF hn1 hm1 hc hw h8) ?_ ?_
                · exact fun E M' z => z.elim
                rintro r M' ⟨y, rfl, rfl, r1, r2, r3⟩
                show WW G IX8_lodgePetition _ 124 [.ref x, .int (nI n), .int (nI m), .int c, .int w, .null] [.int (g 4)] M' 0 0
                refine r_ireturn (dk kX8_lodgePetition_p1 4 rfl) rfl rfl ⟨Nat.le_of_ble_eq_true rfl, Nat.le_of_ble_eq_true rfl⟩ (QA.ok (by rw [i.f.1]; exact nI_pos' (by have := i.f.2; omega)) r1 r2 r3)
        · have e0 : sp_file g (nI n) (nI m) c w = cThr 2 := by unfold sp_file; rw [ea, es]; show (if 0 ≤ c ∧ c ≤ 24 then _ else _) = _; rw [if_pos hc, if_neg hw]
          rw [e0]
          by_cases h1 : w < 0
          · refine r_if_ne (tgt := 31) (dk kX8_lodgePetition_p0 12 rfl) (by decide) (fun c26 => ?_) (fun c26 => absurd (by decide) c26)
            refine r_iload (dk kX8_lodgePetition_p0 15 rfl) rfl ?_
            refine r_if_lt (tgt := 43) (dk kX8_lodgePetition_p0 16 rfl) (by decide) (fun c33 => ?_) (fun c33 => absurd h1 c33)
            refine r_bipush (v := (-2)) (dk kX8_lodgePetition_p0 20 rfl) (by decide) ?_
            refine r_ireturn (dk kX8_lodgePetition_p0 21 rfl) rfl rfl ⟨Nat.le_of_ble_eq_true rfl, Nat.le_of_ble_eq_true rfl⟩ (QA.thr (by decide) rfl)
          · refine r_if_ne (tgt := 31) (dk kX8_lodgePetition_p0 12 rfl) (by decide) (fun c26 => ?_) (fun c26 => absurd (by decide) c26)
            refine r_iload (dk kX8_lodgePetition_p0 15 rfl) rfl ?_
            refine r_if_lt (tgt := 43) (dk kX8_lodgePetition_p0 16 rfl) (by decide) (fun c33 => absurd c33 h1) (fun c33 => ?_)
            refine r_iload (dk kX8_lodgePetition_p0 17 rfl) rfl ?_
            refine r_bipush (v := 9) (dk kX8_lodgePetition_p0 18 rfl) (by decide) ?_
            refine r_icmp_le (tgt := 46) (dk kX8_lodgePetition_p0 19 rfl) (by decide) (fun c40 => absurd c40 (fun z => hw ⟨Int32.not_lt.mp h1, z⟩)) (fun c40 => ?_)
            refine r_bipush (v := (-2)) (dk kX8_lodgePetition_p0 20 rfl) (by decide) ?_
            refine r_ireturn (dk kX8_lodgePetition_p0 21 rfl) rfl rfl ⟨Nat.le_of_ble_eq_true rfl, Nat.le_of_ble_eq_true rfl⟩ (QA.thr (by decide) rfl)
      · have e0 : sp_file g (nI n) (nI m) c w = cThr 1 := by unfold sp_file; rw [ea, es]; show (if 0 ≤ c ∧ c ≤ 24 then _ else _) = _; rw [if_neg hc]
        rw [e0, bI_f hc]
        refine r_if_ne (tgt := 31) (dk kX8_lodgePetition_p0 12 rfl) (by decide) (fun c26 => absurd c26 (by decide)) (fun c26 => ?_)
        refine r_iconst (v := (-1)) (dk kX8_lodgePetition_p0 13 rfl) (by decide) ?_
        refine r_ireturn (dk kX8_lodgePetition_p0 14 rfl) rfl rfl ⟨Nat.le_of_ble_eq_true rfl, Nat.le_of_ble_eq_true rfl⟩ (QA.thr (by decide) rfl)
theorem k_X8_castVote (o : BO M x) (v : SV M (x + 1) g q) (i : GI F g) (a y b : Int32) : KK G IX8_castVote [.ref x, .int a, .int y, .int b] M (qi (QA M x (sp_vote g a y b) tc3) nox) := by
  refine KK.ofW (by decide) (by simp [Value.category]) (Nat.le_of_ble_eq_true rfl) rfl ?_
  show WW _ _ _ 0 [_, _, _, _, lj] [] _ _ _
  have o7 := i.o.2
  have p9 := i.p.2
  cases ea : ixo (gn g 1) a with
  | none =>
    have e0 : sp_vote g a y b = cThr 1 := by unfold sp_vote; rw [ea]
    have hn := ixo_0 (by omega) ea
    rw [e0]
    refine r_aload_n (dk kX8_castVote 0 rfl) rfl ?_
    refine r_getR (dk kX8_castVote 1 rfl) fa_X8_12_7 o.k rfl o.r0 ?_
    refine r_iload_n (dk kX8_castVote 2 rfl) rfl ?_
    refine r_callVp (I' := IX6_hasOfficer) (as := [_]) (dk kX8_castVote 3 rfl) mv_X6_hasOfficer ml_X8_102 rfl rfl o.s.k rfl rfl (Nat.le_of_ble_eq_true rfl) ⟨by decide, by decide⟩ ⟨rfl, rfl⟩ ⟨Nat.le_of_ble_eq_true rfl, Nat.le_of_ble_eq_true rfl⟩ (k_X6_hasOfficer o.s.k a) ?_
    -- at 8
    rw [v.c1 i, bI_f hn]
    refine r_if_ne (tgt := 13) (dk kX8_castVote 4 rfl) (by decide) (fun c8 => absurd c8 (by decide)) (fun c8 => ?_)
    refine r_iconst (v := (-1)) (dk kX8_castVote 5 rfl) (by decide) ?_
    refine r_ireturn (dk kX8_castVote 6 rfl) rfl rfl ⟨Nat.le_of_ble_eq_true rfl, Nat.le_of_ble_eq_true rfl⟩ (QA.thr (by decide) rfl)
  | some n =>
    obtain ⟨hn1, rfl, hn3⟩ := ixo_1 (by omega) ea
    refine r_aload_n (dk kX8_castVote 0 rfl) rfl ?_
    refine r_getR (dk kX8_castVote 1 rfl) fa_X8_12_7 o.k rfl o.r0 ?_
    refine r_iload_n (dk kX8_castVote 2 rfl) rfl ?_
    refine r_callVp (I' := IX6_hasOfficer) (as := [_]) (dk kX8_castVote 3 rfl) mv_X6_hasOfficer ml_X8_102 rfl rfl o.s.k rfl rfl (Nat.le_of_ble_eq_true rfl) ⟨by decide, by decide⟩ ⟨rfl, rfl⟩ ⟨Nat.le_of_ble_eq_true rfl, Nat.le_of_ble_eq_true rfl⟩ (k_X6_hasOfficer o.s.k _) ?_
    -- at 8
    rw [v.c1 i, bI_t hn3]
    cases eb : gPlace g y with
    | none =>
      have e0 : sp_vote g (nI n) y b = cThr 2 := by unfold sp_vote; rw [ea, eb]
      rw [e0]
      refine r_if_ne (tgt := 13) (dk kX8_castVote 4 rfl) (by decide) (fun c8 => ?_) (fun c8 => absurd (by decide) c8)
      refine r_aload_n (dk kX8_castVote 7 rfl) rfl ?_
      refine r_getR (dk kX8_castVote 8 rfl) fa_X8_12_7 o.k rfl o.r0 ?_
      refine r_iload_n (dk kX8_castVote 9 rfl) rfl ?_
      refine r_callVz (I' := IX6_findPetition) (as := [_]) (dk kX8_castVote 10 rfl) mv_X6_findPetition ml_X8_361 rfl rfl o.s.k rfl rfl (Nat.le_of_ble_eq_true rfl) ⟨by decide, by decide⟩ ⟨rfl, rfl⟩ ⟨Nat.le_of_ble_eq_true rfl, Nat.le_of_ble_eq_true rfl⟩ (k_X6_findPetitionZ o.s v i eb) ?_
      refine r_astoreN (dk kX8_castVote 11 rfl) (by decide) rfl ?_
      simp only [List.set_cons_succ, List.set_cons_zero]
      refine r_aloadN (dk kX8_castVote 12 rfl) rfl ?_
      refine r_ifnonnullN (dk kX8_castVote 13 rfl) ?_
      refine r_bipush (v := (-3)) (dk kX8_castVote 14 rfl) (by decide) ?_
      refine r_ireturn (dk kX8_castVote 15 rfl) rfl rfl ⟨Nat.le_of_ble_eq_true rfl, Nat.le_of_ble_eq_true rfl⟩ (QA.thr (by decide) rfl)
    | some p =>
      obtain ⟨j, hj, hqj⟩ := v.o.at (fx_lt eb)
      subst hqj
      have ka := o.s.ka (j := j) (by omega)
      have pb := o.s.pb (j := j) (by omega)
      have hq := v.o.1 j hj
      obtain ⟨-, -, -, -, -, y1, y2, -⟩ := i.pi hq
      obtain ⟨p0, p1, p2, p3, p4, p5, p6, p7, p8, pc⟩ := v.p hj
      have e0 : sp_vote g (nI n) y b = if g (35 + 11 * q j + 1) = nI n then cDen 3 6 (nI n) else if (gn g (35 + 11 * q j + 5)).testBit n = true then cDen 3 5 1 else if (gn g (35 + 11 * q j + 6)).testBit n = true then cDen 3 5 0 else cOk (nI (gVotes (gVote g n (q j) (if b = 0 then 6 else 5)) (q j))) (gVote g n (q j) (if b = 0 then 6 else 5)) := by unfold sp_vote; rw [ea, eb]
      refine r_if_ne (tgt := 13) (dk kX8_castVote 4 rfl) (by decide) (fun c8 => ?_) (fun c8 => absurd (by decide) c8)
      refine r_aload_n (dk kX8_castVote 7 rfl) rfl ?_
      refine r_getR (dk kX8_castVote 8 rfl) fa_X8_12_7 o.k rfl o.r0 ?_
      refine r_iload_n (dk kX8_castVote 9 rfl) rfl ?_
      refine r_callVr (I' := IX6_findPetition) (as := [_]) (dk kX8_castVote 10 rfl) mv_X6_findPetition ml_X8_361 rfl rfl o.s.k rfl rfl (Nat.le_of_ble_eq_true rfl) ⟨by decide, by decide⟩ ⟨rfl, rfl⟩ ⟨Nat.le_of_ble_eq_true rfl, Nat.le_of_ble_eq_true rfl⟩ (k_X6_findPetition o.s v i hj eb) ?_
      refine r_astore (dk kX8_castVote 11 rfl) (by decide) rfl ?_
      simp only [List.set_cons_succ, List.set_cons_zero]
      refine r_aload (dk kX8_castVote 12 rfl) rfl ?_
      refine r_ifnonnull (tgt := 31) (dk kX8_castVote 13 rfl) (by decide) ?_
      refine r_aload (dk kX8_castVote 16 rfl) rfl ?_
      refine r_geti (dk kX8_castVote 17 rfl) fa_X8_117_3 ka rfl ?_
      -- at 36
      rw [p1]
      by_cases h1 : g (35 + 11 * q j + 1) = nI n
      · rw [if_pos h1] at e0
        rw [e0]
        refine r_iload_n (dk kX8_castVote 18 rfl) rfl ?_
        refine r_icmp_ne (tgt := 48) (dk kX8_castVote 19 rfl) (by decide) (fun c37 => absurd c37 (fun z => z h1)) (fun c37 => ?_)
        refine r_aload_n (dk kX8_castVote 20 rfl) rfl ?_
        refine r_bipush (v := 6) (dk kX8_castVote 21 rfl) (by decide) ?_
        refine r_iload_n (dk kX8_castVote 22 rfl) rfl ?_
        refine r_callVp (I' := IX8_deny) (as := [_, _]) (dk kX8_castVote 23 rfl) mv_X8_deny ml_X8_346 rfl rfl o.k rfl rfl (Nat.le_of_ble_eq_true rfl) ⟨by decide, by decide⟩ ⟨rfl, rfl⟩ ⟨Nat.le_of_ble_eq_true rfl, Nat.le_of_ble_eq_true rfl⟩ (k_X8_deny o _ _) ?_
        refine r_ireturn (dk kX8_castVote 24 rfl) rfl rfl ⟨Nat.le_of_ble_eq_true rfl, Nat.le_of_ble_eq_true rfl⟩ (QA.den _ (by decide) (by decide))
      · rw [if_neg h1] at e0
        refine r_iload_n (dk kX8_castVote 18 rfl) rfl ?_
        refine r_icmp_ne (tgt := 48) (dk kX8_castVote 19 rfl) (by decide) (fun c37 => ?_) (fun c37 => absurd h1 c37)
        refine r_aload (dk kX8_castVote 25 rfl) rfl ?_
        refine r_iload_n (dk kX8_castVote 26 rfl) rfl ?_
        refine r_callVp (I' := IX4_hasVoteFor) (as := [_]) (dk kX8_castVote 27 rfl) mv_X4_hasVoteFor ml_X8_364 rfl rfl ka rfl rfl (Nat.le_of_ble_eq_true rfl) ⟨by decide, by decide⟩ ⟨rfl, rfl⟩ ⟨Nat.le_of_ble_eq_true rfl, Nat.le_of_ble_eq_true rfl⟩ (k_X4_hasVoteFor ka y1.2 (by omega) (p6.trans y1.1)) ?_
        -- at 54
        by_cases h2 : (gn g (35 + 11 * q j + 5)).testBit n = true
        · rw [if_pos h2] at e0
          rw [e0, bI_t h2]
          refine r_if_eq (tgt := 64) (dk kX8_castVote 28 rfl) (by decide) (fun c54 => absurd c54 (by decide)) (fun c54 => ?_)
          refine r_aload_n (dk kX8_castVote 29 rfl) rfl ?_
          refine r_iconst (v := 5) (dk kX8_castVote 30 rfl) (by decide) ?_
          refine r_iconst (v := 1) (dk kX8_castVote 31 rfl) (by decide) ?_
          refine r_callVp (I' := IX8_deny) (as := [_, _]) (dk kX8_castVote 32 rfl) mv_X8_deny ml_X8_346 rfl rfl o.k rfl rfl (Nat.le_of_ble_eq_true rfl) ⟨by decide, by decide⟩ ⟨rfl, rfl⟩ ⟨Nat.le_of_ble_eq_true rfl, Nat.le_of_ble_eq_true rfl⟩ (k_X8_deny o _ _) ?_
          refine r_ireturn (dk kX8_castVote 33 rfl) rfl rfl ⟨Nat.le_of_ble_eq_true rfl, Nat.le_of_ble_eq_true rfl⟩ (QA.den _ (by decide) (by decide))
        · rw [if_neg h2] at e0
          rw [bI_f h2]
          refine r_if_eq (tgt := 64) (dk kX8_castVote 28 rfl) (by decide) (fun c54 => ?_) (fun c54 => absurd rfl c54)
          refine r_aload (dk kX8_castVote 34 rfl) rfl ?_
          refine r_iload_n (dk kX8_castVote 35 rfl) rfl ?_
          refine r_callVp (I' := IX4_hasVoteAgainst) (as := [_]) (dk kX8_castVote 36 rfl) mv_X4_hasVoteAgainst ml_X8_367 rfl rfl ka rfl rfl (Nat.le_of_ble_eq_true rfl) ⟨by decide, by decide⟩ ⟨rfl, rfl⟩ ⟨Nat.le_of_ble_eq_true rfl, Nat.le_of_ble_eq_true rfl⟩ (k_X4_hasVoteAgainst ka y2.2 (by omega) (p7.trans y2.1)) ?_
          -- at 70
          by_cases h3 : (gn g (35 + 11 * q j + 6)).testBit n = true
          · rw [if_pos h3] at e0
            rw [e0, bI_t h3]
            refine r_if_eq (tgt := 80) (dk kX8_castVote 37 rfl) (by decide) (fun c70 => absurd c70 (by decide)) (fun c70 => ?_)
            refine r_aload_n (dk kX8_castVote 38 rfl) rfl ?_
            refine r_iconst (v := 5) (dk kX8_castVote 39 rfl) (by decide) ?_
            refine r_iconst (v := 0) (dk kX8_castVote 40 rfl) (by decide) ?_
            refine r_callVp (I' := IX8_deny) (as := [_, _]) (dk kX8_castVote 41 rfl) mv_X8_deny ml_X8_346 rfl rfl o.k rfl rfl (Nat.le_of_ble_eq_true rfl) ⟨by decide, by decide⟩ ⟨rfl, rfl⟩ ⟨Nat.le_of_ble_eq_true rfl, Nat.le_of_ble_eq_true rfl⟩ (k_X8_deny o _ _) ?_
            refine r_ireturn (dk kX8_castVote 42 rfl) rfl rfl ⟨Nat.le_of_ble_eq_true rfl, Nat.le_of_ble_eq_true rfl⟩ (QA.den _ (by decide) (by decide))
          · rw [if_neg h3] at e0
            rw [e0, bI_f h3]
            refine r_if_eq (tgt := 80) (dk kX8_castVote 37 rfl) (by decide) (fun c70 => ?_) (fun c70 => absurd rfl c70)
            refine r_aload (dk kX8_castVote 43 rfl) rfl ?_
            refine r_iload_n (dk kX8_castVote 44 rfl) rfl ?_
            refine r_iload_n (dk kX8_castVote 45 rfl) rfl ?_
            refine r_callVu (I' := IX4_addVote) (as := [_, _]) (dk kX8_castVote 46 rfl) mv_X4_addVote ml_X8_370 rfl rfl ka rfl rfl (Nat.le_of_ble_eq_true rfl) ⟨by decide, by decide⟩ ⟨rfl, rfl⟩ ⟨Nat.le_of_ble_eq_true rfl, Nat.le_of_ble_eq_true rfl⟩ (k_X4_addVote ka (by omega) (p6.trans y1.1) (p7.trans y2.1) b) ?_
            -- at 87
            have w1 : gn g (35 + 11 * q j + 5) ||| 2 ^ n < 64 := Nat.or_lt_two_pow (n := 6) y1.2 (Nat.pow_lt_pow_right (by decide) (by omega))
            have w2 : gn g (35 + 11 * q j + 6) ||| 2 ^ n < 64 := Nat.or_lt_two_pow (n := 6) y2.2 (Nat.pow_lt_pow_right (by decide) (by omega))
            by_cases hb : b = 0
            · rw [if_pos hb, if_pos hb]
              have g1 : gn (gVote g n (q j) 6) (35 + 11 * q j + 5) = gn g (35 + 11 * q j + 5) := gn_eq (va_up_ne _ _ (by omega))
              have g2 : gn (gVote g n (q j) 6) (35 + 11 * q j + 6) = gn g (35 + 11 * q j + 6) ||| 2 ^ n := gn_v (va_up_self _ _ _) (by omega)
              refine r_aload (dk kX8_castVote 47 rfl) rfl ?_
              refine r_callVp (I' := IX4_countVotes) (as := []) (dk kX8_castVote 48 rfl) mv_X4_countVotes ml_X8_238 rfl rfl ka rfl rfl (Nat.le_of_ble_eq_true rfl) ⟨by decide, by decide⟩ ⟨rfl, rfl⟩ ⟨Nat.le_of_ble_eq_true rfl, Nat.le_of_ble_eq_true rfl⟩ (k_X4_countVotes (M := sI M (pA M (x + 1) j) 11 (nI (gn g (35 + 11 * q j + 6) ||| 2 ^ n))) ka y1.2 w2 (by rw [mi_sI_s, va_up_ne _ _ (by decide)]; exact p6.trans y1.1) (by rw [mi_sI_s, va_up_self])) ?_
              refine r_ireturn (dk kX8_castVote 49 rfl) rfl rfl ⟨Nat.le_of_ble_eq_true rfl, Nat.le_of_ble_eq_true rfl⟩ ?_
              have e9 : nI (bN (gn g (35 + 11 * q j + 5)) + bN (gn g (35 + 11 * q j + 6) ||| 2 ^ n)) = nI (gVotes (gVote g n (q j) 6) (q j)) := by unfold gVotes gFor gAg; rw [g1, g2]
              rw [e9]
              exact QA.ok (nI_pos' (by have := gVotes_le (gVote g n (q j) 6) (q j); omega)) ((FR.rfl M (x + 1) (x + 30)).sI _ _ (by omega)) (o.s.tr rfl rfl rfl) ⟨q, SV_vote v o.s i hj (Or.inr rfl)⟩
            · rw [if_neg hb, if_neg hb]
              have g1 : gn (gVote g n (q j) 5) (35 + 11 * q j + 5) = gn g (35 + 11 * q j + 5) ||| 2 ^ n := gn_v (va_up_self _ _ _) (by omega)
              have g2 : gn (gVote g n (q j) 5) (35 + 11 * q j + 6) = gn g (35 + 11 * q j + 6) := gn_eq (va_up_ne _ _ (by omega))
              refine r_aload (dk kX8_castVote 47 rfl) rfl ?_
              refine r_callVp (I' := IX4_countVotes) (as := []) (dk kX8_castVote 48 rfl) mv_X4_countVotes ml_X8_238 rfl rfl ka rfl rfl (Nat.le_of_ble_eq_true rfl) ⟨by decide, by decide⟩ ⟨rfl, rfl⟩ ⟨Nat.le_of_ble_eq_true rfl, Nat.le_of_ble_eq_true rfl⟩ (k_X4_countVotes (M := sI M (pA M (x + 1) j) 10 (nI (gn g (35 + 11 * q j + 5) ||| 2 ^ n))) ka w1 y2.2 (by rw [mi_sI_s, va_up_self]) (by rw [mi_sI_s, va_up_ne _ _ (by decide)]; exact p7.trans y2.1)) ?_
              refine r_ireturn (dk kX8_castVote 49 rfl) rfl rfl ⟨Nat.le_of_ble_eq_true rfl, Nat.le_of_ble_eq_true rfl⟩ ?_
              have e9 : nI (bN (gn g (35 + 11 * q j + 5) ||| 2 ^ n) + bN (gn g (35 + 11 * q j + 6))) = nI (gVotes (gVote g n (q j) 5) (q j)) := by unfold gVotes gFor gAg; rw [g1, g2]
              rw [e9]
              exact QA.ok (nI_pos' (by have := gVotes_le (gVote g n (q j) 5) (q j); omega)) ((FR.rfl M (x + 1) (x + 30)).sI _ _ (by omega)) (o.s.tr rfl rfl rfl) ⟨q, SV_vote v o.s i hj (Or.inl rfl)⟩
theorem k_X8_citeRuling (o : BO M x) (v : SV M (x + 1) g q) (i : GI F g) (y r : Int32) : KK G IX8_citeRuling [.ref x, .int y, .int r] M (qi (QA M x (sp_cite g y r) tc4) nox) := by
  refine KK.ofW (by decide) (by simp [Value.category]) (Nat.le_of_ble_eq_true rfl) rfl ?_
  show WW _ _ _ 0 [_, _, _, lj] [] _ _ _
  have p9 := i.p.2
  have r17 := i.r.2
  cases eb : gPlace g y with
  | none =>
    have e0 : sp_cite g y r = cThr 1 := by unfold sp_cite; rw [eb]
    rw [e0]
    refine r_aload_n (dk kX8_citeRuling 0 rfl) rfl ?_
    refine r_getR (dk kX8_citeRuling 1 rfl) fa_X8_12_7 o.k rfl o.r0 ?_
    refine r_iload_n (dk kX8_citeRuling 2 rfl) rfl ?_
    refine r_callVz (I' := IX6_findPetition) (as := [_]) (dk kX8_citeRuling 3 rfl) mv_X6_findPetition ml_X8_361 rfl rfl o.s.k rfl rfl (Nat.le_of_ble_eq_true rfl) ⟨by decide, by decide⟩ ⟨rfl, rfl⟩ ⟨Nat.le_of_ble_eq_true rfl, Nat.le_of_ble_eq_true rfl⟩ (k_X6_findPetitionZ o.s v i eb) ?_
    refine r_astore_nN (j := 3) (dk kX8_citeRuling 4 rfl) rfl (by decide) rfl ?_
    simp only [List.set_cons_succ, List.set_cons_zero]
    refine r_aload_nN (dk kX8_citeRuling 5 rfl) rfl ?_
    refine r_ifnullN (tgt := 24) (dk kX8_citeRuling 6 rfl) (by decide) ?_
    refine r_bipush (v := (-3)) (dk kX8_citeRuling 12 rfl) (by decide) ?_
    refine r_ireturn (dk kX8_citeRuling 13 rfl) rfl rfl ⟨Nat.le_of_ble_eq_true rfl, Nat.le_of_ble_eq_true rfl⟩ (QA.thr (by decide) rfl)
  | some p =>
    obtain ⟨j, hj, hqj⟩ := v.o.at (fx_lt eb)
    subst hqj
    have ka := o.s.ka (j := j) (by omega)
    have pb := o.s.pb (j := j) (by omega)
    have hq := v.o.1 j hj
    obtain ⟨-, -, -, -, -, -, -, ⟨y7, y72⟩, y8⟩ := i.pi hq
    obtain ⟨p0, p1, p2, p3, p4, p5, p6, p7, p8, pc⟩ := v.p hj
    refine r_aload_n (dk kX8_citeRuling 0 rfl) rfl ?_
    refine r_getR (dk kX8_citeRuling 1 rfl) fa_X8_12_7 o.k rfl o.r0 ?_
    refine r_iload_n (dk kX8_citeRuling 2 rfl) rfl ?_
    refine r_callVr (I' := IX6_findPetition) (as := [_]) (dk kX8_citeRuling 3 rfl) mv_X6_findPetition ml_X8_361 rfl rfl o.s.k rfl rfl (Nat.le_of_ble_eq_true rfl) ⟨by decide, by decide⟩ ⟨rfl, rfl⟩ ⟨Nat.le_of_ble_eq_true rfl, Nat.le_of_ble_eq_true rfl⟩ (k_X6_findPetition o.s v i hj eb) ?_
    refine r_astore_n (j := 3) (dk kX8_citeRuling 4 rfl) rfl (by decide) rfl ?_
    simp only [List.set_cons_succ, List.set_cons_zero]
    refine r_aload_n (dk kX8_citeRuling 5 rfl) rfl ?_
    refine r_ifnull (dk kX8_citeRuling 6 rfl) ?_
    refine r_aload_n (dk kX8_citeRuling 7 rfl) rfl ?_
    refine r_getR (dk kX8_citeRuling 8 rfl) fa_X8_12_7 o.k rfl o.r0 ?_
    refine r_iload_n (dk kX8_citeRuling 9 rfl) rfl ?_
    -- at 18
    cases er : ixo (gn g 5) r with
    | none =>
      have e0 : sp_cite g y r = cThr 1 := by unfold sp_cite; rw [eb, er]
      rw [e0]
      refine r_callVz (I' := IX6_findRuling) (as := [_]) (dk kX8_citeRuling 10 rfl) mv_X6_findRuling ml_X8_374 rfl rfl o.s.k rfl rfl (Nat.le_of_ble_eq_true rfl) ⟨by decide, by decide⟩ ⟨rfl, rfl⟩ ⟨Nat.le_of_ble_eq_true rfl, Nat.le_of_ble_eq_true rfl⟩ (k_X6_findRulingZ o.s v i er) ?_
      refine r_ifnonnullN (dk kX8_citeRuling 11 rfl) ?_
      refine r_bipush (v := (-3)) (dk kX8_citeRuling 12 rfl) (by decide) ?_
      refine r_ireturn (dk kX8_citeRuling 13 rfl) rfl rfl ⟨Nat.le_of_ble_eq_true rfl, Nat.le_of_ble_eq_true rfl⟩ (QA.thr (by decide) rfl)
    | some k =>
      obtain ⟨hk1, rfl, hk3⟩ := ixo_1 (by omega) er
      have e0 : sp_cite g y (nI k) = if gCited g (q j) k = true then cDen 2 7 (nI k) else if gn g (35 + 11 * q j + 7) = 3 then cDen 2 1 3 else cOk (nI (gn g (35 + 11 * q j + 7) + 1)) (gCite g (q j) k) := by unfold sp_cite; rw [eb, er]
      have hrf := k_X0_refersToP (G := G) (M := M) ka y72 (p8.trans y7) (nI k)
      rw [show (fx (fun c => decide (mi M (pA M (x + 1) j) (1 + c) = nI k)) (gn g (35 + 11 * q j + 7))) = fx (fun c => decide (g (35 + 11 * q j + 8 + c) = nI k)) (gn g (35 + 11 * q j + 7)) from fx_cong (fun c hc => by rw [pc c hc])] at hrf
      refine r_callVr (I' := IX6_findRuling) (as := [_]) (dk kX8_citeRuling 10 rfl) mv_X6_findRuling ml_X8_374 rfl rfl o.s.k rfl rfl (Nat.le_of_ble_eq_true rfl) ⟨by decide, by decide⟩ ⟨rfl, rfl⟩ ⟨Nat.le_of_ble_eq_true rfl, Nat.le_of_ble_eq_true rfl⟩ (k_X6_findRuling o.s v i hk1) ?_
      refine r_ifnonnull (tgt := 27) (dk kX8_citeRuling 11 rfl) (by decide) ?_
      refine r_aload_n (dk kX8_citeRuling 14 rfl) rfl ?_
      refine r_iload_n (dk kX8_citeRuling 15 rfl) rfl ?_
      refine r_callUp (I' := IX0_refersTo) (as := [_]) (dk kX8_citeRuling 16 rfl) mu_X8_377_3 rfl rfl ka rfl rfl (Nat.le_of_ble_eq_true rfl) ⟨by decide, by decide⟩ ⟨rfl, rfl⟩ ⟨Nat.le_of_ble_eq_true rfl, Nat.le_of_ble_eq_true rfl⟩ hrf ?_
      -- at 32
      by_cases h1 : gCited g (q j) k = true
      · rw [if_pos h1] at e0
        unfold gCited at h1
        rw [e0, bI_t h1]
        refine r_if_eq (tgt := 43) (dk kX8_citeRuling 17 rfl) (by decide) (fun c32 => absurd c32 (by decide)) (fun c32 => ?_)
        refine r_aload_n (dk kX8_citeRuling 18 rfl) rfl ?_
        refine r_bipush (v := 7) (dk kX8_citeRuling 19 rfl) (by decide) ?_
        refine r_iload_n (dk kX8_citeRuling 20 rfl) rfl ?_
        refine r_callVp (I' := IX8_deny) (as := [_, _]) (dk kX8_citeRuling 21 rfl) mv_X8_deny ml_X8_346 rfl rfl o.k rfl rfl (Nat.le_of_ble_eq_true rfl) ⟨by decide, by decide⟩ ⟨rfl, rfl⟩ ⟨Nat.le_of_ble_eq_true rfl, Nat.le_of_ble_eq_true rfl⟩ (k_X8_deny o _ _) ?_
        refine r_ireturn (dk kX8_citeRuling 22 rfl) rfl rfl ⟨Nat.le_of_ble_eq_true rfl, Nat.le_of_ble_eq_true rfl⟩ (QA.den _ (by decide) (by decide))
      · rw [if_neg h1] at e0
        unfold gCited at h1
        rw [bI_f h1]
        refine r_if_eq (tgt := 43) (dk kX8_citeRuling 17 rfl) (by decide) (fun c32 => ?_) (fun c32 => absurd rfl c32)
        refine r_aload_n (dk kX8_citeRuling 23 rfl) rfl ?_
        refine r_geti (dk kX8_citeRuling 24 rfl) fa_X8_297_3 ka rfl ?_
        refine r_iconst (v := 3) (dk kX8_citeRuling 25 rfl) (by decide) ?_
        -- at 48
        rw [p8, y7]
        by_cases h3 : gn g (35 + 11 * q j + 7) = 3
        · rw [if_pos h3] at e0
          rw [e0]
          refine r_icmp_lt (tgt := 58) (dk kX8_citeRuling 26 rfl) (by decide) (fun c48 => absurd c48 (by rw [h3]; decide)) (fun c48 => ?_)
          refine r_aload_n (dk kX8_citeRuling 27 rfl) rfl ?_
          refine r_iconst (v := 1) (dk kX8_citeRuling 28 rfl) (by decide) ?_
          refine r_iconst (v := 3) (dk kX8_citeRuling 29 rfl) (by decide) ?_
          refine r_callVp (I' := IX8_deny) (as := [_, _]) (dk kX8_citeRuling 30 rfl) mv_X8_deny ml_X8_346 rfl rfl o.k rfl rfl (Nat.le_of_ble_eq_true rfl) ⟨by decide, by decide⟩ ⟨rfl, rfl⟩ ⟨Nat.le_of_ble_eq_true rfl, Nat.le_of_ble_eq_true rfl⟩ (k_X8_deny o _ _) ?_
          refine r_ireturn (dk kX8_citeRuling 31 rfl) rfl rfl ⟨Nat.le_of_ble_eq_true rfl, Nat.le_of_ble_eq_true rfl⟩ (QA.den _ (by decide) (by decide))
        · rw [if_neg h3] at e0
          rw [e0]
          refine r_icmp_lt (tgt := 58) (dk kX8_citeRuling 26 rfl) (by decide) (fun c48 => ?_) (fun c48 => absurd (nI_lt (a := gn g (35 + 11 * q j + 7)) (b := 3) (by omega) (by decide)) c48)
          refine r_aload_n (dk kX8_citeRuling 32 rfl) rfl ?_
          refine r_iload_n (dk kX8_citeRuling 33 rfl) rfl ?_
          refine r_callUu (I' := IX0_addCited) (as := [_]) (dk kX8_citeRuling 34 rfl) mu_X8_378_3 rfl rfl ka rfl rfl (Nat.le_of_ble_eq_true rfl) ⟨by decide, by decide⟩ ⟨rfl, rfl⟩ ⟨Nat.le_of_ble_eq_true rfl, Nat.le_of_ble_eq_true rfl⟩ (k_X0_addCitedP ka (by omega) (p8.trans y7) (nI k)) ?_
          refine r_aload_n (dk kX8_citeRuling 35 rfl) rfl ?_
          refine r_geti (dk kX8_citeRuling 36 rfl) fa_X8_297_3 ka rfl ?_
          -- at 67
          rw [mi_sI_s, va_up_self]
          refine r_ireturn (dk kX8_citeRuling 37 rfl) rfl rfl ⟨Nat.le_of_ble_eq_true rfl, Nat.le_of_ble_eq_true rfl⟩ (QA.ok (nI_pos' (by omega)) (((FR.rfl M (x + 1) (x + 30)).sI _ _ (by omega)).sI _ _ (by omega)) (o.s.tr rfl rfl rfl) ⟨q, SV_cite v o.s i hj h3⟩)
theorem GDr_up {p j : Nat} {w : Int32} (i : GI F g) (hp : p < gn g 3) (hj : j = 6 ∨ j = 7) : GDr g p (va_up (gDrop g p) j w) := by
  have o7 := i.o.2
  refine ⟨?_, fun k hk => ?_, fun z h1 h2 => ?_⟩
  · rw [va_up_ne _ _ (by omega)]
    exact gDrop_3 i.p hp
  · rw [va_up_ne _ _ (by omega), gDrop_out hp (by omega) (by omega)]
  · rw [va_up_ne _ _ (by omega)]
theorem k_X8_vetoPetition (o : BO M x) (v : SV M (x + 1) g q) (i : GI F g) (a y : Int32) : KK G IX8_vetoPetition [.ref x, .int a, .int y] M (qi (QA M x (sp_veto g a y) tc3) nox) := by
  refine KK.ofW (by decide) (by simp [Value.category]) (Nat.le_of_ble_eq_true rfl) rfl ?_
  show WW _ _ _ 0 [_, _, _, lj] [] _ _ _
  have o7 := i.o.2
  have p9 := i.p.2
  cases ea : ixo (gn g 1) a with
  | none =>
    have e0 : sp_veto g a y = cThr 1 := by unfold sp_veto; rw [ea]
    have hn := ixo_0 (by omega) ea
    rw [e0]
    refine r_aload_n (dk kX8_vetoPetition 0 rfl) rfl ?_
    refine r_getR (dk kX8_vetoPetition 1 rfl) fa_X8_12_7 o.k rfl o.r0 ?_
    refine r_iload_n (dk kX8_vetoPetition 2 rfl) rfl ?_
    refine r_callVp (I' := IX6_hasOfficer) (as := [_]) (dk kX8_vetoPetition 3 rfl) mv_X6_hasOfficer ml_X8_102 rfl rfl o.s.k rfl rfl (Nat.le_of_ble_eq_true rfl) ⟨by decide, by decide⟩ ⟨rfl, rfl⟩ ⟨Nat.le_of_ble_eq_true rfl, Nat.le_of_ble_eq_true rfl⟩ (k_X6_hasOfficer o.s.k a) ?_
    -- at 8
    rw [v.c1 i, bI_f hn]
    refine r_if_ne (tgt := 13) (dk kX8_vetoPetition 4 rfl) (by decide) (fun c8 => absurd c8 (by decide)) (fun c8 => ?_)
    refine r_iconst (v := (-1)) (dk kX8_vetoPetition 5 rfl) (by decide) ?_
    refine r_ireturn (dk kX8_vetoPetition 6 rfl) rfl rfl ⟨Nat.le_of_ble_eq_true rfl, Nat.le_of_ble_eq_true rfl⟩ (QA.thr (by decide) rfl)
  | some n =>
    obtain ⟨hn1, rfl, hn3⟩ := ixo_1 (by omega) ea
    refine r_aload_n (dk kX8_vetoPetition 0 rfl) rfl ?_
    refine r_getR (dk kX8_vetoPetition 1 rfl) fa_X8_12_7 o.k rfl o.r0 ?_
    refine r_iload_n (dk kX8_vetoPetition 2 rfl) rfl ?_
    refine r_callVp (I' := IX6_hasOfficer) (as := [_]) (dk kX8_vetoPetition 3 rfl) mv_X6_hasOfficer ml_X8_102 rfl rfl o.s.k rfl rfl (Nat.le_of_ble_eq_true rfl) ⟨by decide, by decide⟩ ⟨rfl, rfl⟩ ⟨Nat.le_of_ble_eq_true rfl, Nat.le_of_ble_eq_true rfl⟩ (k_X6_hasOfficer o.s.k _) ?_
    -- at 8
    rw [v.c1 i, bI_t hn3]
    cases eb : gPlace g y with
    | none =>
      have e0 : sp_veto g (nI n) y = cThr 2 := by unfold sp_veto; rw [ea, eb]
      rw [e0]
      refine r_if_ne (tgt := 13) (dk kX8_vetoPetition 4 rfl) (by decide) (fun c8 => ?_) (fun c8 => absurd (by decide) c8)
      refine r_aload_n (dk kX8_vetoPetition 7 rfl) rfl ?_
      refine r_getR (dk kX8_vetoPetition 8 rfl) fa_X8_12_7 o.k rfl o.r0 ?_
      refine r_iload_n (dk kX8_vetoPetition 9 rfl) rfl ?_
      refine r_callVz (I' := IX6_findPetition) (as := [_]) (dk kX8_vetoPetition 10 rfl) mv_X6_findPetition ml_X8_361 rfl rfl o.s.k rfl rfl (Nat.le_of_ble_eq_true rfl) ⟨by decide, by decide⟩ ⟨rfl, rfl⟩ ⟨Nat.le_of_ble_eq_true rfl, Nat.le_of_ble_eq_true rfl⟩ (k_X6_findPetitionZ o.s v i eb) ?_
      refine r_astore_nN (j := 3) (dk kX8_vetoPetition 11 rfl) rfl (by decide) rfl ?_
      simp only [List.set_cons_succ, List.set_cons_zero]
      refine r_aload_nN (dk kX8_vetoPetition 12 rfl) rfl ?_
      refine r_ifnonnullN (dk kX8_vetoPetition 13 rfl) ?_
      refine r_bipush (v := (-3)) (dk kX8_vetoPetition 14 rfl) (by decide) ?_
      refine r_ireturn (dk kX8_vetoPetition 15 rfl) rfl rfl ⟨Nat.le_of_ble_eq_true rfl, Nat.le_of_ble_eq_true rfl⟩ (QA.thr (by decide) rfl)
    | some p =>
      obtain ⟨j, hj, hqj⟩ := v.o.at (fx_lt eb)
      subst hqj
      have ka := o.s.ka (j := j) (by omega)
      have hq := v.o.1 j hj
      obtain ⟨-, y1, -⟩ := i.pi hq
      have rk := i.rank y1.2
      have rn := i.rank hn1
      obtain ⟨p0, p1, p2, p3, p4, p5, p6, p7, p8, pc⟩ := v.p hj
      have a6 : mi M (pA M (x + 1) j) 6 = nI (gRk g (q j)) := p2.trans rk.1
      have b6 : gRk g (q j) < 10 := rk.2
      have e0 : sp_veto g (nI n) y = if gn g (29 + n) ≤ gRk g (q j) then cDen 3 8 (nI (gRk g (q j))) else cOk (nI (gn g 3 - 1)) (va_up (gDrop g (q j)) 6 (g 6 + 1)) := by unfold sp_veto; rw [ea, eb]
      refine r_if_ne (tgt := 13) (dk kX8_vetoPetition 4 rfl) (by decide) (fun c8 => ?_) (fun c8 => absurd (by decide) c8)
      refine r_aload_n (dk kX8_vetoPetition 7 rfl) rfl ?_
      refine r_getR (dk kX8_vetoPetition 8 rfl) fa_X8_12_7 o.k rfl o.r0 ?_
      refine r_iload_n (dk kX8_vetoPetition 9 rfl) rfl ?_
      refine r_callVr (I' := IX6_findPetition) (as := [_]) (dk kX8_vetoPetition 10 rfl) mv_X6_findPetition ml_X8_361 rfl rfl o.s.k rfl rfl (Nat.le_of_ble_eq_true rfl) ⟨by decide, by decide⟩ ⟨rfl, rfl⟩ ⟨Nat.le_of_ble_eq_true rfl, Nat.le_of_ble_eq_true rfl⟩ (k_X6_findPetition o.s v i hj eb) ?_
      refine r_astore_n (j := 3) (dk kX8_vetoPetition 11 rfl) rfl (by decide) rfl ?_
      simp only [List.set_cons_succ, List.set_cons_zero]
      refine r_aload_n (dk kX8_vetoPetition 12 rfl) rfl ?_
      refine r_ifnonnull (tgt := 29) (dk kX8_vetoPetition 13 rfl) (by decide) ?_
      refine r_aload_n (dk kX8_vetoPetition 16 rfl) rfl ?_
      refine r_getR (dk kX8_vetoPetition 17 rfl) fa_X8_12_7 o.k rfl o.r0 ?_
      refine r_getR (dk kX8_vetoPetition 18 rfl) fa_X8_107_5 o.s.k rfl o.s.r2 ?_
      refine r_iload_n (dk kX8_vetoPetition 19 rfl) rfl ?_
      refine r_ial (dk kX8_vetoPetition 20 rfl) o.s.k3 o.s.l3 (j := n) rfl (by omega) (by decide) ?_
      -- at 38
      rw [v.rank hn1, rn.1]
      refine r_aload_n (dk kX8_vetoPetition 21 rfl) rfl ?_
      refine r_geti (dk kX8_vetoPetition 22 rfl) fa_X8_381_3 ka rfl ?_
      -- at 42
      rw [a6]
      have rn2 := rn.2
      by_cases h1 : gn g (29 + n) ≤ gRk g (q j)
      · rw [if_pos h1] at e0
        rw [e0]
        refine r_icmp_gt (tgt := 56) (dk kX8_vetoPetition 23 rfl) (by decide) (fun c42 => absurd c42 (nI_nlt h1 (by omega))) (fun c42 => ?_)
        refine r_aload_n (dk kX8_vetoPetition 24 rfl) rfl ?_
        refine r_bipush (v := 8) (dk kX8_vetoPetition 25 rfl) (by decide) ?_
        refine r_aload_n (dk kX8_vetoPetition 26 rfl) rfl ?_
        refine r_geti (dk kX8_vetoPetition 27 rfl) fa_X8_381_3 ka rfl ?_
        -- at 52
        rw [a6]
        refine r_callVp (I' := IX8_deny) (as := [_, _]) (dk kX8_vetoPetition 28 rfl) mv_X8_deny ml_X8_346 rfl rfl o.k rfl rfl (Nat.le_of_ble_eq_true rfl) ⟨by decide, by decide⟩ ⟨rfl, rfl⟩ ⟨Nat.le_of_ble_eq_true rfl, Nat.le_of_ble_eq_true rfl⟩ (k_X8_deny o _ _) ?_
        refine r_ireturn (dk kX8_vetoPetition 29 rfl) rfl rfl ⟨Nat.le_of_ble_eq_true rfl, Nat.le_of_ble_eq_true rfl⟩ (QA.den _ (by decide) (by decide))
      · rw [if_neg h1] at e0
        rw [e0]
        have d := GDr_up (w := g 6 + 1) i hq (Or.inl rfl)
        refine r_icmp_gt (tgt := 56) (dk kX8_vetoPetition 23 rfl) (by decide) (fun c42 => ?_) (fun c42 => absurd (nI_lt (by omega) (by omega)) c42)
        refine r_aload_n (dk kX8_vetoPetition 30 rfl) rfl ?_
        refine r_getR (dk kX8_vetoPetition 31 rfl) fa_X8_12_7 o.k rfl (by first | exact o.r0 | exact (congrFun (mr_sQ_n M (b := x) _ (by omega)) 0).trans o.r0) ?_
        refine r_aload_n (dk kX8_vetoPetition 32 rfl) rfl ?_
        refine r_callVu (I' := IX6_dequeue) (as := [_]) (dk kX8_vetoPetition 33 rfl) mv_X6_dequeue ml_X8_384 rfl rfl o.s.k rfl rfl (Nat.le_of_ble_eq_true rfl) ⟨by decide, by decide⟩ ⟨rfl, rfl⟩ ⟨Nat.le_of_ble_eq_true rfl, Nat.le_of_ble_eq_true rfl⟩ (k_X6_dequeue o.s (v.c3 i) p9 hj) ?_
        refine r_aload_n (dk kX8_vetoPetition 34 rfl) rfl ?_
        refine r_getR (dk kX8_vetoPetition 35 rfl) fa_X8_12_7 o.k rfl (by first | exact o.r0 | exact (congrFun (mr_sQ_n M (b := x) _ (by omega)) 0).trans o.r0) ?_
        refine r_dup (dk kX8_vetoPetition 36 rfl) rfl ?_
        refine r_geti (dk kX8_vetoPetition 37 rfl) fa_X8_224_5 o.s.k rfl ?_
        -- at 72
        rw [mi_sI_s, va_up_ne _ _ (by decide), show mi (sQ M (x + 1 + 4) (fun z => mr M (x + 1 + 4) (wD j (gn g 3) z))) (x + 1) = mi M (x + 1) from rfl, v.c6]
        refine r_iconst (v := 1) (dk kX8_vetoPetition 38 rfl) (by decide) ?_
        refine r_iadd (dk kX8_vetoPetition 39 rfl) ?_
        refine r_puti (dk kX8_vetoPetition 40 rfl) fa_X8_224_5 o.s.k rfl rfl rfl rfl ?_
        refine r_aload_n (dk kX8_vetoPetition 41 rfl) rfl ?_
        refine r_getR (dk kX8_vetoPetition 42 rfl) fa_X8_12_7 o.k rfl (by first | exact o.r0 | exact (congrFun (mr_sQ_n M (b := x) _ (by omega)) 0).trans o.r0) ?_
        refine r_geti (dk kX8_vetoPetition 43 rfl) fa_X8_110_5 o.s.k rfl ?_
        -- at 84
        rw [mi_sI_s, va_up_ne _ _ (by decide), mi_sI_s, va_up_self]
        obtain ⟨oZ, -⟩ := o.s.pm (M' := sQ M (x + 1 + 4) (fun z => mr M (x + 1 + 4) (wD j (gn g 3) z))) rfl rfl (mr_sQ_n _ _ (by omega)) (mr_sQ_n _ _ (by omega)) (w := wD j (gn g 3)) (fun j _ => by rw [mr_sQ_s]) (fun j2 hj2 => wD_lt hj (by omega) hj2) (fun x y hxy _ => wD_inj hj x y hxy)
        have lo : ∀ z, z ≠ 6 → z ≠ 3 → (z < 35 ∨ 123 ≤ z) → va_up (gDrop g (q j)) 6 (g 6 + 1) z = g z := fun z h1 h2 h3 => by rw [va_up_ne _ _ h1, gDrop_out hq h2 (by omega)]
        have ms : ∀ z, z ≠ 7 → z ≠ 11 → mi (sI (sI (sQ M (x + 1 + 4) (fun z => mr M (x + 1 + 4) (wD j (gn g 3) z))) (x + 1) 7 (nI (gn g 3 - 1))) (x + 1) 11 (g 6 + 1)) (x + 1) z = mi M (x + 1) z := fun z h1 h2 => by
          rw [mi_sI_s, va_up_ne _ _ h2, mi_sI_s, va_up_ne _ _ h1]
          rfl
        refine r_ireturn (dk kX8_vetoPetition 44 rfl) rfl rfl ⟨Nat.le_of_ble_eq_true rfl, Nat.le_of_ble_eq_true rfl⟩ (QA.ok (nI_pos' (by omega)) ((((FR.rfl M (x + 1) (x + 30)).sQ _ (by omega)).sI _ _ (by omega)).sI _ _ (by omega)) (oZ.tr rfl rfl rfl) ?_)
        refine SV_drop v o.s i hj d (mr_sQ_s _ _ _) (fun z hz => by rw [mi_sI_n _ _ _ hz, mi_sI_n _ _ _ hz]; rfl) ⟨?_, ?_, ?_, ?_, ?_, ?_, ?_, ?_, ?_⟩ (fun z h1 h2 => lo z (by omega) (by omega) (by omega)) (lo 0 (by decide) (by decide) (by omega)) (lo 1 (by decide) (by decide) (by omega)) (lo 5 (by decide) (by decide) (by omega)) (fun z hz => lo z (by omega) (by omega) (by omega))
        · rw [ms 5 (by decide) (by decide), lo 0 (by decide) (by decide) (by omega)]; exact v.1.1
        · rw [ms 6 (by decide) (by decide), lo 1 (by decide) (by decide) (by omega)]; exact v.1.2.1
        · rw [mi_sI_s, va_up_ne _ _ (by decide), mi_sI_s, va_up_self, d.1]
        · rw [ms 8 (by decide) (by decide), lo 5 (by decide) (by decide) (by omega)]; exact v.1.2.2.2.1
        · rw [ms 9 (by decide) (by decide), lo 2 (by decide) (by decide) (by omega)]; exact v.1.2.2.2.2.1
        · rw [ms 10 (by decide) (by decide), lo 4 (by decide) (by decide) (by omega)]; exact v.1.2.2.2.2.2.1
        · rw [mi_sI_s, va_up_self, va_up_self]
        · rw [ms 12 (by decide) (by decide), lo 7 (by decide) (by decide) (by omega)]; exact v.c7
        · rw [ms 13 (by decide) (by decide), lo 8 (by decide) (by decide) (by omega)]; exact v.c8
theorem k_X8_withdrawPetition (o : BO M x) (v : SV M (x + 1) g q) (i : GI F g) (y : Int32) : KK G IX8_withdrawPetition [.ref x, .int y] M (qi (QA M x (sp_withdraw g y) tc4) nox) := by
  refine KK.ofW (by decide) (by simp [Value.category]) (Nat.le_of_ble_eq_true rfl) rfl ?_
  show WW _ _ _ 0 [_, _, lj] [] _ _ _
  have p9 := i.p.2
  cases eb : gPlace g y with
  | none =>
    have e0 : sp_withdraw g y = cThr 1 := by unfold sp_withdraw; rw [eb]
    rw [e0]
    refine r_aload_n (dk kX8_withdrawPetition 0 rfl) rfl ?_
    refine r_getR (dk kX8_withdrawPetition 1 rfl) fa_X8_12_7 o.k rfl o.r0 ?_
    refine r_iload_n (dk kX8_withdrawPetition 2 rfl) rfl ?_
    refine r_callVz (I' := IX6_findPetition) (as := [_]) (dk kX8_withdrawPetition 3 rfl) mv_X6_findPetition ml_X8_361 rfl rfl o.s.k rfl rfl (Nat.le_of_ble_eq_true rfl) ⟨by decide, by decide⟩ ⟨rfl, rfl⟩ ⟨Nat.le_of_ble_eq_true rfl, Nat.le_of_ble_eq_true rfl⟩ (k_X6_findPetitionZ o.s v i eb) ?_
    refine r_astore_nN (j := 2) (dk kX8_withdrawPetition 4 rfl) rfl (by decide) rfl ?_
    simp only [List.set_cons_succ, List.set_cons_zero]
    refine r_aload_nN (dk kX8_withdrawPetition 5 rfl) rfl ?_
    refine r_ifnonnullN (dk kX8_withdrawPetition 6 rfl) ?_
    refine r_bipush (v := (-3)) (dk kX8_withdrawPetition 7 rfl) (by decide) ?_
    refine r_ireturn (dk kX8_withdrawPetition 8 rfl) rfl rfl ⟨Nat.le_of_ble_eq_true rfl, Nat.le_of_ble_eq_true rfl⟩ (QA.thr (by decide) rfl)
  | some p =>
    obtain ⟨j, hj, hqj⟩ := v.o.at (fx_lt eb)
    subst hqj
    have hq := v.o.1 j hj
    have e0 : sp_withdraw g y = cOk (nI (gn g 3 - 1)) (va_up (gDrop g (q j)) 7 (g 7 + 1)) := by unfold sp_withdraw; rw [eb]
    rw [e0]
    have d := GDr_up (w := g 7 + 1) i hq (Or.inr rfl)
    refine r_aload_n (dk kX8_withdrawPetition 0 rfl) rfl ?_
    refine r_getR (dk kX8_withdrawPetition 1 rfl) fa_X8_12_7 o.k rfl (by first | exact o.r0 | exact (congrFun (mr_sQ_n M (b := x) _ (by omega)) 0).trans o.r0) ?_
    refine r_iload_n (dk kX8_withdrawPetition 2 rfl) rfl ?_
    refine r_callVr (I' := IX6_findPetition) (as := [_]) (dk kX8_withdrawPetition 3 rfl) mv_X6_findPetition ml_X8_361 rfl rfl o.s.k rfl rfl (Nat.le_of_ble_eq_true rfl) ⟨by decide, by decide⟩ ⟨rfl, rfl⟩ ⟨Nat.le_of_ble_eq_true rfl, Nat.le_of_ble_eq_true rfl⟩ (k_X6_findPetition o.s v i hj eb) ?_
    refine r_astore_n (j := 2) (dk kX8_withdrawPetition 4 rfl) rfl (by decide) rfl ?_
    simp only [List.set_cons_succ, List.set_cons_zero]
    refine r_aload_n (dk kX8_withdrawPetition 5 rfl) rfl ?_
    refine r_ifnonnull (tgt := 16) (dk kX8_withdrawPetition 6 rfl) (by decide) ?_
    refine r_aload_n (dk kX8_withdrawPetition 9 rfl) rfl ?_
    refine r_getR (dk kX8_withdrawPetition 10 rfl) fa_X8_12_7 o.k rfl (by first | exact o.r0 | exact (congrFun (mr_sQ_n M (b := x) _ (by omega)) 0).trans o.r0) ?_
    refine r_aload_n (dk kX8_withdrawPetition 11 rfl) rfl ?_
    refine r_callVu (I' := IX6_dequeue) (as := [_]) (dk kX8_withdrawPetition 12 rfl) mv_X6_dequeue ml_X8_384 rfl rfl o.s.k rfl rfl (Nat.le_of_ble_eq_true rfl) ⟨by decide, by decide⟩ ⟨rfl, rfl⟩ ⟨Nat.le_of_ble_eq_true rfl, Nat.le_of_ble_eq_true rfl⟩ (k_X6_dequeue o.s (v.c3 i) p9 hj) ?_
    refine r_aload_n (dk kX8_withdrawPetition 13 rfl) rfl ?_
    refine r_getR (dk kX8_withdrawPetition 14 rfl) fa_X8_12_7 o.k rfl (by first | exact o.r0 | exact (congrFun (mr_sQ_n M (b := x) _ (by omega)) 0).trans o.r0) ?_
    refine r_dup (dk kX8_withdrawPetition 15 rfl) rfl ?_
    refine r_geti (dk kX8_withdrawPetition 16 rfl) fa_X8_227_5 o.s.k rfl ?_
    -- at 32
    rw [mi_sI_s, va_up_ne _ _ (by decide), show mi (sQ M (x + 1 + 4) (fun z => mr M (x + 1 + 4) (wD j (gn g 3) z))) (x + 1) = mi M (x + 1) from rfl, v.c7]
    refine r_iconst (v := 1) (dk kX8_withdrawPetition 17 rfl) (by decide) ?_
    refine r_iadd (dk kX8_withdrawPetition 18 rfl) ?_
    refine r_puti (dk kX8_withdrawPetition 19 rfl) fa_X8_227_5 o.s.k rfl rfl rfl rfl ?_
    refine r_aload_n (dk kX8_withdrawPetition 20 rfl) rfl ?_
    refine r_getR (dk kX8_withdrawPetition 21 rfl) fa_X8_12_7 o.k rfl (by first | exact o.r0 | exact (congrFun (mr_sQ_n M (b := x) _ (by omega)) 0).trans o.r0) ?_
    refine r_geti (dk kX8_withdrawPetition 22 rfl) fa_X8_110_5 o.s.k rfl ?_
    -- at 44
    rw [mi_sI_s, va_up_ne _ _ (by decide), mi_sI_s, va_up_self]
    obtain ⟨oZ, -⟩ := o.s.pm (M' := sQ M (x + 1 + 4) (fun z => mr M (x + 1 + 4) (wD j (gn g 3) z))) rfl rfl (mr_sQ_n _ _ (by omega)) (mr_sQ_n _ _ (by omega)) (w := wD j (gn g 3)) (fun j _ => by rw [mr_sQ_s]) (fun j2 hj2 => wD_lt hj (by omega) hj2) (fun x y hxy _ => wD_inj hj x y hxy)
    have lo : ∀ z, z ≠ 7 → z ≠ 3 → (z < 35 ∨ 123 ≤ z) → va_up (gDrop g (q j)) 7 (g 7 + 1) z = g z := fun z h1 h2 h3 => by rw [va_up_ne _ _ h1, gDrop_out hq h2 (by omega)]
    have ms : ∀ z, z ≠ 7 → z ≠ 12 → mi (sI (sI (sQ M (x + 1 + 4) (fun z => mr M (x + 1 + 4) (wD j (gn g 3) z))) (x + 1) 7 (nI (gn g 3 - 1))) (x + 1) 12 (g 7 + 1)) (x + 1) z = mi M (x + 1) z := fun z h1 h2 => by
      rw [mi_sI_s, va_up_ne _ _ h2, mi_sI_s, va_up_ne _ _ h1]
      rfl
    refine r_ireturn (dk kX8_withdrawPetition 23 rfl) rfl rfl ⟨Nat.le_of_ble_eq_true rfl, Nat.le_of_ble_eq_true rfl⟩ (QA.ok (nI_pos' (by omega)) ((((FR.rfl M (x + 1) (x + 30)).sQ _ (by omega)).sI _ _ (by omega)).sI _ _ (by omega)) (oZ.tr rfl rfl rfl) ?_)
    refine SV_drop v o.s i hj d (mr_sQ_s _ _ _) (fun z hz => by rw [mi_sI_n _ _ _ hz, mi_sI_n _ _ _ hz]; rfl) ⟨?_, ?_, ?_, ?_, ?_, ?_, ?_, ?_, ?_⟩ (fun z h1 h2 => lo z (by omega) (by omega) (by omega)) (lo 0 (by decide) (by decide) (by omega)) (lo 1 (by decide) (by decide) (by omega)) (lo 5 (by decide) (by decide) (by omega)) (fun z hz => lo z (by omega) (by omega) (by omega))
    · rw [ms 5 (by decide) (by decide), lo 0 (by decide) (by decide) (by omega)]; exact v.1.1
    · rw [ms 6 (by decide) (by decide), lo 1 (by decide) (by decide) (by omega)]; exact v.1.2.1
    · rw [mi_sI_s, va_up_ne _ _ (by decide), mi_sI_s, va_up_self, d.1]
    · rw [ms 8 (by decide) (by decide), lo 5 (by decide) (by decide) (by omega)]; exact v.1.2.2.2.1
    · rw [ms 9 (by decide) (by decide), lo 2 (by decide) (by decide) (by omega)]; exact v.1.2.2.2.2.1
    · rw [ms 10 (by decide) (by decide), lo 4 (by decide) (by decide) (by omega)]; exact v.1.2.2.2.2.2.1
    · rw [ms 11 (by decide) (by decide), lo 6 (by decide) (by decide) (by omega)]; exact v.c6
    · rw [mi_sI_s, va_up_self, va_up_self]
    · rw [ms 13 (by decide) (by decide), lo 8 (by decide) (by decide) (by omega)]; exact v.c8
theorem k_X8_decideFirst (o : BO M x) (v : SV M (x + 1) g q) (i : GI F g) : KK G IX8_decideFirst [.ref x] M (qi (QA M x (sp_decide g) tc4) nox) := by
  refine KK.ofW (by decide) (by simp [Value.category]) (Nat.le_of_ble_eq_true rfl) rfl ?_
  show WW _ _ _ 0 [_, lj] [] _ _ _
  have p9 := i.p.2
  have q6 := i.q.2
  have r17 := i.r.2
  refine r_aload_n (dk kX8_decideFirst 0 rfl) rfl ?_
  refine r_getR (dk kX8_decideFirst 1 rfl) fa_X8_12_7 o.k rfl o.r0 ?_
  refine r_geti (dk kX8_decideFirst 2 rfl) fa_X8_110_5 o.s.k rfl ?_
  -- at 7
  rw [v.c3 i]
  by_cases h0 : gn g 3 = 0
  · have eq : gQueued g 0 = none := fx_none.mpr fun k hk => by omega
    have e0 : sp_decide g = cDen 1 9 (g 5) := by unfold sp_decide; rw [eq]
    rw [e0]
    have v5 : mi M (x + 1) 8 = g 5 := v.1.2.2.2.1
    refine r_if_ne (tgt := 24) (dk kX8_decideFirst 3 rfl) (by decide) (fun c7 => absurd c7 (by rw [h0]; decide)) (fun c7 => ?_)
    refine r_aload_n (dk kX8_decideFirst 4 rfl) rfl ?_
    refine r_bipush (v := 9) (dk kX8_decideFirst 5 rfl) (by decide) ?_
    refine r_aload_n (dk kX8_decideFirst 6 rfl) rfl ?_
    refine r_getR (dk kX8_decideFirst 7 rfl) fa_X8_12_7 o.k rfl o.r0 ?_
    refine r_geti (dk kX8_decideFirst 8 rfl) fa_X8_177_5 o.s.k rfl ?_
    -- at 20
    rw [v5]
    refine r_callVp (I' := IX8_deny) (as := [_, _]) (dk kX8_decideFirst 9 rfl) mv_X8_deny ml_X8_346 rfl rfl o.k rfl rfl (Nat.le_of_ble_eq_true rfl) ⟨by decide, by decide⟩ ⟨rfl, rfl⟩ ⟨Nat.le_of_ble_eq_true rfl, Nat.le_of_ble_eq_true rfl⟩ (k_X8_deny o _ _) ?_
    refine r_ireturn (dk kX8_decideFirst 10 rfl) rfl rfl ⟨Nat.le_of_ble_eq_true rfl, Nat.le_of_ble_eq_true rfl⟩ (QA.den _ (by decide) (by decide))
  · have hp : 0 < gn g 3 := by omega
    have eq : gQueued g 0 = some (q 0) := v.o.queued (by omega) hp
    have e0 : sp_decide g = if gVotes g (q 0) < gn g 2 then cDen 1 10 (nI (gVotes g (q 0))) else if gn g 5 = 16 then cDen 1 1 16 else cOk (nI (gn g 5)) (gDecide g (q 0)) := by unfold sp_decide; rw [eq]
    have ka := o.s.ka (j := 0) (by decide)
    have hq := v.o.1 0 hp
    obtain ⟨-, -, -, -, -, y1, y2, -⟩ := i.pi hq
    obtain ⟨p0, p1, p2, p3, p4, p5, p6, p7, p8, pc⟩ := v.p hp
    have hcv := k_X4_countVotes (G := G) (M := M) ka y1.2 y2.2 (p6.trans y1.1) (p7.trans y2.1)
    have ecv : nI (bN (gn g (35 + 11 * q 0 + 5)) + bN (gn g (35 + 11 * q 0 + 6))) = nI (gVotes g (q 0)) := rfl
    rw [ecv] at hcv
    have g12 := gVotes_le g (q 0)
    refine r_if_ne (tgt := 24) (dk kX8_decideFirst 3 rfl) (by decide) (fun c7 => ?_) (fun c7 => absurd (nI_ne0 hp (by omega)) c7)
    refine r_aload_n (dk kX8_decideFirst 11 rfl) rfl ?_
    refine r_getR (dk kX8_decideFirst 12 rfl) fa_X8_12_7 o.k rfl o.r0 ?_
    refine r_getR (dk kX8_decideFirst 13 rfl) fa_X8_113_5 o.s.k rfl o.s.r3 ?_
    refine r_iconst (v := 0) (dk kX8_decideFirst 14 rfl) (by decide) ?_
    refine r_aal (dk kX8_decideFirst 15 rfl) o.s.k4 (by decide) o.s.l4 (j := 0) rfl (by decide) (by decide) (o.s.rp (by decide)) ?_
    refine r_astore_n (j := 1) (dk kX8_decideFirst 16 rfl) rfl (by decide) rfl ?_
    simp only [List.set_cons_succ, List.set_cons_zero]
    refine r_aload_n (dk kX8_decideFirst 17 rfl) rfl ?_
    refine r_callVp (I' := IX4_countVotes) (as := []) (dk kX8_decideFirst 18 rfl) mv_X4_countVotes ml_X8_238 rfl rfl ka rfl rfl (Nat.le_of_ble_eq_true rfl) ⟨by decide, by decide⟩ ⟨rfl, rfl⟩ ⟨Nat.le_of_ble_eq_true rfl, Nat.le_of_ble_eq_true rfl⟩ hcv ?_
    refine r_aload_n (dk kX8_decideFirst 19 rfl) rfl ?_
    refine r_getR (dk kX8_decideFirst 20 rfl) fa_X8_12_7 o.k rfl o.r0 ?_
    refine r_geti (dk kX8_decideFirst 21 rfl) fa_X8_174_5 o.s.k rfl ?_
    -- at 45
    rw [v.c2 i]
    by_cases h1 : gVotes g (q 0) < gn g 2
    · rw [if_pos h1] at e0
      rw [e0]
      refine r_icmp_ge (tgt := 59) (dk kX8_decideFirst 22 rfl) (by decide) (fun c45 => absurd c45 (nI_ge h1 (by omega))) (fun c45 => ?_)
      refine r_aload_n (dk kX8_decideFirst 23 rfl) rfl ?_
      refine r_bipush (v := 10) (dk kX8_decideFirst 24 rfl) (by decide) ?_
      refine r_aload_n (dk kX8_decideFirst 25 rfl) rfl ?_
      refine r_callVp (I' := IX4_countVotes) (as := []) (dk kX8_decideFirst 26 rfl) mv_X4_countVotes ml_X8_238 rfl rfl ka rfl rfl (Nat.le_of_ble_eq_true rfl) ⟨by decide, by decide⟩ ⟨rfl, rfl⟩ ⟨Nat.le_of_ble_eq_true rfl, Nat.le_of_ble_eq_true rfl⟩ hcv ?_
      refine r_callVp (I' := IX8_deny) (as := [_, _]) (dk kX8_decideFirst 27 rfl) mv_X8_deny ml_X8_346 rfl rfl o.k rfl rfl (Nat.le_of_ble_eq_true rfl) ⟨by decide, by decide⟩ ⟨rfl, rfl⟩ ⟨Nat.le_of_ble_eq_true rfl, Nat.le_of_ble_eq_true rfl⟩ (k_X8_deny o _ _) ?_
      refine r_ireturn (dk kX8_decideFirst 28 rfl) rfl rfl ⟨Nat.le_of_ble_eq_true rfl, Nat.le_of_ble_eq_true rfl⟩ (QA.den _ (by decide) (by decide))
    · rw [if_neg h1] at e0
      refine r_icmp_ge (tgt := 59) (dk kX8_decideFirst 22 rfl) (by decide) (fun c45 => ?_) (fun c45 => absurd (nI_le (by omega) (by omega)) c45)
      refine r_aload_n (dk kX8_decideFirst 29 rfl) rfl ?_
      refine r_getR (dk kX8_decideFirst 30 rfl) fa_X8_12_7 o.k rfl o.r0 ?_
      refine r_geti (dk kX8_decideFirst 31 rfl) fa_X8_177_5 o.s.k rfl ?_
      -- at 66
      rw [v.c5 i]
      by_cases h2 : gn g 5 = 16
      · rw [if_pos h2] at e0
        rw [e0]
        refine r_bipush (v := 16) (dk kX8_decideFirst 32 rfl) (by decide) ?_
        refine r_icmp_lt (tgt := 79) (dk kX8_decideFirst 33 rfl) (by decide) (fun c68 => absurd c68 (by rw [h2]; decide)) (fun c68 => ?_)
        refine r_aload_n (dk kX8_decideFirst 34 rfl) rfl ?_
        refine r_iconst (v := 1) (dk kX8_decideFirst 35 rfl) (by decide) ?_
        refine r_bipush (v := 16) (dk kX8_decideFirst 36 rfl) (by decide) ?_
        refine r_callVp (I' := IX8_deny) (as := [_, _]) (dk kX8_decideFirst 37 rfl) mv_X8_deny ml_X8_346 rfl rfl o.k rfl rfl (Nat.le_of_ble_eq_true rfl) ⟨by decide, by decide⟩ ⟨rfl, rfl⟩ ⟨Nat.le_of_ble_eq_true rfl, Nat.le_of_ble_eq_true rfl⟩ (k_X8_deny o _ _) ?_
        refine r_ireturn (dk kX8_decideFirst 38 rfl) rfl rfl ⟨Nat.le_of_ble_eq_true rfl, Nat.le_of_ble_eq_true rfl⟩ (QA.den _ (by decide) (by decide))
      · rw [if_neg h2] at e0
        rw [e0]
        refine r_bipush (v := 16) (dk kX8_decideFirst 32 rfl) (by decide) ?_
        refine r_icmp_lt (tgt := 79) (dk kX8_decideFirst 33 rfl) (by decide) (fun c68 => ?_) (fun c68 => absurd (nI_lt (a := gn g 5) (b := 16) (by omega) (by decide)) c68)
        refine r_aload_n (dk kX8_decideFirst 39 rfl) rfl ?_
        refine r_getR (dk kX8_decideFirst 40 rfl) fa_X8_12_7 o.k rfl o.r0 ?_
        refine r_aload_n (dk kX8_decideFirst 41 rfl) rfl ?_
        refine r_callV (I' := IX6_rule) (as := [_]) (dk kX8_decideFirst 42 rfl) mv_X6_rule ml_X8_388 rfl rfl o.s.k rfl rfl (Nat.le_of_ble_eq_true rfl) ⟨by decide, by decide⟩ ⟨Nat.le_of_ble_eq_true rfl, Nat.le_of_ble_eq_true rfl⟩ (k_X6_rule o.s v i hp h2) ?_ ?_
        · exact fun E M' z => z.elim
        rintro r M' ⟨y, rfl, rfl, r1, r2, r3⟩
        show WW G IX8_decideFirst _ 87 [.ref x, .ref (pA M (x + 1) 0)] [.int (nI (gn g 5))] M' 0 0
        refine r_ireturn (dk kX8_decideFirst 43 rfl) rfl rfl ⟨Nat.le_of_ble_eq_true rfl, Nat.le_of_ble_eq_true rfl⟩ (QA.ok (nI_pos' (by omega)) r1 r2 r3)
end CLASS
