/-! THE REFERENCE: commands on petitions -/
section MODEL
variable {G : GG} {M : Mm} {h : Nat}
theorem k_X9_file (o : MO M h) {F : Nat} (gi : GI F (mi M (h + 1))) (hk : nb (mi M h) 5 9) (a s c u : Int32) : KE G IX9_file [.ref h, .int a, .int s, .int c, .int u] M (sp_file (mi M (h + 1)) a s c u).2.2.1 (mOut (mFail M h 0) h (sp_file (mi M (h + 1)) a s c u)) := by
  refine KK.ofW (by decide) (by simp [Value.category]) (Nat.le_of_ble_eq_true rfl) rfl ?_
  show WW _ _ _ 0 [_, _, _, _, _, lj, lj] [] _ _ _
  obtain ⟨hO, hO2⟩ := gi.o
  obtain ⟨hS, hS2⟩ := gi.s
  obtain ⟨hP, hP2⟩ := gi.p
  have gf : ∀ p, GI F (mi (mFail M h p) (h + 1)) := fun p => by rw [mf1]; exact gi
  have e1 := mf1 M h 0
  have hab : ∀ x k, gAbout (mi M (h + 1)) x = some k → k < 9 := fun x k hk => Nat.lt_trans (fx_lt hk) gi.p.2
  rcases ixo_c (n := gn (mi M (h + 1)) 1) (by omega) a with ⟨ea, hb⟩ | ⟨i, hi, rfl, ea, hb⟩
  · rw [show sp_file (mi M (h + 1)) a s c u = cThr 1 by unfold sp_file; rw [ea]]
    refine r_aload_n (dk kX9_file_p0 0 rfl) rfl ?_
    refine r_aload_n (dk kX9_file_p0 1 rfl) rfl ?_
    refine r_iload_n (dk kX9_file_p0 2 rfl) rfl ?_
    refine r_callVp (I' := IX9_isOfficer) (as := [_]) (dk kX9_file_p0 3 rfl) mv_X9_isOfficer ml_X9_100 rfl rfl o.k rfl rfl (Nat.le_of_ble_eq_true rfl) ⟨by decide, by decide⟩ ⟨rfl, rfl⟩ ⟨Nat.le_of_ble_eq_true rfl, Nat.le_of_ble_eq_true rfl⟩ (k_X9_isOfficer o a) ?_
    refine r_if_eq (tgt := 24) (dk kX9_file_p0 4 rfl) (by decide) (fun c6 => ?_) (fun c6 => absurd (by rw [hO, bI_f hb]) c6)
    refine r_iconst (v := 1) (dk kX9_file_p0 12 rfl) (by decide) ?_
    refine r_goto (tgt := 44) (dk kX9_file_p0 13 rfl) (by decide) ?_
    refine r_callVp (I' := IX9_fails) (as := [_]) (dk kX9_file_p0 22 rfl) mv_X9_fails ml_X9_80 rfl rfl o.k rfl rfl (Nat.le_of_ble_eq_true rfl) ⟨by decide, by decide⟩ ⟨rfl, rfl⟩ ⟨Nat.le_of_ble_eq_true rfl, Nat.le_of_ble_eq_true rfl⟩ (k_X9_fails o _) ?_
    refine r_if_eq (tgt := 52) (dk kX9_file_p0 23 rfl) (by decide) (fun c47 => absurd c47 (by decide)) (fun c47 => ?_)
    refine r_iconst (v := 0) (dk kX9_file_p0 24 rfl) (by decide) ?_
    refine r_ireturn (dk kX9_file_p0 25 rfl) rfl rfl ⟨Nat.le_of_ble_eq_true rfl, Nat.le_of_ble_eq_true rfl⟩ ⟨rfl, (mOut_thr (by decide)).symm⟩
  · refine r_aload_n (dk kX9_file_p0 0 rfl) rfl ?_
    refine r_aload_n (dk kX9_file_p0 1 rfl) rfl ?_
    refine r_iload_n (dk kX9_file_p0 2 rfl) rfl ?_
    refine r_callVp (I' := IX9_isOfficer) (as := [_]) (dk kX9_file_p0 3 rfl) mv_X9_isOfficer ml_X9_100 rfl rfl o.k rfl rfl (Nat.le_of_ble_eq_true rfl) ⟨by decide, by decide⟩ ⟨rfl, rfl⟩ ⟨Nat.le_of_ble_eq_true rfl, Nat.le_of_ble_eq_true rfl⟩ (k_X9_isOfficer o _) ?_
    refine r_if_eq (tgt := 24) (dk kX9_file_p0 4 rfl) (by decide) (fun c6 => absurd c6 (by rw [hO, bI_t hb]; decide)) (fun c6 => ?_)
    -- at 9
    rcases ixo_c (n := gn (mi M (h + 1)) 0) (by omega) s with ⟨es, hb2⟩ | ⟨k, hk2, rfl, es, hb2⟩
    · rw [show sp_file (mi M (h + 1)) (nI i) s c u = cThr 1 by unfold sp_file; rw [ea]; simp only; rw [es]]
      refine r_aload_n (dk kX9_file_p0 5 rfl) rfl ?_
      refine r_iload_n (dk kX9_file_p0 6 rfl) rfl ?_
      refine r_callVp (I' := IX9_isStone) (as := [_]) (dk kX9_file_p0 7 rfl) mv_X9_isStone ml_X9_94 rfl rfl o.k rfl rfl (Nat.le_of_ble_eq_true rfl) ⟨by decide, by decide⟩ ⟨rfl, rfl⟩ ⟨Nat.le_of_ble_eq_true rfl, Nat.le_of_ble_eq_true rfl⟩ (k_X9_isStone o s) ?_
      refine r_if_eq (tgt := 24) (dk kX9_file_p0 8 rfl) (by decide) (fun c14 => ?_) (fun c14 => absurd (by rw [hS, bI_f hb2]) c14)
      refine r_iconst (v := 1) (dk kX9_file_p0 12 rfl) (by decide) ?_
      refine r_goto (tgt := 44) (dk kX9_file_p0 13 rfl) (by decide) ?_
      refine r_callVp (I' := IX9_fails) (as := [_]) (dk kX9_file_p0 22 rfl) mv_X9_fails ml_X9_80 rfl rfl o.k rfl rfl (Nat.le_of_ble_eq_true rfl) ⟨by decide, by decide⟩ ⟨rfl, rfl⟩ ⟨Nat.le_of_ble_eq_true rfl, Nat.le_of_ble_eq_true rfl⟩ (k_X9_fails o _) ?_
      refine r_if_eq (tgt := 52) (dk kX9_file_p0 23 rfl) (by decide) (fun c47 => absurd c47 (by decide)) (fun c47 => ?_)
      refine r_iconst (v := 0) (dk kX9_file_p0 24 rfl) (by decide) ?_
      refine r_ireturn (dk kX9_file_p0 25 rfl) rfl rfl ⟨Nat.le_of_ble_eq_true rfl, Nat.le_of_ble_eq_true rfl⟩ ⟨rfl, (mOut_thr (by decide)).symm⟩
    · refine r_aload_n (dk kX9_file_p0 5 rfl) rfl ?_
      refine r_iload_n (dk kX9_file_p0 6 rfl) rfl ?_
      refine r_callVp (I' := IX9_isStone) (as := [_]) (dk kX9_file_p0 7 rfl) mv_X9_isStone ml_X9_94 rfl rfl o.k rfl rfl (Nat.le_of_ble_eq_true rfl) ⟨by decide, by decide⟩ ⟨rfl, rfl⟩ ⟨Nat.le_of_ble_eq_true rfl, Nat.le_of_ble_eq_true rfl⟩ (k_X9_isStone o _) ?_
      refine r_if_eq (tgt := 24) (dk kX9_file_p0 8 rfl) (by decide) (fun c14 => absurd c14 (by rw [hS, bI_t hb2]; decide)) (fun c14 => ?_)
      -- at 17
      by_cases hc : 0 ≤ c ∧ c ≤ 24
      · refine r_iload_n (dk kX9_file_p0 9 rfl) rfl ?_
        refine r_callSp (I' := IX9_isCell) (as := [_]) (dk kX9_file_p0 10 rfl) ms_X9_isCell ml_X9_76 rfl rfl rfl (Nat.le_of_ble_eq_true rfl) ⟨by decide, by decide⟩ ⟨rfl, rfl⟩ ⟨Nat.le_of_ble_eq_true rfl, Nat.le_of_ble_eq_true rfl⟩ (k_X9_isCell c) ?_
        refine r_if_ne (tgt := 28) (dk kX9_file_p0 11 rfl) (by decide) (fun c21 => ?_) (fun c21 => absurd (by rw [bI_t hc]; decide) c21)
        -- at 28
        by_cases hu : 0 ≤ u ∧ u ≤ 9
        · have esp : sp_file (mi M (h + 1)) (nI i) (nI k) c u = (match gAbout (mi M (h + 1)) (nI k) with
            | some p => cDen 3 3 (mi M (h + 1) (35 + 11 * p))
            | none => if mi M (h + 1) (9 + 2 * k) = c then cDen 3 4 c else if gn (mi M (h + 1)) 3 = 8 then cDen 3 1 8 else cOk (mi M (h + 1) 4) (gFile (mi M (h + 1)) i k c u)) := by
            unfold sp_file
            rw [ea]; simp only; rw [es]; simp only; rw [if_pos hc, if_pos hu]
            cases gAbout (mi M (h + 1)) (nI k) with
            | none => rfl
            | some p => rfl
          refine r_iload (dk kX9_file_p0 14 rfl) rfl ?_
          refine r_iconst (v := 0) (dk kX9_file_p0 15 rfl) (by decide) ?_
          refine r_bipush (v := 9) (dk kX9_file_p0 16 rfl) (by decide) ?_
          refine r_callSp (I' := IX9_in) (as := [_, _, _]) (dk kX9_file_p0 17 rfl) ms_X9_in ml_X9_68 rfl rfl rfl (Nat.le_of_ble_eq_true rfl) ⟨by decide, by decide⟩ ⟨rfl, rfl⟩ ⟨Nat.le_of_ble_eq_true rfl, Nat.le_of_ble_eq_true rfl⟩ (k_X9_in _ _ _) ?_
          refine r_if_eq (tgt := 43) (dk kX9_file_p0 18 rfl) (by decide) (fun c36 => absurd c36 (by rw [bI_t hu]; decide)) (fun c36 => ?_)
          refine r_iconst (v := 0) (dk kX9_file_p0 19 rfl) (by decide) ?_
          refine r_goto (tgt := 44) (dk kX9_file_p0 20 rfl) (by decide) ?_
          refine r_callVp (I' := IX9_fails) (as := [_]) (dk kX9_file_p0 22 rfl) mv_X9_fails ml_X9_80 rfl rfl o.k rfl rfl (Nat.le_of_ble_eq_true rfl) ⟨by decide, by decide⟩ ⟨rfl, rfl⟩ ⟨Nat.le_of_ble_eq_true rfl, Nat.le_of_ble_eq_true rfl⟩ (k_X9_fails o _) ?_
          refine r_if_eq (tgt := 52) (dk kX9_file_p0 23 rfl) (by decide) (fun c47 => ?_) (fun c47 => absurd (by decide) c47)
          refine r_aload_n (dk kX9_file_p0 26 rfl) rfl ?_
          refine r_iload_n (dk kX9_file_p0 27 rfl) rfl ?_
          refine r_callVp (I' := IX9_about) (as := [_]) (dk kX9_file_p0 28 rfl) mv_X9_about ml_X9_113 rfl rfl o.k rfl rfl (Nat.le_of_ble_eq_true rfl) ⟨by decide, by decide⟩ ⟨rfl, rfl⟩ ⟨Nat.le_of_ble_eq_true rfl, Nat.le_of_ble_eq_true rfl⟩ (k_X9_about (o.fl _) (gf _) _) ?_
          -- at 57
          rw [e1]
          cases eb : gAbout (mi M (h + 1)) (nI k) with
          | some p =>
            have hp := hab _ _ eb
            have hp8 := fx_lt eb
            rw [eb] at esp
            rw [show sp_file (mi M (h + 1)) (nI i) (nI k) c u = cDen 3 3 (mi M (h + 1) (35 + 11 * p)) from esp]
            refine r_if_lt (tgt := 77) (dk kX9_file_p0 29 rfl) (by decide) (fun c57 => absurd c57 (nI_pos (by omega))) (fun c57 => ?_)
            refine r_aload_n (dk kX9_file_p0 30 rfl) rfl ?_
            refine r_iconst (v := 3) (dk kX9_file_p0 31 rfl) (by decide) ?_
            refine r_iconst (v := 3) (dk kX9_file_p0 32 rfl) (by decide) ?_
            refine r_aload_n (dk kX9_file_p0 33 rfl) rfl ?_
            refine r_aload_n (dk kX9_file_p0 34 rfl) rfl ?_
            refine r_iload_n (dk kX9_file_p0 35 rfl) rfl ?_
            refine r_callVp (I' := IX9_about) (as := [_]) (dk kX9_file_p0 36 rfl) mv_X9_about ml_X9_113 rfl rfl o.k rfl rfl (Nat.le_of_ble_eq_true rfl) ⟨by decide, by decide⟩ ⟨rfl, rfl⟩ ⟨Nat.le_of_ble_eq_true rfl, Nat.le_of_ble_eq_true rfl⟩ (k_X9_about (o.fl _) (gf _) _) ?_
            -- at 69
            rw [e1, eb]
            refine r_iconst (v := 0) (dk kX9_file_p0 37 rfl) (by decide) ?_
            refine r_callVp (I' := IX9_of) (as := [_, _]) (dk kX9_file_p0 38 rfl) mv_X9_of ml_X9_106 rfl rfl o.k rfl rfl (Nat.le_of_ble_eq_true rfl) ⟨by decide, by decide⟩ ⟨rfl, rfl⟩ ⟨Nat.le_of_ble_eq_true rfl, Nat.le_of_ble_eq_true rfl⟩ (k_X9_of0 (o.fl _) (p := p) (by omega)) ?_
            -- at 73
            rw [e1]
            refine r_callVp (I' := IX9_denies) (as := [_, _, _]) (dk kX9_file_p0 39 rfl) mv_X9_denies ml_X9_86 rfl rfl o.k rfl rfl (Nat.le_of_ble_eq_true rfl) ⟨by decide, by decide⟩ ⟨rfl, rfl⟩ ⟨Nat.le_of_ble_eq_true rfl, Nat.le_of_ble_eq_true rfl⟩ (k_X9_denies (o.fl _) _ _ _) ?_
            refine r_ireturn (dk kX9_file_p0 40 rfl) rfl rfl ⟨Nat.le_of_ble_eq_true rfl, Nat.le_of_ble_eq_true rfl⟩ ⟨rfl, (mOut_den (by decide) (by decide)).symm⟩
          | none =>
            rw [eb] at esp
            simp only at esp
            refine r_if_lt (tgt := 77) (dk kX9_file_p0 29 rfl) (by decide) (fun c57 => ?_) (fun c57 => absurd (by decide) c57)
            refine r_aload_n (dk kX9_file_p0 41 rfl) rfl ?_
            refine r_iload_n (dk kX9_file_p0 42 rfl) rfl ?_
            refine r_callVp (I' := IX9_cell) (as := [_]) (dk kX9_file_p0 43 rfl) mv_X9_cell ml_X9_72 rfl rfl o.k rfl rfl (Nat.le_of_ble_eq_true rfl) ⟨by decide, by decide⟩ ⟨rfl, rfl⟩ ⟨Nat.le_of_ble_eq_true rfl, Nat.le_of_ble_eq_true rfl⟩ (k_X9_cell (o.fl _) (s := k) (by omega)) ?_
            -- at 82
            rw [e1]
            by_cases h4 : mi M (h + 1) (9 + 2 * k) = c
            · rw [if_pos h4] at esp
              rw [esp]
              refine r_iload_n (dk kX9_file_p0 44 rfl) rfl ?_
              refine r_icmp_ne (tgt := 94) (dk kX9_file_p0 45 rfl) (by decide) (fun c83 => absurd c83 (fun z => z h4)) (fun c83 => ?_)
              refine r_aload_n (dk kX9_file_p0 46 rfl) rfl ?_
              refine r_iconst (v := 3) (dk kX9_file_p0 47 rfl) (by decide) ?_
              refine r_iconst (v := 4) (dk kX9_file_p0 48 rfl) (by decide) ?_
              refine r_iload_n (dk kX9_file_p0 49 rfl) rfl ?_
              refine r_callVp (I' := IX9_denies) (as := [_, _, _]) (dk kX9_file_p0 50 rfl) mv_X9_denies ml_X9_86 rfl rfl o.k rfl rfl (Nat.le_of_ble_eq_true rfl) ⟨by decide, by decide⟩ ⟨rfl, rfl⟩ ⟨Nat.le_of_ble_eq_true rfl, Nat.le_of_ble_eq_true rfl⟩ (k_X9_denies (o.fl _) _ _ _) ?_
              refine r_ireturn (dk kX9_file_p0 51 rfl) rfl rfl ⟨Nat.le_of_ble_eq_true rfl, Nat.le_of_ble_eq_true rfl⟩ ⟨rfl, (mOut_den (by decide) (by decide)).symm⟩
            · rw [if_neg h4] at esp
              refine r_iload_n (dk kX9_file_p0 44 rfl) rfl ?_
              refine r_icmp_ne (tgt := 94) (dk kX9_file_p0 45 rfl) (by decide) (fun c83 => ?_) (fun c83 => absurd h4 c83)
              refine r_aload_n (dk kX9_file_p0 52 rfl) rfl ?_
              refine r_getR (dk kX9_file_p0 53 rfl) fa_X9_7_8 o.k rfl (o.fl _).r0 ?_
              refine r_iconst (v := 3) (dk kX9_file_p0 54 rfl) (by decide) ?_
              refine r_ial (dk kX9_file_p0 55 rfl) (o.fl _).k1 (o.fl _).l1 (j := 3) rfl (by decide) (by decide) ?_
              refine r_bipush (v := 8) (dk kX9_file_p0 56 rfl) (by decide) ?_
              -- at 102
              rw [e1, hP]
              by_cases h8 : gn (mi M (h + 1)) 3 = 8
              · rw [if_pos h8] at esp
                rw [esp]
                refine r_icmp_ne (tgt := 114) (dk kX9_file_p0 57 rfl) (by decide) (fun c102 => absurd c102 (by rw [h8]; exact fun z => z rfl)) (fun c102 => ?_)
                refine r_aload_n (dk kX9_file_p0 58 rfl) rfl ?_
                refine r_iconst (v := 3) (dk kX9_file_p0 59 rfl) (by decide) ?_
                refine r_iconst (v := 1) (dk kX9_file_p1 0 rfl) (by decide) ?_
                refine r_bipush (v := 8) (dk kX9_file_p1 1 rfl) (by decide) ?_
                refine r_callVp (I' := IX9_denies) (as := [_, _, _]) (dk kX9_file_p1 2 rfl) mv_X9_denies ml_X9_86 rfl rfl o.k rfl rfl (Nat.le_of_ble_eq_true rfl) ⟨by decide, by decide⟩ ⟨rfl, rfl⟩ ⟨Nat.le_of_ble_eq_true rfl, Nat.le_of_ble_eq_true rfl⟩ (k_X9_denies (o.fl _) _ _ _) ?_
                refine r_ireturn (dk kX9_file_p1 3 rfl) rfl rfl ⟨Nat.le_of_ble_eq_true rfl, Nat.le_of_ble_eq_true rfl⟩ ⟨rfl, (mOut_den (by decide) (by decide)).symm⟩
              · rw [if_neg h8] at esp
                rw [esp, mOut_ok]
                refine r_icmp_ne (tgt := 114) (dk kX9_file_p0 57 rfl) (by decide) (fun c102 => ?_) (fun c102 => absurd (fun z => h8 (nI_inj (by omega) (by decide) z)) c102)
                refine r_aload_n (dk kX9_file_p1 4 rfl) rfl ?_
                refine r_aload_n (dk kX9_file_p1 5 rfl) rfl ?_
                refine r_getR (dk kX9_file_p1 6 rfl) fa_X9_7_8 o.k rfl (o.fl _).r0 ?_
                refine r_callVu (I' := IX9_keeps) (as := [_]) (dk kX9_file_p1 7 rfl) mv_X9_keeps ml_X9_90 rfl rfl o.k rfl rfl (Nat.le_of_ble_eq_true rfl) ⟨by decide, by decide⟩ ⟨rfl, rfl⟩ ⟨Nat.le_of_ble_eq_true rfl, Nat.le_of_ble_eq_true rfl⟩ (k_X9_keepsG (o.fl _) (nbF hk 0)) ?_
                -- at 122
                have oX := (o.fl 0).keep (h + 1)
                have eX : mi (mKeep (mFail M h 0) h (h + 1)) (h + 1) = mi M (h + 1) := by rw [mKeep1, e1]
                have h4' := gi.f
                clear esp gf hab
                generalize mKeep (mFail M h 0) h (h + 1) = X at *
                generalize mi M (h + 1) = g at *
                refine r_aload_n (dk kX9_file_p1 8 rfl) rfl ?_
                refine r_getR (dk kX9_file_p1 9 rfl) fa_X9_7_8 oX.k rfl oX.r0 ?_
                refine r_iconst (v := 3) (dk kX9_file_p1 10 rfl) (by decide) ?_
                refine r_ial (dk kX9_file_p1 11 rfl) oX.k1 oX.l1 (j := 3) rfl (by decide) (by decide) ?_
                refine r_istore (dk kX9_file_p1 12 rfl) (by decide) rfl ?_
                simp only [List.set_cons_succ, List.set_cons_zero]
                refine r_aload_n (dk kX9_file_p1 13 rfl) rfl ?_
                refine r_getR (dk kX9_file_p1 14 rfl) fa_X9_7_8 oX.k rfl oX.r0 ?_
                refine r_iconst (v := 3) (dk kX9_file_p1 15 rfl) (by decide) ?_
                refine r_dup2 (dk kX9_file_p1 16 rfl) rfl rfl ?_
                refine r_ial (dk kX9_file_p1 17 rfl) oX.k1 oX.l1 (j := 3) rfl (by decide) (by decide) ?_
                refine r_iconst (v := 1) (dk kX9_file_p1 18 rfl) (by decide) ?_
                refine r_iadd (dk kX9_file_p1 19 rfl) ?_
                -- at 139
                rw [eX, hP, show nI (gn g 3) + 1 = nI (gn g 3 + 1) from nI_1 _]
                refine r_ias (dk kX9_file_p1 20 rfl) oX.k1 oX.l1 (j := 3) rfl (by decide) (by decide) ?_
                refine r_iconst (v := 0) (dk kX9_file_p1 21 rfl) (by decide) ?_
                refine r_istore (dk kX9_file_p1 22 rfl) (by decide) rfl ?_
                simp only [List.set_cons_succ, List.set_cons_zero]
                -- at 143
                rw [sI_as _ _ _ _ eX]
                generalize hf0 : va_up g 3 (nI (gn g 3 + 1)) = f0
                suffices key : ∀ d j, j + d = 11 → WW G IX9_file (qi (fun y M' => y = g 4 ∧ M' = sA X (h + 1) (gFile g i k c u)) nox) 143 [.ref h, .int (nI i), .int (nI k), .int c, .int u, .int (nI (gn g 3)), .int (nI j)] [] (sA X (h + 1) (fun x => if 35 + 11 * gn g 3 ≤ x ∧ x < 35 + 11 * gn g 3 + j then 0 else f0 x)) 0 0 by
                  have h0 := key 11 0 rfl
                  rw [show (fun x => if 35 + 11 * gn g 3 ≤ x ∧ x < 35 + 11 * gn g 3 + 0 then 0 else f0 x) = f0 from funext fun x => if_neg (by omega)] at h0
                  exact h0
                intro d
                induction d with
                | zero =>
                  intro j hj
                  have hj : j = 11 := hj
                  subst hj
                  generalize hf : (fun x => if 35 + 11 * gn g 3 ≤ x ∧ x < 35 + 11 * gn g 3 + 11 then 0 else f0 x) = f
                  have hf4 : f 4 = g 4 := by rw [← hf]; show (if _ then _ else _) = _; rw [if_neg (by omega), ← hf0, va_up_ne _ _ (by decide)]
                  refine r_iload (dk kX9_file_p1 23 rfl) rfl ?_
                  refine r_bipush (v := 11) (dk kX9_file_p1 24 rfl) (by decide) ?_
                  refine r_icmp_ge (tgt := 165) (dk kX9_file_p1 25 rfl) (by decide) (fun c147 => ?_) (fun c147 => absurd (by decide) c147)
                  refine r_aload_n (dk kX9_file_p1 33 rfl) rfl ?_
                  refine r_iload (dk kX9_file_p1 34 rfl) rfl ?_
                  refine r_iconst (v := 0) (dk kX9_file_p1 35 rfl) (by decide) ?_
                  refine r_aload_n (dk kX9_file_p1 36 rfl) rfl ?_
                  refine r_getR (dk kX9_file_p1 37 rfl) fa_X9_7_8 oX.k rfl oX.r0 ?_
                  refine r_iconst (v := 4) (dk kX9_file_p1 38 rfl) (by decide) ?_
                  refine r_ial (dk kX9_file_p1 39 rfl) oX.k1 oX.l1 (j := 4) rfl (by decide) (by decide) ?_
                  -- at 175
                  rw [mi_sA_s, hf4]
                  refine r_callVu (I' := IX9_lays) (as := [_, _, _]) (dk kX9_file_p1 40 rfl) mv_X9_lays ml_X9_116 rfl rfl oX.k rfl rfl (Nat.le_of_ble_eq_true rfl) ⟨by decide, by decide⟩ ⟨rfl, rfl⟩ ⟨Nat.le_of_ble_eq_true rfl, Nat.le_of_ble_eq_true rfl⟩ (k_X9_lays (M := sA X (h + 1) f) oX (p := gn g 3) (w := 0) rfl (by omega) (by decide)) ?_
                  refine r_aload_n (dk kX9_file_p1 41 rfl) rfl ?_
                  refine r_iload (dk kX9_file_p1 42 rfl) rfl ?_
                  refine r_iconst (v := 1) (dk kX9_file_p1 43 rfl) (by decide) ?_
                  refine r_iload_n (dk kX9_file_p1 44 rfl) rfl ?_
                  -- at 183
                  rw [sI_sA]
                  refine r_callVu (I' := IX9_lays) (as := [_, _, _]) (dk kX9_file_p1 45 rfl) mv_X9_lays ml_X9_116 rfl rfl oX.k rfl rfl (Nat.le_of_ble_eq_true rfl) ⟨by decide, by decide⟩ ⟨rfl, rfl⟩ ⟨Nat.le_of_ble_eq_true rfl, Nat.le_of_ble_eq_true rfl⟩ (k_X9_lays (M := sA X (h + 1) _) oX (p := gn g 3) (w := 1) rfl (by omega) (by decide)) ?_
                  refine r_aload_n (dk kX9_file_p1 46 rfl) rfl ?_
                  refine r_iload (dk kX9_file_p1 47 rfl) rfl ?_
                  refine r_iconst (v := 2) (dk kX9_file_p1 48 rfl) (by decide) ?_
                  refine r_iload_n (dk kX9_file_p1 49 rfl) rfl ?_
                  -- at 191
                  rw [sI_sA]
                  refine r_callVu (I' := IX9_lays) (as := [_, _, _]) (dk kX9_file_p1 50 rfl) mv_X9_lays ml_X9_116 rfl rfl oX.k rfl rfl (Nat.le_of_ble_eq_true rfl) ⟨by decide, by decide⟩ ⟨rfl, rfl⟩ ⟨Nat.le_of_ble_eq_true rfl, Nat.le_of_ble_eq_true rfl⟩ (k_X9_lays (M := sA X (h + 1) _) oX (p := gn g 3) (w := 2) rfl (by omega) (by decide)) ?_
                  refine r_aload_n (dk kX9_file_p1 51 rfl) rfl ?_
                  refine r_iload (dk kX9_file_p1 52 rfl) rfl ?_
                  refine r_iconst (v := 3) (dk kX9_file_p1 53 rfl) (by decide) ?_
                  refine r_iload_n (dk kX9_file_p1 54 rfl) rfl ?_
                  -- at 199
                  rw [sI_sA]
                  refine r_callVu (I' := IX9_lays) (as := [_, _, _]) (dk kX9_file_p1 55 rfl) mv_X9_lays ml_X9_116 rfl rfl oX.k rfl rfl (Nat.le_of_ble_eq_true rfl) ⟨by decide, by decide⟩ ⟨rfl, rfl⟩ ⟨Nat.le_of_ble_eq_true rfl, Nat.le_of_ble_eq_true rfl⟩ (k_X9_lays (M := sA X (h + 1) _) oX (p := gn g 3) (w := 3) rfl (by omega) (by decide)) ?_
                  refine r_aload_n (dk kX9_file_p1 56 rfl) rfl ?_
                  refine r_iload (dk kX9_file_p1 57 rfl) rfl ?_
                  refine r_iconst (v := 4) (dk kX9_file_p1 58 rfl) (by decide) ?_
                  refine r_iload (dk kX9_file_p1 59 rfl) rfl ?_
                  -- at 208
                  rw [sI_sA]
                  refine r_callVu (I' := IX9_lays) (as := [_, _, _]) (dk kX9_file_p2 0 rfl) mv_X9_lays ml_X9_116 rfl rfl oX.k rfl rfl (Nat.le_of_ble_eq_true rfl) ⟨by decide, by decide⟩ ⟨rfl, rfl⟩ ⟨Nat.le_of_ble_eq_true rfl, Nat.le_of_ble_eq_true rfl⟩ (k_X9_lays (M := sA X (h + 1) _) oX (p := gn g 3) (w := 4) rfl (by omega) (by decide)) ?_
                  -- at 211
                  rw [sI_sA]
                  refine r_aload_n (dk kX9_file_p2 1 rfl) rfl ?_
                  refine r_getR (dk kX9_file_p2 2 rfl) fa_X9_7_8 oX.k rfl oX.r0 ?_
                  refine r_iconst (v := 4) (dk kX9_file_p2 3 rfl) (by decide) ?_
                  refine r_dup2 (dk kX9_file_p2 4 rfl) rfl rfl ?_
                  refine r_ial (dk kX9_file_p2 5 rfl) oX.k1 oX.l1 (j := 4) rfl (by decide) (by decide) ?_
                  -- at 218
                  rw [mi_sA_s, va_up_ne _ _ (by omega), va_up_ne _ _ (by omega), va_up_ne _ _ (by omega), va_up_ne _ _ (by omega), va_up_ne _ _ (by omega), hf4, h4'.1]
                  refine r_iconst (v := 1) (dk kX9_file_p2 6 rfl) (by decide) ?_
                  refine r_iadd (dk kX9_file_p2 7 rfl) ?_
                  refine r_ias (dk kX9_file_p2 8 rfl) oX.k1 oX.l1 (j := 4) rfl (by decide) (by decide) ?_
                  refine r_aload_n (dk kX9_file_p2 9 rfl) rfl ?_
                  refine r_getR (dk kX9_file_p2 10 rfl) fa_X9_7_8 oX.k rfl oX.r0 ?_
                  refine r_iconst (v := 4) (dk kX9_file_p2 11 rfl) (by decide) ?_
                  refine r_ial (dk kX9_file_p2 12 rfl) oX.k1 oX.l1 (j := 4) rfl (by decide) (by decide) ?_
                  -- at 227
                  rw [sI_sA]
                  rw [mi_sA_s, va_up_self, show nI (gn g 4) + 1 = nI (gn g 4 + 1) from nI_1 _]
                  refine r_iconst (v := 1) (dk kX9_file_p2 13 rfl) (by decide) ?_
                  refine r_isub (dk kX9_file_p2 14 rfl) ?_
                  refine r_ireturn (dk kX9_file_p2 15 rfl) rfl rfl ⟨Nat.le_of_ble_eq_true rfl, Nat.le_of_ble_eq_true rfl⟩ ⟨?_, ?_⟩
                  · exact nI_pred _
                  · congr 1
                    funext x
                    unfold gFile
                    rw [← hf, ← hf0]
                    simp only [va_up]
                    by_cases a4 : x = 4
                    · rw [if_pos a4, if_neg (by omega), if_pos a4]
                    · rw [if_neg a4]
                      by_cases b4 : x = 35 + 11 * gn g 3 + 4
                      · rw [if_pos b4, if_neg (by omega), if_neg (by omega), if_neg (by omega), if_neg (by omega), if_neg (by omega), if_neg (by omega), if_pos b4]
                      · rw [if_neg b4]
                        by_cases b3 : x = 35 + 11 * gn g 3 + 3
                        · rw [if_pos b3, if_neg (by omega), if_neg (by omega), if_neg (by omega), if_neg (by omega), if_neg (by omega), if_pos b3]
                        · rw [if_neg b3]
                          by_cases b2 : x = 35 + 11 * gn g 3 + 2
                          · rw [if_pos b2, if_neg (by omega), if_neg (by omega), if_neg (by omega), if_neg (by omega), if_pos b2]
                          · rw [if_neg b2]
                            by_cases b1 : x = 35 + 11 * gn g 3 + 1
                            · rw [if_pos b1, if_neg (by omega), if_neg (by omega), if_neg (by omega), if_pos b1]
                            · rw [if_neg b1]
                              by_cases b0 : x = 35 + 11 * gn g 3
                              · rw [if_pos (by omega), if_neg (by omega), if_neg (by omega), if_pos b0, ← h4'.1]
                              · rw [if_neg (by omega)]
                                by_cases b5 : 35 + 11 * gn g 3 ≤ x ∧ x < 35 + 11 * gn g 3 + 11
                                · rw [if_pos b5, if_neg (by omega), if_neg (by omega), if_neg (by omega), if_neg (by omega), if_neg (by omega), if_neg (by omega), if_neg (by omega), if_pos (by omega)]
                                · rw [if_neg b5]
                                  by_cases a3 : x = 3
                                  · rw [if_pos a3, if_pos a3]
                                  · rw [if_neg a3, if_neg a3, if_neg a4, if_neg b0, if_neg b1, if_neg b2, if_neg b3, if_neg b4, if_neg (by omega)]
                | succ d ih =>
                  intro j hj
                  refine r_iload (dk kX9_file_p1 23 rfl) rfl ?_
                  refine r_bipush (v := 11) (dk kX9_file_p1 24 rfl) (by decide) ?_
                  refine r_icmp_ge (tgt := 165) (dk kX9_file_p1 25 rfl) (by decide) (fun c147 => absurd c147 (by exact fun z => absurd ((nI_leI (a := 11) (b := j) (by decide) (by omega)).mp z) (by omega))) (fun c147 => ?_)
                  refine r_aload_n (dk kX9_file_p1 26 rfl) rfl ?_
                  refine r_iload (dk kX9_file_p1 27 rfl) rfl ?_
                  refine r_iload (dk kX9_file_p1 28 rfl) rfl ?_
                  refine r_iconst (v := 0) (dk kX9_file_p1 29 rfl) (by decide) ?_
                  -- at 156
                  refine r_callVu (I' := IX9_lays) (as := [_, _, _]) (dk kX9_file_p1 30 rfl) mv_X9_lays ml_X9_116 rfl rfl oX.k rfl rfl (Nat.le_of_ble_eq_true rfl) ⟨by decide, by decide⟩ ⟨rfl, rfl⟩ ⟨Nat.le_of_ble_eq_true rfl, Nat.le_of_ble_eq_true rfl⟩ (k_X9_lays (M := sA X (h + 1) _) oX (p := gn g 3) (w := j) rfl (by omega) (by omega)) ?_
                  refine r_iinc (dk kX9_file_p1 31 rfl) (by decide) rfl rfl rfl ?_
                  simp only [List.set_cons_succ, List.set_cons_zero]
                  refine r_goto (tgt := 143) (dk kX9_file_p1 32 rfl) (by decide) ?_
                  -- at 143
                  rw [show nI j + Int32.ofInt 1 = nI (j + 1) from nI_1 j, sI_sA]
                  rw [show va_up (fun x => if 35 + 11 * gn g 3 ≤ x ∧ x < 35 + 11 * gn g 3 + j then 0 else f0 x) (35 + 11 * gn g 3 + j) 0 = (fun x => if 35 + 11 * gn g 3 ≤ x ∧ x < 35 + 11 * gn g 3 + (j + 1) then 0 else f0 x) from ?_]
                  · exact ih (j + 1) (by omega)
                  · funext x
                    by_cases hx : x = 35 + 11 * gn g 3 + j
                    · rw [hx, va_up_self, if_pos (by omega)]
                    · rw [va_up_ne _ _ hx]
                      by_cases c1 : 35 + 11 * gn g 3 ≤ x ∧ x < 35 + 11 * gn g 3 + j
                      · rw [if_pos c1, if_pos (by omega)]
                      · rw [if_neg c1, if_neg (by omega)]
        · rw [show sp_file (mi M (h + 1)) (nI i) (nI k) c u = cThr 2 by unfold sp_file; rw [ea]; simp only; rw [es]; simp only; rw [if_pos hc, if_neg hu]]
          refine r_iload (dk kX9_file_p0 14 rfl) rfl ?_
          refine r_iconst (v := 0) (dk kX9_file_p0 15 rfl) (by decide) ?_
          refine r_bipush (v := 9) (dk kX9_file_p0 16 rfl) (by decide) ?_
          refine r_callSp (I' := IX9_in) (as := [_, _, _]) (dk kX9_file_p0 17 rfl) ms_X9_in ml_X9_68 rfl rfl rfl (Nat.le_of_ble_eq_true rfl) ⟨by decide, by decide⟩ ⟨rfl, rfl⟩ ⟨Nat.le_of_ble_eq_true rfl, Nat.le_of_ble_eq_true rfl⟩ (k_X9_in _ _ _) ?_
          refine r_if_eq (tgt := 43) (dk kX9_file_p0 18 rfl) (by decide) (fun c36 => ?_) (fun c36 => absurd (by rw [bI_f hu]) c36)
          refine r_iconst (v := 2) (dk kX9_file_p0 21 rfl) (by decide) ?_
          refine r_callVp (I' := IX9_fails) (as := [_]) (dk kX9_file_p0 22 rfl) mv_X9_fails ml_X9_80 rfl rfl o.k rfl rfl (Nat.le_of_ble_eq_true rfl) ⟨by decide, by decide⟩ ⟨rfl, rfl⟩ ⟨Nat.le_of_ble_eq_true rfl, Nat.le_of_ble_eq_true rfl⟩ (k_X9_fails o _) ?_
          refine r_if_eq (tgt := 52) (dk kX9_file_p0 23 rfl) (by decide) (fun c47 => absurd c47 (by decide)) (fun c47 => ?_)
          refine r_iconst (v := 0) (dk kX9_file_p0 24 rfl) (by decide) ?_
          refine r_ireturn (dk kX9_file_p0 25 rfl) rfl rfl ⟨Nat.le_of_ble_eq_true rfl, Nat.le_of_ble_eq_true rfl⟩ ⟨rfl, (mOut_thr (by decide)).symm⟩
      · rw [show sp_file (mi M (h + 1)) (nI i) (nI k) c u = cThr 1 by unfold sp_file; rw [ea]; simp only; rw [es]; simp only; rw [if_neg hc]]
        refine r_iload_n (dk kX9_file_p0 9 rfl) rfl ?_
        refine r_callSp (I' := IX9_isCell) (as := [_]) (dk kX9_file_p0 10 rfl) ms_X9_isCell ml_X9_76 rfl rfl rfl (Nat.le_of_ble_eq_true rfl) ⟨by decide, by decide⟩ ⟨rfl, rfl⟩ ⟨Nat.le_of_ble_eq_true rfl, Nat.le_of_ble_eq_true rfl⟩ (k_X9_isCell c) ?_
        refine r_if_ne (tgt := 28) (dk kX9_file_p0 11 rfl) (by decide) (fun c21 => absurd c21 (by rw [bI_f hc]; exact fun z => z rfl)) (fun c21 => ?_)
        refine r_iconst (v := 1) (dk kX9_file_p0 12 rfl) (by decide) ?_
        refine r_goto (tgt := 44) (dk kX9_file_p0 13 rfl) (by decide) ?_
        refine r_callVp (I' := IX9_fails) (as := [_]) (dk kX9_file_p0 22 rfl) mv_X9_fails ml_X9_80 rfl rfl o.k rfl rfl (Nat.le_of_ble_eq_true rfl) ⟨by decide, by decide⟩ ⟨rfl, rfl⟩ ⟨Nat.le_of_ble_eq_true rfl, Nat.le_of_ble_eq_true rfl⟩ (k_X9_fails o _) ?_
        refine r_if_eq (tgt := 52) (dk kX9_file_p0 23 rfl) (by decide) (fun c47 => absurd c47 (by decide)) (fun c47 => ?_)
        refine r_iconst (v := 0) (dk kX9_file_p0 24 rfl) (by decide) ?_
        refine r_ireturn (dk kX9_file_p0 25 rfl) rfl rfl ⟨Nat.le_of_ble_eq_true rfl, Nat.le_of_ble_eq_true rfl⟩ ⟨rfl, (mOut_thr (by decide)).symm⟩
theorem k_X9_vote (o : MO M h) {F : Nat} (gi : GI F (mi M (h + 1))) (hk : nb (mi M h) 5 9) (a x b : Int32) : KE G IX9_vote [.ref h, .int a, .int x, .int b] M (sp_vote (mi M (h + 1)) a x b).2.2.1 (mOut (mFail M h 0) h (sp_vote (mi M (h + 1)) a x b)) := by
  refine KK.ofW (by decide) (by simp [Value.category]) (Nat.le_of_ble_eq_true rfl) rfl ?_
  show WW _ _ _ 0 [_, _, _, _, lj, lj] [] _ _ _
  obtain ⟨hS, hS2⟩ := gi.o
  have gp := gi.p
  have e1 := mf1 M h 0
  refine r_aload_n (dk kX9_vote_p0 0 rfl) rfl ?_
  refine r_iload_n (dk kX9_vote_p0 1 rfl) rfl ?_
  refine r_callVp (I' := IX9_placeOf) (as := [_]) (dk kX9_vote_p0 2 rfl) mv_X9_placeOf ml_X9_110 rfl rfl o.k rfl rfl (Nat.le_of_ble_eq_true rfl) ⟨by decide, by decide⟩ ⟨rfl, rfl⟩ ⟨Nat.le_of_ble_eq_true rfl, Nat.le_of_ble_eq_true rfl⟩ (k_X9_placeOf o gi x) ?_
  refine r_istore (dk kX9_vote_p0 3 rfl) (by decide) rfl ?_
  simp only [List.set_cons_succ, List.set_cons_zero]
  -- at 7
  rcases ixo_c (n := gn (mi M (h + 1)) 1) (by omega) a with ⟨e, hb⟩ | ⟨i, hi, rfl, e, hb⟩
  · rw [show sp_vote (mi M (h + 1)) a x b = cThr 1 by unfold sp_vote; rw [e]]
    refine r_aload_n (dk kX9_vote_p0 4 rfl) rfl ?_
    refine r_aload_n (dk kX9_vote_p0 5 rfl) rfl ?_
    refine r_iload_n (dk kX9_vote_p0 6 rfl) rfl ?_
    refine r_callVp (I' := IX9_isOfficer) (as := [_]) (dk kX9_vote_p0 7 rfl) mv_X9_isOfficer ml_X9_100 rfl rfl o.k rfl rfl (Nat.le_of_ble_eq_true rfl) ⟨by decide, by decide⟩ ⟨rfl, rfl⟩ ⟨Nat.le_of_ble_eq_true rfl, Nat.le_of_ble_eq_true rfl⟩ (k_X9_isOfficer o a) ?_
    refine r_if_ne (tgt := 20) (dk kX9_vote_p0 8 rfl) (by decide) (fun c13 => absurd c13 (by rw [hS, bI_f hb]; exact fun z => z rfl)) (fun c13 => ?_)
    refine r_iconst (v := 1) (dk kX9_vote_p0 9 rfl) (by decide) ?_
    refine r_goto (tgt := 30) (dk kX9_vote_p0 10 rfl) (by decide) ?_
    refine r_callVp (I' := IX9_fails) (as := [_]) (dk kX9_vote_p0 16 rfl) mv_X9_fails ml_X9_80 rfl rfl o.k rfl rfl (Nat.le_of_ble_eq_true rfl) ⟨by decide, by decide⟩ ⟨rfl, rfl⟩ ⟨Nat.le_of_ble_eq_true rfl, Nat.le_of_ble_eq_true rfl⟩ (k_X9_fails o _) ?_
    refine r_if_eq (tgt := 38) (dk kX9_vote_p0 17 rfl) (by decide) (fun c33 => absurd c33 (by decide)) (fun c33 => ?_)
    refine r_iconst (v := 0) (dk kX9_vote_p0 18 rfl) (by decide) ?_
    refine r_ireturn (dk kX9_vote_p0 19 rfl) rfl rfl ⟨Nat.le_of_ble_eq_true rfl, Nat.le_of_ble_eq_true rfl⟩ ⟨rfl, (mOut_thr (by decide)).symm⟩
  · cases ep : gPlace (mi M (h + 1)) x with
    | none =>
      rw [show sp_vote (mi M (h + 1)) (nI i) x b = cThr 2 by unfold sp_vote; rw [e]; simp only; rw [ep]]
      refine r_aload_n (dk kX9_vote_p0 4 rfl) rfl ?_
      refine r_aload_n (dk kX9_vote_p0 5 rfl) rfl ?_
      refine r_iload_n (dk kX9_vote_p0 6 rfl) rfl ?_
      refine r_callVp (I' := IX9_isOfficer) (as := [_]) (dk kX9_vote_p0 7 rfl) mv_X9_isOfficer ml_X9_100 rfl rfl o.k rfl rfl (Nat.le_of_ble_eq_true rfl) ⟨by decide, by decide⟩ ⟨rfl, rfl⟩ ⟨Nat.le_of_ble_eq_true rfl, Nat.le_of_ble_eq_true rfl⟩ (k_X9_isOfficer o _) ?_
      refine r_if_ne (tgt := 20) (dk kX9_vote_p0 8 rfl) (by decide) (fun c13 => ?_) (fun c13 => absurd (by rw [hS, bI_t hb]; decide) c13)
      refine r_iload (dk kX9_vote_p0 11 rfl) rfl ?_
      refine r_if_ge (tgt := 29) (dk kX9_vote_p0 12 rfl) (by decide) (fun c22 => absurd c22 (by decide)) (fun c22 => ?_)
      refine r_iconst (v := 2) (dk kX9_vote_p0 13 rfl) (by decide) ?_
      refine r_goto (tgt := 30) (dk kX9_vote_p0 14 rfl) (by decide) ?_
      refine r_callVp (I' := IX9_fails) (as := [_]) (dk kX9_vote_p0 16 rfl) mv_X9_fails ml_X9_80 rfl rfl o.k rfl rfl (Nat.le_of_ble_eq_true rfl) ⟨by decide, by decide⟩ ⟨rfl, rfl⟩ ⟨Nat.le_of_ble_eq_true rfl, Nat.le_of_ble_eq_true rfl⟩ (k_X9_fails o _) ?_
      refine r_if_eq (tgt := 38) (dk kX9_vote_p0 17 rfl) (by decide) (fun c33 => absurd c33 (by decide)) (fun c33 => ?_)
      refine r_iconst (v := 0) (dk kX9_vote_p0 18 rfl) (by decide) ?_
      refine r_ireturn (dk kX9_vote_p0 19 rfl) rfl rfl ⟨Nat.le_of_ble_eq_true rfl, Nat.le_of_ble_eq_true rfl⟩ ⟨rfl, (mOut_thr (by decide)).symm⟩
    | some p =>
      have hp := fx_lt ep
      have hp8 := gi.p.2
      obtain ⟨-, ⟨p1, p1'⟩, -, -, -, ⟨p5, p5'⟩, ⟨p6, p6'⟩, -⟩ := gi.pi hp
      have esp : sp_vote (mi M (h + 1)) (nI i) x b = (if mi M (h + 1) (35 + 11 * p + 1) = nI i then cDen 3 6 (nI i) else if (gn (mi M (h + 1)) (35 + 11 * p + 5)).testBit i = true then cDen 3 5 1 else if (gn (mi M (h + 1)) (35 + 11 * p + 6)).testBit i = true then cDen 3 5 0 else cOk (nI (gVotes (gVote (mi M (h + 1)) i p (if b = 0 then 6 else 5)) p)) (gVote (mi M (h + 1)) i p (if b = 0 then 6 else 5))) := by
        unfold sp_vote; rw [e]; simp only; rw [ep]
      refine r_aload_n (dk kX9_vote_p0 4 rfl) rfl ?_
      refine r_aload_n (dk kX9_vote_p0 5 rfl) rfl ?_
      refine r_iload_n (dk kX9_vote_p0 6 rfl) rfl ?_
      refine r_callVp (I' := IX9_isOfficer) (as := [_]) (dk kX9_vote_p0 7 rfl) mv_X9_isOfficer ml_X9_100 rfl rfl o.k rfl rfl (Nat.le_of_ble_eq_true rfl) ⟨by decide, by decide⟩ ⟨rfl, rfl⟩ ⟨Nat.le_of_ble_eq_true rfl, Nat.le_of_ble_eq_true rfl⟩ (k_X9_isOfficer o _) ?_
      refine r_if_ne (tgt := 20) (dk kX9_vote_p0 8 rfl) (by decide) (fun c13 => ?_) (fun c13 => absurd (by rw [hS, bI_t hb]; decide) c13)
      refine r_iload (dk kX9_vote_p0 11 rfl) rfl ?_
      refine r_if_ge (tgt := 29) (dk kX9_vote_p0 12 rfl) (by decide) (fun c22 => ?_) (fun c22 => absurd (nI_pos' (by omega)) c22)
      refine r_iconst (v := 0) (dk kX9_vote_p0 15 rfl) (by decide) ?_
      refine r_callVp (I' := IX9_fails) (as := [_]) (dk kX9_vote_p0 16 rfl) mv_X9_fails ml_X9_80 rfl rfl o.k rfl rfl (Nat.le_of_ble_eq_true rfl) ⟨by decide, by decide⟩ ⟨rfl, rfl⟩ ⟨Nat.le_of_ble_eq_true rfl, Nat.le_of_ble_eq_true rfl⟩ (k_X9_fails o _) ?_
      refine r_if_eq (tgt := 38) (dk kX9_vote_p0 17 rfl) (by decide) (fun c33 => ?_) (fun c33 => absurd (by decide) c33)
      refine r_aload_n (dk kX9_vote_p0 20 rfl) rfl ?_
      refine r_iload (dk kX9_vote_p0 21 rfl) rfl ?_
      refine r_iconst (v := 1) (dk kX9_vote_p0 22 rfl) (by decide) ?_
      refine r_callVp (I' := IX9_of) (as := [_, _]) (dk kX9_vote_p0 23 rfl) mv_X9_of ml_X9_106 rfl rfl o.k rfl rfl (Nat.le_of_ble_eq_true rfl) ⟨by decide, by decide⟩ ⟨rfl, rfl⟩ ⟨Nat.le_of_ble_eq_true rfl, Nat.le_of_ble_eq_true rfl⟩ (k_X9_of (o.fl _) (p := p) (w := 1) rfl (by omega) (by decide)) ?_
      -- at 45
      rw [e1]
      by_cases q1 : mi M (h + 1) (35 + 11 * p + 1) = nI i
      · rw [if_pos q1] at esp
        rw [esp]
        refine r_iload_n (dk kX9_vote_p0 24 rfl) rfl ?_
        refine r_icmp_ne (tgt := 58) (dk kX9_vote_p0 25 rfl) (by decide) (fun c46 => absurd c46 (fun z => z q1)) (fun c46 => ?_)
        refine r_aload_n (dk kX9_vote_p0 26 rfl) rfl ?_
        refine r_iconst (v := 3) (dk kX9_vote_p0 27 rfl) (by decide) ?_
        refine r_bipush (v := 6) (dk kX9_vote_p0 28 rfl) (by decide) ?_
        refine r_iload_n (dk kX9_vote_p0 29 rfl) rfl ?_
        refine r_callVp (I' := IX9_denies) (as := [_, _, _]) (dk kX9_vote_p0 30 rfl) mv_X9_denies ml_X9_86 rfl rfl o.k rfl rfl (Nat.le_of_ble_eq_true rfl) ⟨by decide, by decide⟩ ⟨rfl, rfl⟩ ⟨Nat.le_of_ble_eq_true rfl, Nat.le_of_ble_eq_true rfl⟩ (k_X9_denies (o.fl _) _ _ _) ?_
        refine r_ireturn (dk kX9_vote_p0 31 rfl) rfl rfl ⟨Nat.le_of_ble_eq_true rfl, Nat.le_of_ble_eq_true rfl⟩ ⟨rfl, (mOut_den (by decide) (by decide)).symm⟩
      · rw [if_neg q1] at esp
        refine r_iload_n (dk kX9_vote_p0 24 rfl) rfl ?_
        refine r_icmp_ne (tgt := 58) (dk kX9_vote_p0 25 rfl) (by decide) (fun c46 => ?_) (fun c46 => absurd q1 c46)
        refine r_aload_n (dk kX9_vote_p0 32 rfl) rfl ?_
        refine r_iload (dk kX9_vote_p0 33 rfl) rfl ?_
        refine r_iconst (v := 5) (dk kX9_vote_p0 34 rfl) (by decide) ?_
        refine r_callVp (I' := IX9_of) (as := [_, _]) (dk kX9_vote_p0 35 rfl) mv_X9_of ml_X9_106 rfl rfl o.k rfl rfl (Nat.le_of_ble_eq_true rfl) ⟨by decide, by decide⟩ ⟨rfl, rfl⟩ ⟨Nat.le_of_ble_eq_true rfl, Nat.le_of_ble_eq_true rfl⟩ (k_X9_of (o.fl _) (p := p) (w := 5) rfl (by omega) (by decide)) ?_
        -- at 65
        rw [e1, p5]
        refine r_iload_n (dk kX9_vote_p0 36 rfl) rfl ?_
        refine r_ishr (dk kX9_vote_p0 37 rfl) ?_
        refine r_iconst (v := 1) (dk kX9_vote_p0 38 rfl) (by decide) ?_
        refine r_iand (dk kX9_vote_p0 39 rfl) ?_
        -- at 69
        rw [nI_bit (by omega) (by omega)]
        by_cases q2 : (gn (mi M (h + 1)) (35 + 11 * p + 5)).testBit i = true
        · rw [if_pos q2] at esp
          rw [esp]
          refine r_iconst (v := 1) (dk kX9_vote_p0 40 rfl) (by decide) ?_
          refine r_icmp_ne (tgt := 81) (dk kX9_vote_p0 41 rfl) (by decide) (fun c70 => absurd c70 (by rw [bI_t q2]; exact fun z => z rfl)) (fun c70 => ?_)
          refine r_aload_n (dk kX9_vote_p0 42 rfl) rfl ?_
          refine r_iconst (v := 3) (dk kX9_vote_p0 43 rfl) (by decide) ?_
          refine r_iconst (v := 5) (dk kX9_vote_p0 44 rfl) (by decide) ?_
          refine r_iconst (v := 1) (dk kX9_vote_p0 45 rfl) (by decide) ?_
          refine r_callVp (I' := IX9_denies) (as := [_, _, _]) (dk kX9_vote_p0 46 rfl) mv_X9_denies ml_X9_86 rfl rfl o.k rfl rfl (Nat.le_of_ble_eq_true rfl) ⟨by decide, by decide⟩ ⟨rfl, rfl⟩ ⟨Nat.le_of_ble_eq_true rfl, Nat.le_of_ble_eq_true rfl⟩ (k_X9_denies (o.fl _) _ _ _) ?_
          refine r_ireturn (dk kX9_vote_p0 47 rfl) rfl rfl ⟨Nat.le_of_ble_eq_true rfl, Nat.le_of_ble_eq_true rfl⟩ ⟨rfl, (mOut_den (by decide) (by decide)).symm⟩
        · rw [if_neg q2] at esp
          refine r_iconst (v := 1) (dk kX9_vote_p0 40 rfl) (by decide) ?_
          refine r_icmp_ne (tgt := 81) (dk kX9_vote_p0 41 rfl) (by decide) (fun c70 => ?_) (fun c70 => absurd (by rw [bI_f q2]; decide) c70)
          refine r_aload_n (dk kX9_vote_p0 48 rfl) rfl ?_
          refine r_iload (dk kX9_vote_p0 49 rfl) rfl ?_
          refine r_bipush (v := 6) (dk kX9_vote_p0 50 rfl) (by decide) ?_
          refine r_callVp (I' := IX9_of) (as := [_, _]) (dk kX9_vote_p0 51 rfl) mv_X9_of ml_X9_106 rfl rfl o.k rfl rfl (Nat.le_of_ble_eq_true rfl) ⟨by decide, by decide⟩ ⟨rfl, rfl⟩ ⟨Nat.le_of_ble_eq_true rfl, Nat.le_of_ble_eq_true rfl⟩ (k_X9_of (o.fl _) (p := p) (w := 6) rfl (by omega) (by decide)) ?_
          -- at 89
          rw [e1, p6]
          refine r_iload_n (dk kX9_vote_p0 52 rfl) rfl ?_
          refine r_ishr (dk kX9_vote_p0 53 rfl) ?_
          refine r_iconst (v := 1) (dk kX9_vote_p0 54 rfl) (by decide) ?_
          refine r_iand (dk kX9_vote_p0 55 rfl) ?_
          -- at 93
          rw [nI_bit (by omega) (by omega)]
          by_cases q3 : (gn (mi M (h + 1)) (35 + 11 * p + 6)).testBit i = true
          · rw [if_pos q3] at esp
            rw [esp]
            refine r_iconst (v := 1) (dk kX9_vote_p0 56 rfl) (by decide) ?_
            refine r_icmp_ne (tgt := 105) (dk kX9_vote_p0 57 rfl) (by decide) (fun c94 => absurd c94 (by rw [bI_t q3]; exact fun z => z rfl)) (fun c94 => ?_)
            refine r_aload_n (dk kX9_vote_p0 58 rfl) rfl ?_
            refine r_iconst (v := 3) (dk kX9_vote_p0 59 rfl) (by decide) ?_
            refine r_iconst (v := 5) (dk kX9_vote_p1 0 rfl) (by decide) ?_
            refine r_iconst (v := 0) (dk kX9_vote_p1 1 rfl) (by decide) ?_
            refine r_callVp (I' := IX9_denies) (as := [_, _, _]) (dk kX9_vote_p1 2 rfl) mv_X9_denies ml_X9_86 rfl rfl o.k rfl rfl (Nat.le_of_ble_eq_true rfl) ⟨by decide, by decide⟩ ⟨rfl, rfl⟩ ⟨Nat.le_of_ble_eq_true rfl, Nat.le_of_ble_eq_true rfl⟩ (k_X9_denies (o.fl _) _ _ _) ?_
            refine r_ireturn (dk kX9_vote_p1 3 rfl) rfl rfl ⟨Nat.le_of_ble_eq_true rfl, Nat.le_of_ble_eq_true rfl⟩ ⟨rfl, (mOut_den (by decide) (by decide)).symm⟩
          · rw [if_neg q3] at esp
            rw [esp, mOut_ok]
            refine r_iconst (v := 1) (dk kX9_vote_p0 56 rfl) (by decide) ?_
            refine r_icmp_ne (tgt := 105) (dk kX9_vote_p0 57 rfl) (by decide) (fun c94 => ?_) (fun c94 => absurd (by rw [bI_f q3]; decide) c94)
            refine r_aload_n (dk kX9_vote_p1 4 rfl) rfl ?_
            refine r_aload_n (dk kX9_vote_p1 5 rfl) rfl ?_
            refine r_getR (dk kX9_vote_p1 6 rfl) fa_X9_7_8 o.k rfl (o.fl _).r0 ?_
            refine r_callVu (I' := IX9_keeps) (as := [_]) (dk kX9_vote_p1 7 rfl) mv_X9_keeps ml_X9_90 rfl rfl o.k rfl rfl (Nat.le_of_ble_eq_true rfl) ⟨by decide, by decide⟩ ⟨rfl, rfl⟩ ⟨Nat.le_of_ble_eq_true rfl, Nat.le_of_ble_eq_true rfl⟩ (k_X9_keepsG (o.fl _) (nbF hk 0)) ?_
            -- at 113
            have oX := (o.fl 0).keep (h + 1)
            have eX : mi (mKeep (mFail M h 0) h (h + 1)) (h + 1) = mi M (h + 1) := by rw [mKeep1, e1]
            have gv : ∀ w, w = 5 ∨ w = 6 → GI F (gVote (mi M (h + 1)) i p w) := fun w hw => GI_vote gi hp (by omega) hw
            clear esp
            generalize mKeep (mFail M h 0) h (h + 1) = X at *
            generalize mi M (h + 1) = g at *
            have fin : ∀ w, (w = 5 ∨ w = 6) → g (35 + 11 * p + w) = nI (gn g (35 + 11 * p + w)) → WW G IX9_vote (qi (fun y M' => y = nI (gVotes (gVote g i p w) p) ∧ M' = sA X (h + 1) (gVote g i p w)) nox) 123 [.ref h, .int (nI i), .int x, .int b, .int (nI p), lj] [.int (nI w)] X 0 0 := by
              intro w hw pw
              refine r_istore (dk kX9_vote_p1 13 rfl) (by decide) rfl ?_
              simp only [List.set_cons_succ, List.set_cons_zero]
              refine r_aload_n (dk kX9_vote_p1 14 rfl) rfl ?_
              refine r_iload (dk kX9_vote_p1 15 rfl) rfl ?_
              refine r_iload (dk kX9_vote_p1 16 rfl) rfl ?_
              refine r_aload_n (dk kX9_vote_p1 17 rfl) rfl ?_
              refine r_iload (dk kX9_vote_p1 18 rfl) rfl ?_
              refine r_iload (dk kX9_vote_p1 19 rfl) rfl ?_
              refine r_callVp (I' := IX9_of) (as := [_, _]) (dk kX9_vote_p1 20 rfl) mv_X9_of ml_X9_106 rfl rfl oX.k rfl rfl (Nat.le_of_ble_eq_true rfl) ⟨by decide, by decide⟩ ⟨rfl, rfl⟩ ⟨Nat.le_of_ble_eq_true rfl, Nat.le_of_ble_eq_true rfl⟩ (k_X9_of oX (p := p) (w := w) rfl (by omega) (by omega)) ?_
              -- at 138
              rw [eX, pw]
              refine r_iconst (v := 1) (dk kX9_vote_p1 21 rfl) (by decide) ?_
              refine r_iload_n (dk kX9_vote_p1 22 rfl) rfl ?_
              refine r_ishl (dk kX9_vote_p1 23 rfl) ?_
              refine r_ior (dk kX9_vote_p1 24 rfl) ?_
              -- at 142
              rw [nI_sh1 i (by omega), nI_or]
              refine r_callVu (I' := IX9_lays) (as := [_, _, _]) (dk kX9_vote_p1 25 rfl) mv_X9_lays ml_X9_116 rfl rfl oX.k rfl rfl (Nat.le_of_ble_eq_true rfl) ⟨by decide, by decide⟩ ⟨rfl, rfl⟩ ⟨Nat.le_of_ble_eq_true rfl, Nat.le_of_ble_eq_true rfl⟩ (k_X9_lays oX (p := p) (w := w) rfl (by omega) (by omega)) ?_
              -- at 145
              rw [sI_as _ _ _ _ eX]
              refine r_aload_n (dk kX9_vote_p1 26 rfl) rfl ?_
              refine r_iload (dk kX9_vote_p1 27 rfl) rfl ?_
              refine r_callVp (I' := IX9_votes) (as := [_]) (dk kX9_vote_p1 28 rfl) mv_X9_votes ml_X9_123 rfl rfl oX.k rfl rfl (Nat.le_of_ble_eq_true rfl) ⟨by decide, by decide⟩ ⟨rfl, rfl⟩ ⟨Nat.le_of_ble_eq_true rfl, Nat.le_of_ble_eq_true rfl⟩ (k_X9_votes (M := sA X (h + 1) _) oX (F := F) (p := p) (by rw [mi_sA_s]; exact gv w hw) (by rw [mi_sA_s, gn_eq (va_up_ne _ _ (by omega))]; exact hp)) ?_
              refine r_ireturn (dk kX9_vote_p1 29 rfl) rfl rfl ⟨Nat.le_of_ble_eq_true rfl, Nat.le_of_ble_eq_true rfl⟩ ⟨by rw [mi_sA_s]; rfl, rfl⟩
            by_cases hb0 : b = 0
            · rw [if_pos hb0]
              refine r_iload_n (dk kX9_vote_p1 8 rfl) rfl ?_
              refine r_if_eq (tgt := 121) (dk kX9_vote_p1 9 rfl) (by decide) (fun c114 => ?_) (fun c114 => absurd hb0 c114)
              refine r_bipush (v := 6) (dk kX9_vote_p1 12 rfl) (by decide) ?_
              -- at 123
              exact fin 6 (Or.inr rfl) p6
            · rw [if_neg hb0]
              refine r_iload_n (dk kX9_vote_p1 8 rfl) rfl ?_
              refine r_if_eq (tgt := 121) (dk kX9_vote_p1 9 rfl) (by decide) (fun c114 => absurd c114 hb0) (fun c114 => ?_)
              refine r_iconst (v := 5) (dk kX9_vote_p1 10 rfl) (by decide) ?_
              refine r_goto (tgt := 123) (dk kX9_vote_p1 11 rfl) (by decide) ?_
              -- at 123
              exact fin 5 (Or.inl rfl) p5
theorem k_X9_cite (o : MO M h) {F : Nat} (gi : GI F (mi M (h + 1))) (hk : nb (mi M h) 5 9) (x r : Int32) : KE G IX9_cite [.ref h, .int x, .int r] M (sp_cite (mi M (h + 1)) x r).2.2.1 (mOut (mFail M h 0) h (sp_cite (mi M (h + 1)) x r)) := by
  refine KK.ofW (by decide) (by simp [Value.category]) (Nat.le_of_ble_eq_true rfl) rfl ?_
  show WW _ _ _ 0 [_, _, _, lj, lj, lj] [] _ _ _
  obtain ⟨hS, hS2⟩ := gi.r
  have e1 := mf1 M h 0
  refine r_aload_n (dk kX9_cite_p0 0 rfl) rfl ?_
  refine r_iload_n (dk kX9_cite_p0 1 rfl) rfl ?_
  refine r_callVp (I' := IX9_placeOf) (as := [_]) (dk kX9_cite_p0 2 rfl) mv_X9_placeOf ml_X9_110 rfl rfl o.k rfl rfl (Nat.le_of_ble_eq_true rfl) ⟨by decide, by decide⟩ ⟨rfl, rfl⟩ ⟨Nat.le_of_ble_eq_true rfl, Nat.le_of_ble_eq_true rfl⟩ (k_X9_placeOf o gi x) ?_
  refine r_istore_n (j := 3) (dk kX9_cite_p0 3 rfl) rfl (by decide) rfl ?_
  simp only [List.set_cons_succ, List.set_cons_zero]
  -- at 6
  cases ep : gPlace (mi M (h + 1)) x with
  | none =>
    rw [show sp_cite (mi M (h + 1)) x r = cThr 1 by unfold sp_cite; rw [ep]]
    refine r_aload_n (dk kX9_cite_p0 4 rfl) rfl ?_
    refine r_iload_n (dk kX9_cite_p0 5 rfl) rfl ?_
    refine r_if_lt (tgt := 19) (dk kX9_cite_p0 6 rfl) (by decide) (fun c8 => ?_) (fun c8 => absurd (by decide) c8)
    refine r_iconst (v := 1) (dk kX9_cite_p0 11 rfl) (by decide) ?_
    refine r_goto (tgt := 24) (dk kX9_cite_p0 12 rfl) (by decide) ?_
    refine r_callVp (I' := IX9_fails) (as := [_]) (dk kX9_cite_p0 14 rfl) mv_X9_fails ml_X9_80 rfl rfl o.k rfl rfl (Nat.le_of_ble_eq_true rfl) ⟨by decide, by decide⟩ ⟨rfl, rfl⟩ ⟨Nat.le_of_ble_eq_true rfl, Nat.le_of_ble_eq_true rfl⟩ (k_X9_fails o _) ?_
    refine r_if_eq (tgt := 32) (dk kX9_cite_p0 15 rfl) (by decide) (fun c27 => absurd c27 (by decide)) (fun c27 => ?_)
    refine r_iconst (v := 0) (dk kX9_cite_p0 16 rfl) (by decide) ?_
    refine r_ireturn (dk kX9_cite_p0 17 rfl) rfl rfl ⟨Nat.le_of_ble_eq_true rfl, Nat.le_of_ble_eq_true rfl⟩ ⟨rfl, (mOut_thr (by decide)).symm⟩
  | some p =>
    have hp := fx_lt ep
    have hp8 := gi.p.2
    refine r_aload_n (dk kX9_cite_p0 4 rfl) rfl ?_
    refine r_iload_n (dk kX9_cite_p0 5 rfl) rfl ?_
    refine r_if_lt (tgt := 19) (dk kX9_cite_p0 6 rfl) (by decide) (fun c8 => absurd c8 (nI_pos (by omega))) (fun c8 => ?_)
    -- at 11
    rcases ixo_c (n := gn (mi M (h + 1)) 5) (by omega) r with ⟨e, hb⟩ | ⟨i, hi, rfl, e, hb⟩
    · rw [show sp_cite (mi M (h + 1)) x r = cThr 1 by unfold sp_cite; rw [ep]; simp only; rw [e]]
      refine r_aload_n (dk kX9_cite_p0 7 rfl) rfl ?_
      refine r_iload_n (dk kX9_cite_p0 8 rfl) rfl ?_
      refine r_callVp (I' := IX9_isRuling) (as := [_]) (dk kX9_cite_p0 9 rfl) mv_X9_isRuling ml_X9_126 rfl rfl o.k rfl rfl (Nat.le_of_ble_eq_true rfl) ⟨by decide, by decide⟩ ⟨rfl, rfl⟩ ⟨Nat.le_of_ble_eq_true rfl, Nat.le_of_ble_eq_true rfl⟩ (k_X9_isRuling o r) ?_
      refine r_if_ne (tgt := 23) (dk kX9_cite_p0 10 rfl) (by decide) (fun c16 => absurd c16 (by rw [hS, bI_f hb]; exact fun z => z rfl)) (fun c16 => ?_)
      refine r_iconst (v := 1) (dk kX9_cite_p0 11 rfl) (by decide) ?_
      refine r_goto (tgt := 24) (dk kX9_cite_p0 12 rfl) (by decide) ?_
      refine r_callVp (I' := IX9_fails) (as := [_]) (dk kX9_cite_p0 14 rfl) mv_X9_fails ml_X9_80 rfl rfl o.k rfl rfl (Nat.le_of_ble_eq_true rfl) ⟨by decide, by decide⟩ ⟨rfl, rfl⟩ ⟨Nat.le_of_ble_eq_true rfl, Nat.le_of_ble_eq_true rfl⟩ (k_X9_fails o _) ?_
      refine r_if_eq (tgt := 32) (dk kX9_cite_p0 15 rfl) (by decide) (fun c27 => absurd c27 (by decide)) (fun c27 => ?_)
      refine r_iconst (v := 0) (dk kX9_cite_p0 16 rfl) (by decide) ?_
      refine r_ireturn (dk kX9_cite_p0 17 rfl) rfl rfl ⟨Nat.le_of_ble_eq_true rfl, Nat.le_of_ble_eq_true rfl⟩ ⟨rfl, (mOut_thr (by decide)).symm⟩
    · have esp : sp_cite (mi M (h + 1)) x (nI i) = (if gCited (mi M (h + 1)) p i = true then cDen 2 7 (nI i) else if gn (mi M (h + 1)) (35 + 11 * p + 7) = 3 then cDen 2 1 3 else cOk (nI (gn (mi M (h + 1)) (35 + 11 * p + 7) + 1)) (gCite (mi M (h + 1)) p i)) := by
        unfold sp_cite; rw [ep]; simp only; rw [e]
      obtain ⟨-, -, -, -, -, -, -, ⟨p7, p7'⟩, p8⟩ := gi.pi hp
      refine r_aload_n (dk kX9_cite_p0 7 rfl) rfl ?_
      refine r_iload_n (dk kX9_cite_p0 8 rfl) rfl ?_
      refine r_callVp (I' := IX9_isRuling) (as := [_]) (dk kX9_cite_p0 9 rfl) mv_X9_isRuling ml_X9_126 rfl rfl o.k rfl rfl (Nat.le_of_ble_eq_true rfl) ⟨by decide, by decide⟩ ⟨rfl, rfl⟩ ⟨Nat.le_of_ble_eq_true rfl, Nat.le_of_ble_eq_true rfl⟩ (k_X9_isRuling o _) ?_
      refine r_if_ne (tgt := 23) (dk kX9_cite_p0 10 rfl) (by decide) (fun c16 => ?_) (fun c16 => absurd (by rw [hS, bI_t hb]; decide) c16)
      refine r_iconst (v := 0) (dk kX9_cite_p0 13 rfl) (by decide) ?_
      refine r_callVp (I' := IX9_fails) (as := [_]) (dk kX9_cite_p0 14 rfl) mv_X9_fails ml_X9_80 rfl rfl o.k rfl rfl (Nat.le_of_ble_eq_true rfl) ⟨by decide, by decide⟩ ⟨rfl, rfl⟩ ⟨Nat.le_of_ble_eq_true rfl, Nat.le_of_ble_eq_true rfl⟩ (k_X9_fails o _) ?_
      refine r_if_eq (tgt := 32) (dk kX9_cite_p0 15 rfl) (by decide) (fun c27 => ?_) (fun c27 => absurd (by decide) c27)
      refine r_aload_n (dk kX9_cite_p0 18 rfl) rfl ?_
      refine r_iload_n (dk kX9_cite_p0 19 rfl) rfl ?_
      refine r_bipush (v := 7) (dk kX9_cite_p0 20 rfl) (by decide) ?_
      refine r_callVp (I' := IX9_of) (as := [_, _]) (dk kX9_cite_p0 21 rfl) mv_X9_of ml_X9_106 rfl rfl o.k rfl rfl (Nat.le_of_ble_eq_true rfl) ⟨by decide, by decide⟩ ⟨rfl, rfl⟩ ⟨Nat.le_of_ble_eq_true rfl, Nat.le_of_ble_eq_true rfl⟩ (k_X9_of (o.fl _) (p := p) (w := 7) rfl (by omega) (by decide)) ?_
      -- at 39
      rw [e1, p7]
      refine r_istore (dk kX9_cite_p0 22 rfl) (by decide) rfl ?_
      simp only [List.set_cons_succ, List.set_cons_zero]
      refine r_iconst (v := 0) (dk kX9_cite_p0 23 rfl) (by decide) ?_
      refine r_istore (dk kX9_cite_p0 24 rfl) (by decide) rfl ?_
      simp only [List.set_cons_succ, List.set_cons_zero]
      -- at 44
      suffices key : ∀ d j, j + d = gn (mi M (h + 1)) (35 + 11 * p + 7) → (∀ c, c < j → decide (mi M (h + 1) (35 + 11 * p + 8 + c) = nI i) = false) → WW G IX9_cite (qi (fun y M' => y = (sp_cite (mi M (h + 1)) x (nI i)).2.2.1 ∧ M' = mOut (mFail M h 0) h (sp_cite (mi M (h + 1)) x (nI i))) nox) 44 [.ref h, .int x, .int (nI i), .int (nI p), .int (nI (gn (mi M (h + 1)) (35 + 11 * p + 7))), .int (nI j)] [] (mFail M h 0) 0 0 from key _ 0 (Nat.zero_add _) (fun c hc => absurd hc (Nat.not_lt_zero c))
      intro d
      induction d with
      | zero =>
        intro j hj hn
        have hj : j = gn (mi M (h + 1)) (35 + 11 * p + 7) := hj
        rw [hj] at hn ⊢
        rw [if_neg (show ¬ gCited (mi M (h + 1)) p i = true by unfold gCited; rw [fx_none.mpr hn]; decide)] at esp
        refine r_iload (dk kX9_cite_p0 25 rfl) rfl ?_
        refine r_iload (dk kX9_cite_p0 26 rfl) rfl ?_
        refine r_icmp_ge (tgt := 80) (dk kX9_cite_p0 27 rfl) (by decide) (fun c48 => ?_) (fun c48 => absurd (Int32.le_refl _) c48)
        refine r_iload (dk kX9_cite_p0 44 rfl) rfl ?_
        refine r_iconst (v := 3) (dk kX9_cite_p0 45 rfl) (by decide) ?_
        -- at 83
        by_cases h3 : gn (mi M (h + 1)) (35 + 11 * p + 7) = 3
        · rw [if_pos h3] at esp
          rw [esp]
          refine r_icmp_ne (tgt := 94) (dk kX9_cite_p0 46 rfl) (by decide) (fun c83 => absurd c83 (by rw [h3]; exact fun z => z rfl)) (fun c83 => ?_)
          refine r_aload_n (dk kX9_cite_p0 47 rfl) rfl ?_
          refine r_iconst (v := 2) (dk kX9_cite_p0 48 rfl) (by decide) ?_
          refine r_iconst (v := 1) (dk kX9_cite_p0 49 rfl) (by decide) ?_
          refine r_iconst (v := 3) (dk kX9_cite_p0 50 rfl) (by decide) ?_
          refine r_callVp (I' := IX9_denies) (as := [_, _, _]) (dk kX9_cite_p0 51 rfl) mv_X9_denies ml_X9_86 rfl rfl o.k rfl rfl (Nat.le_of_ble_eq_true rfl) ⟨by decide, by decide⟩ ⟨rfl, rfl⟩ ⟨Nat.le_of_ble_eq_true rfl, Nat.le_of_ble_eq_true rfl⟩ (k_X9_denies (o.fl _) _ _ _) ?_
          refine r_ireturn (dk kX9_cite_p0 52 rfl) rfl rfl ⟨Nat.le_of_ble_eq_true rfl, Nat.le_of_ble_eq_true rfl⟩ ⟨rfl, (mOut_den (by decide) (by decide)).symm⟩
        · rw [if_neg h3] at esp
          rw [esp, mOut_ok]
          refine r_icmp_ne (tgt := 94) (dk kX9_cite_p0 46 rfl) (by decide) (fun c83 => ?_) (fun c83 => absurd (fun z => h3 (nI_inj (by omega) (by decide) z)) c83)
          refine r_aload_n (dk kX9_cite_p0 53 rfl) rfl ?_
          refine r_aload_n (dk kX9_cite_p0 54 rfl) rfl ?_
          refine r_getR (dk kX9_cite_p0 55 rfl) fa_X9_7_8 o.k rfl (o.fl _).r0 ?_
          refine r_callVu (I' := IX9_keeps) (as := [_]) (dk kX9_cite_p0 56 rfl) mv_X9_keeps ml_X9_90 rfl rfl o.k rfl rfl (Nat.le_of_ble_eq_true rfl) ⟨by decide, by decide⟩ ⟨rfl, rfl⟩ ⟨Nat.le_of_ble_eq_true rfl, Nat.le_of_ble_eq_true rfl⟩ (k_X9_keepsG (o.fl _) (nbF hk 0)) ?_
          -- at 102
          have oX := (o.fl 0).keep (h + 1)
          have eX : mi (mKeep (mFail M h 0) h (h + 1)) (h + 1) = mi M (h + 1) := by rw [mKeep1, e1]
          clear esp hn
          generalize mKeep (mFail M h 0) h (h + 1) = X at *
          generalize mi M (h + 1) = g at *
          refine r_aload_n (dk kX9_cite_p0 57 rfl) rfl ?_
          refine r_iload_n (dk kX9_cite_p0 58 rfl) rfl ?_
          refine r_bipush (v := 8) (dk kX9_cite_p0 59 rfl) (by decide) ?_
          refine r_iload (dk kX9_cite_p1 0 rfl) rfl ?_
          refine r_iadd (dk kX9_cite_p1 1 rfl) ?_
          refine r_iload_n (dk kX9_cite_p1 2 rfl) rfl ?_
          refine r_callVu (I' := IX9_lays) (as := [_, _, _]) (dk kX9_cite_p1 3 rfl) mv_X9_lays ml_X9_116 rfl rfl oX.k rfl rfl (Nat.le_of_ble_eq_true rfl) ⟨by decide, by decide⟩ ⟨rfl, rfl⟩ ⟨Nat.le_of_ble_eq_true rfl, Nat.le_of_ble_eq_true rfl⟩ (k_X9_lays oX (p := p) (w := 8 + gn g (35 + 11 * p + 7)) (ixd rfl) (by omega) (by omega)) ?_
          -- at 113
          rw [sI_as _ _ _ _ eX, ← Nat.add_assoc (35 + 11 * p) 8]
          refine r_aload_n (dk kX9_cite_p1 4 rfl) rfl ?_
          refine r_iload_n (dk kX9_cite_p1 5 rfl) rfl ?_
          refine r_bipush (v := 7) (dk kX9_cite_p1 6 rfl) (by decide) ?_
          refine r_iload (dk kX9_cite_p1 7 rfl) rfl ?_
          refine r_iconst (v := 1) (dk kX9_cite_p1 8 rfl) (by decide) ?_
          refine r_iadd (dk kX9_cite_p1 9 rfl) ?_
          -- at 121
          rw [show nI (gn g (35 + 11 * p + 7)) + 1 = nI (gn g (35 + 11 * p + 7) + 1) from nI_1 _]
          refine r_callVu (I' := IX9_lays) (as := [_, _, _]) (dk kX9_cite_p1 10 rfl) mv_X9_lays ml_X9_116 rfl rfl oX.k rfl rfl (Nat.le_of_ble_eq_true rfl) ⟨by decide, by decide⟩ ⟨rfl, rfl⟩ ⟨Nat.le_of_ble_eq_true rfl, Nat.le_of_ble_eq_true rfl⟩ (k_X9_lays (M := sA X (h + 1) _) oX (p := p) (w := 7) rfl (by omega) (by omega)) ?_
          refine r_iload (dk kX9_cite_p1 11 rfl) rfl ?_
          refine r_iconst (v := 1) (dk kX9_cite_p1 12 rfl) (by decide) ?_
          -- at 127
          rw [sI_sA]
          refine r_iadd (dk kX9_cite_p1 13 rfl) ?_
          refine r_ireturn (dk kX9_cite_p1 14 rfl) rfl rfl ⟨Nat.le_of_ble_eq_true rfl, Nat.le_of_ble_eq_true rfl⟩ ⟨nI_1 _, rfl⟩
      | succ d ih =>
        intro j hj hn
        refine r_iload (dk kX9_cite_p0 25 rfl) rfl ?_
        refine r_iload (dk kX9_cite_p0 26 rfl) rfl ?_
        refine r_icmp_ge (tgt := 80) (dk kX9_cite_p0 27 rfl) (by decide) (fun c48 => absurd c48 (nI_ge (by omega) (by omega))) (fun c48 => ?_)
        refine r_aload_n (dk kX9_cite_p0 28 rfl) rfl ?_
        refine r_iload_n (dk kX9_cite_p0 29 rfl) rfl ?_
        refine r_bipush (v := 8) (dk kX9_cite_p0 30 rfl) (by decide) ?_
        refine r_iload (dk kX9_cite_p0 31 rfl) rfl ?_
        refine r_iadd (dk kX9_cite_p0 32 rfl) ?_
        refine r_callVp (I' := IX9_of) (as := [_, _]) (dk kX9_cite_p0 33 rfl) mv_X9_of ml_X9_106 rfl rfl o.k rfl rfl (Nat.le_of_ble_eq_true rfl) ⟨by decide, by decide⟩ ⟨rfl, rfl⟩ ⟨Nat.le_of_ble_eq_true rfl, Nat.le_of_ble_eq_true rfl⟩ (k_X9_of (o.fl _) (p := p) (w := 8 + j) (ixd rfl) (by omega) (by omega)) ?_
        -- at 61
        rw [e1, ← Nat.add_assoc (35 + 11 * p) 8]
        refine r_iload_n (dk kX9_cite_p0 34 rfl) rfl ?_
        refine r_icmp_ne (tgt := 74) (dk kX9_cite_p0 35 rfl) (by decide) (fun c62 => ?_) (fun c62 => ?_)
        · refine r_iinc (dk kX9_cite_p0 42 rfl) (by decide) rfl rfl rfl ?_
          simp only [List.set_cons_succ, List.set_cons_zero]
          refine r_goto (tgt := 44) (dk kX9_cite_p0 43 rfl) (by decide) ?_
          -- at 44
          rw [show nI j + Int32.ofInt 1 = nI (j + 1) from nI_1 j]
          exact ih (j + 1) (by omega) (fun c hc => by
            rcases Nat.lt_succ_iff_lt_or_eq.mp hc with q | q
            · exact hn c q
            · rw [q]; exact decide_eq_false c62)
        · rw [if_pos (show gCited (mi M (h + 1)) p i = true by unfold gCited; rw [fx_some.mpr ⟨by omega, decide_eq_true (Decidable.not_not.mp c62), hn⟩]; rfl)] at esp
          rw [esp]
          refine r_aload_n (dk kX9_cite_p0 36 rfl) rfl ?_
          refine r_iconst (v := 2) (dk kX9_cite_p0 37 rfl) (by decide) ?_
          refine r_bipush (v := 7) (dk kX9_cite_p0 38 rfl) (by decide) ?_
          refine r_iload_n (dk kX9_cite_p0 39 rfl) rfl ?_
          refine r_callVp (I' := IX9_denies) (as := [_, _, _]) (dk kX9_cite_p0 40 rfl) mv_X9_denies ml_X9_86 rfl rfl o.k rfl rfl (Nat.le_of_ble_eq_true rfl) ⟨by decide, by decide⟩ ⟨rfl, rfl⟩ ⟨Nat.le_of_ble_eq_true rfl, Nat.le_of_ble_eq_true rfl⟩ (k_X9_denies (o.fl _) _ _ _) ?_
          refine r_ireturn (dk kX9_cite_p0 41 rfl) rfl rfl ⟨Nat.le_of_ble_eq_true rfl, Nat.le_of_ble_eq_true rfl⟩ ⟨rfl, (mOut_den (by decide) (by decide)).symm⟩
end MODEL
