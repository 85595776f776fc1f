/-! THE REFERENCE: decide -/
section MODEL
variable {G : GG} {M : Mm} {h : Nat}
theorem k_X9_decide (o : MO M h) {F : Nat} (gi : GI F (mi M (h + 1))) (hk : nb (mi M h) 5 9) : KE G IX9_decide [.ref h] M (sp_decide (mi M (h + 1))).2.2.1 (mOut M h (sp_decide (mi M (h + 1)))) := by
  refine KK.ofW (by decide) (by simp [Value.category]) (Nat.le_of_ble_eq_true rfl) rfl ?_
  show WW _ _ _ 0 [_, lj, lj, lj, lj, lj, lj] [] _ _ _
  have gp := gi.p
  obtain ⟨hR, hR2⟩ := gi.r
  obtain ⟨hQ, hQ2⟩ := gi.q
  refine r_aload_n (dk kX9_decide_p0 0 rfl) rfl ?_
  refine r_iconst (v := 0) (dk kX9_decide_p0 1 rfl) (by decide) ?_
  refine r_callVp (I' := IX9_queued) (as := [_]) (dk kX9_decide_p0 2 rfl) mv_X9_queued ml_X9_143 rfl rfl o.k rfl rfl (Nat.le_of_ble_eq_true rfl) ⟨by decide, by decide⟩ ⟨rfl, rfl⟩ ⟨Nat.le_of_ble_eq_true rfl, Nat.le_of_ble_eq_true rfl⟩ (k_X9_queued o gi 0) ?_
  -- at 5
  cases eq : gQueued (mi M (h + 1)) 0 with
  | none =>
    rw [show sp_decide (mi M (h + 1)) = cDen 1 9 (mi M (h + 1) 5) by unfold sp_decide; rw [eq]]
    refine r_istore_n (j := 1) (dk kX9_decide_p0 3 rfl) rfl (by decide) rfl ?_
    simp only [List.set_cons_succ, List.set_cons_zero]
    refine r_iload_n (dk kX9_decide_p0 4 rfl) rfl ?_
    refine r_if_ge (tgt := 24) (dk kX9_decide_p0 5 rfl) (by decide) (fun c7 => absurd c7 (by decide)) (fun c7 => ?_)
    refine r_aload_n (dk kX9_decide_p0 6 rfl) rfl ?_
    refine r_iconst (v := 1) (dk kX9_decide_p0 7 rfl) (by decide) ?_
    refine r_bipush (v := 9) (dk kX9_decide_p0 8 rfl) (by decide) ?_
    refine r_aload_n (dk kX9_decide_p0 9 rfl) rfl ?_
    refine r_getR (dk kX9_decide_p0 10 rfl) fa_X9_7_8 o.k rfl o.r0 ?_
    refine r_iconst (v := 5) (dk kX9_decide_p0 11 rfl) (by decide) ?_
    refine r_ial (dk kX9_decide_p0 12 rfl) o.k1 o.l1 (j := 5) rfl (by decide) (by decide) ?_
    refine r_callVp (I' := IX9_denies) (as := [_, _, _]) (dk kX9_decide_p0 13 rfl) mv_X9_denies ml_X9_86 rfl rfl o.k rfl rfl (Nat.le_of_ble_eq_true rfl) ⟨by decide, by decide⟩ ⟨rfl, rfl⟩ ⟨Nat.le_of_ble_eq_true rfl, Nat.le_of_ble_eq_true rfl⟩ (k_X9_denies o _ _ _) ?_
    refine r_ireturn (dk kX9_decide_p0 14 rfl) rfl rfl ⟨Nat.le_of_ble_eq_true rfl, Nat.le_of_ble_eq_true rfl⟩ ⟨rfl, (mOut_den (by decide) (by decide)).symm⟩
  | some p =>
    have hp := fx_lt eq
    have hp8 := gp.2
    obtain ⟨-, -, ⟨p2, p2'⟩, ⟨p3, p3'⟩, -⟩ := gi.pi hp
    have hs := gi.s.2
    have hv12 : gVotes (mi M (h + 1)) p < 16 := by
      have := bN_le (gn (mi M (h + 1)) (35 + 11 * p + 5))
      have := bN_le (gn (mi M (h + 1)) (35 + 11 * p + 6))
      unfold gVotes gFor gAg
      omega
    have esp : sp_decide (mi M (h + 1)) = (if gVotes (mi M (h + 1)) p < gn (mi M (h + 1)) 2 then cDen 1 10 (nI (gVotes (mi M (h + 1)) p)) else if gn (mi M (h + 1)) 5 = 16 then cDen 1 1 16 else cOk (nI (gn (mi M (h + 1)) 5)) (gDecide (mi M (h + 1)) p)) := by
      unfold sp_decide; rw [eq]
    refine r_istore_n (j := 1) (dk kX9_decide_p0 3 rfl) rfl (by decide) rfl ?_
    simp only [List.set_cons_succ, List.set_cons_zero]
    refine r_iload_n (dk kX9_decide_p0 4 rfl) rfl ?_
    refine r_if_ge (tgt := 24) (dk kX9_decide_p0 5 rfl) (by decide) (fun c7 => ?_) (fun c7 => absurd (nI_pos' (by omega)) c7)
    refine r_aload_n (dk kX9_decide_p0 15 rfl) rfl ?_
    refine r_iload_n (dk kX9_decide_p0 16 rfl) rfl ?_
    refine r_callVp (I' := IX9_votes) (as := [_]) (dk kX9_decide_p0 17 rfl) mv_X9_votes ml_X9_123 rfl rfl o.k rfl rfl (Nat.le_of_ble_eq_true rfl) ⟨by decide, by decide⟩ ⟨rfl, rfl⟩ ⟨Nat.le_of_ble_eq_true rfl, Nat.le_of_ble_eq_true rfl⟩ (k_X9_votes o gi hp) ?_
    refine r_aload_n (dk kX9_decide_p0 18 rfl) rfl ?_
    refine r_getR (dk kX9_decide_p0 19 rfl) fa_X9_7_8 o.k rfl o.r0 ?_
    refine r_iconst (v := 2) (dk kX9_decide_p0 20 rfl) (by decide) ?_
    refine r_ial (dk kX9_decide_p0 21 rfl) o.k1 o.l1 (j := 2) rfl (by decide) (by decide) ?_
    -- at 35
    rw [hQ]
    by_cases hv : gVotes (mi M (h + 1)) p < gn (mi M (h + 1)) 2
    · rw [if_pos hv] at esp
      rw [esp]
      refine r_icmp_ge (tgt := 51) (dk kX9_decide_p0 22 rfl) (by decide) (fun c35 => absurd c35 (nI_ge hv (by omega))) (fun c35 => ?_)
      refine r_aload_n (dk kX9_decide_p0 23 rfl) rfl ?_
      refine r_iconst (v := 1) (dk kX9_decide_p0 24 rfl) (by decide) ?_
      refine r_bipush (v := 10) (dk kX9_decide_p0 25 rfl) (by decide) ?_
      refine r_aload_n (dk kX9_decide_p0 26 rfl) rfl ?_
      refine r_iload_n (dk kX9_decide_p0 27 rfl) rfl ?_
      refine r_callVp (I' := IX9_votes) (as := [_]) (dk kX9_decide_p0 28 rfl) mv_X9_votes ml_X9_123 rfl rfl o.k rfl rfl (Nat.le_of_ble_eq_true rfl) ⟨by decide, by decide⟩ ⟨rfl, rfl⟩ ⟨Nat.le_of_ble_eq_true rfl, Nat.le_of_ble_eq_true rfl⟩ (k_X9_votes o gi hp) ?_
      refine r_callVp (I' := IX9_denies) (as := [_, _, _]) (dk kX9_decide_p0 29 rfl) mv_X9_denies ml_X9_86 rfl rfl o.k rfl rfl (Nat.le_of_ble_eq_true rfl) ⟨by decide, by decide⟩ ⟨rfl, rfl⟩ ⟨Nat.le_of_ble_eq_true rfl, Nat.le_of_ble_eq_true rfl⟩ (k_X9_denies o _ _ _) ?_
      refine r_ireturn (dk kX9_decide_p0 30 rfl) rfl rfl ⟨Nat.le_of_ble_eq_true rfl, Nat.le_of_ble_eq_true rfl⟩ ⟨rfl, (mOut_den (by decide) (by decide)).symm⟩
    · rw [if_neg hv] at esp
      refine r_icmp_ge (tgt := 51) (dk kX9_decide_p0 22 rfl) (by decide) (fun c35 => ?_) (fun c35 => absurd (nI_le (by omega) (by omega)) c35)
      refine r_aload_n (dk kX9_decide_p0 31 rfl) rfl ?_
      refine r_getR (dk kX9_decide_p0 32 rfl) fa_X9_7_8 o.k rfl o.r0 ?_
      refine r_iconst (v := 5) (dk kX9_decide_p0 33 rfl) (by decide) ?_
      refine r_ial (dk kX9_decide_p0 34 rfl) o.k1 o.l1 (j := 5) rfl (by decide) (by decide) ?_
      refine r_bipush (v := 16) (dk kX9_decide_p0 35 rfl) (by decide) ?_
      -- at 59
      rw [hR]
      by_cases h16 : gn (mi M (h + 1)) 5 = 16
      · rw [if_pos h16] at esp
        rw [esp]
        refine r_icmp_ne (tgt := 71) (dk kX9_decide_p0 36 rfl) (by decide) (fun c59 => absurd c59 (by rw [h16]; exact fun z => z rfl)) (fun c59 => ?_)
        refine r_aload_n (dk kX9_decide_p0 37 rfl) rfl ?_
        refine r_iconst (v := 1) (dk kX9_decide_p0 38 rfl) (by decide) ?_
        refine r_iconst (v := 1) (dk kX9_decide_p0 39 rfl) (by decide) ?_
        refine r_bipush (v := 16) (dk kX9_decide_p0 40 rfl) (by decide) ?_
        refine r_callVp (I' := IX9_denies) (as := [_, _, _]) (dk kX9_decide_p0 41 rfl) mv_X9_denies ml_X9_86 rfl rfl o.k rfl rfl (Nat.le_of_ble_eq_true rfl) ⟨by decide, by decide⟩ ⟨rfl, rfl⟩ ⟨Nat.le_of_ble_eq_true rfl, Nat.le_of_ble_eq_true rfl⟩ (k_X9_denies o _ _ _) ?_
        refine r_ireturn (dk kX9_decide_p0 42 rfl) rfl rfl ⟨Nat.le_of_ble_eq_true rfl, Nat.le_of_ble_eq_true rfl⟩ ⟨rfl, (mOut_den (by decide) (by decide)).symm⟩
      · rw [if_neg h16] at esp
        rw [esp, mOut_ok]
        refine r_icmp_ne (tgt := 71) (dk kX9_decide_p0 36 rfl) (by decide) (fun c59 => ?_) (fun c59 => absurd (fun z => h16 (nI_inj (by omega) (by decide) z)) c59)
        refine r_aload_n (dk kX9_decide_p0 43 rfl) rfl ?_
        refine r_aload_n (dk kX9_decide_p0 44 rfl) rfl ?_
        refine r_getR (dk kX9_decide_p0 45 rfl) fa_X9_7_8 o.k rfl o.r0 ?_
        refine r_callVu (I' := IX9_keeps) (as := [_]) (dk kX9_decide_p0 46 rfl) mv_X9_keeps ml_X9_90 rfl rfl o.k rfl rfl (Nat.le_of_ble_eq_true rfl) ⟨by decide, by decide⟩ ⟨rfl, rfl⟩ ⟨Nat.le_of_ble_eq_true rfl, Nat.le_of_ble_eq_true rfl⟩ (k_X9_keepsG o hk) ?_
        -- at 79
        have oX := o.keep (h + 1)
        have eX : mi (mKeep M h (h + 1)) (h + 1) = mi M (h + 1) := by rw [mKeep1]
        clear esp
        generalize mKeep M h (h + 1) = X at *
        generalize mi M (h + 1) = g at *
        have gX : GI F (mi X (h + 1)) := by rw [eX]; exact gi
        generalize hS : gn g (35 + 11 * p + 2) = S at *
        generalize hN : gn g 5 = R at *
        refine r_aload_n (dk kX9_decide_p0 47 rfl) rfl ?_
        refine r_iload_n (dk kX9_decide_p0 48 rfl) rfl ?_
        refine r_iconst (v := 2) (dk kX9_decide_p0 49 rfl) (by decide) ?_
        refine r_callVp (I' := IX9_of) (as := [_, _]) (dk kX9_decide_p0 50 rfl) mv_X9_of ml_X9_106 rfl rfl oX.k rfl rfl (Nat.le_of_ble_eq_true rfl) ⟨by decide, by decide⟩ ⟨rfl, rfl⟩ ⟨Nat.le_of_ble_eq_true rfl, Nat.le_of_ble_eq_true rfl⟩ (k_X9_of oX (p := p) (w := 2) rfl (by omega) (by decide)) ?_
        -- at 85
        rw [eX, p2]
        refine r_istore_n (j := 2) (dk kX9_decide_p0 51 rfl) rfl (by decide) rfl ?_
        simp only [List.set_cons_succ, List.set_cons_zero]
        refine r_aload_n (dk kX9_decide_p0 52 rfl) rfl ?_
        refine r_iload_n (dk kX9_decide_p0 53 rfl) rfl ?_
        refine r_callVp (I' := IX9_wins) (as := [_]) (dk kX9_decide_p0 54 rfl) mv_X9_wins ml_X9_149 rfl rfl oX.k rfl rfl (Nat.le_of_ble_eq_true rfl) ⟨by decide, by decide⟩ ⟨rfl, rfl⟩ ⟨Nat.le_of_ble_eq_true rfl, Nat.le_of_ble_eq_true rfl⟩ (k_X9_wins oX gX (p := p) (by rw [eX]; exact hp)) ?_
        -- at 91
        rw [eX]
        -- behind the move
        have fin4 : ∀ y z w v : Int32, WW G IX9_decide (qi (fun y M' => y = nI R ∧ M' = sA X (h + 1) (gDecide g p)) nox) 241 [.ref h, .int (nI p), .int (nI S), .int y, .int z, .int w, .int v] [] (sA X (h + 1) (gMove g p)) 0 0 := by
          intro y z w v
          have hm3 : gMove g p 3 = g 3 := gMove_out (by omega) (by omega) (by omega)
          refine r_aload_n (dk kX9_decide_p2 25 rfl) rfl ?_
          refine r_iload_n (dk kX9_decide_p2 26 rfl) rfl ?_
          refine r_callVu (I' := IX9_drops) (as := [_]) (dk kX9_decide_p2 27 rfl) mv_X9_drops ml_X9_129 rfl rfl oX.k rfl rfl (Nat.le_of_ble_eq_true rfl) ⟨by decide, by decide⟩ ⟨rfl, rfl⟩ ⟨Nat.le_of_ble_eq_true rfl, Nat.le_of_ble_eq_true rfl⟩ (k_X9_drops (M := sA X (h + 1) (gMove g p)) oX (p := p) (by rw [mi_sA_s]; exact nb_eq hm3 gp) (by rw [mi_sA_s, gn_eq hm3]; exact hp)) ?_
          -- at 246
          rw [sA_A, mi_sA_s]
          have h5 : gDrop (gMove g p) p 5 = nI R := by
            rw [gDrop_out (by rw [gn_eq hm3]; exact hp) (by decide) (by omega), gMove_out (by omega) (by omega) (by omega), hR]
          refine r_aload_n (dk kX9_decide_p2 28 rfl) rfl ?_
          refine r_getR (dk kX9_decide_p2 29 rfl) fa_X9_7_8 oX.k rfl oX.r0 ?_
          refine r_iconst (v := 5) (dk kX9_decide_p2 30 rfl) (by decide) ?_
          refine r_dup2 (dk kX9_decide_p2 31 rfl) rfl rfl ?_
          refine r_ial (dk kX9_decide_p2 32 rfl) oX.k1 oX.l1 (j := 5) rfl (by decide) (by decide) ?_
          -- at 253
          rw [mi_sA_s, h5]
          refine r_iconst (v := 1) (dk kX9_decide_p2 33 rfl) (by decide) ?_
          refine r_iadd (dk kX9_decide_p2 34 rfl) ?_
          -- at 255
          rw [show nI R + 1 = nI (R + 1) from nI_1 _]
          refine r_ias (dk kX9_decide_p2 35 rfl) oX.k1 oX.l1 (j := 5) rfl (by decide) (by decide) ?_
          refine r_aload_n (dk kX9_decide_p2 36 rfl) rfl ?_
          refine r_getR (dk kX9_decide_p2 37 rfl) fa_X9_7_8 oX.k rfl oX.r0 ?_
          refine r_iconst (v := 5) (dk kX9_decide_p2 38 rfl) (by decide) ?_
          refine r_ial (dk kX9_decide_p2 39 rfl) oX.k1 oX.l1 (j := 5) rfl (by decide) (by decide) ?_
          -- at 262
          rw [sI_sA]
          rw [mi_sA_s, va_up_self]
          refine r_iconst (v := 1) (dk kX9_decide_p2 40 rfl) (by decide) ?_
          refine r_isub (dk kX9_decide_p2 41 rfl) ?_
          refine r_ireturn (dk kX9_decide_p2 42 rfl) rfl rfl ⟨Nat.le_of_ble_eq_true rfl, Nat.le_of_ble_eq_true rfl⟩ ⟨nI_pred _, by unfold gDecide; rw [hN]⟩
        -- from the loop over the cited
        have fin3 : WW G IX9_decide (qi (fun y M' => y = nI R ∧ M' = sA X (h + 1) (gDecide g p)) nox) 170 [.ref h, .int (nI p), .int (nI S), .int (bI (gWins g p = true)), .int (bI (gMoved g p = true)), .int (nI (123 + 6 * R)), .int 0] [] (sA X (h + 1) (va_up (va_up g (123 + 6 * R) (bI (gWins g p = true))) (123 + 6 * R + 1) (bI (gMoved g p = true)))) 0 0 := by
          generalize hf2 : va_up (va_up g (123 + 6 * R) (bI (gWins g p = true))) (123 + 6 * R + 1) (bI (gMoved g p = true)) = f2
          suffices key : ∀ d j, j + d = 4 → WW G IX9_decide (qi (fun y M' => y = nI R ∧ M' = sA X (h + 1) (gDecide g p)) nox) 170 [.ref h, .int (nI p), .int (nI S), .int (bI (gWins g p = true)), .int (bI (gMoved g p = true)), .int (nI (123 + 6 * R)), .int (nI j)] [] (sA X (h + 1) (fun x => if 123 + 6 * R + 2 ≤ x ∧ x < 123 + 6 * R + 2 + j then g (35 + 11 * p + 7 + (x - (123 + 6 * R + 2))) else f2 x)) 0 0 by
            have h0 := key 4 0 rfl
            rw [show (fun x => if 123 + 6 * R + 2 ≤ x ∧ x < 123 + 6 * R + 2 + 0 then g (35 + 11 * p + 7 + (x - (123 + 6 * R + 2))) else f2 x) = f2 from funext fun x => if_neg (by omega)] at h0
            exact h0
          intro d
          induction d with
          | zero =>
            intro j hj
            have hj : j = 4 := hj
            subst hj
            rw [show (fun x => if 123 + 6 * R + 2 ≤ x ∧ x < 123 + 6 * R + 2 + 4 then g (35 + 11 * p + 7 + (x - (123 + 6 * R + 2))) else f2 x) = gRule g p from ?_]
            · refine r_iload (dk kX9_decide_p1 42 rfl) rfl ?_
              refine r_iconst (v := 4) (dk kX9_decide_p1 43 rfl) (by decide) ?_
              refine r_icmp_ge (tgt := 204) (dk kX9_decide_p1 44 rfl) (by decide) (fun c173 => ?_) (fun c173 => absurd (by decide) c173)
              refine r_iload (dk kX9_decide_p2 1 rfl) rfl ?_
              -- at 206
              by_cases hm : gMoved g p = true
              · rw [bI_t hm]
                have fm : gMove g p = va_up (va_up (gRule g p) (9 + 2 * S) (g (35 + 11 * p + 3))) 8 (g 8 + g (9 + 2 * S + 1)) := by
                  unfold gMove
                  rw [if_pos hm, hS]
                have ro : ∀ x, x < 123 → gRule g p x = g x := fun x hx => by
                  unfold gRule
                  rw [hN, if_neg (by omega), if_neg (by omega), if_neg (by omega)]
                refine r_if_eq (tgt := 241) (dk kX9_decide_p2 2 rfl) (by decide) (fun c206 => absurd c206 (by decide)) (fun c206 => ?_)
                refine r_aload_n (dk kX9_decide_p2 3 rfl) rfl ?_
                refine r_getR (dk kX9_decide_p2 4 rfl) fa_X9_7_8 oX.k rfl oX.r0 ?_
                refine r_bipush (v := 9) (dk kX9_decide_p2 5 rfl) (by decide) ?_
                refine r_iconst (v := 2) (dk kX9_decide_p2 6 rfl) (by decide) ?_
                refine r_iload_n (dk kX9_decide_p2 7 rfl) rfl ?_
                refine r_imul (dk kX9_decide_p2 8 rfl) ?_
                refine r_iadd (dk kX9_decide_p2 9 rfl) ?_
                refine r_aload_n (dk kX9_decide_p2 10 rfl) rfl ?_
                refine r_iload_n (dk kX9_decide_p2 11 rfl) rfl ?_
                refine r_iconst (v := 3) (dk kX9_decide_p2 12 rfl) (by decide) ?_
                refine r_callVp (I' := IX9_of) (as := [_, _]) (dk kX9_decide_p2 13 rfl) mv_X9_of ml_X9_106 rfl rfl oX.k rfl rfl (Nat.le_of_ble_eq_true rfl) ⟨by decide, by decide⟩ ⟨rfl, rfl⟩ ⟨Nat.le_of_ble_eq_true rfl, Nat.le_of_ble_eq_true rfl⟩ (k_X9_of (M := sA X (h + 1) (gRule g p)) oX (p := p) (w := 3) rfl (by omega) (by decide)) ?_
                -- at 225
                rw [mi_sA_s, ro _ (by omega)]
                refine r_ias (dk kX9_decide_p2 14 rfl) oX.k1 oX.l1 (ixa (a' := 9) (b' := 2) rfl rfl) (by omega) (by decide) ?_
                -- at 226
                rw [sI_sA]
                refine r_aload_n (dk kX9_decide_p2 15 rfl) rfl ?_
                refine r_getR (dk kX9_decide_p2 16 rfl) fa_X9_7_8 oX.k rfl oX.r0 ?_
                refine r_bipush (v := 8) (dk kX9_decide_p2 17 rfl) (by decide) ?_
                refine r_dup2 (dk kX9_decide_p2 18 rfl) rfl rfl ?_
                refine r_ial (dk kX9_decide_p2 19 rfl) oX.k1 oX.l1 (j := 8) rfl (by decide) (by decide) ?_
                -- at 234
                rw [mi_sA_s, va_up_ne _ _ (by omega), ro 8 (by decide)]
                refine r_aload_n (dk kX9_decide_p2 20 rfl) rfl ?_
                refine r_iload_n (dk kX9_decide_p2 21 rfl) rfl ?_
                refine r_callVp (I' := IX9_heavy) (as := [_]) (dk kX9_decide_p2 22 rfl) mv_X9_heavy ml_X9_97 rfl rfl oX.k rfl rfl (Nat.le_of_ble_eq_true rfl) ⟨by decide, by decide⟩ ⟨rfl, rfl⟩ ⟨Nat.le_of_ble_eq_true rfl, Nat.le_of_ble_eq_true rfl⟩ (k_X9_heavy (M := sA X (h + 1) _) oX (s := S) (by omega)) ?_
                -- at 239
                rw [mi_sA_s, va_up_ne _ _ (by omega), ro _ (by omega)]
                refine r_iadd (dk kX9_decide_p2 23 rfl) ?_
                refine r_ias (dk kX9_decide_p2 24 rfl) oX.k1 oX.l1 (j := 8) rfl (by decide) (by decide) ?_
                -- at 241
                rw [sI_sA, ← fm]
                exact fin4 _ _ _ _
              · rw [bI_f hm]
                have fm : gMove g p = gRule g p := by
                  unfold gMove
                  rw [if_neg hm]
                refine r_if_eq (tgt := 241) (dk kX9_decide_p2 2 rfl) (by decide) (fun c206 => ?_) (fun c206 => absurd (by decide) c206)
                -- at 241
                rw [← fm]
                exact fin4 _ _ _ _
            · funext x
              unfold gRule
              rw [hN, ← hf2]
              by_cases a1 : 123 + 6 * R + 2 ≤ x ∧ x < 123 + 6 * R + 2 + 4
              · rw [if_pos a1, if_neg (by omega), if_neg (by omega), if_pos (by omega)]
              · rw [if_neg a1]
                by_cases a2 : x = 123 + 6 * R + 1
                · rw [a2, va_up_self, if_neg (by omega), if_pos rfl]
                · rw [va_up_ne _ _ a2]
                  by_cases a3 : x = 123 + 6 * R
                  · rw [a3, va_up_self, if_pos rfl]
                  · rw [va_up_ne _ _ a3, if_neg a3, if_neg a2, if_neg (by omega)]
          | succ d ih =>
            intro j hj
            refine r_iload (dk kX9_decide_p1 42 rfl) rfl ?_
            refine r_iconst (v := 4) (dk kX9_decide_p1 43 rfl) (by decide) ?_
            refine r_icmp_ge (tgt := 204) (dk kX9_decide_p1 44 rfl) (by decide) (fun c173 => absurd c173 (by exact fun z => absurd ((nI_leI (a := 4) (b := j) (by decide) (by omega)).mp z) (by omega))) (fun c173 => ?_)
            refine r_aload_n (dk kX9_decide_p1 45 rfl) rfl ?_
            refine r_getR (dk kX9_decide_p1 46 rfl) fa_X9_7_8 oX.k rfl oX.r0 ?_
            refine r_iload (dk kX9_decide_p1 47 rfl) rfl ?_
            refine r_iconst (v := 2) (dk kX9_decide_p1 48 rfl) (by decide) ?_
            refine r_iadd (dk kX9_decide_p1 49 rfl) ?_
            refine r_iload (dk kX9_decide_p1 50 rfl) rfl ?_
            refine r_iadd (dk kX9_decide_p1 51 rfl) ?_
            refine r_aload_n (dk kX9_decide_p1 52 rfl) rfl ?_
            refine r_iload_n (dk kX9_decide_p1 53 rfl) rfl ?_
            refine r_bipush (v := 7) (dk kX9_decide_p1 54 rfl) (by decide) ?_
            refine r_iload (dk kX9_decide_p1 55 rfl) rfl ?_
            refine r_iadd (dk kX9_decide_p1 56 rfl) ?_
            refine r_callVp (I' := IX9_of) (as := [_, _]) (dk kX9_decide_p1 57 rfl) mv_X9_of ml_X9_106 rfl rfl oX.k rfl rfl (Nat.le_of_ble_eq_true rfl) ⟨by decide, by decide⟩ ⟨rfl, rfl⟩ ⟨Nat.le_of_ble_eq_true rfl, Nat.le_of_ble_eq_true rfl⟩ (k_X9_of (M := sA X (h + 1) _) oX (p := p) (w := 7 + j) (ixd rfl) (by omega) (by omega)) ?_
            -- at 197
            rw [mi_sA_s, if_neg (by omega), ← hf2, va_up_ne _ _ (by omega), va_up_ne _ _ (by omega), hf2, ← Nat.add_assoc (35 + 11 * p) 7]
            refine r_ias (dk kX9_decide_p1 58 rfl) oX.k1 oX.l1 (j := 123 + 6 * R + 2 + j) (by rw [show (2 : Int32) = nI 2 from rfl, nI_add, nI_add]) (by omega) (by decide) ?_
            refine r_iinc (dk kX9_decide_p1 59 rfl) (by decide) rfl rfl rfl ?_
            simp only [List.set_cons_succ, List.set_cons_zero]
            refine r_goto (tgt := 170) (dk kX9_decide_p2 0 rfl) (by decide) ?_
            -- at 170
            rw [show nI j + Int32.ofInt 1 = nI (j + 1) from nI_1 j, sI_sA]
            rw [show va_up (fun x => if 123 + 6 * R + 2 ≤ x ∧ x < 123 + 6 * R + 2 + j then g (35 + 11 * p + 7 + (x - (123 + 6 * R + 2))) else f2 x) (123 + 6 * R + 2 + j) (g (35 + 11 * p + 7 + j)) = (fun x => if 123 + 6 * R + 2 ≤ x ∧ x < 123 + 6 * R + 2 + (j + 1) then g (35 + 11 * p + 7 + (x - (123 + 6 * R + 2))) else f2 x) from ?_]
            · exact ih (j + 1) (by omega)
            · funext x
              by_cases hx : x = 123 + 6 * R + 2 + j
              · rw [hx, va_up_self, if_pos (by omega), Nat.add_sub_cancel_left]
              · rw [va_up_ne _ _ hx]
                by_cases c1 : 123 + 6 * R + 2 ≤ x ∧ x < 123 + 6 * R + 2 + j
                · rw [if_pos c1, if_pos (by omega)]
                · rw [if_neg c1, if_neg (by omega)]
        -- from isMoved on
        have fin : ∀ y : Value, WW G IX9_decide (qi (fun y M' => y = nI R ∧ M' = sA X (h + 1) (gDecide g p)) nox) 114 [.ref h, .int (nI p), .int (nI S), .int (bI (gWins g p = true)), lj, lj, lj] [.int (bI (gMoved g p = true))] X 0 0 := by
          intro _
          refine r_istore (dk kX9_decide_p1 8 rfl) (by decide) rfl ?_
          simp only [List.set_cons_succ, List.set_cons_zero]
          refine r_bipush (v := 123) (dk kX9_decide_p1 9 rfl) (by decide) ?_
          refine r_bipush (v := 6) (dk kX9_decide_p1 10 rfl) (by decide) ?_
          refine r_aload_n (dk kX9_decide_p1 11 rfl) rfl ?_
          refine r_getR (dk kX9_decide_p1 12 rfl) fa_X9_7_8 oX.k rfl oX.r0 ?_
          refine r_iconst (v := 5) (dk kX9_decide_p1 13 rfl) (by decide) ?_
          refine r_ial (dk kX9_decide_p1 14 rfl) oX.k1 oX.l1 (j := 5) rfl (by decide) (by decide) ?_
          -- at 126
          rw [eX, hR]
          refine r_imul (dk kX9_decide_p1 15 rfl) ?_
          refine r_iadd (dk kX9_decide_p1 16 rfl) ?_
          -- at 128
          rw [show (123 : Int32) + 6 * nI R = nI (123 + 6 * R) from ixa (a' := 123) (b' := 6) rfl rfl]
          refine r_istore (dk kX9_decide_p1 17 rfl) (by decide) rfl ?_
          simp only [List.set_cons_succ, List.set_cons_zero]
          refine r_aload_n (dk kX9_decide_p1 18 rfl) rfl ?_
          refine r_getR (dk kX9_decide_p1 19 rfl) fa_X9_7_8 oX.k rfl oX.r0 ?_
          refine r_iload (dk kX9_decide_p1 20 rfl) rfl ?_
          refine r_iconst (v := 0) (dk kX9_decide_p1 21 rfl) (by decide) ?_
          refine r_iadd (dk kX9_decide_p1 22 rfl) ?_
          refine r_iload_n (dk kX9_decide_p1 23 rfl) rfl ?_
          -- at 139
          rw [Int32.add_zero]
          have s2 : WW G IX9_decide (qi (fun y M' => y = nI R ∧ M' = sA X (h + 1) (gDecide g p)) nox) 147 [.ref h, .int (nI p), .int (nI S), .int (bI (gWins g p = true)), .int (bI (gMoved g p = true)), .int (nI (123 + 6 * R)), lj] [.int (bI (gWins g p = true)), .int (nI (123 + 6 * R)), .ref (h + 1)] X 0 0 := by
            refine r_ias (dk kX9_decide_p1 28 rfl) oX.k1 oX.l1 (j := 123 + 6 * R) rfl (by omega) (by decide) ?_
            refine r_aload_n (dk kX9_decide_p1 29 rfl) rfl ?_
            refine r_getR (dk kX9_decide_p1 30 rfl) fa_X9_7_8 oX.k rfl oX.r0 ?_
            refine r_iload (dk kX9_decide_p1 31 rfl) rfl ?_
            refine r_iconst (v := 1) (dk kX9_decide_p1 32 rfl) (by decide) ?_
            refine r_iadd (dk kX9_decide_p1 33 rfl) ?_
            refine r_iload (dk kX9_decide_p1 34 rfl) rfl ?_
            -- at 158
            rw [sI_as _ _ _ _ eX]
            have s3 : WW G IX9_decide (qi (fun y M' => y = nI R ∧ M' = sA X (h + 1) (gDecide g p)) nox) 166 [.ref h, .int (nI p), .int (nI S), .int (bI (gWins g p = true)), .int (bI (gMoved g p = true)), .int (nI (123 + 6 * R)), lj] [.int (bI (gMoved g p = true)), .int (nI (123 + 6 * R) + 1), .ref (h + 1)] (sA X (h + 1) (va_up g (123 + 6 * R) (bI (gWins g p = true)))) 0 0 := by
              refine r_ias (dk kX9_decide_p1 39 rfl) oX.k1 oX.l1 (nI_1 _) (by omega) (by decide) ?_
              refine r_iconst (v := 0) (dk kX9_decide_p1 40 rfl) (by decide) ?_
              refine r_istore (dk kX9_decide_p1 41 rfl) (by decide) rfl ?_
              simp only [List.set_cons_succ, List.set_cons_zero]
              -- at 170
              rw [sI_sA]
              exact fin3
            by_cases hm : gMoved g p = true
            · rw [bI_t hm] at s3 ⊢
              refine r_if_eq (tgt := 165) (dk kX9_decide_p1 35 rfl) (by decide) (fun c158 => absurd c158 (by decide)) (fun c158 => ?_)
              refine r_iconst (v := 1) (dk kX9_decide_p1 36 rfl) (by decide) ?_
              refine r_goto (tgt := 166) (dk kX9_decide_p1 37 rfl) (by decide) ?_
              -- at 166
              exact s3
            · rw [bI_f hm] at s3 ⊢
              refine r_if_eq (tgt := 165) (dk kX9_decide_p1 35 rfl) (by decide) (fun c158 => ?_) (fun c158 => absurd (by decide) c158)
              refine r_iconst (v := 0) (dk kX9_decide_p1 38 rfl) (by decide) ?_
              -- at 166
              exact s3
          by_cases hw : gWins g p = true
          · rw [bI_t hw] at s2 ⊢
            refine r_if_eq (tgt := 146) (dk kX9_decide_p1 24 rfl) (by decide) (fun c139 => absurd c139 (by decide)) (fun c139 => ?_)
            refine r_iconst (v := 1) (dk kX9_decide_p1 25 rfl) (by decide) ?_
            refine r_goto (tgt := 147) (dk kX9_decide_p1 26 rfl) (by decide) ?_
            -- at 147
            exact s2
          · rw [bI_f hw] at s2 ⊢
            refine r_if_eq (tgt := 146) (dk kX9_decide_p1 24 rfl) (by decide) (fun c139 => ?_) (fun c139 => absurd (by decide) c139)
            refine r_iconst (v := 0) (dk kX9_decide_p1 27 rfl) (by decide) ?_
            -- at 147
            exact s2
        refine r_istore_n (j := 3) (dk kX9_decide_p0 55 rfl) rfl (by decide) rfl ?_
        simp only [List.set_cons_succ, List.set_cons_zero]
        refine r_iload_n (dk kX9_decide_p0 56 rfl) rfl ?_
        -- at 93
        by_cases hw : gWins g p = true
        · refine r_if_eq (tgt := 113) (dk kX9_decide_p0 57 rfl) (by decide) (fun c93 => absurd c93 (by rw [bI_t hw]; decide)) (fun c93 => ?_)
          refine r_aload_n (dk kX9_decide_p0 58 rfl) rfl ?_
          refine r_aload_n (dk kX9_decide_p0 59 rfl) rfl ?_
          refine r_iload_n (dk kX9_decide_p1 0 rfl) rfl ?_
          refine r_iconst (v := 3) (dk kX9_decide_p1 1 rfl) (by decide) ?_
          refine r_callVp (I' := IX9_of) (as := [_, _]) (dk kX9_decide_p1 2 rfl) mv_X9_of ml_X9_106 rfl rfl oX.k rfl rfl (Nat.le_of_ble_eq_true rfl) ⟨by decide, by decide⟩ ⟨rfl, rfl⟩ ⟨Nat.le_of_ble_eq_true rfl, Nat.le_of_ble_eq_true rfl⟩ (k_X9_of oX (p := p) (w := 3) rfl (by omega) (by decide)) ?_
          -- at 103
          rw [eX]
          refine r_callVp (I' := IX9_within) (as := [_]) (dk kX9_decide_p1 3 rfl) mv_X9_within ml_X9_83 rfl rfl oX.k rfl rfl (Nat.le_of_ble_eq_true rfl) ⟨by decide, by decide⟩ ⟨rfl, rfl⟩ ⟨Nat.le_of_ble_eq_true rfl, Nat.le_of_ble_eq_true rfl⟩ (k_X9_within oX gX _) ?_
          -- at 106
          rw [eX]
          cases ew : gWithin g (g (35 + 11 * p + 3)) with
          | none =>
            have hm : gMoved g p = true := by unfold gMoved; rw [hw, ew]; rfl
            have f1 := fin lj
            rw [bI_t hm] at f1
            refine r_if_ge (tgt := 113) (dk kX9_decide_p1 4 rfl) (by decide) (fun c106 => absurd c106 (by decide)) (fun c106 => ?_)
            refine r_iconst (v := 1) (dk kX9_decide_p1 5 rfl) (by decide) ?_
            refine r_goto (tgt := 114) (dk kX9_decide_p1 6 rfl) (by decide) ?_
            -- at 114
            exact f1
          | some q =>
            have hq := fx_lt ew
            have hm : ¬ gMoved g p = true := by unfold gMoved; rw [hw, ew]; exact fun z => by cases z
            have f1 := fin lj
            rw [bI_f hm] at f1
            refine r_if_ge (tgt := 113) (dk kX9_decide_p1 4 rfl) (by decide) (fun c106 => ?_) (fun c106 => absurd (nI_pos' (by omega)) c106)
            refine r_iconst (v := 0) (dk kX9_decide_p1 7 rfl) (by decide) ?_
            -- at 114
            exact f1
        · have hm : ¬ gMoved g p = true := by unfold gMoved; rw [Bool.not_eq_true] at hw; rw [hw]; exact fun z => by cases z
          have f1 := fin lj
          rw [bI_f hm] at f1
          refine r_if_eq (tgt := 113) (dk kX9_decide_p0 57 rfl) (by decide) (fun c93 => ?_) (fun c93 => absurd (by rw [bI_f hw]) c93)
          refine r_iconst (v := 0) (dk kX9_decide_p1 7 rfl) (by decide) ?_
          -- at 114
          exact f1
end MODEL
