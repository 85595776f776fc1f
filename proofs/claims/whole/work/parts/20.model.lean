/-! THE REFERENCE: commands -/
section MODEL
variable {G : GG} {M : Mm} {h : Nat}
/-- what a command leaves -/
def mOut (M : Mm) (h : Nat) (c : CO) : Mm := if c.1 = 0 then sA (mKeep M h (h + 1)) (h + 1) c.2.2.2 else if c.2.1.1 = 0 then mFail M h c.1 else mDeny M h c.1 c.2.1.1 c.2.1.2
theorem mFail2 (M : Mm) (h : Nat) (p q : Int32) : mFail (mFail M h p) h q = mFail M h q := by
  have hu : u2 (u2 (u2 (u2 (mi M) h 8 p) h 7 0) h 8 q) h 7 0 = u2 (u2 (mi M) h 8 q) h 7 0 := by
    funext a
    by_cases ha : a = h
    · subst ha
      rw [u2_s, u2_s, u2_s, u2_s, u2_s, u2_s, va_up_co _ _ _ (show 7 ≠ 8 by decide), va_up_up, va_up_up]
    · rw [u2_n _ _ _ ha, u2_n _ _ _ ha, u2_n _ _ _ ha, u2_n _ _ _ ha, u2_n _ _ _ ha, u2_n _ _ _ ha]
  show (kd M, ln M, u2 (u2 (u2 (u2 (mi M) h 8 p) h 7 0) h 8 q) h 7 0, mr M, mj M, md M, nx M) = (kd M, ln M, u2 (u2 (mi M) h 8 q) h 7 0, mr M, mj M, md M, nx M)
  rw [hu]
theorem mOut_thr {p : Int32} (hp : p ≠ 0) : mOut (mFail M h 0) h (cThr p) = mFail M h p := by
  unfold mOut cThr
  rw [if_neg hp, if_pos rfl]
  exact mFail2 M h 0 p
theorem mOut_den {p a b : Int32} (hp : p ≠ 0) (ha : a ≠ 0) : mOut M h (cDen p a b) = mDeny M h p a b := by
  unfold mOut cDen
  rw [if_neg hp, if_neg ha]
theorem mOut_ok {v : Int32} {g : Nat → Int32} : mOut M h (cOk v g) = sA (mKeep M h (h + 1)) (h + 1) g := by
  unfold mOut cOk
  rw [if_pos rfl]
theorem MO.keep (o : MO M h) (a : Nat) : MO (mKeep M h a) h := by
  unfold mKeep
  split
  · exact o.to rfl rfl rfl
  · exact o.to rfl rfl rfl
theorem mKeep1 (M : Mm) (h a : Nat) : mi (mKeep M h a) (h + 1) = mi M (h + 1) := by
  unfold mKeep
  split
  · rw [mi_sA_n _ _ (by omega), mi_sA_n _ _ (by omega)]
  · rw [mi_sI_n _ _ _ (by omega)]
theorem nbF (hc : nb (mi M h) 5 9) (p : Int32) : nb (mi (mFail M h p) h) 5 9 := nb_eq (by rw [mi_sI_s, mi_sI_s, va_up_ne _ _ (by decide), va_up_ne _ _ (by decide)]) hc
theorem k_X9_keepsG (o : MO M h) (hc : nb (mi M h) 5 9) : KU G IX9_keeps [.ref h, .ref (h + 1)] M (mKeep M h (h + 1)) := k_X9_keeps o ⟨by omega, by omega⟩ o.k1 o.l1 hc
theorem sI_as (X : Mm) (a j : Nat) (v : Int32) {f : Nat → Int32} (hf : mi X a = f) : sI X a j v = sA X a (va_up f j v) := by rw [sI_A, hf]
theorem k_X9_addStone (o : MO M h) {F : Nat} (gi : GI F (mi M (h + 1))) (hk : nb (mi M h) 5 9) (c w : Int32) : KE G IX9_addStone [.ref h, .int c, .int w] M (sp_addStone (mi M (h + 1)) c w).2.2.1 (mOut (mFail M h 0) h (sp_addStone (mi M (h + 1)) c w)) := by
  refine KK.ofW (by decide) (by simp [Value.category]) (Nat.le_of_ble_eq_true rfl) rfl ?_
  show WW _ _ _ 0 [_, _, _, lj] [] _ _ _
  obtain ⟨hS, hS2⟩ := gi.s
  have gf : ∀ p, GI F (mi (mFail M h p) (h + 1)) := fun p => by rw [mf1]; exact gi
  have e1 := mf1 M h 0
  by_cases hc : 0 ≤ c ∧ c ≤ 24
  · by_cases hw : 1 ≤ w ∧ w ≤ 9
    · cases ew : gWithin (mi M (h + 1)) c with
      | some k =>
        rw [show sp_addStone (mi M (h + 1)) c w = cDen 3 2 (nI k) by unfold sp_addStone; rw [if_pos hc, if_pos hw, ew]]
        have hk := fx_lt ew
        refine r_aload_n (dk kX9_addStone_p0 0 rfl) rfl ?_
        refine r_iload_n (dk kX9_addStone_p0 1 rfl) rfl ?_
        refine r_callSp (I' := IX9_isCell) (as := [_]) (dk kX9_addStone_p0 2 rfl) ms_X9_isCell ml_X9_76 rfl rfl rfl (Nat.le_of_ble_eq_true rfl) ⟨by decide, by decide⟩ ⟨rfl, rfl⟩ ⟨Nat.le_of_ble_eq_true rfl, Nat.le_of_ble_eq_true rfl⟩ (k_X9_isCell c) ?_
        refine r_if_ne (tgt := 12) (dk kX9_addStone_p0 3 rfl) (by decide) (fun c5 => ?_) (fun c5 => absurd (by rw [bI_t hc]; decide) c5)
        refine r_iload_n (dk kX9_addStone_p0 6 rfl) rfl ?_
        refine r_iconst (v := 1) (dk kX9_addStone_p0 7 rfl) (by decide) ?_
        refine r_bipush (v := 9) (dk kX9_addStone_p0 8 rfl) (by decide) ?_
        refine r_callSp (I' := IX9_in) (as := [_, _, _]) (dk kX9_addStone_p0 9 rfl) ms_X9_in ml_X9_68 rfl rfl rfl (Nat.le_of_ble_eq_true rfl) ⟨by decide, by decide⟩ ⟨rfl, rfl⟩ ⟨Nat.le_of_ble_eq_true rfl, Nat.le_of_ble_eq_true rfl⟩ (k_X9_in _ _ _) ?_
        refine r_if_eq (tgt := 26) (dk kX9_addStone_p0 10 rfl) (by decide) (fun c19 => absurd c19 (by rw [bI_t hw]; decide)) (fun c19 => ?_)
        refine r_iconst (v := 0) (dk kX9_addStone_p0 11 rfl) (by decide) ?_
        refine r_goto (tgt := 27) (dk kX9_addStone_p0 12 rfl) (by decide) ?_
        refine r_callVp (I' := IX9_fails) (as := [_]) (dk kX9_addStone_p0 14 rfl) mv_X9_fails ml_X9_80 rfl rfl o.k rfl rfl (Nat.le_of_ble_eq_true rfl) ⟨by decide, by decide⟩ ⟨rfl, rfl⟩ ⟨Nat.le_of_ble_eq_true rfl, Nat.le_of_ble_eq_true rfl⟩ (k_X9_fails o _) ?_
        refine r_if_eq (tgt := 35) (dk kX9_addStone_p0 15 rfl) (by decide) (fun c30 => ?_) (fun c30 => absurd (by decide) c30)
        refine r_aload_n (dk kX9_addStone_p0 18 rfl) rfl ?_
        refine r_iload_n (dk kX9_addStone_p0 19 rfl) rfl ?_
        refine r_callVp (I' := IX9_within) (as := [_]) (dk kX9_addStone_p0 20 rfl) mv_X9_within ml_X9_83 rfl rfl o.k rfl rfl (Nat.le_of_ble_eq_true rfl) ⟨by decide, by decide⟩ ⟨rfl, rfl⟩ ⟨Nat.le_of_ble_eq_true rfl, Nat.le_of_ble_eq_true rfl⟩ (k_X9_within (o.fl _) (gf _) c) ?_
        -- at 40
        rw [e1, ew]
        refine r_if_lt (tgt := 55) (dk kX9_addStone_p0 21 rfl) (by decide) (fun c40 => absurd c40 (nI_pos (by omega))) (fun c40 => ?_)
        refine r_aload_n (dk kX9_addStone_p0 22 rfl) rfl ?_
        refine r_iconst (v := 3) (dk kX9_addStone_p0 23 rfl) (by decide) ?_
        refine r_iconst (v := 2) (dk kX9_addStone_p0 24 rfl) (by decide) ?_
        refine r_aload_n (dk kX9_addStone_p0 25 rfl) rfl ?_
        refine r_iload_n (dk kX9_addStone_p0 26 rfl) rfl ?_
        refine r_callVp (I' := IX9_within) (as := [_]) (dk kX9_addStone_p0 27 rfl) mv_X9_within ml_X9_83 rfl rfl o.k rfl rfl (Nat.le_of_ble_eq_true rfl) ⟨by decide, by decide⟩ ⟨rfl, rfl⟩ ⟨Nat.le_of_ble_eq_true rfl, Nat.le_of_ble_eq_true rfl⟩ (k_X9_within (o.fl _) (gf _) c) ?_
        -- at 51
        rw [e1, ew]
        refine r_callVp (I' := IX9_denies) (as := [_, _, _]) (dk kX9_addStone_p0 28 rfl) mv_X9_denies ml_X9_86 rfl rfl o.k rfl rfl (Nat.le_of_ble_eq_true rfl) ⟨by decide, by decide⟩ ⟨rfl, rfl⟩ ⟨Nat.le_of_ble_eq_true rfl, Nat.le_of_ble_eq_true rfl⟩ (k_X9_denies (o.fl _) _ _ _) ?_
        refine r_ireturn (dk kX9_addStone_p0 29 rfl) rfl rfl ⟨Nat.le_of_ble_eq_true rfl, Nat.le_of_ble_eq_true rfl⟩ ⟨rfl, (mOut_den (by decide) (by decide)).symm⟩
      | none =>
        refine r_aload_n (dk kX9_addStone_p0 0 rfl) rfl ?_
        refine r_iload_n (dk kX9_addStone_p0 1 rfl) rfl ?_
        refine r_callSp (I' := IX9_isCell) (as := [_]) (dk kX9_addStone_p0 2 rfl) ms_X9_isCell ml_X9_76 rfl rfl rfl (Nat.le_of_ble_eq_true rfl) ⟨by decide, by decide⟩ ⟨rfl, rfl⟩ ⟨Nat.le_of_ble_eq_true rfl, Nat.le_of_ble_eq_true rfl⟩ (k_X9_isCell c) ?_
        refine r_if_ne (tgt := 12) (dk kX9_addStone_p0 3 rfl) (by decide) (fun c5 => ?_) (fun c5 => absurd (by rw [bI_t hc]; decide) c5)
        refine r_iload_n (dk kX9_addStone_p0 6 rfl) rfl ?_
        refine r_iconst (v := 1) (dk kX9_addStone_p0 7 rfl) (by decide) ?_
        refine r_bipush (v := 9) (dk kX9_addStone_p0 8 rfl) (by decide) ?_
        refine r_callSp (I' := IX9_in) (as := [_, _, _]) (dk kX9_addStone_p0 9 rfl) ms_X9_in ml_X9_68 rfl rfl rfl (Nat.le_of_ble_eq_true rfl) ⟨by decide, by decide⟩ ⟨rfl, rfl⟩ ⟨Nat.le_of_ble_eq_true rfl, Nat.le_of_ble_eq_true rfl⟩ (k_X9_in _ _ _) ?_
        refine r_if_eq (tgt := 26) (dk kX9_addStone_p0 10 rfl) (by decide) (fun c19 => absurd c19 (by rw [bI_t hw]; decide)) (fun c19 => ?_)
        refine r_iconst (v := 0) (dk kX9_addStone_p0 11 rfl) (by decide) ?_
        refine r_goto (tgt := 27) (dk kX9_addStone_p0 12 rfl) (by decide) ?_
        refine r_callVp (I' := IX9_fails) (as := [_]) (dk kX9_addStone_p0 14 rfl) mv_X9_fails ml_X9_80 rfl rfl o.k rfl rfl (Nat.le_of_ble_eq_true rfl) ⟨by decide, by decide⟩ ⟨rfl, rfl⟩ ⟨Nat.le_of_ble_eq_true rfl, Nat.le_of_ble_eq_true rfl⟩ (k_X9_fails o _) ?_
        refine r_if_eq (tgt := 35) (dk kX9_addStone_p0 15 rfl) (by decide) (fun c30 => ?_) (fun c30 => absurd (by decide) c30)
        refine r_aload_n (dk kX9_addStone_p0 18 rfl) rfl ?_
        refine r_iload_n (dk kX9_addStone_p0 19 rfl) rfl ?_
        refine r_callVp (I' := IX9_within) (as := [_]) (dk kX9_addStone_p0 20 rfl) mv_X9_within ml_X9_83 rfl rfl o.k rfl rfl (Nat.le_of_ble_eq_true rfl) ⟨by decide, by decide⟩ ⟨rfl, rfl⟩ ⟨Nat.le_of_ble_eq_true rfl, Nat.le_of_ble_eq_true rfl⟩ (k_X9_within (o.fl _) (gf _) c) ?_
        -- at 40
        rw [e1, ew]
        refine r_if_lt (tgt := 55) (dk kX9_addStone_p0 21 rfl) (by decide) (fun c40 => ?_) (fun c40 => absurd (by decide) c40)
        refine r_aload_n (dk kX9_addStone_p0 30 rfl) rfl ?_
        refine r_getR (dk kX9_addStone_p0 31 rfl) fa_X9_7_8 o.k rfl (o.fl _).r0 ?_
        refine r_iconst (v := 0) (dk kX9_addStone_p0 32 rfl) (by decide) ?_
        refine r_ial (dk kX9_addStone_p0 33 rfl) (o.fl _).k1 (o.fl _).l1 (j := 0) rfl (by decide) (by decide) ?_
        refine r_bipush (v := 10) (dk kX9_addStone_p0 34 rfl) (by decide) ?_
        -- at 63
        rw [e1, hS]
        by_cases h10 : gn (mi M (h + 1)) 0 = 10
        · rw [show sp_addStone (mi M (h + 1)) c w = cDen 3 1 10 by unfold sp_addStone; rw [if_pos hc, if_pos hw, ew]; simp only; rw [if_pos h10]]
          refine r_icmp_ne (tgt := 75) (dk kX9_addStone_p0 35 rfl) (by decide) (fun c63 => absurd c63 (by rw [h10]; exact fun z => z rfl)) (fun c63 => ?_)
          refine r_aload_n (dk kX9_addStone_p0 36 rfl) rfl ?_
          refine r_iconst (v := 3) (dk kX9_addStone_p0 37 rfl) (by decide) ?_
          refine r_iconst (v := 1) (dk kX9_addStone_p0 38 rfl) (by decide) ?_
          refine r_bipush (v := 10) (dk kX9_addStone_p0 39 rfl) (by decide) ?_
          refine r_callVp (I' := IX9_denies) (as := [_, _, _]) (dk kX9_addStone_p0 40 rfl) mv_X9_denies ml_X9_86 rfl rfl o.k rfl rfl (Nat.le_of_ble_eq_true rfl) ⟨by decide, by decide⟩ ⟨rfl, rfl⟩ ⟨Nat.le_of_ble_eq_true rfl, Nat.le_of_ble_eq_true rfl⟩ (k_X9_denies (o.fl _) _ _ _) ?_
          refine r_ireturn (dk kX9_addStone_p0 41 rfl) rfl rfl ⟨Nat.le_of_ble_eq_true rfl, Nat.le_of_ble_eq_true rfl⟩ ⟨rfl, (mOut_den (by decide) (by decide)).symm⟩
        · rw [show sp_addStone (mi M (h + 1)) c w = cOk (nI (gn (mi M (h + 1)) 0)) (va_up (va_up (va_up (mi M (h + 1)) 0 (nI (gn (mi M (h + 1)) 0 + 1))) (9 + 2 * gn (mi M (h + 1)) 0) c) (9 + 2 * gn (mi M (h + 1)) 0 + 1) w) by unfold sp_addStone; rw [if_pos hc, if_pos hw, ew]; simp only; rw [if_neg h10], mOut_ok]
          generalize hN : gn (mi M (h + 1)) 0 = N at *
          refine r_icmp_ne (tgt := 75) (dk kX9_addStone_p0 35 rfl) (by decide) (fun c63 => ?_) (fun c63 => absurd (fun z => h10 (nI_inj (by omega) (by decide) z)) c63)
          refine r_aload_n (dk kX9_addStone_p0 42 rfl) rfl ?_
          refine r_aload_n (dk kX9_addStone_p0 43 rfl) rfl ?_
          refine r_getR (dk kX9_addStone_p0 44 rfl) fa_X9_7_8 o.k rfl (o.fl _).r0 ?_
          refine r_callVu (I' := IX9_keeps) (as := [_]) (dk kX9_addStone_p0 45 rfl) mv_X9_keeps ml_X9_90 rfl rfl o.k rfl rfl (Nat.le_of_ble_eq_true rfl) ⟨by decide, by decide⟩ ⟨rfl, rfl⟩ ⟨Nat.le_of_ble_eq_true rfl, Nat.le_of_ble_eq_true rfl⟩ (k_X9_keepsG (o.fl _) (nbF hk 0)) ?_
          -- at 83
          have oX := (o.fl 0).keep (h + 1)
          have eX : mi (mKeep (mFail M h 0) h (h + 1)) (h + 1) = mi M (h + 1) := by rw [mKeep1, e1]
          generalize mKeep (mFail M h 0) h (h + 1) = X at *
          generalize mi M (h + 1) = g at *
          refine r_aload_n (dk kX9_addStone_p0 46 rfl) rfl ?_
          refine r_getR (dk kX9_addStone_p0 47 rfl) fa_X9_7_8 oX.k rfl oX.r0 ?_
          refine r_iconst (v := 0) (dk kX9_addStone_p0 48 rfl) (by decide) ?_
          refine r_ial (dk kX9_addStone_p0 49 rfl) oX.k1 oX.l1 (j := 0) rfl (by decide) (by decide) ?_
          refine r_istore_n (j := 3) (dk kX9_addStone_p0 50 rfl) rfl (by decide) rfl ?_
          simp only [List.set_cons_succ, List.set_cons_zero]
          refine r_aload_n (dk kX9_addStone_p0 51 rfl) rfl ?_
          refine r_getR (dk kX9_addStone_p0 52 rfl) fa_X9_7_8 oX.k rfl oX.r0 ?_
          refine r_iconst (v := 0) (dk kX9_addStone_p0 53 rfl) (by decide) ?_
          refine r_dup2 (dk kX9_addStone_p0 54 rfl) rfl rfl ?_
          refine r_ial (dk kX9_addStone_p0 55 rfl) oX.k1 oX.l1 (j := 0) rfl (by decide) (by decide) ?_
          refine r_iconst (v := 1) (dk kX9_addStone_p0 56 rfl) (by decide) ?_
          refine r_iadd (dk kX9_addStone_p0 57 rfl) ?_
          -- at 99
          rw [eX, hS, show nI N + 1 = nI (N + 1) from nI_1 N]
          refine r_ias (dk kX9_addStone_p0 58 rfl) oX.k1 oX.l1 (j := 0) rfl (by decide) (by decide) ?_
          refine r_aload_n (dk kX9_addStone_p0 59 rfl) rfl ?_
          refine r_getR (dk kX9_addStone_p1 0 rfl) fa_X9_7_8 oX.k rfl oX.r0 ?_
          refine r_bipush (v := 9) (dk kX9_addStone_p1 1 rfl) (by decide) ?_
          refine r_iconst (v := 2) (dk kX9_addStone_p1 2 rfl) (by decide) ?_
          refine r_iload_n (dk kX9_addStone_p1 3 rfl) rfl ?_
          refine r_imul (dk kX9_addStone_p1 4 rfl) ?_
          refine r_iadd (dk kX9_addStone_p1 5 rfl) ?_
          refine r_iload_n (dk kX9_addStone_p1 6 rfl) rfl ?_
          -- at 111
          rw [sI_as _ _ _ _ eX]
          refine r_ias (dk kX9_addStone_p1 7 rfl) oX.k1 oX.l1 (ixa (a' := 9) (b' := 2) rfl rfl) (by omega) (by decide) ?_
          refine r_aload_n (dk kX9_addStone_p1 8 rfl) rfl ?_
          refine r_getR (dk kX9_addStone_p1 9 rfl) fa_X9_7_8 oX.k rfl oX.r0 ?_
          refine r_bipush (v := 9) (dk kX9_addStone_p1 10 rfl) (by decide) ?_
          refine r_iconst (v := 2) (dk kX9_addStone_p1 11 rfl) (by decide) ?_
          refine r_iload_n (dk kX9_addStone_p1 12 rfl) rfl ?_
          refine r_imul (dk kX9_addStone_p1 13 rfl) ?_
          refine r_iadd (dk kX9_addStone_p1 14 rfl) ?_
          refine r_iconst (v := 1) (dk kX9_addStone_p1 15 rfl) (by decide) ?_
          refine r_iadd (dk kX9_addStone_p1 16 rfl) ?_
          refine r_iload_n (dk kX9_addStone_p1 17 rfl) rfl ?_
          -- at 125
          rw [sI_sA]
          refine r_ias (dk kX9_addStone_p1 18 rfl) oX.k1 oX.l1 (ixc (a' := 9) (b' := 2) (w := 1) rfl rfl rfl) (by omega) (by decide) ?_
          refine r_iload_n (dk kX9_addStone_p1 19 rfl) rfl ?_
          refine r_ireturn (dk kX9_addStone_p1 20 rfl) rfl rfl ⟨Nat.le_of_ble_eq_true rfl, Nat.le_of_ble_eq_true rfl⟩ ⟨rfl, by rw [sI_sA]⟩
    · rw [show sp_addStone (mi M (h + 1)) c w = cThr 2 by unfold sp_addStone; rw [if_pos hc, if_neg hw]]
      refine r_aload_n (dk kX9_addStone_p0 0 rfl) rfl ?_
      refine r_iload_n (dk kX9_addStone_p0 1 rfl) rfl ?_
      refine r_callSp (I' := IX9_isCell) (as := [_]) (dk kX9_addStone_p0 2 rfl) ms_X9_isCell ml_X9_76 rfl rfl rfl (Nat.le_of_ble_eq_true rfl) ⟨by decide, by decide⟩ ⟨rfl, rfl⟩ ⟨Nat.le_of_ble_eq_true rfl, Nat.le_of_ble_eq_true rfl⟩ (k_X9_isCell c) ?_
      refine r_if_ne (tgt := 12) (dk kX9_addStone_p0 3 rfl) (by decide) (fun c5 => ?_) (fun c5 => absurd (by rw [bI_t hc]; decide) c5)
      refine r_iload_n (dk kX9_addStone_p0 6 rfl) rfl ?_
      refine r_iconst (v := 1) (dk kX9_addStone_p0 7 rfl) (by decide) ?_
      refine r_bipush (v := 9) (dk kX9_addStone_p0 8 rfl) (by decide) ?_
      refine r_callSp (I' := IX9_in) (as := [_, _, _]) (dk kX9_addStone_p0 9 rfl) ms_X9_in ml_X9_68 rfl rfl rfl (Nat.le_of_ble_eq_true rfl) ⟨by decide, by decide⟩ ⟨rfl, rfl⟩ ⟨Nat.le_of_ble_eq_true rfl, Nat.le_of_ble_eq_true rfl⟩ (k_X9_in _ _ _) ?_
      refine r_if_eq (tgt := 26) (dk kX9_addStone_p0 10 rfl) (by decide) (fun c19 => ?_) (fun c19 => absurd (by rw [bI_f hw]) c19)
      refine r_iconst (v := 2) (dk kX9_addStone_p0 13 rfl) (by decide) ?_
      refine r_callVp (I' := IX9_fails) (as := [_]) (dk kX9_addStone_p0 14 rfl) mv_X9_fails ml_X9_80 rfl rfl o.k rfl rfl (Nat.le_of_ble_eq_true rfl) ⟨by decide, by decide⟩ ⟨rfl, rfl⟩ ⟨Nat.le_of_ble_eq_true rfl, Nat.le_of_ble_eq_true rfl⟩ (k_X9_fails o _) ?_
      refine r_if_eq (tgt := 35) (dk kX9_addStone_p0 15 rfl) (by decide) (fun c30 => absurd c30 (by decide)) (fun c30 => ?_)
      refine r_iconst (v := 0) (dk kX9_addStone_p0 16 rfl) (by decide) ?_
      refine r_ireturn (dk kX9_addStone_p0 17 rfl) rfl rfl ⟨Nat.le_of_ble_eq_true rfl, Nat.le_of_ble_eq_true rfl⟩ ⟨rfl, (mOut_thr (by decide)).symm⟩
  · rw [show sp_addStone (mi M (h + 1)) c w = cThr 1 by unfold sp_addStone; rw [if_neg hc]]
    refine r_aload_n (dk kX9_addStone_p0 0 rfl) rfl ?_
    refine r_iload_n (dk kX9_addStone_p0 1 rfl) rfl ?_
    refine r_callSp (I' := IX9_isCell) (as := [_]) (dk kX9_addStone_p0 2 rfl) ms_X9_isCell ml_X9_76 rfl rfl rfl (Nat.le_of_ble_eq_true rfl) ⟨by decide, by decide⟩ ⟨rfl, rfl⟩ ⟨Nat.le_of_ble_eq_true rfl, Nat.le_of_ble_eq_true rfl⟩ (k_X9_isCell c) ?_
    refine r_if_ne (tgt := 12) (dk kX9_addStone_p0 3 rfl) (by decide) (fun c5 => absurd c5 (by rw [bI_f hc]; exact fun z => z rfl)) (fun c5 => ?_)
    refine r_iconst (v := 1) (dk kX9_addStone_p0 4 rfl) (by decide) ?_
    refine r_goto (tgt := 27) (dk kX9_addStone_p0 5 rfl) (by decide) ?_
    refine r_callVp (I' := IX9_fails) (as := [_]) (dk kX9_addStone_p0 14 rfl) mv_X9_fails ml_X9_80 rfl rfl o.k rfl rfl (Nat.le_of_ble_eq_true rfl) ⟨by decide, by decide⟩ ⟨rfl, rfl⟩ ⟨Nat.le_of_ble_eq_true rfl, Nat.le_of_ble_eq_true rfl⟩ (k_X9_fails o _) ?_
    refine r_if_eq (tgt := 35) (dk kX9_addStone_p0 15 rfl) (by decide) (fun c30 => absurd c30 (by decide)) (fun c30 => ?_)
    refine r_iconst (v := 0) (dk kX9_addStone_p0 16 rfl) (by decide) ?_
    refine r_ireturn (dk kX9_addStone_p0 17 rfl) rfl rfl ⟨Nat.le_of_ble_eq_true rfl, Nat.le_of_ble_eq_true rfl⟩ ⟨rfl, (mOut_thr (by decide)).symm⟩
theorem k_X9_addOfficer (o : MO M h) {F : Nat} (gi : GI F (mi M (h + 1))) (hk : nb (mi M h) 5 9) (w : Int32) : KE G IX9_addOfficer [.ref h, .int w] M (sp_addOfficer (mi M (h + 1)) w).2.2.1 (mOut (mFail M h 0) h (sp_addOfficer (mi M (h + 1)) w)) := by
  refine KK.ofW (by decide) (by simp [Value.category]) (Nat.le_of_ble_eq_true rfl) rfl ?_
  show WW _ _ _ 0 [_, _] [] _ _ _
  obtain ⟨hS, hS2⟩ := gi.o
  have e1 := mf1 M h 0
  by_cases hw : 1 ≤ w ∧ w ≤ 9
  · refine r_aload_n (dk kX9_addOfficer 0 rfl) rfl ?_
    refine r_iload_n (dk kX9_addOfficer 1 rfl) rfl ?_
    refine r_iconst (v := 1) (dk kX9_addOfficer 2 rfl) (by decide) ?_
    refine r_bipush (v := 9) (dk kX9_addOfficer 3 rfl) (by decide) ?_
    refine r_callSp (I' := IX9_in) (as := [_, _, _]) (dk kX9_addOfficer 4 rfl) ms_X9_in ml_X9_68 rfl rfl rfl (Nat.le_of_ble_eq_true rfl) ⟨by decide, by decide⟩ ⟨rfl, rfl⟩ ⟨Nat.le_of_ble_eq_true rfl, Nat.le_of_ble_eq_true rfl⟩ (k_X9_in _ _ _) ?_
    refine r_if_eq (tgt := 15) (dk kX9_addOfficer 5 rfl) (by decide) (fun c8 => absurd c8 (by rw [bI_t hw]; decide)) (fun c8 => ?_)
    refine r_iconst (v := 0) (dk kX9_addOfficer 6 rfl) (by decide) ?_
    refine r_goto (tgt := 16) (dk kX9_addOfficer 7 rfl) (by decide) ?_
    refine r_callVp (I' := IX9_fails) (as := [_]) (dk kX9_addOfficer 9 rfl) mv_X9_fails ml_X9_80 rfl rfl o.k rfl rfl (Nat.le_of_ble_eq_true rfl) ⟨by decide, by decide⟩ ⟨rfl, rfl⟩ ⟨Nat.le_of_ble_eq_true rfl, Nat.le_of_ble_eq_true rfl⟩ (k_X9_fails o _) ?_
    refine r_if_eq (tgt := 24) (dk kX9_addOfficer 10 rfl) (by decide) (fun c19 => ?_) (fun c19 => absurd (by decide) c19)
    refine r_aload_n (dk kX9_addOfficer 13 rfl) rfl ?_
    refine r_getR (dk kX9_addOfficer 14 rfl) fa_X9_7_8 o.k rfl (o.fl _).r0 ?_
    refine r_iconst (v := 1) (dk kX9_addOfficer 15 rfl) (by decide) ?_
    refine r_ial (dk kX9_addOfficer 16 rfl) (o.fl _).k1 (o.fl _).l1 (j := 1) rfl (by decide) (by decide) ?_
    refine r_bipush (v := 6) (dk kX9_addOfficer 17 rfl) (by decide) ?_
    -- at 32
    rw [e1, hS]
    by_cases h10 : gn (mi M (h + 1)) 1 = 6
    · rw [show sp_addOfficer (mi M (h + 1)) w = cDen 2 1 6 by unfold sp_addOfficer; rw [if_pos hw, if_pos h10]]
      refine r_icmp_ne (tgt := 44) (dk kX9_addOfficer 18 rfl) (by decide) (fun c32 => absurd c32 (by rw [h10]; exact fun z => z rfl)) (fun c32 => ?_)
      refine r_aload_n (dk kX9_addOfficer 19 rfl) rfl ?_
      refine r_iconst (v := 2) (dk kX9_addOfficer 20 rfl) (by decide) ?_
      refine r_iconst (v := 1) (dk kX9_addOfficer 21 rfl) (by decide) ?_
      refine r_bipush (v := 6) (dk kX9_addOfficer 22 rfl) (by decide) ?_
      refine r_callVp (I' := IX9_denies) (as := [_, _, _]) (dk kX9_addOfficer 23 rfl) mv_X9_denies ml_X9_86 rfl rfl o.k rfl rfl (Nat.le_of_ble_eq_true rfl) ⟨by decide, by decide⟩ ⟨rfl, rfl⟩ ⟨Nat.le_of_ble_eq_true rfl, Nat.le_of_ble_eq_true rfl⟩ (k_X9_denies (o.fl _) _ _ _) ?_
      refine r_ireturn (dk kX9_addOfficer 24 rfl) rfl rfl ⟨Nat.le_of_ble_eq_true rfl, Nat.le_of_ble_eq_true rfl⟩ ⟨rfl, (mOut_den (by decide) (by decide)).symm⟩
    · rw [show sp_addOfficer (mi M (h + 1)) w = cOk (nI (gn (mi M (h + 1)) 1)) (va_up (va_up (mi M (h + 1)) (29 + gn (mi M (h + 1)) 1) w) 1 (nI (gn (mi M (h + 1)) 1 + 1))) by unfold sp_addOfficer; rw [if_pos hw, if_neg h10], mOut_ok]
      generalize hN : gn (mi M (h + 1)) 1 = N at *
      refine r_icmp_ne (tgt := 44) (dk kX9_addOfficer 18 rfl) (by decide) (fun c32 => ?_) (fun c32 => absurd (fun z => h10 (nI_inj (by omega) (by decide) z)) c32)
      refine r_aload_n (dk kX9_addOfficer 25 rfl) rfl ?_
      refine r_aload_n (dk kX9_addOfficer 26 rfl) rfl ?_
      refine r_getR (dk kX9_addOfficer 27 rfl) fa_X9_7_8 o.k rfl (o.fl _).r0 ?_
      refine r_callVu (I' := IX9_keeps) (as := [_]) (dk kX9_addOfficer 28 rfl) mv_X9_keeps ml_X9_90 rfl rfl o.k rfl rfl (Nat.le_of_ble_eq_true rfl) ⟨by decide, by decide⟩ ⟨rfl, rfl⟩ ⟨Nat.le_of_ble_eq_true rfl, Nat.le_of_ble_eq_true rfl⟩ (k_X9_keepsG (o.fl _) (nbF hk 0)) ?_
      -- at 52
      have oX := (o.fl 0).keep (h + 1)
      have eX : mi (mKeep (mFail M h 0) h (h + 1)) (h + 1) = mi M (h + 1) := by rw [mKeep1, e1]
      generalize mKeep (mFail M h 0) h (h + 1) = X at *
      generalize mi M (h + 1) = g at *
      refine r_aload_n (dk kX9_addOfficer 29 rfl) rfl ?_
      refine r_getR (dk kX9_addOfficer 30 rfl) fa_X9_7_8 oX.k rfl oX.r0 ?_
      refine r_bipush (v := 29) (dk kX9_addOfficer 31 rfl) (by decide) ?_
      refine r_aload_n (dk kX9_addOfficer 32 rfl) rfl ?_
      refine r_getR (dk kX9_addOfficer 33 rfl) fa_X9_7_8 oX.k rfl oX.r0 ?_
      refine r_iconst (v := 1) (dk kX9_addOfficer 34 rfl) (by decide) ?_
      refine r_ial (dk kX9_addOfficer 35 rfl) oX.k1 oX.l1 (j := 1) rfl (by decide) (by decide) ?_
      refine r_iadd (dk kX9_addOfficer 36 rfl) ?_
      refine r_iload_n (dk kX9_addOfficer 37 rfl) rfl ?_
      -- at 66
      rw [eX, hS]
      refine r_ias (dk kX9_addOfficer 38 rfl) oX.k1 oX.l1 (ixd (a' := 29) rfl) (by omega) (by decide) ?_
      refine r_aload_n (dk kX9_addOfficer 39 rfl) rfl ?_
      refine r_getR (dk kX9_addOfficer 40 rfl) fa_X9_7_8 oX.k rfl oX.r0 ?_
      refine r_iconst (v := 1) (dk kX9_addOfficer 41 rfl) (by decide) ?_
      refine r_dup2 (dk kX9_addOfficer 42 rfl) rfl rfl ?_
      -- at 73
      rw [sI_as _ _ _ _ eX]
      refine r_ial (dk kX9_addOfficer 43 rfl) oX.k1 oX.l1 (j := 1) rfl (by decide) (by decide) ?_
      refine r_iconst (v := 1) (dk kX9_addOfficer 44 rfl) (by decide) ?_
      refine r_iadd (dk kX9_addOfficer 45 rfl) ?_
      -- at 76
      rw [mi_sA_s, va_up_ne _ _ (show 1 ≠ 29 + N by omega), hS, show nI N + 1 = nI (N + 1) from nI_1 N]
      refine r_ias (dk kX9_addOfficer 46 rfl) oX.k1 oX.l1 (j := 1) rfl (by decide) (by decide) ?_
      refine r_aload_n (dk kX9_addOfficer 47 rfl) rfl ?_
      refine r_getR (dk kX9_addOfficer 48 rfl) fa_X9_7_8 oX.k rfl oX.r0 ?_
      refine r_iconst (v := 1) (dk kX9_addOfficer 49 rfl) (by decide) ?_
      refine r_ial (dk kX9_addOfficer 50 rfl) oX.k1 oX.l1 (j := 1) rfl (by decide) (by decide) ?_
      -- at 83
      rw [sI_sA]
      rw [mi_sA_s, va_up_self]
      refine r_iconst (v := 1) (dk kX9_addOfficer 51 rfl) (by decide) ?_
      refine r_isub (dk kX9_addOfficer 52 rfl) ?_
      refine r_ireturn (dk kX9_addOfficer 53 rfl) rfl rfl ⟨Nat.le_of_ble_eq_true rfl, Nat.le_of_ble_eq_true rfl⟩ ⟨nI_pred N, rfl⟩
  · rw [show sp_addOfficer (mi M (h + 1)) w = cThr 1 by unfold sp_addOfficer; rw [if_neg hw]]
    refine r_aload_n (dk kX9_addOfficer 0 rfl) rfl ?_
    refine r_iload_n (dk kX9_addOfficer 1 rfl) rfl ?_
    refine r_iconst (v := 1) (dk kX9_addOfficer 2 rfl) (by decide) ?_
    refine r_bipush (v := 9) (dk kX9_addOfficer 3 rfl) (by decide) ?_
    refine r_callSp (I' := IX9_in) (as := [_, _, _]) (dk kX9_addOfficer 4 rfl) ms_X9_in ml_X9_68 rfl rfl rfl (Nat.le_of_ble_eq_true rfl) ⟨by decide, by decide⟩ ⟨rfl, rfl⟩ ⟨Nat.le_of_ble_eq_true rfl, Nat.le_of_ble_eq_true rfl⟩ (k_X9_in _ _ _) ?_
    refine r_if_eq (tgt := 15) (dk kX9_addOfficer 5 rfl) (by decide) (fun c8 => ?_) (fun c8 => absurd (by rw [bI_f hw]) c8)
    refine r_iconst (v := 1) (dk kX9_addOfficer 8 rfl) (by decide) ?_
    refine r_callVp (I' := IX9_fails) (as := [_]) (dk kX9_addOfficer 9 rfl) mv_X9_fails ml_X9_80 rfl rfl o.k rfl rfl (Nat.le_of_ble_eq_true rfl) ⟨by decide, by decide⟩ ⟨rfl, rfl⟩ ⟨Nat.le_of_ble_eq_true rfl, Nat.le_of_ble_eq_true rfl⟩ (k_X9_fails o _) ?_
    refine r_if_eq (tgt := 24) (dk kX9_addOfficer 10 rfl) (by decide) (fun c19 => absurd c19 (by decide)) (fun c19 => ?_)
    refine r_iconst (v := 0) (dk kX9_addOfficer 11 rfl) (by decide) ?_
    refine r_ireturn (dk kX9_addOfficer 12 rfl) rfl rfl ⟨Nat.le_of_ble_eq_true rfl, Nat.le_of_ble_eq_true rfl⟩ ⟨rfl, (mOut_thr (by decide)).symm⟩
theorem k_X9_setQuorum (o : MO M h) {F : Nat} (gi : GI F (mi M (h + 1))) (hk : nb (mi M h) 5 9) (w : Int32) : KE G IX9_setQuorum [.ref h, .int w] M (sp_setQuorum (mi M (h + 1)) w).2.2.1 (mOut (mFail M h 0) h (sp_setQuorum (mi M (h + 1)) w)) := by
  refine KK.ofW (by decide) (by simp [Value.category]) (Nat.le_of_ble_eq_true rfl) rfl ?_
  show WW _ _ _ 0 [_, _, lj] [] _ _ _
  have e1 := mf1 M h 0
  by_cases hw : 1 ≤ w ∧ w ≤ 5
  · refine r_aload_n (dk kX9_setQuorum 0 rfl) rfl ?_
    refine r_iload_n (dk kX9_setQuorum 1 rfl) rfl ?_
    refine r_iconst (v := 1) (dk kX9_setQuorum 2 rfl) (by decide) ?_
    refine r_iconst (v := 5) (dk kX9_setQuorum 3 rfl) (by decide) ?_
    refine r_callSp (I' := IX9_in) (as := [_, _, _]) (dk kX9_setQuorum 4 rfl) ms_X9_in ml_X9_68 rfl rfl rfl (Nat.le_of_ble_eq_true rfl) ⟨by decide, by decide⟩ ⟨rfl, rfl⟩ ⟨Nat.le_of_ble_eq_true rfl, Nat.le_of_ble_eq_true rfl⟩ (k_X9_in _ _ _) ?_
    refine r_if_eq (tgt := 14) (dk kX9_setQuorum 5 rfl) (by decide) (fun c7 => absurd c7 (by rw [bI_t hw]; decide)) (fun c7 => ?_)
    refine r_iconst (v := 0) (dk kX9_setQuorum 6 rfl) (by decide) ?_
    refine r_goto (tgt := 15) (dk kX9_setQuorum 7 rfl) (by decide) ?_
    refine r_callVp (I' := IX9_fails) (as := [_]) (dk kX9_setQuorum 9 rfl) mv_X9_fails ml_X9_80 rfl rfl o.k rfl rfl (Nat.le_of_ble_eq_true rfl) ⟨by decide, by decide⟩ ⟨rfl, rfl⟩ ⟨Nat.le_of_ble_eq_true rfl, Nat.le_of_ble_eq_true rfl⟩ (k_X9_fails o _) ?_
    refine r_if_eq (tgt := 23) (dk kX9_setQuorum 10 rfl) (by decide) (fun c18 => ?_) (fun c18 => absurd (by decide) c18)
    refine r_aload_n (dk kX9_setQuorum 13 rfl) rfl ?_
    refine r_getR (dk kX9_setQuorum 14 rfl) fa_X9_7_8 o.k rfl (o.fl _).r0 ?_
    refine r_iconst (v := 2) (dk kX9_setQuorum 15 rfl) (by decide) ?_
    refine r_ial (dk kX9_setQuorum 16 rfl) (o.fl _).k1 (o.fl _).l1 (j := 2) rfl (by decide) (by decide) ?_
    refine r_istore_n (j := 2) (dk kX9_setQuorum 17 rfl) rfl (by decide) rfl ?_
    simp only [List.set_cons_succ, List.set_cons_zero]
    refine r_iload_n (dk kX9_setQuorum 18 rfl) rfl ?_
    refine r_iload_n (dk kX9_setQuorum 19 rfl) rfl ?_
    -- at 32
    rw [e1]
    by_cases h10 : mi M (h + 1) 2 = w
    · rw [show sp_setQuorum (mi M (h + 1)) w = cDen 2 11 w by unfold sp_setQuorum; rw [if_pos hw, if_pos h10]]
      refine r_icmp_ne (tgt := 44) (dk kX9_setQuorum 20 rfl) (by decide) (fun c32 => absurd c32 (by exact fun z => z h10)) (fun c32 => ?_)
      refine r_aload_n (dk kX9_setQuorum 21 rfl) rfl ?_
      refine r_iconst (v := 2) (dk kX9_setQuorum 22 rfl) (by decide) ?_
      refine r_bipush (v := 11) (dk kX9_setQuorum 23 rfl) (by decide) ?_
      refine r_iload_n (dk kX9_setQuorum 24 rfl) rfl ?_
      refine r_callVp (I' := IX9_denies) (as := [_, _, _]) (dk kX9_setQuorum 25 rfl) mv_X9_denies ml_X9_86 rfl rfl o.k rfl rfl (Nat.le_of_ble_eq_true rfl) ⟨by decide, by decide⟩ ⟨rfl, rfl⟩ ⟨Nat.le_of_ble_eq_true rfl, Nat.le_of_ble_eq_true rfl⟩ (k_X9_denies (o.fl _) _ _ _) ?_
      refine r_ireturn (dk kX9_setQuorum 26 rfl) rfl rfl ⟨Nat.le_of_ble_eq_true rfl, Nat.le_of_ble_eq_true rfl⟩ ⟨rfl, (mOut_den (by decide) (by decide)).symm⟩
    · rw [show sp_setQuorum (mi M (h + 1)) w = cOk (mi M (h + 1) 2) (va_up (mi M (h + 1)) 2 w) by unfold sp_setQuorum; rw [if_pos hw, if_neg h10], mOut_ok]
      refine r_icmp_ne (tgt := 44) (dk kX9_setQuorum 20 rfl) (by decide) (fun c32 => ?_) (fun c32 => absurd (h10) c32)
      refine r_aload_n (dk kX9_setQuorum 27 rfl) rfl ?_
      refine r_aload_n (dk kX9_setQuorum 28 rfl) rfl ?_
      refine r_getR (dk kX9_setQuorum 29 rfl) fa_X9_7_8 o.k rfl (o.fl _).r0 ?_
      refine r_callVu (I' := IX9_keeps) (as := [_]) (dk kX9_setQuorum 30 rfl) mv_X9_keeps ml_X9_90 rfl rfl o.k rfl rfl (Nat.le_of_ble_eq_true rfl) ⟨by decide, by decide⟩ ⟨rfl, rfl⟩ ⟨Nat.le_of_ble_eq_true rfl, Nat.le_of_ble_eq_true rfl⟩ (k_X9_keepsG (o.fl _) (nbF hk 0)) ?_
      -- at 52
      have oX := (o.fl 0).keep (h + 1)
      have eX : mi (mKeep (mFail M h 0) h (h + 1)) (h + 1) = mi M (h + 1) := by rw [mKeep1, e1]
      generalize mKeep (mFail M h 0) h (h + 1) = X at *
      generalize mi M (h + 1) = g at *
      refine r_aload_n (dk kX9_setQuorum 31 rfl) rfl ?_
      refine r_getR (dk kX9_setQuorum 32 rfl) fa_X9_7_8 oX.k rfl oX.r0 ?_
      refine r_iconst (v := 2) (dk kX9_setQuorum 33 rfl) (by decide) ?_
      refine r_iload_n (dk kX9_setQuorum 34 rfl) rfl ?_
      refine r_ias (dk kX9_setQuorum 35 rfl) oX.k1 oX.l1 (j := 2) rfl (by decide) (by decide) ?_
      refine r_iload_n (dk kX9_setQuorum 36 rfl) rfl ?_
      refine r_ireturn (dk kX9_setQuorum 37 rfl) rfl rfl ⟨Nat.le_of_ble_eq_true rfl, Nat.le_of_ble_eq_true rfl⟩ ⟨rfl, by rw [sI_as _ _ _ _ eX]⟩
  · rw [show sp_setQuorum (mi M (h + 1)) w = cThr 1 by unfold sp_setQuorum; rw [if_neg hw]]
    refine r_aload_n (dk kX9_setQuorum 0 rfl) rfl ?_
    refine r_iload_n (dk kX9_setQuorum 1 rfl) rfl ?_
    refine r_iconst (v := 1) (dk kX9_setQuorum 2 rfl) (by decide) ?_
    refine r_iconst (v := 5) (dk kX9_setQuorum 3 rfl) (by decide) ?_
    refine r_callSp (I' := IX9_in) (as := [_, _, _]) (dk kX9_setQuorum 4 rfl) ms_X9_in ml_X9_68 rfl rfl rfl (Nat.le_of_ble_eq_true rfl) ⟨by decide, by decide⟩ ⟨rfl, rfl⟩ ⟨Nat.le_of_ble_eq_true rfl, Nat.le_of_ble_eq_true rfl⟩ (k_X9_in _ _ _) ?_
    refine r_if_eq (tgt := 14) (dk kX9_setQuorum 5 rfl) (by decide) (fun c7 => ?_) (fun c7 => absurd (by rw [bI_f hw]) c7)
    refine r_iconst (v := 1) (dk kX9_setQuorum 8 rfl) (by decide) ?_
    refine r_callVp (I' := IX9_fails) (as := [_]) (dk kX9_setQuorum 9 rfl) mv_X9_fails ml_X9_80 rfl rfl o.k rfl rfl (Nat.le_of_ble_eq_true rfl) ⟨by decide, by decide⟩ ⟨rfl, rfl⟩ ⟨Nat.le_of_ble_eq_true rfl, Nat.le_of_ble_eq_true rfl⟩ (k_X9_fails o _) ?_
    refine r_if_eq (tgt := 23) (dk kX9_setQuorum 10 rfl) (by decide) (fun c18 => absurd c18 (by decide)) (fun c18 => ?_)
    refine r_iconst (v := 0) (dk kX9_setQuorum 11 rfl) (by decide) ?_
    refine r_ireturn (dk kX9_setQuorum 12 rfl) rfl rfl ⟨Nat.le_of_ble_eq_true rfl, Nat.le_of_ble_eq_true rfl⟩ ⟨rfl, (mOut_thr (by decide)).symm⟩
theorem gDrop_3 {g : Nat → Int32} {p : Nat} (n3 : nb g 3 9) (hp : p < gn g 3) : gDrop g p 3 = nI (gn g 3 - 1) := by
  unfold gDrop
  rw [if_pos rfl, n3.1, nI_sub1 (by omega)]
theorem k_X9_veto (o : MO M h) {F : Nat} (gi : GI F (mi M (h + 1))) (hk : nb (mi M h) 5 9) (a x : Int32) : KE G IX9_veto [.ref h, .int a, .int x] M (sp_veto (mi M (h + 1)) a x).2.2.1 (mOut (mFail M h 0) h (sp_veto (mi M (h + 1)) a x)) := by
  refine KK.ofW (by decide) (by simp [Value.category]) (Nat.le_of_ble_eq_true rfl) rfl ?_
  show WW _ _ _ 0 [_, _, _, lj, lj] [] _ _ _
  obtain ⟨hS, hS2⟩ := gi.o
  have gp := gi.p
  have e1 := mf1 M h 0
  refine r_aload_n (dk kX9_veto 0 rfl) rfl ?_
  refine r_iload_n (dk kX9_veto 1 rfl) rfl ?_
  refine r_callVp (I' := IX9_placeOf) (as := [_]) (dk kX9_veto 2 rfl) mv_X9_placeOf ml_X9_110 rfl rfl o.k rfl rfl (Nat.le_of_ble_eq_true rfl) ⟨by decide, by decide⟩ ⟨rfl, rfl⟩ ⟨Nat.le_of_ble_eq_true rfl, Nat.le_of_ble_eq_true rfl⟩ (k_X9_placeOf o gi x) ?_
  refine r_istore_n (j := 3) (dk kX9_veto 3 rfl) rfl (by decide) rfl ?_
  simp only [List.set_cons_succ, List.set_cons_zero]
  -- at 6
  rcases ixo_c (n := gn (mi M (h + 1)) 1) (by omega) a with ⟨e, hb⟩ | ⟨i, hi, rfl, e, hb⟩
  · rw [show sp_veto (mi M (h + 1)) a x = cThr 1 by unfold sp_veto; rw [e]]
    refine r_aload_n (dk kX9_veto 4 rfl) rfl ?_
    refine r_aload_n (dk kX9_veto 5 rfl) rfl ?_
    refine r_iload_n (dk kX9_veto 6 rfl) rfl ?_
    refine r_callVp (I' := IX9_isOfficer) (as := [_]) (dk kX9_veto 7 rfl) mv_X9_isOfficer ml_X9_100 rfl rfl o.k rfl rfl (Nat.le_of_ble_eq_true rfl) ⟨by decide, by decide⟩ ⟨rfl, rfl⟩ ⟨Nat.le_of_ble_eq_true rfl, Nat.le_of_ble_eq_true rfl⟩ (k_X9_isOfficer o a) ?_
    refine r_if_ne (tgt := 19) (dk kX9_veto 8 rfl) (by decide) (fun c12 => absurd c12 (by rw [hS, bI_f hb]; exact fun z => z rfl)) (fun c12 => ?_)
    refine r_iconst (v := 1) (dk kX9_veto 9 rfl) (by decide) ?_
    refine r_goto (tgt := 28) (dk kX9_veto 10 rfl) (by decide) ?_
    refine r_callVp (I' := IX9_fails) (as := [_]) (dk kX9_veto 16 rfl) mv_X9_fails ml_X9_80 rfl rfl o.k rfl rfl (Nat.le_of_ble_eq_true rfl) ⟨by decide, by decide⟩ ⟨rfl, rfl⟩ ⟨Nat.le_of_ble_eq_true rfl, Nat.le_of_ble_eq_true rfl⟩ (k_X9_fails o _) ?_
    refine r_if_eq (tgt := 36) (dk kX9_veto 17 rfl) (by decide) (fun c31 => absurd c31 (by decide)) (fun c31 => ?_)
    refine r_iconst (v := 0) (dk kX9_veto 18 rfl) (by decide) ?_
    refine r_ireturn (dk kX9_veto 19 rfl) rfl rfl ⟨Nat.le_of_ble_eq_true rfl, Nat.le_of_ble_eq_true rfl⟩ ⟨rfl, (mOut_thr (by decide)).symm⟩
  · cases ep : gPlace (mi M (h + 1)) x with
    | none =>
      rw [show sp_veto (mi M (h + 1)) (nI i) x = cThr 2 by unfold sp_veto; rw [e]; simp only; rw [ep]]
      refine r_aload_n (dk kX9_veto 4 rfl) rfl ?_
      refine r_aload_n (dk kX9_veto 5 rfl) rfl ?_
      refine r_iload_n (dk kX9_veto 6 rfl) rfl ?_
      refine r_callVp (I' := IX9_isOfficer) (as := [_]) (dk kX9_veto 7 rfl) mv_X9_isOfficer ml_X9_100 rfl rfl o.k rfl rfl (Nat.le_of_ble_eq_true rfl) ⟨by decide, by decide⟩ ⟨rfl, rfl⟩ ⟨Nat.le_of_ble_eq_true rfl, Nat.le_of_ble_eq_true rfl⟩ (k_X9_isOfficer o _) ?_
      refine r_if_ne (tgt := 19) (dk kX9_veto 8 rfl) (by decide) (fun c12 => ?_) (fun c12 => absurd (by rw [hS, bI_t hb]; decide) c12)
      refine r_iload_n (dk kX9_veto 11 rfl) rfl ?_
      refine r_if_ge (tgt := 27) (dk kX9_veto 12 rfl) (by decide) (fun c20 => absurd c20 (by decide)) (fun c20 => ?_)
      refine r_iconst (v := 2) (dk kX9_veto 13 rfl) (by decide) ?_
      refine r_goto (tgt := 28) (dk kX9_veto 14 rfl) (by decide) ?_
      refine r_callVp (I' := IX9_fails) (as := [_]) (dk kX9_veto 16 rfl) mv_X9_fails ml_X9_80 rfl rfl o.k rfl rfl (Nat.le_of_ble_eq_true rfl) ⟨by decide, by decide⟩ ⟨rfl, rfl⟩ ⟨Nat.le_of_ble_eq_true rfl, Nat.le_of_ble_eq_true rfl⟩ (k_X9_fails o _) ?_
      refine r_if_eq (tgt := 36) (dk kX9_veto 17 rfl) (by decide) (fun c31 => absurd c31 (by decide)) (fun c31 => ?_)
      refine r_iconst (v := 0) (dk kX9_veto 18 rfl) (by decide) ?_
      refine r_ireturn (dk kX9_veto 19 rfl) rfl rfl ⟨Nat.le_of_ble_eq_true rfl, Nat.le_of_ble_eq_true rfl⟩ ⟨rfl, (mOut_thr (by decide)).symm⟩
    | some p =>
      have hp := fx_lt ep
      have hp8 := gi.p.2
      obtain ⟨-, ⟨p1, p1'⟩, -⟩ := gi.pi hp
      have hr := gi.rank p1'
      have hr2 := gi.rank hi
      refine r_aload_n (dk kX9_veto 4 rfl) rfl ?_
      refine r_aload_n (dk kX9_veto 5 rfl) rfl ?_
      refine r_iload_n (dk kX9_veto 6 rfl) rfl ?_
      refine r_callVp (I' := IX9_isOfficer) (as := [_]) (dk kX9_veto 7 rfl) mv_X9_isOfficer ml_X9_100 rfl rfl o.k rfl rfl (Nat.le_of_ble_eq_true rfl) ⟨by decide, by decide⟩ ⟨rfl, rfl⟩ ⟨Nat.le_of_ble_eq_true rfl, Nat.le_of_ble_eq_true rfl⟩ (k_X9_isOfficer o _) ?_
      refine r_if_ne (tgt := 19) (dk kX9_veto 8 rfl) (by decide) (fun c12 => ?_) (fun c12 => absurd (by rw [hS, bI_t hb]; decide) c12)
      refine r_iload_n (dk kX9_veto 11 rfl) rfl ?_
      refine r_if_ge (tgt := 27) (dk kX9_veto 12 rfl) (by decide) (fun c20 => ?_) (fun c20 => absurd (nI_pos' (by omega)) c20)
      refine r_iconst (v := 0) (dk kX9_veto 15 rfl) (by decide) ?_
      refine r_callVp (I' := IX9_fails) (as := [_]) (dk kX9_veto 16 rfl) mv_X9_fails ml_X9_80 rfl rfl o.k rfl rfl (Nat.le_of_ble_eq_true rfl) ⟨by decide, by decide⟩ ⟨rfl, rfl⟩ ⟨Nat.le_of_ble_eq_true rfl, Nat.le_of_ble_eq_true rfl⟩ (k_X9_fails o _) ?_
      refine r_if_eq (tgt := 36) (dk kX9_veto 17 rfl) (by decide) (fun c31 => ?_) (fun c31 => absurd (by decide) c31)
      refine r_aload_n (dk kX9_veto 20 rfl) rfl ?_
      refine r_aload_n (dk kX9_veto 21 rfl) rfl ?_
      refine r_iload_n (dk kX9_veto 22 rfl) rfl ?_
      refine r_iconst (v := 1) (dk kX9_veto 23 rfl) (by decide) ?_
      refine r_callVp (I' := IX9_of) (as := [_, _]) (dk kX9_veto 24 rfl) mv_X9_of ml_X9_106 rfl rfl o.k rfl rfl (Nat.le_of_ble_eq_true rfl) ⟨by decide, by decide⟩ ⟨rfl, rfl⟩ ⟨Nat.le_of_ble_eq_true rfl, Nat.le_of_ble_eq_true rfl⟩ (k_X9_of (o.fl _) (p := p) (w := 1) rfl (by omega) (by decide)) ?_
      -- at 43
      rw [e1, p1]
      refine r_callVp (I' := IX9_rank) (as := [_]) (dk kX9_veto 25 rfl) mv_X9_rank ml_X9_103 rfl rfl o.k rfl rfl (Nat.le_of_ble_eq_true rfl) ⟨by decide, by decide⟩ ⟨rfl, rfl⟩ ⟨Nat.le_of_ble_eq_true rfl, Nat.le_of_ble_eq_true rfl⟩ (k_X9_rank (o.fl _) (by omega)) ?_
      refine r_istore (dk kX9_veto 26 rfl) (by decide) rfl ?_
      simp only [List.set_cons_succ, List.set_cons_zero]
      refine r_aload_n (dk kX9_veto 27 rfl) rfl ?_
      refine r_iload_n (dk kX9_veto 28 rfl) rfl ?_
      refine r_callVp (I' := IX9_rank) (as := [_]) (dk kX9_veto 29 rfl) mv_X9_rank ml_X9_103 rfl rfl o.k rfl rfl (Nat.le_of_ble_eq_true rfl) ⟨by decide, by decide⟩ ⟨rfl, rfl⟩ ⟨Nat.le_of_ble_eq_true rfl, Nat.le_of_ble_eq_true rfl⟩ (k_X9_rank (o.fl _) (by omega)) ?_
      -- at 53
      rw [e1, hr.1, hr2.1]
      by_cases hle : gn (mi M (h + 1)) (29 + i) ≤ gRk (mi M (h + 1)) p
      · rw [show sp_veto (mi M (h + 1)) (nI i) x = cDen 3 8 (nI (gRk (mi M (h + 1)) p)) by unfold sp_veto; rw [e]; simp only; rw [ep]; simp only; rw [if_pos hle]]
        refine r_iload (dk kX9_veto 30 rfl) rfl ?_
        refine r_icmp_gt (tgt := 68) (dk kX9_veto 31 rfl) (by decide) (fun c55 => absurd c55 (Int32.not_lt.mpr (nI_le hle (by have := hr.2; omega)))) (fun c55 => ?_)
        refine r_aload_n (dk kX9_veto 32 rfl) rfl ?_
        refine r_iconst (v := 3) (dk kX9_veto 33 rfl) (by decide) ?_
        refine r_bipush (v := 8) (dk kX9_veto 34 rfl) (by decide) ?_
        refine r_iload (dk kX9_veto 35 rfl) rfl ?_
        refine r_callVp (I' := IX9_denies) (as := [_, _, _]) (dk kX9_veto 36 rfl) mv_X9_denies ml_X9_86 rfl rfl o.k rfl rfl (Nat.le_of_ble_eq_true rfl) ⟨by decide, by decide⟩ ⟨rfl, rfl⟩ ⟨Nat.le_of_ble_eq_true rfl, Nat.le_of_ble_eq_true rfl⟩ (k_X9_denies (o.fl _) _ _ _) ?_
        refine r_ireturn (dk kX9_veto 37 rfl) rfl rfl ⟨Nat.le_of_ble_eq_true rfl, Nat.le_of_ble_eq_true rfl⟩ ⟨rfl, (mOut_den (by decide) (by decide)).symm⟩
      · rw [show sp_veto (mi M (h + 1)) (nI i) x = cOk (nI (gn (mi M (h + 1)) 3 - 1)) (va_up (gDrop (mi M (h + 1)) p) 6 (mi M (h + 1) 6 + 1)) by unfold sp_veto; rw [e]; simp only; rw [ep]; simp only; rw [if_neg hle], mOut_ok]
        refine r_iload (dk kX9_veto 30 rfl) rfl ?_
        refine r_icmp_gt (tgt := 68) (dk kX9_veto 31 rfl) (by decide) (fun c55 => ?_) (fun c55 => absurd (by exact (nI_ltI (by have := hr.2; omega) (by have := hr2.2; omega)).mpr (Nat.lt_of_not_le hle)) c55)
        refine r_aload_n (dk kX9_veto 38 rfl) rfl ?_
        refine r_aload_n (dk kX9_veto 39 rfl) rfl ?_
        refine r_getR (dk kX9_veto 40 rfl) fa_X9_7_8 o.k rfl (o.fl _).r0 ?_
        refine r_callVu (I' := IX9_keeps) (as := [_]) (dk kX9_veto 41 rfl) mv_X9_keeps ml_X9_90 rfl rfl o.k rfl rfl (Nat.le_of_ble_eq_true rfl) ⟨by decide, by decide⟩ ⟨rfl, rfl⟩ ⟨Nat.le_of_ble_eq_true rfl, Nat.le_of_ble_eq_true rfl⟩ (k_X9_keepsG (o.fl _) (nbF hk 0)) ?_
        -- at 76
        have oX := (o.fl 0).keep (h + 1)
        have eX : mi (mKeep (mFail M h 0) h (h + 1)) (h + 1) = mi M (h + 1) := by rw [mKeep1, e1]
        generalize mKeep (mFail M h 0) h (h + 1) = X at *
        generalize mi M (h + 1) = g at *
        refine r_aload_n (dk kX9_veto 42 rfl) rfl ?_
        refine r_iload_n (dk kX9_veto 43 rfl) rfl ?_
        refine r_callVu (I' := IX9_drops) (as := [_]) (dk kX9_veto 44 rfl) mv_X9_drops ml_X9_129 rfl rfl oX.k rfl rfl (Nat.le_of_ble_eq_true rfl) ⟨by decide, by decide⟩ ⟨rfl, rfl⟩ ⟨Nat.le_of_ble_eq_true rfl, Nat.le_of_ble_eq_true rfl⟩ (k_X9_drops oX (p := p) (by rw [eX]; exact gp) (by rw [eX]; exact hp)) ?_
        -- at 81
        rw [eX]
        refine r_aload_n (dk kX9_veto 45 rfl) rfl ?_
        refine r_getR (dk kX9_veto 46 rfl) fa_X9_7_8 oX.k rfl oX.r0 ?_
        refine r_bipush (v := 6) (dk kX9_veto 47 rfl) (by decide) ?_
        refine r_dup2 (dk kX9_veto 48 rfl) rfl rfl ?_
        refine r_ial (dk kX9_veto 49 rfl) oX.k1 oX.l1 (j := 6) rfl (by decide) (by decide) ?_
        refine r_iconst (v := 1) (dk kX9_veto 50 rfl) (by decide) ?_
        refine r_iadd (dk kX9_veto 51 rfl) ?_
        -- at 91
        rw [mi_sA_s, show gDrop g p 6 = g 6 from gDrop_out hp (by decide) (by omega)]
        refine r_ias (dk kX9_veto 52 rfl) oX.k1 oX.l1 (j := 6) rfl (by decide) (by decide) ?_
        refine r_aload_n (dk kX9_veto 53 rfl) rfl ?_
        refine r_getR (dk kX9_veto 54 rfl) fa_X9_7_8 oX.k rfl oX.r0 ?_
        refine r_iconst (v := 3) (dk kX9_veto 55 rfl) (by decide) ?_
        refine r_ial (dk kX9_veto 56 rfl) oX.k1 oX.l1 (j := 3) rfl (by decide) (by decide) ?_
        -- at 98
        rw [sI_sA]
        rw [mi_sA_s, va_up_ne _ _ (by decide), gDrop_3 gp hp]
        refine r_ireturn (dk kX9_veto 57 rfl) rfl rfl ⟨Nat.le_of_ble_eq_true rfl, Nat.le_of_ble_eq_true rfl⟩ ⟨rfl, rfl⟩
theorem k_X9_withdraw (o : MO M h) {F : Nat} (gi : GI F (mi M (h + 1))) (hk : nb (mi M h) 5 9) (x : Int32) : KE G IX9_withdraw [.ref h, .int x] M (sp_withdraw (mi M (h + 1)) x).2.2.1 (mOut (mFail M h 0) h (sp_withdraw (mi M (h + 1)) x)) := by
  refine KK.ofW (by decide) (by simp [Value.category]) (Nat.le_of_ble_eq_true rfl) rfl ?_
  show WW _ _ _ 0 [_, _] [] _ _ _
  have gp := gi.p
  have gf : ∀ p, GI F (mi (mFail M h p) (h + 1)) := fun p => by rw [mf1]; exact gi
  have e1 := mf1 M h 0
  cases ep : gPlace (mi M (h + 1)) x with
  | none =>
    have e2 : bI (gPlace (mi M (h + 1)) x = none) = 1 := bI_t ep
    rw [show sp_withdraw (mi M (h + 1)) x = cThr 1 by unfold sp_withdraw; rw [ep]]
    refine r_aload_n (dk kX9_withdraw 0 rfl) rfl ?_
    refine r_iload_n (dk kX9_withdraw 1 rfl) rfl ?_
    refine r_callVp (I' := IX9_isNone) (as := [_]) (dk kX9_withdraw 2 rfl) mv_X9_isNone ml_X9_133 rfl rfl o.k rfl rfl (Nat.le_of_ble_eq_true rfl) ⟨by decide, by decide⟩ ⟨rfl, rfl⟩ ⟨Nat.le_of_ble_eq_true rfl, Nat.le_of_ble_eq_true rfl⟩ (k_X9_isNone o gi x) ?_
    refine r_if_eq (tgt := 10) (dk kX9_withdraw 3 rfl) (by decide) (fun c5 => absurd c5 (by rw [e2]; decide)) (fun c5 => ?_)
    refine r_iconst (v := 0) (dk kX9_withdraw 4 rfl) (by decide) ?_
    refine r_ireturn (dk kX9_withdraw 5 rfl) rfl rfl ⟨Nat.le_of_ble_eq_true rfl, Nat.le_of_ble_eq_true rfl⟩ ⟨rfl, by rw [e2]; exact (mOut_thr (by decide)).symm⟩
  | some p =>
    have hp := fx_lt ep
    have e2 : bI (gPlace (mi M (h + 1)) x = none) = 0 := bI_f (by rw [ep]; exact Option.some_ne_none _)
    rw [show sp_withdraw (mi M (h + 1)) x = cOk (nI (gn (mi M (h + 1)) 3 - 1)) (va_up (gDrop (mi M (h + 1)) p) 7 (mi M (h + 1) 7 + 1)) by unfold sp_withdraw; rw [ep], mOut_ok]
    refine r_aload_n (dk kX9_withdraw 0 rfl) rfl ?_
    refine r_iload_n (dk kX9_withdraw 1 rfl) rfl ?_
    refine r_callVp (I' := IX9_isNone) (as := [_]) (dk kX9_withdraw 2 rfl) mv_X9_isNone ml_X9_133 rfl rfl o.k rfl rfl (Nat.le_of_ble_eq_true rfl) ⟨by decide, by decide⟩ ⟨rfl, rfl⟩ ⟨Nat.le_of_ble_eq_true rfl, Nat.le_of_ble_eq_true rfl⟩ (k_X9_isNone o gi x) ?_
    refine r_if_eq (tgt := 10) (dk kX9_withdraw 3 rfl) (by decide) (fun c5 => ?_) (fun c5 => absurd (by rw [e2]) c5)
    -- at 10
    rw [e2]
    refine r_aload_n (dk kX9_withdraw 6 rfl) rfl ?_
    refine r_aload_n (dk kX9_withdraw 7 rfl) rfl ?_
    refine r_getR (dk kX9_withdraw 8 rfl) fa_X9_7_8 o.k rfl (o.fl _).r0 ?_
    refine r_callVu (I' := IX9_keeps) (as := [_]) (dk kX9_withdraw 9 rfl) mv_X9_keeps ml_X9_90 rfl rfl o.k rfl rfl (Nat.le_of_ble_eq_true rfl) ⟨by decide, by decide⟩ ⟨rfl, rfl⟩ ⟨Nat.le_of_ble_eq_true rfl, Nat.le_of_ble_eq_true rfl⟩ (k_X9_keepsG (o.fl _) (nbF hk 0)) ?_
    -- at 18
    have oX := (o.fl 0).keep (h + 1)
    have eX : mi (mKeep (mFail M h 0) h (h + 1)) (h + 1) = mi M (h + 1) := by rw [mKeep1, e1]
    generalize mKeep (mFail M h 0) h (h + 1) = X at *
    refine r_aload_n (dk kX9_withdraw 10 rfl) rfl ?_
    refine r_aload_n (dk kX9_withdraw 11 rfl) rfl ?_
    refine r_iload_n (dk kX9_withdraw 12 rfl) rfl ?_
    refine r_callVp (I' := IX9_placeOf) (as := [_]) (dk kX9_withdraw 13 rfl) mv_X9_placeOf ml_X9_110 rfl rfl oX.k rfl rfl (Nat.le_of_ble_eq_true rfl) ⟨by decide, by decide⟩ ⟨rfl, rfl⟩ ⟨Nat.le_of_ble_eq_true rfl, Nat.le_of_ble_eq_true rfl⟩ (k_X9_placeOf oX (F := F) (by rw [eX]; exact gi) x) ?_
    -- at 24
    rw [eX, ep]
    refine r_callVu (I' := IX9_drops) (as := [_]) (dk kX9_withdraw 14 rfl) mv_X9_drops ml_X9_129 rfl rfl oX.k rfl rfl (Nat.le_of_ble_eq_true rfl) ⟨by decide, by decide⟩ ⟨rfl, rfl⟩ ⟨Nat.le_of_ble_eq_true rfl, Nat.le_of_ble_eq_true rfl⟩ (k_X9_drops oX (p := p) (by rw [eX]; exact gp) (by rw [eX]; exact hp)) ?_
    -- at 27
    rw [eX]
    refine r_aload_n (dk kX9_withdraw 15 rfl) rfl ?_
    refine r_getR (dk kX9_withdraw 16 rfl) fa_X9_7_8 oX.k rfl oX.r0 ?_
    refine r_bipush (v := 7) (dk kX9_withdraw 17 rfl) (by decide) ?_
    refine r_dup2 (dk kX9_withdraw 18 rfl) rfl rfl ?_
    refine r_ial (dk kX9_withdraw 19 rfl) oX.k1 oX.l1 (j := 7) rfl (by decide) (by decide) ?_
    refine r_iconst (v := 1) (dk kX9_withdraw 20 rfl) (by decide) ?_
    refine r_iadd (dk kX9_withdraw 21 rfl) ?_
    -- at 37
    rw [mi_sA_s, show gDrop (mi M (h + 1)) p 7 = mi M (h + 1) 7 from gDrop_out hp (by decide) (by omega)]
    refine r_ias (dk kX9_withdraw 22 rfl) oX.k1 oX.l1 (j := 7) rfl (by decide) (by decide) ?_
    refine r_aload_n (dk kX9_withdraw 23 rfl) rfl ?_
    refine r_getR (dk kX9_withdraw 24 rfl) fa_X9_7_8 oX.k rfl oX.r0 ?_
    refine r_iconst (v := 3) (dk kX9_withdraw 25 rfl) (by decide) ?_
    refine r_ial (dk kX9_withdraw 26 rfl) oX.k1 oX.l1 (j := 3) rfl (by decide) (by decide) ?_
    -- at 44
    rw [sI_sA]
    rw [mi_sA_s, va_up_ne _ _ (by decide), gDrop_3 gp hp]
    refine r_ireturn (dk kX9_withdraw 27 rfl) rfl rfl ⟨Nat.le_of_ble_eq_true rfl, Nat.le_of_ble_eq_true rfl⟩ ⟨rfl, rfl⟩
end MODEL
