/-! COMMANDS BY THEIR LETTERS -/
/-- the command of the letter c at the values a -/
def sp_cmd (g : Nat → Int32) (c : Int32) (a : Nat → Nat) : CO :=
  if c = 115 then sp_addStone g (nI (a 0)) (nI (a 1)) else if c = 111 then sp_addOfficer g (nI (a 0)) else if c = 113 then sp_setQuorum g (nI (a 0)) else if c = 102 then sp_file g (nI (a 0)) (nI (a 1)) (nI (a 2)) (nI (a 3)) else if c = 121 then sp_vote g (nI (a 0)) (nI (a 1)) 1 else if c = 110 then sp_vote g (nI (a 0)) (nI (a 1)) 0 else if c = 99 then sp_cite g (nI (a 0)) (nI (a 1)) else if c = 118 then sp_veto g (nI (a 0)) (nI (a 1)) else if c = 119 then sp_withdraw g (nI (a 0)) else sp_decide g
/-- how many values the command of the letter c has -/
def pN (c : Int32) : Nat := match pI c with
  | none => 0
  | some i => ((tx_byt.getD i []).filter (fun c => c == 68 || c == 78)).length
theorem c_no {p : Int32} {P : Prop} (h : p = 0) (hp : p ≠ 0) : P := absurd h hp
section GI
variable {F : Nat} {g : Nat → Int32}
theorem GI_spAddStone (i : GI F g) {c w : Int32} (h0 : (sp_addStone g c w).1 = 0) : GI F (sp_addStone g c w).2.2.2 := by
  unfold sp_addStone at h0 ⊢
  by_cases hc : 0 ≤ c ∧ c ≤ 24
  · rw [if_pos hc] at h0 ⊢
    by_cases hw : 1 ≤ w ∧ w ≤ 9
    · rw [if_pos hw] at h0 ⊢
      cases e : gWithin g c with
      | some k => rw [e] at h0; exact c_no (p := 3) h0 (by decide)
      | none =>
        rw [e] at h0
        simp only at h0 ⊢
        by_cases h10 : gn g 0 = 10
        · rw [if_pos h10] at h0; exact c_no (p := 3) h0 (by decide)
        · rw [if_neg h10]; exact GI_addStone i hc h10
    · rw [if_neg hw] at h0; exact c_no (p := 2) h0 (by decide)
  · rw [if_neg hc] at h0; exact c_no (p := 1) h0 (by decide)
theorem GI_spAddOfficer (i : GI F g) {r : Int32} (h0 : (sp_addOfficer g r).1 = 0) : GI F (sp_addOfficer g r).2.2.2 := by
  unfold sp_addOfficer at h0 ⊢
  by_cases hc : 1 ≤ r ∧ r ≤ 9
  · rw [if_pos hc] at h0 ⊢
    by_cases h6 : gn g 1 = 6
    · rw [if_pos h6] at h0; exact c_no (p := 2) h0 (by decide)
    · rw [if_neg h6]; exact GI_addOfficer i hc h6
  · rw [if_neg hc] at h0; exact c_no (p := 1) h0 (by decide)
theorem GI_spSetQuorum (i : GI F g) {q : Int32} (h0 : (sp_setQuorum g q).1 = 0) : GI F (sp_setQuorum g q).2.2.2 := by
  unfold sp_setQuorum at h0 ⊢
  by_cases hc : 1 ≤ q ∧ q ≤ 5
  · rw [if_pos hc] at h0 ⊢
    by_cases h6 : g 2 = q
    · rw [if_pos h6] at h0; exact c_no (p := 2) h0 (by decide)
    · rw [if_neg h6]; exact GI_quorum i hc
  · rw [if_neg hc] at h0; exact c_no (p := 1) h0 (by decide)
theorem GI_spFile (i : GI F g) (hF : F + 1 < 2 ^ 30) {a s c u : Int32} (h0 : (sp_file g a s c u).1 = 0) : GI (F + 1) (sp_file g a s c u).2.2.2 := by
  unfold sp_file at h0 ⊢
  rcases ixo_c (n := gn g 1) (by have := i.o.2; omega) a with ⟨ea, hb⟩ | ⟨x, hx, rfl, ea, hb⟩
  · rw [ea] at h0; exact c_no (p := 1) h0 (by decide)
  · rw [ea] at h0 ⊢
    simp only at h0 ⊢
    rcases ixo_c (n := gn g 0) (by have := i.s.2; omega) s with ⟨es, hb2⟩ | ⟨k, hk, rfl, es, hb2⟩
    · rw [es] at h0; exact c_no (p := 1) h0 (by decide)
    · rw [es] at h0 ⊢
      simp only at h0 ⊢
      by_cases hc : 0 ≤ c ∧ c ≤ 24
      · rw [if_pos hc] at h0 ⊢
        by_cases hu : 0 ≤ u ∧ u ≤ 9
        · rw [if_pos hu] at h0 ⊢
          cases e : gAbout g (nI k) with
          | some p => rw [e] at h0; exact c_no (p := 3) h0 (by decide)
          | none =>
            rw [e] at h0
            simp only at h0 ⊢
            by_cases h4 : g (9 + 2 * k) = c
            · rw [if_pos h4] at h0; exact c_no (p := 3) h0 (by decide)
            · rw [if_neg h4] at h0 ⊢
              by_cases h8 : gn g 3 = 8
              · rw [if_pos h8] at h0; exact c_no (p := 3) h0 (by decide)
              · rw [if_neg h8]; exact GI_file i hF hx hk hc hu h8
        · rw [if_neg hu] at h0; exact c_no (p := 2) h0 (by decide)
      · rw [if_neg hc] at h0; exact c_no (p := 1) h0 (by decide)
theorem GI_spVote (i : GI F g) {a x b : Int32} (h0 : (sp_vote g a x b).1 = 0) : GI F (sp_vote g a x b).2.2.2 := by
  unfold sp_vote at h0 ⊢
  rcases ixo_c (n := gn g 1) (by have := i.o.2; omega) a with ⟨ea, hb⟩ | ⟨k, hk, rfl, ea, hb⟩
  · rw [ea] at h0; exact c_no (p := 1) h0 (by decide)
  · rw [ea] at h0 ⊢
    simp only at h0 ⊢
    cases e : gPlace g x with
    | none => rw [e] at h0; exact c_no (p := 2) h0 (by decide)
    | some p =>
      rw [e] at h0
      simp only at h0 ⊢
      by_cases q1 : g (35 + 11 * p + 1) = nI k
      · rw [if_pos q1] at h0; exact c_no (p := 3) h0 (by decide)
      · rw [if_neg q1] at h0 ⊢
        by_cases q2 : (gn g (35 + 11 * p + 5)).testBit k = true
        · rw [if_pos q2] at h0; exact c_no (p := 3) h0 (by decide)
        · rw [if_neg q2] at h0 ⊢
          by_cases q3 : (gn g (35 + 11 * p + 6)).testBit k = true
          · rw [if_pos q3] at h0; exact c_no (p := 3) h0 (by decide)
          · rw [if_neg q3]
            refine GI_vote i (fx_lt e) (by have := i.o.2; omega) ?_
            by_cases hb : b = 0
            · rw [if_pos hb]; exact Or.inr rfl
            · rw [if_neg hb]; exact Or.inl rfl
theorem GI_spCite (i : GI F g) {x r : Int32} (h0 : (sp_cite g x r).1 = 0) : GI F (sp_cite g x r).2.2.2 := by
  unfold sp_cite at h0 ⊢
  cases e : gPlace g x with
  | none => rw [e] at h0; exact c_no (p := 1) h0 (by decide)
  | some p =>
    rw [e] at h0
    simp only at h0 ⊢
    rcases ixo_c (n := gn g 5) (by have := i.r.2; omega) r with ⟨ea, hb⟩ | ⟨k, hk, rfl, ea, hb⟩
    · rw [ea] at h0; exact c_no (p := 1) h0 (by decide)
    · rw [ea] at h0 ⊢
      simp only at h0 ⊢
      by_cases q1 : gCited g p k = true
      · rw [if_pos q1] at h0; exact c_no (p := 2) h0 (by decide)
      · rw [if_neg q1] at h0 ⊢
        by_cases q2 : gn g (35 + 11 * p + 7) = 3
        · rw [if_pos q2] at h0; exact c_no (p := 2) h0 (by decide)
        · rw [if_neg q2]; exact GI_cite i (fx_lt e) hk q2
theorem GI_spVeto (i : GI F g) {a x : Int32} (h0 : (sp_veto g a x).1 = 0) : GI F (sp_veto g a x).2.2.2 := by
  unfold sp_veto at h0 ⊢
  rcases ixo_c (n := gn g 1) (by have := i.o.2; omega) a with ⟨ea, hb⟩ | ⟨k, hk, rfl, ea, hb⟩
  · rw [ea] at h0; exact c_no (p := 1) h0 (by decide)
  · rw [ea] at h0 ⊢
    simp only at h0 ⊢
    cases e : gPlace g x with
    | none => rw [e] at h0; exact c_no (p := 2) h0 (by decide)
    | some p =>
      rw [e] at h0
      simp only at h0 ⊢
      by_cases q1 : gn g (29 + k) ≤ gRk g p
      · rw [if_pos q1] at h0; exact c_no (p := 3) h0 (by decide)
      · rw [if_neg q1]; exact GI_free (GI_drop i (fx_lt e)) (fun x h6 _ _ => va_up_ne _ _ h6)
theorem GI_spWithdraw (i : GI F g) {x : Int32} (h0 : (sp_withdraw g x).1 = 0) : GI F (sp_withdraw g x).2.2.2 := by
  unfold sp_withdraw at h0 ⊢
  cases e : gPlace g x with
  | none => rw [e] at h0; exact c_no (p := 1) h0 (by decide)
  | some p => exact GI_free (GI_drop i (fx_lt e)) (fun x _ h7 _ => va_up_ne _ _ h7)
theorem GI_spDecide (i : GI F g) (h0 : (sp_decide g).1 = 0) : GI F (sp_decide g).2.2.2 := by
  unfold sp_decide at h0 ⊢
  cases e : gQueued g 0 with
  | none => rw [e] at h0; exact c_no (p := 1) h0 (by decide)
  | some p =>
    rw [e] at h0
    simp only at h0 ⊢
    by_cases q1 : gVotes g p < gn g 2
    · rw [if_pos q1] at h0; exact c_no (p := 1) h0 (by decide)
    · rw [if_neg q1] at h0 ⊢
      by_cases q2 : gn g 5 = 16
      · rw [if_pos q2] at h0; exact c_no (p := 1) h0 (by decide)
      · rw [if_neg q2]; exact GI_decide i (fx_lt e) q2
theorem GI_cmd (i : GI F g) (hF : F + 1 < 2 ^ 30) {c : Int32} {a : Nat → Nat} (h0 : (sp_cmd g c a).1 = 0) : GI (F + 1) (sp_cmd g c a).2.2.2 := by
  have up : ∀ g', GI F g' → GI (F + 1) g' := fun g' j => j.mono (Nat.le_succ F) hF
  unfold sp_cmd at h0 ⊢
  by_cases e115 : c = 115
  · rw [if_pos e115] at h0 ⊢
    exact up _ (GI_spAddStone i h0)
  rw [if_neg e115] at h0 ⊢
  by_cases e111 : c = 111
  · rw [if_pos e111] at h0 ⊢
    exact up _ (GI_spAddOfficer i h0)
  rw [if_neg e111] at h0 ⊢
  by_cases e113 : c = 113
  · rw [if_pos e113] at h0 ⊢
    exact up _ (GI_spSetQuorum i h0)
  rw [if_neg e113] at h0 ⊢
  by_cases e102 : c = 102
  · rw [if_pos e102] at h0 ⊢
    exact GI_spFile i hF h0
  rw [if_neg e102] at h0 ⊢
  by_cases e121 : c = 121
  · rw [if_pos e121] at h0 ⊢
    exact up _ (GI_spVote i h0)
  rw [if_neg e121] at h0 ⊢
  by_cases e110 : c = 110
  · rw [if_pos e110] at h0 ⊢
    exact up _ (GI_spVote i h0)
  rw [if_neg e110] at h0 ⊢
  by_cases e99 : c = 99
  · rw [if_pos e99] at h0 ⊢
    exact up _ (GI_spCite i h0)
  rw [if_neg e99] at h0 ⊢
  by_cases e118 : c = 118
  · rw [if_pos e118] at h0 ⊢
    exact up _ (GI_spVeto i h0)
  rw [if_neg e118] at h0 ⊢
  by_cases e119 : c = 119
  · rw [if_pos e119] at h0 ⊢
    exact up _ (GI_spWithdraw i h0)
  rw [if_neg e119] at h0 ⊢
  exact up _ (GI_spDecide i h0)
end GI
section MODEL
variable {G : GG} {M : Mm} {h : Nat}
theorem k_X9_carries (o : MO M h) {F : Nat} (gi : GI F (mi M (h + 1))) (hk : nb (mi M h) 5 9) {k : Nat} (hk30 : k < 30) {c : Int32} {a : Nat → Nat} (hc : mi M (h + 8) (5 * k) = c) (hl : pI c ≠ none) (ha : ∀ m, m < pN c → mi M (h + 8) (5 * k + 1 + m) = nI (a m)) : KE G IX9_carries [.ref h, .int (nI (5 * k))] M (sp_cmd (mi M (h + 1)) c a).2.2.1 (mOut (if c = 100 then M else mFail M h 0) h (sp_cmd (mi M (h + 1)) c a)) := by
  refine KK.ofW (by decide) (by simp [Value.category]) (Nat.le_of_ble_eq_true rfl) rfl ?_
  show WW _ _ _ 0 [_, _, lj, lj] [] _ _ _
  refine r_aload_n (dk kX9_carries_p0 0 rfl) rfl ?_
  refine r_getR (dk kX9_carries_p0 1 rfl) fa_X9_36_8 o.k rfl o.r20 ?_
  refine r_iload_n (dk kX9_carries_p0 2 rfl) rfl ?_
  refine r_iconst (v := 1) (dk kX9_carries_p0 3 rfl) (by decide) ?_
  refine r_iadd (dk kX9_carries_p0 4 rfl) ?_
  refine r_ial (dk kX9_carries_p0 5 rfl) o.k8 o.l8 (j := 5 * k + 1) (nI_1 _) (by omega) (by decide) ?_
  refine r_istore_n (j := 2) (dk kX9_carries_p0 6 rfl) rfl (by decide) rfl ?_
  simp only [List.set_cons_succ, List.set_cons_zero]
  refine r_aload_n (dk kX9_carries_p0 7 rfl) rfl ?_
  refine r_getR (dk kX9_carries_p0 8 rfl) fa_X9_36_8 o.k rfl o.r20 ?_
  refine r_iload_n (dk kX9_carries_p0 9 rfl) rfl ?_
  refine r_iconst (v := 2) (dk kX9_carries_p0 10 rfl) (by decide) ?_
  refine r_iadd (dk kX9_carries_p0 11 rfl) ?_
  refine r_ial (dk kX9_carries_p0 12 rfl) o.k8 o.l8 (j := 5 * k + 2) (ixd rfl) (by omega) (by decide) ?_
  refine r_istore_n (j := 3) (dk kX9_carries_p0 13 rfl) rfl (by decide) rfl ?_
  simp only [List.set_cons_succ, List.set_cons_zero]
  refine r_aload_n (dk kX9_carries_p0 14 rfl) rfl ?_
  refine r_getR (dk kX9_carries_p0 15 rfl) fa_X9_36_8 o.k rfl o.r20 ?_
  refine r_iload_n (dk kX9_carries_p0 16 rfl) rfl ?_
  refine r_ial (dk kX9_carries_p0 17 rfl) o.k8 o.l8 (j := 5 * k) rfl (by omega) (by decide) ?_
  -- at 24
  rw [hc]
  unfold sp_cmd
  by_cases e115 : c = 115
  · subst e115
    refine r_switchIn (off := 108) (tgt := 132) (dk kX9_carries_p0 18 rfl) (by decide) (by decide) (by rfl) (by decide) ?_
    have a0 : mi M (h + 8) (5 * k + 1) = nI (a 0) := ha 0 (by decide)
    have a1 : mi M (h + 8) (5 * k + 2) = nI (a 1) := ha 1 (by decide)
    rw [a0, a1]
    rw [show (if (115 : Int32) = 100 then M else mFail M h 0) = mFail M h 0 from (if_neg (by decide))]
    refine r_aload_n (dk kX9_carries_p0 19 rfl) rfl ?_
    refine r_iload_n (dk kX9_carries_p0 20 rfl) rfl ?_
    refine r_iload_n (dk kX9_carries_p0 21 rfl) rfl ?_
    refine r_callVp (I' := IX9_addStone) (as := [_, _]) (dk kX9_carries_p0 22 rfl) mv_X9_addStone ml_X9_219 rfl rfl o.k rfl rfl (Nat.le_of_ble_eq_true rfl) ⟨by decide, by decide⟩ ⟨rfl, rfl⟩ ⟨Nat.le_of_ble_eq_true rfl, Nat.le_of_ble_eq_true rfl⟩ (k_X9_addStone o gi hk _ _) ?_
    refine r_ireturn (dk kX9_carries_p0 23 rfl) rfl rfl ⟨Nat.le_of_ble_eq_true rfl, Nat.le_of_ble_eq_true rfl⟩ ⟨rfl, rfl⟩
  by_cases e111 : c = 111
  · subst e111
    refine r_switchIn (off := 115) (tgt := 139) (dk kX9_carries_p0 18 rfl) (by decide) (by decide) (by rfl) (by decide) ?_
    have a0 : mi M (h + 8) (5 * k + 1) = nI (a 0) := ha 0 (by decide)
    rw [a0]
    rw [show (if (111 : Int32) = 100 then M else mFail M h 0) = mFail M h 0 from (if_neg (by decide))]
    refine r_aload_n (dk kX9_carries_p0 24 rfl) rfl ?_
    refine r_iload_n (dk kX9_carries_p0 25 rfl) rfl ?_
    refine r_callVp (I' := IX9_addOfficer) (as := [_]) (dk kX9_carries_p0 26 rfl) mv_X9_addOfficer ml_X9_222 rfl rfl o.k rfl rfl (Nat.le_of_ble_eq_true rfl) ⟨by decide, by decide⟩ ⟨rfl, rfl⟩ ⟨Nat.le_of_ble_eq_true rfl, Nat.le_of_ble_eq_true rfl⟩ (k_X9_addOfficer o gi hk _) ?_
    refine r_ireturn (dk kX9_carries_p0 27 rfl) rfl rfl ⟨Nat.le_of_ble_eq_true rfl, Nat.le_of_ble_eq_true rfl⟩ ⟨rfl, rfl⟩
  by_cases e113 : c = 113
  · subst e113
    refine r_switchIn (off := 121) (tgt := 145) (dk kX9_carries_p0 18 rfl) (by decide) (by decide) (by rfl) (by decide) ?_
    have a0 : mi M (h + 8) (5 * k + 1) = nI (a 0) := ha 0 (by decide)
    rw [a0]
    rw [show (if (113 : Int32) = 100 then M else mFail M h 0) = mFail M h 0 from (if_neg (by decide))]
    refine r_aload_n (dk kX9_carries_p0 28 rfl) rfl ?_
    refine r_iload_n (dk kX9_carries_p0 29 rfl) rfl ?_
    refine r_callVp (I' := IX9_setQuorum) (as := [_]) (dk kX9_carries_p0 30 rfl) mv_X9_setQuorum ml_X9_225 rfl rfl o.k rfl rfl (Nat.le_of_ble_eq_true rfl) ⟨by decide, by decide⟩ ⟨rfl, rfl⟩ ⟨Nat.le_of_ble_eq_true rfl, Nat.le_of_ble_eq_true rfl⟩ (k_X9_setQuorum o gi hk _) ?_
    refine r_ireturn (dk kX9_carries_p0 31 rfl) rfl rfl ⟨Nat.le_of_ble_eq_true rfl, Nat.le_of_ble_eq_true rfl⟩ ⟨rfl, rfl⟩
  by_cases e102 : c = 102
  · subst e102
    refine r_switchIn (off := 127) (tgt := 151) (dk kX9_carries_p0 18 rfl) (by decide) (by decide) (by rfl) (by decide) ?_
    have a0 : mi M (h + 8) (5 * k + 1) = nI (a 0) := ha 0 (by decide)
    have a1 : mi M (h + 8) (5 * k + 2) = nI (a 1) := ha 1 (by decide)
    have a2 : mi M (h + 8) (5 * k + 3) = nI (a 2) := ha 2 (by decide)
    have a3 : mi M (h + 8) (5 * k + 4) = nI (a 3) := ha 3 (by decide)
    rw [a0, a1]
    rw [show (if (102 : Int32) = 100 then M else mFail M h 0) = mFail M h 0 from (if_neg (by decide))]
    refine r_aload_n (dk kX9_carries_p0 32 rfl) rfl ?_
    refine r_iload_n (dk kX9_carries_p0 33 rfl) rfl ?_
    refine r_iload_n (dk kX9_carries_p0 34 rfl) rfl ?_
    refine r_aload_n (dk kX9_carries_p0 35 rfl) rfl ?_
    refine r_getR (dk kX9_carries_p0 36 rfl) fa_X9_36_8 o.k rfl o.r20 ?_
    refine r_iload_n (dk kX9_carries_p0 37 rfl) rfl ?_
    refine r_iconst (v := 3) (dk kX9_carries_p0 38 rfl) (by decide) ?_
    refine r_iadd (dk kX9_carries_p0 39 rfl) ?_
    refine r_ial (dk kX9_carries_p0 40 rfl) o.k8 o.l8 (j := 5 * k + 3) (ixd rfl) (by omega) (by decide) ?_
    -- at 162
    rw [a2]
    refine r_aload_n (dk kX9_carries_p0 41 rfl) rfl ?_
    refine r_getR (dk kX9_carries_p0 42 rfl) fa_X9_36_8 o.k rfl o.r20 ?_
    refine r_iload_n (dk kX9_carries_p0 43 rfl) rfl ?_
    refine r_iconst (v := 4) (dk kX9_carries_p0 44 rfl) (by decide) ?_
    refine r_iadd (dk kX9_carries_p0 45 rfl) ?_
    refine r_ial (dk kX9_carries_p0 46 rfl) o.k8 o.l8 (j := 5 * k + 4) (ixd rfl) (by omega) (by decide) ?_
    -- at 170
    rw [a3]
    refine r_callVp (I' := IX9_file) (as := [_, _, _, _]) (dk kX9_carries_p0 47 rfl) mv_X9_file ml_X9_228 rfl rfl o.k rfl rfl (Nat.le_of_ble_eq_true rfl) ⟨by decide, by decide⟩ ⟨rfl, rfl⟩ ⟨Nat.le_of_ble_eq_true rfl, Nat.le_of_ble_eq_true rfl⟩ (k_X9_file o gi hk _ _ _ _) ?_
    refine r_ireturn (dk kX9_carries_p0 48 rfl) rfl rfl ⟨Nat.le_of_ble_eq_true rfl, Nat.le_of_ble_eq_true rfl⟩ ⟨rfl, rfl⟩
  by_cases e121 : c = 121
  · subst e121
    refine r_switchIn (off := 150) (tgt := 174) (dk kX9_carries_p0 18 rfl) (by decide) (by decide) (by rfl) (by decide) ?_
    have a0 : mi M (h + 8) (5 * k + 1) = nI (a 0) := ha 0 (by decide)
    have a1 : mi M (h + 8) (5 * k + 2) = nI (a 1) := ha 1 (by decide)
    rw [a0, a1]
    rw [show (if (121 : Int32) = 100 then M else mFail M h 0) = mFail M h 0 from (if_neg (by decide))]
    refine r_aload_n (dk kX9_carries_p0 49 rfl) rfl ?_
    refine r_iload_n (dk kX9_carries_p0 50 rfl) rfl ?_
    refine r_iload_n (dk kX9_carries_p0 51 rfl) rfl ?_
    refine r_iconst (v := 1) (dk kX9_carries_p0 52 rfl) (by decide) ?_
    refine r_callVp (I' := IX9_vote) (as := [_, _, _]) (dk kX9_carries_p0 53 rfl) mv_X9_vote ml_X9_231 rfl rfl o.k rfl rfl (Nat.le_of_ble_eq_true rfl) ⟨by decide, by decide⟩ ⟨rfl, rfl⟩ ⟨Nat.le_of_ble_eq_true rfl, Nat.le_of_ble_eq_true rfl⟩ (k_X9_vote o gi hk _ _ _) ?_
    refine r_ireturn (dk kX9_carries_p0 54 rfl) rfl rfl ⟨Nat.le_of_ble_eq_true rfl, Nat.le_of_ble_eq_true rfl⟩ ⟨rfl, rfl⟩
  by_cases e110 : c = 110
  · subst e110
    refine r_switchIn (off := 158) (tgt := 182) (dk kX9_carries_p0 18 rfl) (by decide) (by decide) (by rfl) (by decide) ?_
    have a0 : mi M (h + 8) (5 * k + 1) = nI (a 0) := ha 0 (by decide)
    have a1 : mi M (h + 8) (5 * k + 2) = nI (a 1) := ha 1 (by decide)
    rw [a0, a1]
    rw [show (if (110 : Int32) = 100 then M else mFail M h 0) = mFail M h 0 from (if_neg (by decide))]
    refine r_aload_n (dk kX9_carries_p0 55 rfl) rfl ?_
    refine r_iload_n (dk kX9_carries_p0 56 rfl) rfl ?_
    refine r_iload_n (dk kX9_carries_p0 57 rfl) rfl ?_
    refine r_iconst (v := 0) (dk kX9_carries_p0 58 rfl) (by decide) ?_
    refine r_callVp (I' := IX9_vote) (as := [_, _, _]) (dk kX9_carries_p0 59 rfl) mv_X9_vote ml_X9_231 rfl rfl o.k rfl rfl (Nat.le_of_ble_eq_true rfl) ⟨by decide, by decide⟩ ⟨rfl, rfl⟩ ⟨Nat.le_of_ble_eq_true rfl, Nat.le_of_ble_eq_true rfl⟩ (k_X9_vote o gi hk _ _ _) ?_
    refine r_ireturn (dk kX9_carries_p1 0 rfl) rfl rfl ⟨Nat.le_of_ble_eq_true rfl, Nat.le_of_ble_eq_true rfl⟩ ⟨rfl, rfl⟩
  by_cases e99 : c = 99
  · subst e99
    refine r_switchIn (off := 166) (tgt := 190) (dk kX9_carries_p0 18 rfl) (by decide) (by decide) (by rfl) (by decide) ?_
    have a0 : mi M (h + 8) (5 * k + 1) = nI (a 0) := ha 0 (by decide)
    have a1 : mi M (h + 8) (5 * k + 2) = nI (a 1) := ha 1 (by decide)
    rw [a0, a1]
    rw [show (if (99 : Int32) = 100 then M else mFail M h 0) = mFail M h 0 from (if_neg (by decide))]
    refine r_aload_n (dk kX9_carries_p1 1 rfl) rfl ?_
    refine r_iload_n (dk kX9_carries_p1 2 rfl) rfl ?_
    refine r_iload_n (dk kX9_carries_p1 3 rfl) rfl ?_
    refine r_callVp (I' := IX9_cite) (as := [_, _]) (dk kX9_carries_p1 4 rfl) mv_X9_cite ml_X9_235 rfl rfl o.k rfl rfl (Nat.le_of_ble_eq_true rfl) ⟨by decide, by decide⟩ ⟨rfl, rfl⟩ ⟨Nat.le_of_ble_eq_true rfl, Nat.le_of_ble_eq_true rfl⟩ (k_X9_cite o gi hk _ _) ?_
    refine r_ireturn (dk kX9_carries_p1 5 rfl) rfl rfl ⟨Nat.le_of_ble_eq_true rfl, Nat.le_of_ble_eq_true rfl⟩ ⟨rfl, rfl⟩
  by_cases e118 : c = 118
  · subst e118
    refine r_switchIn (off := 173) (tgt := 197) (dk kX9_carries_p0 18 rfl) (by decide) (by decide) (by rfl) (by decide) ?_
    have a0 : mi M (h + 8) (5 * k + 1) = nI (a 0) := ha 0 (by decide)
    have a1 : mi M (h + 8) (5 * k + 2) = nI (a 1) := ha 1 (by decide)
    rw [a0, a1]
    rw [show (if (118 : Int32) = 100 then M else mFail M h 0) = mFail M h 0 from (if_neg (by decide))]
    refine r_aload_n (dk kX9_carries_p1 6 rfl) rfl ?_
    refine r_iload_n (dk kX9_carries_p1 7 rfl) rfl ?_
    refine r_iload_n (dk kX9_carries_p1 8 rfl) rfl ?_
    refine r_callVp (I' := IX9_veto) (as := [_, _]) (dk kX9_carries_p1 9 rfl) mv_X9_veto ml_X9_237 rfl rfl o.k rfl rfl (Nat.le_of_ble_eq_true rfl) ⟨by decide, by decide⟩ ⟨rfl, rfl⟩ ⟨Nat.le_of_ble_eq_true rfl, Nat.le_of_ble_eq_true rfl⟩ (k_X9_veto o gi hk _ _) ?_
    refine r_ireturn (dk kX9_carries_p1 10 rfl) rfl rfl ⟨Nat.le_of_ble_eq_true rfl, Nat.le_of_ble_eq_true rfl⟩ ⟨rfl, rfl⟩
  by_cases e119 : c = 119
  · subst e119
    refine r_switchIn (off := 180) (tgt := 204) (dk kX9_carries_p0 18 rfl) (by decide) (by decide) (by rfl) (by decide) ?_
    have a0 : mi M (h + 8) (5 * k + 1) = nI (a 0) := ha 0 (by decide)
    rw [a0]
    rw [show (if (119 : Int32) = 100 then M else mFail M h 0) = mFail M h 0 from (if_neg (by decide))]
    refine r_aload_n (dk kX9_carries_p1 11 rfl) rfl ?_
    refine r_iload_n (dk kX9_carries_p1 12 rfl) rfl ?_
    refine r_callVp (I' := IX9_withdraw) (as := [_]) (dk kX9_carries_p1 13 rfl) mv_X9_withdraw ml_X9_239 rfl rfl o.k rfl rfl (Nat.le_of_ble_eq_true rfl) ⟨by decide, by decide⟩ ⟨rfl, rfl⟩ ⟨Nat.le_of_ble_eq_true rfl, Nat.le_of_ble_eq_true rfl⟩ (k_X9_withdraw o gi hk _) ?_
    refine r_ireturn (dk kX9_carries_p1 14 rfl) rfl rfl ⟨Nat.le_of_ble_eq_true rfl, Nat.le_of_ble_eq_true rfl⟩ ⟨rfl, rfl⟩
  by_cases e100 : c = 100
  · subst e100
    refine r_switchIn (off := 186) (tgt := 210) (dk kX9_carries_p0 18 rfl) (by decide) (by decide) (by rfl) (by decide) ?_
    rw [show (if (100 : Int32) = 100 then M else mFail M h 0) = M from (if_pos rfl)]
    refine r_aload_n (dk kX9_carries_p1 15 rfl) rfl ?_
    refine r_callVp (I' := IX9_decide) (as := []) (dk kX9_carries_p1 16 rfl) mv_X9_decide ml_X9_241 rfl rfl o.k rfl rfl (Nat.le_of_ble_eq_true rfl) ⟨by decide, by decide⟩ ⟨rfl, rfl⟩ ⟨Nat.le_of_ble_eq_true rfl, Nat.le_of_ble_eq_true rfl⟩ (k_X9_decide o gi hk) ?_
    refine r_ireturn (dk kX9_carries_p1 17 rfl) rfl rfl ⟨Nat.le_of_ble_eq_true rfl, Nat.le_of_ble_eq_true rfl⟩ ⟨rfl, rfl⟩
  exfalso
  apply hl
  unfold pI
  rw [if_neg e115, if_neg e111, if_neg e113, if_neg e102, if_neg e121, if_neg e110, if_neg e99, if_neg e118, if_neg e119, if_neg e100]
end MODEL
