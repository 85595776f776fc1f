/-! THE REFERENCE: execute, from its start -/
section MODEL
variable {G : GG} {M : Mm} {h : Nat}
theorem k_X9_execute (o : MO M h) {F n : Nat} {inp : Nat → Int32} (t : mIn M h n inp) (gi : GI F (mi M (h + 1))) (hF : F + 9 < 2 ^ 30) (hk : nb (mi M h) 5 9) (h6 : mi M h 6 = 0) : KK G IX9_execute [.ref h] M (qi (QE M h inp n) nox) := by
  refine KK.ofW (by decide) (by simp [Value.category]) (Nat.le_of_ble_eq_true rfl) rfl ?_
  show WW _ _ _ 0 [_, lj, lj, lj] [] _ _ _
  refine r_aload_n (dk kX9_execute_p0 0 rfl) rfl ?_
  refine r_callV (I' := IX9_isText) (as := []) (dk kX9_execute_p0 1 rfl) mv_X9_isText ml_X9_243 rfl rfl o.k rfl rfl (Nat.le_of_ble_eq_true rfl) ⟨by decide, by decide⟩ ⟨Nat.le_of_ble_eq_true rfl, Nat.le_of_ble_eq_true rfl⟩ (k_X9_isText o t) ?_ ?_
  · exact fun E M' z => z.elim
  rintro v M' ⟨y, rfl, hy, tl, rfl, hT⟩
  show WW G IX9_execute _ 4 [.ref h, lj, lj, lj] [.int y] _ 0 0
  rw [hy]
  have r1 : MR M h (mTx M h tl (tOK inp n).2.1 (tOK inp n).2.2) := ((MR.rfl M h).sA _ (by omega)).sA _ (by omega)
  have f1 : ∀ i, i ≠ 19 → i ≠ 21 → mi (mTx M h tl (tOK inp n).2.1 (tOK inp n).2.2) h i = mi M h i := fun i h1 h2 => mt_o _ _ _ _ _ h1 h2
  have f19 := mt_19 M h tl (tOK inp n).2.1 (tOK inp n).2.2
  have f21 := mt_21 M h tl (tOK inp n).2.1 (tOK inp n).2.2
  have a1 : ∀ a, a ≠ h → a ≠ h + 8 → mi (mTx M h tl (tOK inp n).2.1 (tOK inp n).2.2) a = mi M a := fun a q1 q2 => mt_n _ _ _ _ _ q1 q2
  have a8 := mt_8 M h tl (tOK inp n).2.1 (tOK inp n).2.2
  generalize mTx M h tl (tOK inp n).2.1 (tOK inp n).2.2 = Z at *
  have oZ := o.mr r1
  refine r_istore_n (j := 1) (dk kX9_execute_p0 2 rfl) rfl (by decide) rfl ?_
  simp only [List.set_cons_succ, List.set_cons_zero]
  refine r_iload_n (dk kX9_execute_p0 3 rfl) rfl ?_
  -- at 6
  by_cases hok : (tOK inp n).1 = true
  · rw [bI_t hok]
    obtain ⟨m9, m0, mall⟩ := tOK_all hok
    have hTold := hT hok
    refine r_if_ne (tgt := 17) (dk kX9_execute_p0 4 rfl) (by decide) (fun c6 => ?_) (fun c6 => absurd (by decide) c6)
    refine r_aload_n (dk kX9_execute_p0 9 rfl) rfl ?_
    refine r_iconst (v := 0) (dk kX9_execute_p0 10 rfl) (by decide) ?_
    refine r_puti (dk kX9_execute_p0 11 rfl) fa_X9_164_8 oZ.k rfl rfl rfl rfl ?_
    refine r_aload_n (dk kX9_execute_p0 12 rfl) rfl ?_
    refine r_iload_n (dk kX9_execute_p0 13 rfl) rfl ?_
    refine r_if_eq (tgt := 31) (dk kX9_execute_p0 14 rfl) (by decide) (fun c24 => absurd c24 (by decide)) (fun c24 => ?_)
    refine r_iconst (v := 0) (dk kX9_execute_p0 15 rfl) (by decide) ?_
    refine r_goto (tgt := 32) (dk kX9_execute_p0 16 rfl) (by decide) ?_
    refine r_callVp (I' := IX9_fails) (as := [_]) (dk kX9_execute_p0 18 rfl) mv_X9_fails ml_X9_80 rfl rfl oZ.k rfl rfl (Nat.le_of_ble_eq_true rfl) ⟨by decide, by decide⟩ ⟨rfl, rfl⟩ ⟨Nat.le_of_ble_eq_true rfl, Nat.le_of_ble_eq_true rfl⟩ (k_X9_fails (M := sI Z h 14 0) oZ _) ?_
    refine r_if_eq (tgt := 40) (dk kX9_execute_p0 19 rfl) (by decide) (fun c35 => ?_) (fun c35 => absurd (by decide) c35)
    -- at 40
    exact k_ex_mid o gi hF hk hok hTold ((((r1.sI _ _ (by omega)).sI _ _ (by omega)).sI _ _ (by omega))) (fun a h1 h2 => by rw [mfn _ _ _ h1, mi_sI_n _ _ _ h1, a1 a h1 h2]) (by rw [mfn _ _ _ (by omega), mi_sI_n _ _ _ (by omega), a8]) (fun i h1 h2 h3 h4 h5 => by rw [mf0 _ _ _ h1 h2, mi_sI_s, va_up_ne _ _ h3, f1 i h4 h5]) (by rw [mf0 _ _ _ (by decide) (by decide), mi_sI_s, va_up_self]) (by rw [mi_sI_s, va_up_ne _ _ (by decide), mi_sI_s, va_up_self]) (by rw [mf0 _ _ _ (by decide) (by decide), mi_sI_s, va_up_ne _ _ (by decide), f21])
  · rw [bI_f hok]
    have e14 : ∀ i, mi (sI (sI Z h 15 (mi Z h 19)) h 14 0) h i = va_up (va_up (mi Z h) 15 (mi Z h 19)) 14 0 i := fun i => by rw [mi_sI_s, mi_sI_s]
    have hne : ∀ a, a ≠ h → mi (mFail (sI (sI Z h 15 (mi Z h 19)) h 14 0) h 1) a = mi Z a := fun a ha => by rw [mfn _ _ _ ha, mi_sI_n _ _ _ ha, mi_sI_n _ _ _ ha]
    have hfe : ∀ i, i ≠ 7 → i ≠ 8 → i ≠ 14 → i ≠ 15 → mi (mFail (sI (sI Z h 15 (mi Z h 19)) h 14 0) h 1) h i = mi Z h i := fun i h1 h2 h3 h4 => by rw [mf0 _ _ _ h1 h2, e14, va_up_ne _ _ h3, va_up_ne _ _ h4]
    refine r_if_ne (tgt := 17) (dk kX9_execute_p0 4 rfl) (by decide) (fun c6 => absurd c6 (by exact fun z => z rfl)) (fun c6 => ?_)
    refine r_aload_n (dk kX9_execute_p0 5 rfl) rfl ?_
    refine r_aload_n (dk kX9_execute_p0 6 rfl) rfl ?_
    refine r_geti (dk kX9_execute_p0 7 rfl) fa_X9_167_8 oZ.k rfl ?_
    refine r_puti (dk kX9_execute_p0 8 rfl) fa_X9_25_8 oZ.k rfl rfl rfl rfl ?_
    refine r_aload_n (dk kX9_execute_p0 9 rfl) rfl ?_
    refine r_iconst (v := 0) (dk kX9_execute_p0 10 rfl) (by decide) ?_
    refine r_puti (dk kX9_execute_p0 11 rfl) fa_X9_164_8 oZ.k rfl rfl rfl rfl ?_
    refine r_aload_n (dk kX9_execute_p0 12 rfl) rfl ?_
    refine r_iload_n (dk kX9_execute_p0 13 rfl) rfl ?_
    refine r_if_eq (tgt := 31) (dk kX9_execute_p0 14 rfl) (by decide) (fun c24 => ?_) (fun c24 => absurd (by decide) c24)
    refine r_iconst (v := 1) (dk kX9_execute_p0 17 rfl) (by decide) ?_
    refine r_callVp (I' := IX9_fails) (as := [_]) (dk kX9_execute_p0 18 rfl) mv_X9_fails ml_X9_80 rfl rfl oZ.k rfl rfl (Nat.le_of_ble_eq_true rfl) ⟨by decide, by decide⟩ ⟨rfl, rfl⟩ ⟨Nat.le_of_ble_eq_true rfl, Nat.le_of_ble_eq_true rfl⟩ (k_X9_fails (M := sI (sI Z h 15 (mi Z h 19)) h 14 0) oZ _) ?_
    refine r_if_eq (tgt := 40) (dk kX9_execute_p0 19 rfl) (by decide) (fun c35 => absurd c35 (by decide)) (fun c35 => ?_)
    refine r_iconst (v := 0) (dk kX9_execute_p0 20 rfl) (by decide) ?_
    refine r_ireturn (dk kX9_execute_p0 21 rfl) rfl rfl ⟨Nat.le_of_ble_eq_true rfl, Nat.le_of_ble_eq_true rfl⟩ ⟨(((r1.sI _ _ (by omega)).sI _ _ (by omega)).sI _ _ (by omega)).sI _ _ (by omega), ?_, ?_, ?_, ?_, ?_, fun z => absurd z hok⟩
    · intro a ha
      rw [hne a (by omega), a1 a (by omega) (by omega)]
    · intro i hi
      rw [hfe i (by omega) (by omega) (by omega) (by omega), f1 i (by omega) (by omega)]
    · rw [hfe 6 (by decide) (by decide) (by decide) (by decide), f1 6 (by decide) (by decide), h6]
    · rw [mf0 _ _ _ (by decide) (by decide), e14, va_up_self]
    · intro _
      refine ⟨rfl, ?_, ?_, ?_, ?_, ?_⟩
      · rw [mi_sI_s, va_up_ne _ _ (by decide), mi_sI_s, va_up_self]
      · rw [mf0 _ _ _ (by decide) (by decide), e14, va_up_ne _ _ (by decide), va_up_self, f19]
      · rw [hne _ (by omega), a1 _ (by omega) (by omega)]
      · rw [hne _ (by omega), a1 _ (by omega) (by omega)]
      · intro i hi
        rw [hfe i (by omega) (by omega) (by omega) (by omega), f1 i (by omega) (by omega)]
end MODEL
