/-! THE REFERENCE: the text's keeper, denials, undo, snapshots, written lines -/
theorem ch_i2c : ∀ k, k < 128 → vp_nar .char (((nI k).toUInt32 % 65536).toInt32) = nI k := by decide +kernel
theorem ch_nar : ∀ k, k < 128 → vp_nar .char (nI k) = nI k := by decide +kernel
section MODEL
variable {G : GG} {M : Mm} {h : Nat}
/-- the ints of the object behind 'fails' -/
theorem mf0 (M : Mm) (h : Nat) (p : Int32) {j : Nat} (h7 : j ≠ 7) (h8 : j ≠ 8) : mi (mFail M h p) h j = mi M h j := by rw [mi_sI_s, va_up_ne _ _ h7, mi_sI_s, va_up_ne _ _ h8]
theorem mfn (M : Mm) (h : Nat) (p : Int32) {a : Nat} (ha : a ≠ h) : mi (mFail M h p) a = mi M a := by rw [mi_sI_n _ _ _ ha, mi_sI_n _ _ _ ha]
theorem k_X9_feedF (o : MO M h) (h60 : mi M h 14 = 60) (c : Int32) : KE G IX9_feed [.ref h, .int c] M 0 (mFail M h 1) := by
  refine KK.ofW (by decide) (by simp [Value.category]) (Nat.le_of_ble_eq_true rfl) rfl ?_
  show WW _ _ _ 0 [_, _] [] _ _ _
  refine r_aload_n (dk kX9_feed 0 rfl) rfl ?_
  refine r_aload_n (dk kX9_feed 1 rfl) rfl ?_
  refine r_geti (dk kX9_feed 2 rfl) fa_X9_164_8 o.k rfl ?_
  refine r_bipush (v := 60) (dk kX9_feed 3 rfl) (by decide) ?_
  refine r_icmp_ne (tgt := 14) (dk kX9_feed 4 rfl) (by decide) (fun c7 => absurd c7 (fun z => z h60)) (fun c7 => ?_)
  refine r_iconst (v := 1) (dk kX9_feed 5 rfl) (by decide) ?_
  refine r_goto (tgt := 15) (dk kX9_feed 6 rfl) (by decide) ?_
  refine r_callVp (I' := IX9_fails) (as := [_]) (dk kX9_feed 8 rfl) mv_X9_fails ml_X9_80 rfl rfl o.k rfl rfl (Nat.le_of_ble_eq_true rfl) ⟨by decide, by decide⟩ ⟨rfl, rfl⟩ ⟨Nat.le_of_ble_eq_true rfl, Nat.le_of_ble_eq_true rfl⟩ (k_X9_fails o _) ?_
  refine r_if_eq (tgt := 23) (dk kX9_feed 9 rfl) (by decide) (fun c18 => absurd c18 (by decide)) (fun c18 => ?_)
  refine r_iconst (v := 0) (dk kX9_feed 10 rfl) (by decide) ?_
  refine r_ireturn (dk kX9_feed 11 rfl) rfl rfl ⟨Nat.le_of_ble_eq_true rfl, Nat.le_of_ble_eq_true rfl⟩ ⟨rfl, rfl⟩
theorem k_X9_feedO (o : MO M h) {n : Nat} (hn : mi M h 14 = nI n) (h60 : n < 60) (c : Int32) : KE G IX9_feed [.ref h, .int c] M (nI (n + 1)) (sI (sI (mFail M h 0) (h + 5) n c) h 14 (nI (n + 1))) := by
  refine KK.ofW (by decide) (by simp [Value.category]) (Nat.le_of_ble_eq_true rfl) rfl ?_
  show WW _ _ _ 0 [_, _] [] _ _ _
  have e : mi (mFail M h 0) h 14 = nI n := by rw [mf0 _ _ _ (by decide) (by decide), hn]
  refine r_aload_n (dk kX9_feed 0 rfl) rfl ?_
  refine r_aload_n (dk kX9_feed 1 rfl) rfl ?_
  refine r_geti (dk kX9_feed 2 rfl) fa_X9_164_8 o.k rfl ?_
  refine r_bipush (v := 60) (dk kX9_feed 3 rfl) (by decide) ?_
  refine r_icmp_ne (tgt := 14) (dk kX9_feed 4 rfl) (by decide) (fun c7 => ?_) (fun c7 => absurd (by rw [hn]; exact fun z => absurd (nI_inj (b := 60) (by omega) (by decide) z) (by omega)) c7)
  refine r_iconst (v := 0) (dk kX9_feed 7 rfl) (by decide) ?_
  refine r_callVp (I' := IX9_fails) (as := [_]) (dk kX9_feed 8 rfl) mv_X9_fails ml_X9_80 rfl rfl o.k rfl rfl (Nat.le_of_ble_eq_true rfl) ⟨by decide, by decide⟩ ⟨rfl, rfl⟩ ⟨Nat.le_of_ble_eq_true rfl, Nat.le_of_ble_eq_true rfl⟩ (k_X9_fails o _) ?_
  refine r_if_eq (tgt := 23) (dk kX9_feed 9 rfl) (by decide) (fun c18 => ?_) (fun c18 => absurd (by decide) c18)
  refine r_aload_n (dk kX9_feed 12 rfl) rfl ?_
  refine r_getR (dk kX9_feed 13 rfl) fa_X9_22_8 o.k rfl (o.fl 0).r13 ?_
  refine r_aload_n (dk kX9_feed 14 rfl) rfl ?_
  refine r_geti (dk kX9_feed 15 rfl) fa_X9_164_8 o.k rfl ?_
  refine r_iload_n (dk kX9_feed 16 rfl) rfl ?_
  -- at 32
  rw [e]
  refine r_ias (dk kX9_feed 17 rfl) (o.fl _).k5 (o.fl _).l5 (j := n) rfl (by omega) (by decide) ?_
  refine r_aload_n (dk kX9_feed 18 rfl) rfl ?_
  refine r_dup (dk kX9_feed 19 rfl) rfl ?_
  refine r_geti (dk kX9_feed 20 rfl) fa_X9_164_8 o.k rfl ?_
  -- at 38
  rw [mi_sI_n _ _ _ (show h ≠ h + 5 by omega), e]
  refine r_iconst (v := 1) (dk kX9_feed 21 rfl) (by decide) ?_
  refine r_iadd (dk kX9_feed 22 rfl) ?_
  -- at 40
  rw [show nI n + 1 = nI (n + 1) from nI_1 n]
  refine r_puti (dk kX9_feed 23 rfl) fa_X9_164_8 o.k rfl rfl rfl rfl ?_
  refine r_aload_n (dk kX9_feed 24 rfl) rfl ?_
  refine r_geti (dk kX9_feed 25 rfl) fa_X9_164_8 o.k rfl ?_
  -- at 47
  rw [mi_sI_s, va_up_self]
  refine r_ireturn (dk kX9_feed 26 rfl) rfl rfl ⟨Nat.le_of_ble_eq_true rfl, Nat.le_of_ble_eq_true rfl⟩ ⟨rfl, rfl⟩
theorem k_X9_faultPosition (o : MO M h) : KE G IX9_faultPosition [.ref h] M (if mi M h 15 < 0 then 0 else mi M h 15) (mFail M h (bI (mi M h 15 < 0))) := by
  refine KK.ofW (by decide) (by simp [Value.category]) (Nat.le_of_ble_eq_true rfl) rfl ?_
  show WW _ _ _ 0 [_] [] _ _ _
  by_cases hc : mi M h 15 < 0
  · rw [if_pos hc, bI_t hc]
    refine r_aload_n (dk kX9_faultPosition 0 rfl) rfl ?_
    refine r_aload_n (dk kX9_faultPosition 1 rfl) rfl ?_
    refine r_geti (dk kX9_faultPosition 2 rfl) fa_X9_25_8 o.k rfl ?_
    refine r_if_ge (tgt := 12) (dk kX9_faultPosition 3 rfl) (by decide) (fun c5 => absurd c5 (Int32.not_le.mpr hc)) (fun c5 => ?_)
    refine r_iconst (v := 1) (dk kX9_faultPosition 4 rfl) (by decide) ?_
    refine r_goto (tgt := 13) (dk kX9_faultPosition 5 rfl) (by decide) ?_
    refine r_callVp (I' := IX9_fails) (as := [_]) (dk kX9_faultPosition 7 rfl) mv_X9_fails ml_X9_80 rfl rfl o.k rfl rfl (Nat.le_of_ble_eq_true rfl) ⟨by decide, by decide⟩ ⟨rfl, rfl⟩ ⟨Nat.le_of_ble_eq_true rfl, Nat.le_of_ble_eq_true rfl⟩ (k_X9_fails o _) ?_
    refine r_if_eq (tgt := 23) (dk kX9_faultPosition 8 rfl) (by decide) (fun c16 => absurd c16 (by decide)) (fun c16 => ?_)
    refine r_iconst (v := 0) (dk kX9_faultPosition 9 rfl) (by decide) ?_
    refine r_goto (tgt := 27) (dk kX9_faultPosition 10 rfl) (by decide) ?_
    refine r_ireturn (dk kX9_faultPosition 13 rfl) rfl rfl ⟨Nat.le_of_ble_eq_true rfl, Nat.le_of_ble_eq_true rfl⟩ ⟨rfl, rfl⟩
  · rw [if_neg hc, bI_f hc]
    refine r_aload_n (dk kX9_faultPosition 0 rfl) rfl ?_
    refine r_aload_n (dk kX9_faultPosition 1 rfl) rfl ?_
    refine r_geti (dk kX9_faultPosition 2 rfl) fa_X9_25_8 o.k rfl ?_
    refine r_if_ge (tgt := 12) (dk kX9_faultPosition 3 rfl) (by decide) (fun c5 => ?_) (fun c5 => absurd (Int32.not_lt.mp hc) c5)
    refine r_iconst (v := 0) (dk kX9_faultPosition 6 rfl) (by decide) ?_
    refine r_callVp (I' := IX9_fails) (as := [_]) (dk kX9_faultPosition 7 rfl) mv_X9_fails ml_X9_80 rfl rfl o.k rfl rfl (Nat.le_of_ble_eq_true rfl) ⟨by decide, by decide⟩ ⟨rfl, rfl⟩ ⟨Nat.le_of_ble_eq_true rfl, Nat.le_of_ble_eq_true rfl⟩ (k_X9_fails o _) ?_
    refine r_if_eq (tgt := 23) (dk kX9_faultPosition 8 rfl) (by decide) (fun c16 => ?_) (fun c16 => absurd (by decide) c16)
    refine r_aload_n (dk kX9_faultPosition 11 rfl) rfl ?_
    refine r_geti (dk kX9_faultPosition 12 rfl) fa_X9_25_8 o.k rfl ?_
    refine r_ireturn (dk kX9_faultPosition 13 rfl) rfl rfl ⟨Nat.le_of_ble_eq_true rfl, Nat.le_of_ble_eq_true rfl⟩ ⟨mf0 _ _ _ (by decide) (by decide), rfl⟩
theorem k_X9_lineCharacter (o : MO M h) (hn : nb (mi M h) 17 61) (hch : ∀ k, k < gn (mi M h) 17 → narrow .char (.int (mi M (h + 6) k)) = .int (mi M (h + 6) k)) (x : Int32) : KE G IX9_lineCharacter [.ref h, .int x] M (match ixo (gn (mi M h) 17) x with | none => 32 | some k => mi M (h + 6) k) (mFail M h (match ixo (gn (mi M h) 17) x with | none => 1 | some _ => 0)) := by
  refine KK.ofW (by decide) (by simp [Value.category]) (Nat.le_of_ble_eq_true rfl) rfl ?_
  show WW _ _ _ 0 [_, _] [] _ _ _
  obtain ⟨h1, h2⟩ := hn
  refine r_aload_n (dk kX9_lineCharacter 0 rfl) rfl ?_
  refine r_iload_n (dk kX9_lineCharacter 1 rfl) rfl ?_
  refine r_iconst (v := 0) (dk kX9_lineCharacter 2 rfl) (by decide) ?_
  refine r_aload_n (dk kX9_lineCharacter 3 rfl) rfl ?_
  refine r_geti (dk kX9_lineCharacter 4 rfl) fa_X9_252_8 o.k rfl ?_
  refine r_iconst (v := 1) (dk kX9_lineCharacter 5 rfl) (by decide) ?_
  refine r_isub (dk kX9_lineCharacter 6 rfl) ?_
  -- at 9
  rw [h1]
  rcases ixo_c (n := gn (mi M h) 17) (by omega) x with ⟨e, hb⟩ | ⟨k, hk, rfl, e, hb⟩
  · rw [e]
    refine r_callSp (I' := IX9_in) (as := [_, _, _]) (dk kX9_lineCharacter 7 rfl) ms_X9_in ml_X9_68 rfl rfl rfl (Nat.le_of_ble_eq_true rfl) ⟨by decide, by decide⟩ ⟨rfl, rfl⟩ ⟨Nat.le_of_ble_eq_true rfl, Nat.le_of_ble_eq_true rfl⟩ (k_X9_in _ _ _) ?_
    refine r_if_eq (tgt := 19) (dk kX9_lineCharacter 8 rfl) (by decide) (fun c12 => ?_) (fun c12 => absurd (by rw [bI_f hb]) c12)
    refine r_iconst (v := 1) (dk kX9_lineCharacter 11 rfl) (by decide) ?_
    refine r_callVp (I' := IX9_fails) (as := [_]) (dk kX9_lineCharacter 12 rfl) mv_X9_fails ml_X9_80 rfl rfl o.k rfl rfl (Nat.le_of_ble_eq_true rfl) ⟨by decide, by decide⟩ ⟨rfl, rfl⟩ ⟨Nat.le_of_ble_eq_true rfl, Nat.le_of_ble_eq_true rfl⟩ (k_X9_fails o _) ?_
    refine r_if_eq (tgt := 31) (dk kX9_lineCharacter 13 rfl) (by decide) (fun c23 => absurd c23 (by decide)) (fun c23 => ?_)
    refine r_bipush (v := 32) (dk kX9_lineCharacter 14 rfl) (by decide) ?_
    refine r_goto (tgt := 37) (dk kX9_lineCharacter 15 rfl) (by decide) ?_
    refine r_ireturn (dk kX9_lineCharacter 20 rfl) rfl rfl ⟨Nat.le_of_ble_eq_true rfl, Nat.le_of_ble_eq_true rfl⟩ ⟨rfl, rfl⟩
  · rw [e]
    refine r_callSp (I' := IX9_in) (as := [_, _, _]) (dk kX9_lineCharacter 7 rfl) ms_X9_in ml_X9_68 rfl rfl rfl (Nat.le_of_ble_eq_true rfl) ⟨by decide, by decide⟩ ⟨rfl, rfl⟩ ⟨Nat.le_of_ble_eq_true rfl, Nat.le_of_ble_eq_true rfl⟩ (k_X9_in _ _ _) ?_
    refine r_if_eq (tgt := 19) (dk kX9_lineCharacter 8 rfl) (by decide) (fun c12 => absurd c12 (by rw [bI_t hb]; decide)) (fun c12 => ?_)
    refine r_iconst (v := 0) (dk kX9_lineCharacter 9 rfl) (by decide) ?_
    refine r_goto (tgt := 20) (dk kX9_lineCharacter 10 rfl) (by decide) ?_
    refine r_callVp (I' := IX9_fails) (as := [_]) (dk kX9_lineCharacter 12 rfl) mv_X9_fails ml_X9_80 rfl rfl o.k rfl rfl (Nat.le_of_ble_eq_true rfl) ⟨by decide, by decide⟩ ⟨rfl, rfl⟩ ⟨Nat.le_of_ble_eq_true rfl, Nat.le_of_ble_eq_true rfl⟩ (k_X9_fails o _) ?_
    refine r_if_eq (tgt := 31) (dk kX9_lineCharacter 13 rfl) (by decide) (fun c23 => ?_) (fun c23 => absurd (by decide) c23)
    refine r_aload_n (dk kX9_lineCharacter 16 rfl) rfl ?_
    refine r_getR (dk kX9_lineCharacter 17 rfl) fa_X9_29_8 o.k rfl (o.fl _).r16 ?_
    refine r_iload_n (dk kX9_lineCharacter 18 rfl) rfl ?_
    refine r_cal (dk kX9_lineCharacter 19 rfl) (o.fl _).k6 (o.fl _).l6 (j := k) rfl (by omega) (by decide) ?_
    -- at 37
    rw [mfn _ _ _ (by omega)]
    refine r_ireturn (dk kX9_lineCharacter 20 rfl) rfl (hch k hk) ⟨Nat.le_of_ble_eq_true rfl, Nat.le_of_ble_eq_true rfl⟩ ⟨rfl, rfl⟩
theorem k_X9_denial (o : MO M h) : KE G IX9_denial [.ref h] M (mi M h 9) (mFail M h (bI (mi M h 9 = 0))) := by
  refine KK.ofW (by decide) (by simp [Value.category]) (Nat.le_of_ble_eq_true rfl) rfl ?_
  show WW _ _ _ 0 [_] [] _ _ _
  by_cases hc : mi M h 9 = 0
  · rw [bI_t hc]
    refine r_aload_n (dk kX9_denial 0 rfl) rfl ?_
    refine r_aload_n (dk kX9_denial 1 rfl) rfl ?_
    refine r_geti (dk kX9_denial 2 rfl) fa_X9_46_8 o.k rfl ?_
    refine r_if_ne (tgt := 12) (dk kX9_denial 3 rfl) (by decide) (fun c5 => absurd c5 (fun z => z hc)) (fun c5 => ?_)
    refine r_iconst (v := 1) (dk kX9_denial 4 rfl) (by decide) ?_
    refine r_goto (tgt := 13) (dk kX9_denial 5 rfl) (by decide) ?_
    refine r_callVp (I' := IX9_fails) (as := [_]) (dk kX9_denial 7 rfl) mv_X9_fails ml_X9_80 rfl rfl o.k rfl rfl (Nat.le_of_ble_eq_true rfl) ⟨by decide, by decide⟩ ⟨rfl, rfl⟩ ⟨Nat.le_of_ble_eq_true rfl, Nat.le_of_ble_eq_true rfl⟩ (k_X9_fails o _) ?_
    refine r_if_eq (tgt := 23) (dk kX9_denial 8 rfl) (by decide) (fun c16 => absurd c16 (by decide)) (fun c16 => ?_)
    refine r_iconst (v := 0) (dk kX9_denial 9 rfl) (by decide) ?_
    refine r_goto (tgt := 27) (dk kX9_denial 10 rfl) (by decide) ?_
    refine r_ireturn (dk kX9_denial 13 rfl) rfl rfl ⟨Nat.le_of_ble_eq_true rfl, Nat.le_of_ble_eq_true rfl⟩ ⟨hc.symm, rfl⟩
  · rw [bI_f hc]
    refine r_aload_n (dk kX9_denial 0 rfl) rfl ?_
    refine r_aload_n (dk kX9_denial 1 rfl) rfl ?_
    refine r_geti (dk kX9_denial 2 rfl) fa_X9_46_8 o.k rfl ?_
    refine r_if_ne (tgt := 12) (dk kX9_denial 3 rfl) (by decide) (fun c5 => ?_) (fun c5 => absurd hc c5)
    refine r_iconst (v := 0) (dk kX9_denial 6 rfl) (by decide) ?_
    refine r_callVp (I' := IX9_fails) (as := [_]) (dk kX9_denial 7 rfl) mv_X9_fails ml_X9_80 rfl rfl o.k rfl rfl (Nat.le_of_ble_eq_true rfl) ⟨by decide, by decide⟩ ⟨rfl, rfl⟩ ⟨Nat.le_of_ble_eq_true rfl, Nat.le_of_ble_eq_true rfl⟩ (k_X9_fails o _) ?_
    refine r_if_eq (tgt := 23) (dk kX9_denial 8 rfl) (by decide) (fun c16 => ?_) (fun c16 => absurd (by decide) c16)
    refine r_aload_n (dk kX9_denial 11 rfl) rfl ?_
    refine r_geti (dk kX9_denial 12 rfl) fa_X9_46_8 o.k rfl ?_
    refine r_ireturn (dk kX9_denial 13 rfl) rfl rfl ⟨Nat.le_of_ble_eq_true rfl, Nat.le_of_ble_eq_true rfl⟩ ⟨mf0 _ _ _ (by decide) (by decide), rfl⟩
theorem k_X9_denialDetail (o : MO M h) : KE G IX9_denialDetail [.ref h] M (if mi M h 9 = 0 then 0 else mi M h 10) (mFail M h (bI (mi M h 9 = 0))) := by
  refine KK.ofW (by decide) (by simp [Value.category]) (Nat.le_of_ble_eq_true rfl) rfl ?_
  show WW _ _ _ 0 [_] [] _ _ _
  by_cases hc : mi M h 9 = 0
  · rw [if_pos hc, bI_t hc]
    refine r_aload_n (dk kX9_denialDetail 0 rfl) rfl ?_
    refine r_aload_n (dk kX9_denialDetail 1 rfl) rfl ?_
    refine r_geti (dk kX9_denialDetail 2 rfl) fa_X9_46_8 o.k rfl ?_
    refine r_if_ne (tgt := 12) (dk kX9_denialDetail 3 rfl) (by decide) (fun c5 => absurd c5 (fun z => z hc)) (fun c5 => ?_)
    refine r_iconst (v := 1) (dk kX9_denialDetail 4 rfl) (by decide) ?_
    refine r_goto (tgt := 13) (dk kX9_denialDetail 5 rfl) (by decide) ?_
    refine r_callVp (I' := IX9_fails) (as := [_]) (dk kX9_denialDetail 7 rfl) mv_X9_fails ml_X9_80 rfl rfl o.k rfl rfl (Nat.le_of_ble_eq_true rfl) ⟨by decide, by decide⟩ ⟨rfl, rfl⟩ ⟨Nat.le_of_ble_eq_true rfl, Nat.le_of_ble_eq_true rfl⟩ (k_X9_fails o _) ?_
    refine r_if_eq (tgt := 23) (dk kX9_denialDetail 8 rfl) (by decide) (fun c16 => absurd c16 (by decide)) (fun c16 => ?_)
    refine r_iconst (v := 0) (dk kX9_denialDetail 9 rfl) (by decide) ?_
    refine r_goto (tgt := 27) (dk kX9_denialDetail 10 rfl) (by decide) ?_
    refine r_ireturn (dk kX9_denialDetail 13 rfl) rfl rfl ⟨Nat.le_of_ble_eq_true rfl, Nat.le_of_ble_eq_true rfl⟩ ⟨rfl, rfl⟩
  · rw [if_neg hc, bI_f hc]
    refine r_aload_n (dk kX9_denialDetail 0 rfl) rfl ?_
    refine r_aload_n (dk kX9_denialDetail 1 rfl) rfl ?_
    refine r_geti (dk kX9_denialDetail 2 rfl) fa_X9_46_8 o.k rfl ?_
    refine r_if_ne (tgt := 12) (dk kX9_denialDetail 3 rfl) (by decide) (fun c5 => ?_) (fun c5 => absurd hc c5)
    refine r_iconst (v := 0) (dk kX9_denialDetail 6 rfl) (by decide) ?_
    refine r_callVp (I' := IX9_fails) (as := [_]) (dk kX9_denialDetail 7 rfl) mv_X9_fails ml_X9_80 rfl rfl o.k rfl rfl (Nat.le_of_ble_eq_true rfl) ⟨by decide, by decide⟩ ⟨rfl, rfl⟩ ⟨Nat.le_of_ble_eq_true rfl, Nat.le_of_ble_eq_true rfl⟩ (k_X9_fails o _) ?_
    refine r_if_eq (tgt := 23) (dk kX9_denialDetail 8 rfl) (by decide) (fun c16 => ?_) (fun c16 => absurd (by decide) c16)
    refine r_aload_n (dk kX9_denialDetail 11 rfl) rfl ?_
    refine r_geti (dk kX9_denialDetail 12 rfl) fa_X9_49_8 o.k rfl ?_
    refine r_ireturn (dk kX9_denialDetail 13 rfl) rfl rfl ⟨Nat.le_of_ble_eq_true rfl, Nat.le_of_ble_eq_true rfl⟩ ⟨mf0 _ _ _ (by decide) (by decide), rfl⟩
theorem k_X9_denialCause (o : MO M h) : KE G IX9_denialCause [.ref h] M (mi M h 11) (mFail M h (bI (mi M h 11 = 0))) := by
  refine KK.ofW (by decide) (by simp [Value.category]) (Nat.le_of_ble_eq_true rfl) rfl ?_
  show WW _ _ _ 0 [_] [] _ _ _
  by_cases hc : mi M h 11 = 0
  · rw [bI_t hc]
    refine r_aload_n (dk kX9_denialCause 0 rfl) rfl ?_
    refine r_aload_n (dk kX9_denialCause 1 rfl) rfl ?_
    refine r_geti (dk kX9_denialCause 2 rfl) fa_X9_52_8 o.k rfl ?_
    refine r_if_ne (tgt := 12) (dk kX9_denialCause 3 rfl) (by decide) (fun c5 => absurd c5 (fun z => z hc)) (fun c5 => ?_)
    refine r_iconst (v := 1) (dk kX9_denialCause 4 rfl) (by decide) ?_
    refine r_goto (tgt := 13) (dk kX9_denialCause 5 rfl) (by decide) ?_
    refine r_callVp (I' := IX9_fails) (as := [_]) (dk kX9_denialCause 7 rfl) mv_X9_fails ml_X9_80 rfl rfl o.k rfl rfl (Nat.le_of_ble_eq_true rfl) ⟨by decide, by decide⟩ ⟨rfl, rfl⟩ ⟨Nat.le_of_ble_eq_true rfl, Nat.le_of_ble_eq_true rfl⟩ (k_X9_fails o _) ?_
    refine r_if_eq (tgt := 23) (dk kX9_denialCause 8 rfl) (by decide) (fun c16 => absurd c16 (by decide)) (fun c16 => ?_)
    refine r_iconst (v := 0) (dk kX9_denialCause 9 rfl) (by decide) ?_
    refine r_goto (tgt := 27) (dk kX9_denialCause 10 rfl) (by decide) ?_
    refine r_ireturn (dk kX9_denialCause 13 rfl) rfl rfl ⟨Nat.le_of_ble_eq_true rfl, Nat.le_of_ble_eq_true rfl⟩ ⟨hc.symm, rfl⟩
  · rw [bI_f hc]
    refine r_aload_n (dk kX9_denialCause 0 rfl) rfl ?_
    refine r_aload_n (dk kX9_denialCause 1 rfl) rfl ?_
    refine r_geti (dk kX9_denialCause 2 rfl) fa_X9_52_8 o.k rfl ?_
    refine r_if_ne (tgt := 12) (dk kX9_denialCause 3 rfl) (by decide) (fun c5 => ?_) (fun c5 => absurd hc c5)
    refine r_iconst (v := 0) (dk kX9_denialCause 6 rfl) (by decide) ?_
    refine r_callVp (I' := IX9_fails) (as := [_]) (dk kX9_denialCause 7 rfl) mv_X9_fails ml_X9_80 rfl rfl o.k rfl rfl (Nat.le_of_ble_eq_true rfl) ⟨by decide, by decide⟩ ⟨rfl, rfl⟩ ⟨Nat.le_of_ble_eq_true rfl, Nat.le_of_ble_eq_true rfl⟩ (k_X9_fails o _) ?_
    refine r_if_eq (tgt := 23) (dk kX9_denialCause 8 rfl) (by decide) (fun c16 => ?_) (fun c16 => absurd (by decide) c16)
    refine r_aload_n (dk kX9_denialCause 11 rfl) rfl ?_
    refine r_geti (dk kX9_denialCause 12 rfl) fa_X9_52_8 o.k rfl ?_
    refine r_ireturn (dk kX9_denialCause 13 rfl) rfl rfl ⟨Nat.le_of_ble_eq_true rfl, Nat.le_of_ble_eq_true rfl⟩ ⟨mf0 _ _ _ (by decide) (by decide), rfl⟩
theorem k_X9_denialCauseDetail (o : MO M h) : KE G IX9_denialCauseDetail [.ref h] M (if mi M h 11 = 0 then 0 else mi M h 12) (mFail M h (bI (mi M h 11 = 0))) := by
  refine KK.ofW (by decide) (by simp [Value.category]) (Nat.le_of_ble_eq_true rfl) rfl ?_
  show WW _ _ _ 0 [_] [] _ _ _
  by_cases hc : mi M h 11 = 0
  · rw [if_pos hc, bI_t hc]
    refine r_aload_n (dk kX9_denialCauseDetail 0 rfl) rfl ?_
    refine r_aload_n (dk kX9_denialCauseDetail 1 rfl) rfl ?_
    refine r_geti (dk kX9_denialCauseDetail 2 rfl) fa_X9_52_8 o.k rfl ?_
    refine r_if_ne (tgt := 12) (dk kX9_denialCauseDetail 3 rfl) (by decide) (fun c5 => absurd c5 (fun z => z hc)) (fun c5 => ?_)
    refine r_iconst (v := 1) (dk kX9_denialCauseDetail 4 rfl) (by decide) ?_
    refine r_goto (tgt := 13) (dk kX9_denialCauseDetail 5 rfl) (by decide) ?_
    refine r_callVp (I' := IX9_fails) (as := [_]) (dk kX9_denialCauseDetail 7 rfl) mv_X9_fails ml_X9_80 rfl rfl o.k rfl rfl (Nat.le_of_ble_eq_true rfl) ⟨by decide, by decide⟩ ⟨rfl, rfl⟩ ⟨Nat.le_of_ble_eq_true rfl, Nat.le_of_ble_eq_true rfl⟩ (k_X9_fails o _) ?_
    refine r_if_eq (tgt := 23) (dk kX9_denialCauseDetail 8 rfl) (by decide) (fun c16 => absurd c16 (by decide)) (fun c16 => ?_)
    refine r_iconst (v := 0) (dk kX9_denialCauseDetail 9 rfl) (by decide) ?_
    refine r_goto (tgt := 27) (dk kX9_denialCauseDetail 10 rfl) (by decide) ?_
    refine r_ireturn (dk kX9_denialCauseDetail 13 rfl) rfl rfl ⟨Nat.le_of_ble_eq_true rfl, Nat.le_of_ble_eq_true rfl⟩ ⟨rfl, rfl⟩
  · rw [if_neg hc, bI_f hc]
    refine r_aload_n (dk kX9_denialCauseDetail 0 rfl) rfl ?_
    refine r_aload_n (dk kX9_denialCauseDetail 1 rfl) rfl ?_
    refine r_geti (dk kX9_denialCauseDetail 2 rfl) fa_X9_52_8 o.k rfl ?_
    refine r_if_ne (tgt := 12) (dk kX9_denialCauseDetail 3 rfl) (by decide) (fun c5 => ?_) (fun c5 => absurd hc c5)
    refine r_iconst (v := 0) (dk kX9_denialCauseDetail 6 rfl) (by decide) ?_
    refine r_callVp (I' := IX9_fails) (as := [_]) (dk kX9_denialCauseDetail 7 rfl) mv_X9_fails ml_X9_80 rfl rfl o.k rfl rfl (Nat.le_of_ble_eq_true rfl) ⟨by decide, by decide⟩ ⟨rfl, rfl⟩ ⟨Nat.le_of_ble_eq_true rfl, Nat.le_of_ble_eq_true rfl⟩ (k_X9_fails o _) ?_
    refine r_if_eq (tgt := 23) (dk kX9_denialCauseDetail 8 rfl) (by decide) (fun c16 => ?_) (fun c16 => absurd (by decide) c16)
    refine r_aload_n (dk kX9_denialCauseDetail 11 rfl) rfl ?_
    refine r_geti (dk kX9_denialCauseDetail 12 rfl) fa_X9_55_8 o.k rfl ?_
    refine r_ireturn (dk kX9_denialCauseDetail 13 rfl) rfl rfl ⟨Nat.le_of_ble_eq_true rfl, Nat.le_of_ble_eq_true rfl⟩ ⟨mf0 _ _ _ (by decide) (by decide), rfl⟩
theorem k_X9_undoF (o : MO M h) (hc : mi M h 5 = 0) : KE G IX9_undo [.ref h] M 0 (mFail M h 1) := by
  refine KK.ofW (by decide) (by simp [Value.category]) (Nat.le_of_ble_eq_true rfl) rfl ?_
  show WW _ _ _ 0 [_] [] _ _ _
  refine r_aload_n (dk kX9_undo 0 rfl) rfl ?_
  refine r_aload_n (dk kX9_undo 1 rfl) rfl ?_
  refine r_geti (dk kX9_undo 2 rfl) fa_X9_61_8 o.k rfl ?_
  refine r_if_ne (tgt := 12) (dk kX9_undo 3 rfl) (by decide) (fun c5 => absurd c5 (fun z => z hc)) (fun c5 => ?_)
  refine r_iconst (v := 1) (dk kX9_undo 4 rfl) (by decide) ?_
  refine r_goto (tgt := 13) (dk kX9_undo 5 rfl) (by decide) ?_
  refine r_callVp (I' := IX9_fails) (as := [_]) (dk kX9_undo 7 rfl) mv_X9_fails ml_X9_80 rfl rfl o.k rfl rfl (Nat.le_of_ble_eq_true rfl) ⟨by decide, by decide⟩ ⟨rfl, rfl⟩ ⟨Nat.le_of_ble_eq_true rfl, Nat.le_of_ble_eq_true rfl⟩ (k_X9_fails o _) ?_
  refine r_if_eq (tgt := 21) (dk kX9_undo 8 rfl) (by decide) (fun c16 => absurd c16 (by decide)) (fun c16 => ?_)
  refine r_iconst (v := 0) (dk kX9_undo 9 rfl) (by decide) ?_
  refine r_ireturn (dk kX9_undo 10 rfl) rfl rfl ⟨Nat.le_of_ble_eq_true rfl, Nat.le_of_ble_eq_true rfl⟩ ⟨rfl, rfl⟩
theorem k_X9_undoO (o : MO M h) {n : Nat} (hn : mi M h 5 = nI (n + 1)) (h8 : n < 8) : KE G IX9_undo [.ref h] M (nI n) (sA (sI (mFail M h 0) h 5 (nI n)) (h + 1) (va_cpy (mi M (h + 2)) (mi M (h + 1)) (219 * n) 0 219)) := by
  refine KK.ofW (by decide) (by simp [Value.category]) (Nat.le_of_ble_eq_true rfl) rfl ?_
  show WW _ _ _ 0 [_] [] _ _ _
  have e : mi (mFail M h 0) h 5 = nI (n + 1) := by rw [mf0 _ _ _ (by decide) (by decide), hn]
  refine r_aload_n (dk kX9_undo 0 rfl) rfl ?_
  refine r_aload_n (dk kX9_undo 1 rfl) rfl ?_
  refine r_geti (dk kX9_undo 2 rfl) fa_X9_61_8 o.k rfl ?_
  refine r_if_ne (tgt := 12) (dk kX9_undo 3 rfl) (by decide) (fun c5 => ?_) (fun c5 => absurd (by rw [hn]; exact fun z => absurd (nI_inj (b := 0) (by omega) (by decide) z) (by omega)) c5)
  refine r_iconst (v := 0) (dk kX9_undo 6 rfl) (by decide) ?_
  refine r_callVp (I' := IX9_fails) (as := [_]) (dk kX9_undo 7 rfl) mv_X9_fails ml_X9_80 rfl rfl o.k rfl rfl (Nat.le_of_ble_eq_true rfl) ⟨by decide, by decide⟩ ⟨rfl, rfl⟩ ⟨Nat.le_of_ble_eq_true rfl, Nat.le_of_ble_eq_true rfl⟩ (k_X9_fails o _) ?_
  refine r_if_eq (tgt := 21) (dk kX9_undo 8 rfl) (by decide) (fun c16 => ?_) (fun c16 => absurd (by decide) c16)
  refine r_aload_n (dk kX9_undo 11 rfl) rfl ?_
  refine r_dup (dk kX9_undo 12 rfl) rfl ?_
  refine r_geti (dk kX9_undo 13 rfl) fa_X9_61_8 o.k rfl ?_
  -- at 26
  rw [e]
  refine r_iconst (v := 1) (dk kX9_undo 14 rfl) (by decide) ?_
  refine r_isub (dk kX9_undo 15 rfl) ?_
  -- at 28
  rw [show nI (n + 1) - 1 = nI n from nI_pred n]
  refine r_puti (dk kX9_undo 16 rfl) fa_X9_61_8 o.k rfl rfl rfl rfl ?_
  refine r_aload_n (dk kX9_undo 17 rfl) rfl ?_
  refine r_getR (dk kX9_undo 18 rfl) fa_X9_13_8 o.k rfl (o.fl 0).r1 ?_
  refine r_sipush (v := 219) (dk kX9_undo 19 rfl) (by decide) ?_
  refine r_aload_n (dk kX9_undo 20 rfl) rfl ?_
  refine r_geti (dk kX9_undo 21 rfl) fa_X9_61_8 o.k rfl ?_
  -- at 42
  rw [mi_sI_s, va_up_self]
  refine r_imul (dk kX9_undo 22 rfl) ?_
  refine r_aload_n (dk kX9_undo 23 rfl) rfl ?_
  refine r_getR (dk kX9_undo 24 rfl) fa_X9_7_8 o.k rfl (o.fl 0).r0 ?_
  refine r_iconst (v := 0) (dk kX9_undo 25 rfl) (by decide) ?_
  -- at 48
  rw [show (219 : Int32) * nI n = nI (219 * n) from pk_mul 219 n]
  refine r_callSu (I' := IX9_copies) (as := [_, _, _, _]) (dk kX9_undo 26 rfl) ms_X9_copies ml_X9_64 rfl rfl rfl (Nat.le_of_ble_eq_true rfl) ⟨by decide, by decide⟩ ⟨rfl, rfl⟩ ⟨Nat.le_of_ble_eq_true rfl, Nat.le_of_ble_eq_true rfl⟩ (k_X9_copies (M := sI (mFail M h 0) h 5 (nI n)) (i0 := 219 * n) (o0 := 0) (by omega) (o.fl 0).k2 (o.fl 0).k1 (o.fl 0).l2 (o.fl 0).l1 (by decide) (by decide) rfl rfl (by omega) (by decide)) ?_
  -- at 51
  rw [mi_sI_n _ _ _ (show h + 2 ≠ h by omega), mi_sI_n _ _ _ (show h + 1 ≠ h by omega), mfn _ _ _ (by omega), mfn _ _ _ (by omega)]
  refine r_aload_n (dk kX9_undo 27 rfl) rfl ?_
  refine r_geti (dk kX9_undo 28 rfl) fa_X9_61_8 o.k rfl ?_
  -- at 55
  rw [mi_sA_n _ _ (show h ≠ h + 1 by omega), mi_sI_s, va_up_self]
  refine r_ireturn (dk kX9_undo 29 rfl) rfl rfl ⟨Nat.le_of_ble_eq_true rfl, Nat.le_of_ble_eq_true rfl⟩ ⟨rfl, rfl⟩
theorem k_X9_undoCount (o : MO M h) : KE G IX9_undoCount [.ref h] M (mi M h 5) (sI M h 8 0) := by
  refine KK.ofW (by decide) (by simp [Value.category]) (Nat.le_of_ble_eq_true rfl) rfl ?_
  show WW _ _ _ 0 [_] [] _ _ _
  refine r_aload_n (dk kX9_undoCount 0 rfl) rfl ?_
  refine r_iconst (v := 0) (dk kX9_undoCount 1 rfl) (by decide) ?_
  refine r_puti (dk kX9_undoCount 2 rfl) fa_X9_39_8 o.k rfl rfl rfl rfl ?_
  refine r_aload_n (dk kX9_undoCount 3 rfl) rfl ?_
  refine r_geti (dk kX9_undoCount 4 rfl) fa_X9_61_8 o.k rfl ?_
  -- at 9
  rw [mi_sI_s, va_up_ne _ _ (by decide)]
  refine r_ireturn (dk kX9_undoCount 5 rfl) rfl rfl ⟨Nat.le_of_ble_eq_true rfl, Nat.le_of_ble_eq_true rfl⟩ ⟨rfl, rfl⟩
theorem k_X9_saveSnapshot (o : MO M h) : KE G IX9_saveSnapshot [.ref h] M (mi M (h + 1) 3) (sA (sI (sI M h 8 0) h 4 1) (h + 3) (va_cpy (mi M (h + 1)) (mi M (h + 3)) 0 0 219)) := by
  refine KK.ofW (by decide) (by simp [Value.category]) (Nat.le_of_ble_eq_true rfl) rfl ?_
  show WW _ _ _ 0 [_] [] _ _ _
  refine r_aload_n (dk kX9_saveSnapshot 0 rfl) rfl ?_
  refine r_iconst (v := 0) (dk kX9_saveSnapshot 1 rfl) (by decide) ?_
  refine r_puti (dk kX9_saveSnapshot 2 rfl) fa_X9_39_8 o.k rfl rfl rfl rfl ?_
  refine r_aload_n (dk kX9_saveSnapshot 3 rfl) rfl ?_
  refine r_iconst (v := 1) (dk kX9_saveSnapshot 4 rfl) (by decide) ?_
  refine r_puti (dk kX9_saveSnapshot 5 rfl) fa_X9_265_8 o.k rfl rfl rfl rfl ?_
  refine r_aload_n (dk kX9_saveSnapshot 6 rfl) rfl ?_
  refine r_getR (dk kX9_saveSnapshot 7 rfl) fa_X9_7_8 o.k rfl o.r0 ?_
  refine r_iconst (v := 0) (dk kX9_saveSnapshot 8 rfl) (by decide) ?_
  refine r_aload_n (dk kX9_saveSnapshot 9 rfl) rfl ?_
  refine r_getR (dk kX9_saveSnapshot 10 rfl) fa_X9_16_8 o.k rfl o.r2 ?_
  refine r_iconst (v := 0) (dk kX9_saveSnapshot 11 rfl) (by decide) ?_
  refine r_callSu (I' := IX9_copies) (as := [_, _, _, _]) (dk kX9_saveSnapshot 12 rfl) ms_X9_copies ml_X9_64 rfl rfl rfl (Nat.le_of_ble_eq_true rfl) ⟨by decide, by decide⟩ ⟨rfl, rfl⟩ ⟨Nat.le_of_ble_eq_true rfl, Nat.le_of_ble_eq_true rfl⟩ (k_X9_copies (M := sI (sI M h 8 0) h 4 1) (i0 := 0) (o0 := 0) (by omega) o.k1 o.k3 o.l1 o.l3 (by decide) (by decide) rfl rfl (by decide) (by decide)) ?_
  -- at 23
  rw [mi_sI_n _ _ _ (show h + 1 ≠ h by omega), mi_sI_n _ _ _ (show h + 1 ≠ h by omega), mi_sI_n _ _ _ (show h + 3 ≠ h by omega), mi_sI_n _ _ _ (show h + 3 ≠ h by omega)]
  refine r_aload_n (dk kX9_saveSnapshot 13 rfl) rfl ?_
  refine r_getR (dk kX9_saveSnapshot 14 rfl) fa_X9_7_8 o.k rfl o.r0 ?_
  refine r_iconst (v := 3) (dk kX9_saveSnapshot 15 rfl) (by decide) ?_
  refine r_ial (dk kX9_saveSnapshot 16 rfl) o.k1 o.l1 (j := 3) rfl (by decide) (by decide) ?_
  -- at 29
  rw [mi_sA_n _ _ (show h + 1 ≠ h + 3 by omega), mi_sI_n _ _ _ (show h + 1 ≠ h by omega), mi_sI_n _ _ _ (show h + 1 ≠ h by omega)]
  refine r_ireturn (dk kX9_saveSnapshot 17 rfl) rfl rfl ⟨Nat.le_of_ble_eq_true rfl, Nat.le_of_ble_eq_true rfl⟩ ⟨rfl, rfl⟩
theorem k_X9_restoreSnapshotF (o : MO M h) (hc : mi M h 4 = 0) : KE G IX9_restoreSnapshot [.ref h] M 0 (mFail M h 1) := by
  refine KK.ofW (by decide) (by simp [Value.category]) (Nat.le_of_ble_eq_true rfl) rfl ?_
  show WW _ _ _ 0 [_] [] _ _ _
  refine r_aload_n (dk kX9_restoreSnapshot 0 rfl) rfl ?_
  refine r_aload_n (dk kX9_restoreSnapshot 1 rfl) rfl ?_
  refine r_geti (dk kX9_restoreSnapshot 2 rfl) fa_X9_265_8 o.k rfl ?_
  refine r_if_eq (tgt := 12) (dk kX9_restoreSnapshot 3 rfl) (by decide) (fun c5 => ?_) (fun c5 => absurd hc c5)
  refine r_iconst (v := 1) (dk kX9_restoreSnapshot 6 rfl) (by decide) ?_
  refine r_callVp (I' := IX9_fails) (as := [_]) (dk kX9_restoreSnapshot 7 rfl) mv_X9_fails ml_X9_80 rfl rfl o.k rfl rfl (Nat.le_of_ble_eq_true rfl) ⟨by decide, by decide⟩ ⟨rfl, rfl⟩ ⟨Nat.le_of_ble_eq_true rfl, Nat.le_of_ble_eq_true rfl⟩ (k_X9_fails o _) ?_
  refine r_if_eq (tgt := 21) (dk kX9_restoreSnapshot 8 rfl) (by decide) (fun c16 => absurd c16 (by decide)) (fun c16 => ?_)
  refine r_iconst (v := 0) (dk kX9_restoreSnapshot 9 rfl) (by decide) ?_
  refine r_ireturn (dk kX9_restoreSnapshot 10 rfl) rfl rfl ⟨Nat.le_of_ble_eq_true rfl, Nat.le_of_ble_eq_true rfl⟩ ⟨rfl, rfl⟩
theorem k_X9_restoreSnapshotO (o : MO M h) (hc : mi M h 4 ≠ 0) : KE G IX9_restoreSnapshot [.ref h] M (mi M (h + 3) 3) (sI (sA (mFail M h 0) (h + 1) (va_cpy (mi M (h + 3)) (mi M (h + 1)) 0 0 219)) h 5 0) := by
  refine KK.ofW (by decide) (by simp [Value.category]) (Nat.le_of_ble_eq_true rfl) rfl ?_
  show WW _ _ _ 0 [_] [] _ _ _
  refine r_aload_n (dk kX9_restoreSnapshot 0 rfl) rfl ?_
  refine r_aload_n (dk kX9_restoreSnapshot 1 rfl) rfl ?_
  refine r_geti (dk kX9_restoreSnapshot 2 rfl) fa_X9_265_8 o.k rfl ?_
  refine r_if_eq (tgt := 12) (dk kX9_restoreSnapshot 3 rfl) (by decide) (fun c5 => absurd c5 hc) (fun c5 => ?_)
  refine r_iconst (v := 0) (dk kX9_restoreSnapshot 4 rfl) (by decide) ?_
  refine r_goto (tgt := 13) (dk kX9_restoreSnapshot 5 rfl) (by decide) ?_
  refine r_callVp (I' := IX9_fails) (as := [_]) (dk kX9_restoreSnapshot 7 rfl) mv_X9_fails ml_X9_80 rfl rfl o.k rfl rfl (Nat.le_of_ble_eq_true rfl) ⟨by decide, by decide⟩ ⟨rfl, rfl⟩ ⟨Nat.le_of_ble_eq_true rfl, Nat.le_of_ble_eq_true rfl⟩ (k_X9_fails o _) ?_
  refine r_if_eq (tgt := 21) (dk kX9_restoreSnapshot 8 rfl) (by decide) (fun c16 => ?_) (fun c16 => absurd (by decide) c16)
  refine r_aload_n (dk kX9_restoreSnapshot 11 rfl) rfl ?_
  refine r_getR (dk kX9_restoreSnapshot 12 rfl) fa_X9_16_8 o.k rfl (o.fl 0).r2 ?_
  refine r_iconst (v := 0) (dk kX9_restoreSnapshot 13 rfl) (by decide) ?_
  refine r_aload_n (dk kX9_restoreSnapshot 14 rfl) rfl ?_
  refine r_getR (dk kX9_restoreSnapshot 15 rfl) fa_X9_7_8 o.k rfl (o.fl 0).r0 ?_
  refine r_iconst (v := 0) (dk kX9_restoreSnapshot 16 rfl) (by decide) ?_
  refine r_callSu (I' := IX9_copies) (as := [_, _, _, _]) (dk kX9_restoreSnapshot 17 rfl) ms_X9_copies ml_X9_64 rfl rfl rfl (Nat.le_of_ble_eq_true rfl) ⟨by decide, by decide⟩ ⟨rfl, rfl⟩ ⟨Nat.le_of_ble_eq_true rfl, Nat.le_of_ble_eq_true rfl⟩ (k_X9_copies (M := mFail M h 0) (i0 := 0) (o0 := 0) (by omega) (o.fl 0).k3 (o.fl 0).k1 (o.fl 0).l3 (o.fl 0).l1 (by decide) (by decide) rfl rfl (by decide) (by decide)) ?_
  -- at 34
  rw [mfn _ _ _ (show h + 3 ≠ h by omega), mfn _ _ _ (show h + 1 ≠ h by omega)]
  refine r_aload_n (dk kX9_restoreSnapshot 18 rfl) rfl ?_
  refine r_iconst (v := 0) (dk kX9_restoreSnapshot 19 rfl) (by decide) ?_
  refine r_puti (dk kX9_restoreSnapshot 20 rfl) fa_X9_61_8 o.k rfl rfl rfl rfl ?_
  refine r_aload_n (dk kX9_restoreSnapshot 21 rfl) rfl ?_
  refine r_getR (dk kX9_restoreSnapshot 22 rfl) fa_X9_7_8 o.k rfl (o.fl 0).r0 ?_
  refine r_iconst (v := 3) (dk kX9_restoreSnapshot 23 rfl) (by decide) ?_
  refine r_ial (dk kX9_restoreSnapshot 24 rfl) (o.fl 0).k1 (o.fl 0).l1 (j := 3) rfl (by decide) (by decide) ?_
  -- at 45
  rw [mi_sI_n _ _ _ (show h + 1 ≠ h by omega), mi_sA_s]
  refine r_ireturn (dk kX9_restoreSnapshot 25 rfl) rfl rfl ⟨Nat.le_of_ble_eq_true rfl, Nat.le_of_ble_eq_true rfl⟩ ⟨?_, rfl⟩
  unfold va_cpy
  rw [if_pos (by decide)]
/-! lines: what is written, and how much -/
abbrev LN : Type := (Nat → Int32) × Nat
def lPut (l : LN) (c : Int32) : LN := (va_up l.1 l.2 c, l.2 + 1)
def lNum (l : LN) : Nat → Nat → LN
  | 0, n => lPut l (nI (48 + n % 10))
  | z + 1, n => lPut (if 9 < n then lNum l z (n / 10) else l) (nI (48 + n % 10))
def mLine (M : Mm) (h : Nat) (l : LN) : Mm := sA (sA M (h + 6) l.1) h (va_up (mi M h) 17 (nI l.2))
theorem MO.line (o : MO M h) (l : LN) : MO (mLine M h l) h := o.to rfl rfl rfl
theorem ml_17 (M : Mm) (h : Nat) (l : LN) : mi (mLine M h l) h 17 = nI l.2 := by
  unfold mLine
  rw [mi_sA_s, va_up_self]
theorem ml_n (M : Mm) (h : Nat) (l : LN) {a : Nat} (h1 : a ≠ h) (h6 : a ≠ h + 6) : mi (mLine M h l) a = mi M a := by
  unfold mLine
  rw [mi_sA_n _ _ h1, mi_sA_n _ _ h6]
theorem ml_put (M : Mm) (h : Nat) (l : LN) (c : Int32) : sI (sI (mLine M h l) (h + 6) l.2 c) h 17 (nI (l.2 + 1)) = mLine M h (lPut l c) := by
  unfold mLine lPut
  rw [sA_co _ _ _ (show h + 6 ≠ h by omega), sI_sA, sA_co _ _ _ (show h ≠ h + 6 by omega), sI_sA, va_up_up]
theorem k_X9_writes (o : MO M h) {l : LN} (hl : l.2 < 60) {c : Int32} {k : Nat} (hc : c = nI k) (hk : k < 128) : KU G IX9_writes [.ref h, .int c] (mLine M h l) (mLine M h (lPut l (nI k))) := by
  refine KK.ofW (by decide) (by simp [Value.category]) (Nat.le_of_ble_eq_true rfl) rfl ?_
  show WW _ _ _ 0 [_, _] [] _ _ _
  subst hc
  refine r_aload_n (dk kX9_writes 0 rfl) rfl ?_
  refine r_getR (dk kX9_writes 1 rfl) fa_X9_29_8 o.k rfl o.r16 ?_
  refine r_aload_n (dk kX9_writes 2 rfl) rfl ?_
  refine r_geti (dk kX9_writes 3 rfl) fa_X9_252_8 o.k rfl ?_
  -- at 8
  rw [ml_17]
  refine r_iload_n (dk kX9_writes 4 rfl) rfl ?_
  refine r_i2c (dk kX9_writes 5 rfl) ?_
  refine r_cas (dk kX9_writes 6 rfl) o.k6 o.l6 (j := l.2) rfl hl (by decide) ?_
  -- at 11
  rw [ch_i2c k hk]
  refine r_aload_n (dk kX9_writes 7 rfl) rfl ?_
  refine r_dup (dk kX9_writes 8 rfl) rfl ?_
  refine r_geti (dk kX9_writes 9 rfl) fa_X9_252_8 o.k rfl ?_
  -- at 16
  rw [mi_sI_n _ _ _ (show h ≠ h + 6 by omega), ml_17]
  refine r_iconst (v := 1) (dk kX9_writes 10 rfl) (by decide) ?_
  refine r_iadd (dk kX9_writes 11 rfl) ?_
  -- at 18
  rw [show nI l.2 + 1 = nI (l.2 + 1) from nI_1 _]
  refine r_puti (dk kX9_writes 12 rfl) fa_X9_252_8 o.k rfl rfl rfl rfl ?_
  refine r_return (dk kX9_writes 13 rfl) rfl ⟨Nat.le_of_ble_eq_true rfl, Nat.le_of_ble_eq_true rfl⟩ (ml_put _ _ _ _)
theorem lNum_le (l : LN) : ∀ z n, (lNum l z n).2 ≤ l.2 + z + 1
  | 0, n => Nat.le_refl _
  | z + 1, n => by
    have ih := lNum_le l z (n / 10)
    show (if 9 < n then lNum l z (n / 10) else l).2 + 1 ≤ _
    split <;> omega
theorem k_X9_writesNumber (o : MO M h) {l : LN} : ∀ z n, n < 10 ^ (z + 1) → n < 2 ^ 30 → l.2 + z < 60 → KU G (IX9_writesNumber z) [.ref h, .int (nI n)] (mLine M h l) (mLine M h (lNum l z n)) := by
  intro z
  have hd : ∀ n, n < 2 ^ 30 → (48 : Int32) + (nI n - nI n / 10 * 10) = nI (48 + n % 10) := fun n hn => by
    have h1 := pk_rem (d := 10) (show n < 2 ^ 31 by omega) (by decide) (by decide)
    rw [show nI n - nI n / 10 * 10 = nI (n % 10) from h1, show (48 : Int32) = nI 48 from rfl, nI_add]
  induction z with
  | zero =>
    intro n hn h30 hl
    have hn : n < 10 := hn
    refine KK.ofW (show plainName yX9_writesNumber.cls = true by decide) (by simp [Value.category]) (Nat.le_of_ble_eq_true rfl) rfl ?_
    show WW _ _ _ 0 [_, _] [] _ _ _
    refine r_iload_n (dk kX9_writesNumber 0 rfl) rfl ?_
    refine r_bipush (v := 9) (dk kX9_writesNumber 1 rfl) (by decide) ?_
    refine r_icmp_le (tgt := 14) (dk kX9_writesNumber 2 rfl) (by decide) (fun c3 => ?_) (fun c3 => absurd (by exact nI_le (a := n) (b := 9) (by omega) (by decide)) c3)
    refine r_aload_n (dk kX9_writesNumber 8 rfl) rfl ?_
    refine r_bipush (v := 48) (dk kX9_writesNumber 9 rfl) (by decide) ?_
    refine r_iload_n (dk kX9_writesNumber 10 rfl) rfl ?_
    refine r_bipush (v := 10) (dk kX9_writesNumber 11 rfl) (by decide) ?_
    refine r_irem (dk kX9_writesNumber 12 rfl) (by decide) ?_
    refine r_iadd (dk kX9_writesNumber 13 rfl) ?_
    -- at 22
    rw [hd n h30]
    refine r_callVu (I' := IX9_writes) (as := [_]) (dk kX9_writesNumber 14 rfl) mv_X9_writes ml_X9_258 rfl rfl o.k rfl rfl (Nat.le_of_ble_eq_true rfl) ⟨by decide, by decide⟩ ⟨rfl, rfl⟩ ⟨Nat.le_of_ble_eq_true rfl, Nat.le_of_ble_eq_true rfl⟩ (k_X9_writes o (k := 48 + n % 10) (by omega) rfl (by omega)) ?_
    refine r_return (dk kX9_writesNumber 15 rfl) rfl ⟨Nat.le_of_ble_eq_true rfl, Nat.le_of_ble_eq_true rfl⟩ rfl
  | succ z ih =>
    intro n hn h30 hl
    refine KK.ofW (show plainName yX9_writesNumber.cls = true by decide) (by simp [Value.category]) (Nat.le_of_ble_eq_true rfl) rfl ?_
    show WW _ _ _ 0 [_, _] [] _ _ _
    have le := lNum_le l z (n / 10)
    by_cases h9 : 9 < n
    · refine r_iload_n (dk kX9_writesNumber 0 rfl) rfl ?_
      refine r_bipush (v := 9) (dk kX9_writesNumber 1 rfl) (by decide) ?_
      refine r_icmp_le (tgt := 14) (dk kX9_writesNumber 2 rfl) (by decide) (fun c3 => absurd c3 (by exact Int32.not_le.mpr (nI_lt (a := 9) (b := n) h9 (by omega)))) (fun c3 => ?_)
      refine r_aload_n (dk kX9_writesNumber 3 rfl) rfl ?_
      refine r_iload_n (dk kX9_writesNumber 4 rfl) rfl ?_
      refine r_bipush (v := 10) (dk kX9_writesNumber 5 rfl) (by decide) ?_
      refine r_idiv (dk kX9_writesNumber 6 rfl) (by decide) ?_
      -- at 11
      rw [show nI n / 10 = nI (n / 10) from pk_div (d := 10) (show n < 2 ^ 31 by omega) (by decide) (by decide)]
      refine r_callVu (I' := IX9_writesNumber z) (as := [_]) (dk kX9_writesNumber 7 rfl) mv_X9_writesNumber ml_X9_255 rfl rfl o.k rfl rfl (Nat.le_of_ble_eq_true rfl) ⟨by show z + 2 + 20 + 1 ≤ z + 1 + 2 + 20; omega, by show 8 + (2 + 11) + (40 * (z + 2) + 200) ≤ 40 * (z + 1 + 2) + 200; omega⟩ ⟨rfl, rfl⟩ ⟨Nat.le_of_ble_eq_true rfl, Nat.le_of_ble_eq_true rfl⟩ (ih (n / 10) (by rw [Nat.div_lt_iff_lt_mul (by decide)]; exact hn) (by omega) (by omega)) ?_
      refine r_aload_n (dk kX9_writesNumber 8 rfl) rfl ?_
      refine r_bipush (v := 48) (dk kX9_writesNumber 9 rfl) (by decide) ?_
      refine r_iload_n (dk kX9_writesNumber 10 rfl) rfl ?_
      refine r_bipush (v := 10) (dk kX9_writesNumber 11 rfl) (by decide) ?_
      refine r_irem (dk kX9_writesNumber 12 rfl) (by decide) ?_
      refine r_iadd (dk kX9_writesNumber 13 rfl) ?_
      -- at 22
      rw [hd n h30]
      refine r_callVu (I' := IX9_writes) (as := [_]) (dk kX9_writesNumber 14 rfl) mv_X9_writes ml_X9_258 rfl rfl o.k rfl rfl (Nat.le_of_ble_eq_true rfl) ⟨by show 1 + 20 + 1 ≤ z + 1 + 2 + 20; omega, by show 8 + (2 + 11) + (40 * 1 + 200) ≤ 40 * (z + 1 + 2) + 200; omega⟩ ⟨rfl, rfl⟩ ⟨Nat.le_of_ble_eq_true rfl, Nat.le_of_ble_eq_true rfl⟩ (k_X9_writes o (l := lNum l z (n / 10)) (k := 48 + n % 10) (by omega) rfl (by omega)) ?_
      refine r_return (dk kX9_writesNumber 15 rfl) rfl ⟨Nat.le_of_ble_eq_true rfl, Nat.le_of_ble_eq_true rfl⟩ ?_
      show _ = mLine M h (lPut (if 9 < n then _ else _) _)
      rw [if_pos h9]
    · refine r_iload_n (dk kX9_writesNumber 0 rfl) rfl ?_
      refine r_bipush (v := 9) (dk kX9_writesNumber 1 rfl) (by decide) ?_
      refine r_icmp_le (tgt := 14) (dk kX9_writesNumber 2 rfl) (by decide) (fun c3 => ?_) (fun c3 => absurd (by exact nI_le (a := n) (b := 9) (by omega) (by decide)) c3)
      refine r_aload_n (dk kX9_writesNumber 8 rfl) rfl ?_
      refine r_bipush (v := 48) (dk kX9_writesNumber 9 rfl) (by decide) ?_
      refine r_iload_n (dk kX9_writesNumber 10 rfl) rfl ?_
      refine r_bipush (v := 10) (dk kX9_writesNumber 11 rfl) (by decide) ?_
      refine r_irem (dk kX9_writesNumber 12 rfl) (by decide) ?_
      refine r_iadd (dk kX9_writesNumber 13 rfl) ?_
      -- at 22
      rw [hd n h30]
      refine r_callVu (I' := IX9_writes) (as := [_]) (dk kX9_writesNumber 14 rfl) mv_X9_writes ml_X9_258 rfl rfl o.k rfl rfl (Nat.le_of_ble_eq_true rfl) ⟨by show 1 + 20 + 1 ≤ z + 1 + 2 + 20; omega, by show 8 + (2 + 11) + (40 * 1 + 200) ≤ 40 * (z + 1 + 2) + 200; omega⟩ ⟨rfl, rfl⟩ ⟨Nat.le_of_ble_eq_true rfl, Nat.le_of_ble_eq_true rfl⟩ (k_X9_writes o (k := 48 + n % 10) (by omega) rfl (by omega)) ?_
      refine r_return (dk kX9_writesNumber 15 rfl) rfl ⟨Nat.le_of_ble_eq_true rfl, Nat.le_of_ble_eq_true rfl⟩ ?_
      show _ = mLine M h (lPut (if 9 < n then _ else _) _)
      rw [if_neg h9]
/-- a mark and a number -/
def lMark (l : LN) (c : Nat) (n : Nat) : LN := lNum (lPut l (nI c)) 9 n
theorem k_X9_writesBehind (o : MO M h) {l : LN} {c : Int32} {k n : Nat} (hc : c = nI k) (hk : k < 128) (hn : n < 2 ^ 30) (hl : l.2 < 50) : KU G IX9_writesBehind [.ref h, .int c, .int (nI n)] (mLine M h l) (mLine M h (lMark l k n)) := by
  refine KK.ofW (by decide) (by simp [Value.category]) (Nat.le_of_ble_eq_true rfl) rfl ?_
  show WW _ _ _ 0 [_, _, _] [] _ _ _
  have e : (lPut l (nI k)).2 = l.2 + 1 := rfl
  refine r_aload_n (dk kX9_writesBehind 0 rfl) rfl ?_
  refine r_iload_n (dk kX9_writesBehind 1 rfl) rfl ?_
  refine r_callVu (I' := IX9_writes) (as := [_]) (dk kX9_writesBehind 2 rfl) mv_X9_writes ml_X9_258 rfl rfl o.k rfl rfl (Nat.le_of_ble_eq_true rfl) ⟨by decide, by decide⟩ ⟨rfl, rfl⟩ ⟨Nat.le_of_ble_eq_true rfl, Nat.le_of_ble_eq_true rfl⟩ (k_X9_writes o (l := l) (by omega) hc hk) ?_
  refine r_aload_n (dk kX9_writesBehind 3 rfl) rfl ?_
  refine r_iload_n (dk kX9_writesBehind 4 rfl) rfl ?_
  refine r_callVu (I' := IX9_writesNumber 9) (as := [_]) (dk kX9_writesBehind 5 rfl) mv_X9_writesNumber ml_X9_255 rfl rfl o.k rfl rfl (Nat.le_of_ble_eq_true rfl) ⟨by decide, by decide⟩ ⟨rfl, rfl⟩ ⟨Nat.le_of_ble_eq_true rfl, Nat.le_of_ble_eq_true rfl⟩ (k_X9_writesNumber o 9 n (by omega) hn (by rw [e]; omega)) ?_
  refine r_return (dk kX9_writesBehind 6 rfl) rfl ⟨Nat.le_of_ble_eq_true rfl, Nat.le_of_ble_eq_true rfl⟩ rfl
end MODEL
