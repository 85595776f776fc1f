/-! THE REFERENCE: execute, from its start -/
section MODEL
variable {G : GG} {M : Mm} {h : Nat}
theorem cm_pre {Y : Mm} (rY : MR M h Y) (c : Int32) : ∃ Y', (if c = 100 then Y else mFail Y h 0) = Y' ∧ MR M h Y' ∧ (∀ a, a ≠ h → mi Y' a = mi Y a) ∧ (∀ i, i ≠ 7 → i ≠ 8 → mi Y' h i = mi Y h i) := by
  by_cases hc : c = 100
  · exact ⟨Y, if_pos hc, rY, fun _ _ => rfl, fun _ _ _ => rfl⟩
  · exact ⟨mFail Y h 0, if_neg hc, (rY.sI _ _ (by omega)).sI _ _ (by omega), fun a ha => mfn _ _ _ ha, fun i h1 h2 => mf0 _ _ _ h1 h2⟩
theorem cm_ok {Y : Mm} {co : CO} (rY : MR M h Y) (w6 : mi Y h 6 ≠ 0) (hc0 : co.1 = 0) : ∃ W, mOut Y h co = W ∧ MR M h W ∧ mi W (h + 1) = co.2.2.2 ∧ (∀ a, a ≠ h → a ≠ h + 1 → mi W a = mi Y a) ∧ (∀ i, i ≠ 8 → mi W h i = mi Y h i) ∧ mi W h 8 = 0 := by
  refine ⟨sA (sI Y h 8 0) (h + 1) co.2.2.2, ?_, (rY.sI _ _ (by omega)).sA _ (by omega), mi_sA_s _ _ _, fun a h1 h2 => by rw [mi_sA_n _ _ h2, mi_sI_n _ _ _ h1], fun i h2 => by rw [mi_sA_n _ _ (by omega), mi_sI_s, va_up_ne _ _ h2], by rw [mi_sA_n _ _ (by omega), mi_sI_s, va_up_self]⟩
  unfold mOut
  rw [if_pos hc0]
  unfold mKeep
  rw [if_neg w6]
theorem cm_no {Y : Mm} {co : CO} (rY : MR M h Y) (hc0 : ¬ co.1 = 0) : ∃ W, mOut Y h co = W ∧ MR M h W ∧ (∀ a, a ≠ h → mi W a = mi Y a) ∧ (∀ i, i < 7 ∨ 12 < i → mi W h i = mi Y h i) ∧ mi W h 8 = co.1 ∧ (if mi W h 7 = 0 then 13 else mi W h 9) = (if co.2.1.1 = 0 then 13 else co.2.1.1) ∧ (if mi W h 7 = 0 then 0 else mi W h 10) = (if co.2.1.1 = 0 then 0 else co.2.1.2) := by
  by_cases hq : co.2.1.1 = 0
  · refine ⟨mFail Y h co.1, by unfold mOut; rw [if_neg hc0, if_pos hq], (rY.sI _ _ (by omega)).sI _ _ (by omega), fun a ha => mfn _ _ _ ha, fun i hi => mf0 _ _ _ (by omega) (by omega), by rw [mi_sI_s, va_up_ne _ _ (by decide), mi_sI_s, va_up_self], ?_⟩
    have h7 : mi (mFail Y h co.1) h 7 = 0 := by rw [mi_sI_s, va_up_self]
    rw [if_pos h7, if_pos h7, if_pos hq, if_pos hq]
    exact ⟨rfl, rfl⟩
  · have eD : mi (mDeny Y h co.1 co.2.1.1 co.2.1.2) h = va_up (va_up (va_up (va_up (va_up (va_up (mi Y h) 8 co.1) 7 1) 9 co.2.1.1) 10 co.2.1.2) 11 0) 12 0 := by rw [mi_sI_s, mi_sI_s, mi_sI_s, mi_sI_s, mi_sI_s, mi_sI_s]
    refine ⟨mDeny Y h co.1 co.2.1.1 co.2.1.2, by unfold mOut; rw [if_neg hc0, if_neg hq], (((((rY.sI _ _ (by omega)).sI _ _ (by omega)).sI _ _ (by omega)).sI _ _ (by omega)).sI _ _ (by omega)).sI _ _ (by omega), fun a ha => by rw [mi_sI_n _ _ _ ha, mi_sI_n _ _ _ ha, mi_sI_n _ _ _ ha, mi_sI_n _ _ _ ha, mi_sI_n _ _ _ ha, mi_sI_n _ _ _ ha], ?_, ?_, ?_⟩
    · intro i hi
      rw [eD, va_up_ne _ _ (by omega), va_up_ne _ _ (by omega), va_up_ne _ _ (by omega), va_up_ne _ _ (by omega), va_up_ne _ _ (by omega), va_up_ne _ _ (by omega)]
    · rw [eD, va_up_ne _ _ (by decide), va_up_ne _ _ (by decide), va_up_ne _ _ (by decide), va_up_ne _ _ (by decide), va_up_ne _ _ (by decide), va_up_self]
    · have h7 : mi (mDeny Y h co.1 co.2.1.1 co.2.1.2) h 7 = 1 := by rw [eD, va_up_ne _ _ (by decide), va_up_ne _ _ (by decide), va_up_ne _ _ (by decide), va_up_ne _ _ (by decide), va_up_self]
      have h9 : mi (mDeny Y h co.1 co.2.1.1 co.2.1.2) h 9 = co.2.1.1 := by rw [eD, va_up_ne _ _ (by decide), va_up_ne _ _ (by decide), va_up_ne _ _ (by decide), va_up_self]
      have h10 : mi (mDeny Y h co.1 co.2.1.1 co.2.1.2) h 10 = co.2.1.2 := by rw [eD, va_up_ne _ _ (by decide), va_up_ne _ _ (by decide), va_up_self]
      rw [h7, h9, h10, if_neg (show ¬ (1 : Int32) = 0 by decide), if_neg (show ¬ (1 : Int32) = 0 by decide), if_neg hq, if_neg hq]
      exact ⟨rfl, rfl⟩
theorem k_ex_loop (o : MO M h) {F n : Nat} {inp : Nat → Int32} (gi : GI F (mi M (h + 1))) (hF : F + 9 < 2 ^ 30) (hk : nb (mi M h) 5 9) {tl : Nat → Int32} (hok : (tOK inp n).1 = true) (hTold : Told inp n tl (tOK inp n).2.2) {X : Mm} (bX : ∀ i, i < 219 → mi X (h + 4) i = mi M (h + 1) i) (fX6 : mi X h 6 = 1) (fM : ∀ i, i ≠ 6 → i ≠ 7 → i ≠ 8 → i ≠ 14 → i ≠ 19 → i ≠ 21 → mi X h i = mi M h i) (fX14 : mi X h 14 = 0) (fX21 : mi X h 21 = nI (tOK inp n).2.2) (tX : mi X (h + 8) = tl) (aX : ∀ a, a = h + 2 ∨ a = h + 3 ∨ a = h + 5 ∨ a = h + 6 → mi X a = mi M a) : ∀ d j (Y : Mm) (v : Int32), j + d = (tOK inp n).2.2 → (∀ z, z < j → (rC (mi M (h + 1)) inp n z).1 = 0) → MR M h Y → mi Y (h + 1) = rG (mi M (h + 1)) inp n j → (∀ a, a ≠ h → a ≠ h + 1 → mi Y a = mi X a) → (∀ i, i ≠ 7 → i ≠ 8 → mi Y h i = mi X h i) → mi Y h 8 = 0 → WW G IX9_execute (qi (QE M h inp n) nox) 62 [.ref h, .int 1, .int (nI j), .int v] [] Y 0 0 := by
  obtain ⟨m9, m0, mall⟩ := tOK_all hok
  intro d
  induction d with
  | zero =>
    intro j Y v hj hz rY gY nY fY cY
    have hj : j = (tOK inp n).2.2 := hj
    subst hj
    have oY := o.mr rY
    refine r_iload_n (dk kX9_execute_p0 36 rfl) rfl ?_
    refine r_aload_n (dk kX9_execute_p0 37 rfl) rfl ?_
    refine r_geti (dk kX9_execute_p0 38 rfl) fa_X9_174_8 oY.k rfl ?_
    -- at 67
    rw [fY 21 (by decide) (by decide), fX21]
    refine r_icmp_ge (tgt := 98) (dk kX9_execute_p0 39 rfl) (by decide) (fun c67 => ?_) (fun c67 => absurd (Int32.le_refl _) c67)
    -- at 98
    exact k_ex_ok o hk hok hz rY gY (fun i hi => by rw [nY _ (by omega) (by omega)]; exact bX i hi) (fun a ha => by rw [nY a (by omega) (by omega), aX a ha]) (fun i h1 h2 h3 h4 h5 h7 => by rw [fY i h2 h3, fM i h1 h2 h3 h4 h5 h7]) (by rw [fY 14 (by decide) (by decide), fX14]) (by rw [fY 21 (by decide) (by decide), fX21]) cY
  | succ d ih =>
    intro j Y v hj hz rY gY nY fY cY
    have oY := o.mr rY
    refine r_iload_n (dk kX9_execute_p0 36 rfl) rfl ?_
    refine r_aload_n (dk kX9_execute_p0 37 rfl) rfl ?_
    refine r_geti (dk kX9_execute_p0 38 rfl) fa_X9_174_8 oY.k rfl ?_
    -- at 67
    rw [fY 21 (by decide) (by decide), fX21]
    refine r_icmp_ge (tgt := 98) (dk kX9_execute_p0 39 rfl) (by decide) (fun c67 => absurd c67 (nI_ge (by omega) (by omega))) (fun c67 => ?_)
    refine r_aload_n (dk kX9_execute_p0 40 rfl) rfl ?_
    refine r_geti (dk kX9_execute_p0 41 rfl) fa_X9_39_8 oY.k rfl ?_
    -- at 74
    rw [cY]
    have giY : GI (F + j) (mi Y (h + 1)) := by rw [gY]; exact GI_rG gi (by omega) hz
    have hjm : j < (tOK inp n).2.2 := by omega
    obtain ⟨pn1, pn2⟩ := pC_n (mall j hjm)
    obtain ⟨tj1, tj2⟩ := hTold j hjm
    have tY : mi Y (h + 8) = tl := by rw [nY _ (by omega) (by omega), tX]
    refine r_if_ne (tgt := 98) (dk kX9_execute_p0 42 rfl) (by decide) (fun c74 => absurd c74 (by exact fun z => z rfl)) (fun c74 => ?_)
    refine r_aload_n (dk kX9_execute_p0 43 rfl) rfl ?_
    refine r_iconst (v := 5) (dk kX9_execute_p0 44 rfl) (by decide) ?_
    refine r_iload_n (dk kX9_execute_p0 45 rfl) rfl ?_
    refine r_imul (dk kX9_execute_p0 46 rfl) ?_
    -- at 81
    rw [show (5 : Int32) * nI j = nI (5 * j) from pk_mul 5 j]
    have hkY : nb (mi Y h) 5 9 := nb_eq (by rw [fY 5 (by decide) (by decide), fM 5 (by decide) (by decide) (by decide) (by decide) (by decide) (by decide)]) hk
    refine r_callVp (I' := IX9_carries) (as := [_]) (dk kX9_execute_p0 47 rfl) mv_X9_carries ml_X9_246 rfl rfl oY.k rfl rfl (Nat.le_of_ble_eq_true rfl) ⟨by decide, by decide⟩ ⟨rfl, rfl⟩ ⟨Nat.le_of_ble_eq_true rfl, Nat.le_of_ble_eq_true rfl⟩ (k_X9_carries oY giY hkY (k := j) (by omega) (c := xL inp n j) (a := xA inp n j) (by rw [tY]; exact tj1) pn2 (fun m hm => by rw [tY]; exact tj2 m (by rw [pn1]; exact hm))) ?_
    -- at 84
    rw [gY]
    show WW G IX9_execute _ _ _ [.int (rC (mi M (h + 1)) inp n j).2.2.1] (mOut _ h (rC (mi M (h + 1)) inp n j)) 0 0
    have hC := COk_cmd (rG (mi M (h + 1)) inp n j) (xL inp n j) (xA inp n j)
    have hC : COk (rC (mi M (h + 1)) inp n j) := hC
    have hrg : rG (mi M (h + 1)) inp n (j + 1) = (rC (mi M (h + 1)) inp n j).2.2.2 := rfl
    generalize hco : rC (mi M (h + 1)) inp n j = co at *
    obtain ⟨Y', hY', rY', nY', fY'⟩ := cm_pre rY (xL inp n j)
    rw [hY']
    clear hY'
    have w6 : mi Y' h 6 ≠ 0 := by rw [fY' 6 (by decide) (by decide), fY 6 (by decide) (by decide), fX6]; decide
    by_cases hc0 : co.1 = 0
    · obtain ⟨W, hW, rW, gW, nW', fW', cW⟩ := cm_ok rY' w6 hc0
      rw [hW]
      clear hW
      have nW : ∀ a, a ≠ h → a ≠ h + 1 → mi W a = mi X a := fun a h1 h2 => by rw [nW' a h1 h2, nY' a h1, nY a h1 h2]
      have fW : ∀ i, i ≠ 7 → i ≠ 8 → mi W h i = mi X h i := fun i h1 h2 => by rw [fW' i h2, fY' i h1 h2, fY i h1 h2]
      have oW := o.mr rW
      refine r_istore_n (j := 3) (dk kX9_execute_p0 48 rfl) rfl (by decide) rfl ?_
      simp only [List.set_cons_succ, List.set_cons_zero]
      refine r_aload_n (dk kX9_execute_p0 49 rfl) rfl ?_
      refine r_geti (dk kX9_execute_p0 50 rfl) fa_X9_39_8 oW.k rfl ?_
      -- at 89
      rw [cW]
      refine r_if_ne (tgt := 62) (dk kX9_execute_p0 51 rfl) (by decide) (fun c89 => absurd c89 (by exact fun z => z rfl)) (fun c89 => ?_)
      refine r_iinc (dk kX9_execute_p0 52 rfl) (by decide) rfl rfl rfl ?_
      simp only [List.set_cons_succ, List.set_cons_zero]
      refine r_goto (tgt := 62) (dk kX9_execute_p0 53 rfl) (by decide) ?_
      -- at 62
      rw [show nI j + Int32.ofInt 1 = nI (j + 1) from nI_1 j]
      exact ih (j + 1) W _ (by omega) (fun z hz' => by
        rcases Nat.lt_succ_iff_lt_or_eq.mp hz' with q | q
        · exact hz z q
        · rw [q, hco]; exact hc0) rW (by rw [hrg, gW]) nW fW cW
    · have hpos : 0 < co.1 ∧ co.2.2.1 = 0 := hC.resolve_left hc0
      obtain ⟨W, hW, rW, nW', fW', cW, dW1, dW2⟩ := cm_no rY' hc0
      rw [hW]
      clear hW
      have nW : ∀ a, a ≠ h → mi W a = mi Y a := fun a ha => by rw [nW' a ha, nY' a ha]
      have fW : ∀ i, i < 7 ∨ 12 < i → mi W h i = mi X h i := fun i hi => by rw [fW' i hi, fY' i (by omega) (by omega), fY i (by omega) (by omega)]
      have oW := o.mr rW
      have hfx : fx (fun j => decide ((rC (mi M (h + 1)) inp n j).1 ≠ 0)) (tOK inp n).2.2 = some j := fx_some.mpr ⟨hjm, decide_eq_true (by rw [hco]; exact hc0), fun z hz' => decide_eq_false (fun y => y (hz z hz'))⟩
      refine r_istore_n (j := 3) (dk kX9_execute_p0 48 rfl) rfl (by decide) rfl ?_
      simp only [List.set_cons_succ, List.set_cons_zero]
      refine r_aload_n (dk kX9_execute_p0 49 rfl) rfl ?_
      refine r_geti (dk kX9_execute_p0 50 rfl) fa_X9_39_8 oW.k rfl ?_
      -- at 89
      rw [cW, hpos.2]
      refine r_if_ne (tgt := 62) (dk kX9_execute_p0 51 rfl) (by decide) (fun c89 => ?_) (fun c89 => absurd hc0 c89)
      refine r_iload_n (dk kX9_execute_p0 36 rfl) rfl ?_
      refine r_aload_n (dk kX9_execute_p0 37 rfl) rfl ?_
      refine r_geti (dk kX9_execute_p0 38 rfl) fa_X9_174_8 oW.k rfl ?_
      -- at 67
      rw [fW 21 (by omega), fX21]
      refine r_icmp_ge (tgt := 98) (dk kX9_execute_p0 39 rfl) (by decide) (fun c67 => absurd c67 (nI_ge (by omega) (by omega))) (fun c67 => ?_)
      refine r_aload_n (dk kX9_execute_p0 40 rfl) rfl ?_
      refine r_geti (dk kX9_execute_p0 41 rfl) fa_X9_39_8 oW.k rfl ?_
      -- at 74
      rw [cW]
      refine r_if_ne (tgt := 98) (dk kX9_execute_p0 42 rfl) (by decide) (fun c74 => ?_) (fun c74 => absurd hc0 c74)
      -- at 98
      exact k_ex_fail o hok hco hfx hpos.1 rW (fun i hi => by rw [nW _ (by omega), nY _ (by omega) (by omega)]; exact bX i hi) (fun a ha => by rw [nW a (by omega), nY a (by omega) (by omega), aX a ha]) (fun i hi => by rw [fW i (by omega), fM i (by omega) (by omega) (by omega) (by omega) (by omega) (by omega)]) (by rw [fW 14 (by omega), fX14]) cW dW1 dW2
end MODEL
