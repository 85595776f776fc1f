/-! THE REFERENCE: execute, from its start -/
section MODEL
variable {G : GG} {M : Mm} {h : Nat}
theorem k_ex_mid (o : MO M h) {F n : Nat} {inp : Nat → Int32} (gi : GI F (mi M (h + 1))) (hF : F + 9 < 2 ^ 30) (hk : nb (mi M h) 5 9) {tl : Nat → Int32} (hok : (tOK inp n).1 = true) (hTold : Told inp n tl (tOK inp n).2.2) {X1 : Mm} (rX1 : MR M h X1) (nX1 : ∀ a, a ≠ h → a ≠ h + 8 → mi X1 a = mi M a) (a8 : mi X1 (h + 8) = tl) (fX1 : ∀ i, i ≠ 7 → i ≠ 8 → i ≠ 14 → i ≠ 19 → i ≠ 21 → mi X1 h i = mi M h i) (f14 : mi X1 h 14 = 0) (f8 : mi X1 h 8 = 0) (f21 : mi X1 h 21 = nI (tOK inp n).2.2) : WW G IX9_execute (qi (QE M h inp n) nox) 40 [.ref h, .int 1, lj, lj] [] X1 0 0 := by
  have oX1 := o.mr rX1
  refine r_aload_n (dk kX9_execute_p0 22 rfl) rfl ?_
  refine r_getR (dk kX9_execute_p0 23 rfl) fa_X9_7_8 oX1.k rfl oX1.r0 ?_
  refine r_iconst (v := 0) (dk kX9_execute_p0 24 rfl) (by decide) ?_
  refine r_aload_n (dk kX9_execute_p0 25 rfl) rfl ?_
  refine r_getR (dk kX9_execute_p0 26 rfl) fa_X9_19_8 oX1.k rfl oX1.r3 ?_
  refine r_iconst (v := 0) (dk kX9_execute_p0 27 rfl) (by decide) ?_
  -- at 50
  refine r_callSu (I' := IX9_copies) (as := [_, _, _, _]) (dk kX9_execute_p0 28 rfl) ms_X9_copies ml_X9_64 rfl rfl rfl (Nat.le_of_ble_eq_true rfl) ⟨by decide, by decide⟩ ⟨rfl, rfl⟩ ⟨Nat.le_of_ble_eq_true rfl, Nat.le_of_ble_eq_true rfl⟩ (k_X9_copies (M := X1) (i0 := 0) (o0 := 0) (by omega) oX1.k1 oX1.k4 oX1.l1 oX1.l4 (by decide) (by decide) rfl rfl (by decide) (by decide)) ?_
  -- at 53
  have e1 : mi X1 (h + 1) = mi M (h + 1) := nX1 _ (by omega) (by omega)
  rw [e1]
  refine r_aload_n (dk kX9_execute_p0 29 rfl) rfl ?_
  refine r_iconst (v := 1) (dk kX9_execute_p0 30 rfl) (by decide) ?_
  refine r_puti (dk kX9_execute_p0 31 rfl) fa_X9_58_8 oX1.k rfl rfl rfl rfl ?_
  refine r_iconst (v := 0) (dk kX9_execute_p0 32 rfl) (by decide) ?_
  refine r_istore_n (j := 2) (dk kX9_execute_p0 33 rfl) rfl (by decide) rfl ?_
  simp only [List.set_cons_succ, List.set_cons_zero]
  refine r_iconst (v := 0) (dk kX9_execute_p0 34 rfl) (by decide) ?_
  refine r_istore_n (j := 3) (dk kX9_execute_p0 35 rfl) rfl (by decide) rfl ?_
  simp only [List.set_cons_succ, List.set_cons_zero]
  -- at 62
  generalize hX3 : sI (sA X1 (h + 4) (va_cpy (mi M (h + 1)) (mi X1 (h + 4)) 0 0 219)) h 6 1 = X
  have rX : MR M h X := by rw [← hX3]; exact (rX1.sA _ (by omega)).sI _ _ (by omega)
  have bX : ∀ i, i < 219 → mi X (h + 4) i = mi M (h + 1) i := fun i hi => by rw [← hX3, mi_sI_n _ _ _ (by omega), mi_sA_s, va_cpy_lt hi]
  have nX : ∀ a, a ≠ h → a ≠ h + 4 → mi X a = mi X1 a := fun a h1 h2 => by rw [← hX3, mi_sI_n _ _ _ h1, mi_sA_n _ _ h2]
  have fX : ∀ i, i ≠ 6 → mi X h i = mi X1 h i := fun i h1 => by rw [← hX3, mi_sI_s, va_up_ne _ _ h1, mi_sA_n _ _ (by omega)]
  have fX6 : mi X h 6 = 1 := by rw [← hX3, mi_sI_s, va_up_self]
  clear hX3
  have fM : ∀ i, i ≠ 6 → i ≠ 7 → i ≠ 8 → i ≠ 14 → i ≠ 19 → i ≠ 21 → mi X h i = mi M h i := fun i h1 h2 h3 h4 h5 h7 => by rw [fX i h1, fX1 i h2 h3 h4 h5 h7]
  have fX14 : mi X h 14 = 0 := by rw [fX 14 (by decide), f14]
  have fX8 : mi X h 8 = 0 := by rw [fX 8 (by decide), f8]
  have fX21 : mi X h 21 = nI (tOK inp n).2.2 := by rw [fX 21 (by decide), f21]
  have gX : mi X (h + 1) = mi M (h + 1) := by rw [nX _ (by omega) (by omega), nX1 _ (by omega) (by omega)]
  have tX : mi X (h + 8) = tl := by rw [nX _ (by omega) (by omega), a8]
  have aX : ∀ a, a = h + 2 ∨ a = h + 3 ∨ a = h + 5 ∨ a = h + 6 → mi X a = mi M a := fun a ha => by rw [nX _ (by omega) (by omega), nX1 _ (by omega) (by omega)]
  exact k_ex_loop o gi hF hk hok hTold bX fX6 fM fX14 fX21 tX aX _ 0 X 0 (Nat.zero_add _) (fun z hz => absurd hz (Nat.not_lt_zero z)) rX gX (fun _ _ _ => rfl) (fun _ _ _ => rfl) fX8
end MODEL
