/-! THE CLASS: the reader's values -/
theorem rv_1 : ∀ d, d < 10 → nI (48 + d) - 48 = nI d := by decide +kernel
theorem rv_2 : ∀ a, a < 10 → ∀ d, d < 10 → nI a * 10 + nI (48 + d) - 48 = nI (10 * a + d) := by decide +kernel
theorem cC_v {inp : Nat → Int32} {n p : Nat} (h : qDg inp n p = true) : cC inp n p = nI (48 + qDv inp n p) := by
  obtain ⟨h1, -, h3⟩ := qDg_v h
  rw [← h1]
  unfold cC hC
  rw [if_pos h3, if_pos h3]
section CLASS
variable {G : GG} {M : Mm} {r b d : Nat}
/-- the reader r at place p, the command d with the ints f -/
def cCm (M : Mm) (r d p : Nat) (f : Nat → Int32) : Mm := sA (cRd M r p) d f
theorem cm_2 (M : Mm) {r d : Nat} (hd : r ≠ d) (p : Nat) (f : Nat → Int32) : mi (cCm M r d p f) r 2 = nI p := by
  unfold cCm
  rw [mi_sA_n _ _ hd, cr_2]
theorem cm_p (M : Mm) {r d : Nat} (hd : r ≠ d) (p q : Nat) (f : Nat → Int32) : sI (cCm M r d p f) r 2 (nI q) = cCm M r d q f := by
  unfold cCm
  rw [sI_A, mi_sA_n _ _ hd, sA_co _ _ _ (Ne.symm hd), ← sI_A, cr_p]
theorem cm_d (M : Mm) (r d p : Nat) (f : Nat → Int32) : mi (cCm M r d p f) d = f := mi_sA_s _ _ _
theorem LT.cm {n p : Nat} {inp f : Nat → Int32} (t : LT M b n inp) (hb : b ≠ r ∧ b + 1 ≠ r) (hd : b ≠ d ∧ b + 1 ≠ d) : LT (cCm M r d p f) b n inp := by
  obtain ⟨o, h1, h2, h3, h4⟩ := t.rd (p := p) hb
  exact ⟨o, by unfold cCm; rw [mi_sA_n _ _ hd.1]; exact h1, h2, fun k hk => by unfold cCm; rw [mi_sA_n _ _ hd.2]; exact h3 k hk, h4⟩
theorem k_X7_readValue (kr : kd M r = 7) (kc : kd M d = 1) {n : Nat} {inp f : Nat → Int32} (t : LT M b n inp) (hb : b ≠ r ∧ b + 1 ≠ r) (hd : b ≠ d ∧ b + 1 ≠ d) (hrd : r ≠ d) {p m : Nat} (hp : p ≤ n) (hm : m < 4) (h5 : f 5 = nI m) (two : Bool) : KE G IX7_readValue [.ref r, .ref b, .ref d, .int (bI (two = true))] (cCm M r d p f) (bI (qDg inp n p = true)) (if qDg inp n p = true then cCm M r d (qV inp n p two).2 (va_up (va_up f (1 + m) (nI (qV inp n p two).1)) 5 (nI (m + 1))) else cCm M r d p f) := by
  refine KK.ofW (by decide) (by simp [Value.category]) (Nat.le_of_ble_eq_true rfl) rfl ?_
  show WW _ _ _ 0 [_, _, _, _, lj] [] _ _ _
  have h60 := t.2.2.1
  have isD : ∀ q, bI (48 ≤ cC inp n q ∧ cC inp n q ≤ 57) = bI (qDg inp n q = true) := fun q => bI_cong (cC_dg inp n q)
  refine r_aload_n (dk kX7_readValue 0 rfl) rfl ?_
  refine r_aload_n (dk kX7_readValue 1 rfl) rfl ?_
  refine r_geti (dk kX7_readValue 2 rfl) fa_X7_18_6 kr rfl ?_
  -- at 5
  rw [cm_2 M hrd]
  refine r_callVp (I' := IX3_at) (as := [_]) (dk kX7_readValue 3 rfl) mv_X3_at ml_X7_38 rfl rfl t.1.1 rfl rfl (Nat.le_of_ble_eq_true rfl) ⟨by decide, by decide⟩ ⟨rfl, rfl⟩ ⟨Nat.le_of_ble_eq_true rfl, Nat.le_of_ble_eq_true rfl⟩ ((t.cm hb hd).at (by omega)) ?_
  refine r_callSp (I' := IX7_isDigit) (as := [_]) (dk kX7_readValue 4 rfl) ms_X7_isDigit ml_X7_92 rfl rfl rfl (Nat.le_of_ble_eq_true rfl) ⟨by decide, by decide⟩ ⟨rfl, rfl⟩ ⟨Nat.le_of_ble_eq_true rfl, Nat.le_of_ble_eq_true rfl⟩ (k_X7_isDigit _) ?_
  -- at 11
  rw [isD]
  by_cases h1 : qDg inp n p = true
  · rw [if_pos h1, bI_t h1]
    obtain ⟨-, v2, v3⟩ := qDg_v h1
    refine r_if_ne (tgt := 16) (dk kX7_readValue 5 rfl) (by decide) (fun c11 => ?_) (fun c11 => absurd (by decide) c11)
    refine r_aload_n (dk kX7_readValue 8 rfl) rfl ?_
    refine r_aload_n (dk kX7_readValue 9 rfl) rfl ?_
    refine r_geti (dk kX7_readValue 10 rfl) fa_X7_18_6 kr rfl ?_
    -- at 21
    rw [cm_2 M hrd]
    refine r_callVp (I' := IX3_at) (as := [_]) (dk kX7_readValue 11 rfl) mv_X3_at ml_X7_38 rfl rfl t.1.1 rfl rfl (Nat.le_of_ble_eq_true rfl) ⟨by decide, by decide⟩ ⟨rfl, rfl⟩ ⟨Nat.le_of_ble_eq_true rfl, Nat.le_of_ble_eq_true rfl⟩ ((t.cm hb hd).at (by omega)) ?_
    -- at 24
    rw [cC_v h1]
    refine r_bipush (v := 48) (dk kX7_readValue 12 rfl) (by decide) ?_
    refine r_isub (dk kX7_readValue 13 rfl) ?_
    -- at 27
    rw [rv_1 _ v2]
    refine r_istore (dk kX7_readValue 14 rfl) (by decide) rfl ?_
    simp only [List.set_cons_succ, List.set_cons_zero]
    refine r_aload_n (dk kX7_readValue 15 rfl) rfl ?_
    refine r_dup (dk kX7_readValue 16 rfl) rfl ?_
    refine r_geti (dk kX7_readValue 17 rfl) fa_X7_18_6 kr rfl ?_
    -- at 34
    rw [cm_2 M hrd]
    refine r_iconst (v := 1) (dk kX7_readValue 18 rfl) (by decide) ?_
    refine r_iadd (dk kX7_readValue 19 rfl) ?_
    -- at 36
    rw [show nI p + 1 = nI (p + 1) from nI_1 p]
    refine r_puti (dk kX7_readValue 20 rfl) fa_X7_18_6 kr rfl rfl rfl rfl ?_
    -- at 39
    rw [cm_p M hrd]
    have fin : ∀ v q, v < 100 → WW G IX7_readValue (qi (fun y M' => y = 1 ∧ M' = cCm M r d q (va_up (va_up f (1 + m) (nI v)) 5 (nI (m + 1)))) nox) 86 [.ref r, .ref b, .ref d, .int (bI (two = true)), .int (nI v)] [] (cCm M r d q f) 0 0 := by
      intro v q hv
      refine r_aload_n (dk kX7_readValue 46 rfl) rfl ?_
      refine r_iload (dk kX7_readValue 47 rfl) rfl ?_
      refine r_callVu (I' := IX1_add) (as := [_]) (dk kX7_readValue 48 rfl) mv_X1_add ml_X7_96 rfl rfl kc rfl rfl (Nat.le_of_ble_eq_true rfl) ⟨by decide, by decide⟩ ⟨rfl, rfl⟩ ⟨Nat.le_of_ble_eq_true rfl, Nat.le_of_ble_eq_true rfl⟩ (k_X1_add (M := cCm M r d q f) kc hm (by rw [cm_d]; exact h5) _) ?_
      refine r_iconst (v := 1) (dk kX7_readValue 49 rfl) (by decide) ?_
      refine r_ireturn (dk kX7_readValue 50 rfl) rfl rfl ⟨Nat.le_of_ble_eq_true rfl, Nat.le_of_ble_eq_true rfl⟩ ⟨rfl, ?_⟩
      unfold cCm
      rw [sI_sA, sI_sA]
    cases two with
    | false =>
      refine r_iload_n (dk kX7_readValue 21 rfl) rfl ?_
      refine r_if_eq (tgt := 86) (dk kX7_readValue 22 rfl) (by decide) (fun c40 => ?_) (fun c40 => absurd (by decide) c40)
      -- at 86
      exact fin _ _ (by show qDv inp n p < 100; omega)
    | true =>
      refine r_iload_n (dk kX7_readValue 21 rfl) rfl ?_
      refine r_if_eq (tgt := 86) (dk kX7_readValue 22 rfl) (by decide) (fun c40 => absurd c40 (by decide)) (fun c40 => ?_)
      refine r_aload_n (dk kX7_readValue 23 rfl) rfl ?_
      refine r_aload_n (dk kX7_readValue 24 rfl) rfl ?_
      refine r_geti (dk kX7_readValue 25 rfl) fa_X7_18_6 kr rfl ?_
      -- at 48
      rw [cm_2 M hrd]
      refine r_callVp (I' := IX3_at) (as := [_]) (dk kX7_readValue 26 rfl) mv_X3_at ml_X7_38 rfl rfl t.1.1 rfl rfl (Nat.le_of_ble_eq_true rfl) ⟨by decide, by decide⟩ ⟨rfl, rfl⟩ ⟨Nat.le_of_ble_eq_true rfl, Nat.le_of_ble_eq_true rfl⟩ ((t.cm hb hd).at (by omega)) ?_
      refine r_callSp (I' := IX7_isDigit) (as := [_]) (dk kX7_readValue 27 rfl) ms_X7_isDigit ml_X7_92 rfl rfl rfl (Nat.le_of_ble_eq_true rfl) ⟨by decide, by decide⟩ ⟨rfl, rfl⟩ ⟨Nat.le_of_ble_eq_true rfl, Nat.le_of_ble_eq_true rfl⟩ (k_X7_isDigit _) ?_
      -- at 54
      rw [isD]
      by_cases h2 : qDg inp n (p + 1) = true
      · obtain ⟨-, w2, w3⟩ := qDg_v h2
        rw [bI_t h2, show qV inp n p true = (10 * qDv inp n p + qDv inp n (p + 1), p + 2) by unfold qV; rw [h2]; rfl]
        refine r_if_eq (tgt := 86) (dk kX7_readValue 28 rfl) (by decide) (fun c54 => absurd c54 (by decide)) (fun c54 => ?_)
        refine r_iload (dk kX7_readValue 29 rfl) rfl ?_
        refine r_bipush (v := 10) (dk kX7_readValue 30 rfl) (by decide) ?_
        refine r_imul (dk kX7_readValue 31 rfl) ?_
        refine r_aload_n (dk kX7_readValue 32 rfl) rfl ?_
        refine r_aload_n (dk kX7_readValue 33 rfl) rfl ?_
        refine r_geti (dk kX7_readValue 34 rfl) fa_X7_18_6 kr rfl ?_
        -- at 67
        rw [cm_2 M hrd]
        refine r_callVp (I' := IX3_at) (as := [_]) (dk kX7_readValue 35 rfl) mv_X3_at ml_X7_38 rfl rfl t.1.1 rfl rfl (Nat.le_of_ble_eq_true rfl) ⟨by decide, by decide⟩ ⟨rfl, rfl⟩ ⟨Nat.le_of_ble_eq_true rfl, Nat.le_of_ble_eq_true rfl⟩ ((t.cm hb hd).at (by omega)) ?_
        -- at 70
        rw [cC_v h2]
        refine r_iadd (dk kX7_readValue 36 rfl) ?_
        refine r_bipush (v := 48) (dk kX7_readValue 37 rfl) (by decide) ?_
        refine r_isub (dk kX7_readValue 38 rfl) ?_
        -- at 74
        rw [rv_2 _ v2 _ w2]
        refine r_istore (dk kX7_readValue 39 rfl) (by decide) rfl ?_
        simp only [List.set_cons_succ, List.set_cons_zero]
        refine r_aload_n (dk kX7_readValue 40 rfl) rfl ?_
        refine r_dup (dk kX7_readValue 41 rfl) rfl ?_
        refine r_geti (dk kX7_readValue 42 rfl) fa_X7_18_6 kr rfl ?_
        -- at 81
        rw [cm_2 M hrd]
        refine r_iconst (v := 1) (dk kX7_readValue 43 rfl) (by decide) ?_
        refine r_iadd (dk kX7_readValue 44 rfl) ?_
        -- at 83
        rw [show nI (p + 1) + 1 = nI (p + 2) from nI_1 _]
        refine r_puti (dk kX7_readValue 45 rfl) fa_X7_18_6 kr rfl rfl rfl rfl ?_
        -- at 86
        rw [cm_p M hrd]
        exact fin _ _ (by omega)
      · rw [bI_f h2, show qV inp n p true = (qDv inp n p, p + 1) by unfold qV; rw [Bool.not_eq_true] at h2; rw [h2]; rfl]
        refine r_if_eq (tgt := 86) (dk kX7_readValue 28 rfl) (by decide) (fun c54 => ?_) (fun c54 => absurd (by decide) c54)
        -- at 86
        exact fin _ _ (by omega)
  · rw [if_neg h1, bI_f h1]
    refine r_if_ne (tgt := 16) (dk kX7_readValue 5 rfl) (by decide) (fun c11 => absurd c11 (by exact fun z => z rfl)) (fun c11 => ?_)
    refine r_iconst (v := 0) (dk kX7_readValue 6 rfl) (by decide) ?_
    refine r_ireturn (dk kX7_readValue 7 rfl) rfl rfl ⟨Nat.le_of_ble_eq_true rfl, Nat.le_of_ble_eq_true rfl⟩ ⟨rfl, rfl⟩
end CLASS
