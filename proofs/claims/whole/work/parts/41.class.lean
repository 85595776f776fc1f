/-! THE CLASS: numbers on a line -/
theorem dgN_st : ∀ z n, n < 10 ^ (z + 1) → dgN (z + 1) n = dgN z n
  | 0, n, h => by
    have h : n < 10 := h
    show (if 9 < n then _ else 1) = 1
    rw [if_neg (by omega)]
  | z + 1, n, h => by
    show (if 9 < n then dgN (z + 1) (n / 10) + 1 else 1) = (if 9 < n then dgN z (n / 10) + 1 else 1)
    rw [dgN_st z (n / 10) (by rw [Nat.div_lt_iff_lt_mul (by decide)]; exact h)]
def dg0 (z r : Nat) : Nat := if r = 0 then 0 else dgN z r
theorem dg0_s (z r : Nat) (h : r ≠ 0) : dg0 (z + 1) r = 1 + dg0 z (r / 10) := by
  unfold dg0
  rw [if_neg h]
  show (if 9 < r then dgN z (r / 10) + 1 else 1) = _
  by_cases h9 : 9 < r
  · rw [if_pos h9, if_neg (by omega), Nat.add_comm]
  · rw [if_neg h9, if_pos (by omega)]
theorem dg0_n (z n : Nat) : 1 + dg0 z (n / 10) = dgN (z + 1) n := by
  unfold dg0
  show _ = (if 9 < n then dgN z (n / 10) + 1 else 1)
  by_cases h9 : 9 < n
  · rw [if_pos h9, if_neg (by omega), Nat.add_comm]
  · rw [if_neg h9, if_pos (by omega)]
theorem s60 : ∀ s, s ≤ 60 → (60 : Int32) - nI s = nI (60 - s) := by decide +kernel
theorem dgN_pos : ∀ z n, 1 ≤ dgN z n
  | 0, _ => Nat.le_refl _
  | z + 1, n => by
    show 1 ≤ (if 9 < n then dgN z (n / 10) + 1 else 1)
    split
    · exact Nat.le_add_left _ _
    · exact Nat.le_refl _
theorem fD_step (f : Nat → Int32) (s D n d : Nat) (hd : d < D) : va_up (fun i => if s + (d + 1) ≤ i ∧ i < s + D then nI (48 + n / 10 ^ (s + D - 1 - i) % 10) else f i) (s + d) (nI (48 + n / 10 ^ (D - (d + 1)) % 10)) = (fun i => if s + d ≤ i ∧ i < s + D then nI (48 + n / 10 ^ (s + D - 1 - i) % 10) else f i) := by
  funext i
  by_cases hi : i = s + d
  · rw [hi, va_up_self, if_pos (by omega), show s + D - 1 - (s + d) = D - (d + 1) by omega]
  · rw [va_up_ne _ _ hi]
    by_cases h2 : s + (d + 1) ≤ i ∧ i < s + D
    · rw [if_pos h2, if_pos (by omega)]
    · rw [if_neg h2, if_neg (by omega)]
section CLASS
variable {G : GG} {M : Mm} {a : Nat}
theorem k_X3_digits (o : LO M a) {n : Nat} {Q : QQ} : ∀ z r d, r < 10 ^ z → r < 2 ^ 30 → d + z < 100 → WW G IX3_putNumber Q 22 [.ref a, .int (nI n), .int (nI (d + dg0 z r)), .int 0, lj] [] M 0 0 → WW G IX3_putNumber Q 7 [.ref a, .int (nI n), .int (nI d), .int (nI r), lj] [] M 0 0 := by
  intro z
  induction z with
  | zero =>
    intro r d hr h30 hd hend
    have hr : r < 1 := hr
    have hr0 : r = 0 := by omega
    subst hr0
    refine r_iload_n (dk kX3_putNumber 6 rfl) rfl ?_
    refine r_if_le (tgt := 22) (dk kX3_putNumber 7 rfl) (by decide) (fun c8 => ?_) (fun c8 => absurd (by decide) c8)
    -- at 22
    exact hend
  | succ z ih =>
    intro r d hr h30 hd hend
    by_cases h0 : r = 0
    · subst h0
      refine r_iload_n (dk kX3_putNumber 6 rfl) rfl ?_
      refine r_if_le (tgt := 22) (dk kX3_putNumber 7 rfl) (by decide) (fun c8 => ?_) (fun c8 => absurd (by decide) c8)
      -- at 22
      exact hend
    · refine r_iload_n (dk kX3_putNumber 6 rfl) rfl ?_
      refine r_if_le (tgt := 22) (dk kX3_putNumber 7 rfl) (by decide) (fun c8 => absurd c8 (by exact Int32.not_le.mpr (nI_lt (a := 0) (b := r) (by omega) (by omega)))) (fun c8 => ?_)
      refine r_iinc (dk kX3_putNumber 8 rfl) (by decide) rfl rfl rfl ?_
      simp only [List.set_cons_succ, List.set_cons_zero]
      refine r_iload_n (dk kX3_putNumber 9 rfl) rfl ?_
      refine r_bipush (v := 10) (dk kX3_putNumber 10 rfl) (by decide) ?_
      refine r_idiv (dk kX3_putNumber 11 rfl) (by decide) ?_
      -- at 18
      rw [show nI r / 10 = nI (r / 10) from pk_div (d := 10) (show r < 2 ^ 31 by omega) (by decide) (by decide), show nI d + Int32.ofInt 1 = nI (d + 1) from nI_1 d]
      refine r_istore_n (j := 3) (dk kX3_putNumber 12 rfl) rfl (by decide) rfl ?_
      simp only [List.set_cons_succ, List.set_cons_zero]
      refine r_goto (tgt := 7) (dk kX3_putNumber 13 rfl) (by decide) ?_
      -- at 7
      refine ih (r / 10) (d + 1) (by rw [Nat.div_lt_iff_lt_mul (by decide)]; exact hr) (by omega) (by omega) ?_
      rw [show d + 1 + dg0 z (r / 10) = d + dg0 (z + 1) r by rw [dg0_s z r h0, Nat.add_assoc]]
      exact hend
theorem k_X3_putNumber (o : LO M a) {l : LN} {n : Nat} (hn : n < 2 ^ 30) (hl : l.2 + dgN 9 n ≤ 60) : KU G IX3_putNumber [.ref a, .int (nI n)] (cLn M a l) (cLn M a (lNum l 9 n)) := by
  refine KK.ofW (by decide) (by simp [Value.category]) (Nat.le_of_ble_eq_true rfl) rfl ?_
  show WW _ _ _ 0 [_, _, lj, lj, lj] [] _ _ _
  have hD1 := dgN_pos 9 n
  refine r_iconst (v := 1) (dk kX3_putNumber 0 rfl) (by decide) ?_
  refine r_istore_n (j := 2) (dk kX3_putNumber 1 rfl) rfl (by decide) rfl ?_
  simp only [List.set_cons_succ, List.set_cons_zero]
  refine r_iload_n (dk kX3_putNumber 2 rfl) rfl ?_
  refine r_bipush (v := 10) (dk kX3_putNumber 3 rfl) (by decide) ?_
  refine r_idiv (dk kX3_putNumber 4 rfl) (by decide) ?_
  -- at 6
  rw [show nI n / 10 = nI (n / 10) from pk_div (d := 10) (show n < 2 ^ 31 by omega) (by decide) (by decide)]
  refine r_istore_n (j := 3) (dk kX3_putNumber 5 rfl) rfl (by decide) rfl ?_
  simp only [List.set_cons_succ, List.set_cons_zero]
  -- at 7
  refine k_X3_digits (M := cLn M a l) o 9 (n / 10) 1 (by omega) (by omega) (by decide) ?_
  rw [show 1 + dg0 9 (n / 10) = dgN 9 n from (dg0_n 9 n).trans (dgN_st 9 n (by omega)), lNum_fD]
  generalize dgN 9 n = D at *
  obtain ⟨f, s⟩ := l
  have hl : s + D ≤ 60 := hl
  refine r_iload_n (dk kX3_putNumber 14 rfl) rfl ?_
  refine r_bipush (v := 60) (dk kX3_putNumber 15 rfl) (by decide) ?_
  refine r_aload_n (dk kX3_putNumber 16 rfl) rfl ?_
  refine r_geti (dk kX3_putNumber 17 rfl) fa_X3_15_2 o.1 rfl ?_
  -- at 29
  rw [cl_1]
  refine r_isub (dk kX3_putNumber 18 rfl) ?_
  -- at 30
  rw [show (60 : Int32) - nI ((f, s) : LN).2 = nI (60 - s) from s60 s (by omega)]
  refine r_icmp_le (tgt := 34) (dk kX3_putNumber 19 rfl) (by decide) (fun c30 => ?_) (fun c30 => absurd (nI_le (by omega) (by omega)) c30)
  refine r_iload_n (dk kX3_putNumber 21 rfl) rfl ?_
  refine r_istore_n (j := 3) (dk kX3_putNumber 22 rfl) rfl (by decide) rfl ?_
  simp only [List.set_cons_succ, List.set_cons_zero]
  refine r_aload_n (dk kX3_putNumber 23 rfl) rfl ?_
  refine r_geti (dk kX3_putNumber 24 rfl) fa_X3_15_2 o.1 rfl ?_
  -- at 40
  rw [cl_1]
  refine r_iload_n (dk kX3_putNumber 25 rfl) rfl ?_
  refine r_iadd (dk kX3_putNumber 26 rfl) ?_
  -- at 42
  rw [show nI ((f, s) : LN).2 + nI D = nI (s + D) from nI_add s D]
  refine r_iconst (v := 1) (dk kX3_putNumber 27 rfl) (by decide) ?_
  refine r_isub (dk kX3_putNumber 28 rfl) ?_
  refine r_istore (dk kX3_putNumber 29 rfl) (by decide) rfl ?_
  simp only [List.set_cons_succ, List.set_cons_zero]
  -- at 46
  have hm1 : ∀ x : Nat, nI x + Int32.ofInt (-1) = nI x - 1 := fun x => (Int32.sub_eq_add_neg (nI x) 1).symm
  suffices key : ∀ d, d ≤ D → WW G IX3_putNumber (qv (fun M' => M' = cLn M a (fD f s D n, s + D)) nox) 46 [.ref a, .int (nI n), .int (nI D), .int (nI (n / 10 ^ (D - d))), .int (nI (s + d) - 1)] [] (cLn M a (fun i => if s + d ≤ i ∧ i < s + D then nI (48 + n / 10 ^ (s + D - 1 - i) % 10) else f i, s)) 0 0 by
    have h0 := key D (Nat.le_refl _)
    rw [Nat.sub_self, Nat.pow_zero, Nat.div_one, show (fun i => if s + D ≤ i ∧ i < s + D then nI (48 + n / 10 ^ (s + D - 1 - i) % 10) else f i) = f from funext fun i => if_neg (by omega)] at h0
    exact h0
  intro d
  induction d with
  | zero =>
    intro _
    have hz : nI (s + 0) - 1 < nI s := by
      cases s with
      | zero => decide
      | succ s =>
        rw [show nI (s + 1 + 0) - 1 = nI s from nI_pred s]
        exact nI_lt (by omega) (by omega)
    refine r_iload (dk kX3_putNumber 30 rfl) rfl ?_
    refine r_aload_n (dk kX3_putNumber 31 rfl) rfl ?_
    refine r_geti (dk kX3_putNumber 32 rfl) fa_X3_15_2 o.1 rfl ?_
    -- at 52
    rw [cl_1]
    refine r_icmp_lt (tgt := 81) (dk kX3_putNumber 33 rfl) (by decide) (fun c52 => ?_) (fun c52 => absurd hz c52)
    refine r_aload_n (dk kX3_putNumber 50 rfl) rfl ?_
    refine r_dup (dk kX3_putNumber 51 rfl) rfl ?_
    refine r_geti (dk kX3_putNumber 52 rfl) fa_X3_15_2 o.1 rfl ?_
    -- at 86
    rw [cl_1]
    refine r_iload_n (dk kX3_putNumber 53 rfl) rfl ?_
    refine r_iadd (dk kX3_putNumber 54 rfl) ?_
    -- at 88
    rw [show ∀ g : Nat → Int32, nI ((g, s) : LN).2 + nI D = nI (s + D) from fun _ => nI_add s D]
    refine r_puti (dk kX3_putNumber 55 rfl) fa_X3_15_2 o.1 rfl rfl rfl rfl ?_
    refine r_return (dk kX3_putNumber 56 rfl) rfl ⟨Nat.le_of_ble_eq_true rfl, Nat.le_of_ble_eq_true rfl⟩ ?_
    unfold cLn
    rw [sI_sA, va_up_up]
    rfl
  | succ d ih =>
    intro hd
    generalize hr : n / 10 ^ (D - (d + 1)) = r
    have hr30 : r < 2 ^ 30 := by rw [← hr]; exact Nat.lt_of_le_of_lt (Nat.div_le_self _ _) hn
    rw [show nI (s + (d + 1)) - 1 = nI (s + d) from nI_pred (s + d)]
    refine r_iload (dk kX3_putNumber 30 rfl) rfl ?_
    refine r_aload_n (dk kX3_putNumber 31 rfl) rfl ?_
    refine r_geti (dk kX3_putNumber 32 rfl) fa_X3_15_2 o.1 rfl ?_
    -- at 52
    rw [cl_1]
    refine r_icmp_lt (tgt := 81) (dk kX3_putNumber 33 rfl) (by decide) (fun c52 => absurd c52 (by exact Int32.not_lt.mpr (nI_le (by show s ≤ s + d; omega) (by omega)))) (fun c52 => ?_)
    refine r_aload_n (dk kX3_putNumber 34 rfl) rfl ?_
    refine r_getR (dk kX3_putNumber 35 rfl) fa_X3_9_2 o.1 rfl o.2.2.2 ?_
    refine r_iload (dk kX3_putNumber 36 rfl) rfl ?_
    refine r_bipush (v := 48) (dk kX3_putNumber 37 rfl) (by decide) ?_
    refine r_iload_n (dk kX3_putNumber 38 rfl) rfl ?_
    refine r_bipush (v := 10) (dk kX3_putNumber 39 rfl) (by decide) ?_
    refine r_irem (dk kX3_putNumber 40 rfl) (by decide) ?_
    refine r_iadd (dk kX3_putNumber 41 rfl) ?_
    -- at 68
    rw [show (48 : Int32) + (nI r - nI r / 10 * 10) = nI (48 + r % 10) by rw [show nI r - nI r / 10 * 10 = nI (r % 10) from pk_rem (d := 10) (show r < 2 ^ 31 by omega) (by decide) (by decide), show (48 : Int32) = nI 48 from rfl, nI_add]]
    refine r_i2c (dk kX3_putNumber 42 rfl) ?_
    refine r_cas (dk kX3_putNumber 43 rfl) o.2.1 o.2.2.1 (j := s + d) rfl (by omega) (by decide) ?_
    -- at 70
    rw [ch_i2c (48 + r % 10) (by omega)]
    refine r_iload_n (dk kX3_putNumber 44 rfl) rfl ?_
    refine r_bipush (v := 10) (dk kX3_putNumber 45 rfl) (by decide) ?_
    refine r_idiv (dk kX3_putNumber 46 rfl) (by decide) ?_
    -- at 74
    rw [show nI r / 10 = nI (r / 10) from pk_div (d := 10) (show r < 2 ^ 31 by omega) (by decide) (by decide)]
    refine r_istore_n (j := 3) (dk kX3_putNumber 47 rfl) rfl (by decide) rfl ?_
    simp only [List.set_cons_succ, List.set_cons_zero]
    refine r_iinc (dk kX3_putNumber 48 rfl) (by decide) rfl rfl rfl ?_
    simp only [List.set_cons_succ, List.set_cons_zero]
    refine r_goto (tgt := 46) (dk kX3_putNumber 49 rfl) (by decide) ?_
    -- at 46
    rw [hm1]
    have e1 : r / 10 = n / 10 ^ (D - d) := by rw [← hr, Nat.div_div_eq_div_mul, ← Nat.pow_succ, show (D - (d + 1)).succ = D - d by omega]
    have e2 : ∀ g, sI (cLn M a (g, s)) (a + 1) (s + d) (nI (48 + r % 10)) = cLn M a (va_up g (s + d) (nI (48 + r % 10)), s) := fun g => by
      unfold cLn
      rw [sA_co _ _ _ (show a + 1 ≠ a by omega), sI_sA, sA_co _ _ _ (show a ≠ a + 1 by omega)]
    rw [e1, e2, ← hr, fD_step f s D n d (by omega)]
    exact ih (by omega)
end CLASS
