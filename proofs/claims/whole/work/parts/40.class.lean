/-! THE CLASS: lines of signs -/
/-- a Line object at a, its signs at a + 1 -/
def LO (M : Mm) (a : Nat) : Prop := kd M a = 3 ∧ kd M (a + 1) = 21 ∧ ln M (a + 1) = 60 ∧ mr M a 0 = some (a + 1)
/-- .. holding the line l -/
def cLn (M : Mm) (a : Nat) (l : LN) : Mm := sA (sA M (a + 1) l.1) a (va_up (mi M a) 1 (nI l.2))
theorem cl_1 (M : Mm) (a : Nat) (l : LN) : mi (cLn M a l) a 1 = nI l.2 := by
  unfold cLn
  rw [mi_sA_s, va_up_self]
theorem cl_c (M : Mm) (a : Nat) (l : LN) : mi (cLn M a l) (a + 1) = l.1 := by
  unfold cLn
  rw [mi_sA_n _ _ (by omega), mi_sA_s]
theorem cl_put (M : Mm) (a : Nat) (l : LN) (c : Int32) : sI (sI (cLn M a l) (a + 1) l.2 c) a 1 (nI (l.2 + 1)) = cLn M a (lPut l c) := by
  unfold cLn lPut
  rw [sA_co _ _ _ (show a + 1 ≠ a by omega), sI_sA, sA_co _ _ _ (show a ≠ a + 1 by omega), sI_sA, va_up_up]
theorem cl_self {M : Mm} {a n : Nat} (h : mi M a 1 = nI n) : cLn M a (mi M (a + 1), n) = M := by
  unfold cLn
  rw [sA_eq, ← h, va_up_eq, sA_eq]
section CLASS
variable {G : GG} {M : Mm} {a : Nat}
theorem k_X3_clear (o : LO M a) : KU G IX3_clear [.ref a] M (sI M a 1 0) := by
  refine KK.ofW (by decide) (by simp [Value.category]) (Nat.le_of_ble_eq_true rfl) rfl ?_
  show WW _ _ _ 0 [_] [] _ _ _
  refine r_aload_n (dk kX3_clear 0 rfl) rfl ?_
  refine r_iconst (v := 0) (dk kX3_clear 1 rfl) (by decide) ?_
  refine r_puti (dk kX3_clear 2 rfl) fa_X3_15_2 o.1 rfl rfl rfl rfl ?_
  refine r_return (dk kX3_clear 3 rfl) rfl ⟨Nat.le_of_ble_eq_true rfl, Nat.le_of_ble_eq_true rfl⟩ rfl
theorem k_X3_put (o : LO M a) {l : LN} (hl : l.2 ≤ 60) {c : Int32} (hc : vp_nar .char c = c) : KU G IX3_put [.ref a, .int c] (cLn M a l) (cLn M a (if l.2 < 60 then lPut l c else l)) := by
  refine KK.ofW (by decide) (by simp [Value.category]) (Nat.le_of_ble_eq_true rfl) rfl ?_
  show WW _ _ _ 0 [_, _] [] _ _ _
  refine r_aload_n (dk kX3_put 0 rfl) rfl ?_
  refine r_geti (dk kX3_put 1 rfl) fa_X3_15_2 o.1 rfl ?_
  -- at 4
  rw [cl_1]
  by_cases h : l.2 < 60
  · rw [if_pos h]
    refine r_bipush (v := 60) (dk kX3_put 2 rfl) (by decide) ?_
    refine r_icmp_ge (tgt := 29) (dk kX3_put 3 rfl) (by decide) (fun c6 => absurd c6 (by exact fun z => absurd ((nI_leI (a := 60) (b := l.2) (by decide) (by omega)).mp z) (by omega))) (fun c6 => ?_)
    refine r_aload_n (dk kX3_put 4 rfl) rfl ?_
    refine r_getR (dk kX3_put 5 rfl) fa_X3_9_2 o.1 rfl o.2.2.2 ?_
    refine r_aload_n (dk kX3_put 6 rfl) rfl ?_
    refine r_geti (dk kX3_put 7 rfl) fa_X3_15_2 o.1 rfl ?_
    -- at 17
    rw [cl_1]
    refine r_iload_n (dk kX3_put 8 rfl) rfl ?_
    refine r_cas (dk kX3_put 9 rfl) o.2.1 o.2.2.1 (j := l.2) rfl h (by decide) ?_
    -- at 19
    rw [hc]
    refine r_aload_n (dk kX3_put 10 rfl) rfl ?_
    refine r_dup (dk kX3_put 11 rfl) rfl ?_
    refine r_geti (dk kX3_put 12 rfl) fa_X3_15_2 o.1 rfl ?_
    -- at 24
    rw [mi_sI_n _ _ _ (show a ≠ a + 1 by omega), cl_1]
    refine r_iconst (v := 1) (dk kX3_put 13 rfl) (by decide) ?_
    refine r_iadd (dk kX3_put 14 rfl) ?_
    -- at 26
    rw [show nI l.2 + 1 = nI (l.2 + 1) from nI_1 _]
    refine r_puti (dk kX3_put 15 rfl) fa_X3_15_2 o.1 rfl rfl rfl rfl ?_
    refine r_return (dk kX3_put 16 rfl) rfl ⟨Nat.le_of_ble_eq_true rfl, Nat.le_of_ble_eq_true rfl⟩ (cl_put _ _ _ _)
  · rw [if_neg h]
    refine r_bipush (v := 60) (dk kX3_put 2 rfl) (by decide) ?_
    refine r_icmp_ge (tgt := 29) (dk kX3_put 3 rfl) (by decide) (fun c6 => ?_) (fun c6 => absurd (nI_le (a := 60) (by omega) (by omega)) c6)
    refine r_return (dk kX3_put 16 rfl) rfl ⟨Nat.le_of_ble_eq_true rfl, Nat.le_of_ble_eq_true rfl⟩ rfl
theorem k_X3_at (o : LO M a) {n : Nat} (hn : mi M a 1 = nI n) (h60 : n ≤ 60) (hch : ∀ k, k < n → narrow .char (.int (mi M (a + 1) k)) = .int (mi M (a + 1) k)) {p : Nat} (hp : p < 2 ^ 30) : KP G IX3_at [.ref a, .int (nI p)] M (if p < n then mi M (a + 1) p else 0) := by
  refine KK.ofW (by decide) (by simp [Value.category]) (Nat.le_of_ble_eq_true rfl) rfl ?_
  show WW _ _ _ 0 [_, _] [] _ _ _
  refine r_iload_n (dk kX3_at 0 rfl) rfl ?_
  refine r_if_lt (tgt := 21) (dk kX3_at 1 rfl) (by decide) (fun c1 => absurd c1 (nI_pos (by omega))) (fun c1 => ?_)
  refine r_iload_n (dk kX3_at 2 rfl) rfl ?_
  refine r_aload_n (dk kX3_at 3 rfl) rfl ?_
  refine r_geti (dk kX3_at 4 rfl) fa_X3_15_2 o.1 rfl ?_
  -- at 9
  rw [hn]
  by_cases h : p < n
  · rw [if_pos h]
    refine r_icmp_ge (tgt := 21) (dk kX3_at 5 rfl) (by decide) (fun c9 => absurd c9 (nI_ge h (by omega))) (fun c9 => ?_)
    refine r_aload_n (dk kX3_at 6 rfl) rfl ?_
    refine r_getR (dk kX3_at 7 rfl) fa_X3_9_2 o.1 rfl o.2.2.2 ?_
    refine r_iload_n (dk kX3_at 8 rfl) rfl ?_
    refine r_cal (dk kX3_at 9 rfl) o.2.1 o.2.2.1 (j := p) rfl (by omega) (by decide) ?_
    refine r_goto (tgt := 22) (dk kX3_at 10 rfl) (by decide) ?_
    refine r_ireturn (dk kX3_at 12 rfl) rfl (hch p h) ⟨Nat.le_of_ble_eq_true rfl, Nat.le_of_ble_eq_true rfl⟩ ⟨rfl, rfl⟩
  · rw [if_neg h]
    refine r_icmp_ge (tgt := 21) (dk kX3_at 5 rfl) (by decide) (fun c9 => ?_) (fun c9 => absurd (nI_le (by omega) (by omega)) c9)
    refine r_iconst (v := 0) (dk kX3_at 11 rfl) (by decide) ?_
    refine r_ireturn (dk kX3_at 12 rfl) rfl rfl ⟨Nat.le_of_ble_eq_true rfl, Nat.le_of_ble_eq_true rfl⟩ ⟨rfl, rfl⟩
end CLASS
/-! digits -/
/-- how many digits -/
def dgN : Nat → Nat → Nat
  | 0, _ => 1
  | z + 1, n => if 9 < n then dgN z (n / 10) + 1 else 1
/-- f with the d digits of n from s on -/
def fD (f : Nat → Int32) (s d n : Nat) : Nat → Int32 := fun i => if s ≤ i ∧ i < s + d then nI (48 + n / 10 ^ (s + d - 1 - i) % 10) else f i
theorem lNum_fD (l : LN) : ∀ z n, lNum l z n = (fD l.1 l.2 (dgN z n) n, l.2 + dgN z n)
  | 0, n => by
    show (va_up l.1 l.2 (nI (48 + n % 10)), l.2 + 1) = _
    refine Prod.ext ?_ rfl
    funext i
    show va_up l.1 l.2 (nI (48 + n % 10)) i = fD l.1 l.2 1 n i
    unfold fD
    by_cases hi : i = l.2
    · rw [hi, va_up_self, if_pos (by omega), show l.2 + 1 - 1 - l.2 = 0 by omega, Nat.pow_zero, Nat.div_one]
    · rw [va_up_ne _ _ hi, if_neg (by omega)]
  | z + 1, n => by
    show lPut (if 9 < n then lNum l z (n / 10) else l) (nI (48 + n % 10)) = _
    by_cases h9 : 9 < n
    · rw [if_pos h9, lNum_fD l z (n / 10), show dgN (z + 1) n = dgN z (n / 10) + 1 from if_pos h9]
      refine Prod.ext ?_ rfl
      funext i
      show va_up (fD l.1 l.2 (dgN z (n / 10)) (n / 10)) (l.2 + dgN z (n / 10)) (nI (48 + n % 10)) i = fD l.1 l.2 (dgN z (n / 10) + 1) n i
      generalize dgN z (n / 10) = d
      unfold fD
      by_cases hi : i = l.2 + d
      · rw [hi, va_up_self, if_pos (by omega), show l.2 + (d + 1) - 1 - (l.2 + d) = 0 by omega, Nat.pow_zero, Nat.div_one]
      · rw [va_up_ne _ _ hi]
        by_cases h2 : l.2 ≤ i ∧ i < l.2 + d
        · rw [if_pos h2, if_pos (by omega), show l.2 + (d + 1) - 1 - i = (l.2 + d - 1 - i) + 1 by omega, Nat.pow_succ, Nat.mul_comm, ← Nat.div_div_eq_div_mul]
        · rw [if_neg h2, if_neg (by omega)]
    · rw [if_neg h9, show dgN (z + 1) n = 1 from if_neg h9]
      refine Prod.ext ?_ rfl
      funext i
      show va_up l.1 l.2 (nI (48 + n % 10)) i = fD l.1 l.2 1 n i
      unfold fD
      by_cases hi : i = l.2
      · rw [hi, va_up_self, if_pos (by omega), show l.2 + 1 - 1 - l.2 = 0 by omega, Nat.pow_zero, Nat.div_one]
      · rw [va_up_ne _ _ hi, if_neg (by omega)]
