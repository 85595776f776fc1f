/-! THE CLASS: the reader's signs and values -/
section CLASS
variable {G : GG} {M : Mm} {r b : Nat}
/-- the reader r at place p -/
def cRd (M : Mm) (r p : Nat) : Mm := sI M r 2 (nI p)
theorem cr_2 (M : Mm) (r p : Nat) : mi (cRd M r p) r 2 = nI p := by
  unfold cRd
  rw [mi_sI_s, va_up_self]
theorem cr_n (M : Mm) (r p : Nat) {a : Nat} (ha : a ≠ r) : mi (cRd M r p) a = mi M a := mi_sI_n _ _ _ ha
theorem cr_p (M : Mm) (r p q : Nat) : sI (cRd M r p) r 2 (nI q) = cRd M r q := by
  unfold cRd
  rw [sI_A, mi_sI_s, va_up_up, sI_A, sI_A, sA_A]
theorem LT.rd {n p : Nat} {inp : Nat → Int32} (t : LT M b n inp) (hb : b ≠ r ∧ b + 1 ≠ r) : LT (cRd M r p) b n inp := by
  obtain ⟨o, h1, h2, h3, h4⟩ := t
  exact ⟨o, by rw [cr_n _ _ _ hb.1]; exact h1, h2, fun k hk => by rw [cr_n _ _ _ hb.2]; exact h3 k hk, h4⟩
theorem k_X7_readSign (kr : kd M r = 7) {n : Nat} {inp : Nat → Int32} (t : LT M b n inp) (hb : b ≠ r ∧ b + 1 ≠ r) {p : Nat} (hp : p ≤ n) (c : Int32) : KE G IX7_readSign [.ref r, .ref b, .int c] (cRd M r p) (bI (cC inp n p = c)) (cRd M r (if cC inp n p = c then p + 1 else p)) := by
  refine KK.ofW (by decide) (by simp [Value.category]) (Nat.le_of_ble_eq_true rfl) rfl ?_
  show WW _ _ _ 0 [_, _, _] [] _ _ _
  have h60 := t.2.2.1
  refine r_aload_n (dk kX7_readSign 0 rfl) rfl ?_
  refine r_aload_n (dk kX7_readSign 1 rfl) rfl ?_
  refine r_geti (dk kX7_readSign 2 rfl) fa_X7_18_6 kr rfl ?_
  -- at 5
  rw [cr_2]
  refine r_callVp (I' := IX3_at) (as := [_]) (dk kX7_readSign 3 rfl) mv_X3_at ml_X7_38 rfl rfl t.1.1 rfl rfl (Nat.le_of_ble_eq_true rfl) ⟨by decide, by decide⟩ ⟨rfl, rfl⟩ ⟨Nat.le_of_ble_eq_true rfl, Nat.le_of_ble_eq_true rfl⟩ ((t.rd hb).at (by omega)) ?_
  refine r_iload_n (dk kX7_readSign 4 rfl) rfl ?_
  -- at 9
  by_cases hc : cC inp n p = c
  · rw [bI_t hc, if_pos hc]
    refine r_icmp_eq (tgt := 14) (dk kX7_readSign 5 rfl) (by decide) (fun c9 => ?_) (fun c9 => absurd hc c9)
    refine r_aload_n (dk kX7_readSign 8 rfl) rfl ?_
    refine r_dup (dk kX7_readSign 9 rfl) rfl ?_
    refine r_geti (dk kX7_readSign 10 rfl) fa_X7_18_6 kr rfl ?_
    -- at 19
    rw [cr_2]
    refine r_iconst (v := 1) (dk kX7_readSign 11 rfl) (by decide) ?_
    refine r_iadd (dk kX7_readSign 12 rfl) ?_
    -- at 21
    rw [show nI p + 1 = nI (p + 1) from nI_1 p]
    refine r_puti (dk kX7_readSign 13 rfl) fa_X7_18_6 kr rfl rfl rfl rfl ?_
    -- at 24
    rw [cr_p]
    refine r_iconst (v := 1) (dk kX7_readSign 14 rfl) (by decide) ?_
    refine r_ireturn (dk kX7_readSign 15 rfl) rfl rfl ⟨Nat.le_of_ble_eq_true rfl, Nat.le_of_ble_eq_true rfl⟩ ⟨rfl, rfl⟩
  · rw [bI_f hc, if_neg hc]
    refine r_icmp_eq (tgt := 14) (dk kX7_readSign 5 rfl) (by decide) (fun c9 => absurd c9 hc) (fun c9 => ?_)
    refine r_iconst (v := 0) (dk kX7_readSign 6 rfl) (by decide) ?_
    refine r_ireturn (dk kX7_readSign 7 rfl) rfl rfl ⟨Nat.le_of_ble_eq_true rfl, Nat.le_of_ble_eq_true rfl⟩ ⟨rfl, rfl⟩
end CLASS
