/-! THE CLASS: marks, commands of a text -/
section CLASS
variable {G : GG} {M : Mm} {a : Nat}
theorem k_X3_putMarked (o : LO M a) {l : LN} {k n : Nat} (hk : k < 128) (hn : n < 2 ^ 30) (hl : l.2 + 1 + dgN 9 n ≤ 60) : KU G IX3_putMarked [.ref a, .int (nI k), .int (nI n)] (cLn M a l) (cLn M a (lMark l k n)) := by
  refine KK.ofW (by decide) (by simp [Value.category]) (Nat.le_of_ble_eq_true rfl) rfl ?_
  show WW _ _ _ 0 [_, _, _] [] _ _ _
  have h1 : l.2 < 60 := by have := dgN_pos 9 n; omega
  refine r_aload_n (dk kX3_putMarked 0 rfl) rfl ?_
  refine r_iload_n (dk kX3_putMarked 1 rfl) rfl ?_
  refine r_callVu (I' := IX3_put) (as := [_]) (dk kX3_putMarked 2 rfl) mv_X3_put ml_X3_19 rfl rfl o.1 rfl rfl (Nat.le_of_ble_eq_true rfl) ⟨by decide, by decide⟩ ⟨rfl, rfl⟩ ⟨Nat.le_of_ble_eq_true rfl, Nat.le_of_ble_eq_true rfl⟩ (k_X3_put o (by omega) (ch_nar k hk)) ?_
  -- at 5
  rw [if_pos h1]
  refine r_aload_n (dk kX3_putMarked 3 rfl) rfl ?_
  refine r_iload_n (dk kX3_putMarked 4 rfl) rfl ?_
  refine r_callVu (I' := IX3_putNumber) (as := [_]) (dk kX3_putMarked 5 rfl) mv_X3_putNumber ml_X3_23 rfl rfl o.1 rfl rfl (Nat.le_of_ble_eq_true rfl) ⟨by decide, by decide⟩ ⟨rfl, rfl⟩ ⟨Nat.le_of_ble_eq_true rfl, Nat.le_of_ble_eq_true rfl⟩ (k_X3_putNumber o (l := lPut l (nI k)) hn hl) ?_
  refine r_return (dk kX3_putMarked 6 rfl) rfl ⟨Nat.le_of_ble_eq_true rfl, Nat.le_of_ble_eq_true rfl⟩ rfl
theorem k_X1_begin (ka : kd M a = 1) {c : Int32} (hc : narrow .char (.int c) = .int c) (hf : fits .char (.int c) = true) : KU G IX1_begin [.ref a, .int c] M (sI (sI M a 0 c) a 5 0) := by
  refine KK.ofW (by decide) (by simp [Value.category]) (Nat.le_of_ble_eq_true rfl) rfl ?_
  show WW _ _ _ 0 [_, _] [] _ _ _
  refine r_aload_n (dk kX1_begin 0 rfl) rfl ?_
  refine r_iload_n (dk kX1_begin 1 rfl) rfl ?_
  refine r_puti (dk kX1_begin 2 rfl) fa_X1_7_0 ka rfl rfl hc hf ?_
  refine r_aload_n (dk kX1_begin 3 rfl) rfl ?_
  refine r_iconst (v := 0) (dk kX1_begin 4 rfl) (by decide) ?_
  refine r_puti (dk kX1_begin 5 rfl) fa_X1_13_0 ka rfl rfl rfl rfl ?_
  refine r_return (dk kX1_begin 6 rfl) rfl ⟨Nat.le_of_ble_eq_true rfl, Nat.le_of_ble_eq_true rfl⟩ rfl
theorem k_X1_add (ka : kd M a = 1) {m : Nat} (hm : m < 4) (h5 : mi M a 5 = nI m) (x : Int32) : KU G IX1_add [.ref a, .int x] M (sI (sI M a (1 + m) x) a 5 (nI (m + 1))) := by
  refine KK.ofW (by decide) (by simp [Value.category]) (Nat.le_of_ble_eq_true rfl) rfl ?_
  show WW _ _ _ 0 [_, _] [] _ _ _
  have e : ∀ j v, j ≠ 5 → mi (sI M a j v) a 5 = nI m := fun j v hj => by rw [mi_sI_s, va_up_ne _ _ (Ne.symm hj), h5]
  by_cases c0 : m = 0
  · subst c0
    refine r_aload_n (dk kX1_add 0 rfl) rfl ?_
    refine r_geti (dk kX1_add 1 rfl) fa_X1_13_0 ka rfl ?_
    refine r_if_ne (tgt := 15) (dk kX1_add 2 rfl) (by decide) (fun c4 => absurd c4 (by rw [h5]; exact fun z => z rfl)) (fun c4 => ?_)
    refine r_aload_n (dk kX1_add 3 rfl) rfl ?_
    refine r_iload_n (dk kX1_add 4 rfl) rfl ?_
    refine r_puti (dk kX1_add 5 rfl) fa_X1_17_0 ka rfl rfl rfl rfl ?_
    refine r_goto (tgt := 52) (dk kX1_add 6 rfl) (by decide) ?_
    refine r_aload_n (dk kX1_add 26 rfl) rfl ?_
    refine r_dup (dk kX1_add 27 rfl) rfl ?_
    refine r_geti (dk kX1_add 28 rfl) fa_X1_13_0 ka rfl ?_
    -- at 57
    rw [e _ _ (by decide)]
    refine r_iconst (v := 1) (dk kX1_add 29 rfl) (by decide) ?_
    refine r_iadd (dk kX1_add 30 rfl) ?_
    refine r_puti (dk kX1_add 31 rfl) fa_X1_13_0 ka rfl rfl rfl rfl ?_
    refine r_return (dk kX1_add 32 rfl) rfl ⟨Nat.le_of_ble_eq_true rfl, Nat.le_of_ble_eq_true rfl⟩ rfl
  · by_cases c1 : m = 1
    · subst c1
      refine r_aload_n (dk kX1_add 0 rfl) rfl ?_
      refine r_geti (dk kX1_add 1 rfl) fa_X1_13_0 ka rfl ?_
      refine r_if_ne (tgt := 15) (dk kX1_add 2 rfl) (by decide) (fun c4 => ?_) (fun c4 => absurd (by rw [h5]; decide) c4)
      refine r_aload_n (dk kX1_add 7 rfl) rfl ?_
      refine r_geti (dk kX1_add 8 rfl) fa_X1_13_0 ka rfl ?_
      refine r_iconst (v := 1) (dk kX1_add 9 rfl) (by decide) ?_
      refine r_icmp_ne (tgt := 31) (dk kX1_add 10 rfl) (by decide) (fun c20 => absurd c20 (by rw [h5]; exact fun z => z rfl)) (fun c20 => ?_)
      refine r_aload_n (dk kX1_add 11 rfl) rfl ?_
      refine r_iload_n (dk kX1_add 12 rfl) rfl ?_
      refine r_puti (dk kX1_add 13 rfl) fa_X1_20_0 ka rfl rfl rfl rfl ?_
      refine r_goto (tgt := 52) (dk kX1_add 14 rfl) (by decide) ?_
      refine r_aload_n (dk kX1_add 26 rfl) rfl ?_
      refine r_dup (dk kX1_add 27 rfl) rfl ?_
      refine r_geti (dk kX1_add 28 rfl) fa_X1_13_0 ka rfl ?_
      -- at 57
      rw [e _ _ (by decide)]
      refine r_iconst (v := 1) (dk kX1_add 29 rfl) (by decide) ?_
      refine r_iadd (dk kX1_add 30 rfl) ?_
      refine r_puti (dk kX1_add 31 rfl) fa_X1_13_0 ka rfl rfl rfl rfl ?_
      refine r_return (dk kX1_add 32 rfl) rfl ⟨Nat.le_of_ble_eq_true rfl, Nat.le_of_ble_eq_true rfl⟩ rfl
    · by_cases c2 : m = 2
      · subst c2
        refine r_aload_n (dk kX1_add 0 rfl) rfl ?_
        refine r_geti (dk kX1_add 1 rfl) fa_X1_13_0 ka rfl ?_
        refine r_if_ne (tgt := 15) (dk kX1_add 2 rfl) (by decide) (fun c4 => ?_) (fun c4 => absurd (by rw [h5]; decide) c4)
        refine r_aload_n (dk kX1_add 7 rfl) rfl ?_
        refine r_geti (dk kX1_add 8 rfl) fa_X1_13_0 ka rfl ?_
        refine r_iconst (v := 1) (dk kX1_add 9 rfl) (by decide) ?_
        refine r_icmp_ne (tgt := 31) (dk kX1_add 10 rfl) (by decide) (fun c20 => ?_) (fun c20 => absurd (by rw [h5]; decide) c20)
        refine r_aload_n (dk kX1_add 15 rfl) rfl ?_
        refine r_geti (dk kX1_add 16 rfl) fa_X1_13_0 ka rfl ?_
        refine r_iconst (v := 2) (dk kX1_add 17 rfl) (by decide) ?_
        refine r_icmp_ne (tgt := 47) (dk kX1_add 18 rfl) (by decide) (fun c36 => absurd c36 (by rw [h5]; exact fun z => z rfl)) (fun c36 => ?_)
        refine r_aload_n (dk kX1_add 19 rfl) rfl ?_
        refine r_iload_n (dk kX1_add 20 rfl) rfl ?_
        refine r_puti (dk kX1_add 21 rfl) fa_X1_23_0 ka rfl rfl rfl rfl ?_
        refine r_goto (tgt := 52) (dk kX1_add 22 rfl) (by decide) ?_
        refine r_aload_n (dk kX1_add 26 rfl) rfl ?_
        refine r_dup (dk kX1_add 27 rfl) rfl ?_
        refine r_geti (dk kX1_add 28 rfl) fa_X1_13_0 ka rfl ?_
        -- at 57
        rw [e _ _ (by decide)]
        refine r_iconst (v := 1) (dk kX1_add 29 rfl) (by decide) ?_
        refine r_iadd (dk kX1_add 30 rfl) ?_
        refine r_puti (dk kX1_add 31 rfl) fa_X1_13_0 ka rfl rfl rfl rfl ?_
        refine r_return (dk kX1_add 32 rfl) rfl ⟨Nat.le_of_ble_eq_true rfl, Nat.le_of_ble_eq_true rfl⟩ rfl
      · have c3 : m = 3 := by omega
        subst c3
        refine r_aload_n (dk kX1_add 0 rfl) rfl ?_
        refine r_geti (dk kX1_add 1 rfl) fa_X1_13_0 ka rfl ?_
        refine r_if_ne (tgt := 15) (dk kX1_add 2 rfl) (by decide) (fun c4 => ?_) (fun c4 => absurd (by rw [h5]; decide) c4)
        refine r_aload_n (dk kX1_add 7 rfl) rfl ?_
        refine r_geti (dk kX1_add 8 rfl) fa_X1_13_0 ka rfl ?_
        refine r_iconst (v := 1) (dk kX1_add 9 rfl) (by decide) ?_
        refine r_icmp_ne (tgt := 31) (dk kX1_add 10 rfl) (by decide) (fun c20 => ?_) (fun c20 => absurd (by rw [h5]; decide) c20)
        refine r_aload_n (dk kX1_add 15 rfl) rfl ?_
        refine r_geti (dk kX1_add 16 rfl) fa_X1_13_0 ka rfl ?_
        refine r_iconst (v := 2) (dk kX1_add 17 rfl) (by decide) ?_
        refine r_icmp_ne (tgt := 47) (dk kX1_add 18 rfl) (by decide) (fun c36 => ?_) (fun c36 => absurd (by rw [h5]; decide) c36)
        refine r_aload_n (dk kX1_add 23 rfl) rfl ?_
        refine r_iload_n (dk kX1_add 24 rfl) rfl ?_
        refine r_puti (dk kX1_add 25 rfl) fa_X1_26_0 ka rfl rfl rfl rfl ?_
        refine r_aload_n (dk kX1_add 26 rfl) rfl ?_
        refine r_dup (dk kX1_add 27 rfl) rfl ?_
        refine r_geti (dk kX1_add 28 rfl) fa_X1_13_0 ka rfl ?_
        -- at 57
        rw [e _ _ (by decide)]
        refine r_iconst (v := 1) (dk kX1_add 29 rfl) (by decide) ?_
        refine r_iadd (dk kX1_add 30 rfl) ?_
        refine r_puti (dk kX1_add 31 rfl) fa_X1_13_0 ka rfl rfl rfl rfl ?_
        refine r_return (dk kX1_add 32 rfl) rfl ⟨Nat.le_of_ble_eq_true rfl, Nat.le_of_ble_eq_true rfl⟩ rfl
end CLASS
