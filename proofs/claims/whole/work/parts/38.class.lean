/-! THE CLASS: what cites, copies of petitions and rulings, lines -/
section CLASS
variable {G : GG} {M : Mm} {a b : Nat}
theorem k_X0_citedAtP (ka : kd M a = 4) {c : Nat} (hc : c < 3) : KP G IX0_citedAt [.ref a, .int (nI c)] M (mi M a (1 + c)) := by
  refine KK.ofW (by decide) (by simp [Value.category]) (Nat.le_of_ble_eq_true rfl) rfl ?_
  show WW _ _ _ 0 [_, _] [] _ _ _
  by_cases h0 : c = 0
  · subst h0
    refine r_iload_n (dk kX0_citedAt 0 rfl) rfl ?_
    refine r_if_ne (tgt := 11) (dk kX0_citedAt 1 rfl) (by decide) (fun c1 => absurd c1 (by exact fun z => z rfl)) (fun c1 => ?_)
    refine r_aload_n (dk kX0_citedAt 2 rfl) rfl ?_
    refine r_geti (dk kX0_citedAt 3 rfl) fa_X0_7_3 ka rfl ?_
    refine r_goto (tgt := 27) (dk kX0_citedAt 4 rfl) (by decide) ?_
    refine r_ireturn (dk kX0_citedAt 13 rfl) rfl rfl ⟨Nat.le_of_ble_eq_true rfl, Nat.le_of_ble_eq_true rfl⟩ ⟨rfl, rfl⟩
  · by_cases h1 : c = 1
    · subst h1
      refine r_iload_n (dk kX0_citedAt 0 rfl) rfl ?_
      refine r_if_ne (tgt := 11) (dk kX0_citedAt 1 rfl) (by decide) (fun c1 => ?_) (fun c1 => absurd (by decide) c1)
      refine r_iload_n (dk kX0_citedAt 5 rfl) rfl ?_
      refine r_iconst (v := 1) (dk kX0_citedAt 6 rfl) (by decide) ?_
      refine r_icmp_ne (tgt := 23) (dk kX0_citedAt 7 rfl) (by decide) (fun c13 => absurd c13 (by exact fun z => z rfl)) (fun c13 => ?_)
      refine r_aload_n (dk kX0_citedAt 8 rfl) rfl ?_
      refine r_geti (dk kX0_citedAt 9 rfl) fa_X0_13_3 ka rfl ?_
      refine r_goto (tgt := 27) (dk kX0_citedAt 10 rfl) (by decide) ?_
      refine r_ireturn (dk kX0_citedAt 13 rfl) rfl rfl ⟨Nat.le_of_ble_eq_true rfl, Nat.le_of_ble_eq_true rfl⟩ ⟨rfl, rfl⟩
    · have h2 : c = 2 := by omega
      subst h2
      refine r_iload_n (dk kX0_citedAt 0 rfl) rfl ?_
      refine r_if_ne (tgt := 11) (dk kX0_citedAt 1 rfl) (by decide) (fun c1 => ?_) (fun c1 => absurd (by decide) c1)
      refine r_iload_n (dk kX0_citedAt 5 rfl) rfl ?_
      refine r_iconst (v := 1) (dk kX0_citedAt 6 rfl) (by decide) ?_
      refine r_icmp_ne (tgt := 23) (dk kX0_citedAt 7 rfl) (by decide) (fun c13 => ?_) (fun c13 => absurd (by decide) c13)
      refine r_aload_n (dk kX0_citedAt 11 rfl) rfl ?_
      refine r_geti (dk kX0_citedAt 12 rfl) fa_X0_16_3 ka rfl ?_
      refine r_ireturn (dk kX0_citedAt 13 rfl) rfl rfl ⟨Nat.le_of_ble_eq_true rfl, Nat.le_of_ble_eq_true rfl⟩ ⟨rfl, rfl⟩
theorem k_X0_refersToP (ka : kd M a = 4) {m : Nat} (hm : m < 4) (h0 : mi M a 0 = nI m) (x : Int32) : KP G IX0_refersTo [.ref a, .int x] M (bI ((fx (fun c => decide (mi M a (1 + c) = x)) m).isSome = true)) := by
  refine KK.ofW (by decide) (by simp [Value.category]) (Nat.le_of_ble_eq_true rfl) rfl ?_
  show WW _ _ _ 0 [_, _, lj] [] _ _ _
  refine r_iconst (v := 0) (dk kX0_refersTo 0 rfl) (by decide) ?_
  refine r_istore_n (j := 2) (dk kX0_refersTo 1 rfl) rfl (by decide) rfl ?_
  simp only [List.set_cons_succ, List.set_cons_zero]
  -- at 2
  suffices key : ∀ d j, j + d = m → (∀ i, i < j → decide (mi M a (1 + i) = x) = false) → WW G IX0_refersTo (qi (fun y M' => y = bI ((fx (fun c => decide (mi M a (1 + c) = x)) m).isSome = true) ∧ M' = M) nox) 2 [.ref a, .int x, .int (nI j)] [] M 0 0 from key _ 0 (Nat.zero_add _) (fun i hi => absurd hi (Nat.not_lt_zero i))
  intro d
  induction d with
  | zero =>
    intro j hj hn
    have hj : j = m := hj
    subst hj
    rw [fx_none.mpr hn]
    refine r_iload_n (dk kX0_refersTo 2 rfl) rfl ?_
    refine r_aload_n (dk kX0_refersTo 3 rfl) rfl ?_
    refine r_geti (dk kX0_refersTo 4 rfl) fa_X0_19_3 ka rfl ?_
    refine r_icmp_ge (tgt := 27) (dk kX0_refersTo 5 rfl) (by decide) (fun c7 => ?_) (fun c7 => absurd (by rw [h0]; exact Int32.le_refl _) c7)
    refine r_iconst (v := 0) (dk kX0_refersTo 15 rfl) (by decide) ?_
    refine r_ireturn (dk kX0_refersTo 16 rfl) rfl rfl ⟨Nat.le_of_ble_eq_true rfl, Nat.le_of_ble_eq_true rfl⟩ ⟨rfl, rfl⟩
  | succ d ih =>
    intro j hj hn
    refine r_iload_n (dk kX0_refersTo 2 rfl) rfl ?_
    refine r_aload_n (dk kX0_refersTo 3 rfl) rfl ?_
    refine r_geti (dk kX0_refersTo 4 rfl) fa_X0_19_3 ka rfl ?_
    refine r_icmp_ge (tgt := 27) (dk kX0_refersTo 5 rfl) (by decide) (fun c7 => absurd c7 (by rw [h0]; exact nI_ge (by omega) (by omega))) (fun c7 => ?_)
    refine r_aload_n (dk kX0_refersTo 6 rfl) rfl ?_
    refine r_iload_n (dk kX0_refersTo 7 rfl) rfl ?_
    refine r_callUp (I' := IX0_citedAt) (as := [_]) (dk kX0_refersTo 8 rfl) mu_X0_22_3 rfl rfl ka rfl rfl (Nat.le_of_ble_eq_true rfl) ⟨by decide, by decide⟩ ⟨rfl, rfl⟩ ⟨Nat.le_of_ble_eq_true rfl, Nat.le_of_ble_eq_true rfl⟩ (k_X0_citedAtP ka (by omega)) ?_
    refine r_iload_n (dk kX0_refersTo 9 rfl) rfl ?_
    refine r_icmp_ne (tgt := 21) (dk kX0_refersTo 10 rfl) (by decide) (fun c16 => ?_) (fun c16 => ?_)
    · refine r_iinc (dk kX0_refersTo 13 rfl) (by decide) rfl rfl rfl ?_
      simp only [List.set_cons_succ, List.set_cons_zero]
      refine r_goto (tgt := 2) (dk kX0_refersTo 14 rfl) (by decide) ?_
      -- at 2
      rw [show nI j + Int32.ofInt 1 = nI (j + 1) from nI_1 j]
      exact ih (j + 1) (by omega) (fun i hi => by
        rcases Nat.lt_succ_iff_lt_or_eq.mp hi with q | q
        · exact hn i q
        · rw [q]; exact decide_eq_false c16)
    · rw [fx_some.mpr ⟨by omega, decide_eq_true (Decidable.not_not.mp c16), hn⟩]
      refine r_iconst (v := 1) (dk kX0_refersTo 11 rfl) (by decide) ?_
      refine r_ireturn (dk kX0_refersTo 12 rfl) rfl rfl ⟨Nat.le_of_ble_eq_true rfl, Nat.le_of_ble_eq_true rfl⟩ ⟨rfl, rfl⟩
theorem k_X0_addCitedP (ka : kd M a = 4) {m : Nat} (hm : m < 3) (h0 : mi M a 0 = nI m) (x : Int32) : KU G IX0_addCited [.ref a, .int x] M (sI (sI M a (1 + m) x) a 0 (nI (m + 1))) := by
  refine KK.ofW (by decide) (by simp [Value.category]) (Nat.le_of_ble_eq_true rfl) rfl ?_
  show WW _ _ _ 0 [_, _] [] _ _ _
  have e : ∀ j v, j ≠ 0 → mi (sI M a j v) a 0 = nI m := fun j v hj => by rw [mi_sI_s, va_up_ne _ _ (Ne.symm hj), h0]
  by_cases c0 : m = 0
  · subst c0
    refine r_aload_n (dk kX0_addCited 0 rfl) rfl ?_
    refine r_geti (dk kX0_addCited 1 rfl) fa_X0_19_3 ka rfl ?_
    refine r_if_ne (tgt := 15) (dk kX0_addCited 2 rfl) (by decide) (fun c4 => absurd c4 (by rw [h0]; exact fun z => z rfl)) (fun c4 => ?_)
    refine r_aload_n (dk kX0_addCited 3 rfl) rfl ?_
    refine r_iload_n (dk kX0_addCited 4 rfl) rfl ?_
    refine r_puti (dk kX0_addCited 5 rfl) fa_X0_7_3 ka rfl rfl rfl rfl ?_
    refine r_goto (tgt := 36) (dk kX0_addCited 6 rfl) (by decide) ?_
    refine r_aload_n (dk kX0_addCited 18 rfl) rfl ?_
    refine r_dup (dk kX0_addCited 19 rfl) rfl ?_
    refine r_geti (dk kX0_addCited 20 rfl) fa_X0_19_3 ka rfl ?_
    -- at 41
    rw [e _ _ (by decide)]
    refine r_iconst (v := 1) (dk kX0_addCited 21 rfl) (by decide) ?_
    refine r_iadd (dk kX0_addCited 22 rfl) ?_
    refine r_puti (dk kX0_addCited 23 rfl) fa_X0_19_3 ka rfl rfl rfl rfl ?_
    refine r_return (dk kX0_addCited 24 rfl) rfl ⟨Nat.le_of_ble_eq_true rfl, Nat.le_of_ble_eq_true rfl⟩ rfl
  · by_cases c1 : m = 1
    · subst c1
      refine r_aload_n (dk kX0_addCited 0 rfl) rfl ?_
      refine r_geti (dk kX0_addCited 1 rfl) fa_X0_19_3 ka rfl ?_
      refine r_if_ne (tgt := 15) (dk kX0_addCited 2 rfl) (by decide) (fun c4 => ?_) (fun c4 => absurd (by rw [h0]; decide) c4)
      refine r_aload_n (dk kX0_addCited 7 rfl) rfl ?_
      refine r_geti (dk kX0_addCited 8 rfl) fa_X0_19_3 ka rfl ?_
      refine r_iconst (v := 1) (dk kX0_addCited 9 rfl) (by decide) ?_
      refine r_icmp_ne (tgt := 31) (dk kX0_addCited 10 rfl) (by decide) (fun c20 => absurd c20 (by rw [h0]; exact fun z => z rfl)) (fun c20 => ?_)
      refine r_aload_n (dk kX0_addCited 11 rfl) rfl ?_
      refine r_iload_n (dk kX0_addCited 12 rfl) rfl ?_
      refine r_puti (dk kX0_addCited 13 rfl) fa_X0_13_3 ka rfl rfl rfl rfl ?_
      refine r_goto (tgt := 36) (dk kX0_addCited 14 rfl) (by decide) ?_
      refine r_aload_n (dk kX0_addCited 18 rfl) rfl ?_
      refine r_dup (dk kX0_addCited 19 rfl) rfl ?_
      refine r_geti (dk kX0_addCited 20 rfl) fa_X0_19_3 ka rfl ?_
      -- at 41
      rw [e _ _ (by decide)]
      refine r_iconst (v := 1) (dk kX0_addCited 21 rfl) (by decide) ?_
      refine r_iadd (dk kX0_addCited 22 rfl) ?_
      refine r_puti (dk kX0_addCited 23 rfl) fa_X0_19_3 ka rfl rfl rfl rfl ?_
      refine r_return (dk kX0_addCited 24 rfl) rfl ⟨Nat.le_of_ble_eq_true rfl, Nat.le_of_ble_eq_true rfl⟩ rfl
    · have c2 : m = 2 := by omega
      subst c2
      refine r_aload_n (dk kX0_addCited 0 rfl) rfl ?_
      refine r_geti (dk kX0_addCited 1 rfl) fa_X0_19_3 ka rfl ?_
      refine r_if_ne (tgt := 15) (dk kX0_addCited 2 rfl) (by decide) (fun c4 => ?_) (fun c4 => absurd (by rw [h0]; decide) c4)
      refine r_aload_n (dk kX0_addCited 7 rfl) rfl ?_
      refine r_geti (dk kX0_addCited 8 rfl) fa_X0_19_3 ka rfl ?_
      refine r_iconst (v := 1) (dk kX0_addCited 9 rfl) (by decide) ?_
      refine r_icmp_ne (tgt := 31) (dk kX0_addCited 10 rfl) (by decide) (fun c20 => ?_) (fun c20 => absurd (by rw [h0]; decide) c20)
      refine r_aload_n (dk kX0_addCited 15 rfl) rfl ?_
      refine r_iload_n (dk kX0_addCited 16 rfl) rfl ?_
      refine r_puti (dk kX0_addCited 17 rfl) fa_X0_16_3 ka rfl rfl rfl rfl ?_
      refine r_aload_n (dk kX0_addCited 18 rfl) rfl ?_
      refine r_dup (dk kX0_addCited 19 rfl) rfl ?_
      refine r_geti (dk kX0_addCited 20 rfl) fa_X0_19_3 ka rfl ?_
      -- at 41
      rw [e _ _ (by decide)]
      refine r_iconst (v := 1) (dk kX0_addCited 21 rfl) (by decide) ?_
      refine r_iadd (dk kX0_addCited 22 rfl) ?_
      refine r_puti (dk kX0_addCited 23 rfl) fa_X0_19_3 ka rfl rfl rfl rfl ?_
      refine r_return (dk kX0_addCited 24 rfl) rfl ⟨Nat.le_of_ble_eq_true rfl, Nat.le_of_ble_eq_true rfl⟩ rfl
theorem k_X0_citedAtR (ka : kd M a = 5) {c : Nat} (hc : c < 3) : KP G IX0_citedAt [.ref a, .int (nI c)] M (mi M a (1 + c)) := by
  refine KK.ofW (by decide) (by simp [Value.category]) (Nat.le_of_ble_eq_true rfl) rfl ?_
  show WW _ _ _ 0 [_, _] [] _ _ _
  by_cases h0 : c = 0
  · subst h0
    refine r_iload_n (dk kX0_citedAt 0 rfl) rfl ?_
    refine r_if_ne (tgt := 11) (dk kX0_citedAt 1 rfl) (by decide) (fun c1 => absurd c1 (by exact fun z => z rfl)) (fun c1 => ?_)
    refine r_aload_n (dk kX0_citedAt 2 rfl) rfl ?_
    refine r_geti (dk kX0_citedAt 3 rfl) fa_X0_7_4 ka rfl ?_
    refine r_goto (tgt := 27) (dk kX0_citedAt 4 rfl) (by decide) ?_
    refine r_ireturn (dk kX0_citedAt 13 rfl) rfl rfl ⟨Nat.le_of_ble_eq_true rfl, Nat.le_of_ble_eq_true rfl⟩ ⟨rfl, rfl⟩
  · by_cases h1 : c = 1
    · subst h1
      refine r_iload_n (dk kX0_citedAt 0 rfl) rfl ?_
      refine r_if_ne (tgt := 11) (dk kX0_citedAt 1 rfl) (by decide) (fun c1 => ?_) (fun c1 => absurd (by decide) c1)
      refine r_iload_n (dk kX0_citedAt 5 rfl) rfl ?_
      refine r_iconst (v := 1) (dk kX0_citedAt 6 rfl) (by decide) ?_
      refine r_icmp_ne (tgt := 23) (dk kX0_citedAt 7 rfl) (by decide) (fun c13 => absurd c13 (by exact fun z => z rfl)) (fun c13 => ?_)
      refine r_aload_n (dk kX0_citedAt 8 rfl) rfl ?_
      refine r_geti (dk kX0_citedAt 9 rfl) fa_X0_13_4 ka rfl ?_
      refine r_goto (tgt := 27) (dk kX0_citedAt 10 rfl) (by decide) ?_
      refine r_ireturn (dk kX0_citedAt 13 rfl) rfl rfl ⟨Nat.le_of_ble_eq_true rfl, Nat.le_of_ble_eq_true rfl⟩ ⟨rfl, rfl⟩
    · have h2 : c = 2 := by omega
      subst h2
      refine r_iload_n (dk kX0_citedAt 0 rfl) rfl ?_
      refine r_if_ne (tgt := 11) (dk kX0_citedAt 1 rfl) (by decide) (fun c1 => ?_) (fun c1 => absurd (by decide) c1)
      refine r_iload_n (dk kX0_citedAt 5 rfl) rfl ?_
      refine r_iconst (v := 1) (dk kX0_citedAt 6 rfl) (by decide) ?_
      refine r_icmp_ne (tgt := 23) (dk kX0_citedAt 7 rfl) (by decide) (fun c13 => ?_) (fun c13 => absurd (by decide) c13)
      refine r_aload_n (dk kX0_citedAt 11 rfl) rfl ?_
      refine r_geti (dk kX0_citedAt 12 rfl) fa_X0_16_4 ka rfl ?_
      refine r_ireturn (dk kX0_citedAt 13 rfl) rfl rfl ⟨Nat.le_of_ble_eq_true rfl, Nat.le_of_ble_eq_true rfl⟩ ⟨rfl, rfl⟩
theorem k_X0_refersToR (ka : kd M a = 5) {m : Nat} (hm : m < 4) (h0 : mi M a 0 = nI m) (x : Int32) : KP G IX0_refersTo [.ref a, .int x] M (bI ((fx (fun c => decide (mi M a (1 + c) = x)) m).isSome = true)) := by
  refine KK.ofW (by decide) (by simp [Value.category]) (Nat.le_of_ble_eq_true rfl) rfl ?_
  show WW _ _ _ 0 [_, _, lj] [] _ _ _
  refine r_iconst (v := 0) (dk kX0_refersTo 0 rfl) (by decide) ?_
  refine r_istore_n (j := 2) (dk kX0_refersTo 1 rfl) rfl (by decide) rfl ?_
  simp only [List.set_cons_succ, List.set_cons_zero]
  -- at 2
  suffices key : ∀ d j, j + d = m → (∀ i, i < j → decide (mi M a (1 + i) = x) = false) → WW G IX0_refersTo (qi (fun y M' => y = bI ((fx (fun c => decide (mi M a (1 + c) = x)) m).isSome = true) ∧ M' = M) nox) 2 [.ref a, .int x, .int (nI j)] [] M 0 0 from key _ 0 (Nat.zero_add _) (fun i hi => absurd hi (Nat.not_lt_zero i))
  intro d
  induction d with
  | zero =>
    intro j hj hn
    have hj : j = m := hj
    subst hj
    rw [fx_none.mpr hn]
    refine r_iload_n (dk kX0_refersTo 2 rfl) rfl ?_
    refine r_aload_n (dk kX0_refersTo 3 rfl) rfl ?_
    refine r_geti (dk kX0_refersTo 4 rfl) fa_X0_19_4 ka rfl ?_
    refine r_icmp_ge (tgt := 27) (dk kX0_refersTo 5 rfl) (by decide) (fun c7 => ?_) (fun c7 => absurd (by rw [h0]; exact Int32.le_refl _) c7)
    refine r_iconst (v := 0) (dk kX0_refersTo 15 rfl) (by decide) ?_
    refine r_ireturn (dk kX0_refersTo 16 rfl) rfl rfl ⟨Nat.le_of_ble_eq_true rfl, Nat.le_of_ble_eq_true rfl⟩ ⟨rfl, rfl⟩
  | succ d ih =>
    intro j hj hn
    refine r_iload_n (dk kX0_refersTo 2 rfl) rfl ?_
    refine r_aload_n (dk kX0_refersTo 3 rfl) rfl ?_
    refine r_geti (dk kX0_refersTo 4 rfl) fa_X0_19_4 ka rfl ?_
    refine r_icmp_ge (tgt := 27) (dk kX0_refersTo 5 rfl) (by decide) (fun c7 => absurd c7 (by rw [h0]; exact nI_ge (by omega) (by omega))) (fun c7 => ?_)
    refine r_aload_n (dk kX0_refersTo 6 rfl) rfl ?_
    refine r_iload_n (dk kX0_refersTo 7 rfl) rfl ?_
    refine r_callUp (I' := IX0_citedAt) (as := [_]) (dk kX0_refersTo 8 rfl) mu_X0_22_4 rfl rfl ka rfl rfl (Nat.le_of_ble_eq_true rfl) ⟨by decide, by decide⟩ ⟨rfl, rfl⟩ ⟨Nat.le_of_ble_eq_true rfl, Nat.le_of_ble_eq_true rfl⟩ (k_X0_citedAtR ka (by omega)) ?_
    refine r_iload_n (dk kX0_refersTo 9 rfl) rfl ?_
    refine r_icmp_ne (tgt := 21) (dk kX0_refersTo 10 rfl) (by decide) (fun c16 => ?_) (fun c16 => ?_)
    · refine r_iinc (dk kX0_refersTo 13 rfl) (by decide) rfl rfl rfl ?_
      simp only [List.set_cons_succ, List.set_cons_zero]
      refine r_goto (tgt := 2) (dk kX0_refersTo 14 rfl) (by decide) ?_
      -- at 2
      rw [show nI j + Int32.ofInt 1 = nI (j + 1) from nI_1 j]
      exact ih (j + 1) (by omega) (fun i hi => by
        rcases Nat.lt_succ_iff_lt_or_eq.mp hi with q | q
        · exact hn i q
        · rw [q]; exact decide_eq_false c16)
    · rw [fx_some.mpr ⟨by omega, decide_eq_true (Decidable.not_not.mp c16), hn⟩]
      refine r_iconst (v := 1) (dk kX0_refersTo 11 rfl) (by decide) ?_
      refine r_ireturn (dk kX0_refersTo 12 rfl) rfl rfl ⟨Nat.le_of_ble_eq_true rfl, Nat.le_of_ble_eq_true rfl⟩ ⟨rfl, rfl⟩
theorem k_X0_addCitedR (ka : kd M a = 5) {m : Nat} (hm : m < 3) (h0 : mi M a 0 = nI m) (x : Int32) : KU G IX0_addCited [.ref a, .int x] M (sI (sI M a (1 + m) x) a 0 (nI (m + 1))) := by
  refine KK.ofW (by decide) (by simp [Value.category]) (Nat.le_of_ble_eq_true rfl) rfl ?_
  show WW _ _ _ 0 [_, _] [] _ _ _
  have e : ∀ j v, j ≠ 0 → mi (sI M a j v) a 0 = nI m := fun j v hj => by rw [mi_sI_s, va_up_ne _ _ (Ne.symm hj), h0]
  by_cases c0 : m = 0
  · subst c0
    refine r_aload_n (dk kX0_addCited 0 rfl) rfl ?_
    refine r_geti (dk kX0_addCited 1 rfl) fa_X0_19_4 ka rfl ?_
    refine r_if_ne (tgt := 15) (dk kX0_addCited 2 rfl) (by decide) (fun c4 => absurd c4 (by rw [h0]; exact fun z => z rfl)) (fun c4 => ?_)
    refine r_aload_n (dk kX0_addCited 3 rfl) rfl ?_
    refine r_iload_n (dk kX0_addCited 4 rfl) rfl ?_
    refine r_puti (dk kX0_addCited 5 rfl) fa_X0_7_4 ka rfl rfl rfl rfl ?_
    refine r_goto (tgt := 36) (dk kX0_addCited 6 rfl) (by decide) ?_
    refine r_aload_n (dk kX0_addCited 18 rfl) rfl ?_
    refine r_dup (dk kX0_addCited 19 rfl) rfl ?_
    refine r_geti (dk kX0_addCited 20 rfl) fa_X0_19_4 ka rfl ?_
    -- at 41
    rw [e _ _ (by decide)]
    refine r_iconst (v := 1) (dk kX0_addCited 21 rfl) (by decide) ?_
    refine r_iadd (dk kX0_addCited 22 rfl) ?_
    refine r_puti (dk kX0_addCited 23 rfl) fa_X0_19_4 ka rfl rfl rfl rfl ?_
    refine r_return (dk kX0_addCited 24 rfl) rfl ⟨Nat.le_of_ble_eq_true rfl, Nat.le_of_ble_eq_true rfl⟩ rfl
  · by_cases c1 : m = 1
    · subst c1
      refine r_aload_n (dk kX0_addCited 0 rfl) rfl ?_
      refine r_geti (dk kX0_addCited 1 rfl) fa_X0_19_4 ka rfl ?_
      refine r_if_ne (tgt := 15) (dk kX0_addCited 2 rfl) (by decide) (fun c4 => ?_) (fun c4 => absurd (by rw [h0]; decide) c4)
      refine r_aload_n (dk kX0_addCited 7 rfl) rfl ?_
      refine r_geti (dk kX0_addCited 8 rfl) fa_X0_19_4 ka rfl ?_
      refine r_iconst (v := 1) (dk kX0_addCited 9 rfl) (by decide) ?_
      refine r_icmp_ne (tgt := 31) (dk kX0_addCited 10 rfl) (by decide) (fun c20 => absurd c20 (by rw [h0]; exact fun z => z rfl)) (fun c20 => ?_)
      refine r_aload_n (dk kX0_addCited 11 rfl) rfl ?_
      refine r_iload_n (dk kX0_addCited 12 rfl) rfl ?_
      refine r_puti (dk kX0_addCited 13 rfl) fa_X0_13_4 ka rfl rfl rfl rfl ?_
      refine r_goto (tgt := 36) (dk kX0_addCited 14 rfl) (by decide) ?_
      refine r_aload_n (dk kX0_addCited 18 rfl) rfl ?_
      refine r_dup (dk kX0_addCited 19 rfl) rfl ?_
      refine r_geti (dk kX0_addCited 20 rfl) fa_X0_19_4 ka rfl ?_
      -- at 41
      rw [e _ _ (by decide)]
      refine r_iconst (v := 1) (dk kX0_addCited 21 rfl) (by decide) ?_
      refine r_iadd (dk kX0_addCited 22 rfl) ?_
      refine r_puti (dk kX0_addCited 23 rfl) fa_X0_19_4 ka rfl rfl rfl rfl ?_
      refine r_return (dk kX0_addCited 24 rfl) rfl ⟨Nat.le_of_ble_eq_true rfl, Nat.le_of_ble_eq_true rfl⟩ rfl
    · have c2 : m = 2 := by omega
      subst c2
      refine r_aload_n (dk kX0_addCited 0 rfl) rfl ?_
      refine r_geti (dk kX0_addCited 1 rfl) fa_X0_19_4 ka rfl ?_
      refine r_if_ne (tgt := 15) (dk kX0_addCited 2 rfl) (by decide) (fun c4 => ?_) (fun c4 => absurd (by rw [h0]; decide) c4)
      refine r_aload_n (dk kX0_addCited 7 rfl) rfl ?_
      refine r_geti (dk kX0_addCited 8 rfl) fa_X0_19_4 ka rfl ?_
      refine r_iconst (v := 1) (dk kX0_addCited 9 rfl) (by decide) ?_
      refine r_icmp_ne (tgt := 31) (dk kX0_addCited 10 rfl) (by decide) (fun c20 => ?_) (fun c20 => absurd (by rw [h0]; decide) c20)
      refine r_aload_n (dk kX0_addCited 15 rfl) rfl ?_
      refine r_iload_n (dk kX0_addCited 16 rfl) rfl ?_
      refine r_puti (dk kX0_addCited 17 rfl) fa_X0_16_4 ka rfl rfl rfl rfl ?_
      refine r_aload_n (dk kX0_addCited 18 rfl) rfl ?_
      refine r_dup (dk kX0_addCited 19 rfl) rfl ?_
      refine r_geti (dk kX0_addCited 20 rfl) fa_X0_19_4 ka rfl ?_
      -- at 41
      rw [e _ _ (by decide)]
      refine r_iconst (v := 1) (dk kX0_addCited 21 rfl) (by decide) ?_
      refine r_iadd (dk kX0_addCited 22 rfl) ?_
      refine r_puti (dk kX0_addCited 23 rfl) fa_X0_19_4 ka rfl rfl rfl rfl ?_
      refine r_return (dk kX0_addCited 24 rfl) rfl ⟨Nat.le_of_ble_eq_true rfl, Nat.le_of_ble_eq_true rfl⟩ rfl
end CLASS
