/-! THE REFERENCE: sets of rulings -/
section MODEL
variable {G : GG} {M : Mm} {h : Nat}
theorem k_X9_based (o : MO M h) {F r : Nat} (gi : GI F (mi M (h + 1))) (hr : r < gn (mi M (h + 1)) 5) : KP G IX9_based [.ref h, .int (nI r)] M (gBm (mi M (h + 1)) r) := by
  refine KK.ofW (by decide) (by simp [Value.category]) (Nat.le_of_ble_eq_true rfl) rfl ?_
  show WW _ _ _ 0 [_, _, lj, lj, lj] [] _ _ _
  obtain ⟨hS, hS2⟩ := gi.r
  refine r_iconst (v := 1) (dk kX9_based 0 rfl) (by decide) ?_
  refine r_iload_n (dk kX9_based 1 rfl) rfl ?_
  refine r_ishl (dk kX9_based 2 rfl) ?_
  refine r_istore_n (j := 2) (dk kX9_based 3 rfl) rfl (by decide) rfl ?_
  simp only [List.set_cons_succ, List.set_cons_zero]
  refine r_iload_n (dk kX9_based 4 rfl) rfl ?_
  refine r_iconst (v := 1) (dk kX9_based 5 rfl) (by decide) ?_
  refine r_iadd (dk kX9_based 6 rfl) ?_
  refine r_istore_n (j := 3) (dk kX9_based 7 rfl) rfl (by decide) rfl ?_
  simp only [List.set_cons_succ, List.set_cons_zero]
  -- at 8
  rw [nI_sh1 r (by omega), ← gBs_self (mi M (h + 1)) r, show nI r + 1 = nI (r + 1) from nI_1 r]
  suffices key : ∀ d k (y : Value), (∀ x, y ≠ .long x) → y.category = 1 → k + d = gn (mi M (h + 1)) 5 → r < k → WW G IX9_based (qi (fun y M' => y = gBm (mi M (h + 1)) r ∧ M' = M) nox) 8 [.ref h, .int (nI r), .int (nI (gBs (mi M (h + 1)) r k)), .int (nI k), y] [] M 0 0 from key (gn (mi M (h + 1)) 5 - (r + 1)) (r + 1) _ (fun _ h => by cases h) rfl (by omega) (by omega)
  intro d
  induction d with
  | zero =>
    intro k y hy hy2 hk hrk
    have hk : k = gn (mi M (h + 1)) 5 := hk
    refine r_iload_n (dk kX9_based 8 rfl) rfl ?_
    refine r_aload_n (dk kX9_based 9 rfl) rfl ?_
    refine r_getR (dk kX9_based 10 rfl) fa_X9_7_8 o.k rfl o.r0 ?_
    refine r_iconst (v := 5) (dk kX9_based 11 rfl) (by decide) ?_
    refine r_ial (dk kX9_based 12 rfl) o.k1 o.l1 (j := 5) rfl (by decide) (by decide) ?_
    refine r_icmp_ge (tgt := 65) (dk kX9_based 13 rfl) (by decide) (fun c15 => ?_) (fun c15 => absurd (by rw [hS]; exact nI_le (by omega) (by omega)) c15)
    refine r_iload_n (dk kX9_based 41 rfl) rfl ?_
    refine r_iconst (v := 1) (dk kX9_based 42 rfl) (by decide) ?_
    refine r_iload_n (dk kX9_based 43 rfl) rfl ?_
    refine r_ishl (dk kX9_based 44 rfl) ?_
    refine r_iconst (v := (-1)) (dk kX9_based 45 rfl) (by decide) ?_
    refine r_ixor (dk kX9_based 46 rfl) ?_
    refine r_iand (dk kX9_based 47 rfl) ?_
    refine r_ireturn (dk kX9_based 48 rfl) rfl rfl ⟨Nat.le_of_ble_eq_true rfl, Nat.le_of_ble_eq_true rfl⟩ ⟨by rw [hk]; rfl, rfl⟩
  | succ d ih =>
    intro k y hy hy2 hk hrk
    have hB := gBs_lt (mi M (h + 1)) r k
    have hB2 : 2 ^ k ≤ 2 ^ 16 := Nat.pow_le_pow_right (by decide) (by omega)
    refine r_iload_n (dk kX9_based 8 rfl) rfl ?_
    refine r_aload_n (dk kX9_based 9 rfl) rfl ?_
    refine r_getR (dk kX9_based 10 rfl) fa_X9_7_8 o.k rfl o.r0 ?_
    refine r_iconst (v := 5) (dk kX9_based 11 rfl) (by decide) ?_
    refine r_ial (dk kX9_based 12 rfl) o.k1 o.l1 (j := 5) rfl (by decide) (by decide) ?_
    refine r_icmp_ge (tgt := 65) (dk kX9_based 13 rfl) (by decide) (fun c15 => absurd c15 (by rw [hS]; exact nI_ge (by omega) (by omega))) (fun c15 => ?_)
    refine r_iload_n (dk kX9_based 14 rfl) rfl ?_
    refine r_istore (dk kX9_based 15 rfl) (by decide) rfl ?_
    simp only [List.set_cons_succ, List.set_cons_zero]
    -- at 21
    have hst := gBs_step (mi M (h + 1)) hrk
    generalize hb : gBs (mi M (h + 1)) r k = B at *
    generalize hp : (fun i => B.testBit i && gNames (mi M (h + 1)) k (nI i)) = P at *
    suffices key2 : ∀ d q, q + d = k → WW G IX9_based (qi (fun y M' => y = gBm (mi M (h + 1)) r ∧ M' = M) nox) 21 [.ref h, .int (nI r), .int (nI (if (fx P q).isSome = true then B ||| 2 ^ k else B)), .int (nI k), .int (nI q)] [] M 0 0 by
      have h0 := key2 (k - r) r (by omega)
      have hn : fx P r = none := fx_none.mpr fun j hj => by
        rw [← hp]
        show (B.testBit j && _) = false
        rw [← hb, gBs_low _ _ _ _ hj]
        rfl
      rw [hn, if_neg (by decide)] at h0
      exact h0
    intro d
    induction d with
    | zero =>
      intro q hq
      have hq : q = k := hq
      refine r_iload (dk kX9_based 16 rfl) rfl ?_
      refine r_iload_n (dk kX9_based 17 rfl) rfl ?_
      refine r_icmp_ge (tgt := 59) (dk kX9_based 18 rfl) (by decide) (fun c24 => ?_) (fun c24 => absurd (nI_le (by omega) (by omega)) c24)
      refine r_iinc (dk kX9_based 39 rfl) (by decide) rfl rfl rfl ?_
      simp only [List.set_cons_succ, List.set_cons_zero]
      refine r_goto (tgt := 8) (dk kX9_based 40 rfl) (by decide) ?_
      -- at 8
      rw [hq, ← hst, show nI k + Int32.ofInt 1 = nI (k + 1) from nI_1 k]
      exact ih (k + 1) _ (fun _ h => by cases h) rfl (by omega) (by omega)
    | succ d ih2 =>
      intro q hq
      have hPq : P q = (B.testBit q && gNames (mi M (h + 1)) k (nI q)) := by rw [← hp]
      have hs : (fx P (q + 1)).isSome = ((fx P q).isSome || P q) := fx_succ P q
      generalize hC : (if (fx P q).isSome = true then B ||| 2 ^ k else B) = C at *
      have hC2 : C < 2 ^ 17 := by
        have h17 : (2 : Nat) ^ k < 2 ^ 17 := Nat.lt_of_le_of_lt hB2 (by decide)
        rw [← hC]
        split
        · exact Nat.or_lt_two_pow (by omega) h17
        · omega
      have hCb : C.testBit q = B.testBit q := by
        rw [← hC]
        split
        · rw [Nat.testBit_or, Nat.testBit_two_pow_of_ne (by omega), Bool.or_false]
        · rfl
      refine r_iload (dk kX9_based 16 rfl) rfl ?_
      refine r_iload_n (dk kX9_based 17 rfl) rfl ?_
      refine r_icmp_ge (tgt := 59) (dk kX9_based 18 rfl) (by decide) (fun c24 => absurd c24 (nI_ge (by omega) (by omega))) (fun c24 => ?_)
      refine r_iload_n (dk kX9_based 19 rfl) rfl ?_
      refine r_iload (dk kX9_based 20 rfl) rfl ?_
      refine r_ishr (dk kX9_based 21 rfl) ?_
      refine r_iconst (v := 1) (dk kX9_based 22 rfl) (by decide) ?_
      refine r_iand (dk kX9_based 23 rfl) ?_
      refine r_iconst (v := 1) (dk kX9_based 24 rfl) (by decide) ?_
      -- at 34
      rw [nI_bit (by omega) (by omega), hCb]
      refine r_icmp_ne (tgt := 53) (dk kX9_based 25 rfl) (by decide) (fun c34 => ?_) (fun c34 => ?_)
      · have hb0 : B.testBit q = false := by
          cases hbq : B.testBit q with
          | false => rfl
          | true => rw [hbq] at c34; exact absurd rfl c34
        rw [hb0, Bool.false_and] at hPq
        rw [hPq, Bool.or_false] at hs
        refine r_iinc (dk kX9_based 37 rfl) (by decide) rfl rfl rfl ?_
        simp only [List.set_cons_succ, List.set_cons_zero]
        refine r_goto (tgt := 21) (dk kX9_based 38 rfl) (by decide) ?_
        -- at 21
        rw [show nI q + Int32.ofInt 1 = nI (q + 1) from nI_1 q]
        have h9 := ih2 (q + 1) (by omega)
        rw [hs, hC] at h9
        exact h9
      · have hb0 : B.testBit q = true := by
          cases hbq : B.testBit q with
          | true => rfl
          | false => rw [hbq] at c34; exact absurd (by decide) c34
        rw [hb0, Bool.true_and] at hPq
        refine r_aload_n (dk kX9_based 26 rfl) rfl ?_
        refine r_iload_n (dk kX9_based 27 rfl) rfl ?_
        refine r_iload (dk kX9_based 28 rfl) rfl ?_
        refine r_callVp (I' := IX9_names) (as := [_, _]) (dk kX9_based 29 rfl) mv_X9_names ml_X9_155 rfl rfl o.k rfl rfl (Nat.le_of_ble_eq_true rfl) ⟨by decide, by decide⟩ ⟨rfl, rfl⟩ ⟨Nat.le_of_ble_eq_true rfl, Nat.le_of_ble_eq_true rfl⟩ (k_X9_names o gi (by omega) (nI q)) ?_
        refine r_if_eq (tgt := 53) (dk kX9_based 30 rfl) (by decide) (fun c44 => ?_) (fun c44 => ?_)
        · have hn0 := bI_0.mp c44
          rw [Bool.not_eq_true] at hn0
          rw [hn0] at hPq
          rw [hPq, Bool.or_false] at hs
          refine r_iinc (dk kX9_based 37 rfl) (by decide) rfl rfl rfl ?_
          simp only [List.set_cons_succ, List.set_cons_zero]
          refine r_goto (tgt := 21) (dk kX9_based 38 rfl) (by decide) ?_
          -- at 21
          rw [show nI q + Int32.ofInt 1 = nI (q + 1) from nI_1 q]
          have h9 := ih2 (q + 1) (by omega)
          rw [hs, hC] at h9
          exact h9
        · have hn0 := bI_1.mp c44
          rw [hn0] at hPq
          rw [hPq, Bool.or_true] at hs
          refine r_iload_n (dk kX9_based 31 rfl) rfl ?_
          refine r_iconst (v := 1) (dk kX9_based 32 rfl) (by decide) ?_
          refine r_iload_n (dk kX9_based 33 rfl) rfl ?_
          refine r_ishl (dk kX9_based 34 rfl) ?_
          refine r_ior (dk kX9_based 35 rfl) ?_
          refine r_istore_n (j := 2) (dk kX9_based 36 rfl) rfl (by decide) rfl ?_
          simp only [List.set_cons_succ, List.set_cons_zero]
          refine r_iinc (dk kX9_based 37 rfl) (by decide) rfl rfl rfl ?_
          simp only [List.set_cons_succ, List.set_cons_zero]
          refine r_goto (tgt := 21) (dk kX9_based 38 rfl) (by decide) ?_
          -- at 21
          rw [show nI q + Int32.ofInt 1 = nI (q + 1) from nI_1 q, nI_sh1 k (by omega), nI_or]
          have h9 := ih2 (q + 1) (by omega)
          rw [if_pos hs] at h9
          have hor : C ||| 2 ^ k = B ||| 2 ^ k := by
            rw [← hC]
            split
            · rw [Nat.or_assoc, Nat.or_self]
            · rfl
          rw [hor]
          exact h9
theorem k_X9_reaches (o : MO M h) {F r : Nat} (gi : GI F (mi M (h + 1))) (hr : r < gn (mi M (h + 1)) 5) : KP G IX9_reaches [.ref h, .int (nI r)] M (nI (gReach (mi M (h + 1)) r)) := by
  refine KK.ofW (by decide) (by simp [Value.category]) (Nat.le_of_ble_eq_true rfl) rfl ?_
  show WW _ _ _ 0 [_, _, lj, lj] [] _ _ _
  obtain ⟨hS, hS2⟩ := gi.r
  refine r_iconst (v := 0) (dk kX9_reaches 0 rfl) (by decide) ?_
  refine r_istore_n (j := 2) (dk kX9_reaches 1 rfl) rfl (by decide) rfl ?_
  simp only [List.set_cons_succ, List.set_cons_zero]
  refine r_iconst (v := 0) (dk kX9_reaches 2 rfl) (by decide) ?_
  refine r_istore_n (j := 3) (dk kX9_reaches 3 rfl) rfl (by decide) rfl ?_
  simp only [List.set_cons_succ, List.set_cons_zero]
  -- at 4
  suffices key : ∀ d j, j + d = gn (mi M (h + 1)) 5 → WW G IX9_reaches (qi (fun y M' => y = nI (gReach (mi M (h + 1)) r) ∧ M' = M) nox) 4 [.ref h, .int (nI r), .int (nI (ct (fun i => gBased (mi M (h + 1)) r i) j)), .int (nI j)] [] M 0 0 from key _ 0 (Nat.zero_add _)
  intro d
  induction d with
  | zero =>
    intro j hj
    refine r_iload_n (dk kX9_reaches 4 rfl) rfl ?_
    refine r_aload_n (dk kX9_reaches 5 rfl) rfl ?_
    refine r_getR (dk kX9_reaches 6 rfl) fa_X9_7_8 o.k rfl o.r0 ?_
    refine r_iconst (v := 5) (dk kX9_reaches 7 rfl) (by decide) ?_
    refine r_ial (dk kX9_reaches 8 rfl) o.k1 o.l1 (j := 5) rfl (by decide) (by decide) ?_
    refine r_icmp_ge (tgt := 32) (dk kX9_reaches 9 rfl) (by decide) (fun c11 => ?_) (fun c11 => absurd (by rw [hS]; exact nI_le (by omega) (by omega)) c11)
    refine r_iload_n (dk kX9_reaches 22 rfl) rfl ?_
    refine r_ireturn (dk kX9_reaches 23 rfl) rfl rfl ⟨Nat.le_of_ble_eq_true rfl, Nat.le_of_ble_eq_true rfl⟩ ⟨by rw [show j = gn (mi M (h + 1)) 5 from hj]; rfl, rfl⟩
  | succ d ih =>
    intro j hj
    have hst : ct (fun i => gBased (mi M (h + 1)) r i) (j + 1) = ct (fun i => gBased (mi M (h + 1)) r i) j + (if gBased (mi M (h + 1)) r j = true then 1 else 0) := rfl
    refine r_iload_n (dk kX9_reaches 4 rfl) rfl ?_
    refine r_aload_n (dk kX9_reaches 5 rfl) rfl ?_
    refine r_getR (dk kX9_reaches 6 rfl) fa_X9_7_8 o.k rfl o.r0 ?_
    refine r_iconst (v := 5) (dk kX9_reaches 7 rfl) (by decide) ?_
    refine r_ial (dk kX9_reaches 8 rfl) o.k1 o.l1 (j := 5) rfl (by decide) (by decide) ?_
    refine r_icmp_ge (tgt := 32) (dk kX9_reaches 9 rfl) (by decide) (fun c11 => absurd c11 (by rw [hS]; exact nI_ge (by omega) (by omega))) (fun c11 => ?_)
    refine r_iload_n (dk kX9_reaches 10 rfl) rfl ?_
    refine r_aload_n (dk kX9_reaches 11 rfl) rfl ?_
    refine r_iload_n (dk kX9_reaches 12 rfl) rfl ?_
    refine r_callVp (I' := IX9_based) (as := [_]) (dk kX9_reaches 13 rfl) mv_X9_based ml_X9_158 rfl rfl o.k rfl rfl (Nat.le_of_ble_eq_true rfl) ⟨by decide, by decide⟩ ⟨rfl, rfl⟩ ⟨Nat.le_of_ble_eq_true rfl, Nat.le_of_ble_eq_true rfl⟩ (k_X9_based o gi hr) ?_
    refine r_iload_n (dk kX9_reaches 14 rfl) rfl ?_
    refine r_ishr (dk kX9_reaches 15 rfl) ?_
    refine r_iconst (v := 1) (dk kX9_reaches 16 rfl) (by decide) ?_
    refine r_iand (dk kX9_reaches 17 rfl) ?_
    -- at 24
    rw [bitx _ (by omega), gBm_bt _ (by omega) (by omega)]
    refine r_iadd (dk kX9_reaches 18 rfl) ?_
    refine r_istore_n (j := 2) (dk kX9_reaches 19 rfl) rfl (by decide) rfl ?_
    simp only [List.set_cons_succ, List.set_cons_zero]
    refine r_iinc (dk kX9_reaches 20 rfl) (by decide) rfl rfl rfl ?_
    simp only [List.set_cons_succ, List.set_cons_zero]
    refine r_goto (tgt := 4) (dk kX9_reaches 21 rfl) (by decide) ?_
    -- at 4
    rw [show nI j + Int32.ofInt 1 = nI (j + 1) from nI_1 j, show nI (ct (fun i => gBased (mi M (h + 1)) r i) j) + bI (gBased (mi M (h + 1)) r j = true) = nI (ct (fun i => gBased (mi M (h + 1)) r i) (j + 1)) by rw [hst, bI_nI, nI_add]]
    exact ih (j + 1) (by omega)
end MODEL
