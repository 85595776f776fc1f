/-! quotients that are no NaN -/
set_option maxRecDepth 100000 in
theorem nn_64 : ∀ a, a < 97 → ∀ b, b < 9 → b ≠ 0 → FP.ddiv (FP.i2d (nI a)) (FP.i2d (nI b)) &&& 0x7fffffffffffffff ≤ 0x7ff0000000000000 := by decide +kernel
set_option maxRecDepth 100000 in
theorem nn_32 : ∀ a, a < 17 → ∀ b, b < 17 → b ≠ 0 → FP.fdiv (FP.i2f (nI a)) (FP.i2f (nI b)) &&& 0x7fffffff ≤ 0x7f800000 := by decide +kernel
set_option maxRecDepth 100000 in
theorem nn_f2d : ∀ a, a < 17 → ∀ b, b < 17 → b ≠ 0 → FP.f2d (FP.fdiv (FP.i2f (nI a)) (FP.i2f (nI b))) &&& 0x7fffffffffffffff ≤ 0x7ff0000000000000 := by decide +kernel
/-- the depth of ruling k, from the depths T of those before it, by its citations below o -/
def gDk (g : Nat → Int32) (T : Nat → Nat) (k : Nat) : Nat → Nat
  | 0 => 0
  | o + 1 => if gNames g k (nI o) = true ∧ gDk g T k o ≤ T o then T o + 1 else gDk g T k o
/-- the depths of the rulings below n -/
def gDt (g : Nat → Int32) : Nat → Nat → Nat
  | 0 => fun _ => 0
  | n + 1 => fun j => if j = n then gDk g (gDt g n) n n else gDt g n j
def gDepth (g : Nat → Int32) (k : Nat) : Nat := gDt g (k + 1) k
theorem gDk_le (g : Nat → Int32) {T : Nat → Nat} (hT : ∀ o, T o ≤ o) (k : Nat) : ∀ o, gDk g T k o ≤ o
  | 0 => Nat.le_refl _
  | o + 1 => by
    have ih := gDk_le g hT k o
    have h2 := hT o
    unfold gDk
    split <;> omega
theorem gDt_le (g : Nat → Int32) : ∀ n j, gDt g n j ≤ j
  | 0, j => Nat.zero_le j
  | n + 1, j => by
    show (if j = n then _ else _) ≤ j
    split
    · rename_i h
      rw [h]
      exact gDk_le g (gDt_le g n) n n
    · exact gDt_le g n j
theorem gDt_st (g : Nat → Int32) {j : Nat} : ∀ {n : Nat}, j < n → gDt g n j = gDepth g j
  | 0, h => absurd h (Nat.not_lt_zero j)
  | n + 1, h => by
    by_cases e : j = n
    · rw [e]; rfl
    · show (if j = n then _ else _) = _
      rw [if_neg e]
      exact gDt_st g (by omega)
def sp_depth (g : Nat → Int32) (x : Int32) : SPv := sp_rul (fun k => nI (gDepth g k)) g x
def gRank (g : Nat → Int32) (k : Nat) : Nat := ct (fun o => decide (gReach g k < gReach g o ∨ gReach g o = gReach g k ∧ o < k)) (gn g 5)
def sp_rulingByInfluence (g : Nat → Int32) (x : Int32) : SPv := match fx (fun k => decide (nI (gRank g k) = x)) (gn g 5) with | none => (1, 0) | some k => (0, nI k)
def gSv (g : Nat → Int32) : Nat → Nat
  | 0 => 0
  | n + 1 => gSv g n + gVotes g n
theorem gVotes_le (g : Nat → Int32) (k : Nat) : gVotes g k ≤ 12 := by
  have h1 := bN_le (gn g (35 + 11 * k + 5))
  have h2 := bN_le (gn g (35 + 11 * k + 6))
  unfold gVotes gFor gAg
  omega
theorem gSv_le (g : Nat → Int32) : ∀ n, gSv g n ≤ 12 * n
  | 0 => Nat.le_refl _
  | n + 1 => by
    have ih := gSv_le g n
    have h := gVotes_le g n
    unfold gSv
    omega
/-- granted rulings below n -/
def gSg (g : Nat → Int32) : Nat → Nat
  | 0 => 0
  | n + 1 => gSg g n + gn g (123 + 6 * n)
/-! THE REFERENCE: more readers, the text's keeper, undo, snapshots -/
section MODEL
variable {G : GG} {M : Mm} {h : Nat}
theorem k_X9_depth (o : MO M h) {F : Nat} (gi : GI F (mi M (h + 1))) (x : Int32) : KK G IX9_depth [.ref h, .int x] M (qi (fun y M' => y = (sp_depth (mi M (h + 1)) x).2 ∧ ∃ f, M' = sA (mFail M h (sp_depth (mi M (h + 1)) x).1) (h + 7) f) nox) := by
  refine KK.ofW (by decide) (by simp [Value.category]) (Nat.le_of_ble_eq_true rfl) rfl ?_
  show WW _ _ _ 0 [_, _, lj, lj] [] _ _ _
  obtain ⟨hS, hS2⟩ := gi.r
  rcases ixo_c (n := gn (mi M (h + 1)) 5) (by omega) x with ⟨e, hb⟩ | ⟨k, hk, rfl, e, hb⟩
  · have e1 : bI (¬ (0 ≤ x ∧ x ≤ mi M (h + 1) 5 - 1)) = 1 := bI_t (by rw [hS]; exact hb)
    refine r_aload_n (dk kX9_depth 0 rfl) rfl ?_
    refine r_iload_n (dk kX9_depth 1 rfl) rfl ?_
    refine r_callVp (I' := IX9_isUnruled) (as := [_]) (dk kX9_depth 2 rfl) mv_X9_isUnruled ml_X9_152 rfl rfl o.k rfl rfl (Nat.le_of_ble_eq_true rfl) ⟨by decide, by decide⟩ ⟨rfl, rfl⟩ ⟨Nat.le_of_ble_eq_true rfl, Nat.le_of_ble_eq_true rfl⟩ (k_X9_isUnruled o x) ?_
    refine r_if_eq (tgt := 10) (dk kX9_depth 3 rfl) (by decide) (fun c5 => absurd c5 (by rw [e1]; decide)) (fun c5 => ?_)
    refine r_iconst (v := 0) (dk kX9_depth 4 rfl) (by decide) ?_
    refine r_ireturn (dk kX9_depth 5 rfl) rfl rfl ⟨Nat.le_of_ble_eq_true rfl, Nat.le_of_ble_eq_true rfl⟩ ⟨by unfold sp_depth sp_rul; rw [e], _, by unfold sp_depth sp_rul; rw [e, e1]; exact (sA_eq _ _).symm⟩
  · have e1 : bI (¬ (0 ≤ nI k ∧ nI k ≤ mi M (h + 1) 5 - 1)) = 0 := bI_f (by rw [hS]; exact fun z => z hb)
    have s1 : (sp_depth (mi M (h + 1)) (nI k)).1 = 0 := by unfold sp_depth sp_rul; rw [e]
    have s2 : (sp_depth (mi M (h + 1)) (nI k)).2 = nI (gDepth (mi M (h + 1)) k) := by unfold sp_depth sp_rul; rw [e]
    rw [s1, s2]
    refine r_aload_n (dk kX9_depth 0 rfl) rfl ?_
    refine r_iload_n (dk kX9_depth 1 rfl) rfl ?_
    refine r_callVp (I' := IX9_isUnruled) (as := [_]) (dk kX9_depth 2 rfl) mv_X9_isUnruled ml_X9_152 rfl rfl o.k rfl rfl (Nat.le_of_ble_eq_true rfl) ⟨by decide, by decide⟩ ⟨rfl, rfl⟩ ⟨Nat.le_of_ble_eq_true rfl, Nat.le_of_ble_eq_true rfl⟩ (k_X9_isUnruled o _) ?_
    refine r_if_eq (tgt := 10) (dk kX9_depth 3 rfl) (by decide) (fun c5 => ?_) (fun c5 => absurd (by rw [e1]) c5)
    -- at 10
    rw [e1]
    refine r_iconst (v := 0) (dk kX9_depth 6 rfl) (by decide) ?_
    refine r_istore_n (j := 2) (dk kX9_depth 7 rfl) rfl (by decide) rfl ?_
    simp only [List.set_cons_succ, List.set_cons_zero]
    -- at 12
    have oX := o.fl 0
    have e3 : ∀ f, mi (sA (mFail M h 0) (h + 7) f) (h + 1) = mi M (h + 1) := fun f => by rw [mi_sA_n _ _ (by omega), mf1]
    generalize mFail M h 0 = X at *
    have gs : ∀ f, GI F (mi (sA X (h + 7) f) (h + 1)) := fun f => by rw [e3]; exact gi
    generalize mi M (h + 1) = g at *
    suffices key : ∀ d j (f : Nat → Int32) (y : Value), (∀ x, y ≠ .long x) → y.category = 1 → j + d = k + 1 → (∀ i, i < j → f i = nI (gDt g j i)) → WW G IX9_depth (qi (fun y M' => y = nI (gDepth g k) ∧ ∃ f, M' = sA X (h + 7) f) nox) 12 [.ref h, .int (nI k), .int (nI j), y] [] (sA X (h + 7) f) 0 0 by
      have h0 := key (k + 1) 0 (mi X (h + 7)) lj (fun _ h => by cases h) rfl (Nat.zero_add _) (fun i hi => absurd hi (Nat.not_lt_zero i))
      rw [sA_eq] at h0
      exact h0
    intro d
    induction d with
    | zero =>
      intro j f y hy hy2 hj hf
      have hj : j = k + 1 := hj
      subst hj
      refine r_iload_n (dk kX9_depth 8 rfl) rfl ?_
      refine r_iload_n (dk kX9_depth 9 rfl) rfl ?_
      refine r_icmp_gt (tgt := 81) (dk kX9_depth 10 rfl) (by decide) (fun c14 => ?_) (fun c14 => absurd (nI_lt (by omega) (by omega)) c14)
      refine r_aload_n (dk kX9_depth 49 rfl) rfl ?_
      refine r_getR (dk kX9_depth 50 rfl) fa_X9_33_8 oX.k rfl oX.r18 ?_
      refine r_iload_n (dk kX9_depth 51 rfl) rfl ?_
      refine r_ial (dk kX9_depth 52 rfl) oX.k7 oX.l7 (j := k) rfl (by omega) (by decide) ?_
      -- at 87
      rw [mi_sA_s, hf k (by omega)]
      refine r_ireturn (dk kX9_depth 53 rfl) rfl rfl ⟨Nat.le_of_ble_eq_true rfl, Nat.le_of_ble_eq_true rfl⟩ ⟨rfl, _, rfl⟩
    | succ d ih =>
      intro j f y hy hy2 hj hf
      have hT := gDt_le g j
      refine r_iload_n (dk kX9_depth 8 rfl) rfl ?_
      refine r_iload_n (dk kX9_depth 9 rfl) rfl ?_
      refine r_icmp_gt (tgt := 81) (dk kX9_depth 10 rfl) (by decide) (fun c14 => absurd c14 (Int32.not_lt.mpr (nI_le (by omega) (by omega)))) (fun c14 => ?_)
      refine r_aload_n (dk kX9_depth 11 rfl) rfl ?_
      refine r_getR (dk kX9_depth 12 rfl) fa_X9_33_8 oX.k rfl oX.r18 ?_
      refine r_iload_n (dk kX9_depth 13 rfl) rfl ?_
      refine r_iconst (v := 0) (dk kX9_depth 14 rfl) (by decide) ?_
      refine r_ias (dk kX9_depth 15 rfl) oX.k7 oX.l7 (j := j) rfl (by omega) (by decide) ?_
      -- at 24
      rw [sI_sA]
      refine r_iconst (v := 0) (dk kX9_depth 16 rfl) (by decide) ?_
      refine r_istore_n (j := 3) (dk kX9_depth 17 rfl) rfl (by decide) rfl ?_
      simp only [List.set_cons_succ, List.set_cons_zero]
      -- at 26
      suffices key2 : ∀ d q, q + d = j → WW G IX9_depth (qi (fun y M' => y = nI (gDepth g k) ∧ ∃ f, M' = sA X (h + 7) f) nox) 26 [.ref h, .int (nI k), .int (nI j), .int (nI q)] [] (sA X (h + 7) (va_up f j (nI (gDk g (gDt g j) j q)))) 0 0 from key2 j 0 (Nat.zero_add _)
      intro d2
      induction d2 with
      | zero =>
        intro q hq
        have hq : q = j := hq
        subst hq
        refine r_iload_n (dk kX9_depth 18 rfl) rfl ?_
        refine r_iload_n (dk kX9_depth 19 rfl) rfl ?_
        refine r_icmp_ge (tgt := 75) (dk kX9_depth 20 rfl) (by decide) (fun c28 => ?_) (fun c28 => absurd (Int32.le_refl _) c28)
        refine r_iinc (dk kX9_depth 47 rfl) (by decide) rfl rfl rfl ?_
        simp only [List.set_cons_succ, List.set_cons_zero]
        refine r_goto (tgt := 12) (dk kX9_depth 48 rfl) (by decide) ?_
        -- at 12
        rw [show nI q + Int32.ofInt 1 = nI (q + 1) from nI_1 q]
        refine ih (q + 1) _ _ (fun _ h => by cases h) rfl (by omega) (fun i hi => ?_)
        show _ = nI (if i = q then _ else _)
        by_cases hiq : i = q
        · rw [if_pos hiq, hiq, va_up_self]
        · rw [if_neg hiq, va_up_ne _ _ hiq, hf i (by omega)]
      | succ d2 ih2 =>
        intro q hq
        have hst : gDk g (gDt g j) j (q + 1) = if gNames g j (nI q) = true ∧ gDk g (gDt g j) j q ≤ gDt g j q then gDt g j q + 1 else gDk g (gDt g j) j q := rfl
        have hm := gDk_le g hT j q
        have hTq := hT q
        refine r_iload_n (dk kX9_depth 18 rfl) rfl ?_
        refine r_iload_n (dk kX9_depth 19 rfl) rfl ?_
        refine r_icmp_ge (tgt := 75) (dk kX9_depth 20 rfl) (by decide) (fun c28 => absurd c28 (nI_ge (by omega) (by omega))) (fun c28 => ?_)
        refine r_aload_n (dk kX9_depth 21 rfl) rfl ?_
        refine r_iload_n (dk kX9_depth 22 rfl) rfl ?_
        refine r_iload_n (dk kX9_depth 23 rfl) rfl ?_
        refine r_callVp (I' := IX9_names) (as := [_, _]) (dk kX9_depth 24 rfl) mv_X9_names ml_X9_155 rfl rfl oX.k rfl rfl (Nat.le_of_ble_eq_true rfl) ⟨by decide, by decide⟩ ⟨rfl, rfl⟩ ⟨Nat.le_of_ble_eq_true rfl, Nat.le_of_ble_eq_true rfl⟩ (k_X9_names (M := sA X (h + 7) _) oX (gs _) (r := j) (by rw [e3]; omega) (nI q)) ?_
        -- at 37
        rw [e3]
        refine r_if_eq (tgt := 69) (dk kX9_depth 25 rfl) (by decide) (fun c37 => ?_) (fun c37 => ?_)
        · refine r_iinc (dk kX9_depth 45 rfl) (by decide) rfl rfl rfl ?_
          simp only [List.set_cons_succ, List.set_cons_zero]
          refine r_goto (tgt := 26) (dk kX9_depth 46 rfl) (by decide) ?_
          -- at 26
          rw [show nI q + Int32.ofInt 1 = nI (q + 1) from nI_1 q]
          have h9 := ih2 (q + 1) (by omega)
          rw [hst, if_neg (fun z => bI_0.mp c37 z.1)] at h9
          exact h9
        · refine r_aload_n (dk kX9_depth 26 rfl) rfl ?_
          refine r_getR (dk kX9_depth 27 rfl) fa_X9_33_8 oX.k rfl oX.r18 ?_
          refine r_iload_n (dk kX9_depth 28 rfl) rfl ?_
          refine r_ial (dk kX9_depth 29 rfl) oX.k7 oX.l7 (j := q) rfl (by omega) (by decide) ?_
          refine r_aload_n (dk kX9_depth 30 rfl) rfl ?_
          refine r_getR (dk kX9_depth 31 rfl) fa_X9_33_8 oX.k rfl oX.r18 ?_
          refine r_iload_n (dk kX9_depth 32 rfl) rfl ?_
          refine r_ial (dk kX9_depth 33 rfl) oX.k7 oX.l7 (j := j) rfl (by omega) (by decide) ?_
          -- at 52
          rw [mi_sA_s, va_up_self, va_up_ne _ _ (by omega), hf q (by omega)]
          by_cases hle : gDk g (gDt g j) j q ≤ gDt g j q
          · refine r_icmp_lt (tgt := 69) (dk kX9_depth 34 rfl) (by decide) (fun c52 => absurd c52 (Int32.not_lt.mpr (nI_le hle (by omega)))) (fun c52 => ?_)
            refine r_aload_n (dk kX9_depth 35 rfl) rfl ?_
            refine r_getR (dk kX9_depth 36 rfl) fa_X9_33_8 oX.k rfl oX.r18 ?_
            refine r_iload_n (dk kX9_depth 37 rfl) rfl ?_
            refine r_aload_n (dk kX9_depth 38 rfl) rfl ?_
            refine r_getR (dk kX9_depth 39 rfl) fa_X9_33_8 oX.k rfl oX.r18 ?_
            refine r_iload_n (dk kX9_depth 40 rfl) rfl ?_
            refine r_ial (dk kX9_depth 41 rfl) oX.k7 oX.l7 (j := q) rfl (by omega) (by decide) ?_
            -- at 66
            rw [mi_sA_s, va_up_ne _ _ (by omega), hf q (by omega)]
            refine r_iconst (v := 1) (dk kX9_depth 42 rfl) (by decide) ?_
            refine r_iadd (dk kX9_depth 43 rfl) ?_
            -- at 68
            rw [show nI (gDt g j q) + 1 = nI (gDt g j q + 1) from nI_1 _]
            refine r_ias (dk kX9_depth 44 rfl) oX.k7 oX.l7 (j := j) rfl (by omega) (by decide) ?_
            refine r_iinc (dk kX9_depth 45 rfl) (by decide) rfl rfl rfl ?_
            simp only [List.set_cons_succ, List.set_cons_zero]
            refine r_goto (tgt := 26) (dk kX9_depth 46 rfl) (by decide) ?_
            -- at 26
            rw [show nI q + Int32.ofInt 1 = nI (q + 1) from nI_1 q, sI_sA, va_up_up]
            have h9 := ih2 (q + 1) (by omega)
            rw [hst, if_pos ⟨bI_1.mp c37, hle⟩] at h9
            exact h9
          · refine r_icmp_lt (tgt := 69) (dk kX9_depth 34 rfl) (by decide) (fun c52 => ?_) (fun c52 => absurd (nI_lt (by omega) (by omega)) c52)
            refine r_iinc (dk kX9_depth 45 rfl) (by decide) rfl rfl rfl ?_
            simp only [List.set_cons_succ, List.set_cons_zero]
            refine r_goto (tgt := 26) (dk kX9_depth 46 rfl) (by decide) ?_
            -- at 26
            rw [show nI q + Int32.ofInt 1 = nI (q + 1) from nI_1 q]
            have h9 := ih2 (q + 1) (by omega)
            rw [hst, if_neg (fun z => hle z.2)] at h9
            exact h9
theorem k_X9_rulingByInfluence (o : MO M h) {F : Nat} (gi : GI F (mi M (h + 1))) (x : Int32) : KE G IX9_rulingByInfluence [.ref h, .int x] M (sp_rulingByInfluence (mi M (h + 1)) x).2 (sI M h 8 (sp_rulingByInfluence (mi M (h + 1)) x).1) := by
  refine KK.ofW (by decide) (by simp [Value.category]) (Nat.le_of_ble_eq_true rfl) rfl ?_
  show WW _ _ _ 0 [_, _, lj, lj, lj] [] _ _ _
  obtain ⟨hS, hS2⟩ := gi.r
  have hR : ∀ r, gReach (mi M (h + 1)) r < 17 := fun r => Nat.lt_of_le_of_lt (ct_le _ _) hS2
  refine r_iconst (v := 0) (dk kX9_rulingByInfluence 0 rfl) (by decide) ?_
  refine r_istore_n (j := 2) (dk kX9_rulingByInfluence 1 rfl) rfl (by decide) rfl ?_
  simp only [List.set_cons_succ, List.set_cons_zero]
  -- at 2
  suffices key : ∀ d k (y z : Value), (∀ x, y ≠ .long x) → y.category = 1 → (∀ x, z ≠ .long x) → z.category = 1 → k + d = gn (mi M (h + 1)) 5 → (∀ i, i < k → decide (nI (gRank (mi M (h + 1)) i) = x) = false) → WW G IX9_rulingByInfluence (qi (fun y M' => y = (sp_rulingByInfluence (mi M (h + 1)) x).2 ∧ M' = sI M h 8 (sp_rulingByInfluence (mi M (h + 1)) x).1) nox) 2 [.ref h, .int x, .int (nI k), y, z] [] M 0 0 from key _ 0 _ _ (fun _ h => by cases h) rfl (fun _ h => by cases h) rfl (Nat.zero_add _) (fun i hi => absurd hi (Nat.not_lt_zero i))
  intro d
  induction d with
  | zero =>
    intro k y z hy hy2 hz hz2 hk hn
    have hk : k = gn (mi M (h + 1)) 5 := hk
    rw [hk] at hn
    have e : sp_rulingByInfluence (mi M (h + 1)) x = (1, 0) := by unfold sp_rulingByInfluence; rw [fx_none.mpr hn]
    rw [e]
    refine r_iload_n (dk kX9_rulingByInfluence 2 rfl) rfl ?_
    refine r_aload_n (dk kX9_rulingByInfluence 3 rfl) rfl ?_
    refine r_getR (dk kX9_rulingByInfluence 4 rfl) fa_X9_7_8 o.k rfl o.r0 ?_
    refine r_iconst (v := 5) (dk kX9_rulingByInfluence 5 rfl) (by decide) ?_
    refine r_ial (dk kX9_rulingByInfluence 6 rfl) o.k1 o.l1 (j := 5) rfl (by decide) (by decide) ?_
    refine r_icmp_ge (tgt := 97) (dk kX9_rulingByInfluence 7 rfl) (by decide) (fun c9 => ?_) (fun c9 => absurd (by rw [hS]; exact nI_le (by omega) (by omega)) c9)
    refine r_aload_n (dk kX9_rulingByInfluence 54 rfl) rfl ?_
    refine r_iconst (v := 1) (dk kX9_rulingByInfluence 55 rfl) (by decide) ?_
    refine r_puti (dk kX9_rulingByInfluence 56 rfl) fa_X9_39_8 o.k rfl rfl rfl rfl ?_
    refine r_iconst (v := 0) (dk kX9_rulingByInfluence 57 rfl) (by decide) ?_
    refine r_ireturn (dk kX9_rulingByInfluence 58 rfl) rfl rfl ⟨Nat.le_of_ble_eq_true rfl, Nat.le_of_ble_eq_true rfl⟩ ⟨rfl, rfl⟩
  | succ d ih =>
    intro k y z hy hy2 hz hz2 hk hn
    refine r_iload_n (dk kX9_rulingByInfluence 2 rfl) rfl ?_
    refine r_aload_n (dk kX9_rulingByInfluence 3 rfl) rfl ?_
    refine r_getR (dk kX9_rulingByInfluence 4 rfl) fa_X9_7_8 o.k rfl o.r0 ?_
    refine r_iconst (v := 5) (dk kX9_rulingByInfluence 5 rfl) (by decide) ?_
    refine r_ial (dk kX9_rulingByInfluence 6 rfl) o.k1 o.l1 (j := 5) rfl (by decide) (by decide) ?_
    refine r_icmp_ge (tgt := 97) (dk kX9_rulingByInfluence 7 rfl) (by decide) (fun c9 => absurd c9 (by rw [hS]; exact nI_ge (by omega) (by omega))) (fun c9 => ?_)
    refine r_iconst (v := 0) (dk kX9_rulingByInfluence 8 rfl) (by decide) ?_
    refine r_istore_n (j := 3) (dk kX9_rulingByInfluence 9 rfl) rfl (by decide) rfl ?_
    simp only [List.set_cons_succ, List.set_cons_zero]
    refine r_iconst (v := 0) (dk kX9_rulingByInfluence 10 rfl) (by decide) ?_
    refine r_istore (dk kX9_rulingByInfluence 11 rfl) (by decide) rfl ?_
    simp only [List.set_cons_succ, List.set_cons_zero]
    -- at 17
    generalize hP : (fun q => decide (gReach (mi M (h + 1)) k < gReach (mi M (h + 1)) q ∨ gReach (mi M (h + 1)) q = gReach (mi M (h + 1)) k ∧ q < k)) = P
    have hPq : ∀ q, P q = decide (gReach (mi M (h + 1)) k < gReach (mi M (h + 1)) q ∨ gReach (mi M (h + 1)) q = gReach (mi M (h + 1)) k ∧ q < k) := fun q => by rw [← hP]
    suffices key2 : ∀ d q, q + d = gn (mi M (h + 1)) 5 → WW G IX9_rulingByInfluence (qi (fun y M' => y = (sp_rulingByInfluence (mi M (h + 1)) x).2 ∧ M' = sI M h 8 (sp_rulingByInfluence (mi M (h + 1)) x).1) nox) 17 [.ref h, .int x, .int (nI k), .int (nI (ct P q)), .int (nI q)] [] M 0 0 from key2 _ 0 (Nat.zero_add _)
    intro d2
    induction d2 with
    | zero =>
      intro q hq
      have hq : q = gn (mi M (h + 1)) 5 := hq
      subst hq
      have hrk : ct P (gn (mi M (h + 1)) 5) = gRank (mi M (h + 1)) k := by rw [← hP]; rfl
      rw [hrk]
      refine r_iload (dk kX9_rulingByInfluence 12 rfl) rfl ?_
      refine r_aload_n (dk kX9_rulingByInfluence 13 rfl) rfl ?_
      refine r_getR (dk kX9_rulingByInfluence 14 rfl) fa_X9_7_8 o.k rfl o.r0 ?_
      refine r_iconst (v := 5) (dk kX9_rulingByInfluence 15 rfl) (by decide) ?_
      refine r_ial (dk kX9_rulingByInfluence 16 rfl) o.k1 o.l1 (j := 5) rfl (by decide) (by decide) ?_
      refine r_icmp_ge (tgt := 76) (dk kX9_rulingByInfluence 17 rfl) (by decide) (fun c25 => ?_) (fun c25 => absurd (by rw [hS]; exact nI_le (by omega) (by omega)) c25)
      refine r_iload_n (dk kX9_rulingByInfluence 43 rfl) rfl ?_
      refine r_iload_n (dk kX9_rulingByInfluence 44 rfl) rfl ?_
      -- at 78
      by_cases he : nI (gRank (mi M (h + 1)) k) = x
      · have e : sp_rulingByInfluence (mi M (h + 1)) x = (0, nI k) := by unfold sp_rulingByInfluence; rw [fx_some.mpr ⟨by omega, decide_eq_true he, hn⟩]
        rw [e]
        refine r_icmp_eq (tgt := 84) (dk kX9_rulingByInfluence 45 rfl) (by decide) (fun c78 => ?_) (fun c78 => absurd he c78)
        refine r_aload_n (dk kX9_rulingByInfluence 47 rfl) rfl ?_
        refine r_iconst (v := 0) (dk kX9_rulingByInfluence 48 rfl) (by decide) ?_
        refine r_puti (dk kX9_rulingByInfluence 49 rfl) fa_X9_39_8 o.k rfl rfl rfl rfl ?_
        refine r_iload_n (dk kX9_rulingByInfluence 50 rfl) rfl ?_
        refine r_ireturn (dk kX9_rulingByInfluence 51 rfl) rfl rfl ⟨Nat.le_of_ble_eq_true rfl, Nat.le_of_ble_eq_true rfl⟩ ⟨rfl, rfl⟩
      · refine r_icmp_eq (tgt := 84) (dk kX9_rulingByInfluence 45 rfl) (by decide) (fun c78 => absurd c78 he) (fun c78 => ?_)
        refine r_goto (tgt := 91) (dk kX9_rulingByInfluence 46 rfl) (by decide) ?_
        refine r_iinc (dk kX9_rulingByInfluence 52 rfl) (by decide) rfl rfl rfl ?_
        simp only [List.set_cons_succ, List.set_cons_zero]
        refine r_goto (tgt := 2) (dk kX9_rulingByInfluence 53 rfl) (by decide) ?_
        -- at 2
        rw [show nI k + Int32.ofInt 1 = nI (k + 1) from nI_1 k]
        exact ih (k + 1) _ _ (fun _ h => by cases h) rfl (fun _ h => by cases h) rfl (by omega) (fun i hi => by
          rcases Nat.lt_succ_iff_lt_or_eq.mp hi with q | q
          · exact hn i q
          · rw [q]; exact decide_eq_false he)
    | succ d2 ih2 =>
      intro q hq
      have hst : ct P (q + 1) = ct P q + (if P q = true then 1 else 0) := rfl
      have h9 := ih2 (q + 1) (by omega)
      rw [hst, hPq] at h9
      have r1 := hR k
      have r2 := hR q
      refine r_iload (dk kX9_rulingByInfluence 12 rfl) rfl ?_
      refine r_aload_n (dk kX9_rulingByInfluence 13 rfl) rfl ?_
      refine r_getR (dk kX9_rulingByInfluence 14 rfl) fa_X9_7_8 o.k rfl o.r0 ?_
      refine r_iconst (v := 5) (dk kX9_rulingByInfluence 15 rfl) (by decide) ?_
      refine r_ial (dk kX9_rulingByInfluence 16 rfl) o.k1 o.l1 (j := 5) rfl (by decide) (by decide) ?_
      refine r_icmp_ge (tgt := 76) (dk kX9_rulingByInfluence 17 rfl) (by decide) (fun c25 => absurd c25 (by rw [hS]; exact nI_ge (by omega) (by omega))) (fun c25 => ?_)
      refine r_iload_n (dk kX9_rulingByInfluence 18 rfl) rfl ?_
      refine r_aload_n (dk kX9_rulingByInfluence 19 rfl) rfl ?_
      refine r_iload (dk kX9_rulingByInfluence 20 rfl) rfl ?_
      refine r_callVp (I' := IX9_reaches) (as := [_]) (dk kX9_rulingByInfluence 21 rfl) mv_X9_reaches ml_X9_161 rfl rfl o.k rfl rfl (Nat.le_of_ble_eq_true rfl) ⟨by decide, by decide⟩ ⟨rfl, rfl⟩ ⟨Nat.le_of_ble_eq_true rfl, Nat.le_of_ble_eq_true rfl⟩ (k_X9_reaches o gi (by omega)) ?_
      refine r_aload_n (dk kX9_rulingByInfluence 22 rfl) rfl ?_
      refine r_iload_n (dk kX9_rulingByInfluence 23 rfl) rfl ?_
      refine r_callVp (I' := IX9_reaches) (as := [_]) (dk kX9_rulingByInfluence 24 rfl) mv_X9_reaches ml_X9_161 rfl rfl o.k rfl rfl (Nat.le_of_ble_eq_true rfl) ⟨by decide, by decide⟩ ⟨rfl, rfl⟩ ⟨Nat.le_of_ble_eq_true rfl, Nat.le_of_ble_eq_true rfl⟩ (k_X9_reaches o gi (by omega)) ?_
      -- at 40
      by_cases hgt : gReach (mi M (h + 1)) k < gReach (mi M (h + 1)) q
      · rw [decide_eq_true (Or.inl hgt), if_pos rfl] at h9
        refine r_icmp_gt (tgt := 63) (dk kX9_rulingByInfluence 25 rfl) (by decide) (fun c40 => ?_) (fun c40 => absurd (nI_lt hgt (by omega)) c40)
        refine r_iconst (v := 1) (dk kX9_rulingByInfluence 36 rfl) (by decide) ?_
        refine r_goto (tgt := 68) (dk kX9_rulingByInfluence 37 rfl) (by decide) ?_
        refine r_iadd (dk kX9_rulingByInfluence 39 rfl) ?_
        refine r_istore_n (j := 3) (dk kX9_rulingByInfluence 40 rfl) rfl (by decide) rfl ?_
        simp only [List.set_cons_succ, List.set_cons_zero]
        refine r_iinc (dk kX9_rulingByInfluence 41 rfl) (by decide) rfl rfl rfl ?_
        simp only [List.set_cons_succ, List.set_cons_zero]
        refine r_goto (tgt := 17) (dk kX9_rulingByInfluence 42 rfl) (by decide) ?_
        -- at 17
        rw [show nI q + Int32.ofInt 1 = nI (q + 1) from nI_1 q, nI_1]
        exact h9
      · refine r_icmp_gt (tgt := 63) (dk kX9_rulingByInfluence 25 rfl) (by decide) (fun c40 => absurd c40 (Int32.not_lt.mpr (nI_le (by omega) (by omega)))) (fun c40 => ?_)
        refine r_aload_n (dk kX9_rulingByInfluence 26 rfl) rfl ?_
        refine r_iload (dk kX9_rulingByInfluence 27 rfl) rfl ?_
        refine r_callVp (I' := IX9_reaches) (as := [_]) (dk kX9_rulingByInfluence 28 rfl) mv_X9_reaches ml_X9_161 rfl rfl o.k rfl rfl (Nat.le_of_ble_eq_true rfl) ⟨by decide, by decide⟩ ⟨rfl, rfl⟩ ⟨Nat.le_of_ble_eq_true rfl, Nat.le_of_ble_eq_true rfl⟩ (k_X9_reaches o gi (by omega)) ?_
        refine r_aload_n (dk kX9_rulingByInfluence 29 rfl) rfl ?_
        refine r_iload_n (dk kX9_rulingByInfluence 30 rfl) rfl ?_
        refine r_callVp (I' := IX9_reaches) (as := [_]) (dk kX9_rulingByInfluence 31 rfl) mv_X9_reaches ml_X9_161 rfl rfl o.k rfl rfl (Nat.le_of_ble_eq_true rfl) ⟨by decide, by decide⟩ ⟨rfl, rfl⟩ ⟨Nat.le_of_ble_eq_true rfl, Nat.le_of_ble_eq_true rfl⟩ (k_X9_reaches o gi (by omega)) ?_
        -- at 54
        by_cases heq : gReach (mi M (h + 1)) q = gReach (mi M (h + 1)) k
        · by_cases hlt : q < k
          · rw [decide_eq_true (Or.inr ⟨heq, hlt⟩), if_pos rfl] at h9
            refine r_icmp_ne (tgt := 67) (dk kX9_rulingByInfluence 32 rfl) (by decide) (fun c54 => absurd c54 (by rw [heq]; exact fun z => z rfl)) (fun c54 => ?_)
            refine r_iload (dk kX9_rulingByInfluence 33 rfl) rfl ?_
            refine r_iload_n (dk kX9_rulingByInfluence 34 rfl) rfl ?_
            refine r_icmp_ge (tgt := 67) (dk kX9_rulingByInfluence 35 rfl) (by decide) (fun c60 => absurd c60 (nI_ge hlt (by omega))) (fun c60 => ?_)
            refine r_iconst (v := 1) (dk kX9_rulingByInfluence 36 rfl) (by decide) ?_
            refine r_goto (tgt := 68) (dk kX9_rulingByInfluence 37 rfl) (by decide) ?_
            refine r_iadd (dk kX9_rulingByInfluence 39 rfl) ?_
            refine r_istore_n (j := 3) (dk kX9_rulingByInfluence 40 rfl) rfl (by decide) rfl ?_
            simp only [List.set_cons_succ, List.set_cons_zero]
            refine r_iinc (dk kX9_rulingByInfluence 41 rfl) (by decide) rfl rfl rfl ?_
            simp only [List.set_cons_succ, List.set_cons_zero]
            refine r_goto (tgt := 17) (dk kX9_rulingByInfluence 42 rfl) (by decide) ?_
            -- at 17
            rw [show nI q + Int32.ofInt 1 = nI (q + 1) from nI_1 q, nI_1]
            exact h9
          · rw [decide_eq_false (by omega), if_neg (by decide)] at h9
            refine r_icmp_ne (tgt := 67) (dk kX9_rulingByInfluence 32 rfl) (by decide) (fun c54 => absurd c54 (by rw [heq]; exact fun z => z rfl)) (fun c54 => ?_)
            refine r_iload (dk kX9_rulingByInfluence 33 rfl) rfl ?_
            refine r_iload_n (dk kX9_rulingByInfluence 34 rfl) rfl ?_
            refine r_icmp_ge (tgt := 67) (dk kX9_rulingByInfluence 35 rfl) (by decide) (fun c60 => ?_) (fun c60 => absurd (nI_le (by omega) (by omega)) c60)
            refine r_iconst (v := 0) (dk kX9_rulingByInfluence 38 rfl) (by decide) ?_
            refine r_iadd (dk kX9_rulingByInfluence 39 rfl) ?_
            refine r_istore_n (j := 3) (dk kX9_rulingByInfluence 40 rfl) rfl (by decide) rfl ?_
            simp only [List.set_cons_succ, List.set_cons_zero]
            refine r_iinc (dk kX9_rulingByInfluence 41 rfl) (by decide) rfl rfl rfl ?_
            simp only [List.set_cons_succ, List.set_cons_zero]
            refine r_goto (tgt := 17) (dk kX9_rulingByInfluence 42 rfl) (by decide) ?_
            -- at 17
            rw [show nI q + Int32.ofInt 1 = nI (q + 1) from nI_1 q, show ∀ x : Int32, x + 0 = x from Int32.add_zero]
            exact h9
        · rw [decide_eq_false (by omega), if_neg (by decide)] at h9
          refine r_icmp_ne (tgt := 67) (dk kX9_rulingByInfluence 32 rfl) (by decide) (fun c54 => ?_) (fun c54 => absurd (fun z => heq (nI_inj (by omega) (by omega) z)) c54)
          refine r_iconst (v := 0) (dk kX9_rulingByInfluence 38 rfl) (by decide) ?_
          refine r_iadd (dk kX9_rulingByInfluence 39 rfl) ?_
          refine r_istore_n (j := 3) (dk kX9_rulingByInfluence 40 rfl) rfl (by decide) rfl ?_
          simp only [List.set_cons_succ, List.set_cons_zero]
          refine r_iinc (dk kX9_rulingByInfluence 41 rfl) (by decide) rfl rfl rfl ?_
          simp only [List.set_cons_succ, List.set_cons_zero]
          refine r_goto (tgt := 17) (dk kX9_rulingByInfluence 42 rfl) (by decide) ?_
          -- at 17
          rw [show nI q + Int32.ofInt 1 = nI (q + 1) from nI_1 q, show ∀ x : Int32, x + 0 = x from Int32.add_zero]
          exact h9
theorem k_X9_meanVotes (o : MO M h) {F : Nat} (gi : GI F (mi M (h + 1))) : KK G IX9_meanVotes [.ref h] M (qd (fun y M' => y = (if gn (mi M (h + 1)) 3 = 0 then FP.dconst0 else FP.ddiv (FP.i2d (nI (gSv (mi M (h + 1)) (gn (mi M (h + 1)) 3)))) (FP.i2d (nI (gn (mi M (h + 1)) 3)))) ∧ M' = mFail M h (bI (gn (mi M (h + 1)) 3 = 0))) nox) := by
  refine KK.ofW (by decide) (by simp [Value.category]) (Nat.le_of_ble_eq_true rfl) rfl ?_
  show WW _ _ _ 0 [_, lj, lj] [] _ _ _
  obtain ⟨hS, hS2⟩ := gi.p
  have gf : ∀ p, GI F (mi (mFail M h p) (h + 1)) := fun p => by rw [mf1]; exact gi
  have e1 := mf1 M h 0
  refine r_aload_n (dk kX9_meanVotes 0 rfl) rfl ?_
  refine r_aload_n (dk kX9_meanVotes 1 rfl) rfl ?_
  refine r_getR (dk kX9_meanVotes 2 rfl) fa_X9_7_8 o.k rfl o.r0 ?_
  refine r_iconst (v := 3) (dk kX9_meanVotes 3 rfl) (by decide) ?_
  refine r_ial (dk kX9_meanVotes 4 rfl) o.k1 o.l1 (j := 3) rfl (by decide) (by decide) ?_
  -- at 7
  rw [hS]
  by_cases h0 : gn (mi M (h + 1)) 3 = 0
  · rw [if_pos h0, bI_t h0]
    refine r_if_ne (tgt := 14) (dk kX9_meanVotes 5 rfl) (by decide) (fun c7 => absurd c7 (by rw [h0]; exact fun z => z rfl)) (fun c7 => ?_)
    refine r_iconst (v := 1) (dk kX9_meanVotes 6 rfl) (by decide) ?_
    refine r_goto (tgt := 15) (dk kX9_meanVotes 7 rfl) (by decide) ?_
    refine r_callVp (I' := IX9_fails) (as := [_]) (dk kX9_meanVotes 9 rfl) mv_X9_fails ml_X9_80 rfl rfl o.k rfl rfl (Nat.le_of_ble_eq_true rfl) ⟨by decide, by decide⟩ ⟨rfl, rfl⟩ ⟨Nat.le_of_ble_eq_true rfl, Nat.le_of_ble_eq_true rfl⟩ (k_X9_fails o _) ?_
    refine r_if_eq (tgt := 23) (dk kX9_meanVotes 10 rfl) (by decide) (fun c18 => absurd c18 (by decide)) (fun c18 => ?_)
    refine r_dconst0 (dk kX9_meanVotes 11 rfl) ?_
    refine r_dreturn (dk kX9_meanVotes 12 rfl) rfl ⟨Nat.le_of_ble_eq_true rfl, Nat.le_of_ble_eq_true rfl⟩ ⟨rfl, rfl⟩
  · rw [if_neg h0, bI_f h0]
    refine r_if_ne (tgt := 14) (dk kX9_meanVotes 5 rfl) (by decide) (fun c7 => ?_) (fun c7 => absurd (fun z => h0 (nI_inj (by omega) (by decide) z)) c7)
    refine r_iconst (v := 0) (dk kX9_meanVotes 8 rfl) (by decide) ?_
    refine r_callVp (I' := IX9_fails) (as := [_]) (dk kX9_meanVotes 9 rfl) mv_X9_fails ml_X9_80 rfl rfl o.k rfl rfl (Nat.le_of_ble_eq_true rfl) ⟨by decide, by decide⟩ ⟨rfl, rfl⟩ ⟨Nat.le_of_ble_eq_true rfl, Nat.le_of_ble_eq_true rfl⟩ (k_X9_fails o _) ?_
    refine r_if_eq (tgt := 23) (dk kX9_meanVotes 10 rfl) (by decide) (fun c18 => ?_) (fun c18 => absurd (by decide) c18)
    refine r_iconst (v := 0) (dk kX9_meanVotes 13 rfl) (by decide) ?_
    refine r_istore_n (j := 1) (dk kX9_meanVotes 14 rfl) rfl (by decide) rfl ?_
    simp only [List.set_cons_succ, List.set_cons_zero]
    refine r_iconst (v := 0) (dk kX9_meanVotes 15 rfl) (by decide) ?_
    refine r_istore_n (j := 2) (dk kX9_meanVotes 16 rfl) rfl (by decide) rfl ?_
    simp only [List.set_cons_succ, List.set_cons_zero]
    -- at 27
    suffices key : ∀ d j, j + d = gn (mi M (h + 1)) 3 → WW G IX9_meanVotes (qd (fun y M' => y = FP.ddiv (FP.i2d (nI (gSv (mi M (h + 1)) (gn (mi M (h + 1)) 3)))) (FP.i2d (nI (gn (mi M (h + 1)) 3))) ∧ M' = mFail M h 0) nox) 27 [.ref h, .int (nI (gSv (mi M (h + 1)) j)), .int (nI j)] [] (mFail M h 0) 0 0 from key _ 0 (Nat.zero_add _)
    intro d
    induction d with
    | zero =>
      intro j hj
      have hj : j = gn (mi M (h + 1)) 3 := hj
      subst hj
      have hle := gSv_le (mi M (h + 1)) (gn (mi M (h + 1)) 3)
      refine r_iload_n (dk kX9_meanVotes 17 rfl) rfl ?_
      refine r_aload_n (dk kX9_meanVotes 18 rfl) rfl ?_
      refine r_getR (dk kX9_meanVotes 19 rfl) fa_X9_7_8 o.k rfl (o.fl _).r0 ?_
      refine r_iconst (v := 3) (dk kX9_meanVotes 20 rfl) (by decide) ?_
      refine r_ial (dk kX9_meanVotes 21 rfl) (o.fl _).k1 (o.fl _).l1 (j := 3) rfl (by decide) (by decide) ?_
      refine r_icmp_ge (tgt := 51) (dk kX9_meanVotes 22 rfl) (by decide) (fun c34 => ?_) (fun c34 => absurd (by rw [e1, hS]; exact nI_le (by omega) (by omega)) c34)
      refine r_iload_n (dk kX9_meanVotes 31 rfl) rfl ?_
      refine r_i2d (dk kX9_meanVotes 32 rfl) ?_
      refine r_aload_n (dk kX9_meanVotes 33 rfl) rfl ?_
      refine r_getR (dk kX9_meanVotes 34 rfl) fa_X9_7_8 o.k rfl (o.fl _).r0 ?_
      refine r_iconst (v := 3) (dk kX9_meanVotes 35 rfl) (by decide) ?_
      refine r_ial (dk kX9_meanVotes 36 rfl) (o.fl _).k1 (o.fl _).l1 (j := 3) rfl (by decide) (by decide) ?_
      -- at 59
      rw [e1, hS]
      refine r_i2d (dk kX9_meanVotes 37 rfl) ?_
      refine r_ddiv (dk kX9_meanVotes 38 rfl) (nn_64 _ (by omega) _ hS2 h0) ?_
      refine r_dreturn (dk kX9_meanVotes 39 rfl) rfl ⟨Nat.le_of_ble_eq_true rfl, Nat.le_of_ble_eq_true rfl⟩ ⟨rfl, rfl⟩
    | succ d ih =>
      intro j hj
      refine r_iload_n (dk kX9_meanVotes 17 rfl) rfl ?_
      refine r_aload_n (dk kX9_meanVotes 18 rfl) rfl ?_
      refine r_getR (dk kX9_meanVotes 19 rfl) fa_X9_7_8 o.k rfl (o.fl _).r0 ?_
      refine r_iconst (v := 3) (dk kX9_meanVotes 20 rfl) (by decide) ?_
      refine r_ial (dk kX9_meanVotes 21 rfl) (o.fl _).k1 (o.fl _).l1 (j := 3) rfl (by decide) (by decide) ?_
      refine r_icmp_ge (tgt := 51) (dk kX9_meanVotes 22 rfl) (by decide) (fun c34 => absurd c34 (by rw [e1, hS]; exact nI_ge (by omega) (by omega))) (fun c34 => ?_)
      refine r_iload_n (dk kX9_meanVotes 23 rfl) rfl ?_
      refine r_aload_n (dk kX9_meanVotes 24 rfl) rfl ?_
      refine r_iload_n (dk kX9_meanVotes 25 rfl) rfl ?_
      refine r_callVp (I' := IX9_votes) (as := [_]) (dk kX9_meanVotes 26 rfl) mv_X9_votes ml_X9_123 rfl rfl o.k rfl rfl (Nat.le_of_ble_eq_true rfl) ⟨by decide, by decide⟩ ⟨rfl, rfl⟩ ⟨Nat.le_of_ble_eq_true rfl, Nat.le_of_ble_eq_true rfl⟩ (k_X9_votes (o.fl _) (gf _) (by rw [e1]; omega)) ?_
      -- at 43
      rw [e1]
      refine r_iadd (dk kX9_meanVotes 27 rfl) ?_
      refine r_istore_n (j := 1) (dk kX9_meanVotes 28 rfl) rfl (by decide) rfl ?_
      simp only [List.set_cons_succ, List.set_cons_zero]
      refine r_iinc (dk kX9_meanVotes 29 rfl) (by decide) rfl rfl rfl ?_
      simp only [List.set_cons_succ, List.set_cons_zero]
      refine r_goto (tgt := 27) (dk kX9_meanVotes 30 rfl) (by decide) ?_
      -- at 27
      rw [show nI j + Int32.ofInt 1 = nI (j + 1) from nI_1 j, nI_add]
      exact ih (j + 1) (by omega)
theorem gSg_le {F : Nat} {g : Nat → Int32} (gi : GI F g) : ∀ n, n ≤ gn g 5 → gSg g n ≤ n
  | 0, _ => Nat.le_refl _
  | n + 1, h => by
    have ih := gSg_le gi n (by omega)
    have h2 := (gi.ri (r := n) (by omega)).1.2
    unfold gSg
    omega
theorem k_X9_grantedShare (o : MO M h) {F : Nat} (gi : GI F (mi M (h + 1))) : KK G IX9_grantedShare [.ref h] M (qf (fun y M' => y = (if gn (mi M (h + 1)) 5 = 0 then FP.fconst0 else FP.fdiv (FP.i2f (nI (gSg (mi M (h + 1)) (gn (mi M (h + 1)) 5)))) (FP.i2f (nI (gn (mi M (h + 1)) 5)))) ∧ M' = mFail M h (bI (gn (mi M (h + 1)) 5 = 0))) nox) := by
  refine KK.ofW (by decide) (by simp [Value.category]) (Nat.le_of_ble_eq_true rfl) rfl ?_
  show WW _ _ _ 0 [_, lj, lj] [] _ _ _
  obtain ⟨hS, hS2⟩ := gi.r
  have e1 := mf1 M h 0
  refine r_aload_n (dk kX9_grantedShare 0 rfl) rfl ?_
  refine r_aload_n (dk kX9_grantedShare 1 rfl) rfl ?_
  refine r_getR (dk kX9_grantedShare 2 rfl) fa_X9_7_8 o.k rfl o.r0 ?_
  refine r_iconst (v := 5) (dk kX9_grantedShare 3 rfl) (by decide) ?_
  refine r_ial (dk kX9_grantedShare 4 rfl) o.k1 o.l1 (j := 5) rfl (by decide) (by decide) ?_
  -- at 7
  rw [hS]
  by_cases h0 : gn (mi M (h + 1)) 5 = 0
  · rw [if_pos h0, bI_t h0]
    refine r_if_ne (tgt := 14) (dk kX9_grantedShare 5 rfl) (by decide) (fun c7 => absurd c7 (by rw [h0]; exact fun z => z rfl)) (fun c7 => ?_)
    refine r_iconst (v := 1) (dk kX9_grantedShare 6 rfl) (by decide) ?_
    refine r_goto (tgt := 15) (dk kX9_grantedShare 7 rfl) (by decide) ?_
    refine r_callVp (I' := IX9_fails) (as := [_]) (dk kX9_grantedShare 9 rfl) mv_X9_fails ml_X9_80 rfl rfl o.k rfl rfl (Nat.le_of_ble_eq_true rfl) ⟨by decide, by decide⟩ ⟨rfl, rfl⟩ ⟨Nat.le_of_ble_eq_true rfl, Nat.le_of_ble_eq_true rfl⟩ (k_X9_fails o _) ?_
    refine r_if_eq (tgt := 23) (dk kX9_grantedShare 10 rfl) (by decide) (fun c18 => absurd c18 (by decide)) (fun c18 => ?_)
    refine r_fconst0 (dk kX9_grantedShare 11 rfl) ?_
    refine r_freturn (dk kX9_grantedShare 12 rfl) rfl ⟨Nat.le_of_ble_eq_true rfl, Nat.le_of_ble_eq_true rfl⟩ ⟨rfl, rfl⟩
  · rw [if_neg h0, bI_f h0]
    refine r_if_ne (tgt := 14) (dk kX9_grantedShare 5 rfl) (by decide) (fun c7 => ?_) (fun c7 => absurd (fun z => h0 (nI_inj (by omega) (by decide) z)) c7)
    refine r_iconst (v := 0) (dk kX9_grantedShare 8 rfl) (by decide) ?_
    refine r_callVp (I' := IX9_fails) (as := [_]) (dk kX9_grantedShare 9 rfl) mv_X9_fails ml_X9_80 rfl rfl o.k rfl rfl (Nat.le_of_ble_eq_true rfl) ⟨by decide, by decide⟩ ⟨rfl, rfl⟩ ⟨Nat.le_of_ble_eq_true rfl, Nat.le_of_ble_eq_true rfl⟩ (k_X9_fails o _) ?_
    refine r_if_eq (tgt := 23) (dk kX9_grantedShare 10 rfl) (by decide) (fun c18 => ?_) (fun c18 => absurd (by decide) c18)
    refine r_iconst (v := 0) (dk kX9_grantedShare 13 rfl) (by decide) ?_
    refine r_istore_n (j := 1) (dk kX9_grantedShare 14 rfl) rfl (by decide) rfl ?_
    simp only [List.set_cons_succ, List.set_cons_zero]
    refine r_iconst (v := 0) (dk kX9_grantedShare 15 rfl) (by decide) ?_
    refine r_istore_n (j := 2) (dk kX9_grantedShare 16 rfl) rfl (by decide) rfl ?_
    simp only [List.set_cons_succ, List.set_cons_zero]
    -- at 27
    suffices key : ∀ d j, j + d = gn (mi M (h + 1)) 5 → WW G IX9_grantedShare (qf (fun y M' => y = FP.fdiv (FP.i2f (nI (gSg (mi M (h + 1)) (gn (mi M (h + 1)) 5)))) (FP.i2f (nI (gn (mi M (h + 1)) 5))) ∧ M' = mFail M h 0) nox) 27 [.ref h, .int (nI (gSg (mi M (h + 1)) j)), .int (nI j)] [] (mFail M h 0) 0 0 from key _ 0 (Nat.zero_add _)
    intro d
    induction d with
    | zero =>
      intro j hj
      have hj : j = gn (mi M (h + 1)) 5 := hj
      subst hj
      have hle := gSg_le gi _ (Nat.le_refl _)
      refine r_iload_n (dk kX9_grantedShare 17 rfl) rfl ?_
      refine r_aload_n (dk kX9_grantedShare 18 rfl) rfl ?_
      refine r_getR (dk kX9_grantedShare 19 rfl) fa_X9_7_8 o.k rfl (o.fl _).r0 ?_
      refine r_iconst (v := 5) (dk kX9_grantedShare 20 rfl) (by decide) ?_
      refine r_ial (dk kX9_grantedShare 21 rfl) (o.fl _).k1 (o.fl _).l1 (j := 5) rfl (by decide) (by decide) ?_
      refine r_icmp_ge (tgt := 52) (dk kX9_grantedShare 22 rfl) (by decide) (fun c34 => ?_) (fun c34 => absurd (by rw [e1, hS]; exact nI_le (by omega) (by omega)) c34)
      refine r_iload_n (dk kX9_grantedShare 32 rfl) rfl ?_
      refine r_i2f (dk kX9_grantedShare 33 rfl) ?_
      refine r_aload_n (dk kX9_grantedShare 34 rfl) rfl ?_
      refine r_getR (dk kX9_grantedShare 35 rfl) fa_X9_7_8 o.k rfl (o.fl _).r0 ?_
      refine r_iconst (v := 5) (dk kX9_grantedShare 36 rfl) (by decide) ?_
      refine r_ial (dk kX9_grantedShare 37 rfl) (o.fl _).k1 (o.fl _).l1 (j := 5) rfl (by decide) (by decide) ?_
      -- at 60
      rw [e1, hS]
      refine r_i2f (dk kX9_grantedShare 38 rfl) ?_
      refine r_fdiv (dk kX9_grantedShare 39 rfl) (nn_32 _ (by omega) _ hS2 h0) ?_
      refine r_freturn (dk kX9_grantedShare 40 rfl) rfl ⟨Nat.le_of_ble_eq_true rfl, Nat.le_of_ble_eq_true rfl⟩ ⟨rfl, rfl⟩
    | succ d ih =>
      intro j hj
      refine r_iload_n (dk kX9_grantedShare 17 rfl) rfl ?_
      refine r_aload_n (dk kX9_grantedShare 18 rfl) rfl ?_
      refine r_getR (dk kX9_grantedShare 19 rfl) fa_X9_7_8 o.k rfl (o.fl _).r0 ?_
      refine r_iconst (v := 5) (dk kX9_grantedShare 20 rfl) (by decide) ?_
      refine r_ial (dk kX9_grantedShare 21 rfl) (o.fl _).k1 (o.fl _).l1 (j := 5) rfl (by decide) (by decide) ?_
      refine r_icmp_ge (tgt := 52) (dk kX9_grantedShare 22 rfl) (by decide) (fun c34 => absurd c34 (by rw [e1, hS]; exact nI_ge (by omega) (by omega))) (fun c34 => ?_)
      refine r_iload_n (dk kX9_grantedShare 23 rfl) rfl ?_
      refine r_aload_n (dk kX9_grantedShare 24 rfl) rfl ?_
      refine r_iload_n (dk kX9_grantedShare 25 rfl) rfl ?_
      refine r_iconst (v := 0) (dk kX9_grantedShare 26 rfl) (by decide) ?_
      refine r_callVp (I' := IX9_by) (as := [_, _]) (dk kX9_grantedShare 27 rfl) mv_X9_by ml_X9_146 rfl rfl o.k rfl rfl (Nat.le_of_ble_eq_true rfl) ⟨by decide, by decide⟩ ⟨rfl, rfl⟩ ⟨Nat.le_of_ble_eq_true rfl, Nat.le_of_ble_eq_true rfl⟩ (k_X9_by0 (o.fl _) (p := j) (by omega)) ?_
      -- at 44
      rw [e1, (gi.ri (r := j) (by omega)).1.1]
      refine r_iadd (dk kX9_grantedShare 28 rfl) ?_
      refine r_istore_n (j := 1) (dk kX9_grantedShare 29 rfl) rfl (by decide) rfl ?_
      simp only [List.set_cons_succ, List.set_cons_zero]
      refine r_iinc (dk kX9_grantedShare 30 rfl) (by decide) rfl rfl rfl ?_
      simp only [List.set_cons_succ, List.set_cons_zero]
      refine r_goto (tgt := 27) (dk kX9_grantedShare 31 rfl) (by decide) ?_
      -- at 27
      rw [show nI j + Int32.ofInt 1 = nI (j + 1) from nI_1 j, nI_add]
      exact ih (j + 1) (by omega)
end MODEL
