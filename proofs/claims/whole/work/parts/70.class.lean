/-! THE CLASS: means, the ranking by influence -/
theorem gSv_sm (g : Nat → Int32) : ∀ n, gSv g n = sm (gVotes g) n
  | 0 => rfl
  | n + 1 => by
    show gSv g n + gVotes g n = sm (gVotes g) n + gVotes g n
    rw [gSv_sm g n]
theorem ct_le2 {p p' : Nat → Bool} : ∀ {n : Nat}, (∀ z, z < n → p z = true → p' z = true) → ct p n ≤ ct p' n
  | 0, _ => Nat.le_refl _
  | n + 1, h => by
    have ih := ct_le2 (n := n) (fun z hz => h z (by omega))
    have h1 := h n (by omega)
    show ct p n + (if p n = true then 1 else 0) ≤ ct p' n + (if p' n = true then 1 else 0)
    by_cases e : p n = true
    · rw [if_pos e, if_pos (h1 e)]; omega
    · rw [if_neg e]
      split <;> omega
theorem ct_lt2 {p p' : Nat → Bool} : ∀ {n w : Nat}, (∀ z, z < n → p z = true → p' z = true) → w < n → p w = false → p' w = true → ct p n < ct p' n
  | 0, w, _, h, _, _ => absurd h (Nat.not_lt_zero w)
  | n + 1, w, h, hw, h1, h2 => by
    show ct p n + (if p n = true then 1 else 0) < ct p' n + (if p' n = true then 1 else 0)
    by_cases e : w = n
    · subst e
      have := ct_le2 (n := w) (fun z hz => h z (by omega))
      rw [if_pos h2, if_neg (by rw [h1]; exact Bool.false_ne_true)]
      omega
    · have ih := ct_lt2 (n := n) (fun z hz => h z (by omega)) (show w < n by omega) h1 h2
      have h3 := h n (by omega)
      by_cases e2 : p n = true
      · rw [if_pos e2, if_pos (h3 e2)]; omega
      · rw [if_neg e2]
        split <;> omega
theorem ct_all : ∀ n, ct (fun _ => true) n = n
  | 0 => rfl
  | n + 1 => by
    show ct (fun _ => true) n + 1 = n + 1
    rw [ct_all n]
theorem gRank_lt {g : Nat → Int32} {k : Nat} (hk : k < gn g 5) : gRank g k < gn g 5 := by
  have h := ct_lt2 (p := fun o => decide (gReach g k < gReach g o ∨ gReach g o = gReach g k ∧ o < k)) (p' := fun _ => true) (n := gn g 5) (fun _ _ _ => rfl) hk (decide_eq_false (by omega)) rfl
  rw [ct_all] at h
  exact h
theorem gRank_ne {g : Nat → Int32} {a b : Nat} (ha : a < gn g 5) (hb : b < gn g 5) (hab : a ≠ b) : gRank g a ≠ gRank g b := by
  have key : ∀ a b, a < gn g 5 → (gReach g b < gReach g a ∨ gReach g a = gReach g b ∧ a < b) → gRank g a < gRank g b := fun a b ha h => by
    refine ct_lt2 (fun z hz h1 => ?_) ha (decide_eq_false (by omega)) (decide_eq_true h)
    have h1 := of_decide_eq_true h1
    exact decide_eq_true (by omega)
  by_cases h : gReach g b < gReach g a ∨ gReach g a = gReach g b ∧ a < b
  · exact Nat.ne_of_lt (key a b ha h)
  · exact Nat.ne_of_gt (key b a hb (by omega))
theorem gRank_at {g : Nat → Int32} {m : Nat} (hm : m < gn g 5) : ∃ k, k < gn g 5 ∧ gRank g k = m := q_sur (q := gRank g) (fun j hj => gRank_lt hj) (fun i j hij hj => gRank_ne (by omega) hj (by omega)) hm
theorem gReach_le (g : Nat → Int32) (k : Nat) : gReach g k ≤ gn g 5 := ct_le _ _
/-- what the ranking leaves: the row of influences may have changed -/
def QIn (M : Mm) (x : Nat) (sp : SPv) : QQ := qi (fun z M' => sp.1 = 0 ∧ z = sp.2 ∧ ∃ f, M' = sA M (x + 349) f) (fun E M' => sp.1 ≠ 0 ∧ E = nE ∧ ∃ z, M' = sX M z)
section CLASS
variable {G : GG} {M : Mm} {x F : Nat} {g : Nat → Int32} {q : Nat → Nat}
theorem k_X8_meanVotes (o : BO M x) (v : SV M (x + 1) g q) (i : GI F g) : KK G IX8_meanVotes [.ref x] M (qd (fun y M' => gn g 3 ≠ 0 ∧ y = FP.ddiv (FP.i2d (nI (gSv g (gn g 3)))) (FP.i2d (nI (gn g 3))) ∧ M' = M) (fun E M' => gn g 3 = 0 ∧ E = "java/lang/ArithmeticException" ∧ ∃ z, M' = sX M z)) := by
  refine KK.ofW (by decide) (by simp [Value.category]) (Nat.le_of_ble_eq_true rfl) rfl ?_
  show WW _ _ _ 0 [_, lj, lj] [] _ _ _
  have b3 := i.p.2
  have hle := gSv_le g (gn g 3)
  have es : gSv g (gn g 3) = sm (fun i => gVotes g (q i)) (gn g 3) := by rw [gSv_sm]; exact (v.o.smP (gVotes g)).symm
  refine r_aload_n (dk kX8_meanVotes 0 rfl) rfl ?_
  refine r_getR (dk kX8_meanVotes 1 rfl) fa_X8_12_7 o.k rfl o.r0 ?_
  refine r_geti (dk kX8_meanVotes 2 rfl) fa_X8_110_5 o.s.k rfl ?_
  -- at 7
  rw [v.c3 i]
  by_cases h0 : gn g 3 = 0
  · refine r_if_ne (tgt := 20) (dk kX8_meanVotes 3 rfl) (by decide) (fun c7 => absurd c7 (by rw [h0]; exact fun z => z rfl)) (fun c7 => ?_)
    -- at 10
    refine r_throwS xw_233 (is := 235) (List.mem_of_getElem? (i := 3) rfl) rfl rfl (dk kX8_meanVotes 4 rfl) (dk kX8_meanVotes 5 rfl) (dk kX8_meanVotes 6 rfl) (dk kX8_meanVotes 7 rfl) (dk kX8_meanVotes 8 rfl) ⟨Nat.le_of_ble_eq_true rfl, Nat.le_of_ble_eq_true rfl⟩ ⟨Nat.le_of_ble_eq_true rfl, Nat.le_of_ble_eq_true rfl⟩ (fun z => ?_)
    exact ⟨h0, rfl, _, rfl⟩
  · refine r_if_ne (tgt := 20) (dk kX8_meanVotes 3 rfl) (by decide) (fun c7 => ?_) (fun c7 => absurd (nI_ne0 (by omega) (by omega)) c7)
    refine r_iconst (v := 0) (dk kX8_meanVotes 9 rfl) (by decide) ?_
    refine r_istore_n (j := 1) (dk kX8_meanVotes 10 rfl) rfl (by decide) rfl ?_
    simp only [List.set_cons_succ, List.set_cons_zero]
    refine r_iconst (v := 0) (dk kX8_meanVotes 11 rfl) (by decide) ?_
    refine r_istore_n (j := 2) (dk kX8_meanVotes 12 rfl) rfl (by decide) rfl ?_
    simp only [List.set_cons_succ, List.set_cons_zero]
    -- at 24
    suffices key : ∀ d j, j + d = gn g 3 → WW G IX8_meanVotes (qd (fun y M' => gn g 3 ≠ 0 ∧ y = FP.ddiv (FP.i2d (nI (gSv g (gn g 3)))) (FP.i2d (nI (gn g 3))) ∧ M' = M) (fun E M' => gn g 3 = 0 ∧ E = "java/lang/ArithmeticException" ∧ ∃ z, M' = sX M z)) 24 [.ref x, .int (nI (sm (fun i => gVotes g (q i)) j)), .int (nI j)] [] M 0 0 from key _ 0 (Nat.zero_add _)
    intro d
    induction d with
    | zero =>
      intro j hj
      have hj : j = gn g 3 := hj
      subst hj
      rw [← es]
      refine r_iload_n (dk kX8_meanVotes 13 rfl) rfl ?_
      refine r_aload_n (dk kX8_meanVotes 14 rfl) rfl ?_
      refine r_getR (dk kX8_meanVotes 15 rfl) fa_X8_12_7 o.k rfl o.r0 ?_
      refine r_geti (dk kX8_meanVotes 16 rfl) fa_X8_110_5 o.s.k rfl ?_
      -- at 32
      rw [v.c3 i]
      refine r_icmp_ge (tgt := 56) (dk kX8_meanVotes 17 rfl) (by decide) (fun c32 => ?_) (fun c32 => absurd (Int32.le_refl _) c32)
      refine r_iload_n (dk kX8_meanVotes 29 rfl) rfl ?_
      refine r_i2d (dk kX8_meanVotes 30 rfl) ?_
      refine r_aload_n (dk kX8_meanVotes 31 rfl) rfl ?_
      refine r_getR (dk kX8_meanVotes 32 rfl) fa_X8_12_7 o.k rfl o.r0 ?_
      refine r_geti (dk kX8_meanVotes 33 rfl) fa_X8_110_5 o.s.k rfl ?_
      -- at 65
      rw [v.c3 i]
      refine r_i2d (dk kX8_meanVotes 34 rfl) ?_
      refine r_ddiv (dk kX8_meanVotes 35 rfl) (nn_64 _ (by omega) _ b3 h0) ?_
      refine r_dreturn (dk kX8_meanVotes 36 rfl) rfl ⟨Nat.le_of_ble_eq_true rfl, Nat.le_of_ble_eq_true rfl⟩ ⟨h0, rfl, rfl⟩
    | succ d ih =>
      intro j hj
      have ka := o.s.ka (j := j) (by omega)
      obtain ⟨-, -, -, -, -, y1, y2, -⟩ := i.pi (v.o.1 j (by omega))
      obtain ⟨p0, p1, p2, p3, p4, p5, p6, p7, p8, pc⟩ := v.p (show j < gn g 3 by omega)
      have hcv := k_X4_countVotes (G := G) (M := M) ka y1.2 y2.2 (p6.trans y1.1) (p7.trans y2.1)
      have ecv : nI (bN (gn g (35 + 11 * q j + 5)) + bN (gn g (35 + 11 * q j + 6))) = nI (gVotes g (q j)) := rfl
      rw [ecv] at hcv
      refine r_iload_n (dk kX8_meanVotes 13 rfl) rfl ?_
      refine r_aload_n (dk kX8_meanVotes 14 rfl) rfl ?_
      refine r_getR (dk kX8_meanVotes 15 rfl) fa_X8_12_7 o.k rfl o.r0 ?_
      refine r_geti (dk kX8_meanVotes 16 rfl) fa_X8_110_5 o.s.k rfl ?_
      -- at 32
      rw [v.c3 i]
      refine r_icmp_ge (tgt := 56) (dk kX8_meanVotes 17 rfl) (by decide) (fun c32 => absurd c32 (nI_ge (by omega) (by omega))) (fun c32 => ?_)
      refine r_iload_n (dk kX8_meanVotes 18 rfl) rfl ?_
      refine r_aload_n (dk kX8_meanVotes 19 rfl) rfl ?_
      refine r_getR (dk kX8_meanVotes 20 rfl) fa_X8_12_7 o.k rfl o.r0 ?_
      refine r_getR (dk kX8_meanVotes 21 rfl) fa_X8_113_5 o.s.k rfl o.s.r3 ?_
      refine r_iload_n (dk kX8_meanVotes 22 rfl) rfl ?_
      refine r_aal (dk kX8_meanVotes 23 rfl) o.s.k4 (by decide) o.s.l4 rfl (show j < 8 by omega) (by decide) (o.s.rp (by omega)) ?_
      refine r_callVp (I' := IX4_countVotes) (as := []) (dk kX8_meanVotes 24 rfl) mv_X4_countVotes ml_X8_238 rfl rfl ka rfl rfl (Nat.le_of_ble_eq_true rfl) ⟨by decide, by decide⟩ ⟨rfl, rfl⟩ ⟨Nat.le_of_ble_eq_true rfl, Nat.le_of_ble_eq_true rfl⟩ hcv ?_
      refine r_iadd (dk kX8_meanVotes 25 rfl) ?_
      -- at 49
      rw [nI_add, show sm (fun i => gVotes g (q i)) j + gVotes g (q j) = sm (fun i => gVotes g (q i)) (j + 1) from rfl]
      refine r_istore_n (j := 1) (dk kX8_meanVotes 26 rfl) rfl (by decide) rfl ?_
      simp only [List.set_cons_succ, List.set_cons_zero]
      refine r_iinc (dk kX8_meanVotes 27 rfl) (by decide) rfl rfl rfl ?_
      simp only [List.set_cons_succ, List.set_cons_zero]
      refine r_goto (tgt := 24) (dk kX8_meanVotes 28 rfl) (by decide) ?_
      -- at 24
      rw [show nI j + Int32.ofInt 1 = nI (j + 1) from nI_1 j]
      exact ih (j + 1) (by omega)
theorem k_X8_grantedShare (o : BO M x) (v : SV M (x + 1) g q) (i : GI F g) : KK G IX8_grantedShare [.ref x] M (qf (fun y M' => gn g 5 ≠ 0 ∧ y = FP.fdiv (FP.i2f (nI (gSg g (gn g 5)))) (FP.i2f (nI (gn g 5))) ∧ M' = M) (fun E M' => gn g 5 = 0 ∧ E = "java/lang/ArithmeticException" ∧ ∃ z, M' = sX M z)) := by
  refine KK.ofW (by decide) (by simp [Value.category]) (Nat.le_of_ble_eq_true rfl) rfl ?_
  show WW _ _ _ 0 [_, lj, lj] [] _ _ _
  have b5 := i.r.2
  have hle := gSg_le i (gn g 5) (Nat.le_refl _)
  refine r_aload_n (dk kX8_grantedShare 0 rfl) rfl ?_
  refine r_getR (dk kX8_grantedShare 1 rfl) fa_X8_12_7 o.k rfl o.r0 ?_
  refine r_geti (dk kX8_grantedShare 2 rfl) fa_X8_177_5 o.s.k rfl ?_
  -- at 7
  rw [v.c5 i]
  by_cases h0 : gn g 5 = 0
  · refine r_if_ne (tgt := 20) (dk kX8_grantedShare 3 rfl) (by decide) (fun c7 => absurd c7 (by rw [h0]; exact fun z => z rfl)) (fun c7 => ?_)
    -- at 10
    refine r_throwS xw_233 (is := 241) (List.mem_of_getElem? (i := 4) rfl) rfl rfl (dk kX8_grantedShare 4 rfl) (dk kX8_grantedShare 5 rfl) (dk kX8_grantedShare 6 rfl) (dk kX8_grantedShare 7 rfl) (dk kX8_grantedShare 8 rfl) ⟨Nat.le_of_ble_eq_true rfl, Nat.le_of_ble_eq_true rfl⟩ ⟨Nat.le_of_ble_eq_true rfl, Nat.le_of_ble_eq_true rfl⟩ (fun z => ?_)
    exact ⟨h0, rfl, _, rfl⟩
  · refine r_if_ne (tgt := 20) (dk kX8_grantedShare 3 rfl) (by decide) (fun c7 => ?_) (fun c7 => absurd (nI_ne0 (by omega) (by omega)) c7)
    refine r_iconst (v := 0) (dk kX8_grantedShare 9 rfl) (by decide) ?_
    refine r_istore_n (j := 1) (dk kX8_grantedShare 10 rfl) rfl (by decide) rfl ?_
    simp only [List.set_cons_succ, List.set_cons_zero]
    refine r_iconst (v := 0) (dk kX8_grantedShare 11 rfl) (by decide) ?_
    refine r_istore_n (j := 2) (dk kX8_grantedShare 12 rfl) rfl (by decide) rfl ?_
    simp only [List.set_cons_succ, List.set_cons_zero]
    -- at 24
    suffices key : ∀ d j, j + d = gn g 5 → WW G IX8_grantedShare (qf (fun y M' => gn g 5 ≠ 0 ∧ y = FP.fdiv (FP.i2f (nI (gSg g (gn g 5)))) (FP.i2f (nI (gn g 5))) ∧ M' = M) (fun E M' => gn g 5 = 0 ∧ E = "java/lang/ArithmeticException" ∧ ∃ z, M' = sX M z)) 24 [.ref x, .int (nI (gSg g j)), .int (nI j)] [] M 0 0 from key _ 0 (Nat.zero_add _)
    intro d
    induction d with
    | zero =>
      intro j hj
      have hj : j = gn g 5 := hj
      subst hj
      refine r_iload_n (dk kX8_grantedShare 13 rfl) rfl ?_
      refine r_aload_n (dk kX8_grantedShare 14 rfl) rfl ?_
      refine r_getR (dk kX8_grantedShare 15 rfl) fa_X8_12_7 o.k rfl o.r0 ?_
      refine r_geti (dk kX8_grantedShare 16 rfl) fa_X8_177_5 o.s.k rfl ?_
      -- at 32
      rw [v.c5 i]
      refine r_icmp_ge (tgt := 59) (dk kX8_grantedShare 17 rfl) (by decide) (fun c32 => ?_) (fun c32 => absurd (Int32.le_refl _) c32)
      refine r_iload_n (dk kX8_grantedShare 28 rfl) rfl ?_
      refine r_i2f (dk kX8_grantedShare 29 rfl) ?_
      refine r_aload_n (dk kX8_grantedShare 30 rfl) rfl ?_
      refine r_getR (dk kX8_grantedShare 31 rfl) fa_X8_12_7 o.k rfl o.r0 ?_
      refine r_geti (dk kX8_grantedShare 32 rfl) fa_X8_177_5 o.s.k rfl ?_
      -- at 68
      rw [v.c5 i]
      refine r_i2f (dk kX8_grantedShare 33 rfl) ?_
      refine r_fdiv (dk kX8_grantedShare 34 rfl) (nn_32 _ (by omega) _ b5 h0) ?_
      refine r_freturn (dk kX8_grantedShare 35 rfl) rfl ⟨Nat.le_of_ble_eq_true rfl, Nat.le_of_ble_eq_true rfl⟩ ⟨h0, rfl, rfl⟩
    | succ d ih =>
      intro j hj
      have kr := o.s.kr (j := j) (by omega)
      have rg := (i.ri (show j < gn g 5 by omega)).1
      have f4 := (v.r (show j < gn g 5 by omega)).1
      have st : gSg g (j + 1) = gSg g j + gn g (123 + 6 * j) := rfl
      refine r_iload_n (dk kX8_grantedShare 13 rfl) rfl ?_
      refine r_aload_n (dk kX8_grantedShare 14 rfl) rfl ?_
      refine r_getR (dk kX8_grantedShare 15 rfl) fa_X8_12_7 o.k rfl o.r0 ?_
      refine r_geti (dk kX8_grantedShare 16 rfl) fa_X8_177_5 o.s.k rfl ?_
      -- at 32
      rw [v.c5 i]
      refine r_icmp_ge (tgt := 59) (dk kX8_grantedShare 17 rfl) (by decide) (fun c32 => absurd c32 (nI_ge (by omega) (by omega))) (fun c32 => ?_)
      refine r_aload_n (dk kX8_grantedShare 18 rfl) rfl ?_
      refine r_getR (dk kX8_grantedShare 19 rfl) fa_X8_12_7 o.k rfl o.r0 ?_
      refine r_getR (dk kX8_grantedShare 20 rfl) fa_X8_199_5 o.s.k rfl o.s.r4 ?_
      refine r_iload_n (dk kX8_grantedShare 21 rfl) rfl ?_
      refine r_aal (dk kX8_grantedShare 22 rfl) o.s.k5 (by decide) o.s.l5 rfl (show j < 16 by omega) (by decide) (o.s.rr (by omega)) ?_
      refine r_geti (dk kX8_grantedShare 23 rfl) fa_X8_184_4 kr rfl ?_
      -- at 47
      rw [f4, rg.1]
      by_cases h1 : gn g (123 + 6 * j) = 0
      · rw [h1] at st ⊢
        refine r_if_eq (tgt := 53) (dk kX8_grantedShare 24 rfl) (by decide) (fun c47 => ?_) (fun c47 => absurd rfl c47)
        refine r_iinc (dk kX8_grantedShare 26 rfl) (by decide) rfl rfl rfl ?_
        simp only [List.set_cons_succ, List.set_cons_zero]
        refine r_goto (tgt := 24) (dk kX8_grantedShare 27 rfl) (by decide) ?_
        -- at 24
        rw [show nI j + Int32.ofInt 1 = nI (j + 1) from nI_1 j]
        have h := ih (j + 1) (by omega)
        rw [st, Nat.add_zero] at h
        exact h
      · have h2 : gn g (123 + 6 * j) = 1 := by have := rg.2; omega
        rw [h2] at st ⊢
        refine r_if_eq (tgt := 53) (dk kX8_grantedShare 24 rfl) (by decide) (fun c47 => absurd c47 (by decide)) (fun c47 => ?_)
        refine r_iinc (dk kX8_grantedShare 25 rfl) (by decide) rfl rfl rfl ?_
        simp only [List.set_cons_succ, List.set_cons_zero]
        refine r_iinc (dk kX8_grantedShare 26 rfl) (by decide) rfl rfl rfl ?_
        simp only [List.set_cons_succ, List.set_cons_zero]
        refine r_goto (tgt := 24) (dk kX8_grantedShare 27 rfl) (by decide) ?_
        -- at 24
        rw [show nI j + Int32.ofInt 1 = nI (j + 1) from nI_1 j, show nI (gSg g j) + Int32.ofInt 1 = nI (gSg g (j + 1)) from (nI_1 _).trans (by rw [st])]
        exact ih (j + 1) (by omega)
theorem k_X8_rankByInfluence (o : BO M x) (v : SV M (x + 1) g q) (i : GI F g) (hf : ∀ k, k < gn g 5 → mi M (x + 349) k = nI (gReach g k)) {k : Nat} (hk : k < gn g 5) : KP G IX8_rankByInfluence [.ref x, .int (nI k)] M (nI (gRank g k)) := by
  refine KK.ofW (by decide) (by simp [Value.category]) (Nat.le_of_ble_eq_true rfl) rfl ?_
  show WW _ _ _ 0 [_, _, lj, lj, lj, lj] [] _ _ _
  have b5 := i.r.2
  have hrk := gReach_le g k
  refine r_iconst (v := 0) (dk kX8_rankByInfluence 0 rfl) (by decide) ?_
  refine r_istore_n (j := 2) (dk kX8_rankByInfluence 1 rfl) rfl (by decide) rfl ?_
  simp only [List.set_cons_succ, List.set_cons_zero]
  refine r_iconst (v := 0) (dk kX8_rankByInfluence 2 rfl) (by decide) ?_
  refine r_istore_n (j := 3) (dk kX8_rankByInfluence 3 rfl) rfl (by decide) rfl ?_
  simp only [List.set_cons_succ, List.set_cons_zero]
  -- at 4
  suffices key : ∀ d j, j + d = gn g 5 → ∀ l1 l2, WW G IX8_rankByInfluence (qi (fun y M' => y = nI (gRank g k) ∧ M' = M) nox) 4 [.ref x, .int (nI k), .int (nI (ct (fun o => decide (gReach g k < gReach g o ∨ gReach g o = gReach g k ∧ o < k)) j)), .int (nI j), l1, l2] [] M 0 0 from key _ 0 (Nat.zero_add _) _ _
  intro d
  induction d with
  | zero =>
    intro j hj l1 l2
    have hj : j = gn g 5 := hj
    refine r_iload_n (dk kX8_rankByInfluence 4 rfl) rfl ?_
    refine r_aload_n (dk kX8_rankByInfluence 5 rfl) rfl ?_
    refine r_getR (dk kX8_rankByInfluence 6 rfl) fa_X8_12_7 o.k rfl o.r0 ?_
    refine r_geti (dk kX8_rankByInfluence 7 rfl) fa_X8_177_5 o.s.k rfl ?_
    -- at 12
    rw [v.c5 i]
    refine r_icmp_ge (tgt := 83) (dk kX8_rankByInfluence 8 rfl) (by decide) (fun c12 => ?_) (fun c12 => absurd (nI_le (by omega) (by omega)) c12)
    refine r_iload_n (dk kX8_rankByInfluence 45 rfl) rfl ?_
    refine r_ireturn (dk kX8_rankByInfluence 46 rfl) rfl rfl ⟨Nat.le_of_ble_eq_true rfl, Nat.le_of_ble_eq_true rfl⟩ ⟨by rw [hj]; rfl, rfl⟩
  | succ d ih =>
    intro j hj l1 l2
    have hrj := gReach_le g j
    have hst : ct (fun o => decide (gReach g k < gReach g o ∨ gReach g o = gReach g k ∧ o < k)) (j + 1) = ct (fun o => decide (gReach g k < gReach g o ∨ gReach g o = gReach g k ∧ o < k)) j + (if decide (gReach g k < gReach g j ∨ gReach g j = gReach g k ∧ j < k) = true then 1 else 0) := rfl
    have yes : decide (gReach g k < gReach g j ∨ gReach g j = gReach g k ∧ j < k) = true → ∀ l1 l2, WW G IX8_rankByInfluence (qi (fun y M' => y = nI (gRank g k) ∧ M' = M) nox) 74 [.ref x, .int (nI k), .int (nI (ct (fun o => decide (gReach g k < gReach g o ∨ gReach g o = gReach g k ∧ o < k)) j)), .int (nI j), l1, l2] [] M 0 0 := by
      intro hc l1 l2
      rw [if_pos hc] at hst
      refine r_iinc (dk kX8_rankByInfluence 42 rfl) (by decide) rfl rfl rfl ?_
      simp only [List.set_cons_succ, List.set_cons_zero]
      refine r_iinc (dk kX8_rankByInfluence 43 rfl) (by decide) rfl rfl rfl ?_
      simp only [List.set_cons_succ, List.set_cons_zero]
      refine r_goto (tgt := 4) (dk kX8_rankByInfluence 44 rfl) (by decide) ?_
      -- at 4
      rw [show nI j + Int32.ofInt 1 = nI (j + 1) from nI_1 j, show nI (ct (fun o => decide (gReach g k < gReach g o ∨ gReach g o = gReach g k ∧ o < k)) j) + Int32.ofInt 1 = nI (ct (fun o => decide (gReach g k < gReach g o ∨ gReach g o = gReach g k ∧ o < k)) (j + 1)) from (nI_1 _).trans (by rw [hst])]
      exact ih (j + 1) (by omega) _ _
    have no : ¬ decide (gReach g k < gReach g j ∨ gReach g j = gReach g k ∧ j < k) = true → ∀ l1 l2, WW G IX8_rankByInfluence (qi (fun y M' => y = nI (gRank g k) ∧ M' = M) nox) 77 [.ref x, .int (nI k), .int (nI (ct (fun o => decide (gReach g k < gReach g o ∨ gReach g o = gReach g k ∧ o < k)) j)), .int (nI j), l1, l2] [] M 0 0 := by
      intro hc l1 l2
      rw [if_neg hc] at hst
      refine r_iinc (dk kX8_rankByInfluence 43 rfl) (by decide) rfl rfl rfl ?_
      simp only [List.set_cons_succ, List.set_cons_zero]
      refine r_goto (tgt := 4) (dk kX8_rankByInfluence 44 rfl) (by decide) ?_
      -- at 4
      rw [show nI j + Int32.ofInt 1 = nI (j + 1) from nI_1 j]
      have h := ih (j + 1) (by omega) l1 l2
      rw [hst, Nat.add_zero] at h
      exact h
    refine r_iload_n (dk kX8_rankByInfluence 4 rfl) rfl ?_
    refine r_aload_n (dk kX8_rankByInfluence 5 rfl) rfl ?_
    refine r_getR (dk kX8_rankByInfluence 6 rfl) fa_X8_12_7 o.k rfl o.r0 ?_
    refine r_geti (dk kX8_rankByInfluence 7 rfl) fa_X8_177_5 o.s.k rfl ?_
    -- at 12
    rw [v.c5 i]
    refine r_icmp_ge (tgt := 83) (dk kX8_rankByInfluence 8 rfl) (by decide) (fun c12 => absurd c12 (nI_ge (by omega) (by omega))) (fun c12 => ?_)
    refine r_aload_n (dk kX8_rankByInfluence 9 rfl) rfl ?_
    refine r_getR (dk kX8_rankByInfluence 10 rfl) fa_X8_43_7 o.k rfl o.r6 ?_
    refine r_iload_n (dk kX8_rankByInfluence 11 rfl) rfl ?_
    refine r_ial (dk kX8_rankByInfluence 12 rfl) o.ki o.li (j := j) rfl (by omega) (by decide) ?_
    refine r_aload_n (dk kX8_rankByInfluence 13 rfl) rfl ?_
    refine r_getR (dk kX8_rankByInfluence 14 rfl) fa_X8_43_7 o.k rfl o.r6 ?_
    refine r_iload_n (dk kX8_rankByInfluence 15 rfl) rfl ?_
    refine r_ial (dk kX8_rankByInfluence 16 rfl) o.ki o.li (j := k) rfl (by omega) (by decide) ?_
    -- at 27
    rw [hf j (by omega), hf k hk]
    have tail : ∀ s : Int32, (s = 1 ∧ gReach g k < gReach g j ∨ s = 0 ∧ ¬ gReach g k < gReach g j) → WW G IX8_rankByInfluence (qi (fun y M' => y = nI (gRank g k) ∧ M' = M) nox) 35 [.ref x, .int (nI k), .int (nI (ct (fun o => decide (gReach g k < gReach g o ∨ gReach g o = gReach g k ∧ o < k)) j)), .int (nI j), l1, l2] [.int s] M 0 0 := by
      intro s hs
      refine r_istore (dk kX8_rankByInfluence 21 rfl) (by decide) rfl ?_
      simp only [List.set_cons_succ, List.set_cons_zero]
      refine r_aload_n (dk kX8_rankByInfluence 22 rfl) rfl ?_
      refine r_getR (dk kX8_rankByInfluence 23 rfl) fa_X8_43_7 o.k rfl o.r6 ?_
      refine r_iload_n (dk kX8_rankByInfluence 24 rfl) rfl ?_
      refine r_ial (dk kX8_rankByInfluence 25 rfl) o.ki o.li (j := j) rfl (by omega) (by decide) ?_
      refine r_aload_n (dk kX8_rankByInfluence 26 rfl) rfl ?_
      refine r_getR (dk kX8_rankByInfluence 27 rfl) fa_X8_43_7 o.k rfl o.r6 ?_
      refine r_iload_n (dk kX8_rankByInfluence 28 rfl) rfl ?_
      refine r_ial (dk kX8_rankByInfluence 29 rfl) o.ki o.li (j := k) rfl (by omega) (by decide) ?_
      -- at 49
      rw [hf j (by omega), hf k hk]
      by_cases he : gReach g j = gReach g k
      · by_cases hl : j < k
        · have hc : decide (gReach g k < gReach g j ∨ gReach g j = gReach g k ∧ j < k) = true := decide_eq_true (Or.inr ⟨he, hl⟩)
          rcases hs with ⟨rfl, h1⟩ | ⟨rfl, h1⟩
          · refine r_icmp_ne (tgt := 61) (dk kX8_rankByInfluence 30 rfl) (by decide) (fun c49 => absurd c49 (fun z => z (by rw [he]))) (fun c49 => ?_)
            refine r_iload_n (dk kX8_rankByInfluence 31 rfl) rfl ?_
            refine r_iload_n (dk kX8_rankByInfluence 32 rfl) rfl ?_
            refine r_icmp_ge (tgt := 61) (dk kX8_rankByInfluence 33 rfl) (by decide) (fun c54 => absurd c54 (nI_ge hl (by omega))) (fun c54 => ?_)
            refine r_iconst (v := 1) (dk kX8_rankByInfluence 34 rfl) (by decide) ?_
            refine r_goto (tgt := 62) (dk kX8_rankByInfluence 35 rfl) (by decide) ?_
            refine r_istore (dk kX8_rankByInfluence 37 rfl) (by decide) rfl ?_
            simp only [List.set_cons_succ, List.set_cons_zero]
            refine r_iload (dk kX8_rankByInfluence 38 rfl) rfl ?_
            refine r_if_ne (tgt := 74) (dk kX8_rankByInfluence 39 rfl) (by decide) (fun c66 => ?_) (fun c66 => absurd (by decide) c66)
            -- at 74
            exact yes hc _ _
          · refine r_icmp_ne (tgt := 61) (dk kX8_rankByInfluence 30 rfl) (by decide) (fun c49 => absurd c49 (fun z => z (by rw [he]))) (fun c49 => ?_)
            refine r_iload_n (dk kX8_rankByInfluence 31 rfl) rfl ?_
            refine r_iload_n (dk kX8_rankByInfluence 32 rfl) rfl ?_
            refine r_icmp_ge (tgt := 61) (dk kX8_rankByInfluence 33 rfl) (by decide) (fun c54 => absurd c54 (nI_ge hl (by omega))) (fun c54 => ?_)
            refine r_iconst (v := 1) (dk kX8_rankByInfluence 34 rfl) (by decide) ?_
            refine r_goto (tgt := 62) (dk kX8_rankByInfluence 35 rfl) (by decide) ?_
            refine r_istore (dk kX8_rankByInfluence 37 rfl) (by decide) rfl ?_
            simp only [List.set_cons_succ, List.set_cons_zero]
            refine r_iload (dk kX8_rankByInfluence 38 rfl) rfl ?_
            refine r_if_ne (tgt := 74) (dk kX8_rankByInfluence 39 rfl) (by decide) (fun c66 => absurd c66 (fun z => z rfl)) (fun c66 => ?_)
            refine r_iload (dk kX8_rankByInfluence 40 rfl) rfl ?_
            refine r_if_eq (tgt := 77) (dk kX8_rankByInfluence 41 rfl) (by decide) (fun c71 => absurd c71 (by decide)) (fun c71 => ?_)
            -- at 74
            exact yes hc _ _
        · have hc : ¬ decide (gReach g k < gReach g j ∨ gReach g j = gReach g k ∧ j < k) = true := fun z => by have := of_decide_eq_true z; omega
          rcases hs with ⟨rfl, h1⟩ | ⟨rfl, h1⟩
          · omega
          · refine r_icmp_ne (tgt := 61) (dk kX8_rankByInfluence 30 rfl) (by decide) (fun c49 => absurd c49 (fun z => z (by rw [he]))) (fun c49 => ?_)
            refine r_iload_n (dk kX8_rankByInfluence 31 rfl) rfl ?_
            refine r_iload_n (dk kX8_rankByInfluence 32 rfl) rfl ?_
            refine r_icmp_ge (tgt := 61) (dk kX8_rankByInfluence 33 rfl) (by decide) (fun c54 => ?_) (fun c54 => absurd (nI_le (by omega) (by omega)) c54)
            refine r_iconst (v := 0) (dk kX8_rankByInfluence 36 rfl) (by decide) ?_
            refine r_istore (dk kX8_rankByInfluence 37 rfl) (by decide) rfl ?_
            simp only [List.set_cons_succ, List.set_cons_zero]
            refine r_iload (dk kX8_rankByInfluence 38 rfl) rfl ?_
            refine r_if_ne (tgt := 74) (dk kX8_rankByInfluence 39 rfl) (by decide) (fun c66 => absurd c66 (fun z => z rfl)) (fun c66 => ?_)
            refine r_iload (dk kX8_rankByInfluence 40 rfl) rfl ?_
            refine r_if_eq (tgt := 77) (dk kX8_rankByInfluence 41 rfl) (by decide) (fun c71 => ?_) (fun c71 => absurd rfl c71)
            -- at 77
            exact no hc _ _
      · rcases hs with ⟨rfl, h1⟩ | ⟨rfl, h1⟩
        · have hc : decide (gReach g k < gReach g j ∨ gReach g j = gReach g k ∧ j < k) = true := decide_eq_true (Or.inl h1)
          refine r_icmp_ne (tgt := 61) (dk kX8_rankByInfluence 30 rfl) (by decide) (fun c49 => ?_) (fun c49 => absurd (fun z => he (nI_inj (by omega) (by omega) z)) c49)
          refine r_iconst (v := 0) (dk kX8_rankByInfluence 36 rfl) (by decide) ?_
          refine r_istore (dk kX8_rankByInfluence 37 rfl) (by decide) rfl ?_
          simp only [List.set_cons_succ, List.set_cons_zero]
          refine r_iload (dk kX8_rankByInfluence 38 rfl) rfl ?_
          refine r_if_ne (tgt := 74) (dk kX8_rankByInfluence 39 rfl) (by decide) (fun c66 => ?_) (fun c66 => absurd (by decide) c66)
          -- at 74
          exact yes hc _ _
        · have hc : ¬ decide (gReach g k < gReach g j ∨ gReach g j = gReach g k ∧ j < k) = true := fun z => by have := of_decide_eq_true z; omega
          refine r_icmp_ne (tgt := 61) (dk kX8_rankByInfluence 30 rfl) (by decide) (fun c49 => ?_) (fun c49 => absurd (fun z => he (nI_inj (by omega) (by omega) z)) c49)
          refine r_iconst (v := 0) (dk kX8_rankByInfluence 36 rfl) (by decide) ?_
          refine r_istore (dk kX8_rankByInfluence 37 rfl) (by decide) rfl ?_
          simp only [List.set_cons_succ, List.set_cons_zero]
          refine r_iload (dk kX8_rankByInfluence 38 rfl) rfl ?_
          refine r_if_ne (tgt := 74) (dk kX8_rankByInfluence 39 rfl) (by decide) (fun c66 => absurd c66 (fun z => z rfl)) (fun c66 => ?_)
          refine r_iload (dk kX8_rankByInfluence 40 rfl) rfl ?_
          refine r_if_eq (tgt := 77) (dk kX8_rankByInfluence 41 rfl) (by decide) (fun c71 => ?_) (fun c71 => absurd rfl c71)
          -- at 77
          exact no hc _ _
    by_cases h1 : gReach g k < gReach g j
    · refine r_icmp_le (tgt := 34) (dk kX8_rankByInfluence 17 rfl) (by decide) (fun c27 => absurd c27 (nI_ge h1 (by omega))) (fun c27 => ?_)
      refine r_iconst (v := 1) (dk kX8_rankByInfluence 18 rfl) (by decide) ?_
      refine r_goto (tgt := 35) (dk kX8_rankByInfluence 19 rfl) (by decide) ?_
      -- at 35
      exact tail 1 (Or.inl ⟨rfl, h1⟩)
    · refine r_icmp_le (tgt := 34) (dk kX8_rankByInfluence 17 rfl) (by decide) (fun c27 => ?_) (fun c27 => absurd (nI_le (by omega) (by omega)) c27)
      refine r_iconst (v := 0) (dk kX8_rankByInfluence 20 rfl) (by decide) ?_
      -- at 35
      exact tail 0 (Or.inr ⟨rfl, h1⟩)
theorem k_X8_rulingByInfluence (o : BO M x) (v : SV M (x + 1) g q) (i : GI F g) (y : Int32) : KK G IX8_rulingByInfluence [.ref x, .int y] M (QIn M x (sp_rulingByInfluence g y)) := by
  refine KK.ofW (by decide) (by simp [Value.category]) (Nat.le_of_ble_eq_true rfl) rfl ?_
  show WW _ _ _ 0 [_, _, lj, lj] [] _ _ _
  have b5 := i.r.2
  by_cases hy : 0 ≤ y ∧ y < nI (gn g 5)
  · obtain ⟨m, hm2, rfl⟩ := nI_of (Int32.not_lt.mpr hy.1)
    have hm : m < gn g 5 := (nI_ltI hm2 (by omega)).mp hy.2
    obtain ⟨k, hk, hkm⟩ := gRank_at hm
    have uni : ∀ j, j < gn g 5 → j ≠ k → nI (gRank g j) ≠ nI m := fun j hj hjk e => gRank_ne hj hk hjk (by rw [hkm]; exact nI_inj (by have := gRank_lt hj; omega) (by omega) e)
    have e0 : sp_rulingByInfluence g (nI m) = (0, nI k) := by
      unfold sp_rulingByInfluence
      rw [fx_some.mpr ⟨hk, decide_eq_true (by rw [hkm]), fun j hj => decide_eq_false (uni j (by omega) (by omega))⟩]
    rw [e0]
    have oF : ∀ f, BO (sA M (x + 349) f) x := fun f => o.tr rfl rfl rfl
    have vF : ∀ f, SV (sA M (x + 349) f) (x + 1) g q := fun f => v.to o.s i (fun c h1 h2 => mi_sA_n _ _ (by omega)) rfl
    -- the second loop
    have two : ∀ f : Nat → Int32, (∀ j, j < gn g 5 → f j = nI (gReach g j)) → ∀ d j, j + d = gn g 5 → WW G IX8_rulingByInfluence (QIn M x (0, nI k)) 62 [.ref x, .int (nI m), .int (if k < j then nI k else -1), .int (nI j)] [] (sA M (x + 349) f) 0 0 := by
      intro f hf d
      have v5 : mi (sA M (x + 349) f) (x + 1) 8 = nI (gn g 5) := (vF f).c5 i
      induction d with
      | zero =>
        intro j hj
        have hj : j = gn g 5 := hj
        rw [if_pos (by omega)]
        refine r_iload_n (dk kX8_rulingByInfluence 33 rfl) rfl ?_
        refine r_aload_n (dk kX8_rulingByInfluence 34 rfl) rfl ?_
        refine r_getR (dk kX8_rulingByInfluence 35 rfl) fa_X8_12_7 o.k rfl o.r0 ?_
        refine r_geti (dk kX8_rulingByInfluence 36 rfl) fa_X8_177_5 o.s.k rfl ?_
        -- at 70
        rw [v5]
        refine r_icmp_ge (tgt := 90) (dk kX8_rulingByInfluence 37 rfl) (by decide) (fun c70 => ?_) (fun c70 => absurd (nI_le (by omega) (by omega)) c70)
        refine r_iload_n (dk kX8_rulingByInfluence 47 rfl) rfl ?_
        refine r_ireturn (dk kX8_rulingByInfluence 48 rfl) rfl rfl ⟨Nat.le_of_ble_eq_true rfl, Nat.le_of_ble_eq_true rfl⟩ ⟨rfl, rfl, f, rfl⟩
      | succ d ih =>
        intro j hj
        have hr := k_X8_rankByInfluence (G := G) (oF f) (vF f) i (fun z hz => by rw [mi_sA_s]; exact hf z hz) (k := j) (by omega)
        refine r_iload_n (dk kX8_rulingByInfluence 33 rfl) rfl ?_
        refine r_aload_n (dk kX8_rulingByInfluence 34 rfl) rfl ?_
        refine r_getR (dk kX8_rulingByInfluence 35 rfl) fa_X8_12_7 o.k rfl o.r0 ?_
        refine r_geti (dk kX8_rulingByInfluence 36 rfl) fa_X8_177_5 o.s.k rfl ?_
        -- at 70
        rw [v5]
        refine r_icmp_ge (tgt := 90) (dk kX8_rulingByInfluence 37 rfl) (by decide) (fun c70 => absurd c70 (nI_ge (by omega) (by omega))) (fun c70 => ?_)
        refine r_aload_n (dk kX8_rulingByInfluence 38 rfl) rfl ?_
        refine r_iload_n (dk kX8_rulingByInfluence 39 rfl) rfl ?_
        refine r_callVp (I' := IX8_rankByInfluence) (as := [_]) (dk kX8_rulingByInfluence 40 rfl) mv_X8_rankByInfluence ml_X8_218 rfl rfl o.k rfl rfl (Nat.le_of_ble_eq_true rfl) ⟨by decide, by decide⟩ ⟨rfl, rfl⟩ ⟨Nat.le_of_ble_eq_true rfl, Nat.le_of_ble_eq_true rfl⟩ hr ?_
        refine r_iload_n (dk kX8_rulingByInfluence 41 rfl) rfl ?_
        -- at 79
        have h := ih (j + 1) (by omega)
        by_cases hjk : j = k
        · subst hjk
          rw [hkm]
          rw [if_pos (Nat.lt_succ_self j)] at h
          refine r_icmp_ne (tgt := 84) (dk kX8_rulingByInfluence 42 rfl) (by decide) (fun c79 => absurd c79 (fun z => z rfl)) (fun c79 => ?_)
          refine r_iload_n (dk kX8_rulingByInfluence 43 rfl) rfl ?_
          refine r_istore_n (j := 2) (dk kX8_rulingByInfluence 44 rfl) rfl (by decide) rfl ?_
          simp only [List.set_cons_succ, List.set_cons_zero]
          refine r_iinc (dk kX8_rulingByInfluence 45 rfl) (by decide) rfl rfl rfl ?_
          simp only [List.set_cons_succ, List.set_cons_zero]
          refine r_goto (tgt := 62) (dk kX8_rulingByInfluence 46 rfl) (by decide) ?_
          -- at 62
          rw [show nI j + Int32.ofInt 1 = nI (j + 1) from nI_1 j]
          exact h
        · rw [show (if k < j then nI k else -1) = (if k < j + 1 then nI k else -1) by
            by_cases e : k < j
            · rw [if_pos e, if_pos (by omega)]
            · rw [if_neg e, if_neg (by omega)]]
          refine r_icmp_ne (tgt := 84) (dk kX8_rulingByInfluence 42 rfl) (by decide) (fun c79 => ?_) (fun c79 => absurd (uni j (by omega) hjk) c79)
          refine r_iinc (dk kX8_rulingByInfluence 45 rfl) (by decide) rfl rfl rfl ?_
          simp only [List.set_cons_succ, List.set_cons_zero]
          refine r_goto (tgt := 62) (dk kX8_rulingByInfluence 46 rfl) (by decide) ?_
          -- at 62
          rw [show nI j + Int32.ofInt 1 = nI (j + 1) from nI_1 j]
          exact h
    refine r_iload_n (dk kX8_rulingByInfluence 0 rfl) rfl ?_
    refine r_if_lt (tgt := 15) (dk kX8_rulingByInfluence 1 rfl) (by decide) (fun c1 => absurd c1 (Int32.not_lt.mpr hy.1)) (fun c1 => ?_)
    refine r_iload_n (dk kX8_rulingByInfluence 2 rfl) rfl ?_
    refine r_aload_n (dk kX8_rulingByInfluence 3 rfl) rfl ?_
    refine r_getR (dk kX8_rulingByInfluence 4 rfl) fa_X8_12_7 o.k rfl o.r0 ?_
    refine r_geti (dk kX8_rulingByInfluence 5 rfl) fa_X8_177_5 o.s.k rfl ?_
    -- at 12
    rw [v.c5 i]
    refine r_icmp_lt (tgt := 25) (dk kX8_rulingByInfluence 6 rfl) (by decide) (fun c12 => ?_) (fun c12 => absurd hy.2 c12)
    refine r_iconst (v := 0) (dk kX8_rulingByInfluence 12 rfl) (by decide) ?_
    refine r_istore_n (j := 2) (dk kX8_rulingByInfluence 13 rfl) rfl (by decide) rfl ?_
    simp only [List.set_cons_succ, List.set_cons_zero]
    -- at 27
    suffices key : ∀ d j, j + d = gn g 5 → ∀ f : Nat → Int32, (∀ z, z < j → f z = nI (gReach g z)) → WW G IX8_rulingByInfluence (QIn M x (0, nI k)) 27 [.ref x, .int (nI m), .int (nI j), lj] [] (sA M (x + 349) f) 0 0 by
      have h := key (gn g 5) 0 (Nat.zero_add _) (mi M (x + 349)) (fun z hz => absurd hz (Nat.not_lt_zero z))
      rw [sA_eq] at h
      exact h
    intro d
    induction d with
    | zero =>
      intro j hj f hf
      have hj : j = gn g 5 := hj
      have v5 : mi (sA M (x + 349) f) (x + 1) 8 = nI (gn g 5) := (vF f).c5 i
      have h := two f (fun z hz => hf z (by omega)) _ 0 (Nat.zero_add _)
      rw [if_neg (Nat.not_lt_zero k)] at h
      refine r_iload_n (dk kX8_rulingByInfluence 14 rfl) rfl ?_
      refine r_aload_n (dk kX8_rulingByInfluence 15 rfl) rfl ?_
      refine r_getR (dk kX8_rulingByInfluence 16 rfl) fa_X8_12_7 o.k rfl o.r0 ?_
      refine r_geti (dk kX8_rulingByInfluence 17 rfl) fa_X8_177_5 o.s.k rfl ?_
      -- at 35
      rw [v5]
      refine r_icmp_ge (tgt := 58) (dk kX8_rulingByInfluence 18 rfl) (by decide) (fun c35 => ?_) (fun c35 => absurd (nI_le (by omega) (by omega)) c35)
      refine r_iconst (v := (-1)) (dk kX8_rulingByInfluence 29 rfl) (by decide) ?_
      refine r_istore_n (j := 2) (dk kX8_rulingByInfluence 30 rfl) rfl (by decide) rfl ?_
      simp only [List.set_cons_succ, List.set_cons_zero]
      refine r_iconst (v := 0) (dk kX8_rulingByInfluence 31 rfl) (by decide) ?_
      refine r_istore_n (j := 3) (dk kX8_rulingByInfluence 32 rfl) rfl (by decide) rfl ?_
      simp only [List.set_cons_succ, List.set_cons_zero]
      -- at 62
      exact h
    | succ d ih =>
      intro j hj f hf
      have v5 : mi (sA M (x + 349) f) (x + 1) 8 = nI (gn g 5) := (vF f).c5 i
      refine r_iload_n (dk kX8_rulingByInfluence 14 rfl) rfl ?_
      refine r_aload_n (dk kX8_rulingByInfluence 15 rfl) rfl ?_
      refine r_getR (dk kX8_rulingByInfluence 16 rfl) fa_X8_12_7 o.k rfl o.r0 ?_
      refine r_geti (dk kX8_rulingByInfluence 17 rfl) fa_X8_177_5 o.s.k rfl ?_
      -- at 35
      rw [v5]
      refine r_icmp_ge (tgt := 58) (dk kX8_rulingByInfluence 18 rfl) (by decide) (fun c35 => absurd c35 (nI_ge (by omega) (by omega))) (fun c35 => ?_)
      refine r_aload_n (dk kX8_rulingByInfluence 19 rfl) rfl ?_
      refine r_getR (dk kX8_rulingByInfluence 20 rfl) fa_X8_43_7 o.k rfl o.r6 ?_
      refine r_iload_n (dk kX8_rulingByInfluence 21 rfl) rfl ?_
      refine r_aload_n (dk kX8_rulingByInfluence 22 rfl) rfl ?_
      refine r_getR (dk kX8_rulingByInfluence 23 rfl) fa_X8_12_7 o.k rfl o.r0 ?_
      refine r_iload_n (dk kX8_rulingByInfluence 24 rfl) rfl ?_
      refine r_callVp (I' := IX6_countMarked) (as := [_]) (dk kX8_rulingByInfluence 25 rfl) mv_X6_countMarked ml_X8_213 rfl rfl o.s.k rfl rfl (Nat.le_of_ble_eq_true rfl) ⟨by decide, by decide⟩ ⟨rfl, rfl⟩ ⟨Nat.le_of_ble_eq_true rfl, Nat.le_of_ble_eq_true rfl⟩ (k_X6_countMarked (oF f).s (vF f) i (show j < gn g 5 by omega)) ?_
      refine r_ias (dk kX8_rulingByInfluence 26 rfl) o.ki o.li (j := j) rfl (by omega) (by decide) ?_
      -- at 52
      rw [sI_sA]
      refine r_iinc (dk kX8_rulingByInfluence 27 rfl) (by decide) rfl rfl rfl ?_
      simp only [List.set_cons_succ, List.set_cons_zero]
      refine r_goto (tgt := 27) (dk kX8_rulingByInfluence 28 rfl) (by decide) ?_
      -- at 27
      rw [show nI j + Int32.ofInt 1 = nI (j + 1) from nI_1 j]
      refine ih (j + 1) (by omega) _ fun z hz => ?_
      by_cases e : z = j
      · rw [e, va_up_self]
      · rw [va_up_ne _ _ e]
        exact hf z (by omega)
  · have e0 : sp_rulingByInfluence g y = (1, 0) := by
      unfold sp_rulingByInfluence
      rw [fx_none.mpr fun j hj => decide_eq_false fun e => hy ?_]
      have := gRank_lt hj
      rw [← e]
      exact ⟨nI_pos' (by omega), nI_lt this (by omega)⟩
    rw [e0]
    by_cases h0 : y < 0
    · refine r_iload_n (dk kX8_rulingByInfluence 0 rfl) rfl ?_
      refine r_if_lt (tgt := 15) (dk kX8_rulingByInfluence 1 rfl) (by decide) (fun c1 => ?_) (fun c1 => absurd h0 c1)
      -- at 15
      refine r_throwN (is := 216) (List.mem_of_getElem? (i := 2) rfl) rfl rfl (dk kX8_rulingByInfluence 7 rfl) (dk kX8_rulingByInfluence 8 rfl) (dk kX8_rulingByInfluence 9 rfl) (dk kX8_rulingByInfluence 10 rfl) (dk kX8_rulingByInfluence 11 rfl) ⟨Nat.le_of_ble_eq_true rfl, Nat.le_of_ble_eq_true rfl⟩ ⟨Nat.le_of_ble_eq_true rfl, Nat.le_of_ble_eq_true rfl⟩ (fun z => ?_)
      exact ⟨by decide, rfl, _, rfl⟩
    · have h1 : ¬ y < nI (gn g 5) := fun z => hy ⟨Int32.not_lt.mp h0, z⟩
      refine r_iload_n (dk kX8_rulingByInfluence 0 rfl) rfl ?_
      refine r_if_lt (tgt := 15) (dk kX8_rulingByInfluence 1 rfl) (by decide) (fun c1 => absurd c1 h0) (fun c1 => ?_)
      refine r_iload_n (dk kX8_rulingByInfluence 2 rfl) rfl ?_
      refine r_aload_n (dk kX8_rulingByInfluence 3 rfl) rfl ?_
      refine r_getR (dk kX8_rulingByInfluence 4 rfl) fa_X8_12_7 o.k rfl o.r0 ?_
      refine r_geti (dk kX8_rulingByInfluence 5 rfl) fa_X8_177_5 o.s.k rfl ?_
      -- at 12
      rw [v.c5 i]
      refine r_icmp_lt (tgt := 25) (dk kX8_rulingByInfluence 6 rfl) (by decide) (fun c12 => absurd c12 h1) (fun c12 => ?_)
      -- at 15
      refine r_throwN (is := 216) (List.mem_of_getElem? (i := 2) rfl) rfl rfl (dk kX8_rulingByInfluence 7 rfl) (dk kX8_rulingByInfluence 8 rfl) (dk kX8_rulingByInfluence 9 rfl) (dk kX8_rulingByInfluence 10 rfl) (dk kX8_rulingByInfluence 11 rfl) ⟨Nat.le_of_ble_eq_true rfl, Nat.le_of_ble_eq_true rfl⟩ ⟨Nat.le_of_ble_eq_true rfl, Nat.le_of_ble_eq_true rfl⟩ (fun z => ?_)
      exact ⟨by decide, rfl, _, rfl⟩
end CLASS
