/-! THE REFERENCE, further helpers -/
section MODEL
variable {G : GG} {M : Mm} {h : Nat}
theorem k_X9_isAhead (o : MO M h) {F a b : Nat} (gi : GI F (mi M (h + 1))) (ha : a < gn (mi M (h + 1)) 3) (hb : b < gn (mi M (h + 1)) 3) : KP G IX9_isAhead [.ref h, .int (nI a), .int (nI b)] M (bI (gAhd (mi M (h + 1)) a b = true)) := by
  refine KK.ofW (by decide) (by simp [Value.category]) (Nat.le_of_ble_eq_true rfl) rfl ?_
  show WW _ _ _ 0 [_, _, _, lj, lj] [] _ _ _
  have hp8 := gi.p.2
  have hF := gi.hF
  have hf4 := gi.f.2
  have ho7 := gi.o.2
  obtain ⟨a0, a1, -, -, a4, -⟩ := gi.pi ha
  obtain ⟨b0, b1, -, -, b4, -⟩ := gi.pi hb
  have ra := gi.rank a1.2
  have rb := gi.rank b1.2
  have a1' := a1.2
  have b1' := b1.2
  refine r_aload_n (dk kX9_isAhead 0 rfl) rfl ?_
  refine r_aload_n (dk kX9_isAhead 1 rfl) rfl ?_
  refine r_iload_n (dk kX9_isAhead 2 rfl) rfl ?_
  refine r_iconst (v := 1) (dk kX9_isAhead 3 rfl) (by decide) ?_
  refine r_callVp (I' := IX9_of) (as := [_, _]) (dk kX9_isAhead 4 rfl) mv_X9_of ml_X9_106 rfl rfl o.k rfl rfl (Nat.le_of_ble_eq_true rfl) ⟨by decide, by decide⟩ ⟨rfl, rfl⟩ ⟨Nat.le_of_ble_eq_true rfl, Nat.le_of_ble_eq_true rfl⟩ (k_X9_of o (w := 1) rfl (by omega) (by decide)) ?_
  -- at 7
  rw [a1.1]
  refine r_callVp (I' := IX9_rank) (as := [_]) (dk kX9_isAhead 5 rfl) mv_X9_rank ml_X9_103 rfl rfl o.k rfl rfl (Nat.le_of_ble_eq_true rfl) ⟨by decide, by decide⟩ ⟨rfl, rfl⟩ ⟨Nat.le_of_ble_eq_true rfl, Nat.le_of_ble_eq_true rfl⟩ (k_X9_rank o (by omega)) ?_
  refine r_aload_n (dk kX9_isAhead 6 rfl) rfl ?_
  refine r_aload_n (dk kX9_isAhead 7 rfl) rfl ?_
  refine r_iload_n (dk kX9_isAhead 8 rfl) rfl ?_
  refine r_iconst (v := 1) (dk kX9_isAhead 9 rfl) (by decide) ?_
  -- at 14
  rw [ra.1]
  refine r_callVp (I' := IX9_of) (as := [_, _]) (dk kX9_isAhead 10 rfl) mv_X9_of ml_X9_106 rfl rfl o.k rfl rfl (Nat.le_of_ble_eq_true rfl) ⟨by decide, by decide⟩ ⟨rfl, rfl⟩ ⟨Nat.le_of_ble_eq_true rfl, Nat.le_of_ble_eq_true rfl⟩ (k_X9_of o (w := 1) rfl (by omega) (by decide)) ?_
  -- at 17
  rw [b1.1]
  refine r_callVp (I' := IX9_rank) (as := [_]) (dk kX9_isAhead 11 rfl) mv_X9_rank ml_X9_103 rfl rfl o.k rfl rfl (Nat.le_of_ble_eq_true rfl) ⟨by decide, by decide⟩ ⟨rfl, rfl⟩ ⟨Nat.le_of_ble_eq_true rfl, Nat.le_of_ble_eq_true rfl⟩ (k_X9_rank o (by omega)) ?_
  -- at 20
  rw [rb.1]
  have hra : gn (mi M (h + 1)) (29 + gn (mi M (h + 1)) (35 + 11 * a + 1)) = gRk (mi M (h + 1)) a := rfl
  have hrb : gn (mi M (h + 1)) (29 + gn (mi M (h + 1)) (35 + 11 * b + 1)) = gRk (mi M (h + 1)) b := rfl
  have ra2 := ra.2
  have rb2 := rb.2
  rw [hra] at ra2 ⊢
  rw [hrb] at rb2 ⊢
  generalize ea : gRk (mi M (h + 1)) a = xa at ra2 ⊢
  generalize eb : gRk (mi M (h + 1)) b = xb at rb2 ⊢
  have hu := a4.2
  have hu2 := b4.2
  have hw : (gAhd (mi M (h + 1)) a b = true) ↔ (xb < xa ∨ xa = xb ∧ (gUr (mi M (h + 1)) b < gUr (mi M (h + 1)) a ∨ gUr (mi M (h + 1)) a = gUr (mi M (h + 1)) b ∧ gNum (mi M (h + 1)) a < gNum (mi M (h + 1)) b)) := by
    unfold gAhd
    rw [decide_eq_true_eq, ea, eb]
  refine r_isub (dk kX9_isAhead 12 rfl) ?_
  refine r_istore_n (j := 3) (dk kX9_isAhead 13 rfl) rfl (by decide) rfl ?_
  simp only [List.set_cons_succ, List.set_cons_zero]
  refine r_iload_n (dk kX9_isAhead 14 rfl) rfl ?_
  refine r_if_eq (tgt := 36) (dk kX9_isAhead 15 rfl) (by decide) (fun c23 => ?_) (fun c23 => ?_)
  · have he := (sb_eq (by omega) (by omega)).mp c23
    refine r_aload_n (dk kX9_isAhead 22 rfl) rfl ?_
    refine r_iload_n (dk kX9_isAhead 23 rfl) rfl ?_
    refine r_iconst (v := 4) (dk kX9_isAhead 24 rfl) (by decide) ?_
    refine r_callVp (I' := IX9_of) (as := [_, _]) (dk kX9_isAhead 25 rfl) mv_X9_of ml_X9_106 rfl rfl o.k rfl rfl (Nat.le_of_ble_eq_true rfl) ⟨by decide, by decide⟩ ⟨rfl, rfl⟩ ⟨Nat.le_of_ble_eq_true rfl, Nat.le_of_ble_eq_true rfl⟩ (k_X9_of o (w := 4) rfl (by omega) (by decide)) ?_
    refine r_aload_n (dk kX9_isAhead 26 rfl) rfl ?_
    refine r_iload_n (dk kX9_isAhead 27 rfl) rfl ?_
    refine r_iconst (v := 4) (dk kX9_isAhead 28 rfl) (by decide) ?_
    refine r_callVp (I' := IX9_of) (as := [_, _]) (dk kX9_isAhead 29 rfl) mv_X9_of ml_X9_106 rfl rfl o.k rfl rfl (Nat.le_of_ble_eq_true rfl) ⟨by decide, by decide⟩ ⟨rfl, rfl⟩ ⟨Nat.le_of_ble_eq_true rfl, Nat.le_of_ble_eq_true rfl⟩ (k_X9_of o (w := 4) rfl (by omega) (by decide)) ?_
    -- at 48
    rw [a4.1, b4.1]
    have hu3 : gn (mi M (h + 1)) (35 + 11 * a + 4) = gUr (mi M (h + 1)) a := rfl
    have hu4 : gn (mi M (h + 1)) (35 + 11 * b + 4) = gUr (mi M (h + 1)) b := rfl
    rw [hu3] at hu ⊢
    rw [hu4] at hu2 ⊢
    generalize gUr (mi M (h + 1)) a = ya at hu hw ⊢
    generalize gUr (mi M (h + 1)) b = yb at hu2 hw ⊢
    refine r_isub (dk kX9_isAhead 30 rfl) ?_
    refine r_istore (dk kX9_isAhead 31 rfl) (by decide) rfl ?_
    simp only [List.set_cons_succ, List.set_cons_zero]
    refine r_iload (dk kX9_isAhead 32 rfl) rfl ?_
    refine r_if_gt (tgt := 76) (dk kX9_isAhead 33 rfl) (by decide) (fun c53 => ?_) (fun c53 => ?_)
    · have h1 := (sb_gt (by omega) (by omega)).mp c53
      refine r_iconst (v := 1) (dk kX9_isAhead 45 rfl) (by decide) ?_
      refine r_goto (tgt := 81) (dk kX9_isAhead 46 rfl) (by decide) ?_
      refine r_ireturn (dk kX9_isAhead 48 rfl) rfl rfl ⟨Nat.le_of_ble_eq_true rfl, Nat.le_of_ble_eq_true rfl⟩ ⟨(bI_t (hw.mpr (Or.inr ⟨he, Or.inl h1⟩))).symm, rfl⟩
    · have h1 : ¬ yb < ya := fun z => c53 ((sb_gt (by omega) (by omega)).mpr z)
      refine r_iload (dk kX9_isAhead 34 rfl) rfl ?_
      refine r_if_ne (tgt := 80) (dk kX9_isAhead 35 rfl) (by decide) (fun c58 => ?_) (fun c58 => ?_)
      · have h2 : ya ≠ yb := fun z => c58 ((sb_eq (by omega) (by omega)).mpr z)
        refine r_iconst (v := 0) (dk kX9_isAhead 47 rfl) (by decide) ?_
        refine r_ireturn (dk kX9_isAhead 48 rfl) rfl rfl ⟨Nat.le_of_ble_eq_true rfl, Nat.le_of_ble_eq_true rfl⟩ ⟨(bI_f (fun z => by rcases hw.mp z with z|⟨z, z2|⟨z2, z3⟩⟩ <;> omega)).symm, rfl⟩
      · have h2 : ya = yb := (sb_eq (by omega) (by omega)).mp (Decidable.not_not.mp c58)
        refine r_aload_n (dk kX9_isAhead 36 rfl) rfl ?_
        refine r_iload_n (dk kX9_isAhead 37 rfl) rfl ?_
        refine r_iconst (v := 0) (dk kX9_isAhead 38 rfl) (by decide) ?_
        refine r_callVp (I' := IX9_of) (as := [_, _]) (dk kX9_isAhead 39 rfl) mv_X9_of ml_X9_106 rfl rfl o.k rfl rfl (Nat.le_of_ble_eq_true rfl) ⟨by decide, by decide⟩ ⟨rfl, rfl⟩ ⟨Nat.le_of_ble_eq_true rfl, Nat.le_of_ble_eq_true rfl⟩ (k_X9_of0 o (by omega)) ?_
        refine r_aload_n (dk kX9_isAhead 40 rfl) rfl ?_
        refine r_iload_n (dk kX9_isAhead 41 rfl) rfl ?_
        refine r_iconst (v := 0) (dk kX9_isAhead 42 rfl) (by decide) ?_
        refine r_callVp (I' := IX9_of) (as := [_, _]) (dk kX9_isAhead 43 rfl) mv_X9_of ml_X9_106 rfl rfl o.k rfl rfl (Nat.le_of_ble_eq_true rfl) ⟨by decide, by decide⟩ ⟨rfl, rfl⟩ ⟨Nat.le_of_ble_eq_true rfl, Nat.le_of_ble_eq_true rfl⟩ (k_X9_of0 o (by omega)) ?_
        refine r_icmp_ge (tgt := 80) (dk kX9_isAhead 44 rfl) (by decide) (fun c73 => ?_) (fun c73 => ?_)
        · have h3 : ¬ gNum (mi M (h + 1)) a < gNum (mi M (h + 1)) b := by
            rw [a0.1, b0.1] at c73
            have a02 : gNum (mi M (h + 1)) a < gn (mi M (h + 1)) 4 := a0.2
            have b02 : gNum (mi M (h + 1)) b < gn (mi M (h + 1)) 4 := b0.2
            exact fun z => nI_ge (a := gNum (mi M (h + 1)) a) (b := gNum (mi M (h + 1)) b) z (by omega) c73
          refine r_iconst (v := 0) (dk kX9_isAhead 47 rfl) (by decide) ?_
          refine r_ireturn (dk kX9_isAhead 48 rfl) rfl rfl ⟨Nat.le_of_ble_eq_true rfl, Nat.le_of_ble_eq_true rfl⟩ ⟨(bI_f (fun z => by rcases hw.mp z with z|⟨z, z2|⟨z2, z3⟩⟩ <;> omega)).symm, rfl⟩
        · have h3 : gNum (mi M (h + 1)) a < gNum (mi M (h + 1)) b := by
            rw [a0.1, b0.1] at c73
            have a02 : gNum (mi M (h + 1)) a < gn (mi M (h + 1)) 4 := a0.2
            have b02 : gNum (mi M (h + 1)) b < gn (mi M (h + 1)) 4 := b0.2
            exact Nat.lt_of_not_le fun z => c73 (nI_le (a := gNum (mi M (h + 1)) b) (b := gNum (mi M (h + 1)) a) z (by omega))
          refine r_iconst (v := 1) (dk kX9_isAhead 45 rfl) (by decide) ?_
          refine r_goto (tgt := 81) (dk kX9_isAhead 46 rfl) (by decide) ?_
          refine r_ireturn (dk kX9_isAhead 48 rfl) rfl rfl ⟨Nat.le_of_ble_eq_true rfl, Nat.le_of_ble_eq_true rfl⟩ ⟨(bI_t (hw.mpr (Or.inr ⟨he, Or.inr ⟨h2, h3⟩⟩))).symm, rfl⟩
  · have hne : xa ≠ xb := fun z => c23 ((sb_eq (by omega) (by omega)).mpr z)
    refine r_iload_n (dk kX9_isAhead 16 rfl) rfl ?_
    refine r_if_le (tgt := 34) (dk kX9_isAhead 17 rfl) (by decide) (fun c27 => ?_) (fun c27 => ?_)
    · have h1 := (sb_le (by omega) (by omega)).mp c27
      refine r_iconst (v := 0) (dk kX9_isAhead 20 rfl) (by decide) ?_
      refine r_ireturn (dk kX9_isAhead 21 rfl) rfl rfl ⟨Nat.le_of_ble_eq_true rfl, Nat.le_of_ble_eq_true rfl⟩ ⟨(bI_f (fun z => by rcases hw.mp z with z|⟨z, -⟩ <;> omega)).symm, rfl⟩
    · have h1 : xb < xa := Nat.lt_of_not_le fun z => c27 ((sb_le (by omega) (by omega)).mpr z)
      refine r_iconst (v := 1) (dk kX9_isAhead 18 rfl) (by decide) ?_
      refine r_goto (tgt := 35) (dk kX9_isAhead 19 rfl) (by decide) ?_
      refine r_ireturn (dk kX9_isAhead 21 rfl) rfl rfl ⟨Nat.le_of_ble_eq_true rfl, Nat.le_of_ble_eq_true rfl⟩ ⟨(bI_t (hw.mpr (Or.inl h1))).symm, rfl⟩
theorem k_X9_ahead (o : MO M h) {F p : Nat} (gi : GI F (mi M (h + 1))) (hp : p < gn (mi M (h + 1)) 3) : KP G IX9_ahead [.ref h, .int (nI p)] M (nI (gAhead (mi M (h + 1)) p)) := by
  refine KK.ofW (by decide) (by simp [Value.category]) (Nat.le_of_ble_eq_true rfl) rfl ?_
  show WW _ _ _ 0 [_, _, lj, lj] [] _ _ _
  obtain ⟨hS, hS2⟩ := gi.p
  refine r_iconst (v := 0) (dk kX9_ahead 0 rfl) (by decide) ?_
  refine r_istore_n (j := 2) (dk kX9_ahead 1 rfl) rfl (by decide) rfl ?_
  simp only [List.set_cons_succ, List.set_cons_zero]
  refine r_iconst (v := 0) (dk kX9_ahead 2 rfl) (by decide) ?_
  refine r_istore_n (j := 3) (dk kX9_ahead 3 rfl) rfl (by decide) rfl ?_
  simp only [List.set_cons_succ, List.set_cons_zero]
  -- at 4
  suffices key : ∀ d j, j + d = gn (mi M (h + 1)) 3 → WW G IX9_ahead (qi (fun y M' => y = nI (gAhead (mi M (h + 1)) p) ∧ M' = M) nox) 4 [.ref h, .int (nI p), .int (nI (ct (fun i => gAhd (mi M (h + 1)) i p) j)), .int (nI j)] [] M 0 0 from key _ 0 (Nat.zero_add _)
  intro d
  induction d with
  | zero =>
    intro j hj
    refine r_iload_n (dk kX9_ahead 4 rfl) rfl ?_
    refine r_aload_n (dk kX9_ahead 5 rfl) rfl ?_
    refine r_getR (dk kX9_ahead 6 rfl) fa_X9_7_8 o.k rfl o.r0 ?_
    refine r_iconst (v := 3) (dk kX9_ahead 7 rfl) (by decide) ?_
    refine r_ial (dk kX9_ahead 8 rfl) o.k1 o.l1 (j := 3) rfl (by decide) (by decide) ?_
    refine r_icmp_ge (tgt := 37) (dk kX9_ahead 9 rfl) (by decide) (fun c11 => ?_) (fun c11 => absurd (by rw [hS]; exact nI_le (by omega) (by omega)) c11)
    refine r_iload_n (dk kX9_ahead 23 rfl) rfl ?_
    refine r_ireturn (dk kX9_ahead 24 rfl) rfl rfl ⟨Nat.le_of_ble_eq_true rfl, Nat.le_of_ble_eq_true rfl⟩ ⟨by rw [show j = gn (mi M (h + 1)) 3 from hj]; rfl, rfl⟩
  | succ d ih =>
    intro j hj
    have hst : ct (fun i => gAhd (mi M (h + 1)) i p) (j + 1) = ct (fun i => gAhd (mi M (h + 1)) i p) j + (if gAhd (mi M (h + 1)) j p = true then 1 else 0) := rfl
    refine r_iload_n (dk kX9_ahead 4 rfl) rfl ?_
    refine r_aload_n (dk kX9_ahead 5 rfl) rfl ?_
    refine r_getR (dk kX9_ahead 6 rfl) fa_X9_7_8 o.k rfl o.r0 ?_
    refine r_iconst (v := 3) (dk kX9_ahead 7 rfl) (by decide) ?_
    refine r_ial (dk kX9_ahead 8 rfl) o.k1 o.l1 (j := 3) rfl (by decide) (by decide) ?_
    refine r_icmp_ge (tgt := 37) (dk kX9_ahead 9 rfl) (by decide) (fun c11 => absurd c11 (by rw [hS]; exact nI_ge (by omega) (by omega))) (fun c11 => ?_)
    refine r_iload_n (dk kX9_ahead 10 rfl) rfl ?_
    refine r_aload_n (dk kX9_ahead 11 rfl) rfl ?_
    refine r_iload_n (dk kX9_ahead 12 rfl) rfl ?_
    refine r_iload_n (dk kX9_ahead 13 rfl) rfl ?_
    refine r_callVp (I' := IX9_isAhead) (as := [_, _]) (dk kX9_ahead 14 rfl) mv_X9_isAhead ml_X9_136 rfl rfl o.k rfl rfl (Nat.le_of_ble_eq_true rfl) ⟨by decide, by decide⟩ ⟨rfl, rfl⟩ ⟨Nat.le_of_ble_eq_true rfl, Nat.le_of_ble_eq_true rfl⟩ (k_X9_isAhead o gi (by omega) hp) ?_
    refine r_if_eq (tgt := 28) (dk kX9_ahead 15 rfl) (by decide) (fun c21 => ?_) (fun c21 => ?_)
    · have h1 := bI_0.mp c21
      rw [if_neg h1] at hst
      refine r_iconst (v := 0) (dk kX9_ahead 18 rfl) (by decide) ?_
      refine r_iadd (dk kX9_ahead 19 rfl) ?_
      refine r_istore_n (j := 2) (dk kX9_ahead 20 rfl) rfl (by decide) rfl ?_
      simp only [List.set_cons_succ, List.set_cons_zero]
      refine r_iinc (dk kX9_ahead 21 rfl) (by decide) rfl rfl rfl ?_
      simp only [List.set_cons_succ, List.set_cons_zero]
      refine r_goto (tgt := 4) (dk kX9_ahead 22 rfl) (by decide) ?_
      -- at 4
      rw [show nI j + Int32.ofInt 1 = nI (j + 1) from nI_1 j, show nI (ct (fun i => gAhd (mi M (h + 1)) i p) j) + 0 = nI (ct (fun i => gAhd (mi M (h + 1)) i p) (j + 1)) by rw [hst, show (0 : Int32) = nI 0 from rfl, nI_add]]
      exact ih (j + 1) (by omega)
    · have h1 := bI_1.mp c21
      rw [if_pos h1] at hst
      refine r_iconst (v := 1) (dk kX9_ahead 16 rfl) (by decide) ?_
      refine r_goto (tgt := 29) (dk kX9_ahead 17 rfl) (by decide) ?_
      refine r_iadd (dk kX9_ahead 19 rfl) ?_
      refine r_istore_n (j := 2) (dk kX9_ahead 20 rfl) rfl (by decide) rfl ?_
      simp only [List.set_cons_succ, List.set_cons_zero]
      refine r_iinc (dk kX9_ahead 21 rfl) (by decide) rfl rfl rfl ?_
      simp only [List.set_cons_succ, List.set_cons_zero]
      refine r_goto (tgt := 4) (dk kX9_ahead 22 rfl) (by decide) ?_
      -- at 4
      rw [show nI j + Int32.ofInt 1 = nI (j + 1) from nI_1 j, show nI (ct (fun i => gAhd (mi M (h + 1)) i p) j) + 1 = nI (ct (fun i => gAhd (mi M (h + 1)) i p) (j + 1)) by rw [hst, nI_1]]
      exact ih (j + 1) (by omega)
theorem k_X9_queued (o : MO M h) {F : Nat} (gi : GI F (mi M (h + 1))) (c : Int32) : KP G IX9_queued [.ref h, .int c] M (oI (gQueued (mi M (h + 1)) c)) := by
  refine KK.ofW (by decide) (by simp [Value.category]) (Nat.le_of_ble_eq_true rfl) rfl ?_
  show WW _ _ _ 0 [_, _, lj] [] _ _ _
  obtain ⟨hS, hS2⟩ := gi.p
  refine r_iconst (v := 0) (dk kX9_queued 0 rfl) (by decide) ?_
  refine r_istore_n (j := 2) (dk kX9_queued 1 rfl) rfl (by decide) rfl ?_
  simp only [List.set_cons_succ, List.set_cons_zero]
  -- at 2
  suffices key : ∀ d j, j + d = gn (mi M (h + 1)) 3 → (∀ i, i < j → decide (nI (gAhead (mi M (h + 1)) i) = c) = false) → WW G IX9_queued (qi (fun y M' => y = oI (gQueued (mi M (h + 1)) c) ∧ M' = M) nox) 2 [.ref h, .int c, .int (nI j)] [] M 0 0 from key _ 0 (Nat.zero_add _) (fun i hi => absurd hi (Nat.not_lt_zero i))
  intro d
  induction d with
  | zero =>
    intro j hj hn
    refine r_iload_n (dk kX9_queued 2 rfl) rfl ?_
    refine r_aload_n (dk kX9_queued 3 rfl) rfl ?_
    refine r_getR (dk kX9_queued 4 rfl) fa_X9_7_8 o.k rfl o.r0 ?_
    refine r_iconst (v := 3) (dk kX9_queued 5 rfl) (by decide) ?_
    refine r_ial (dk kX9_queued 6 rfl) o.k1 o.l1 (j := 3) rfl (by decide) (by decide) ?_
    refine r_icmp_ge (tgt := 29) (dk kX9_queued 7 rfl) (by decide) (fun c9 => ?_) (fun c9 => absurd (by rw [hS]; exact nI_le (by omega) (by omega)) c9)
    refine r_iconst (v := (-1)) (dk kX9_queued 17 rfl) (by decide) ?_
    refine r_ireturn (dk kX9_queued 18 rfl) rfl rfl ⟨Nat.le_of_ble_eq_true rfl, Nat.le_of_ble_eq_true rfl⟩ ⟨by rw [show gQueued (mi M (h + 1)) c = none from fx_none.mpr (by rw [← hj]; exact hn)]; rfl, rfl⟩
  | succ d ih =>
    intro j hj hn
    refine r_iload_n (dk kX9_queued 2 rfl) rfl ?_
    refine r_aload_n (dk kX9_queued 3 rfl) rfl ?_
    refine r_getR (dk kX9_queued 4 rfl) fa_X9_7_8 o.k rfl o.r0 ?_
    refine r_iconst (v := 3) (dk kX9_queued 5 rfl) (by decide) ?_
    refine r_ial (dk kX9_queued 6 rfl) o.k1 o.l1 (j := 3) rfl (by decide) (by decide) ?_
    refine r_icmp_ge (tgt := 29) (dk kX9_queued 7 rfl) (by decide) (fun c9 => absurd c9 (by rw [hS]; exact nI_ge (by omega) (by omega))) (fun c9 => ?_)
    refine r_aload_n (dk kX9_queued 8 rfl) rfl ?_
    refine r_iload_n (dk kX9_queued 9 rfl) rfl ?_
    refine r_callVp (I' := IX9_ahead) (as := [_]) (dk kX9_queued 10 rfl) mv_X9_ahead ml_X9_140 rfl rfl o.k rfl rfl (Nat.le_of_ble_eq_true rfl) ⟨by decide, by decide⟩ ⟨rfl, rfl⟩ ⟨Nat.le_of_ble_eq_true rfl, Nat.le_of_ble_eq_true rfl⟩ (k_X9_ahead o gi (by omega)) ?_
    refine r_iload_n (dk kX9_queued 11 rfl) rfl ?_
    refine r_icmp_ne (tgt := 23) (dk kX9_queued 12 rfl) (by decide) (fun c18 => ?_) (fun c18 => ?_)
    · refine r_iinc (dk kX9_queued 15 rfl) (by decide) rfl rfl rfl ?_
      simp only [List.set_cons_succ, List.set_cons_zero]
      refine r_goto (tgt := 2) (dk kX9_queued 16 rfl) (by decide) ?_
      -- at 2
      rw [show nI j + Int32.ofInt 1 = nI (j + 1) from nI_1 j]
      exact ih (j + 1) (by omega) (fun i hi => by
        rcases Nat.lt_succ_iff_lt_or_eq.mp hi with q | q
        · exact hn i q
        · rw [q]; exact decide_eq_false c18)
    · refine r_iload_n (dk kX9_queued 13 rfl) rfl ?_
      refine r_ireturn (dk kX9_queued 14 rfl) rfl rfl ⟨Nat.le_of_ble_eq_true rfl, Nat.le_of_ble_eq_true rfl⟩ ⟨by rw [show gQueued (mi M (h + 1)) c = some j from fx_some.mpr ⟨by omega, decide_eq_true (Decidable.not_not.mp c18), hn⟩]; rfl, rfl⟩
theorem k_X9_wins (o : MO M h) {F p : Nat} (gi : GI F (mi M (h + 1))) (hp : p < gn (mi M (h + 1)) 3) : KP G IX9_wins [.ref h, .int (nI p)] M (bI (gWins (mi M (h + 1)) p = true)) := by
  refine KK.ofW (by decide) (by simp [Value.category]) (Nat.le_of_ble_eq_true rfl) rfl ?_
  show WW _ _ _ 0 [_, _, lj, lj] [] _ _ _
  have hp8 := gi.p.2
  have hr9 := gi.r.2
  obtain ⟨-, -, -, -, -, y1, y2, ⟨hS, hS2⟩, hc⟩ := gi.pi hp
  refine r_aload_n (dk kX9_wins 0 rfl) rfl ?_
  refine r_iload_n (dk kX9_wins 1 rfl) rfl ?_
  refine r_iconst (v := 5) (dk kX9_wins 2 rfl) (by decide) ?_
  refine r_callVp (I' := IX9_of) (as := [_, _]) (dk kX9_wins 3 rfl) mv_X9_of ml_X9_106 rfl rfl o.k rfl rfl (Nat.le_of_ble_eq_true rfl) ⟨by decide, by decide⟩ ⟨rfl, rfl⟩ ⟨Nat.le_of_ble_eq_true rfl, Nat.le_of_ble_eq_true rfl⟩ (k_X9_of o (w := 5) rfl (by omega) (by decide)) ?_
  -- at 6
  rw [y1.1]
  refine r_callSp (I' := IX9_bits) (as := [_]) (dk kX9_wins 4 rfl) ms_X9_bits ml_X9_120 rfl rfl rfl (Nat.le_of_ble_eq_true rfl) ⟨by decide, by decide⟩ ⟨rfl, rfl⟩ ⟨Nat.le_of_ble_eq_true rfl, Nat.le_of_ble_eq_true rfl⟩ (k_X9_bits y1.2) ?_
  refine r_aload_n (dk kX9_wins 5 rfl) rfl ?_
  refine r_iload_n (dk kX9_wins 6 rfl) rfl ?_
  refine r_bipush (v := 6) (dk kX9_wins 7 rfl) (by decide) ?_
  refine r_callVp (I' := IX9_of) (as := [_, _]) (dk kX9_wins 8 rfl) mv_X9_of ml_X9_106 rfl rfl o.k rfl rfl (Nat.le_of_ble_eq_true rfl) ⟨by decide, by decide⟩ ⟨rfl, rfl⟩ ⟨Nat.le_of_ble_eq_true rfl, Nat.le_of_ble_eq_true rfl⟩ (k_X9_of o (w := 6) rfl (by omega) (by decide)) ?_
  -- at 16
  rw [y2.1]
  refine r_callSp (I' := IX9_bits) (as := [_]) (dk kX9_wins 9 rfl) ms_X9_bits ml_X9_120 rfl rfl rfl (Nat.le_of_ble_eq_true rfl) ⟨by decide, by decide⟩ ⟨rfl, rfl⟩ ⟨Nat.le_of_ble_eq_true rfl, Nat.le_of_ble_eq_true rfl⟩ (k_X9_bits y2.2) ?_
  refine r_isub (dk kX9_wins 10 rfl) ?_
  refine r_istore_n (j := 2) (dk kX9_wins 11 rfl) rfl (by decide) rfl ?_
  simp only [List.set_cons_succ, List.set_cons_zero]
  refine r_iconst (v := 0) (dk kX9_wins 12 rfl) (by decide) ?_
  refine r_istore_n (j := 3) (dk kX9_wins 13 rfl) rfl (by decide) rfl ?_
  simp only [List.set_cons_succ, List.set_cons_zero]
  -- at 23
  suffices key : ∀ d j, j + d = gn (mi M (h + 1)) (35 + 11 * p + 7) → WW G IX9_wins (qi (fun y M' => y = bI (gWins (mi M (h + 1)) p = true) ∧ M' = M) nox) 23 [.ref h, .int (nI p), .int (gLead (mi M (h + 1)) p j), .int (nI j)] [] M 0 0 from key _ 0 (Nat.zero_add _)
  intro d
  induction d with
  | zero =>
    intro j hj
    have hj : j = gn (mi M (h + 1)) (35 + 11 * p + 7) := hj
    have hw : gWins (mi M (h + 1)) p = true ↔ 0 < gLead (mi M (h + 1)) p j := by
      unfold gWins
      rw [decide_eq_true_eq, hj]
    refine r_iload_n (dk kX9_wins 14 rfl) rfl ?_
    refine r_aload_n (dk kX9_wins 15 rfl) rfl ?_
    refine r_iload_n (dk kX9_wins 16 rfl) rfl ?_
    refine r_bipush (v := 7) (dk kX9_wins 17 rfl) (by decide) ?_
    refine r_callVp (I' := IX9_of) (as := [_, _]) (dk kX9_wins 18 rfl) mv_X9_of ml_X9_106 rfl rfl o.k rfl rfl (Nat.le_of_ble_eq_true rfl) ⟨by decide, by decide⟩ ⟨rfl, rfl⟩ ⟨Nat.le_of_ble_eq_true rfl, Nat.le_of_ble_eq_true rfl⟩ (k_X9_of o (w := 7) rfl (by omega) (by decide)) ?_
    refine r_icmp_ge (tgt := 66) (dk kX9_wins 19 rfl) (by decide) (fun c31 => ?_) (fun c31 => absurd (by rw [hS]; exact nI_le (by omega) (by omega)) c31)
    refine r_iload_n (dk kX9_wins 39 rfl) rfl ?_
    refine r_if_le (tgt := 74) (dk kX9_wins 40 rfl) (by decide) (fun c67 => ?_) (fun c67 => ?_)
    · refine r_iconst (v := 0) (dk kX9_wins 43 rfl) (by decide) ?_
      refine r_ireturn (dk kX9_wins 44 rfl) rfl rfl ⟨Nat.le_of_ble_eq_true rfl, Nat.le_of_ble_eq_true rfl⟩ ⟨(bI_f (fun z => absurd c67 (Int32.not_le.mpr (hw.mp z)))).symm, rfl⟩
    · refine r_iconst (v := 1) (dk kX9_wins 41 rfl) (by decide) ?_
      refine r_goto (tgt := 75) (dk kX9_wins 42 rfl) (by decide) ?_
      refine r_ireturn (dk kX9_wins 44 rfl) rfl rfl ⟨Nat.le_of_ble_eq_true rfl, Nat.le_of_ble_eq_true rfl⟩ ⟨(bI_t (hw.mpr (Int32.not_le.mp c67))).symm, rfl⟩
  | succ d ih =>
    intro j hj
    obtain ⟨n1, n2⟩ := hc j (by omega)
    refine r_iload_n (dk kX9_wins 14 rfl) rfl ?_
    refine r_aload_n (dk kX9_wins 15 rfl) rfl ?_
    refine r_iload_n (dk kX9_wins 16 rfl) rfl ?_
    refine r_bipush (v := 7) (dk kX9_wins 17 rfl) (by decide) ?_
    refine r_callVp (I' := IX9_of) (as := [_, _]) (dk kX9_wins 18 rfl) mv_X9_of ml_X9_106 rfl rfl o.k rfl rfl (Nat.le_of_ble_eq_true rfl) ⟨by decide, by decide⟩ ⟨rfl, rfl⟩ ⟨Nat.le_of_ble_eq_true rfl, Nat.le_of_ble_eq_true rfl⟩ (k_X9_of o (w := 7) rfl (by omega) (by decide)) ?_
    refine r_icmp_ge (tgt := 66) (dk kX9_wins 19 rfl) (by decide) (fun c31 => absurd c31 (by rw [hS]; exact nI_ge (by omega) (by omega))) (fun c31 => ?_)
    refine r_iload_n (dk kX9_wins 20 rfl) rfl ?_
    refine r_aload_n (dk kX9_wins 21 rfl) rfl ?_
    refine r_aload_n (dk kX9_wins 22 rfl) rfl ?_
    refine r_iload_n (dk kX9_wins 23 rfl) rfl ?_
    refine r_bipush (v := 8) (dk kX9_wins 24 rfl) (by decide) ?_
    refine r_iload_n (dk kX9_wins 25 rfl) rfl ?_
    refine r_iadd (dk kX9_wins 26 rfl) ?_
    refine r_callVp (I' := IX9_of) (as := [_, _]) (dk kX9_wins 27 rfl) mv_X9_of ml_X9_106 rfl rfl o.k rfl rfl (Nat.le_of_ble_eq_true rfl) ⟨by decide, by decide⟩ ⟨rfl, rfl⟩ ⟨Nat.le_of_ble_eq_true rfl, Nat.le_of_ble_eq_true rfl⟩ (k_X9_of o (w := 8 + j) (ixd rfl) (by omega) (by omega)) ?_
    refine r_iconst (v := 0) (dk kX9_wins 28 rfl) (by decide) ?_
    -- at 46
    rw [← Nat.add_assoc, n1]
    refine r_callVp (I' := IX9_by) (as := [_, _]) (dk kX9_wins 29 rfl) mv_X9_by ml_X9_146 rfl rfl o.k rfl rfl (Nat.le_of_ble_eq_true rfl) ⟨by decide, by decide⟩ ⟨rfl, rfl⟩ ⟨Nat.le_of_ble_eq_true rfl, Nat.le_of_ble_eq_true rfl⟩ (k_X9_by0 o (by omega)) ?_
    refine r_iconst (v := 1) (dk kX9_wins 30 rfl) (by decide) ?_
    refine r_icmp_ne (tgt := 57) (dk kX9_wins 31 rfl) (by decide) (fun c50 => ?_) (fun c50 => ?_)
    · refine r_iconst (v := (-1)) (dk kX9_wins 34 rfl) (by decide) ?_
      refine r_iadd (dk kX9_wins 35 rfl) ?_
      refine r_istore_n (j := 2) (dk kX9_wins 36 rfl) rfl (by decide) rfl ?_
      simp only [List.set_cons_succ, List.set_cons_zero]
      refine r_iinc (dk kX9_wins 37 rfl) (by decide) rfl rfl rfl ?_
      simp only [List.set_cons_succ, List.set_cons_zero]
      refine r_goto (tgt := 23) (dk kX9_wins 38 rfl) (by decide) ?_
      -- at 23
      rw [show nI j + Int32.ofInt 1 = nI (j + 1) from nI_1 j]
      have hst : gLead (mi M (h + 1)) p j + -1 = gLead (mi M (h + 1)) p (j + 1) := by
        show _ = gLead (mi M (h + 1)) p j + (if _ then _ else _)
        rw [if_neg c50]
      rw [hst]
      exact ih (j + 1) (by omega)
    · refine r_iconst (v := 1) (dk kX9_wins 32 rfl) (by decide) ?_
      refine r_goto (tgt := 58) (dk kX9_wins 33 rfl) (by decide) ?_
      refine r_iadd (dk kX9_wins 35 rfl) ?_
      refine r_istore_n (j := 2) (dk kX9_wins 36 rfl) rfl (by decide) rfl ?_
      simp only [List.set_cons_succ, List.set_cons_zero]
      refine r_iinc (dk kX9_wins 37 rfl) (by decide) rfl rfl rfl ?_
      simp only [List.set_cons_succ, List.set_cons_zero]
      refine r_goto (tgt := 23) (dk kX9_wins 38 rfl) (by decide) ?_
      -- at 23
      rw [show nI j + Int32.ofInt 1 = nI (j + 1) from nI_1 j]
      have hst : gLead (mi M (h + 1)) p j + 1 = gLead (mi M (h + 1)) p (j + 1) := by
        show _ = gLead (mi M (h + 1)) p j + (if _ then _ else _)
        rw [if_pos (Decidable.not_not.mp c50)]
      rw [hst]
      exact ih (j + 1) (by omega)
theorem sI_I (M : Mm) (a j : Nat) (x y : Int32) : sI (sI M a j x) a j y = sI M a j y := by
  rw [sI_A, sI_A, sI_A, sA_A, mi_sA_s, va_up_up]
theorem mi_sI_s (M : Mm) (a j : Nat) (v : Int32) : mi (sI M a j v) a = va_up (mi M a) j v := u2_s _ _ _ _
theorem mi_sI_n (M : Mm) {a b : Nat} (j : Nat) (v : Int32) (hb : b ≠ a) : mi (sI M a j v) b = mi M b := u2_n _ _ _ hb
theorem sI_sA (M : Mm) (a j : Nat) (f : Nat → Int32) (v : Int32) : sI (sA M a f) a j v = sA M a (va_up f j v) := by
  rw [sI_A, sA_A, mi_sA_s]
theorem k_X9_copies {a b : Nat} {i0 o0 : Nat} {x y : Int32} {na nb' : Nat} (hab : a ≠ b) (ka : kd M a = 20) (kb : kd M b = 20) (la : ln M a = na) (lb : ln M b = nb') (hna : na < 2 ^ 31) (hnb : nb' < 2 ^ 31) (hx : x = nI i0) (hy : y = nI o0) (hi : i0 + 219 ≤ na) (ho : o0 + 219 ≤ nb') : KU G IX9_copies [.ref a, .int x, .ref b, .int y] M (sA M b (va_cpy (mi M a) (mi M b) i0 o0 219)) := by
  subst hx; subst hy
  refine KK.ofW (by decide) (by simp [Value.category]) (Nat.le_of_ble_eq_true rfl) rfl ?_
  show WW _ _ _ 0 [_, _, _, _, lj] [] _ _ _
  refine r_iconst (v := 0) (dk kX9_copies 0 rfl) (by decide) ?_
  refine r_istore (dk kX9_copies 1 rfl) (by decide) rfl ?_
  simp only [List.set_cons_succ, List.set_cons_zero]
  -- at 3
  suffices key : ∀ d j, j + d = 219 → WW G IX9_copies (qv (fun M' => M' = sA M b (va_cpy (mi M a) (mi M b) i0 o0 219)) nox) 3 [.ref a, .int (nI i0), .ref b, .int (nI o0), .int (nI j)] [] (sA M b (va_cpy (mi M a) (mi M b) i0 o0 j)) 0 0 by
    have h0 := key 219 0 (by omega)
    have e0 : va_cpy (mi M a) (mi M b) i0 o0 0 = mi M b := by
      funext z
      exact pk_cpy_out (by omega)
    rw [e0, sA_eq] at h0
    exact h0
  intro d
  induction d with
  | zero =>
    intro j hj
    have hj : j = 219 := hj
    subst hj
    refine r_iload (dk kX9_copies 2 rfl) rfl ?_
    refine r_sipush (v := 219) (dk kX9_copies 3 rfl) (by decide) ?_
    refine r_icmp_ge (tgt := 29) (dk kX9_copies 4 rfl) (by decide) (fun c8 => ?_) (fun c8 => absurd (by decide) c8)
    refine r_return (dk kX9_copies 17 rfl) rfl ⟨Nat.le_of_ble_eq_true rfl, Nat.le_of_ble_eq_true rfl⟩ rfl
  | succ d ih =>
    intro j hj
    refine r_iload (dk kX9_copies 2 rfl) rfl ?_
    refine r_sipush (v := 219) (dk kX9_copies 3 rfl) (by decide) ?_
    refine r_icmp_ge (tgt := 29) (dk kX9_copies 4 rfl) (by decide) (fun c8 => absurd c8 (fun z => absurd ((nI_leI (a := 219) (b := j) (by decide) (by omega)).mp z) (by omega))) (fun c8 => ?_)
    refine r_aload_n (dk kX9_copies 5 rfl) rfl ?_
    refine r_iload_n (dk kX9_copies 6 rfl) rfl ?_
    refine r_iload (dk kX9_copies 7 rfl) rfl ?_
    refine r_iadd (dk kX9_copies 8 rfl) ?_
    refine r_aload_n (dk kX9_copies 9 rfl) rfl ?_
    refine r_iload_n (dk kX9_copies 10 rfl) rfl ?_
    refine r_iload (dk kX9_copies 11 rfl) rfl ?_
    refine r_iadd (dk kX9_copies 12 rfl) ?_
    -- at 21
    have e1 : mi (sA M b (va_cpy (mi M a) (mi M b) i0 o0 j)) a (i0 + j) = mi M a (i0 + j) := by rw [mi_sA_n _ _ hab]
    refine r_ial (dk kX9_copies 13 rfl) (j := i0 + j) ka la (nI_add i0 j) (by omega) hna ?_
    rw [e1]
    refine r_ias (dk kX9_copies 14 rfl) (j := o0 + j) kb lb (nI_add o0 j) (by omega) hnb ?_
    refine r_iinc (dk kX9_copies 15 rfl) (by decide) rfl rfl rfl ?_
    simp only [List.set_cons_succ, List.set_cons_zero]
    refine r_goto (tgt := 3) (dk kX9_copies 16 rfl) (by decide) ?_
    -- at 3
    rw [show nI j + Int32.ofInt 1 = nI (j + 1) from nI_1 j, sI_sA]
    have e2 : va_up (va_cpy (mi M a) (mi M b) i0 o0 j) (o0 + j) (mi M a (i0 + j)) = va_cpy (mi M a) (mi M b) i0 o0 (j + 1) := by
      funext z
      by_cases hz : z = o0 + j
      · subst hz
        rw [va_up_self, pk_cpy_in (by omega) (by omega), show o0 + j - o0 = j by omega]
      · rw [va_up_ne _ _ hz]
        by_cases hz2 : o0 ≤ z ∧ z < o0 + j
        · rw [pk_cpy_in hz2.1 hz2.2, pk_cpy_in hz2.1 (by omega)]
        · rw [pk_cpy_out (by omega), pk_cpy_out (by omega)]
    rw [e2]
    exact ih (j + 1) (by omega)
end MODEL
