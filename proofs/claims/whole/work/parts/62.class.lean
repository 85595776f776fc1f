/-! THE CLASS: the board, and what each command tries -/
/-- a board at x: state x+1, snapshot x+31, history x+61, text x+333, line x+335, reader x+337, influences x+349 -/
def BO (M : Mm) (x : Nat) : Prop := kd M x = 8 ∧ (mr M x 0 = some (x + 1) ∧ mr M x 1 = some (x + 31) ∧ mr M x 2 = some (x + 61) ∧ mr M x 3 = some (x + 333) ∧ mr M x 4 = some (x + 335) ∧ mr M x 5 = some (x + 337) ∧ mr M x 6 = some (x + 349)) ∧ SO M (x + 1) ∧ SO M (x + 31) ∧ HO M (x + 61) ∧ LO M (x + 333) ∧ LO M (x + 335) ∧ RO M (x + 337) ∧ kd M (x + 349) = 20 ∧ ln M (x + 349) = 16
section BO
variable {M M' : Mm} {x : Nat}
theorem BO.k (o : BO M x) : kd M x = 8 := o.1
theorem BO.r0 (o : BO M x) : mr M x 0 = some (x + 1) := o.2.1.1
theorem BO.r1 (o : BO M x) : mr M x 1 = some (x + 31) := o.2.1.2.1
theorem BO.r2 (o : BO M x) : mr M x 2 = some (x + 61) := o.2.1.2.2.1
theorem BO.r3 (o : BO M x) : mr M x 3 = some (x + 333) := o.2.1.2.2.2.1
theorem BO.r4 (o : BO M x) : mr M x 4 = some (x + 335) := o.2.1.2.2.2.2.1
theorem BO.r5 (o : BO M x) : mr M x 5 = some (x + 337) := o.2.1.2.2.2.2.2.1
theorem BO.r6 (o : BO M x) : mr M x 6 = some (x + 349) := o.2.1.2.2.2.2.2.2
theorem BO.s (o : BO M x) : SO M (x + 1) := o.2.2.1
theorem BO.n (o : BO M x) : SO M (x + 31) := o.2.2.2.1
theorem BO.h (o : BO M x) : HO M (x + 61) := o.2.2.2.2.1
theorem BO.t (o : BO M x) : LO M (x + 333) := o.2.2.2.2.2.1
theorem BO.l (o : BO M x) : LO M (x + 335) := o.2.2.2.2.2.2.1
theorem BO.r (o : BO M x) : RO M (x + 337) := o.2.2.2.2.2.2.2.1
theorem BO.ki (o : BO M x) : kd M (x + 349) = 20 := o.2.2.2.2.2.2.2.2.1
theorem BO.li (o : BO M x) : ln M (x + 349) = 16 := o.2.2.2.2.2.2.2.2.2
theorem BO.tr (o : BO M x) (h1 : kd M' = kd M) (h2 : ln M' = ln M) (h3 : mr M' = mr M) : BO M' x := by
  obtain ⟨a1, a2, a3, a4, a5, a6, a7, a8, a9, a10⟩ := o
  exact ⟨by rw [h1]; exact a1, by rw [h3]; exact a2, a3.tr h1 h2 h3, a4.tr h1 h2 h3, a5.tr h1 h2 h3, a6.to h1 h2 (by rw [h3]), a7.to h1 h2 (by rw [h3]), a8.to h1 h2 (by rw [h3]) (by rw [h3]), by rw [h1]; exact a9, by rw [h2]; exact a10⟩
/-- the state alone has changed -/
theorem BO.fs (o : BO M x) (r : FR M (x + 1) (x + 30) M') (s : SO M' (x + 1)) : BO M' x := by
  obtain ⟨a1, a2, a3, a4, a5, a6, a7, a8, a9, a10⟩ := o
  exact ⟨by rw [r.k]; exact a1, by rw [r.r (by omega)]; exact a2, s, a4.fr r (by omega), a5.fr r (by omega), a6.to r.k r.l (r.r (by omega)), a7.to r.k r.l (r.r (by omega)), a8.to r.k r.l (r.r (by omega)) (r.r (by omega)), by rw [r.k]; exact a9, by rw [r.l]; exact a10⟩
end BO
/-- what an attempt leaves: tc tells the class's number for a throw -/
def QA (M : Mm) (x : Nat) (co : CO) (tc : Int32 → Int32) (y : Int32) (M' : Mm) : Prop := (co.1 = 0 ∧ y = co.2.2.1 ∧ 0 ≤ y ∧ FR M (x + 1) (x + 30) M' ∧ SO M' (x + 1) ∧ ∃ q', SV M' (x + 1) co.2.2.2 q') ∨ (co.1 ≠ 0 ∧ co.2.1.1 = 0 ∧ y = tc co.1 ∧ M' = M) ∨ (co.1 ≠ 0 ∧ co.2.1.1 ≠ 0 ∧ y = -4 ∧ M' = sI (sI M x 9 co.2.1.1) x 10 co.2.1.2)
theorem QA.den {M : Mm} {x : Nat} {tc : Int32 → Int32} {p a : Int32} (b : Int32) (hp : p ≠ 0) (ha : a ≠ 0) : QA M x (cDen p a b) tc (-4) (sI (sI M x 9 a) x 10 b) := Or.inr (Or.inr ⟨hp, ha, rfl, rfl⟩)
theorem QA.thr {M : Mm} {x : Nat} {tc : Int32 → Int32} {p y : Int32} (hp : p ≠ 0) (hy : y = tc p) : QA M x (cThr p) tc y M := Or.inr (Or.inl ⟨hp, rfl, hy, rfl⟩)
theorem QA.ok {M M' : Mm} {x : Nat} {tc : Int32 → Int32} {v : Int32} {g' : Nat → Int32} (hv : 0 ≤ v) (r : FR M (x + 1) (x + 30) M') (o : SO M' (x + 1)) (h : ∃ q', SV M' (x + 1) g' q') : QA M x (cOk v g') tc v M' := Or.inl ⟨rfl, rfl, hv, r, o, h⟩
section CLASS
variable {G : GG} {M : Mm} {x F : Nat} {g : Nat → Int32} {q : Nat → Nat}
theorem k_X8_deny (o : BO M x) (a b : Int32) : KE G IX8_deny [.ref x, .int a, .int b] M (-4) (sI (sI M x 9 a) x 10 b) := by
  refine KK.ofW (by decide) (by simp [Value.category]) (Nat.le_of_ble_eq_true rfl) rfl ?_
  show WW _ _ _ 0 [_, _, _] [] _ _ _
  first | refine r_aload_n (dk kX8_deny 0 rfl) rfl ?_ | refine r_aload_nN (dk kX8_deny 0 rfl) rfl ?_
  refine r_iload_n (dk kX8_deny 1 rfl) rfl ?_
  refine r_puti (dk kX8_deny 2 rfl) fa_X8_392_7 o.k rfl rfl rfl rfl ?_
  first | refine r_aload_n (dk kX8_deny 3 rfl) rfl ?_ | refine r_aload_nN (dk kX8_deny 3 rfl) rfl ?_
  refine r_iload_n (dk kX8_deny 4 rfl) rfl ?_
  refine r_puti (dk kX8_deny 5 rfl) fa_X8_395_7 o.k rfl rfl rfl rfl ?_
  refine r_bipush (v := (-4)) (dk kX8_deny 6 rfl) (by decide) ?_
  refine r_ireturn (dk kX8_deny 7 rfl) rfl rfl ⟨Nat.le_of_ble_eq_true rfl, Nat.le_of_ble_eq_true rfl⟩ ⟨rfl, rfl⟩
theorem k_X8_isCell (c : Int32) : KP G IX8_isCell [.int c] M (bI (0 ≤ c ∧ c ≤ 24)) := by
  refine KK.ofW (by decide) (by simp [Value.category]) (Nat.le_of_ble_eq_true rfl) rfl ?_
  show WW _ _ _ 0 [_] [] _ _ _
  by_cases h1 : c < 0
  · rw [bI_f (fun z => absurd h1 (Int32.not_lt.mpr z.1))]
    refine r_iload_n (dk kX8_isCell 0 rfl) rfl ?_
    refine r_if_lt (tgt := 14) (dk kX8_isCell 1 rfl) (by decide) (fun c1 => ?_) (fun c1 => absurd h1 c1)
    refine r_iconst (v := 0) (dk kX8_isCell 7 rfl) (by decide) ?_
    refine r_ireturn (dk kX8_isCell 8 rfl) rfl rfl ⟨Nat.le_of_ble_eq_true rfl, Nat.le_of_ble_eq_true rfl⟩ ⟨rfl, rfl⟩
  · obtain ⟨k, hk, rfl⟩ := nI_of h1
    by_cases h2 : k < 25
    · rw [bI_t ⟨nI_pos' hk, (nI_leI (b := 24) hk (by decide)).mpr (by omega)⟩]
      refine r_iload_n (dk kX8_isCell 0 rfl) rfl ?_
      refine r_if_lt (tgt := 14) (dk kX8_isCell 1 rfl) (by decide) (fun c1 => absurd c1 h1) (fun c1 => ?_)
      refine r_iload_n (dk kX8_isCell 2 rfl) rfl ?_
      refine r_bipush (v := 25) (dk kX8_isCell 3 rfl) (by decide) ?_
      refine r_icmp_ge (tgt := 14) (dk kX8_isCell 4 rfl) (by decide) (fun c7 => absurd c7 (nI_ge (a := k) (b := 25) h2 (by decide))) (fun c7 => ?_)
      refine r_iconst (v := 1) (dk kX8_isCell 5 rfl) (by decide) ?_
      refine r_goto (tgt := 15) (dk kX8_isCell 6 rfl) (by decide) ?_
      refine r_ireturn (dk kX8_isCell 8 rfl) rfl rfl ⟨Nat.le_of_ble_eq_true rfl, Nat.le_of_ble_eq_true rfl⟩ ⟨rfl, rfl⟩
    · rw [bI_f (fun z => h2 (by have := (nI_leI (b := 24) hk (by decide)).mp z.2; omega))]
      refine r_iload_n (dk kX8_isCell 0 rfl) rfl ?_
      refine r_if_lt (tgt := 14) (dk kX8_isCell 1 rfl) (by decide) (fun c1 => absurd c1 h1) (fun c1 => ?_)
      refine r_iload_n (dk kX8_isCell 2 rfl) rfl ?_
      refine r_bipush (v := 25) (dk kX8_isCell 3 rfl) (by decide) ?_
      refine r_icmp_ge (tgt := 14) (dk kX8_isCell 4 rfl) (by decide) (fun c7 => ?_) (fun c7 => absurd (nI_le (a := 25) (by omega) hk) c7)
      refine r_iconst (v := 0) (dk kX8_isCell 7 rfl) (by decide) ?_
      refine r_ireturn (dk kX8_isCell 8 rfl) rfl rfl ⟨Nat.le_of_ble_eq_true rfl, Nat.le_of_ble_eq_true rfl⟩ ⟨rfl, rfl⟩
theorem in19 {w : Int32} (h : ¬ (1 ≤ w ∧ w ≤ 9)) : w < 1 ∨ ¬ w < 1 ∧ ¬ w ≤ 9 := by
  by_cases h1 : w < 1
  · exact Or.inl h1
  · exact Or.inr ⟨h1, fun z => h ⟨Int32.not_lt.mp h1, z⟩⟩
def tc1 (c : Int32) : Int32 := if c = 1 then -1 else -2
def tc2 (_ : Int32) : Int32 := -2
def tc3 (c : Int32) : Int32 := if c = 1 then -1 else -3
def tc4 (_ : Int32) : Int32 := -3
theorem k_X8_placeStone (o : BO M x) (v : SV M (x + 1) g q) (i : GI F g) (c w : Int32) : KK G IX8_placeStone [.ref x, .int c, .int w] M (qi (QA M x (sp_addStone g c w) tc1) nox) := by
  refine KK.ofW (by decide) (by simp [Value.category]) (Nat.le_of_ble_eq_true rfl) rfl ?_
  show WW _ _ _ 0 [_, _, _, lj] [] _ _ _
  have s11 := i.s.2
  by_cases hc : 0 ≤ c ∧ c ≤ 24
  · by_cases hw : 1 ≤ w ∧ w ≤ 9
    · cases e : gWithin g c with
      | some k =>
        have e0 : sp_addStone g c w = cDen 3 2 (nI k) := by
          unfold sp_addStone
          rw [if_pos hc, if_pos hw, e]
        have hk := fx_lt e
        have hne : nI k ≠ -1 := fun z => by
          have h1 := nI_pos (n := k) (by omega)
          rw [z] at h1
          exact h1 (by decide)
        rw [e0]
        refine r_iload_n (dk kX8_placeStone 0 rfl) rfl ?_
        refine r_callSp (I' := IX8_isCell) (as := [_]) (dk kX8_placeStone 1 rfl) ms_X8_isCell ml_X8_86 rfl rfl rfl (Nat.le_of_ble_eq_true rfl) ⟨by decide, by decide⟩ ⟨rfl, rfl⟩ ⟨Nat.le_of_ble_eq_true rfl, Nat.le_of_ble_eq_true rfl⟩ (k_X8_isCell c) ?_
        refine r_if_ne (tgt := 9) (dk kX8_placeStone 2 rfl) (by decide) (fun c4 => ?_) (fun c4 => absurd (by rw [bI_t hc]; decide) c4)
        refine r_iload_n (dk kX8_placeStone 5 rfl) rfl ?_
        refine r_iconst (v := 1) (dk kX8_placeStone 6 rfl) (by decide) ?_
        refine r_icmp_lt (tgt := 20) (dk kX8_placeStone 7 rfl) (by decide) (fun c11 => absurd c11 (Int32.not_lt.mpr hw.1)) (fun c11 => ?_)
        refine r_iload_n (dk kX8_placeStone 8 rfl) rfl ?_
        refine r_bipush (v := 9) (dk kX8_placeStone 9 rfl) (by decide) ?_
        refine r_icmp_le (tgt := 23) (dk kX8_placeStone 10 rfl) (by decide) (fun c17 => ?_) (fun c17 => absurd hw.2 c17)
        first | refine r_aload_n (dk kX8_placeStone 13 rfl) rfl ?_ | refine r_aload_nN (dk kX8_placeStone 13 rfl) rfl ?_
        refine r_getR (dk kX8_placeStone 14 rfl) fa_X8_12_7 o.k rfl o.r0 ?_
        refine r_iload_n (dk kX8_placeStone 15 rfl) rfl ?_
        refine r_callVp (I' := IX6_findStoneIn) (as := [_]) (dk kX8_placeStone 16 rfl) mv_X6_findStoneIn ml_X8_91 rfl rfl o.s.k rfl rfl (Nat.le_of_ble_eq_true rfl) ⟨by decide, by decide⟩ ⟨rfl, rfl⟩ ⟨Nat.le_of_ble_eq_true rfl, Nat.le_of_ble_eq_true rfl⟩ (k_X6_findStoneIn o.s v i c) ?_
        -- at 31
        rw [e]
        refine r_istore_n (j := 3) (dk kX8_placeStone 17 rfl) rfl (by decide) rfl ?_
        simp only [List.set_cons_succ, List.set_cons_zero]
        refine r_iload_n (dk kX8_placeStone 18 rfl) rfl ?_
        refine r_iconst (v := (-1)) (dk kX8_placeStone 19 rfl) (by decide) ?_
        refine r_icmp_eq (tgt := 44) (dk kX8_placeStone 20 rfl) (by decide) (fun c34 => absurd c34 (fun z => hne z)) (fun c34 => ?_)
        first | refine r_aload_n (dk kX8_placeStone 21 rfl) rfl ?_ | refine r_aload_nN (dk kX8_placeStone 21 rfl) rfl ?_
        refine r_iconst (v := 2) (dk kX8_placeStone 22 rfl) (by decide) ?_
        refine r_iload_n (dk kX8_placeStone 23 rfl) rfl ?_
        refine r_callVp (I' := IX8_deny) (as := [_, _]) (dk kX8_placeStone 24 rfl) mv_X8_deny ml_X8_346 rfl rfl o.k rfl rfl (Nat.le_of_ble_eq_true rfl) ⟨by decide, by decide⟩ ⟨rfl, rfl⟩ ⟨Nat.le_of_ble_eq_true rfl, Nat.le_of_ble_eq_true rfl⟩ (k_X8_deny o _ _) ?_
        refine r_ireturn (dk kX8_placeStone 25 rfl) rfl rfl ⟨Nat.le_of_ble_eq_true rfl, Nat.le_of_ble_eq_true rfl⟩ (QA.den _ (by decide) (by decide))
      | none =>
        have e0 : sp_addStone g c w = if gn g 0 = 10 then cDen 3 1 10 else cOk (nI (gn g 0)) (va_up (va_up (va_up g 0 (nI (gn g 0 + 1))) (9 + 2 * gn g 0) c) (9 + 2 * gn g 0 + 1) w) := by
          unfold sp_addStone
          rw [if_pos hc, if_pos hw, e]
        refine r_iload_n (dk kX8_placeStone 0 rfl) rfl ?_
        refine r_callSp (I' := IX8_isCell) (as := [_]) (dk kX8_placeStone 1 rfl) ms_X8_isCell ml_X8_86 rfl rfl rfl (Nat.le_of_ble_eq_true rfl) ⟨by decide, by decide⟩ ⟨rfl, rfl⟩ ⟨Nat.le_of_ble_eq_true rfl, Nat.le_of_ble_eq_true rfl⟩ (k_X8_isCell c) ?_
        refine r_if_ne (tgt := 9) (dk kX8_placeStone 2 rfl) (by decide) (fun c4 => ?_) (fun c4 => absurd (by rw [bI_t hc]; decide) c4)
        refine r_iload_n (dk kX8_placeStone 5 rfl) rfl ?_
        refine r_iconst (v := 1) (dk kX8_placeStone 6 rfl) (by decide) ?_
        refine r_icmp_lt (tgt := 20) (dk kX8_placeStone 7 rfl) (by decide) (fun c11 => absurd c11 (Int32.not_lt.mpr hw.1)) (fun c11 => ?_)
        refine r_iload_n (dk kX8_placeStone 8 rfl) rfl ?_
        refine r_bipush (v := 9) (dk kX8_placeStone 9 rfl) (by decide) ?_
        refine r_icmp_le (tgt := 23) (dk kX8_placeStone 10 rfl) (by decide) (fun c17 => ?_) (fun c17 => absurd hw.2 c17)
        first | refine r_aload_n (dk kX8_placeStone 13 rfl) rfl ?_ | refine r_aload_nN (dk kX8_placeStone 13 rfl) rfl ?_
        refine r_getR (dk kX8_placeStone 14 rfl) fa_X8_12_7 o.k rfl o.r0 ?_
        refine r_iload_n (dk kX8_placeStone 15 rfl) rfl ?_
        refine r_callVp (I' := IX6_findStoneIn) (as := [_]) (dk kX8_placeStone 16 rfl) mv_X6_findStoneIn ml_X8_91 rfl rfl o.s.k rfl rfl (Nat.le_of_ble_eq_true rfl) ⟨by decide, by decide⟩ ⟨rfl, rfl⟩ ⟨Nat.le_of_ble_eq_true rfl, Nat.le_of_ble_eq_true rfl⟩ (k_X6_findStoneIn o.s v i c) ?_
        -- at 31
        rw [e]
        refine r_istore_n (j := 3) (dk kX8_placeStone 17 rfl) rfl (by decide) rfl ?_
        simp only [List.set_cons_succ, List.set_cons_zero]
        refine r_iload_n (dk kX8_placeStone 18 rfl) rfl ?_
        refine r_iconst (v := (-1)) (dk kX8_placeStone 19 rfl) (by decide) ?_
        refine r_icmp_eq (tgt := 44) (dk kX8_placeStone 20 rfl) (by decide) (fun c34 => ?_) (fun c34 => absurd rfl c34)
        first | refine r_aload_n (dk kX8_placeStone 26 rfl) rfl ?_ | refine r_aload_nN (dk kX8_placeStone 26 rfl) rfl ?_
        refine r_getR (dk kX8_placeStone 27 rfl) fa_X8_12_7 o.k rfl o.r0 ?_
        refine r_geti (dk kX8_placeStone 28 rfl) fa_X8_66_5 o.s.k rfl ?_
        -- at 51
        rw [v.c0 i]
        by_cases h10 : gn g 0 = 10
        · rw [if_pos h10] at e0
          rw [e0]
          refine r_bipush (v := 10) (dk kX8_placeStone 29 rfl) (by decide) ?_
          refine r_icmp_lt (tgt := 64) (dk kX8_placeStone 30 rfl) (by decide) (fun c53 => absurd c53 (by rw [h10]; decide)) (fun c53 => ?_)
          first | refine r_aload_n (dk kX8_placeStone 31 rfl) rfl ?_ | refine r_aload_nN (dk kX8_placeStone 31 rfl) rfl ?_
          refine r_iconst (v := 1) (dk kX8_placeStone 32 rfl) (by decide) ?_
          refine r_bipush (v := 10) (dk kX8_placeStone 33 rfl) (by decide) ?_
          refine r_callVp (I' := IX8_deny) (as := [_, _]) (dk kX8_placeStone 34 rfl) mv_X8_deny ml_X8_346 rfl rfl o.k rfl rfl (Nat.le_of_ble_eq_true rfl) ⟨by decide, by decide⟩ ⟨rfl, rfl⟩ ⟨Nat.le_of_ble_eq_true rfl, Nat.le_of_ble_eq_true rfl⟩ (k_X8_deny o _ _) ?_
          refine r_ireturn (dk kX8_placeStone 35 rfl) rfl rfl ⟨Nat.le_of_ble_eq_true rfl, Nat.le_of_ble_eq_true rfl⟩ (QA.den _ (by decide) (by decide))
        · rw [if_neg h10] at e0
          rw [e0]
          refine r_bipush (v := 10) (dk kX8_placeStone 29 rfl) (by decide) ?_
          refine r_icmp_lt (tgt := 64) (dk kX8_placeStone 30 rfl) (by decide) (fun c53 => ?_) (fun c53 => absurd (nI_lt (a := gn g 0) (b := 10) (by omega) (by decide)) c53)
          first | refine r_aload_n (dk kX8_placeStone 36 rfl) rfl ?_ | refine r_aload_nN (dk kX8_placeStone 36 rfl) rfl ?_
          refine r_getR (dk kX8_placeStone 37 rfl) fa_X8_12_7 o.k rfl o.r0 ?_
          refine r_iload_n (dk kX8_placeStone 38 rfl) rfl ?_
          refine r_iload_n (dk kX8_placeStone 39 rfl) rfl ?_
          refine r_callVp (I' := IX6_appendStone) (as := [_, _]) (dk kX8_placeStone 40 rfl) mv_X6_appendStone ml_X8_349 rfl rfl o.s.k rfl rfl (Nat.le_of_ble_eq_true rfl) ⟨by decide, by decide⟩ ⟨rfl, rfl⟩ ⟨Nat.le_of_ble_eq_true rfl, Nat.le_of_ble_eq_true rfl⟩ (k_X6_appendStone o.s (v.c0 i) (by omega) c w) ?_
          refine r_ireturn (dk kX8_placeStone 41 rfl) rfl rfl ⟨Nat.le_of_ble_eq_true rfl, Nat.le_of_ble_eq_true rfl⟩ (QA.ok (nI_pos' (by omega)) ((((FR.rfl M (x + 1) (x + 30)).sI _ _ (by omega)).sI _ _ (by omega)).sI _ _ (by omega)) (o.s.tr rfl rfl rfl) ⟨q, SV_addStone v o.s i h10 c w⟩)
    · have e0 : sp_addStone g c w = cThr 2 := by
        unfold sp_addStone
        rw [if_pos hc, if_neg hw]
      rw [e0]
      rcases in19 hw with h1 | ⟨h1, h2⟩
      · refine r_iload_n (dk kX8_placeStone 0 rfl) rfl ?_
        refine r_callSp (I' := IX8_isCell) (as := [_]) (dk kX8_placeStone 1 rfl) ms_X8_isCell ml_X8_86 rfl rfl rfl (Nat.le_of_ble_eq_true rfl) ⟨by decide, by decide⟩ ⟨rfl, rfl⟩ ⟨Nat.le_of_ble_eq_true rfl, Nat.le_of_ble_eq_true rfl⟩ (k_X8_isCell c) ?_
        refine r_if_ne (tgt := 9) (dk kX8_placeStone 2 rfl) (by decide) (fun c4 => ?_) (fun c4 => absurd (by rw [bI_t hc]; decide) c4)
        refine r_iload_n (dk kX8_placeStone 5 rfl) rfl ?_
        refine r_iconst (v := 1) (dk kX8_placeStone 6 rfl) (by decide) ?_
        refine r_icmp_lt (tgt := 20) (dk kX8_placeStone 7 rfl) (by decide) (fun c11 => ?_) (fun c11 => absurd h1 c11)
        refine r_bipush (v := (-2)) (dk kX8_placeStone 11 rfl) (by decide) ?_
        refine r_ireturn (dk kX8_placeStone 12 rfl) rfl rfl ⟨Nat.le_of_ble_eq_true rfl, Nat.le_of_ble_eq_true rfl⟩ (QA.thr (by decide) rfl)
      · refine r_iload_n (dk kX8_placeStone 0 rfl) rfl ?_
        refine r_callSp (I' := IX8_isCell) (as := [_]) (dk kX8_placeStone 1 rfl) ms_X8_isCell ml_X8_86 rfl rfl rfl (Nat.le_of_ble_eq_true rfl) ⟨by decide, by decide⟩ ⟨rfl, rfl⟩ ⟨Nat.le_of_ble_eq_true rfl, Nat.le_of_ble_eq_true rfl⟩ (k_X8_isCell c) ?_
        refine r_if_ne (tgt := 9) (dk kX8_placeStone 2 rfl) (by decide) (fun c4 => ?_) (fun c4 => absurd (by rw [bI_t hc]; decide) c4)
        refine r_iload_n (dk kX8_placeStone 5 rfl) rfl ?_
        refine r_iconst (v := 1) (dk kX8_placeStone 6 rfl) (by decide) ?_
        refine r_icmp_lt (tgt := 20) (dk kX8_placeStone 7 rfl) (by decide) (fun c11 => absurd c11 h1) (fun c11 => ?_)
        refine r_iload_n (dk kX8_placeStone 8 rfl) rfl ?_
        refine r_bipush (v := 9) (dk kX8_placeStone 9 rfl) (by decide) ?_
        refine r_icmp_le (tgt := 23) (dk kX8_placeStone 10 rfl) (by decide) (fun c17 => absurd c17 h2) (fun c17 => ?_)
        refine r_bipush (v := (-2)) (dk kX8_placeStone 11 rfl) (by decide) ?_
        refine r_ireturn (dk kX8_placeStone 12 rfl) rfl rfl ⟨Nat.le_of_ble_eq_true rfl, Nat.le_of_ble_eq_true rfl⟩ (QA.thr (by decide) rfl)
  · have e0 : sp_addStone g c w = cThr 1 := by
      unfold sp_addStone
      rw [if_neg hc]
    rw [e0]
    refine r_iload_n (dk kX8_placeStone 0 rfl) rfl ?_
    refine r_callSp (I' := IX8_isCell) (as := [_]) (dk kX8_placeStone 1 rfl) ms_X8_isCell ml_X8_86 rfl rfl rfl (Nat.le_of_ble_eq_true rfl) ⟨by decide, by decide⟩ ⟨rfl, rfl⟩ ⟨Nat.le_of_ble_eq_true rfl, Nat.le_of_ble_eq_true rfl⟩ (k_X8_isCell c) ?_
    refine r_if_ne (tgt := 9) (dk kX8_placeStone 2 rfl) (by decide) (fun c4 => absurd c4 (by rw [bI_f hc]; decide)) (fun c4 => ?_)
    refine r_iconst (v := (-1)) (dk kX8_placeStone 3 rfl) (by decide) ?_
    refine r_ireturn (dk kX8_placeStone 4 rfl) rfl rfl ⟨Nat.le_of_ble_eq_true rfl, Nat.le_of_ble_eq_true rfl⟩ (QA.thr (by decide) rfl)
theorem k_X8_enlistOfficer (o : BO M x) (v : SV M (x + 1) g q) (i : GI F g) (w : Int32) : KK G IX8_enlistOfficer [.ref x, .int w] M (qi (QA M x (sp_addOfficer g w) tc2) nox) := by
  refine KK.ofW (by decide) (by simp [Value.category]) (Nat.le_of_ble_eq_true rfl) rfl ?_
  show WW _ _ _ 0 [_, _] [] _ _ _
  have o7 := i.o.2
  by_cases hw : 1 ≤ w ∧ w ≤ 9
  · have e0 : sp_addOfficer g w = if gn g 1 = 6 then cDen 2 1 6 else cOk (nI (gn g 1)) (va_up (va_up g (29 + gn g 1) w) 1 (nI (gn g 1 + 1))) := by
      unfold sp_addOfficer
      rw [if_pos hw]
    refine r_iload_n (dk kX8_enlistOfficer 0 rfl) rfl ?_
    refine r_iconst (v := 1) (dk kX8_enlistOfficer 1 rfl) (by decide) ?_
    refine r_icmp_lt (tgt := 11) (dk kX8_enlistOfficer 2 rfl) (by decide) (fun c2 => absurd c2 (Int32.not_lt.mpr hw.1)) (fun c2 => ?_)
    refine r_iload_n (dk kX8_enlistOfficer 3 rfl) rfl ?_
    refine r_bipush (v := 9) (dk kX8_enlistOfficer 4 rfl) (by decide) ?_
    refine r_icmp_le (tgt := 14) (dk kX8_enlistOfficer 5 rfl) (by decide) (fun c8 => ?_) (fun c8 => absurd hw.2 c8)
    first | refine r_aload_n (dk kX8_enlistOfficer 8 rfl) rfl ?_ | refine r_aload_nN (dk kX8_enlistOfficer 8 rfl) rfl ?_
    refine r_getR (dk kX8_enlistOfficer 9 rfl) fa_X8_12_7 o.k rfl o.r0 ?_
    refine r_geti (dk kX8_enlistOfficer 10 rfl) fa_X8_99_5 o.s.k rfl ?_
    -- at 21
    rw [v.c1 i]
    by_cases h6 : gn g 1 = 6
    · rw [if_pos h6] at e0
      rw [e0]
      refine r_bipush (v := 6) (dk kX8_enlistOfficer 11 rfl) (by decide) ?_
      refine r_icmp_lt (tgt := 34) (dk kX8_enlistOfficer 12 rfl) (by decide) (fun c23 => absurd c23 (by rw [h6]; decide)) (fun c23 => ?_)
      first | refine r_aload_n (dk kX8_enlistOfficer 13 rfl) rfl ?_ | refine r_aload_nN (dk kX8_enlistOfficer 13 rfl) rfl ?_
      refine r_iconst (v := 1) (dk kX8_enlistOfficer 14 rfl) (by decide) ?_
      refine r_bipush (v := 6) (dk kX8_enlistOfficer 15 rfl) (by decide) ?_
      refine r_callVp (I' := IX8_deny) (as := [_, _]) (dk kX8_enlistOfficer 16 rfl) mv_X8_deny ml_X8_346 rfl rfl o.k rfl rfl (Nat.le_of_ble_eq_true rfl) ⟨by decide, by decide⟩ ⟨rfl, rfl⟩ ⟨Nat.le_of_ble_eq_true rfl, Nat.le_of_ble_eq_true rfl⟩ (k_X8_deny o _ _) ?_
      refine r_ireturn (dk kX8_enlistOfficer 17 rfl) rfl rfl ⟨Nat.le_of_ble_eq_true rfl, Nat.le_of_ble_eq_true rfl⟩ (QA.den _ (by decide) (by decide))
    · rw [if_neg h6] at e0
      rw [e0]
      refine r_bipush (v := 6) (dk kX8_enlistOfficer 11 rfl) (by decide) ?_
      refine r_icmp_lt (tgt := 34) (dk kX8_enlistOfficer 12 rfl) (by decide) (fun c23 => ?_) (fun c23 => absurd (nI_lt (a := gn g 1) (b := 6) (by omega) (by decide)) c23)
      first | refine r_aload_n (dk kX8_enlistOfficer 18 rfl) rfl ?_ | refine r_aload_nN (dk kX8_enlistOfficer 18 rfl) rfl ?_
      refine r_getR (dk kX8_enlistOfficer 19 rfl) fa_X8_12_7 o.k rfl o.r0 ?_
      refine r_iload_n (dk kX8_enlistOfficer 20 rfl) rfl ?_
      refine r_callVp (I' := IX6_appendOfficer) (as := [_]) (dk kX8_enlistOfficer 21 rfl) mv_X6_appendOfficer ml_X8_352 rfl rfl o.s.k rfl rfl (Nat.le_of_ble_eq_true rfl) ⟨by decide, by decide⟩ ⟨rfl, rfl⟩ ⟨Nat.le_of_ble_eq_true rfl, Nat.le_of_ble_eq_true rfl⟩ (k_X6_appendOfficer o.s (v.c1 i) (by omega) w) ?_
      refine r_ireturn (dk kX8_enlistOfficer 22 rfl) rfl rfl ⟨Nat.le_of_ble_eq_true rfl, Nat.le_of_ble_eq_true rfl⟩ (QA.ok (nI_pos' (by omega)) (((FR.rfl M (x + 1) (x + 30)).sI _ _ (by omega)).sI _ _ (by omega)) (o.s.tr rfl rfl rfl) ⟨q, SV_addOfficer v o.s i h6 w⟩)
  · have e0 : sp_addOfficer g w = cThr 1 := by
      unfold sp_addOfficer
      rw [if_neg hw]
    rw [e0]
    rcases in19 hw with h1 | ⟨h1, h2⟩
    · refine r_iload_n (dk kX8_enlistOfficer 0 rfl) rfl ?_
      refine r_iconst (v := 1) (dk kX8_enlistOfficer 1 rfl) (by decide) ?_
      refine r_icmp_lt (tgt := 11) (dk kX8_enlistOfficer 2 rfl) (by decide) (fun c2 => ?_) (fun c2 => absurd h1 c2)
      refine r_bipush (v := (-2)) (dk kX8_enlistOfficer 6 rfl) (by decide) ?_
      refine r_ireturn (dk kX8_enlistOfficer 7 rfl) rfl rfl ⟨Nat.le_of_ble_eq_true rfl, Nat.le_of_ble_eq_true rfl⟩ (QA.thr (by decide) rfl)
    · refine r_iload_n (dk kX8_enlistOfficer 0 rfl) rfl ?_
      refine r_iconst (v := 1) (dk kX8_enlistOfficer 1 rfl) (by decide) ?_
      refine r_icmp_lt (tgt := 11) (dk kX8_enlistOfficer 2 rfl) (by decide) (fun c2 => absurd c2 h1) (fun c2 => ?_)
      refine r_iload_n (dk kX8_enlistOfficer 3 rfl) rfl ?_
      refine r_bipush (v := 9) (dk kX8_enlistOfficer 4 rfl) (by decide) ?_
      refine r_icmp_le (tgt := 14) (dk kX8_enlistOfficer 5 rfl) (by decide) (fun c8 => absurd c8 h2) (fun c8 => ?_)
      refine r_bipush (v := (-2)) (dk kX8_enlistOfficer 6 rfl) (by decide) ?_
      refine r_ireturn (dk kX8_enlistOfficer 7 rfl) rfl rfl ⟨Nat.le_of_ble_eq_true rfl, Nat.le_of_ble_eq_true rfl⟩ (QA.thr (by decide) rfl)
theorem k_X8_changeQuorum (o : BO M x) (v : SV M (x + 1) g q) (i : GI F g) (w : Int32) : KK G IX8_changeQuorum [.ref x, .int w] M (qi (QA M x (sp_setQuorum g w) tc2) nox) := by
  refine KK.ofW (by decide) (by simp [Value.category]) (Nat.le_of_ble_eq_true rfl) rfl ?_
  show WW _ _ _ 0 [_, _, lj] [] _ _ _
  have q6 := i.q.2
  by_cases hw : 1 ≤ w ∧ w ≤ 5
  · have e0 : sp_setQuorum g w = if g 2 = w then cDen 2 11 w else cOk (g 2) (va_up g 2 w) := by
      unfold sp_setQuorum
      rw [if_pos hw]
    have v2 : mi M (x + 1) 9 = g 2 := v.1.2.2.2.2.1
    refine r_iload_n (dk kX8_changeQuorum 0 rfl) rfl ?_
    refine r_iconst (v := 1) (dk kX8_changeQuorum 1 rfl) (by decide) ?_
    refine r_icmp_lt (tgt := 10) (dk kX8_changeQuorum 2 rfl) (by decide) (fun c2 => absurd c2 (Int32.not_lt.mpr hw.1)) (fun c2 => ?_)
    refine r_iload_n (dk kX8_changeQuorum 3 rfl) rfl ?_
    refine r_iconst (v := 5) (dk kX8_changeQuorum 4 rfl) (by decide) ?_
    refine r_icmp_le (tgt := 13) (dk kX8_changeQuorum 5 rfl) (by decide) (fun c7 => ?_) (fun c7 => absurd hw.2 c7)
    refine r_iload_n (dk kX8_changeQuorum 8 rfl) rfl ?_
    first | refine r_aload_n (dk kX8_changeQuorum 9 rfl) rfl ?_ | refine r_aload_nN (dk kX8_changeQuorum 9 rfl) rfl ?_
    refine r_getR (dk kX8_changeQuorum 10 rfl) fa_X8_12_7 o.k rfl o.r0 ?_
    refine r_geti (dk kX8_changeQuorum 11 rfl) fa_X8_174_5 o.s.k rfl ?_
    -- at 21
    rw [v2]
    by_cases h2 : g 2 = w
    · rw [if_pos h2] at e0
      rw [e0]
      refine r_icmp_ne (tgt := 32) (dk kX8_changeQuorum 12 rfl) (by decide) (fun c21 => absurd c21 (fun z => z h2.symm)) (fun c21 => ?_)
      first | refine r_aload_n (dk kX8_changeQuorum 13 rfl) rfl ?_ | refine r_aload_nN (dk kX8_changeQuorum 13 rfl) rfl ?_
      refine r_bipush (v := 11) (dk kX8_changeQuorum 14 rfl) (by decide) ?_
      refine r_iload_n (dk kX8_changeQuorum 15 rfl) rfl ?_
      refine r_callVp (I' := IX8_deny) (as := [_, _]) (dk kX8_changeQuorum 16 rfl) mv_X8_deny ml_X8_346 rfl rfl o.k rfl rfl (Nat.le_of_ble_eq_true rfl) ⟨by decide, by decide⟩ ⟨rfl, rfl⟩ ⟨Nat.le_of_ble_eq_true rfl, Nat.le_of_ble_eq_true rfl⟩ (k_X8_deny o _ _) ?_
      refine r_ireturn (dk kX8_changeQuorum 17 rfl) rfl rfl ⟨Nat.le_of_ble_eq_true rfl, Nat.le_of_ble_eq_true rfl⟩ (QA.den _ (by decide) (by decide))
    · rw [if_neg h2] at e0
      rw [e0]
      refine r_icmp_ne (tgt := 32) (dk kX8_changeQuorum 12 rfl) (by decide) (fun c21 => ?_) (fun c21 => absurd (fun z => h2 z.symm) c21)
      first | refine r_aload_n (dk kX8_changeQuorum 18 rfl) rfl ?_ | refine r_aload_nN (dk kX8_changeQuorum 18 rfl) rfl ?_
      refine r_getR (dk kX8_changeQuorum 19 rfl) fa_X8_12_7 o.k rfl o.r0 ?_
      refine r_geti (dk kX8_changeQuorum 20 rfl) fa_X8_174_5 o.s.k rfl ?_
      -- at 39
      rw [v2]
      refine r_istore_n (j := 2) (dk kX8_changeQuorum 21 rfl) rfl (by decide) rfl ?_
      simp only [List.set_cons_succ, List.set_cons_zero]
      first | refine r_aload_n (dk kX8_changeQuorum 22 rfl) rfl ?_ | refine r_aload_nN (dk kX8_changeQuorum 22 rfl) rfl ?_
      refine r_getR (dk kX8_changeQuorum 23 rfl) fa_X8_12_7 o.k rfl o.r0 ?_
      refine r_iload_n (dk kX8_changeQuorum 24 rfl) rfl ?_
      refine r_puti (dk kX8_changeQuorum 25 rfl) fa_X8_174_5 o.s.k rfl rfl rfl rfl ?_
      refine r_iload_n (dk kX8_changeQuorum 26 rfl) rfl ?_
      refine r_ireturn (dk kX8_changeQuorum 27 rfl) rfl rfl ⟨Nat.le_of_ble_eq_true rfl, Nat.le_of_ble_eq_true rfl⟩ (QA.ok (by rw [i.q.1]; exact nI_pos' (by omega)) ((FR.rfl M (x + 1) (x + 30)).sI _ _ (by omega)) (o.s.tr rfl rfl rfl) ⟨q, SV_quorum v o.s i w⟩)
  · have e0 : sp_setQuorum g w = cThr 1 := by
      unfold sp_setQuorum
      rw [if_neg hw]
    rw [e0]
    by_cases h1 : w < 1
    · refine r_iload_n (dk kX8_changeQuorum 0 rfl) rfl ?_
      refine r_iconst (v := 1) (dk kX8_changeQuorum 1 rfl) (by decide) ?_
      refine r_icmp_lt (tgt := 10) (dk kX8_changeQuorum 2 rfl) (by decide) (fun c2 => ?_) (fun c2 => absurd h1 c2)
      refine r_bipush (v := (-2)) (dk kX8_changeQuorum 6 rfl) (by decide) ?_
      refine r_ireturn (dk kX8_changeQuorum 7 rfl) rfl rfl ⟨Nat.le_of_ble_eq_true rfl, Nat.le_of_ble_eq_true rfl⟩ (QA.thr (by decide) rfl)
    · refine r_iload_n (dk kX8_changeQuorum 0 rfl) rfl ?_
      refine r_iconst (v := 1) (dk kX8_changeQuorum 1 rfl) (by decide) ?_
      refine r_icmp_lt (tgt := 10) (dk kX8_changeQuorum 2 rfl) (by decide) (fun c2 => absurd c2 h1) (fun c2 => ?_)
      refine r_iload_n (dk kX8_changeQuorum 3 rfl) rfl ?_
      refine r_iconst (v := 5) (dk kX8_changeQuorum 4 rfl) (by decide) ?_
      refine r_icmp_le (tgt := 13) (dk kX8_changeQuorum 5 rfl) (by decide) (fun c7 => absurd c7 (fun z => hw ⟨Int32.not_lt.mp h1, z⟩)) (fun c7 => ?_)
      refine r_bipush (v := (-2)) (dk kX8_changeQuorum 6 rfl) (by decide) ?_
      refine r_ireturn (dk kX8_changeQuorum 7 rfl) rfl rfl ⟨Nat.le_of_ble_eq_true rfl, Nat.le_of_ble_eq_true rfl⟩ (QA.thr (by decide) rfl)
end CLASS
