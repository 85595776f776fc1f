/-! WHAT A READER ANSWERS: (the number of what it throws, or 0; its value) -/
/-- x as one of the first n -/
def ixo (n : Nat) (x : Int32) : Option Nat := if 0 ≤ x ∧ x ≤ nI n - 1 then some x.toNatClampNeg else none
theorem ixo_c {n : Nat} (hn : n < 2 ^ 31) (x : Int32) : (ixo n x = none ∧ ¬ (0 ≤ x ∧ x ≤ nI n - 1)) ∨ ∃ k, k < n ∧ x = nI k ∧ ixo n x = some k ∧ (0 ≤ x ∧ x ≤ nI n - 1) := by
  by_cases h : 0 ≤ x ∧ x ≤ nI n - 1
  · right
    obtain ⟨k, hk, hx⟩ := (nI_lt0 hn).mp h
    refine ⟨k, hk, hx, ?_, h⟩
    unfold ixo
    rw [if_pos h, hx, nI_clamp (by omega)]
  · left
    exact ⟨if_neg h, h⟩
abbrev SPv := Int32 × Int32
def sp_stone (f : Nat → Int32) (g : Nat → Int32) (s : Int32) : SPv := match ixo (gn g 0) s with | none => (1, 0) | some k => (0, f k)
def sp_cellOf (g : Nat → Int32) (s : Int32) : SPv := sp_stone (fun k => g (9 + 2 * k)) g s
def sp_weightOf (g : Nat → Int32) (s : Int32) : SPv := sp_stone (fun k => g (9 + 2 * k + 1)) g s
def sp_stoneIn (g : Nat → Int32) (c : Int32) : SPv := if 0 ≤ c ∧ c ≤ 24 then (match gWithin g c with | none => (2, 0) | some k => (0, nI k)) else (1, 0)
def sp_off (f : Nat → Int32) (g : Nat → Int32) (s : Int32) : SPv := match ixo (gn g 1) s with | none => (1, 0) | some k => (0, f k)
def sp_rankOf (g : Nat → Int32) (s : Int32) : SPv := sp_off (fun k => g (29 + k)) g s
def gOwn (g : Nat → Int32) (x : Int32) (k : Nat) : Bool := decide (g (35 + 11 * k + 1) = x)
def sp_petitionsOf (g : Nat → Int32) (s : Int32) : SPv := sp_off (fun k => nI (ct (gOwn g (nI k)) (gn g 3))) g s
def sp_petitionAt (g : Nat → Int32) (x : Int32) : SPv := match gQueued g x with | none => (1, 0) | some k => (0, g (35 + 11 * k))
def sp_pet (f : Nat → Int32) (g : Nat → Int32) (x : Int32) : SPv := match gPlace g x with | none => (1, 0) | some k => (0, f k)
def sp_positionOf (g : Nat → Int32) (x : Int32) : SPv := sp_pet (fun k => nI (gAhead g k)) g x
def sp_stoneOf (g : Nat → Int32) (x : Int32) : SPv := sp_pet (fun k => g (35 + 11 * k + 2)) g x
def sp_targetOf (g : Nat → Int32) (x : Int32) : SPv := sp_pet (fun k => g (35 + 11 * k + 3)) g x
def sp_votesFor (g : Nat → Int32) (x : Int32) : SPv := sp_pet (fun k => nI (gFor g k)) g x
def sp_votesAgainst (g : Nat → Int32) (x : Int32) : SPv := sp_pet (fun k => nI (gAg g k)) g x
def sp_wouldBeGranted (g : Nat → Int32) (x : Int32) : SPv := sp_pet (fun k => bI (gWins g k = true)) g x
def sp_rul (f : Nat → Int32) (g : Nat → Int32) (s : Int32) : SPv := match ixo (gn g 5) s with | none => (1, 0) | some k => (0, f k)
def sp_isGranted (g : Nat → Int32) (x : Int32) : SPv := sp_rul (fun k => bI (g (123 + 6 * k) = 1)) g x
def sp_isCarriedOut (g : Nat → Int32) (x : Int32) : SPv := sp_rul (fun k => bI (g (123 + 6 * k + 1) = 1)) g x
def sp_citationCount (g : Nat → Int32) (x : Int32) : SPv := sp_rul (fun k => g (123 + 6 * k + 2)) g x
def sp_citation (g : Nat → Int32) (x y : Int32) : SPv := match ixo (gn g 5) x with | none => (1, 0) | some k => (match ixo (gn g (123 + 6 * k + 2)) y with | none => (2, 0) | some c => (0, g (123 + 6 * k + 3 + c)))
def sp_citedBy (g : Nat → Int32) (x : Int32) : SPv := sp_rul (fun k => nI (ct (fun i => gNames g i (nI k)) (gn g 5))) g x
def sp_isBasedOn (g : Nat → Int32) (x y : Int32) : SPv := match ixo (gn g 5) x with | none => (1, 0) | some k => (match ixo (gn g 5) y with | none => (1, 0) | some j => (0, bI (gBased g j k = true)))
def sp_influence (g : Nat → Int32) (x : Int32) : SPv := sp_rul (fun k => nI (gReach g k)) g x
/-! THE REFERENCE: readers -/
section MODEL
variable {G : GG} {M : Mm} {h : Nat}
theorem MO.fl (o : MO M h) (p : Int32) : MO (mFail M h p) h := o.to rfl rfl rfl
theorem mf1 (M : Mm) (h : Nat) (p : Int32) : mi (mFail M h p) (h + 1) = mi M (h + 1) := by rw [mi_sI_n _ _ _ (by omega), mi_sI_n _ _ _ (by omega)]
theorem k_X9_stoneCount (o : MO M h) : KE G IX9_stoneCount [.ref h] M (mi M (h + 1) 0) (sI M h 8 0) := by
  refine KK.ofW (by decide) (by simp [Value.category]) (Nat.le_of_ble_eq_true rfl) rfl ?_
  show WW _ _ _ 0 [_] [] _ _ _
  refine r_aload_n (dk kX9_stoneCount 0 rfl) rfl ?_
  refine r_iconst (v := 0) (dk kX9_stoneCount 1 rfl) (by decide) ?_
  refine r_puti (dk kX9_stoneCount 2 rfl) fa_X9_39_8 o.k rfl rfl rfl rfl ?_
  refine r_aload_n (dk kX9_stoneCount 3 rfl) rfl ?_
  refine r_getR (dk kX9_stoneCount 4 rfl) fa_X9_7_8 o.k rfl o.r0 ?_
  refine r_iconst (v := 0) (dk kX9_stoneCount 5 rfl) (by decide) ?_
  refine r_ial (dk kX9_stoneCount 6 rfl) o.k1 o.l1 (j := 0) rfl (by decide) (by decide) ?_
  refine r_ireturn (dk kX9_stoneCount 7 rfl) rfl rfl ⟨Nat.le_of_ble_eq_true rfl, Nat.le_of_ble_eq_true rfl⟩ ⟨by rw [mi_sI_n _ _ _ (by omega)], rfl⟩
theorem k_X9_officerCount (o : MO M h) : KE G IX9_officerCount [.ref h] M (mi M (h + 1) 1) (sI M h 8 0) := by
  refine KK.ofW (by decide) (by simp [Value.category]) (Nat.le_of_ble_eq_true rfl) rfl ?_
  show WW _ _ _ 0 [_] [] _ _ _
  refine r_aload_n (dk kX9_officerCount 0 rfl) rfl ?_
  refine r_iconst (v := 0) (dk kX9_officerCount 1 rfl) (by decide) ?_
  refine r_puti (dk kX9_officerCount 2 rfl) fa_X9_39_8 o.k rfl rfl rfl rfl ?_
  refine r_aload_n (dk kX9_officerCount 3 rfl) rfl ?_
  refine r_getR (dk kX9_officerCount 4 rfl) fa_X9_7_8 o.k rfl o.r0 ?_
  refine r_iconst (v := 1) (dk kX9_officerCount 5 rfl) (by decide) ?_
  refine r_ial (dk kX9_officerCount 6 rfl) o.k1 o.l1 (j := 1) rfl (by decide) (by decide) ?_
  refine r_ireturn (dk kX9_officerCount 7 rfl) rfl rfl ⟨Nat.le_of_ble_eq_true rfl, Nat.le_of_ble_eq_true rfl⟩ ⟨by rw [mi_sI_n _ _ _ (by omega)], rfl⟩
theorem k_X9_quorum (o : MO M h) : KE G IX9_quorum [.ref h] M (mi M (h + 1) 2) (sI M h 8 0) := by
  refine KK.ofW (by decide) (by simp [Value.category]) (Nat.le_of_ble_eq_true rfl) rfl ?_
  show WW _ _ _ 0 [_] [] _ _ _
  refine r_aload_n (dk kX9_quorum 0 rfl) rfl ?_
  refine r_iconst (v := 0) (dk kX9_quorum 1 rfl) (by decide) ?_
  refine r_puti (dk kX9_quorum 2 rfl) fa_X9_39_8 o.k rfl rfl rfl rfl ?_
  refine r_aload_n (dk kX9_quorum 3 rfl) rfl ?_
  refine r_getR (dk kX9_quorum 4 rfl) fa_X9_7_8 o.k rfl o.r0 ?_
  refine r_iconst (v := 2) (dk kX9_quorum 5 rfl) (by decide) ?_
  refine r_ial (dk kX9_quorum 6 rfl) o.k1 o.l1 (j := 2) rfl (by decide) (by decide) ?_
  refine r_ireturn (dk kX9_quorum 7 rfl) rfl rfl ⟨Nat.le_of_ble_eq_true rfl, Nat.le_of_ble_eq_true rfl⟩ ⟨by rw [mi_sI_n _ _ _ (by omega)], rfl⟩
theorem k_X9_pendingCount (o : MO M h) : KE G IX9_pendingCount [.ref h] M (mi M (h + 1) 3) (sI M h 8 0) := by
  refine KK.ofW (by decide) (by simp [Value.category]) (Nat.le_of_ble_eq_true rfl) rfl ?_
  show WW _ _ _ 0 [_] [] _ _ _
  refine r_aload_n (dk kX9_pendingCount 0 rfl) rfl ?_
  refine r_iconst (v := 0) (dk kX9_pendingCount 1 rfl) (by decide) ?_
  refine r_puti (dk kX9_pendingCount 2 rfl) fa_X9_39_8 o.k rfl rfl rfl rfl ?_
  refine r_aload_n (dk kX9_pendingCount 3 rfl) rfl ?_
  refine r_getR (dk kX9_pendingCount 4 rfl) fa_X9_7_8 o.k rfl o.r0 ?_
  refine r_iconst (v := 3) (dk kX9_pendingCount 5 rfl) (by decide) ?_
  refine r_ial (dk kX9_pendingCount 6 rfl) o.k1 o.l1 (j := 3) rfl (by decide) (by decide) ?_
  refine r_ireturn (dk kX9_pendingCount 7 rfl) rfl rfl ⟨Nat.le_of_ble_eq_true rfl, Nat.le_of_ble_eq_true rfl⟩ ⟨by rw [mi_sI_n _ _ _ (by omega)], rfl⟩
theorem k_X9_filedCount (o : MO M h) : KE G IX9_filedCount [.ref h] M (mi M (h + 1) 4) (sI M h 8 0) := by
  refine KK.ofW (by decide) (by simp [Value.category]) (Nat.le_of_ble_eq_true rfl) rfl ?_
  show WW _ _ _ 0 [_] [] _ _ _
  refine r_aload_n (dk kX9_filedCount 0 rfl) rfl ?_
  refine r_iconst (v := 0) (dk kX9_filedCount 1 rfl) (by decide) ?_
  refine r_puti (dk kX9_filedCount 2 rfl) fa_X9_39_8 o.k rfl rfl rfl rfl ?_
  refine r_aload_n (dk kX9_filedCount 3 rfl) rfl ?_
  refine r_getR (dk kX9_filedCount 4 rfl) fa_X9_7_8 o.k rfl o.r0 ?_
  refine r_iconst (v := 4) (dk kX9_filedCount 5 rfl) (by decide) ?_
  refine r_ial (dk kX9_filedCount 6 rfl) o.k1 o.l1 (j := 4) rfl (by decide) (by decide) ?_
  refine r_ireturn (dk kX9_filedCount 7 rfl) rfl rfl ⟨Nat.le_of_ble_eq_true rfl, Nat.le_of_ble_eq_true rfl⟩ ⟨by rw [mi_sI_n _ _ _ (by omega)], rfl⟩
theorem k_X9_rulingCount (o : MO M h) : KE G IX9_rulingCount [.ref h] M (mi M (h + 1) 5) (sI M h 8 0) := by
  refine KK.ofW (by decide) (by simp [Value.category]) (Nat.le_of_ble_eq_true rfl) rfl ?_
  show WW _ _ _ 0 [_] [] _ _ _
  refine r_aload_n (dk kX9_rulingCount 0 rfl) rfl ?_
  refine r_iconst (v := 0) (dk kX9_rulingCount 1 rfl) (by decide) ?_
  refine r_puti (dk kX9_rulingCount 2 rfl) fa_X9_39_8 o.k rfl rfl rfl rfl ?_
  refine r_aload_n (dk kX9_rulingCount 3 rfl) rfl ?_
  refine r_getR (dk kX9_rulingCount 4 rfl) fa_X9_7_8 o.k rfl o.r0 ?_
  refine r_iconst (v := 5) (dk kX9_rulingCount 5 rfl) (by decide) ?_
  refine r_ial (dk kX9_rulingCount 6 rfl) o.k1 o.l1 (j := 5) rfl (by decide) (by decide) ?_
  refine r_ireturn (dk kX9_rulingCount 7 rfl) rfl rfl ⟨Nat.le_of_ble_eq_true rfl, Nat.le_of_ble_eq_true rfl⟩ ⟨by rw [mi_sI_n _ _ _ (by omega)], rfl⟩
theorem k_X9_vetoes (o : MO M h) : KE G IX9_vetoes [.ref h] M (mi M (h + 1) 6) (sI M h 8 0) := by
  refine KK.ofW (by decide) (by simp [Value.category]) (Nat.le_of_ble_eq_true rfl) rfl ?_
  show WW _ _ _ 0 [_] [] _ _ _
  refine r_aload_n (dk kX9_vetoes 0 rfl) rfl ?_
  refine r_iconst (v := 0) (dk kX9_vetoes 1 rfl) (by decide) ?_
  refine r_puti (dk kX9_vetoes 2 rfl) fa_X9_39_8 o.k rfl rfl rfl rfl ?_
  refine r_aload_n (dk kX9_vetoes 3 rfl) rfl ?_
  refine r_getR (dk kX9_vetoes 4 rfl) fa_X9_7_8 o.k rfl o.r0 ?_
  refine r_bipush (v := 6) (dk kX9_vetoes 5 rfl) (by decide) ?_
  refine r_ial (dk kX9_vetoes 6 rfl) o.k1 o.l1 (j := 6) rfl (by decide) (by decide) ?_
  refine r_ireturn (dk kX9_vetoes 7 rfl) rfl rfl ⟨Nat.le_of_ble_eq_true rfl, Nat.le_of_ble_eq_true rfl⟩ ⟨by rw [mi_sI_n _ _ _ (by omega)], rfl⟩
theorem k_X9_withdrawals (o : MO M h) : KE G IX9_withdrawals [.ref h] M (mi M (h + 1) 7) (sI M h 8 0) := by
  refine KK.ofW (by decide) (by simp [Value.category]) (Nat.le_of_ble_eq_true rfl) rfl ?_
  show WW _ _ _ 0 [_] [] _ _ _
  refine r_aload_n (dk kX9_withdrawals 0 rfl) rfl ?_
  refine r_iconst (v := 0) (dk kX9_withdrawals 1 rfl) (by decide) ?_
  refine r_puti (dk kX9_withdrawals 2 rfl) fa_X9_39_8 o.k rfl rfl rfl rfl ?_
  refine r_aload_n (dk kX9_withdrawals 3 rfl) rfl ?_
  refine r_getR (dk kX9_withdrawals 4 rfl) fa_X9_7_8 o.k rfl o.r0 ?_
  refine r_bipush (v := 7) (dk kX9_withdrawals 5 rfl) (by decide) ?_
  refine r_ial (dk kX9_withdrawals 6 rfl) o.k1 o.l1 (j := 7) rfl (by decide) (by decide) ?_
  refine r_ireturn (dk kX9_withdrawals 7 rfl) rfl rfl ⟨Nat.le_of_ble_eq_true rfl, Nat.le_of_ble_eq_true rfl⟩ ⟨by rw [mi_sI_n _ _ _ (by omega)], rfl⟩
theorem k_X9_movedWeight (o : MO M h) : KE G IX9_movedWeight [.ref h] M (mi M (h + 1) 8) (sI M h 8 0) := by
  refine KK.ofW (by decide) (by simp [Value.category]) (Nat.le_of_ble_eq_true rfl) rfl ?_
  show WW _ _ _ 0 [_] [] _ _ _
  refine r_aload_n (dk kX9_movedWeight 0 rfl) rfl ?_
  refine r_iconst (v := 0) (dk kX9_movedWeight 1 rfl) (by decide) ?_
  refine r_puti (dk kX9_movedWeight 2 rfl) fa_X9_39_8 o.k rfl rfl rfl rfl ?_
  refine r_aload_n (dk kX9_movedWeight 3 rfl) rfl ?_
  refine r_getR (dk kX9_movedWeight 4 rfl) fa_X9_7_8 o.k rfl o.r0 ?_
  refine r_bipush (v := 8) (dk kX9_movedWeight 5 rfl) (by decide) ?_
  refine r_ial (dk kX9_movedWeight 6 rfl) o.k1 o.l1 (j := 8) rfl (by decide) (by decide) ?_
  refine r_ireturn (dk kX9_movedWeight 7 rfl) rfl rfl ⟨Nat.le_of_ble_eq_true rfl, Nat.le_of_ble_eq_true rfl⟩ ⟨by rw [mi_sI_n _ _ _ (by omega)], rfl⟩
theorem k_X9_cellOf (o : MO M h) {F : Nat} (gi : GI F (mi M (h + 1))) (s : Int32) : KE G IX9_cellOf [.ref h, .int s] M (sp_cellOf (mi M (h + 1)) s).2 (mFail M h (sp_cellOf (mi M (h + 1)) s).1) := by
  refine KK.ofW (by decide) (by simp [Value.category]) (Nat.le_of_ble_eq_true rfl) rfl ?_
  show WW _ _ _ 0 [_, _] [] _ _ _
  obtain ⟨hS, hS2⟩ := gi.s
  rcases ixo_c (n := gn (mi M (h + 1)) 0) (by omega) s with ⟨e, hb⟩ | ⟨k, hk, rfl, e, hb⟩
  · refine r_aload_n (dk kX9_cellOf 0 rfl) rfl ?_
    refine r_aload_n (dk kX9_cellOf 1 rfl) rfl ?_
    refine r_iload_n (dk kX9_cellOf 2 rfl) rfl ?_
    refine r_callVp (I' := IX9_isStone) (as := [_]) (dk kX9_cellOf 3 rfl) mv_X9_isStone ml_X9_94 rfl rfl o.k rfl rfl (Nat.le_of_ble_eq_true rfl) ⟨by decide, by decide⟩ ⟨rfl, rfl⟩ ⟨Nat.le_of_ble_eq_true rfl, Nat.le_of_ble_eq_true rfl⟩ (k_X9_isStone o s) ?_
    refine r_if_eq (tgt := 13) (dk kX9_cellOf 4 rfl) (by decide) (fun c6 => ?_) (fun c6 => absurd (by rw [hS, bI_f hb]) c6)
    refine r_iconst (v := 1) (dk kX9_cellOf 7 rfl) (by decide) ?_
    refine r_callVp (I' := IX9_fails) (as := [_]) (dk kX9_cellOf 8 rfl) mv_X9_fails ml_X9_80 rfl rfl o.k rfl rfl (Nat.le_of_ble_eq_true rfl) ⟨by decide, by decide⟩ ⟨rfl, rfl⟩ ⟨Nat.le_of_ble_eq_true rfl, Nat.le_of_ble_eq_true rfl⟩ (k_X9_fails o _) ?_
    refine r_if_eq (tgt := 24) (dk kX9_cellOf 9 rfl) (by decide) (fun c17 => absurd c17 (by decide)) (fun c17 => ?_)
    refine r_iconst (v := 0) (dk kX9_cellOf 10 rfl) (by decide) ?_
    refine r_goto (tgt := 29) (dk kX9_cellOf 11 rfl) (by decide) ?_
    refine r_ireturn (dk kX9_cellOf 15 rfl) rfl rfl ⟨Nat.le_of_ble_eq_true rfl, Nat.le_of_ble_eq_true rfl⟩ ⟨by unfold sp_cellOf sp_stone; rw [e], by unfold sp_cellOf sp_stone; rw [e]⟩
  · refine r_aload_n (dk kX9_cellOf 0 rfl) rfl ?_
    refine r_aload_n (dk kX9_cellOf 1 rfl) rfl ?_
    refine r_iload_n (dk kX9_cellOf 2 rfl) rfl ?_
    refine r_callVp (I' := IX9_isStone) (as := [_]) (dk kX9_cellOf 3 rfl) mv_X9_isStone ml_X9_94 rfl rfl o.k rfl rfl (Nat.le_of_ble_eq_true rfl) ⟨by decide, by decide⟩ ⟨rfl, rfl⟩ ⟨Nat.le_of_ble_eq_true rfl, Nat.le_of_ble_eq_true rfl⟩ (k_X9_isStone o _) ?_
    refine r_if_eq (tgt := 13) (dk kX9_cellOf 4 rfl) (by decide) (fun c6 => absurd c6 (by rw [hS, bI_t hb]; decide)) (fun c6 => ?_)
    refine r_iconst (v := 0) (dk kX9_cellOf 5 rfl) (by decide) ?_
    refine r_goto (tgt := 14) (dk kX9_cellOf 6 rfl) (by decide) ?_
    refine r_callVp (I' := IX9_fails) (as := [_]) (dk kX9_cellOf 8 rfl) mv_X9_fails ml_X9_80 rfl rfl o.k rfl rfl (Nat.le_of_ble_eq_true rfl) ⟨by decide, by decide⟩ ⟨rfl, rfl⟩ ⟨Nat.le_of_ble_eq_true rfl, Nat.le_of_ble_eq_true rfl⟩ (k_X9_fails o _) ?_
    refine r_if_eq (tgt := 24) (dk kX9_cellOf 9 rfl) (by decide) (fun c17 => ?_) (fun c17 => absurd (by decide) c17)
    refine r_aload_n (dk kX9_cellOf 12 rfl) rfl ?_
    refine r_iload_n (dk kX9_cellOf 13 rfl) rfl ?_
    refine r_callVp (I' := IX9_cell) (as := [_]) (dk kX9_cellOf 14 rfl) mv_X9_cell ml_X9_72 rfl rfl o.k rfl rfl (Nat.le_of_ble_eq_true rfl) ⟨by decide, by decide⟩ ⟨rfl, rfl⟩ ⟨Nat.le_of_ble_eq_true rfl, Nat.le_of_ble_eq_true rfl⟩ (k_X9_cell (o.fl _) (by omega)) ?_
    refine r_ireturn (dk kX9_cellOf 15 rfl) rfl rfl ⟨Nat.le_of_ble_eq_true rfl, Nat.le_of_ble_eq_true rfl⟩ ⟨by unfold sp_cellOf sp_stone; rw [e, mf1], by unfold sp_cellOf sp_stone; rw [e]⟩
theorem k_X9_weightOf (o : MO M h) {F : Nat} (gi : GI F (mi M (h + 1))) (s : Int32) : KE G IX9_weightOf [.ref h, .int s] M (sp_weightOf (mi M (h + 1)) s).2 (mFail M h (sp_weightOf (mi M (h + 1)) s).1) := by
  refine KK.ofW (by decide) (by simp [Value.category]) (Nat.le_of_ble_eq_true rfl) rfl ?_
  show WW _ _ _ 0 [_, _] [] _ _ _
  obtain ⟨hS, hS2⟩ := gi.s
  rcases ixo_c (n := gn (mi M (h + 1)) 0) (by omega) s with ⟨e, hb⟩ | ⟨k, hk, rfl, e, hb⟩
  · refine r_aload_n (dk kX9_weightOf 0 rfl) rfl ?_
    refine r_aload_n (dk kX9_weightOf 1 rfl) rfl ?_
    refine r_iload_n (dk kX9_weightOf 2 rfl) rfl ?_
    refine r_callVp (I' := IX9_isStone) (as := [_]) (dk kX9_weightOf 3 rfl) mv_X9_isStone ml_X9_94 rfl rfl o.k rfl rfl (Nat.le_of_ble_eq_true rfl) ⟨by decide, by decide⟩ ⟨rfl, rfl⟩ ⟨Nat.le_of_ble_eq_true rfl, Nat.le_of_ble_eq_true rfl⟩ (k_X9_isStone o s) ?_
    refine r_if_eq (tgt := 13) (dk kX9_weightOf 4 rfl) (by decide) (fun c6 => ?_) (fun c6 => absurd (by rw [hS, bI_f hb]) c6)
    refine r_iconst (v := 1) (dk kX9_weightOf 7 rfl) (by decide) ?_
    refine r_callVp (I' := IX9_fails) (as := [_]) (dk kX9_weightOf 8 rfl) mv_X9_fails ml_X9_80 rfl rfl o.k rfl rfl (Nat.le_of_ble_eq_true rfl) ⟨by decide, by decide⟩ ⟨rfl, rfl⟩ ⟨Nat.le_of_ble_eq_true rfl, Nat.le_of_ble_eq_true rfl⟩ (k_X9_fails o _) ?_
    refine r_if_eq (tgt := 24) (dk kX9_weightOf 9 rfl) (by decide) (fun c17 => absurd c17 (by decide)) (fun c17 => ?_)
    refine r_iconst (v := 0) (dk kX9_weightOf 10 rfl) (by decide) ?_
    refine r_goto (tgt := 29) (dk kX9_weightOf 11 rfl) (by decide) ?_
    refine r_ireturn (dk kX9_weightOf 15 rfl) rfl rfl ⟨Nat.le_of_ble_eq_true rfl, Nat.le_of_ble_eq_true rfl⟩ ⟨by unfold sp_weightOf sp_stone; rw [e], by unfold sp_weightOf sp_stone; rw [e]⟩
  · refine r_aload_n (dk kX9_weightOf 0 rfl) rfl ?_
    refine r_aload_n (dk kX9_weightOf 1 rfl) rfl ?_
    refine r_iload_n (dk kX9_weightOf 2 rfl) rfl ?_
    refine r_callVp (I' := IX9_isStone) (as := [_]) (dk kX9_weightOf 3 rfl) mv_X9_isStone ml_X9_94 rfl rfl o.k rfl rfl (Nat.le_of_ble_eq_true rfl) ⟨by decide, by decide⟩ ⟨rfl, rfl⟩ ⟨Nat.le_of_ble_eq_true rfl, Nat.le_of_ble_eq_true rfl⟩ (k_X9_isStone o _) ?_
    refine r_if_eq (tgt := 13) (dk kX9_weightOf 4 rfl) (by decide) (fun c6 => absurd c6 (by rw [hS, bI_t hb]; decide)) (fun c6 => ?_)
    refine r_iconst (v := 0) (dk kX9_weightOf 5 rfl) (by decide) ?_
    refine r_goto (tgt := 14) (dk kX9_weightOf 6 rfl) (by decide) ?_
    refine r_callVp (I' := IX9_fails) (as := [_]) (dk kX9_weightOf 8 rfl) mv_X9_fails ml_X9_80 rfl rfl o.k rfl rfl (Nat.le_of_ble_eq_true rfl) ⟨by decide, by decide⟩ ⟨rfl, rfl⟩ ⟨Nat.le_of_ble_eq_true rfl, Nat.le_of_ble_eq_true rfl⟩ (k_X9_fails o _) ?_
    refine r_if_eq (tgt := 24) (dk kX9_weightOf 9 rfl) (by decide) (fun c17 => ?_) (fun c17 => absurd (by decide) c17)
    refine r_aload_n (dk kX9_weightOf 12 rfl) rfl ?_
    refine r_iload_n (dk kX9_weightOf 13 rfl) rfl ?_
    refine r_callVp (I' := IX9_heavy) (as := [_]) (dk kX9_weightOf 14 rfl) mv_X9_heavy ml_X9_97 rfl rfl o.k rfl rfl (Nat.le_of_ble_eq_true rfl) ⟨by decide, by decide⟩ ⟨rfl, rfl⟩ ⟨Nat.le_of_ble_eq_true rfl, Nat.le_of_ble_eq_true rfl⟩ (k_X9_heavy (o.fl _) (by omega)) ?_
    refine r_ireturn (dk kX9_weightOf 15 rfl) rfl rfl ⟨Nat.le_of_ble_eq_true rfl, Nat.le_of_ble_eq_true rfl⟩ ⟨by unfold sp_weightOf sp_stone; rw [e, mf1], by unfold sp_weightOf sp_stone; rw [e]⟩
theorem k_X9_rankOf (o : MO M h) {F : Nat} (gi : GI F (mi M (h + 1))) (s : Int32) : KE G IX9_rankOf [.ref h, .int s] M (sp_rankOf (mi M (h + 1)) s).2 (mFail M h (sp_rankOf (mi M (h + 1)) s).1) := by
  refine KK.ofW (by decide) (by simp [Value.category]) (Nat.le_of_ble_eq_true rfl) rfl ?_
  show WW _ _ _ 0 [_, _] [] _ _ _
  obtain ⟨hS, hS2⟩ := gi.o
  rcases ixo_c (n := gn (mi M (h + 1)) 1) (by omega) s with ⟨e, hb⟩ | ⟨k, hk, rfl, e, hb⟩
  · refine r_aload_n (dk kX9_rankOf 0 rfl) rfl ?_
    refine r_aload_n (dk kX9_rankOf 1 rfl) rfl ?_
    refine r_iload_n (dk kX9_rankOf 2 rfl) rfl ?_
    refine r_callVp (I' := IX9_isOfficer) (as := [_]) (dk kX9_rankOf 3 rfl) mv_X9_isOfficer ml_X9_100 rfl rfl o.k rfl rfl (Nat.le_of_ble_eq_true rfl) ⟨by decide, by decide⟩ ⟨rfl, rfl⟩ ⟨Nat.le_of_ble_eq_true rfl, Nat.le_of_ble_eq_true rfl⟩ (k_X9_isOfficer o s) ?_
    refine r_if_eq (tgt := 13) (dk kX9_rankOf 4 rfl) (by decide) (fun c6 => ?_) (fun c6 => absurd (by rw [hS, bI_f hb]) c6)
    refine r_iconst (v := 1) (dk kX9_rankOf 7 rfl) (by decide) ?_
    refine r_callVp (I' := IX9_fails) (as := [_]) (dk kX9_rankOf 8 rfl) mv_X9_fails ml_X9_80 rfl rfl o.k rfl rfl (Nat.le_of_ble_eq_true rfl) ⟨by decide, by decide⟩ ⟨rfl, rfl⟩ ⟨Nat.le_of_ble_eq_true rfl, Nat.le_of_ble_eq_true rfl⟩ (k_X9_fails o _) ?_
    refine r_if_eq (tgt := 24) (dk kX9_rankOf 9 rfl) (by decide) (fun c17 => absurd c17 (by decide)) (fun c17 => ?_)
    refine r_iconst (v := 0) (dk kX9_rankOf 10 rfl) (by decide) ?_
    refine r_goto (tgt := 29) (dk kX9_rankOf 11 rfl) (by decide) ?_
    refine r_ireturn (dk kX9_rankOf 15 rfl) rfl rfl ⟨Nat.le_of_ble_eq_true rfl, Nat.le_of_ble_eq_true rfl⟩ ⟨by unfold sp_rankOf sp_off; rw [e], by unfold sp_rankOf sp_off; rw [e]⟩
  · refine r_aload_n (dk kX9_rankOf 0 rfl) rfl ?_
    refine r_aload_n (dk kX9_rankOf 1 rfl) rfl ?_
    refine r_iload_n (dk kX9_rankOf 2 rfl) rfl ?_
    refine r_callVp (I' := IX9_isOfficer) (as := [_]) (dk kX9_rankOf 3 rfl) mv_X9_isOfficer ml_X9_100 rfl rfl o.k rfl rfl (Nat.le_of_ble_eq_true rfl) ⟨by decide, by decide⟩ ⟨rfl, rfl⟩ ⟨Nat.le_of_ble_eq_true rfl, Nat.le_of_ble_eq_true rfl⟩ (k_X9_isOfficer o _) ?_
    refine r_if_eq (tgt := 13) (dk kX9_rankOf 4 rfl) (by decide) (fun c6 => absurd c6 (by rw [hS, bI_t hb]; decide)) (fun c6 => ?_)
    refine r_iconst (v := 0) (dk kX9_rankOf 5 rfl) (by decide) ?_
    refine r_goto (tgt := 14) (dk kX9_rankOf 6 rfl) (by decide) ?_
    refine r_callVp (I' := IX9_fails) (as := [_]) (dk kX9_rankOf 8 rfl) mv_X9_fails ml_X9_80 rfl rfl o.k rfl rfl (Nat.le_of_ble_eq_true rfl) ⟨by decide, by decide⟩ ⟨rfl, rfl⟩ ⟨Nat.le_of_ble_eq_true rfl, Nat.le_of_ble_eq_true rfl⟩ (k_X9_fails o _) ?_
    refine r_if_eq (tgt := 24) (dk kX9_rankOf 9 rfl) (by decide) (fun c17 => ?_) (fun c17 => absurd (by decide) c17)
    refine r_aload_n (dk kX9_rankOf 12 rfl) rfl ?_
    refine r_iload_n (dk kX9_rankOf 13 rfl) rfl ?_
    refine r_callVp (I' := IX9_rank) (as := [_]) (dk kX9_rankOf 14 rfl) mv_X9_rank ml_X9_103 rfl rfl o.k rfl rfl (Nat.le_of_ble_eq_true rfl) ⟨by decide, by decide⟩ ⟨rfl, rfl⟩ ⟨Nat.le_of_ble_eq_true rfl, Nat.le_of_ble_eq_true rfl⟩ (k_X9_rank (o.fl _) (by omega)) ?_
    refine r_ireturn (dk kX9_rankOf 15 rfl) rfl rfl ⟨Nat.le_of_ble_eq_true rfl, Nat.le_of_ble_eq_true rfl⟩ ⟨by unfold sp_rankOf sp_off; rw [e, mf1], by unfold sp_rankOf sp_off; rw [e]⟩
theorem k_X9_stoneIn (o : MO M h) {F : Nat} (gi : GI F (mi M (h + 1))) (c : Int32) : KE G IX9_stoneIn [.ref h, .int c] M (sp_stoneIn (mi M (h + 1)) c).2 (mFail M h (sp_stoneIn (mi M (h + 1)) c).1) := by
  refine KK.ofW (by decide) (by simp [Value.category]) (Nat.le_of_ble_eq_true rfl) rfl ?_
  show WW _ _ _ 0 [_, _] [] _ _ _
  have gf : ∀ p, GI F (mi (mFail M h p) (h + 1)) := fun p => by rw [mf1]; exact gi
  have hlt : ∀ k, gWithin (mi M (h + 1)) c = some k → k < 11 := fun k hk => Nat.lt_trans (fx_lt hk) gi.s.2
  by_cases hc : 0 ≤ c ∧ c ≤ 24
  · refine r_aload_n (dk kX9_stoneIn 0 rfl) rfl ?_
    refine r_iload_n (dk kX9_stoneIn 1 rfl) rfl ?_
    refine r_callSp (I' := IX9_isCell) (as := [_]) (dk kX9_stoneIn 2 rfl) ms_X9_isCell ml_X9_76 rfl rfl rfl (Nat.le_of_ble_eq_true rfl) ⟨by decide, by decide⟩ ⟨rfl, rfl⟩ ⟨Nat.le_of_ble_eq_true rfl, Nat.le_of_ble_eq_true rfl⟩ (k_X9_isCell c) ?_
    refine r_if_ne (tgt := 12) (dk kX9_stoneIn 3 rfl) (by decide) (fun c5 => ?_) (fun c5 => absurd (by rw [bI_t hc]; decide) c5)
    refine r_aload_n (dk kX9_stoneIn 6 rfl) rfl ?_
    refine r_iload_n (dk kX9_stoneIn 7 rfl) rfl ?_
    refine r_callVp (I' := IX9_within) (as := [_]) (dk kX9_stoneIn 8 rfl) mv_X9_within ml_X9_83 rfl rfl o.k rfl rfl (Nat.le_of_ble_eq_true rfl) ⟨by decide, by decide⟩ ⟨rfl, rfl⟩ ⟨Nat.le_of_ble_eq_true rfl, Nat.le_of_ble_eq_true rfl⟩ (k_X9_within o gi c) ?_
    -- at 17
    cases e : gWithin (mi M (h + 1)) c with
    | none =>
      refine r_if_ge (tgt := 24) (dk kX9_stoneIn 9 rfl) (by decide) (fun c17 => absurd c17 (by decide)) (fun c17 => ?_)
      refine r_iconst (v := 2) (dk kX9_stoneIn 10 rfl) (by decide) ?_
      refine r_goto (tgt := 25) (dk kX9_stoneIn 11 rfl) (by decide) ?_
      refine r_callVp (I' := IX9_fails) (as := [_]) (dk kX9_stoneIn 13 rfl) mv_X9_fails ml_X9_80 rfl rfl o.k rfl rfl (Nat.le_of_ble_eq_true rfl) ⟨by decide, by decide⟩ ⟨rfl, rfl⟩ ⟨Nat.le_of_ble_eq_true rfl, Nat.le_of_ble_eq_true rfl⟩ (k_X9_fails o _) ?_
      refine r_if_eq (tgt := 35) (dk kX9_stoneIn 14 rfl) (by decide) (fun c28 => absurd c28 (by decide)) (fun c28 => ?_)
      refine r_iconst (v := 0) (dk kX9_stoneIn 15 rfl) (by decide) ?_
      refine r_goto (tgt := 40) (dk kX9_stoneIn 16 rfl) (by decide) ?_
      refine r_ireturn (dk kX9_stoneIn 20 rfl) rfl rfl ⟨Nat.le_of_ble_eq_true rfl, Nat.le_of_ble_eq_true rfl⟩ ⟨by unfold sp_stoneIn; rw [if_pos hc, e], by unfold sp_stoneIn; rw [if_pos hc, e]⟩
    | some k =>
      have hk := hlt k e
      refine r_if_ge (tgt := 24) (dk kX9_stoneIn 9 rfl) (by decide) (fun c17 => ?_) (fun c17 => absurd (nI_pos' (by omega)) c17)
      refine r_iconst (v := 0) (dk kX9_stoneIn 12 rfl) (by decide) ?_
      refine r_callVp (I' := IX9_fails) (as := [_]) (dk kX9_stoneIn 13 rfl) mv_X9_fails ml_X9_80 rfl rfl o.k rfl rfl (Nat.le_of_ble_eq_true rfl) ⟨by decide, by decide⟩ ⟨rfl, rfl⟩ ⟨Nat.le_of_ble_eq_true rfl, Nat.le_of_ble_eq_true rfl⟩ (k_X9_fails o _) ?_
      refine r_if_eq (tgt := 35) (dk kX9_stoneIn 14 rfl) (by decide) (fun c28 => ?_) (fun c28 => absurd (by decide) c28)
      refine r_aload_n (dk kX9_stoneIn 17 rfl) rfl ?_
      refine r_iload_n (dk kX9_stoneIn 18 rfl) rfl ?_
      -- at 37
      refine r_callVp (I' := IX9_within) (as := [_]) (dk kX9_stoneIn 19 rfl) mv_X9_within ml_X9_83 rfl rfl o.k rfl rfl (Nat.le_of_ble_eq_true rfl) ⟨by decide, by decide⟩ ⟨rfl, rfl⟩ ⟨Nat.le_of_ble_eq_true rfl, Nat.le_of_ble_eq_true rfl⟩ (k_X9_within (o.fl _) (gf _) c) ?_
      refine r_ireturn (dk kX9_stoneIn 20 rfl) rfl rfl ⟨Nat.le_of_ble_eq_true rfl, Nat.le_of_ble_eq_true rfl⟩ ⟨by unfold sp_stoneIn; rw [if_pos hc, mf1, e]; rfl, by unfold sp_stoneIn; rw [if_pos hc, e]⟩
  · refine r_aload_n (dk kX9_stoneIn 0 rfl) rfl ?_
    refine r_iload_n (dk kX9_stoneIn 1 rfl) rfl ?_
    refine r_callSp (I' := IX9_isCell) (as := [_]) (dk kX9_stoneIn 2 rfl) ms_X9_isCell ml_X9_76 rfl rfl rfl (Nat.le_of_ble_eq_true rfl) ⟨by decide, by decide⟩ ⟨rfl, rfl⟩ ⟨Nat.le_of_ble_eq_true rfl, Nat.le_of_ble_eq_true rfl⟩ (k_X9_isCell c) ?_
    refine r_if_ne (tgt := 12) (dk kX9_stoneIn 3 rfl) (by decide) (fun c5 => absurd c5 (by rw [bI_f hc]; exact fun z => z rfl)) (fun c5 => ?_)
    refine r_iconst (v := 1) (dk kX9_stoneIn 4 rfl) (by decide) ?_
    refine r_goto (tgt := 25) (dk kX9_stoneIn 5 rfl) (by decide) ?_
    refine r_callVp (I' := IX9_fails) (as := [_]) (dk kX9_stoneIn 13 rfl) mv_X9_fails ml_X9_80 rfl rfl o.k rfl rfl (Nat.le_of_ble_eq_true rfl) ⟨by decide, by decide⟩ ⟨rfl, rfl⟩ ⟨Nat.le_of_ble_eq_true rfl, Nat.le_of_ble_eq_true rfl⟩ (k_X9_fails o _) ?_
    refine r_if_eq (tgt := 35) (dk kX9_stoneIn 14 rfl) (by decide) (fun c28 => absurd c28 (by decide)) (fun c28 => ?_)
    refine r_iconst (v := 0) (dk kX9_stoneIn 15 rfl) (by decide) ?_
    refine r_goto (tgt := 40) (dk kX9_stoneIn 16 rfl) (by decide) ?_
    refine r_ireturn (dk kX9_stoneIn 20 rfl) rfl rfl ⟨Nat.le_of_ble_eq_true rfl, Nat.le_of_ble_eq_true rfl⟩ ⟨by unfold sp_stoneIn; rw [if_neg hc], by unfold sp_stoneIn; rw [if_neg hc]⟩
theorem k_X9_petitionsOf (o : MO M h) {F : Nat} (gi : GI F (mi M (h + 1))) (s : Int32) : KE G IX9_petitionsOf [.ref h, .int s] M (sp_petitionsOf (mi M (h + 1)) s).2 (mFail M h (sp_petitionsOf (mi M (h + 1)) s).1) := by
  refine KK.ofW (by decide) (by simp [Value.category]) (Nat.le_of_ble_eq_true rfl) rfl ?_
  show WW _ _ _ 0 [_, _, lj, lj] [] _ _ _
  obtain ⟨hS, hS2⟩ := gi.o
  obtain ⟨hP, hP2⟩ := gi.p
  rcases ixo_c (n := gn (mi M (h + 1)) 1) (by omega) s with ⟨e, hb⟩ | ⟨k, hk, rfl, e, hb⟩
  · refine r_aload_n (dk kX9_petitionsOf 0 rfl) rfl ?_
    refine r_aload_n (dk kX9_petitionsOf 1 rfl) rfl ?_
    refine r_iload_n (dk kX9_petitionsOf 2 rfl) rfl ?_
    refine r_callVp (I' := IX9_isOfficer) (as := [_]) (dk kX9_petitionsOf 3 rfl) mv_X9_isOfficer ml_X9_100 rfl rfl o.k rfl rfl (Nat.le_of_ble_eq_true rfl) ⟨by decide, by decide⟩ ⟨rfl, rfl⟩ ⟨Nat.le_of_ble_eq_true rfl, Nat.le_of_ble_eq_true rfl⟩ (k_X9_isOfficer o s) ?_
    refine r_if_eq (tgt := 13) (dk kX9_petitionsOf 4 rfl) (by decide) (fun c6 => ?_) (fun c6 => absurd (by rw [hS, bI_f hb]) c6)
    refine r_iconst (v := 1) (dk kX9_petitionsOf 7 rfl) (by decide) ?_
    refine r_callVp (I' := IX9_fails) (as := [_]) (dk kX9_petitionsOf 8 rfl) mv_X9_fails ml_X9_80 rfl rfl o.k rfl rfl (Nat.le_of_ble_eq_true rfl) ⟨by decide, by decide⟩ ⟨rfl, rfl⟩ ⟨Nat.le_of_ble_eq_true rfl, Nat.le_of_ble_eq_true rfl⟩ (k_X9_fails o _) ?_
    refine r_if_eq (tgt := 22) (dk kX9_petitionsOf 9 rfl) (by decide) (fun c17 => absurd c17 (by decide)) (fun c17 => ?_)
    refine r_iconst (v := 0) (dk kX9_petitionsOf 10 rfl) (by decide) ?_
    refine r_ireturn (dk kX9_petitionsOf 11 rfl) rfl rfl ⟨Nat.le_of_ble_eq_true rfl, Nat.le_of_ble_eq_true rfl⟩ ⟨by unfold sp_petitionsOf sp_off; rw [e], by unfold sp_petitionsOf sp_off; rw [e]⟩
  · refine r_aload_n (dk kX9_petitionsOf 0 rfl) rfl ?_
    refine r_aload_n (dk kX9_petitionsOf 1 rfl) rfl ?_
    refine r_iload_n (dk kX9_petitionsOf 2 rfl) rfl ?_
    refine r_callVp (I' := IX9_isOfficer) (as := [_]) (dk kX9_petitionsOf 3 rfl) mv_X9_isOfficer ml_X9_100 rfl rfl o.k rfl rfl (Nat.le_of_ble_eq_true rfl) ⟨by decide, by decide⟩ ⟨rfl, rfl⟩ ⟨Nat.le_of_ble_eq_true rfl, Nat.le_of_ble_eq_true rfl⟩ (k_X9_isOfficer o _) ?_
    refine r_if_eq (tgt := 13) (dk kX9_petitionsOf 4 rfl) (by decide) (fun c6 => absurd c6 (by rw [hS, bI_t hb]; decide)) (fun c6 => ?_)
    refine r_iconst (v := 0) (dk kX9_petitionsOf 5 rfl) (by decide) ?_
    refine r_goto (tgt := 14) (dk kX9_petitionsOf 6 rfl) (by decide) ?_
    refine r_callVp (I' := IX9_fails) (as := [_]) (dk kX9_petitionsOf 8 rfl) mv_X9_fails ml_X9_80 rfl rfl o.k rfl rfl (Nat.le_of_ble_eq_true rfl) ⟨by decide, by decide⟩ ⟨rfl, rfl⟩ ⟨Nat.le_of_ble_eq_true rfl, Nat.le_of_ble_eq_true rfl⟩ (k_X9_fails o _) ?_
    refine r_if_eq (tgt := 22) (dk kX9_petitionsOf 9 rfl) (by decide) (fun c17 => ?_) (fun c17 => absurd (by decide) c17)
    refine r_iconst (v := 0) (dk kX9_petitionsOf 12 rfl) (by decide) ?_
    refine r_istore_n (j := 2) (dk kX9_petitionsOf 13 rfl) rfl (by decide) rfl ?_
    simp only [List.set_cons_succ, List.set_cons_zero]
    refine r_iconst (v := 0) (dk kX9_petitionsOf 14 rfl) (by decide) ?_
    refine r_istore_n (j := 3) (dk kX9_petitionsOf 15 rfl) rfl (by decide) rfl ?_
    simp only [List.set_cons_succ, List.set_cons_zero]
    -- at 26
    rw [show (sp_petitionsOf (mi M (h + 1)) (nI k)).2 = nI (ct (gOwn (mi M (h + 1)) (nI k)) (gn (mi M (h + 1)) 3)) by unfold sp_petitionsOf sp_off; rw [e], show (sp_petitionsOf (mi M (h + 1)) (nI k)).1 = 0 by unfold sp_petitionsOf sp_off; rw [e]]
    have e1 := mf1 M h 0
    suffices key : ∀ d j, j + d = gn (mi M (h + 1)) 3 → WW G IX9_petitionsOf (qi (fun y M' => y = nI (ct (gOwn (mi M (h + 1)) (nI k)) (gn (mi M (h + 1)) 3)) ∧ M' = mFail M h 0) nox) 26 [.ref h, .int (nI k), .int (nI (ct (gOwn (mi M (h + 1)) (nI k)) j)), .int (nI j)] [] (mFail M h 0) 0 0 from key _ 0 (Nat.zero_add _)
    intro d
    induction d with
    | zero =>
      intro j hj
      refine r_iload_n (dk kX9_petitionsOf 16 rfl) rfl ?_
      refine r_aload_n (dk kX9_petitionsOf 17 rfl) rfl ?_
      refine r_getR (dk kX9_petitionsOf 18 rfl) fa_X9_7_8 o.k rfl (o.fl _).r0 ?_
      refine r_iconst (v := 3) (dk kX9_petitionsOf 19 rfl) (by decide) ?_
      refine r_ial (dk kX9_petitionsOf 20 rfl) (o.fl _).k1 (o.fl _).l1 (j := 3) rfl (by decide) (by decide) ?_
      refine r_icmp_ge (tgt := 60) (dk kX9_petitionsOf 21 rfl) (by decide) (fun c33 => ?_) (fun c33 => absurd (by rw [e1, hP]; exact nI_le (by omega) (by omega)) c33)
      refine r_iload_n (dk kX9_petitionsOf 36 rfl) rfl ?_
      refine r_ireturn (dk kX9_petitionsOf 37 rfl) rfl rfl ⟨Nat.le_of_ble_eq_true rfl, Nat.le_of_ble_eq_true rfl⟩ ⟨by rw [show j = gn (mi M (h + 1)) 3 from hj], rfl⟩
    | succ d ih =>
      intro j hj
      refine r_iload_n (dk kX9_petitionsOf 16 rfl) rfl ?_
      refine r_aload_n (dk kX9_petitionsOf 17 rfl) rfl ?_
      refine r_getR (dk kX9_petitionsOf 18 rfl) fa_X9_7_8 o.k rfl (o.fl _).r0 ?_
      refine r_iconst (v := 3) (dk kX9_petitionsOf 19 rfl) (by decide) ?_
      refine r_ial (dk kX9_petitionsOf 20 rfl) (o.fl _).k1 (o.fl _).l1 (j := 3) rfl (by decide) (by decide) ?_
      refine r_icmp_ge (tgt := 60) (dk kX9_petitionsOf 21 rfl) (by decide) (fun c33 => absurd c33 (by rw [e1, hP]; exact nI_ge (by omega) (by omega))) (fun c33 => ?_)
      refine r_iload_n (dk kX9_petitionsOf 22 rfl) rfl ?_
      refine r_aload_n (dk kX9_petitionsOf 23 rfl) rfl ?_
      refine r_iload_n (dk kX9_petitionsOf 24 rfl) rfl ?_
      refine r_iconst (v := 1) (dk kX9_petitionsOf 25 rfl) (by decide) ?_
      refine r_callVp (I' := IX9_of) (as := [_, _]) (dk kX9_petitionsOf 26 rfl) mv_X9_of ml_X9_106 rfl rfl o.k rfl rfl (Nat.le_of_ble_eq_true rfl) ⟨by decide, by decide⟩ ⟨rfl, rfl⟩ ⟨Nat.le_of_ble_eq_true rfl, Nat.le_of_ble_eq_true rfl⟩ (k_X9_of (o.fl _) (w := 1) rfl (by omega) (by decide)) ?_
      refine r_iload_n (dk kX9_petitionsOf 27 rfl) rfl ?_
      -- at 44
      rw [e1]
      have hst : ct (gOwn (mi M (h + 1)) (nI k)) (j + 1) = ct (gOwn (mi M (h + 1)) (nI k)) j + (if gOwn (mi M (h + 1)) (nI k) j = true then 1 else 0) := rfl
      refine r_icmp_ne (tgt := 51) (dk kX9_petitionsOf 28 rfl) (by decide) (fun c44 => ?_) (fun c44 => ?_)
      · refine r_iconst (v := 0) (dk kX9_petitionsOf 31 rfl) (by decide) ?_
        refine r_iadd (dk kX9_petitionsOf 32 rfl) ?_
        refine r_istore_n (j := 2) (dk kX9_petitionsOf 33 rfl) rfl (by decide) rfl ?_
        simp only [List.set_cons_succ, List.set_cons_zero]
        refine r_iinc (dk kX9_petitionsOf 34 rfl) (by decide) rfl rfl rfl ?_
        simp only [List.set_cons_succ, List.set_cons_zero]
        refine r_goto (tgt := 26) (dk kX9_petitionsOf 35 rfl) (by decide) ?_
        -- at 26
        rw [if_neg (by unfold gOwn; rw [decide_eq_false c44]; decide)] at hst
        rw [show nI j + Int32.ofInt 1 = nI (j + 1) from nI_1 j, show ∀ x : Int32, x + 0 = x from Int32.add_zero]
        have h9 := ih (j + 1) (by omega)
        rw [hst] at h9
        exact h9
      · refine r_iconst (v := 1) (dk kX9_petitionsOf 29 rfl) (by decide) ?_
        refine r_goto (tgt := 52) (dk kX9_petitionsOf 30 rfl) (by decide) ?_
        refine r_iadd (dk kX9_petitionsOf 32 rfl) ?_
        refine r_istore_n (j := 2) (dk kX9_petitionsOf 33 rfl) rfl (by decide) rfl ?_
        simp only [List.set_cons_succ, List.set_cons_zero]
        refine r_iinc (dk kX9_petitionsOf 34 rfl) (by decide) rfl rfl rfl ?_
        simp only [List.set_cons_succ, List.set_cons_zero]
        refine r_goto (tgt := 26) (dk kX9_petitionsOf 35 rfl) (by decide) ?_
        -- at 26
        rw [if_pos (by unfold gOwn; exact decide_eq_true (Decidable.not_not.mp c44))] at hst
        rw [show nI j + Int32.ofInt 1 = nI (j + 1) from nI_1 j, nI_1]
        have h9 := ih (j + 1) (by omega)
        rw [hst] at h9
        exact h9
theorem k_X9_petitionAt (o : MO M h) {F : Nat} (gi : GI F (mi M (h + 1))) (x : Int32) : KE G IX9_petitionAt [.ref h, .int x] M (sp_petitionAt (mi M (h + 1)) x).2 (mFail M h (sp_petitionAt (mi M (h + 1)) x).1) := by
  refine KK.ofW (by decide) (by simp [Value.category]) (Nat.le_of_ble_eq_true rfl) rfl ?_
  show WW _ _ _ 0 [_, _] [] _ _ _
  have gf : ∀ p, GI F (mi (mFail M h p) (h + 1)) := fun p => by rw [mf1]; exact gi
  have hlt : ∀ k, gQueued (mi M (h + 1)) x = some k → k < 9 := fun k hk => Nat.lt_trans (fx_lt hk) gi.p.2
  refine r_aload_n (dk kX9_petitionAt 0 rfl) rfl ?_
  refine r_aload_n (dk kX9_petitionAt 1 rfl) rfl ?_
  refine r_iload_n (dk kX9_petitionAt 2 rfl) rfl ?_
  refine r_callVp (I' := IX9_queued) (as := [_]) (dk kX9_petitionAt 3 rfl) mv_X9_queued ml_X9_143 rfl rfl o.k rfl rfl (Nat.le_of_ble_eq_true rfl) ⟨by decide, by decide⟩ ⟨rfl, rfl⟩ ⟨Nat.le_of_ble_eq_true rfl, Nat.le_of_ble_eq_true rfl⟩ (k_X9_queued o gi x) ?_
  -- at 6
  cases e : gQueued (mi M (h + 1)) x with
  | none =>
    refine r_if_ge (tgt := 13) (dk kX9_petitionAt 4 rfl) (by decide) (fun c6 => absurd c6 (by decide)) (fun c6 => ?_)
    refine r_iconst (v := 1) (dk kX9_petitionAt 5 rfl) (by decide) ?_
    refine r_goto (tgt := 14) (dk kX9_petitionAt 6 rfl) (by decide) ?_
    refine r_callVp (I' := IX9_fails) (as := [_]) (dk kX9_petitionAt 8 rfl) mv_X9_fails ml_X9_80 rfl rfl o.k rfl rfl (Nat.le_of_ble_eq_true rfl) ⟨by decide, by decide⟩ ⟨rfl, rfl⟩ ⟨Nat.le_of_ble_eq_true rfl, Nat.le_of_ble_eq_true rfl⟩ (k_X9_fails o _) ?_
    refine r_if_eq (tgt := 24) (dk kX9_petitionAt 9 rfl) (by decide) (fun c17 => absurd c17 (by decide)) (fun c17 => ?_)
    refine r_iconst (v := 0) (dk kX9_petitionAt 10 rfl) (by decide) ?_
    refine r_goto (tgt := 34) (dk kX9_petitionAt 11 rfl) (by decide) ?_
    refine r_ireturn (dk kX9_petitionAt 18 rfl) rfl rfl ⟨Nat.le_of_ble_eq_true rfl, Nat.le_of_ble_eq_true rfl⟩ ⟨by unfold sp_petitionAt; rw [e], by unfold sp_petitionAt; rw [e]⟩
  | some k =>
    have hk := fx_lt e
    have hp := gi.p.2
    refine r_if_ge (tgt := 13) (dk kX9_petitionAt 4 rfl) (by decide) (fun c6 => ?_) (fun c6 => absurd (nI_pos' (by omega)) c6)
    refine r_iconst (v := 0) (dk kX9_petitionAt 7 rfl) (by decide) ?_
    refine r_callVp (I' := IX9_fails) (as := [_]) (dk kX9_petitionAt 8 rfl) mv_X9_fails ml_X9_80 rfl rfl o.k rfl rfl (Nat.le_of_ble_eq_true rfl) ⟨by decide, by decide⟩ ⟨rfl, rfl⟩ ⟨Nat.le_of_ble_eq_true rfl, Nat.le_of_ble_eq_true rfl⟩ (k_X9_fails o _) ?_
    refine r_if_eq (tgt := 24) (dk kX9_petitionAt 9 rfl) (by decide) (fun c17 => ?_) (fun c17 => absurd (by decide) c17)
    refine r_aload_n (dk kX9_petitionAt 12 rfl) rfl ?_
    refine r_aload_n (dk kX9_petitionAt 13 rfl) rfl ?_
    refine r_iload_n (dk kX9_petitionAt 14 rfl) rfl ?_
    refine r_callVp (I' := IX9_queued) (as := [_]) (dk kX9_petitionAt 15 rfl) mv_X9_queued ml_X9_143 rfl rfl o.k rfl rfl (Nat.le_of_ble_eq_true rfl) ⟨by decide, by decide⟩ ⟨rfl, rfl⟩ ⟨Nat.le_of_ble_eq_true rfl, Nat.le_of_ble_eq_true rfl⟩ (k_X9_queued (o.fl _) (gf _) x) ?_
    -- at 30
    rw [mf1, e]
    refine r_iconst (v := 0) (dk kX9_petitionAt 16 rfl) (by decide) ?_
    refine r_callVp (I' := IX9_of) (as := [_, _]) (dk kX9_petitionAt 17 rfl) mv_X9_of ml_X9_106 rfl rfl o.k rfl rfl (Nat.le_of_ble_eq_true rfl) ⟨by decide, by decide⟩ ⟨rfl, rfl⟩ ⟨Nat.le_of_ble_eq_true rfl, Nat.le_of_ble_eq_true rfl⟩ (k_X9_of0 (o.fl _) (p := k) (by omega)) ?_
    refine r_ireturn (dk kX9_petitionAt 18 rfl) rfl rfl ⟨Nat.le_of_ble_eq_true rfl, Nat.le_of_ble_eq_true rfl⟩ ⟨by unfold sp_petitionAt; rw [e, mf1], by unfold sp_petitionAt; rw [e]⟩
theorem k_X9_positionOf (o : MO M h) {F : Nat} (gi : GI F (mi M (h + 1))) (x : Int32) : KE G IX9_positionOf [.ref h, .int x] M (sp_positionOf (mi M (h + 1)) x).2 (mFail M h (sp_positionOf (mi M (h + 1)) x).1) := by
  refine KK.ofW (by decide) (by simp [Value.category]) (Nat.le_of_ble_eq_true rfl) rfl ?_
  show WW _ _ _ 0 [_, _] [] _ _ _
  have gf : ∀ p, GI F (mi (mFail M h p) (h + 1)) := fun p => by rw [mf1]; exact gi
  have hp8 := gi.p.2
  cases e : gPlace (mi M (h + 1)) x with
  | none =>
    have e1 : bI (gPlace (mi M (h + 1)) x = none) = 1 := bI_t e
    refine r_aload_n (dk kX9_positionOf 0 rfl) rfl ?_
    refine r_iload_n (dk kX9_positionOf 1 rfl) rfl ?_
    refine r_callVp (I' := IX9_isNone) (as := [_]) (dk kX9_positionOf 2 rfl) mv_X9_isNone ml_X9_133 rfl rfl o.k rfl rfl (Nat.le_of_ble_eq_true rfl) ⟨by decide, by decide⟩ ⟨rfl, rfl⟩ ⟨Nat.le_of_ble_eq_true rfl, Nat.le_of_ble_eq_true rfl⟩ (k_X9_isNone o gi x) ?_
    refine r_if_eq (tgt := 12) (dk kX9_positionOf 3 rfl) (by decide) (fun c5 => absurd c5 (by rw [e1]; decide)) (fun c5 => ?_)
    refine r_iconst (v := 0) (dk kX9_positionOf 4 rfl) (by decide) ?_
    refine r_goto (tgt := 21) (dk kX9_positionOf 5 rfl) (by decide) ?_
    refine r_ireturn (dk kX9_positionOf 11 rfl) rfl rfl ⟨Nat.le_of_ble_eq_true rfl, Nat.le_of_ble_eq_true rfl⟩ ⟨by unfold sp_positionOf sp_pet; rw [e], by rw [e1]; unfold sp_positionOf sp_pet; rw [e]⟩
  | some k =>
    have hk := fx_lt e
    have e1 : bI (gPlace (mi M (h + 1)) x = none) = 0 := bI_f (by rw [e]; exact Option.some_ne_none _)
    refine r_aload_n (dk kX9_positionOf 0 rfl) rfl ?_
    refine r_iload_n (dk kX9_positionOf 1 rfl) rfl ?_
    refine r_callVp (I' := IX9_isNone) (as := [_]) (dk kX9_positionOf 2 rfl) mv_X9_isNone ml_X9_133 rfl rfl o.k rfl rfl (Nat.le_of_ble_eq_true rfl) ⟨by decide, by decide⟩ ⟨rfl, rfl⟩ ⟨Nat.le_of_ble_eq_true rfl, Nat.le_of_ble_eq_true rfl⟩ (k_X9_isNone o gi x) ?_
    refine r_if_eq (tgt := 12) (dk kX9_positionOf 3 rfl) (by decide) (fun c5 => ?_) (fun c5 => absurd (by rw [e1]) c5)
    refine r_aload_n (dk kX9_positionOf 6 rfl) rfl ?_
    refine r_aload_n (dk kX9_positionOf 7 rfl) rfl ?_
    refine r_iload_n (dk kX9_positionOf 8 rfl) rfl ?_
    refine r_callVp (I' := IX9_placeOf) (as := [_]) (dk kX9_positionOf 9 rfl) mv_X9_placeOf ml_X9_110 rfl rfl o.k rfl rfl (Nat.le_of_ble_eq_true rfl) ⟨by decide, by decide⟩ ⟨rfl, rfl⟩ ⟨Nat.le_of_ble_eq_true rfl, Nat.le_of_ble_eq_true rfl⟩ (k_X9_placeOf (o.fl _) (gf _) x) ?_
    -- at 18
    rw [mf1, e1, e]
    refine r_callVp (I' := IX9_ahead) (as := [_]) (dk kX9_positionOf 10 rfl) mv_X9_ahead ml_X9_140 rfl rfl o.k rfl rfl (Nat.le_of_ble_eq_true rfl) ⟨by decide, by decide⟩ ⟨rfl, rfl⟩ ⟨Nat.le_of_ble_eq_true rfl, Nat.le_of_ble_eq_true rfl⟩ (k_X9_ahead (o.fl _) (gf _) (p := k) (by rw [mf1]; exact hk)) ?_
    refine r_ireturn (dk kX9_positionOf 11 rfl) rfl rfl ⟨Nat.le_of_ble_eq_true rfl, Nat.le_of_ble_eq_true rfl⟩ ⟨by unfold sp_positionOf sp_pet; rw [e, mf1], by unfold sp_positionOf sp_pet; rw [e]⟩
theorem k_X9_stoneOf (o : MO M h) {F : Nat} (gi : GI F (mi M (h + 1))) (x : Int32) : KE G IX9_stoneOf [.ref h, .int x] M (sp_stoneOf (mi M (h + 1)) x).2 (mFail M h (sp_stoneOf (mi M (h + 1)) x).1) := by
  refine KK.ofW (by decide) (by simp [Value.category]) (Nat.le_of_ble_eq_true rfl) rfl ?_
  show WW _ _ _ 0 [_, _] [] _ _ _
  have gf : ∀ p, GI F (mi (mFail M h p) (h + 1)) := fun p => by rw [mf1]; exact gi
  have hp8 := gi.p.2
  cases e : gPlace (mi M (h + 1)) x with
  | none =>
    have e1 : bI (gPlace (mi M (h + 1)) x = none) = 1 := bI_t e
    refine r_aload_n (dk kX9_stoneOf 0 rfl) rfl ?_
    refine r_iload_n (dk kX9_stoneOf 1 rfl) rfl ?_
    refine r_callVp (I' := IX9_isNone) (as := [_]) (dk kX9_stoneOf 2 rfl) mv_X9_isNone ml_X9_133 rfl rfl o.k rfl rfl (Nat.le_of_ble_eq_true rfl) ⟨by decide, by decide⟩ ⟨rfl, rfl⟩ ⟨Nat.le_of_ble_eq_true rfl, Nat.le_of_ble_eq_true rfl⟩ (k_X9_isNone o gi x) ?_
    refine r_if_eq (tgt := 12) (dk kX9_stoneOf 3 rfl) (by decide) (fun c5 => absurd c5 (by rw [e1]; decide)) (fun c5 => ?_)
    refine r_iconst (v := 0) (dk kX9_stoneOf 4 rfl) (by decide) ?_
    refine r_goto (tgt := 22) (dk kX9_stoneOf 5 rfl) (by decide) ?_
    refine r_ireturn (dk kX9_stoneOf 12 rfl) rfl rfl ⟨Nat.le_of_ble_eq_true rfl, Nat.le_of_ble_eq_true rfl⟩ ⟨by unfold sp_stoneOf sp_pet; rw [e], by rw [e1]; unfold sp_stoneOf sp_pet; rw [e]⟩
  | some k =>
    have hk := fx_lt e
    have e1 : bI (gPlace (mi M (h + 1)) x = none) = 0 := bI_f (by rw [e]; exact Option.some_ne_none _)
    refine r_aload_n (dk kX9_stoneOf 0 rfl) rfl ?_
    refine r_iload_n (dk kX9_stoneOf 1 rfl) rfl ?_
    refine r_callVp (I' := IX9_isNone) (as := [_]) (dk kX9_stoneOf 2 rfl) mv_X9_isNone ml_X9_133 rfl rfl o.k rfl rfl (Nat.le_of_ble_eq_true rfl) ⟨by decide, by decide⟩ ⟨rfl, rfl⟩ ⟨Nat.le_of_ble_eq_true rfl, Nat.le_of_ble_eq_true rfl⟩ (k_X9_isNone o gi x) ?_
    refine r_if_eq (tgt := 12) (dk kX9_stoneOf 3 rfl) (by decide) (fun c5 => ?_) (fun c5 => absurd (by rw [e1]) c5)
    refine r_aload_n (dk kX9_stoneOf 6 rfl) rfl ?_
    refine r_aload_n (dk kX9_stoneOf 7 rfl) rfl ?_
    refine r_iload_n (dk kX9_stoneOf 8 rfl) rfl ?_
    refine r_callVp (I' := IX9_placeOf) (as := [_]) (dk kX9_stoneOf 9 rfl) mv_X9_placeOf ml_X9_110 rfl rfl o.k rfl rfl (Nat.le_of_ble_eq_true rfl) ⟨by decide, by decide⟩ ⟨rfl, rfl⟩ ⟨Nat.le_of_ble_eq_true rfl, Nat.le_of_ble_eq_true rfl⟩ (k_X9_placeOf (o.fl _) (gf _) x) ?_
    -- at 18
    rw [mf1, e1, e]
    refine r_iconst (v := 2) (dk kX9_stoneOf 10 rfl) (by decide) ?_
    refine r_callVp (I' := IX9_of) (as := [_, _]) (dk kX9_stoneOf 11 rfl) mv_X9_of ml_X9_106 rfl rfl o.k rfl rfl (Nat.le_of_ble_eq_true rfl) ⟨by decide, by decide⟩ ⟨rfl, rfl⟩ ⟨Nat.le_of_ble_eq_true rfl, Nat.le_of_ble_eq_true rfl⟩ (k_X9_of (o.fl _) (p := k) (w := 2) rfl (by omega) (by decide)) ?_
    refine r_ireturn (dk kX9_stoneOf 12 rfl) rfl rfl ⟨Nat.le_of_ble_eq_true rfl, Nat.le_of_ble_eq_true rfl⟩ ⟨by unfold sp_stoneOf sp_pet; rw [e, mf1], by unfold sp_stoneOf sp_pet; rw [e]⟩
theorem k_X9_targetOf (o : MO M h) {F : Nat} (gi : GI F (mi M (h + 1))) (x : Int32) : KE G IX9_targetOf [.ref h, .int x] M (sp_targetOf (mi M (h + 1)) x).2 (mFail M h (sp_targetOf (mi M (h + 1)) x).1) := by
  refine KK.ofW (by decide) (by simp [Value.category]) (Nat.le_of_ble_eq_true rfl) rfl ?_
  show WW _ _ _ 0 [_, _] [] _ _ _
  have gf : ∀ p, GI F (mi (mFail M h p) (h + 1)) := fun p => by rw [mf1]; exact gi
  have hp8 := gi.p.2
  cases e : gPlace (mi M (h + 1)) x with
  | none =>
    have e1 : bI (gPlace (mi M (h + 1)) x = none) = 1 := bI_t e
    refine r_aload_n (dk kX9_targetOf 0 rfl) rfl ?_
    refine r_iload_n (dk kX9_targetOf 1 rfl) rfl ?_
    refine r_callVp (I' := IX9_isNone) (as := [_]) (dk kX9_targetOf 2 rfl) mv_X9_isNone ml_X9_133 rfl rfl o.k rfl rfl (Nat.le_of_ble_eq_true rfl) ⟨by decide, by decide⟩ ⟨rfl, rfl⟩ ⟨Nat.le_of_ble_eq_true rfl, Nat.le_of_ble_eq_true rfl⟩ (k_X9_isNone o gi x) ?_
    refine r_if_eq (tgt := 12) (dk kX9_targetOf 3 rfl) (by decide) (fun c5 => absurd c5 (by rw [e1]; decide)) (fun c5 => ?_)
    refine r_iconst (v := 0) (dk kX9_targetOf 4 rfl) (by decide) ?_
    refine r_goto (tgt := 22) (dk kX9_targetOf 5 rfl) (by decide) ?_
    refine r_ireturn (dk kX9_targetOf 12 rfl) rfl rfl ⟨Nat.le_of_ble_eq_true rfl, Nat.le_of_ble_eq_true rfl⟩ ⟨by unfold sp_targetOf sp_pet; rw [e], by rw [e1]; unfold sp_targetOf sp_pet; rw [e]⟩
  | some k =>
    have hk := fx_lt e
    have e1 : bI (gPlace (mi M (h + 1)) x = none) = 0 := bI_f (by rw [e]; exact Option.some_ne_none _)
    refine r_aload_n (dk kX9_targetOf 0 rfl) rfl ?_
    refine r_iload_n (dk kX9_targetOf 1 rfl) rfl ?_
    refine r_callVp (I' := IX9_isNone) (as := [_]) (dk kX9_targetOf 2 rfl) mv_X9_isNone ml_X9_133 rfl rfl o.k rfl rfl (Nat.le_of_ble_eq_true rfl) ⟨by decide, by decide⟩ ⟨rfl, rfl⟩ ⟨Nat.le_of_ble_eq_true rfl, Nat.le_of_ble_eq_true rfl⟩ (k_X9_isNone o gi x) ?_
    refine r_if_eq (tgt := 12) (dk kX9_targetOf 3 rfl) (by decide) (fun c5 => ?_) (fun c5 => absurd (by rw [e1]) c5)
    refine r_aload_n (dk kX9_targetOf 6 rfl) rfl ?_
    refine r_aload_n (dk kX9_targetOf 7 rfl) rfl ?_
    refine r_iload_n (dk kX9_targetOf 8 rfl) rfl ?_
    refine r_callVp (I' := IX9_placeOf) (as := [_]) (dk kX9_targetOf 9 rfl) mv_X9_placeOf ml_X9_110 rfl rfl o.k rfl rfl (Nat.le_of_ble_eq_true rfl) ⟨by decide, by decide⟩ ⟨rfl, rfl⟩ ⟨Nat.le_of_ble_eq_true rfl, Nat.le_of_ble_eq_true rfl⟩ (k_X9_placeOf (o.fl _) (gf _) x) ?_
    -- at 18
    rw [mf1, e1, e]
    refine r_iconst (v := 3) (dk kX9_targetOf 10 rfl) (by decide) ?_
    refine r_callVp (I' := IX9_of) (as := [_, _]) (dk kX9_targetOf 11 rfl) mv_X9_of ml_X9_106 rfl rfl o.k rfl rfl (Nat.le_of_ble_eq_true rfl) ⟨by decide, by decide⟩ ⟨rfl, rfl⟩ ⟨Nat.le_of_ble_eq_true rfl, Nat.le_of_ble_eq_true rfl⟩ (k_X9_of (o.fl _) (p := k) (w := 3) rfl (by omega) (by decide)) ?_
    refine r_ireturn (dk kX9_targetOf 12 rfl) rfl rfl ⟨Nat.le_of_ble_eq_true rfl, Nat.le_of_ble_eq_true rfl⟩ ⟨by unfold sp_targetOf sp_pet; rw [e, mf1], by unfold sp_targetOf sp_pet; rw [e]⟩
theorem k_X9_votesFor (o : MO M h) {F : Nat} (gi : GI F (mi M (h + 1))) (x : Int32) : KE G IX9_votesFor [.ref h, .int x] M (sp_votesFor (mi M (h + 1)) x).2 (mFail M h (sp_votesFor (mi M (h + 1)) x).1) := by
  refine KK.ofW (by decide) (by simp [Value.category]) (Nat.le_of_ble_eq_true rfl) rfl ?_
  show WW _ _ _ 0 [_, _] [] _ _ _
  have gf : ∀ p, GI F (mi (mFail M h p) (h + 1)) := fun p => by rw [mf1]; exact gi
  have hp8 := gi.p.2
  cases e : gPlace (mi M (h + 1)) x with
  | none =>
    have e1 : bI (gPlace (mi M (h + 1)) x = none) = 1 := bI_t e
    refine r_aload_n (dk kX9_votesFor 0 rfl) rfl ?_
    refine r_iload_n (dk kX9_votesFor 1 rfl) rfl ?_
    refine r_callVp (I' := IX9_isNone) (as := [_]) (dk kX9_votesFor 2 rfl) mv_X9_isNone ml_X9_133 rfl rfl o.k rfl rfl (Nat.le_of_ble_eq_true rfl) ⟨by decide, by decide⟩ ⟨rfl, rfl⟩ ⟨Nat.le_of_ble_eq_true rfl, Nat.le_of_ble_eq_true rfl⟩ (k_X9_isNone o gi x) ?_
    refine r_if_eq (tgt := 12) (dk kX9_votesFor 3 rfl) (by decide) (fun c5 => absurd c5 (by rw [e1]; decide)) (fun c5 => ?_)
    refine r_iconst (v := 0) (dk kX9_votesFor 4 rfl) (by decide) ?_
    refine r_goto (tgt := 25) (dk kX9_votesFor 5 rfl) (by decide) ?_
    refine r_ireturn (dk kX9_votesFor 13 rfl) rfl rfl ⟨Nat.le_of_ble_eq_true rfl, Nat.le_of_ble_eq_true rfl⟩ ⟨by unfold sp_votesFor sp_pet; rw [e], by rw [e1]; unfold sp_votesFor sp_pet; rw [e]⟩
  | some k =>
    have hk := fx_lt e
    have e1 : bI (gPlace (mi M (h + 1)) x = none) = 0 := bI_f (by rw [e]; exact Option.some_ne_none _)
    refine r_aload_n (dk kX9_votesFor 0 rfl) rfl ?_
    refine r_iload_n (dk kX9_votesFor 1 rfl) rfl ?_
    refine r_callVp (I' := IX9_isNone) (as := [_]) (dk kX9_votesFor 2 rfl) mv_X9_isNone ml_X9_133 rfl rfl o.k rfl rfl (Nat.le_of_ble_eq_true rfl) ⟨by decide, by decide⟩ ⟨rfl, rfl⟩ ⟨Nat.le_of_ble_eq_true rfl, Nat.le_of_ble_eq_true rfl⟩ (k_X9_isNone o gi x) ?_
    refine r_if_eq (tgt := 12) (dk kX9_votesFor 3 rfl) (by decide) (fun c5 => ?_) (fun c5 => absurd (by rw [e1]) c5)
    refine r_aload_n (dk kX9_votesFor 6 rfl) rfl ?_
    refine r_aload_n (dk kX9_votesFor 7 rfl) rfl ?_
    refine r_iload_n (dk kX9_votesFor 8 rfl) rfl ?_
    refine r_callVp (I' := IX9_placeOf) (as := [_]) (dk kX9_votesFor 9 rfl) mv_X9_placeOf ml_X9_110 rfl rfl o.k rfl rfl (Nat.le_of_ble_eq_true rfl) ⟨by decide, by decide⟩ ⟨rfl, rfl⟩ ⟨Nat.le_of_ble_eq_true rfl, Nat.le_of_ble_eq_true rfl⟩ (k_X9_placeOf (o.fl _) (gf _) x) ?_
    -- at 18
    rw [mf1, e1, e]
    obtain ⟨-, -, -, -, -, y5, y6, -⟩ := gi.pi hk
    refine r_iconst (v := 5) (dk kX9_votesFor 10 rfl) (by decide) ?_
    refine r_callVp (I' := IX9_of) (as := [_, _]) (dk kX9_votesFor 11 rfl) mv_X9_of ml_X9_106 rfl rfl o.k rfl rfl (Nat.le_of_ble_eq_true rfl) ⟨by decide, by decide⟩ ⟨rfl, rfl⟩ ⟨Nat.le_of_ble_eq_true rfl, Nat.le_of_ble_eq_true rfl⟩ (k_X9_of (o.fl _) (p := k) (w := 5) rfl (by omega) (by decide)) ?_
    -- at 22
    rw [mf1, y5.1]
    refine r_callSp (I' := IX9_bits) (as := [_]) (dk kX9_votesFor 12 rfl) ms_X9_bits ml_X9_120 rfl rfl rfl (Nat.le_of_ble_eq_true rfl) ⟨by decide, by decide⟩ ⟨rfl, rfl⟩ ⟨Nat.le_of_ble_eq_true rfl, Nat.le_of_ble_eq_true rfl⟩ (k_X9_bits y5.2) ?_
    refine r_ireturn (dk kX9_votesFor 13 rfl) rfl rfl ⟨Nat.le_of_ble_eq_true rfl, Nat.le_of_ble_eq_true rfl⟩ ⟨by unfold sp_votesFor sp_pet; rw [e]; rfl, by unfold sp_votesFor sp_pet; rw [e]⟩
theorem k_X9_votesAgainst (o : MO M h) {F : Nat} (gi : GI F (mi M (h + 1))) (x : Int32) : KE G IX9_votesAgainst [.ref h, .int x] M (sp_votesAgainst (mi M (h + 1)) x).2 (mFail M h (sp_votesAgainst (mi M (h + 1)) x).1) := by
  refine KK.ofW (by decide) (by simp [Value.category]) (Nat.le_of_ble_eq_true rfl) rfl ?_
  show WW _ _ _ 0 [_, _] [] _ _ _
  have gf : ∀ p, GI F (mi (mFail M h p) (h + 1)) := fun p => by rw [mf1]; exact gi
  have hp8 := gi.p.2
  cases e : gPlace (mi M (h + 1)) x with
  | none =>
    have e1 : bI (gPlace (mi M (h + 1)) x = none) = 1 := bI_t e
    refine r_aload_n (dk kX9_votesAgainst 0 rfl) rfl ?_
    refine r_iload_n (dk kX9_votesAgainst 1 rfl) rfl ?_
    refine r_callVp (I' := IX9_isNone) (as := [_]) (dk kX9_votesAgainst 2 rfl) mv_X9_isNone ml_X9_133 rfl rfl o.k rfl rfl (Nat.le_of_ble_eq_true rfl) ⟨by decide, by decide⟩ ⟨rfl, rfl⟩ ⟨Nat.le_of_ble_eq_true rfl, Nat.le_of_ble_eq_true rfl⟩ (k_X9_isNone o gi x) ?_
    refine r_if_eq (tgt := 12) (dk kX9_votesAgainst 3 rfl) (by decide) (fun c5 => absurd c5 (by rw [e1]; decide)) (fun c5 => ?_)
    refine r_iconst (v := 0) (dk kX9_votesAgainst 4 rfl) (by decide) ?_
    refine r_goto (tgt := 26) (dk kX9_votesAgainst 5 rfl) (by decide) ?_
    refine r_ireturn (dk kX9_votesAgainst 13 rfl) rfl rfl ⟨Nat.le_of_ble_eq_true rfl, Nat.le_of_ble_eq_true rfl⟩ ⟨by unfold sp_votesAgainst sp_pet; rw [e], by rw [e1]; unfold sp_votesAgainst sp_pet; rw [e]⟩
  | some k =>
    have hk := fx_lt e
    have e1 : bI (gPlace (mi M (h + 1)) x = none) = 0 := bI_f (by rw [e]; exact Option.some_ne_none _)
    refine r_aload_n (dk kX9_votesAgainst 0 rfl) rfl ?_
    refine r_iload_n (dk kX9_votesAgainst 1 rfl) rfl ?_
    refine r_callVp (I' := IX9_isNone) (as := [_]) (dk kX9_votesAgainst 2 rfl) mv_X9_isNone ml_X9_133 rfl rfl o.k rfl rfl (Nat.le_of_ble_eq_true rfl) ⟨by decide, by decide⟩ ⟨rfl, rfl⟩ ⟨Nat.le_of_ble_eq_true rfl, Nat.le_of_ble_eq_true rfl⟩ (k_X9_isNone o gi x) ?_
    refine r_if_eq (tgt := 12) (dk kX9_votesAgainst 3 rfl) (by decide) (fun c5 => ?_) (fun c5 => absurd (by rw [e1]) c5)
    refine r_aload_n (dk kX9_votesAgainst 6 rfl) rfl ?_
    refine r_aload_n (dk kX9_votesAgainst 7 rfl) rfl ?_
    refine r_iload_n (dk kX9_votesAgainst 8 rfl) rfl ?_
    refine r_callVp (I' := IX9_placeOf) (as := [_]) (dk kX9_votesAgainst 9 rfl) mv_X9_placeOf ml_X9_110 rfl rfl o.k rfl rfl (Nat.le_of_ble_eq_true rfl) ⟨by decide, by decide⟩ ⟨rfl, rfl⟩ ⟨Nat.le_of_ble_eq_true rfl, Nat.le_of_ble_eq_true rfl⟩ (k_X9_placeOf (o.fl _) (gf _) x) ?_
    -- at 18
    rw [mf1, e1, e]
    obtain ⟨-, -, -, -, -, y5, y6, -⟩ := gi.pi hk
    refine r_bipush (v := 6) (dk kX9_votesAgainst 10 rfl) (by decide) ?_
    refine r_callVp (I' := IX9_of) (as := [_, _]) (dk kX9_votesAgainst 11 rfl) mv_X9_of ml_X9_106 rfl rfl o.k rfl rfl (Nat.le_of_ble_eq_true rfl) ⟨by decide, by decide⟩ ⟨rfl, rfl⟩ ⟨Nat.le_of_ble_eq_true rfl, Nat.le_of_ble_eq_true rfl⟩ (k_X9_of (o.fl _) (p := k) (w := 6) rfl (by omega) (by decide)) ?_
    -- at 23
    rw [mf1, y6.1]
    refine r_callSp (I' := IX9_bits) (as := [_]) (dk kX9_votesAgainst 12 rfl) ms_X9_bits ml_X9_120 rfl rfl rfl (Nat.le_of_ble_eq_true rfl) ⟨by decide, by decide⟩ ⟨rfl, rfl⟩ ⟨Nat.le_of_ble_eq_true rfl, Nat.le_of_ble_eq_true rfl⟩ (k_X9_bits y6.2) ?_
    refine r_ireturn (dk kX9_votesAgainst 13 rfl) rfl rfl ⟨Nat.le_of_ble_eq_true rfl, Nat.le_of_ble_eq_true rfl⟩ ⟨by unfold sp_votesAgainst sp_pet; rw [e]; rfl, by unfold sp_votesAgainst sp_pet; rw [e]⟩
theorem k_X9_wouldBeGranted (o : MO M h) {F : Nat} (gi : GI F (mi M (h + 1))) (x : Int32) : KE G IX9_wouldBeGranted [.ref h, .int x] M (sp_wouldBeGranted (mi M (h + 1)) x).2 (mFail M h (sp_wouldBeGranted (mi M (h + 1)) x).1) := by
  refine KK.ofW (by decide) (by simp [Value.category]) (Nat.le_of_ble_eq_true rfl) rfl ?_
  show WW _ _ _ 0 [_, _] [] _ _ _
  have gf : ∀ p, GI F (mi (mFail M h p) (h + 1)) := fun p => by rw [mf1]; exact gi
  have hp8 := gi.p.2
  cases e : gPlace (mi M (h + 1)) x with
  | none =>
    have e1 : bI (gPlace (mi M (h + 1)) x = none) = 1 := bI_t e
    refine r_aload_n (dk kX9_wouldBeGranted 0 rfl) rfl ?_
    refine r_iload_n (dk kX9_wouldBeGranted 1 rfl) rfl ?_
    refine r_callVp (I' := IX9_isNone) (as := [_]) (dk kX9_wouldBeGranted 2 rfl) mv_X9_isNone ml_X9_133 rfl rfl o.k rfl rfl (Nat.le_of_ble_eq_true rfl) ⟨by decide, by decide⟩ ⟨rfl, rfl⟩ ⟨Nat.le_of_ble_eq_true rfl, Nat.le_of_ble_eq_true rfl⟩ (k_X9_isNone o gi x) ?_
    refine r_if_ne (tgt := 24) (dk kX9_wouldBeGranted 3 rfl) (by decide) (fun c5 => ?_) (fun c5 => absurd (by rw [e1]; decide) c5)
    refine r_iconst (v := 0) (dk kX9_wouldBeGranted 12 rfl) (by decide) ?_
    refine r_ireturn (dk kX9_wouldBeGranted 13 rfl) rfl rfl ⟨Nat.le_of_ble_eq_true rfl, Nat.le_of_ble_eq_true rfl⟩ ⟨by unfold sp_wouldBeGranted sp_pet; rw [e], by rw [e1]; unfold sp_wouldBeGranted sp_pet; rw [e]⟩
  | some k =>
    have hk := fx_lt e
    have e1 : bI (gPlace (mi M (h + 1)) x = none) = 0 := bI_f (by rw [e]; exact Option.some_ne_none _)
    refine r_aload_n (dk kX9_wouldBeGranted 0 rfl) rfl ?_
    refine r_iload_n (dk kX9_wouldBeGranted 1 rfl) rfl ?_
    refine r_callVp (I' := IX9_isNone) (as := [_]) (dk kX9_wouldBeGranted 2 rfl) mv_X9_isNone ml_X9_133 rfl rfl o.k rfl rfl (Nat.le_of_ble_eq_true rfl) ⟨by decide, by decide⟩ ⟨rfl, rfl⟩ ⟨Nat.le_of_ble_eq_true rfl, Nat.le_of_ble_eq_true rfl⟩ (k_X9_isNone o gi x) ?_
    refine r_if_ne (tgt := 24) (dk kX9_wouldBeGranted 3 rfl) (by decide) (fun c5 => absurd c5 (by rw [e1]; exact fun z => z rfl)) (fun c5 => ?_)
    refine r_aload_n (dk kX9_wouldBeGranted 4 rfl) rfl ?_
    refine r_aload_n (dk kX9_wouldBeGranted 5 rfl) rfl ?_
    refine r_iload_n (dk kX9_wouldBeGranted 6 rfl) rfl ?_
    refine r_callVp (I' := IX9_placeOf) (as := [_]) (dk kX9_wouldBeGranted 7 rfl) mv_X9_placeOf ml_X9_110 rfl rfl o.k rfl rfl (Nat.le_of_ble_eq_true rfl) ⟨by decide, by decide⟩ ⟨rfl, rfl⟩ ⟨Nat.le_of_ble_eq_true rfl, Nat.le_of_ble_eq_true rfl⟩ (k_X9_placeOf (o.fl _) (gf _) x) ?_
    -- at 14
    rw [mf1, e1, e]
    refine r_callVp (I' := IX9_wins) (as := [_]) (dk kX9_wouldBeGranted 8 rfl) mv_X9_wins ml_X9_149 rfl rfl o.k rfl rfl (Nat.le_of_ble_eq_true rfl) ⟨by decide, by decide⟩ ⟨rfl, rfl⟩ ⟨Nat.le_of_ble_eq_true rfl, Nat.le_of_ble_eq_true rfl⟩ (k_X9_wins (o.fl _) (gf _) (p := k) (by rw [mf1]; exact hk)) ?_
    refine r_if_eq (tgt := 24) (dk kX9_wouldBeGranted 9 rfl) (by decide) (fun c17 => ?_) (fun c17 => ?_)
    · refine r_iconst (v := 0) (dk kX9_wouldBeGranted 12 rfl) (by decide) ?_
      refine r_ireturn (dk kX9_wouldBeGranted 13 rfl) rfl rfl ⟨Nat.le_of_ble_eq_true rfl, Nat.le_of_ble_eq_true rfl⟩ ⟨by unfold sp_wouldBeGranted sp_pet; rw [e]; rw [mf1] at c17; exact c17.symm, by unfold sp_wouldBeGranted sp_pet; rw [e]⟩
    · refine r_iconst (v := 1) (dk kX9_wouldBeGranted 10 rfl) (by decide) ?_
      refine r_goto (tgt := 25) (dk kX9_wouldBeGranted 11 rfl) (by decide) ?_
      refine r_ireturn (dk kX9_wouldBeGranted 13 rfl) rfl rfl ⟨Nat.le_of_ble_eq_true rfl, Nat.le_of_ble_eq_true rfl⟩ ⟨by unfold sp_wouldBeGranted sp_pet; rw [e]; rw [mf1] at c17; exact (bI_t (bI_1.mp c17)).symm, by unfold sp_wouldBeGranted sp_pet; rw [e]⟩
theorem k_X9_isGranted (o : MO M h) {F : Nat} (gi : GI F (mi M (h + 1))) (x : Int32) : KE G IX9_isGranted [.ref h, .int x] M (sp_isGranted (mi M (h + 1)) x).2 (mFail M h (sp_isGranted (mi M (h + 1)) x).1) := by
  refine KK.ofW (by decide) (by simp [Value.category]) (Nat.le_of_ble_eq_true rfl) rfl ?_
  show WW _ _ _ 0 [_, _] [] _ _ _
  have gf : ∀ p, GI F (mi (mFail M h p) (h + 1)) := fun p => by rw [mf1]; exact gi
  obtain ⟨hS, hS2⟩ := gi.r
  rcases ixo_c (n := gn (mi M (h + 1)) 5) (by omega) x with ⟨e, hb⟩ | ⟨k, hk, rfl, e, hb⟩
  · have e1 : bI (¬ (0 ≤ x ∧ x ≤ mi M (h + 1) 5 - 1)) = 1 := bI_t (by rw [hS]; exact hb)
    refine r_aload_n (dk kX9_isGranted 0 rfl) rfl ?_
    refine r_iload_n (dk kX9_isGranted 1 rfl) rfl ?_
    refine r_callVp (I' := IX9_isUnruled) (as := [_]) (dk kX9_isGranted 2 rfl) mv_X9_isUnruled ml_X9_152 rfl rfl o.k rfl rfl (Nat.le_of_ble_eq_true rfl) ⟨by decide, by decide⟩ ⟨rfl, rfl⟩ ⟨Nat.le_of_ble_eq_true rfl, Nat.le_of_ble_eq_true rfl⟩ (k_X9_isUnruled o x) ?_
    refine r_if_ne (tgt := 22) (dk kX9_isGranted 3 rfl) (by decide) (fun c5 => ?_) (fun c5 => absurd (by rw [e1]; decide) c5)
    refine r_iconst (v := 0) (dk kX9_isGranted 12 rfl) (by decide) ?_
    refine r_ireturn (dk kX9_isGranted 13 rfl) rfl rfl ⟨Nat.le_of_ble_eq_true rfl, Nat.le_of_ble_eq_true rfl⟩ ⟨by unfold sp_isGranted sp_rul; rw [e], by unfold sp_isGranted sp_rul; rw [e, e1]⟩
  · have e1 : bI (¬ (0 ≤ nI k ∧ nI k ≤ mi M (h + 1) 5 - 1)) = 0 := bI_f (by rw [hS]; exact fun z => z hb)
    refine r_aload_n (dk kX9_isGranted 0 rfl) rfl ?_
    refine r_iload_n (dk kX9_isGranted 1 rfl) rfl ?_
    refine r_callVp (I' := IX9_isUnruled) (as := [_]) (dk kX9_isGranted 2 rfl) mv_X9_isUnruled ml_X9_152 rfl rfl o.k rfl rfl (Nat.le_of_ble_eq_true rfl) ⟨by decide, by decide⟩ ⟨rfl, rfl⟩ ⟨Nat.le_of_ble_eq_true rfl, Nat.le_of_ble_eq_true rfl⟩ (k_X9_isUnruled o _) ?_
    refine r_if_ne (tgt := 22) (dk kX9_isGranted 3 rfl) (by decide) (fun c5 => absurd c5 (by rw [e1]; exact fun z => z rfl)) (fun c5 => ?_)
    -- at 8
    rw [e1]
    refine r_aload_n (dk kX9_isGranted 4 rfl) rfl ?_
    refine r_iload_n (dk kX9_isGranted 5 rfl) rfl ?_
    refine r_iconst (v := 0) (dk kX9_isGranted 6 rfl) (by decide) ?_
    refine r_callVp (I' := IX9_by) (as := [_, _]) (dk kX9_isGranted 7 rfl) mv_X9_by ml_X9_146 rfl rfl o.k rfl rfl (Nat.le_of_ble_eq_true rfl) ⟨by decide, by decide⟩ ⟨rfl, rfl⟩ ⟨Nat.le_of_ble_eq_true rfl, Nat.le_of_ble_eq_true rfl⟩ (k_X9_by0 (o.fl _) (p := k) (by omega)) ?_
    refine r_iconst (v := 1) (dk kX9_isGranted 8 rfl) (by decide) ?_
    -- at 15
    rw [mf1]
    refine r_icmp_ne (tgt := 22) (dk kX9_isGranted 9 rfl) (by decide) (fun c15 => ?_) (fun c15 => ?_)
    · refine r_iconst (v := 0) (dk kX9_isGranted 12 rfl) (by decide) ?_
      refine r_ireturn (dk kX9_isGranted 13 rfl) rfl rfl ⟨Nat.le_of_ble_eq_true rfl, Nat.le_of_ble_eq_true rfl⟩ ⟨by unfold sp_isGranted sp_rul; rw [e]; exact (bI_f c15).symm, by unfold sp_isGranted sp_rul; rw [e]⟩
    · refine r_iconst (v := 1) (dk kX9_isGranted 10 rfl) (by decide) ?_
      refine r_goto (tgt := 23) (dk kX9_isGranted 11 rfl) (by decide) ?_
      refine r_ireturn (dk kX9_isGranted 13 rfl) rfl rfl ⟨Nat.le_of_ble_eq_true rfl, Nat.le_of_ble_eq_true rfl⟩ ⟨by unfold sp_isGranted sp_rul; rw [e]; exact (bI_t (Decidable.not_not.mp c15)).symm, by unfold sp_isGranted sp_rul; rw [e]⟩
theorem k_X9_isCarriedOut (o : MO M h) {F : Nat} (gi : GI F (mi M (h + 1))) (x : Int32) : KE G IX9_isCarriedOut [.ref h, .int x] M (sp_isCarriedOut (mi M (h + 1)) x).2 (mFail M h (sp_isCarriedOut (mi M (h + 1)) x).1) := by
  refine KK.ofW (by decide) (by simp [Value.category]) (Nat.le_of_ble_eq_true rfl) rfl ?_
  show WW _ _ _ 0 [_, _] [] _ _ _
  have gf : ∀ p, GI F (mi (mFail M h p) (h + 1)) := fun p => by rw [mf1]; exact gi
  obtain ⟨hS, hS2⟩ := gi.r
  rcases ixo_c (n := gn (mi M (h + 1)) 5) (by omega) x with ⟨e, hb⟩ | ⟨k, hk, rfl, e, hb⟩
  · have e1 : bI (¬ (0 ≤ x ∧ x ≤ mi M (h + 1) 5 - 1)) = 1 := bI_t (by rw [hS]; exact hb)
    refine r_aload_n (dk kX9_isCarriedOut 0 rfl) rfl ?_
    refine r_iload_n (dk kX9_isCarriedOut 1 rfl) rfl ?_
    refine r_callVp (I' := IX9_isUnruled) (as := [_]) (dk kX9_isCarriedOut 2 rfl) mv_X9_isUnruled ml_X9_152 rfl rfl o.k rfl rfl (Nat.le_of_ble_eq_true rfl) ⟨by decide, by decide⟩ ⟨rfl, rfl⟩ ⟨Nat.le_of_ble_eq_true rfl, Nat.le_of_ble_eq_true rfl⟩ (k_X9_isUnruled o x) ?_
    refine r_if_ne (tgt := 22) (dk kX9_isCarriedOut 3 rfl) (by decide) (fun c5 => ?_) (fun c5 => absurd (by rw [e1]; decide) c5)
    refine r_iconst (v := 0) (dk kX9_isCarriedOut 12 rfl) (by decide) ?_
    refine r_ireturn (dk kX9_isCarriedOut 13 rfl) rfl rfl ⟨Nat.le_of_ble_eq_true rfl, Nat.le_of_ble_eq_true rfl⟩ ⟨by unfold sp_isCarriedOut sp_rul; rw [e], by unfold sp_isCarriedOut sp_rul; rw [e, e1]⟩
  · have e1 : bI (¬ (0 ≤ nI k ∧ nI k ≤ mi M (h + 1) 5 - 1)) = 0 := bI_f (by rw [hS]; exact fun z => z hb)
    refine r_aload_n (dk kX9_isCarriedOut 0 rfl) rfl ?_
    refine r_iload_n (dk kX9_isCarriedOut 1 rfl) rfl ?_
    refine r_callVp (I' := IX9_isUnruled) (as := [_]) (dk kX9_isCarriedOut 2 rfl) mv_X9_isUnruled ml_X9_152 rfl rfl o.k rfl rfl (Nat.le_of_ble_eq_true rfl) ⟨by decide, by decide⟩ ⟨rfl, rfl⟩ ⟨Nat.le_of_ble_eq_true rfl, Nat.le_of_ble_eq_true rfl⟩ (k_X9_isUnruled o _) ?_
    refine r_if_ne (tgt := 22) (dk kX9_isCarriedOut 3 rfl) (by decide) (fun c5 => absurd c5 (by rw [e1]; exact fun z => z rfl)) (fun c5 => ?_)
    -- at 8
    rw [e1]
    refine r_aload_n (dk kX9_isCarriedOut 4 rfl) rfl ?_
    refine r_iload_n (dk kX9_isCarriedOut 5 rfl) rfl ?_
    refine r_iconst (v := 1) (dk kX9_isCarriedOut 6 rfl) (by decide) ?_
    refine r_callVp (I' := IX9_by) (as := [_, _]) (dk kX9_isCarriedOut 7 rfl) mv_X9_by ml_X9_146 rfl rfl o.k rfl rfl (Nat.le_of_ble_eq_true rfl) ⟨by decide, by decide⟩ ⟨rfl, rfl⟩ ⟨Nat.le_of_ble_eq_true rfl, Nat.le_of_ble_eq_true rfl⟩ (k_X9_by (o.fl _) (p := k) (w := 1) rfl (by omega) (by decide)) ?_
    refine r_iconst (v := 1) (dk kX9_isCarriedOut 8 rfl) (by decide) ?_
    -- at 15
    rw [mf1]
    refine r_icmp_ne (tgt := 22) (dk kX9_isCarriedOut 9 rfl) (by decide) (fun c15 => ?_) (fun c15 => ?_)
    · refine r_iconst (v := 0) (dk kX9_isCarriedOut 12 rfl) (by decide) ?_
      refine r_ireturn (dk kX9_isCarriedOut 13 rfl) rfl rfl ⟨Nat.le_of_ble_eq_true rfl, Nat.le_of_ble_eq_true rfl⟩ ⟨by unfold sp_isCarriedOut sp_rul; rw [e]; exact (bI_f c15).symm, by unfold sp_isCarriedOut sp_rul; rw [e]⟩
    · refine r_iconst (v := 1) (dk kX9_isCarriedOut 10 rfl) (by decide) ?_
      refine r_goto (tgt := 23) (dk kX9_isCarriedOut 11 rfl) (by decide) ?_
      refine r_ireturn (dk kX9_isCarriedOut 13 rfl) rfl rfl ⟨Nat.le_of_ble_eq_true rfl, Nat.le_of_ble_eq_true rfl⟩ ⟨by unfold sp_isCarriedOut sp_rul; rw [e]; exact (bI_t (Decidable.not_not.mp c15)).symm, by unfold sp_isCarriedOut sp_rul; rw [e]⟩
theorem k_X9_citationCount (o : MO M h) {F : Nat} (gi : GI F (mi M (h + 1))) (x : Int32) : KE G IX9_citationCount [.ref h, .int x] M (sp_citationCount (mi M (h + 1)) x).2 (mFail M h (sp_citationCount (mi M (h + 1)) x).1) := by
  refine KK.ofW (by decide) (by simp [Value.category]) (Nat.le_of_ble_eq_true rfl) rfl ?_
  show WW _ _ _ 0 [_, _] [] _ _ _
  have gf : ∀ p, GI F (mi (mFail M h p) (h + 1)) := fun p => by rw [mf1]; exact gi
  obtain ⟨hS, hS2⟩ := gi.r
  rcases ixo_c (n := gn (mi M (h + 1)) 5) (by omega) x with ⟨e, hb⟩ | ⟨k, hk, rfl, e, hb⟩
  · have e1 : bI (¬ (0 ≤ x ∧ x ≤ mi M (h + 1) 5 - 1)) = 1 := bI_t (by rw [hS]; exact hb)
    refine r_aload_n (dk kX9_citationCount 0 rfl) rfl ?_
    refine r_iload_n (dk kX9_citationCount 1 rfl) rfl ?_
    refine r_callVp (I' := IX9_isUnruled) (as := [_]) (dk kX9_citationCount 2 rfl) mv_X9_isUnruled ml_X9_152 rfl rfl o.k rfl rfl (Nat.le_of_ble_eq_true rfl) ⟨by decide, by decide⟩ ⟨rfl, rfl⟩ ⟨Nat.le_of_ble_eq_true rfl, Nat.le_of_ble_eq_true rfl⟩ (k_X9_isUnruled o x) ?_
    refine r_if_eq (tgt := 12) (dk kX9_citationCount 3 rfl) (by decide) (fun c5 => absurd c5 (by rw [e1]; decide)) (fun c5 => ?_)
    refine r_iconst (v := 0) (dk kX9_citationCount 4 rfl) (by decide) ?_
    refine r_goto (tgt := 18) (dk kX9_citationCount 5 rfl) (by decide) ?_
    refine r_ireturn (dk kX9_citationCount 10 rfl) rfl rfl ⟨Nat.le_of_ble_eq_true rfl, Nat.le_of_ble_eq_true rfl⟩ ⟨by unfold sp_citationCount sp_rul; rw [e], by unfold sp_citationCount sp_rul; rw [e, e1]⟩
  · have e1 : bI (¬ (0 ≤ nI k ∧ nI k ≤ mi M (h + 1) 5 - 1)) = 0 := bI_f (by rw [hS]; exact fun z => z hb)
    refine r_aload_n (dk kX9_citationCount 0 rfl) rfl ?_
    refine r_iload_n (dk kX9_citationCount 1 rfl) rfl ?_
    refine r_callVp (I' := IX9_isUnruled) (as := [_]) (dk kX9_citationCount 2 rfl) mv_X9_isUnruled ml_X9_152 rfl rfl o.k rfl rfl (Nat.le_of_ble_eq_true rfl) ⟨by decide, by decide⟩ ⟨rfl, rfl⟩ ⟨Nat.le_of_ble_eq_true rfl, Nat.le_of_ble_eq_true rfl⟩ (k_X9_isUnruled o _) ?_
    refine r_if_eq (tgt := 12) (dk kX9_citationCount 3 rfl) (by decide) (fun c5 => ?_) (fun c5 => absurd (by rw [e1]) c5)
    -- at 12
    rw [e1]
    refine r_aload_n (dk kX9_citationCount 6 rfl) rfl ?_
    refine r_iload_n (dk kX9_citationCount 7 rfl) rfl ?_
    refine r_iconst (v := 2) (dk kX9_citationCount 8 rfl) (by decide) ?_
    refine r_callVp (I' := IX9_by) (as := [_, _]) (dk kX9_citationCount 9 rfl) mv_X9_by ml_X9_146 rfl rfl o.k rfl rfl (Nat.le_of_ble_eq_true rfl) ⟨by decide, by decide⟩ ⟨rfl, rfl⟩ ⟨Nat.le_of_ble_eq_true rfl, Nat.le_of_ble_eq_true rfl⟩ (k_X9_by (o.fl _) (p := k) (w := 2) rfl (by omega) (by decide)) ?_
    refine r_ireturn (dk kX9_citationCount 10 rfl) rfl rfl ⟨Nat.le_of_ble_eq_true rfl, Nat.le_of_ble_eq_true rfl⟩ ⟨by unfold sp_citationCount sp_rul; rw [e, mf1], by unfold sp_citationCount sp_rul; rw [e]⟩
theorem k_X9_influence (o : MO M h) {F : Nat} (gi : GI F (mi M (h + 1))) (x : Int32) : KE G IX9_influence [.ref h, .int x] M (sp_influence (mi M (h + 1)) x).2 (mFail M h (sp_influence (mi M (h + 1)) x).1) := by
  refine KK.ofW (by decide) (by simp [Value.category]) (Nat.le_of_ble_eq_true rfl) rfl ?_
  show WW _ _ _ 0 [_, _] [] _ _ _
  have gf : ∀ p, GI F (mi (mFail M h p) (h + 1)) := fun p => by rw [mf1]; exact gi
  obtain ⟨hS, hS2⟩ := gi.r
  rcases ixo_c (n := gn (mi M (h + 1)) 5) (by omega) x with ⟨e, hb⟩ | ⟨k, hk, rfl, e, hb⟩
  · have e1 : bI (¬ (0 ≤ x ∧ x ≤ mi M (h + 1) 5 - 1)) = 1 := bI_t (by rw [hS]; exact hb)
    refine r_aload_n (dk kX9_influence 0 rfl) rfl ?_
    refine r_iload_n (dk kX9_influence 1 rfl) rfl ?_
    refine r_callVp (I' := IX9_isUnruled) (as := [_]) (dk kX9_influence 2 rfl) mv_X9_isUnruled ml_X9_152 rfl rfl o.k rfl rfl (Nat.le_of_ble_eq_true rfl) ⟨by decide, by decide⟩ ⟨rfl, rfl⟩ ⟨Nat.le_of_ble_eq_true rfl, Nat.le_of_ble_eq_true rfl⟩ (k_X9_isUnruled o x) ?_
    refine r_if_eq (tgt := 12) (dk kX9_influence 3 rfl) (by decide) (fun c5 => absurd c5 (by rw [e1]; decide)) (fun c5 => ?_)
    refine r_iconst (v := 0) (dk kX9_influence 4 rfl) (by decide) ?_
    refine r_goto (tgt := 17) (dk kX9_influence 5 rfl) (by decide) ?_
    refine r_ireturn (dk kX9_influence 9 rfl) rfl rfl ⟨Nat.le_of_ble_eq_true rfl, Nat.le_of_ble_eq_true rfl⟩ ⟨by unfold sp_influence sp_rul; rw [e], by unfold sp_influence sp_rul; rw [e, e1]⟩
  · have e1 : bI (¬ (0 ≤ nI k ∧ nI k ≤ mi M (h + 1) 5 - 1)) = 0 := bI_f (by rw [hS]; exact fun z => z hb)
    refine r_aload_n (dk kX9_influence 0 rfl) rfl ?_
    refine r_iload_n (dk kX9_influence 1 rfl) rfl ?_
    refine r_callVp (I' := IX9_isUnruled) (as := [_]) (dk kX9_influence 2 rfl) mv_X9_isUnruled ml_X9_152 rfl rfl o.k rfl rfl (Nat.le_of_ble_eq_true rfl) ⟨by decide, by decide⟩ ⟨rfl, rfl⟩ ⟨Nat.le_of_ble_eq_true rfl, Nat.le_of_ble_eq_true rfl⟩ (k_X9_isUnruled o _) ?_
    refine r_if_eq (tgt := 12) (dk kX9_influence 3 rfl) (by decide) (fun c5 => ?_) (fun c5 => absurd (by rw [e1]) c5)
    -- at 12
    rw [e1]
    refine r_aload_n (dk kX9_influence 6 rfl) rfl ?_
    refine r_iload_n (dk kX9_influence 7 rfl) rfl ?_
    refine r_callVp (I' := IX9_reaches) (as := [_]) (dk kX9_influence 8 rfl) mv_X9_reaches ml_X9_161 rfl rfl o.k rfl rfl (Nat.le_of_ble_eq_true rfl) ⟨by decide, by decide⟩ ⟨rfl, rfl⟩ ⟨Nat.le_of_ble_eq_true rfl, Nat.le_of_ble_eq_true rfl⟩ (k_X9_reaches (o.fl _) (gf _) (r := k) (by rw [mf1]; exact hk)) ?_
    refine r_ireturn (dk kX9_influence 9 rfl) rfl rfl ⟨Nat.le_of_ble_eq_true rfl, Nat.le_of_ble_eq_true rfl⟩ ⟨by unfold sp_influence sp_rul; rw [e, mf1], by unfold sp_influence sp_rul; rw [e]⟩
theorem k_X9_influenceByMarking (o : MO M h) {F : Nat} (gi : GI F (mi M (h + 1))) (x : Int32) : KE G IX9_influenceByMarking [.ref h, .int x] M (sp_influence (mi M (h + 1)) x).2 (mFail M h (sp_influence (mi M (h + 1)) x).1) := by
  refine KK.ofW (by decide) (by simp [Value.category]) (Nat.le_of_ble_eq_true rfl) rfl ?_
  show WW _ _ _ 0 [_, _] [] _ _ _
  have gf : ∀ p, GI F (mi (mFail M h p) (h + 1)) := fun p => by rw [mf1]; exact gi
  obtain ⟨hS, hS2⟩ := gi.r
  rcases ixo_c (n := gn (mi M (h + 1)) 5) (by omega) x with ⟨e, hb⟩ | ⟨k, hk, rfl, e, hb⟩
  · have e1 : bI (¬ (0 ≤ x ∧ x ≤ mi M (h + 1) 5 - 1)) = 1 := bI_t (by rw [hS]; exact hb)
    refine r_aload_n (dk kX9_influenceByMarking 0 rfl) rfl ?_
    refine r_iload_n (dk kX9_influenceByMarking 1 rfl) rfl ?_
    refine r_callVp (I' := IX9_isUnruled) (as := [_]) (dk kX9_influenceByMarking 2 rfl) mv_X9_isUnruled ml_X9_152 rfl rfl o.k rfl rfl (Nat.le_of_ble_eq_true rfl) ⟨by decide, by decide⟩ ⟨rfl, rfl⟩ ⟨Nat.le_of_ble_eq_true rfl, Nat.le_of_ble_eq_true rfl⟩ (k_X9_isUnruled o x) ?_
    refine r_if_eq (tgt := 12) (dk kX9_influenceByMarking 3 rfl) (by decide) (fun c5 => absurd c5 (by rw [e1]; decide)) (fun c5 => ?_)
    refine r_iconst (v := 0) (dk kX9_influenceByMarking 4 rfl) (by decide) ?_
    refine r_goto (tgt := 17) (dk kX9_influenceByMarking 5 rfl) (by decide) ?_
    refine r_ireturn (dk kX9_influenceByMarking 9 rfl) rfl rfl ⟨Nat.le_of_ble_eq_true rfl, Nat.le_of_ble_eq_true rfl⟩ ⟨by unfold sp_influence sp_rul; rw [e], by unfold sp_influence sp_rul; rw [e, e1]⟩
  · have e1 : bI (¬ (0 ≤ nI k ∧ nI k ≤ mi M (h + 1) 5 - 1)) = 0 := bI_f (by rw [hS]; exact fun z => z hb)
    refine r_aload_n (dk kX9_influenceByMarking 0 rfl) rfl ?_
    refine r_iload_n (dk kX9_influenceByMarking 1 rfl) rfl ?_
    refine r_callVp (I' := IX9_isUnruled) (as := [_]) (dk kX9_influenceByMarking 2 rfl) mv_X9_isUnruled ml_X9_152 rfl rfl o.k rfl rfl (Nat.le_of_ble_eq_true rfl) ⟨by decide, by decide⟩ ⟨rfl, rfl⟩ ⟨Nat.le_of_ble_eq_true rfl, Nat.le_of_ble_eq_true rfl⟩ (k_X9_isUnruled o _) ?_
    refine r_if_eq (tgt := 12) (dk kX9_influenceByMarking 3 rfl) (by decide) (fun c5 => ?_) (fun c5 => absurd (by rw [e1]) c5)
    -- at 12
    rw [e1]
    refine r_aload_n (dk kX9_influenceByMarking 6 rfl) rfl ?_
    refine r_iload_n (dk kX9_influenceByMarking 7 rfl) rfl ?_
    refine r_callVp (I' := IX9_reaches) (as := [_]) (dk kX9_influenceByMarking 8 rfl) mv_X9_reaches ml_X9_161 rfl rfl o.k rfl rfl (Nat.le_of_ble_eq_true rfl) ⟨by decide, by decide⟩ ⟨rfl, rfl⟩ ⟨Nat.le_of_ble_eq_true rfl, Nat.le_of_ble_eq_true rfl⟩ (k_X9_reaches (o.fl _) (gf _) (r := k) (by rw [mf1]; exact hk)) ?_
    refine r_ireturn (dk kX9_influenceByMarking 9 rfl) rfl rfl ⟨Nat.le_of_ble_eq_true rfl, Nat.le_of_ble_eq_true rfl⟩ ⟨by unfold sp_influence sp_rul; rw [e, mf1], by unfold sp_influence sp_rul; rw [e]⟩
theorem k_X9_citedBy (o : MO M h) {F : Nat} (gi : GI F (mi M (h + 1))) (x : Int32) : KE G IX9_citedBy [.ref h, .int x] M (sp_citedBy (mi M (h + 1)) x).2 (mFail M h (sp_citedBy (mi M (h + 1)) x).1) := by
  refine KK.ofW (by decide) (by simp [Value.category]) (Nat.le_of_ble_eq_true rfl) rfl ?_
  show WW _ _ _ 0 [_, _, lj, lj] [] _ _ _
  have gf : ∀ p, GI F (mi (mFail M h p) (h + 1)) := fun p => by rw [mf1]; exact gi
  obtain ⟨hS, hS2⟩ := gi.r
  rcases ixo_c (n := gn (mi M (h + 1)) 5) (by omega) x with ⟨e, hb⟩ | ⟨k, hk, rfl, e, hb⟩
  · have e1 : bI (¬ (0 ≤ x ∧ x ≤ mi M (h + 1) 5 - 1)) = 1 := bI_t (by rw [hS]; exact hb)
    refine r_aload_n (dk kX9_citedBy 0 rfl) rfl ?_
    refine r_iload_n (dk kX9_citedBy 1 rfl) rfl ?_
    refine r_callVp (I' := IX9_isUnruled) (as := [_]) (dk kX9_citedBy 2 rfl) mv_X9_isUnruled ml_X9_152 rfl rfl o.k rfl rfl (Nat.le_of_ble_eq_true rfl) ⟨by decide, by decide⟩ ⟨rfl, rfl⟩ ⟨Nat.le_of_ble_eq_true rfl, Nat.le_of_ble_eq_true rfl⟩ (k_X9_isUnruled o x) ?_
    refine r_if_eq (tgt := 10) (dk kX9_citedBy 3 rfl) (by decide) (fun c5 => absurd c5 (by rw [e1]; decide)) (fun c5 => ?_)
    refine r_iconst (v := 0) (dk kX9_citedBy 4 rfl) (by decide) ?_
    refine r_ireturn (dk kX9_citedBy 5 rfl) rfl rfl ⟨Nat.le_of_ble_eq_true rfl, Nat.le_of_ble_eq_true rfl⟩ ⟨by unfold sp_citedBy sp_rul; rw [e], by unfold sp_citedBy sp_rul; rw [e, e1]⟩
  · have e1 : bI (¬ (0 ≤ nI k ∧ nI k ≤ mi M (h + 1) 5 - 1)) = 0 := bI_f (by rw [hS]; exact fun z => z hb)
    refine r_aload_n (dk kX9_citedBy 0 rfl) rfl ?_
    refine r_iload_n (dk kX9_citedBy 1 rfl) rfl ?_
    refine r_callVp (I' := IX9_isUnruled) (as := [_]) (dk kX9_citedBy 2 rfl) mv_X9_isUnruled ml_X9_152 rfl rfl o.k rfl rfl (Nat.le_of_ble_eq_true rfl) ⟨by decide, by decide⟩ ⟨rfl, rfl⟩ ⟨Nat.le_of_ble_eq_true rfl, Nat.le_of_ble_eq_true rfl⟩ (k_X9_isUnruled o _) ?_
    refine r_if_eq (tgt := 10) (dk kX9_citedBy 3 rfl) (by decide) (fun c5 => ?_) (fun c5 => absurd (by rw [e1]) c5)
    -- at 10
    rw [e1]
    rw [show (sp_citedBy (mi M (h + 1)) (nI k)).2 = nI (ct (fun i => gNames (mi M (h + 1)) i (nI k)) (gn (mi M (h + 1)) 5)) by unfold sp_citedBy sp_rul; rw [e], show (sp_citedBy (mi M (h + 1)) (nI k)).1 = 0 by unfold sp_citedBy sp_rul; rw [e]]
    have e2 := mf1 M h 0
    refine r_iconst (v := 0) (dk kX9_citedBy 6 rfl) (by decide) ?_
    refine r_istore_n (j := 2) (dk kX9_citedBy 7 rfl) rfl (by decide) rfl ?_
    simp only [List.set_cons_succ, List.set_cons_zero]
    refine r_iconst (v := 0) (dk kX9_citedBy 8 rfl) (by decide) ?_
    refine r_istore_n (j := 3) (dk kX9_citedBy 9 rfl) rfl (by decide) rfl ?_
    simp only [List.set_cons_succ, List.set_cons_zero]
    -- at 14
    suffices key : ∀ d j, j + d = gn (mi M (h + 1)) 5 → WW G IX9_citedBy (qi (fun y M' => y = nI (ct (fun i => gNames (mi M (h + 1)) i (nI k)) (gn (mi M (h + 1)) 5)) ∧ M' = mFail M h 0) nox) 14 [.ref h, .int (nI k), .int (nI (ct (fun i => gNames (mi M (h + 1)) i (nI k)) j)), .int (nI j)] [] (mFail M h 0) 0 0 from key _ 0 (Nat.zero_add _)
    intro d
    induction d with
    | zero =>
      intro j hj
      refine r_iload_n (dk kX9_citedBy 10 rfl) rfl ?_
      refine r_aload_n (dk kX9_citedBy 11 rfl) rfl ?_
      refine r_getR (dk kX9_citedBy 12 rfl) fa_X9_7_8 o.k rfl (o.fl _).r0 ?_
      refine r_iconst (v := 5) (dk kX9_citedBy 13 rfl) (by decide) ?_
      refine r_ial (dk kX9_citedBy 14 rfl) (o.fl _).k1 (o.fl _).l1 (j := 5) rfl (by decide) (by decide) ?_
      refine r_icmp_ge (tgt := 47) (dk kX9_citedBy 15 rfl) (by decide) (fun c21 => ?_) (fun c21 => absurd (by rw [e2, hS]; exact nI_le (by omega) (by omega)) c21)
      refine r_iload_n (dk kX9_citedBy 29 rfl) rfl ?_
      refine r_ireturn (dk kX9_citedBy 30 rfl) rfl rfl ⟨Nat.le_of_ble_eq_true rfl, Nat.le_of_ble_eq_true rfl⟩ ⟨by rw [show j = gn (mi M (h + 1)) 5 from hj], rfl⟩
    | succ d ih =>
      intro j hj
      refine r_iload_n (dk kX9_citedBy 10 rfl) rfl ?_
      refine r_aload_n (dk kX9_citedBy 11 rfl) rfl ?_
      refine r_getR (dk kX9_citedBy 12 rfl) fa_X9_7_8 o.k rfl (o.fl _).r0 ?_
      refine r_iconst (v := 5) (dk kX9_citedBy 13 rfl) (by decide) ?_
      refine r_ial (dk kX9_citedBy 14 rfl) (o.fl _).k1 (o.fl _).l1 (j := 5) rfl (by decide) (by decide) ?_
      refine r_icmp_ge (tgt := 47) (dk kX9_citedBy 15 rfl) (by decide) (fun c21 => absurd c21 (by rw [e2, hS]; exact nI_ge (by omega) (by omega))) (fun c21 => ?_)
      refine r_iload_n (dk kX9_citedBy 16 rfl) rfl ?_
      refine r_aload_n (dk kX9_citedBy 17 rfl) rfl ?_
      refine r_iload_n (dk kX9_citedBy 18 rfl) rfl ?_
      refine r_iload_n (dk kX9_citedBy 19 rfl) rfl ?_
      refine r_callVp (I' := IX9_names) (as := [_, _]) (dk kX9_citedBy 20 rfl) mv_X9_names ml_X9_155 rfl rfl o.k rfl rfl (Nat.le_of_ble_eq_true rfl) ⟨by decide, by decide⟩ ⟨rfl, rfl⟩ ⟨Nat.le_of_ble_eq_true rfl, Nat.le_of_ble_eq_true rfl⟩ (k_X9_names (o.fl _) (gf _) (r := j) (by rw [e2]; omega) (nI k)) ?_
      -- at 31
      rw [e2]
      have hst : ct (fun i => gNames (mi M (h + 1)) i (nI k)) (j + 1) = ct (fun i => gNames (mi M (h + 1)) i (nI k)) j + (if gNames (mi M (h + 1)) j (nI k) = true then 1 else 0) := rfl
      refine r_if_eq (tgt := 38) (dk kX9_citedBy 21 rfl) (by decide) (fun c31 => ?_) (fun c31 => ?_)
      · refine r_iconst (v := 0) (dk kX9_citedBy 24 rfl) (by decide) ?_
        refine r_iadd (dk kX9_citedBy 25 rfl) ?_
        refine r_istore_n (j := 2) (dk kX9_citedBy 26 rfl) rfl (by decide) rfl ?_
        simp only [List.set_cons_succ, List.set_cons_zero]
        refine r_iinc (dk kX9_citedBy 27 rfl) (by decide) rfl rfl rfl ?_
        simp only [List.set_cons_succ, List.set_cons_zero]
        refine r_goto (tgt := 14) (dk kX9_citedBy 28 rfl) (by decide) ?_
        -- at 14
        rw [if_neg (bI_0.mp c31)] at hst
        rw [show nI j + Int32.ofInt 1 = nI (j + 1) from nI_1 j, show ∀ x : Int32, x + 0 = x from Int32.add_zero]
        have h9 := ih (j + 1) (by omega)
        rw [hst] at h9
        exact h9
      · refine r_iconst (v := 1) (dk kX9_citedBy 22 rfl) (by decide) ?_
        refine r_goto (tgt := 39) (dk kX9_citedBy 23 rfl) (by decide) ?_
        refine r_iadd (dk kX9_citedBy 25 rfl) ?_
        refine r_istore_n (j := 2) (dk kX9_citedBy 26 rfl) rfl (by decide) rfl ?_
        simp only [List.set_cons_succ, List.set_cons_zero]
        refine r_iinc (dk kX9_citedBy 27 rfl) (by decide) rfl rfl rfl ?_
        simp only [List.set_cons_succ, List.set_cons_zero]
        refine r_goto (tgt := 14) (dk kX9_citedBy 28 rfl) (by decide) ?_
        -- at 14
        rw [if_pos (bI_1.mp c31)] at hst
        rw [show nI j + Int32.ofInt 1 = nI (j + 1) from nI_1 j, nI_1]
        have h9 := ih (j + 1) (by omega)
        rw [hst] at h9
        exact h9
theorem k_X9_citation (o : MO M h) {F : Nat} (gi : GI F (mi M (h + 1))) (x y : Int32) : KE G IX9_citation [.ref h, .int x, .int y] M (sp_citation (mi M (h + 1)) x y).2 (mFail M h (sp_citation (mi M (h + 1)) x y).1) := by
  refine KK.ofW (by decide) (by simp [Value.category]) (Nat.le_of_ble_eq_true rfl) rfl ?_
  show WW _ _ _ 0 [_, _, _] [] _ _ _
  obtain ⟨hS, hS2⟩ := gi.r
  rcases ixo_c (n := gn (mi M (h + 1)) 5) (by omega) x with ⟨e, hb⟩ | ⟨k, hk, rfl, e, hb⟩
  · refine r_aload_n (dk kX9_citation 0 rfl) rfl ?_
    refine r_aload_n (dk kX9_citation 1 rfl) rfl ?_
    refine r_iload_n (dk kX9_citation 2 rfl) rfl ?_
    refine r_callVp (I' := IX9_isRuling) (as := [_]) (dk kX9_citation 3 rfl) mv_X9_isRuling ml_X9_126 rfl rfl o.k rfl rfl (Nat.le_of_ble_eq_true rfl) ⟨by decide, by decide⟩ ⟨rfl, rfl⟩ ⟨Nat.le_of_ble_eq_true rfl, Nat.le_of_ble_eq_true rfl⟩ (k_X9_isRuling o x) ?_
    refine r_if_ne (tgt := 13) (dk kX9_citation 4 rfl) (by decide) (fun c6 => absurd c6 (by rw [hS, bI_f hb]; exact fun z => z rfl)) (fun c6 => ?_)
    refine r_iconst (v := 1) (dk kX9_citation 5 rfl) (by decide) ?_
    refine r_goto (tgt := 34) (dk kX9_citation 6 rfl) (by decide) ?_
    refine r_callVp (I' := IX9_fails) (as := [_]) (dk kX9_citation 20 rfl) mv_X9_fails ml_X9_80 rfl rfl o.k rfl rfl (Nat.le_of_ble_eq_true rfl) ⟨by decide, by decide⟩ ⟨rfl, rfl⟩ ⟨Nat.le_of_ble_eq_true rfl, Nat.le_of_ble_eq_true rfl⟩ (k_X9_fails o _) ?_
    refine r_if_eq (tgt := 44) (dk kX9_citation 21 rfl) (by decide) (fun c37 => absurd c37 (by decide)) (fun c37 => ?_)
    refine r_iconst (v := 0) (dk kX9_citation 22 rfl) (by decide) ?_
    refine r_goto (tgt := 52) (dk kX9_citation 23 rfl) (by decide) ?_
    refine r_ireturn (dk kX9_citation 30 rfl) rfl rfl ⟨Nat.le_of_ble_eq_true rfl, Nat.le_of_ble_eq_true rfl⟩ ⟨by unfold sp_citation; rw [e], by unfold sp_citation; rw [e]⟩
  · obtain ⟨-, -, ⟨y1, y2⟩, -⟩ := gi.ri hk
    refine r_aload_n (dk kX9_citation 0 rfl) rfl ?_
    refine r_aload_n (dk kX9_citation 1 rfl) rfl ?_
    refine r_iload_n (dk kX9_citation 2 rfl) rfl ?_
    refine r_callVp (I' := IX9_isRuling) (as := [_]) (dk kX9_citation 3 rfl) mv_X9_isRuling ml_X9_126 rfl rfl o.k rfl rfl (Nat.le_of_ble_eq_true rfl) ⟨by decide, by decide⟩ ⟨rfl, rfl⟩ ⟨Nat.le_of_ble_eq_true rfl, Nat.le_of_ble_eq_true rfl⟩ (k_X9_isRuling o _) ?_
    refine r_if_ne (tgt := 13) (dk kX9_citation 4 rfl) (by decide) (fun c6 => ?_) (fun c6 => absurd (by rw [hS, bI_t hb]; decide) c6)
    refine r_iload_n (dk kX9_citation 7 rfl) rfl ?_
    refine r_iconst (v := 0) (dk kX9_citation 8 rfl) (by decide) ?_
    refine r_aload_n (dk kX9_citation 9 rfl) rfl ?_
    refine r_iload_n (dk kX9_citation 10 rfl) rfl ?_
    refine r_iconst (v := 2) (dk kX9_citation 11 rfl) (by decide) ?_
    refine r_callVp (I' := IX9_by) (as := [_, _]) (dk kX9_citation 12 rfl) mv_X9_by ml_X9_146 rfl rfl o.k rfl rfl (Nat.le_of_ble_eq_true rfl) ⟨by decide, by decide⟩ ⟨rfl, rfl⟩ ⟨Nat.le_of_ble_eq_true rfl, Nat.le_of_ble_eq_true rfl⟩ (k_X9_by o (p := k) (w := 2) rfl (by omega) (by decide)) ?_
    -- at 21
    rw [y1]
    rcases ixo_c (n := gn (mi M (h + 1)) (123 + 6 * k + 2)) (by omega) y with ⟨e2, hb2⟩ | ⟨c, hc, rfl, e2, hb2⟩
    · refine r_iconst (v := 1) (dk kX9_citation 13 rfl) (by decide) ?_
      refine r_isub (dk kX9_citation 14 rfl) ?_
      refine r_callSp (I' := IX9_in) (as := [_, _, _]) (dk kX9_citation 15 rfl) ms_X9_in ml_X9_68 rfl rfl rfl (Nat.le_of_ble_eq_true rfl) ⟨by decide, by decide⟩ ⟨rfl, rfl⟩ ⟨Nat.le_of_ble_eq_true rfl, Nat.le_of_ble_eq_true rfl⟩ (k_X9_in _ _ _) ?_
      refine r_if_eq (tgt := 33) (dk kX9_citation 16 rfl) (by decide) (fun c26 => ?_) (fun c26 => absurd (by rw [bI_f hb2]) c26)
      refine r_iconst (v := 2) (dk kX9_citation 19 rfl) (by decide) ?_
      refine r_callVp (I' := IX9_fails) (as := [_]) (dk kX9_citation 20 rfl) mv_X9_fails ml_X9_80 rfl rfl o.k rfl rfl (Nat.le_of_ble_eq_true rfl) ⟨by decide, by decide⟩ ⟨rfl, rfl⟩ ⟨Nat.le_of_ble_eq_true rfl, Nat.le_of_ble_eq_true rfl⟩ (k_X9_fails o _) ?_
      refine r_if_eq (tgt := 44) (dk kX9_citation 21 rfl) (by decide) (fun c37 => absurd c37 (by decide)) (fun c37 => ?_)
      refine r_iconst (v := 0) (dk kX9_citation 22 rfl) (by decide) ?_
      refine r_goto (tgt := 52) (dk kX9_citation 23 rfl) (by decide) ?_
      refine r_ireturn (dk kX9_citation 30 rfl) rfl rfl ⟨Nat.le_of_ble_eq_true rfl, Nat.le_of_ble_eq_true rfl⟩ ⟨by unfold sp_citation; rw [e]; simp only; rw [e2], by unfold sp_citation; rw [e]; simp only; rw [e2]⟩
    · refine r_iconst (v := 1) (dk kX9_citation 13 rfl) (by decide) ?_
      refine r_isub (dk kX9_citation 14 rfl) ?_
      refine r_callSp (I' := IX9_in) (as := [_, _, _]) (dk kX9_citation 15 rfl) ms_X9_in ml_X9_68 rfl rfl rfl (Nat.le_of_ble_eq_true rfl) ⟨by decide, by decide⟩ ⟨rfl, rfl⟩ ⟨Nat.le_of_ble_eq_true rfl, Nat.le_of_ble_eq_true rfl⟩ (k_X9_in _ _ _) ?_
      refine r_if_eq (tgt := 33) (dk kX9_citation 16 rfl) (by decide) (fun c26 => absurd c26 (by rw [bI_t hb2]; decide)) (fun c26 => ?_)
      refine r_iconst (v := 0) (dk kX9_citation 17 rfl) (by decide) ?_
      refine r_goto (tgt := 34) (dk kX9_citation 18 rfl) (by decide) ?_
      refine r_callVp (I' := IX9_fails) (as := [_]) (dk kX9_citation 20 rfl) mv_X9_fails ml_X9_80 rfl rfl o.k rfl rfl (Nat.le_of_ble_eq_true rfl) ⟨by decide, by decide⟩ ⟨rfl, rfl⟩ ⟨Nat.le_of_ble_eq_true rfl, Nat.le_of_ble_eq_true rfl⟩ (k_X9_fails o _) ?_
      refine r_if_eq (tgt := 44) (dk kX9_citation 21 rfl) (by decide) (fun c37 => ?_) (fun c37 => absurd (by decide) c37)
      refine r_aload_n (dk kX9_citation 24 rfl) rfl ?_
      refine r_iload_n (dk kX9_citation 25 rfl) rfl ?_
      refine r_iconst (v := 3) (dk kX9_citation 26 rfl) (by decide) ?_
      refine r_iload_n (dk kX9_citation 27 rfl) rfl ?_
      refine r_iadd (dk kX9_citation 28 rfl) ?_
      refine r_callVp (I' := IX9_by) (as := [_, _]) (dk kX9_citation 29 rfl) mv_X9_by ml_X9_146 rfl rfl o.k rfl rfl (Nat.le_of_ble_eq_true rfl) ⟨by decide, by decide⟩ ⟨rfl, rfl⟩ ⟨Nat.le_of_ble_eq_true rfl, Nat.le_of_ble_eq_true rfl⟩ (k_X9_by (o.fl _) (p := k) (w := 3 + c) (ixd rfl) (by omega) (by omega)) ?_
      refine r_ireturn (dk kX9_citation 30 rfl) rfl rfl ⟨Nat.le_of_ble_eq_true rfl, Nat.le_of_ble_eq_true rfl⟩ ⟨by unfold sp_citation; rw [e]; simp only; rw [e2, mf1, ← Nat.add_assoc (123 + 6 * k) 3 c], by unfold sp_citation; rw [e]; simp only; rw [e2]⟩
theorem k_X9_isBasedOn (o : MO M h) {F : Nat} (gi : GI F (mi M (h + 1))) (x y : Int32) : KE G IX9_isBasedOn [.ref h, .int x, .int y] M (sp_isBasedOn (mi M (h + 1)) x y).2 (mFail M h (sp_isBasedOn (mi M (h + 1)) x y).1) := by
  refine KK.ofW (by decide) (by simp [Value.category]) (Nat.le_of_ble_eq_true rfl) rfl ?_
  show WW _ _ _ 0 [_, _, _] [] _ _ _
  obtain ⟨hS, hS2⟩ := gi.r
  have gf : ∀ p, GI F (mi (mFail M h p) (h + 1)) := fun p => by rw [mf1]; exact gi
  rcases ixo_c (n := gn (mi M (h + 1)) 5) (by omega) x with ⟨e, hb⟩ | ⟨k, hk, rfl, e, hb⟩
  · refine r_aload_n (dk kX9_isBasedOn 0 rfl) rfl ?_
    refine r_aload_n (dk kX9_isBasedOn 1 rfl) rfl ?_
    refine r_iload_n (dk kX9_isBasedOn 2 rfl) rfl ?_
    refine r_callVp (I' := IX9_isRuling) (as := [_]) (dk kX9_isBasedOn 3 rfl) mv_X9_isRuling ml_X9_126 rfl rfl o.k rfl rfl (Nat.le_of_ble_eq_true rfl) ⟨by decide, by decide⟩ ⟨rfl, rfl⟩ ⟨Nat.le_of_ble_eq_true rfl, Nat.le_of_ble_eq_true rfl⟩ (k_X9_isRuling o x) ?_
    refine r_if_eq (tgt := 21) (dk kX9_isBasedOn 4 rfl) (by decide) (fun c6 => ?_) (fun c6 => absurd (by rw [hS, bI_f hb]) c6)
    refine r_iconst (v := 1) (dk kX9_isBasedOn 11 rfl) (by decide) ?_
    refine r_callVp (I' := IX9_fails) (as := [_]) (dk kX9_isBasedOn 12 rfl) mv_X9_fails ml_X9_80 rfl rfl o.k rfl rfl (Nat.le_of_ble_eq_true rfl) ⟨by decide, by decide⟩ ⟨rfl, rfl⟩ ⟨Nat.le_of_ble_eq_true rfl, Nat.le_of_ble_eq_true rfl⟩ (k_X9_fails o _) ?_
    refine r_if_ne (tgt := 45) (dk kX9_isBasedOn 13 rfl) (by decide) (fun c25 => ?_) (fun c25 => absurd (by decide) c25)
    refine r_iconst (v := 0) (dk kX9_isBasedOn 25 rfl) (by decide) ?_
    refine r_ireturn (dk kX9_isBasedOn 26 rfl) rfl rfl ⟨Nat.le_of_ble_eq_true rfl, Nat.le_of_ble_eq_true rfl⟩ ⟨by unfold sp_isBasedOn; rw [e], by unfold sp_isBasedOn; rw [e]⟩
  · refine r_aload_n (dk kX9_isBasedOn 0 rfl) rfl ?_
    refine r_aload_n (dk kX9_isBasedOn 1 rfl) rfl ?_
    refine r_iload_n (dk kX9_isBasedOn 2 rfl) rfl ?_
    refine r_callVp (I' := IX9_isRuling) (as := [_]) (dk kX9_isBasedOn 3 rfl) mv_X9_isRuling ml_X9_126 rfl rfl o.k rfl rfl (Nat.le_of_ble_eq_true rfl) ⟨by decide, by decide⟩ ⟨rfl, rfl⟩ ⟨Nat.le_of_ble_eq_true rfl, Nat.le_of_ble_eq_true rfl⟩ (k_X9_isRuling o _) ?_
    refine r_if_eq (tgt := 21) (dk kX9_isBasedOn 4 rfl) (by decide) (fun c6 => absurd c6 (by rw [hS, bI_t hb]; decide)) (fun c6 => ?_)
    -- at 9
    rcases ixo_c (n := gn (mi M (h + 1)) 5) (by omega) y with ⟨e2, hb2⟩ | ⟨c, hc, rfl, e2, hb2⟩
    · refine r_aload_n (dk kX9_isBasedOn 5 rfl) rfl ?_
      refine r_iload_n (dk kX9_isBasedOn 6 rfl) rfl ?_
      refine r_callVp (I' := IX9_isRuling) (as := [_]) (dk kX9_isBasedOn 7 rfl) mv_X9_isRuling ml_X9_126 rfl rfl o.k rfl rfl (Nat.le_of_ble_eq_true rfl) ⟨by decide, by decide⟩ ⟨rfl, rfl⟩ ⟨Nat.le_of_ble_eq_true rfl, Nat.le_of_ble_eq_true rfl⟩ (k_X9_isRuling o y) ?_
      refine r_if_eq (tgt := 21) (dk kX9_isBasedOn 8 rfl) (by decide) (fun c14 => ?_) (fun c14 => absurd (by rw [hS, bI_f hb2]) c14)
      refine r_iconst (v := 1) (dk kX9_isBasedOn 11 rfl) (by decide) ?_
      refine r_callVp (I' := IX9_fails) (as := [_]) (dk kX9_isBasedOn 12 rfl) mv_X9_fails ml_X9_80 rfl rfl o.k rfl rfl (Nat.le_of_ble_eq_true rfl) ⟨by decide, by decide⟩ ⟨rfl, rfl⟩ ⟨Nat.le_of_ble_eq_true rfl, Nat.le_of_ble_eq_true rfl⟩ (k_X9_fails o _) ?_
      refine r_if_ne (tgt := 45) (dk kX9_isBasedOn 13 rfl) (by decide) (fun c25 => ?_) (fun c25 => absurd (by decide) c25)
      refine r_iconst (v := 0) (dk kX9_isBasedOn 25 rfl) (by decide) ?_
      refine r_ireturn (dk kX9_isBasedOn 26 rfl) rfl rfl ⟨Nat.le_of_ble_eq_true rfl, Nat.le_of_ble_eq_true rfl⟩ ⟨by unfold sp_isBasedOn; rw [e]; simp only; rw [e2], by unfold sp_isBasedOn; rw [e]; simp only; rw [e2]⟩
    · refine r_aload_n (dk kX9_isBasedOn 5 rfl) rfl ?_
      refine r_iload_n (dk kX9_isBasedOn 6 rfl) rfl ?_
      refine r_callVp (I' := IX9_isRuling) (as := [_]) (dk kX9_isBasedOn 7 rfl) mv_X9_isRuling ml_X9_126 rfl rfl o.k rfl rfl (Nat.le_of_ble_eq_true rfl) ⟨by decide, by decide⟩ ⟨rfl, rfl⟩ ⟨Nat.le_of_ble_eq_true rfl, Nat.le_of_ble_eq_true rfl⟩ (k_X9_isRuling o _) ?_
      refine r_if_eq (tgt := 21) (dk kX9_isBasedOn 8 rfl) (by decide) (fun c14 => absurd c14 (by rw [hS, bI_t hb2]; decide)) (fun c14 => ?_)
      refine r_iconst (v := 0) (dk kX9_isBasedOn 9 rfl) (by decide) ?_
      refine r_goto (tgt := 22) (dk kX9_isBasedOn 10 rfl) (by decide) ?_
      refine r_callVp (I' := IX9_fails) (as := [_]) (dk kX9_isBasedOn 12 rfl) mv_X9_fails ml_X9_80 rfl rfl o.k rfl rfl (Nat.le_of_ble_eq_true rfl) ⟨by decide, by decide⟩ ⟨rfl, rfl⟩ ⟨Nat.le_of_ble_eq_true rfl, Nat.le_of_ble_eq_true rfl⟩ (k_X9_fails o _) ?_
      refine r_if_ne (tgt := 45) (dk kX9_isBasedOn 13 rfl) (by decide) (fun c25 => absurd c25 (by decide)) (fun c25 => ?_)
      refine r_aload_n (dk kX9_isBasedOn 14 rfl) rfl ?_
      refine r_iload_n (dk kX9_isBasedOn 15 rfl) rfl ?_
      refine r_callVp (I' := IX9_based) (as := [_]) (dk kX9_isBasedOn 16 rfl) mv_X9_based ml_X9_158 rfl rfl o.k rfl rfl (Nat.le_of_ble_eq_true rfl) ⟨by decide, by decide⟩ ⟨rfl, rfl⟩ ⟨Nat.le_of_ble_eq_true rfl, Nat.le_of_ble_eq_true rfl⟩ (k_X9_based (o.fl _) (gf _) (r := c) (by rw [mf1]; exact hc)) ?_
      -- at 33
      rw [mf1]
      refine r_iload_n (dk kX9_isBasedOn 17 rfl) rfl ?_
      refine r_ishr (dk kX9_isBasedOn 18 rfl) ?_
      refine r_iconst (v := 1) (dk kX9_isBasedOn 19 rfl) (by decide) ?_
      refine r_iand (dk kX9_isBasedOn 20 rfl) ?_
      -- at 37
      rw [bitx _ (show k < 32 by omega), gBm_bt _ (by omega) (by omega)]
      by_cases hq : gBased (mi M (h + 1)) c k = true
      · refine r_iconst (v := 1) (dk kX9_isBasedOn 21 rfl) (by decide) ?_
        refine r_icmp_ne (tgt := 45) (dk kX9_isBasedOn 22 rfl) (by decide) (fun c38 => absurd c38 (by rw [bI_t hq]; exact fun z => z rfl)) (fun c38 => ?_)
        refine r_iconst (v := 1) (dk kX9_isBasedOn 23 rfl) (by decide) ?_
        refine r_goto (tgt := 46) (dk kX9_isBasedOn 24 rfl) (by decide) ?_
        refine r_ireturn (dk kX9_isBasedOn 26 rfl) rfl rfl ⟨Nat.le_of_ble_eq_true rfl, Nat.le_of_ble_eq_true rfl⟩ ⟨by unfold sp_isBasedOn; rw [e]; simp only; rw [e2]; exact (bI_t hq).symm, by unfold sp_isBasedOn; rw [e]; simp only; rw [e2]⟩
      · refine r_iconst (v := 1) (dk kX9_isBasedOn 21 rfl) (by decide) ?_
        refine r_icmp_ne (tgt := 45) (dk kX9_isBasedOn 22 rfl) (by decide) (fun c38 => ?_) (fun c38 => absurd (by rw [bI_f hq]; decide) c38)
        refine r_iconst (v := 0) (dk kX9_isBasedOn 25 rfl) (by decide) ?_
        refine r_ireturn (dk kX9_isBasedOn 26 rfl) rfl rfl ⟨Nat.le_of_ble_eq_true rfl, Nat.le_of_ble_eq_true rfl⟩ ⟨by unfold sp_isBasedOn; rw [e]; simp only; rw [e2]; exact (bI_f hq).symm, by unfold sp_isBasedOn; rw [e]; simp only; rw [e2]⟩
end MODEL
