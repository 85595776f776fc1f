/-! THE CLASS: its questions -/
/-- an answer, or an exception: sp has the place of the throw (0: none) and the answer -/
def QSp (M : Mm) (sp : SPv) (nm : Int32 → String) : QQ := qi (fun y M' => sp.1 = 0 ∧ y = sp.2 ∧ M' = M) (fun E M' => sp.1 ≠ 0 ∧ E = nm sp.1 ∧ ∃ z, M' = sX M z)
def nm1 (_ : Int32) : String := "java/lang/IndexOutOfBoundsException"
def nm2 (_ : Int32) : String := nE
def nm3 (c : Int32) : String := if c = 1 then "java/lang/IndexOutOfBoundsException" else nE
theorem nb_inj {g : Nat → Int32} {x b v : Nat} (h : nb g x b) (hv : v < 2 ^ 31) : g x = nI v ↔ gn g x = v := ⟨fun e => gn_v e hv, fun e => by rw [← e]; exact h.1⟩
section CLASS
variable {G : GG} {M : Mm} {x F : Nat} {g : Nat → Int32} {q : Nat → Nat}
theorem k_X8_stoneCount (o : BO M x) (v : SV M (x + 1) g q) : KP G IX8_stoneCount [.ref x] M (g 0) := by
  refine KK.ofW (by decide) (by simp [Value.category]) (Nat.le_of_ble_eq_true rfl) rfl ?_
  show WW _ _ _ 0 [_] [] _ _ _
  have h := v.1
  refine r_aload_n (dk kX8_stoneCount 0 rfl) rfl ?_
  refine r_getR (dk kX8_stoneCount 1 rfl) fa_X8_12_7 o.k rfl o.r0 ?_
  refine r_geti (dk kX8_stoneCount 2 rfl) fa_X8_66_5 o.s.k rfl ?_
  -- at 7
  rw [show mi M (x + 1) 5 = g 0 from h.1]
  refine r_ireturn (dk kX8_stoneCount 3 rfl) rfl rfl ⟨Nat.le_of_ble_eq_true rfl, Nat.le_of_ble_eq_true rfl⟩ ⟨rfl, rfl⟩
theorem k_X8_officerCount (o : BO M x) (v : SV M (x + 1) g q) : KP G IX8_officerCount [.ref x] M (g 1) := by
  refine KK.ofW (by decide) (by simp [Value.category]) (Nat.le_of_ble_eq_true rfl) rfl ?_
  show WW _ _ _ 0 [_] [] _ _ _
  have h := v.1
  refine r_aload_n (dk kX8_officerCount 0 rfl) rfl ?_
  refine r_getR (dk kX8_officerCount 1 rfl) fa_X8_12_7 o.k rfl o.r0 ?_
  refine r_geti (dk kX8_officerCount 2 rfl) fa_X8_99_5 o.s.k rfl ?_
  -- at 7
  rw [show mi M (x + 1) 6 = g 1 from h.2.1]
  refine r_ireturn (dk kX8_officerCount 3 rfl) rfl rfl ⟨Nat.le_of_ble_eq_true rfl, Nat.le_of_ble_eq_true rfl⟩ ⟨rfl, rfl⟩
theorem k_X8_pendingCount (o : BO M x) (v : SV M (x + 1) g q) : KP G IX8_pendingCount [.ref x] M (g 3) := by
  refine KK.ofW (by decide) (by simp [Value.category]) (Nat.le_of_ble_eq_true rfl) rfl ?_
  show WW _ _ _ 0 [_] [] _ _ _
  have h := v.1
  refine r_aload_n (dk kX8_pendingCount 0 rfl) rfl ?_
  refine r_getR (dk kX8_pendingCount 1 rfl) fa_X8_12_7 o.k rfl o.r0 ?_
  refine r_geti (dk kX8_pendingCount 2 rfl) fa_X8_110_5 o.s.k rfl ?_
  -- at 7
  rw [show mi M (x + 1) 7 = g 3 from h.2.2.1]
  refine r_ireturn (dk kX8_pendingCount 3 rfl) rfl rfl ⟨Nat.le_of_ble_eq_true rfl, Nat.le_of_ble_eq_true rfl⟩ ⟨rfl, rfl⟩
theorem k_X8_quorum (o : BO M x) (v : SV M (x + 1) g q) : KP G IX8_quorum [.ref x] M (g 2) := by
  refine KK.ofW (by decide) (by simp [Value.category]) (Nat.le_of_ble_eq_true rfl) rfl ?_
  show WW _ _ _ 0 [_] [] _ _ _
  have h := v.1
  refine r_aload_n (dk kX8_quorum 0 rfl) rfl ?_
  refine r_getR (dk kX8_quorum 1 rfl) fa_X8_12_7 o.k rfl o.r0 ?_
  refine r_geti (dk kX8_quorum 2 rfl) fa_X8_174_5 o.s.k rfl ?_
  -- at 7
  rw [show mi M (x + 1) 9 = g 2 from h.2.2.2.2.1]
  refine r_ireturn (dk kX8_quorum 3 rfl) rfl rfl ⟨Nat.le_of_ble_eq_true rfl, Nat.le_of_ble_eq_true rfl⟩ ⟨rfl, rfl⟩
theorem k_X8_rulingCount (o : BO M x) (v : SV M (x + 1) g q) : KP G IX8_rulingCount [.ref x] M (g 5) := by
  refine KK.ofW (by decide) (by simp [Value.category]) (Nat.le_of_ble_eq_true rfl) rfl ?_
  show WW _ _ _ 0 [_] [] _ _ _
  have h := v.1
  refine r_aload_n (dk kX8_rulingCount 0 rfl) rfl ?_
  refine r_getR (dk kX8_rulingCount 1 rfl) fa_X8_12_7 o.k rfl o.r0 ?_
  refine r_geti (dk kX8_rulingCount 2 rfl) fa_X8_177_5 o.s.k rfl ?_
  -- at 7
  rw [show mi M (x + 1) 8 = g 5 from h.2.2.2.1]
  refine r_ireturn (dk kX8_rulingCount 3 rfl) rfl rfl ⟨Nat.le_of_ble_eq_true rfl, Nat.le_of_ble_eq_true rfl⟩ ⟨rfl, rfl⟩
theorem k_X8_filedCount (o : BO M x) (v : SV M (x + 1) g q) : KP G IX8_filedCount [.ref x] M (g 4) := by
  refine KK.ofW (by decide) (by simp [Value.category]) (Nat.le_of_ble_eq_true rfl) rfl ?_
  show WW _ _ _ 0 [_] [] _ _ _
  have h := v.1
  refine r_aload_n (dk kX8_filedCount 0 rfl) rfl ?_
  refine r_getR (dk kX8_filedCount 1 rfl) fa_X8_12_7 o.k rfl o.r0 ?_
  refine r_geti (dk kX8_filedCount 2 rfl) fa_X8_221_5 o.s.k rfl ?_
  -- at 7
  rw [show mi M (x + 1) 10 = g 4 from h.2.2.2.2.2.1]
  refine r_ireturn (dk kX8_filedCount 3 rfl) rfl rfl ⟨Nat.le_of_ble_eq_true rfl, Nat.le_of_ble_eq_true rfl⟩ ⟨rfl, rfl⟩
theorem k_X8_vetoes (o : BO M x) (v : SV M (x + 1) g q) : KP G IX8_vetoes [.ref x] M (g 6) := by
  refine KK.ofW (by decide) (by simp [Value.category]) (Nat.le_of_ble_eq_true rfl) rfl ?_
  show WW _ _ _ 0 [_] [] _ _ _
  have h := v.1
  refine r_aload_n (dk kX8_vetoes 0 rfl) rfl ?_
  refine r_getR (dk kX8_vetoes 1 rfl) fa_X8_12_7 o.k rfl o.r0 ?_
  refine r_geti (dk kX8_vetoes 2 rfl) fa_X8_224_5 o.s.k rfl ?_
  -- at 7
  rw [show mi M (x + 1) 11 = g 6 from h.2.2.2.2.2.2.1]
  refine r_ireturn (dk kX8_vetoes 3 rfl) rfl rfl ⟨Nat.le_of_ble_eq_true rfl, Nat.le_of_ble_eq_true rfl⟩ ⟨rfl, rfl⟩
theorem k_X8_withdrawals (o : BO M x) (v : SV M (x + 1) g q) : KP G IX8_withdrawals [.ref x] M (g 7) := by
  refine KK.ofW (by decide) (by simp [Value.category]) (Nat.le_of_ble_eq_true rfl) rfl ?_
  show WW _ _ _ 0 [_] [] _ _ _
  have h := v.1
  refine r_aload_n (dk kX8_withdrawals 0 rfl) rfl ?_
  refine r_getR (dk kX8_withdrawals 1 rfl) fa_X8_12_7 o.k rfl o.r0 ?_
  refine r_geti (dk kX8_withdrawals 2 rfl) fa_X8_227_5 o.s.k rfl ?_
  -- at 7
  rw [show mi M (x + 1) 12 = g 7 from h.2.2.2.2.2.2.2.1]
  refine r_ireturn (dk kX8_withdrawals 3 rfl) rfl rfl ⟨Nat.le_of_ble_eq_true rfl, Nat.le_of_ble_eq_true rfl⟩ ⟨rfl, rfl⟩
theorem k_X8_movedWeight (o : BO M x) (v : SV M (x + 1) g q) : KP G IX8_movedWeight [.ref x] M (g 8) := by
  refine KK.ofW (by decide) (by simp [Value.category]) (Nat.le_of_ble_eq_true rfl) rfl ?_
  show WW _ _ _ 0 [_] [] _ _ _
  have h := v.1
  refine r_aload_n (dk kX8_movedWeight 0 rfl) rfl ?_
  refine r_getR (dk kX8_movedWeight 1 rfl) fa_X8_12_7 o.k rfl o.r0 ?_
  refine r_geti (dk kX8_movedWeight 2 rfl) fa_X8_230_5 o.s.k rfl ?_
  -- at 7
  rw [show mi M (x + 1) 13 = g 8 from h.2.2.2.2.2.2.2.2]
  refine r_ireturn (dk kX8_movedWeight 3 rfl) rfl rfl ⟨Nat.le_of_ble_eq_true rfl, Nat.le_of_ble_eq_true rfl⟩ ⟨rfl, rfl⟩
theorem k_X8_cellOf (o : BO M x) (v : SV M (x + 1) g q) (i : GI F g) (s : Int32) : KK G IX8_cellOf [.ref x, .int s] M (QSp M (sp_cellOf g s) nm1) := by
  refine KK.ofW (by decide) (by simp [Value.category]) (Nat.le_of_ble_eq_true rfl) rfl ?_
  show WW _ _ _ 0 [_, _] [] _ _ _
  have b1 := i.s.2
  have b2 := i.o.2
  refine r_aload_n (dk kX8_cellOf 0 rfl) rfl ?_
  refine r_getR (dk kX8_cellOf 1 rfl) fa_X8_12_7 o.k rfl o.r0 ?_
  refine r_iload_n (dk kX8_cellOf 2 rfl) rfl ?_
  refine r_callVp (I' := IX6_hasStone) (as := [_]) (dk kX8_cellOf 3 rfl) mv_X6_hasStone ml_X8_69 rfl rfl o.s.k rfl rfl (Nat.le_of_ble_eq_true rfl) ⟨by decide, by decide⟩ ⟨rfl, rfl⟩ ⟨Nat.le_of_ble_eq_true rfl, Nat.le_of_ble_eq_true rfl⟩ (k_X6_hasStone o.s.k s) ?_
  -- at 8
  rw [v.c0 i]
  cases e : ixo (gn g 0) s with
  | none =>
    have e0 : sp_cellOf g s = (1, 0) := by unfold sp_cellOf sp_stone; rw [e]
    rw [e0, bI_f (ixo_0 (by omega) e)]
    refine r_if_ne (tgt := 21) (dk kX8_cellOf 4 rfl) (by decide) (fun c8 => absurd c8 (by decide)) (fun c8 => ?_)
    -- at 11
    refine r_throwS xw_73 (is := 75) (List.mem_of_getElem? (i := 21) rfl) rfl rfl (dk kX8_cellOf 5 rfl) (dk kX8_cellOf 6 rfl) (dk kX8_cellOf 7 rfl) (dk kX8_cellOf 8 rfl) (dk kX8_cellOf 9 rfl) ⟨Nat.le_of_ble_eq_true rfl, Nat.le_of_ble_eq_true rfl⟩ ⟨Nat.le_of_ble_eq_true rfl, Nat.le_of_ble_eq_true rfl⟩ (fun z => ?_)
    exact ⟨by decide, rfl, _, rfl⟩
  | some k =>
    obtain ⟨h1, rfl, h2⟩ := ixo_1 (by omega) e
    have e0 : sp_cellOf g (nI k) = (0, g (9 + 2 * k)) := by unfold sp_cellOf sp_stone; rw [e]
    rw [e0, bI_t h2]
    refine r_if_ne (tgt := 21) (dk kX8_cellOf 4 rfl) (by decide) (fun c8 => ?_) (fun c8 => absurd (by decide) c8)
    refine r_aload_n (dk kX8_cellOf 10 rfl) rfl ?_
    refine r_getR (dk kX8_cellOf 11 rfl) fa_X8_12_7 o.k rfl o.r0 ?_
    refine r_getR (dk kX8_cellOf 12 rfl) fa_X8_80_5 o.s.k rfl o.s.r0 ?_
    refine r_iload_n (dk kX8_cellOf 13 rfl) rfl ?_
    -- at 29
    refine r_ial (dk kX8_cellOf 14 rfl) o.s.k1 o.s.l1 (j := k) rfl (by omega) (by decide) ?_
    refine r_ireturn (dk kX8_cellOf 15 rfl) rfl rfl ⟨Nat.le_of_ble_eq_true rfl, Nat.le_of_ble_eq_true rfl⟩ ⟨rfl, v.cell h1, rfl⟩
theorem k_X8_weightOf (o : BO M x) (v : SV M (x + 1) g q) (i : GI F g) (s : Int32) : KK G IX8_weightOf [.ref x, .int s] M (QSp M (sp_weightOf g s) nm1) := by
  refine KK.ofW (by decide) (by simp [Value.category]) (Nat.le_of_ble_eq_true rfl) rfl ?_
  show WW _ _ _ 0 [_, _] [] _ _ _
  have b1 := i.s.2
  have b2 := i.o.2
  refine r_aload_n (dk kX8_weightOf 0 rfl) rfl ?_
  refine r_getR (dk kX8_weightOf 1 rfl) fa_X8_12_7 o.k rfl o.r0 ?_
  refine r_iload_n (dk kX8_weightOf 2 rfl) rfl ?_
  refine r_callVp (I' := IX6_hasStone) (as := [_]) (dk kX8_weightOf 3 rfl) mv_X6_hasStone ml_X8_69 rfl rfl o.s.k rfl rfl (Nat.le_of_ble_eq_true rfl) ⟨by decide, by decide⟩ ⟨rfl, rfl⟩ ⟨Nat.le_of_ble_eq_true rfl, Nat.le_of_ble_eq_true rfl⟩ (k_X6_hasStone o.s.k s) ?_
  -- at 8
  rw [v.c0 i]
  cases e : ixo (gn g 0) s with
  | none =>
    have e0 : sp_weightOf g s = (1, 0) := by unfold sp_weightOf sp_stone; rw [e]
    rw [e0, bI_f (ixo_0 (by omega) e)]
    refine r_if_ne (tgt := 21) (dk kX8_weightOf 4 rfl) (by decide) (fun c8 => absurd c8 (by decide)) (fun c8 => ?_)
    -- at 11
    refine r_throwS xw_73 (is := 75) (List.mem_of_getElem? (i := 21) rfl) rfl rfl (dk kX8_weightOf 5 rfl) (dk kX8_weightOf 6 rfl) (dk kX8_weightOf 7 rfl) (dk kX8_weightOf 8 rfl) (dk kX8_weightOf 9 rfl) ⟨Nat.le_of_ble_eq_true rfl, Nat.le_of_ble_eq_true rfl⟩ ⟨Nat.le_of_ble_eq_true rfl, Nat.le_of_ble_eq_true rfl⟩ (fun z => ?_)
    exact ⟨by decide, rfl, _, rfl⟩
  | some k =>
    obtain ⟨h1, rfl, h2⟩ := ixo_1 (by omega) e
    have e0 : sp_weightOf g (nI k) = (0, g (9 + 2 * k + 1)) := by unfold sp_weightOf sp_stone; rw [e]
    rw [e0, bI_t h2]
    refine r_if_ne (tgt := 21) (dk kX8_weightOf 4 rfl) (by decide) (fun c8 => ?_) (fun c8 => absurd (by decide) c8)
    refine r_aload_n (dk kX8_weightOf 10 rfl) rfl ?_
    refine r_getR (dk kX8_weightOf 11 rfl) fa_X8_12_7 o.k rfl o.r0 ?_
    refine r_getR (dk kX8_weightOf 12 rfl) fa_X8_83_5 o.s.k rfl o.s.r1 ?_
    refine r_iload_n (dk kX8_weightOf 13 rfl) rfl ?_
    -- at 29
    refine r_ial (dk kX8_weightOf 14 rfl) o.s.k2 o.s.l2 (j := k) rfl (by omega) (by decide) ?_
    refine r_ireturn (dk kX8_weightOf 15 rfl) rfl rfl ⟨Nat.le_of_ble_eq_true rfl, Nat.le_of_ble_eq_true rfl⟩ ⟨rfl, v.weight h1, rfl⟩
theorem k_X8_rankOf (o : BO M x) (v : SV M (x + 1) g q) (i : GI F g) (s : Int32) : KK G IX8_rankOf [.ref x, .int s] M (QSp M (sp_rankOf g s) nm1) := by
  refine KK.ofW (by decide) (by simp [Value.category]) (Nat.le_of_ble_eq_true rfl) rfl ?_
  show WW _ _ _ 0 [_, _] [] _ _ _
  have b1 := i.s.2
  have b2 := i.o.2
  refine r_aload_n (dk kX8_rankOf 0 rfl) rfl ?_
  refine r_getR (dk kX8_rankOf 1 rfl) fa_X8_12_7 o.k rfl o.r0 ?_
  refine r_iload_n (dk kX8_rankOf 2 rfl) rfl ?_
  refine r_callVp (I' := IX6_hasOfficer) (as := [_]) (dk kX8_rankOf 3 rfl) mv_X6_hasOfficer ml_X8_102 rfl rfl o.s.k rfl rfl (Nat.le_of_ble_eq_true rfl) ⟨by decide, by decide⟩ ⟨rfl, rfl⟩ ⟨Nat.le_of_ble_eq_true rfl, Nat.le_of_ble_eq_true rfl⟩ (k_X6_hasOfficer o.s.k s) ?_
  -- at 8
  rw [v.c1 i]
  cases e : ixo (gn g 1) s with
  | none =>
    have e0 : sp_rankOf g s = (1, 0) := by unfold sp_rankOf sp_off; rw [e]
    rw [e0, bI_f (ixo_0 (by omega) e)]
    refine r_if_ne (tgt := 21) (dk kX8_rankOf 4 rfl) (by decide) (fun c8 => absurd c8 (by decide)) (fun c8 => ?_)
    -- at 11
    refine r_throwS xw_73 (is := 105) (List.mem_of_getElem? (i := 0) rfl) rfl rfl (dk kX8_rankOf 5 rfl) (dk kX8_rankOf 6 rfl) (dk kX8_rankOf 7 rfl) (dk kX8_rankOf 8 rfl) (dk kX8_rankOf 9 rfl) ⟨Nat.le_of_ble_eq_true rfl, Nat.le_of_ble_eq_true rfl⟩ ⟨Nat.le_of_ble_eq_true rfl, Nat.le_of_ble_eq_true rfl⟩ (fun z => ?_)
    exact ⟨by decide, rfl, _, rfl⟩
  | some k =>
    obtain ⟨h1, rfl, h2⟩ := ixo_1 (by omega) e
    have e0 : sp_rankOf g (nI k) = (0, g (29 + k)) := by unfold sp_rankOf sp_off; rw [e]
    rw [e0, bI_t h2]
    refine r_if_ne (tgt := 21) (dk kX8_rankOf 4 rfl) (by decide) (fun c8 => ?_) (fun c8 => absurd (by decide) c8)
    refine r_aload_n (dk kX8_rankOf 10 rfl) rfl ?_
    refine r_getR (dk kX8_rankOf 11 rfl) fa_X8_12_7 o.k rfl o.r0 ?_
    refine r_getR (dk kX8_rankOf 12 rfl) fa_X8_107_5 o.s.k rfl o.s.r2 ?_
    refine r_iload_n (dk kX8_rankOf 13 rfl) rfl ?_
    -- at 29
    refine r_ial (dk kX8_rankOf 14 rfl) o.s.k3 o.s.l3 (j := k) rfl (by omega) (by decide) ?_
    refine r_ireturn (dk kX8_rankOf 15 rfl) rfl rfl ⟨Nat.le_of_ble_eq_true rfl, Nat.le_of_ble_eq_true rfl⟩ ⟨rfl, v.rank h1, rfl⟩
theorem k_X8_stoneIn (o : BO M x) (v : SV M (x + 1) g q) (i : GI F g) (c : Int32) : KK G IX8_stoneIn [.ref x, .int c] M (QSp M (sp_stoneIn g c) nm3) := by
  refine KK.ofW (by decide) (by simp [Value.category]) (Nat.le_of_ble_eq_true rfl) rfl ?_
  show WW _ _ _ 0 [_, _, lj] [] _ _ _
  have b1 := i.s.2
  by_cases hc : 0 ≤ c ∧ c ≤ 24
  · cases e : gWithin g c with
    | none =>
      have e0 : sp_stoneIn g c = (2, 0) := by unfold sp_stoneIn; rw [if_pos hc, e]
      rw [e0]
      refine r_iload_n (dk kX8_stoneIn 0 rfl) rfl ?_
      refine r_callSp (I' := IX8_isCell) (as := [_]) (dk kX8_stoneIn 1 rfl) ms_X8_isCell ml_X8_86 rfl rfl rfl (Nat.le_of_ble_eq_true rfl) ⟨by decide, by decide⟩ ⟨rfl, rfl⟩ ⟨Nat.le_of_ble_eq_true rfl, Nat.le_of_ble_eq_true rfl⟩ (k_X8_isCell c) ?_
      refine r_if_ne (tgt := 17) (dk kX8_stoneIn 2 rfl) (by decide) (fun c4 => ?_) (fun c4 => absurd (by rw [bI_t hc]; decide) c4)
      refine r_aload_n (dk kX8_stoneIn 8 rfl) rfl ?_
      refine r_getR (dk kX8_stoneIn 9 rfl) fa_X8_12_7 o.k rfl o.r0 ?_
      refine r_iload_n (dk kX8_stoneIn 10 rfl) rfl ?_
      refine r_callVp (I' := IX6_findStoneIn) (as := [_]) (dk kX8_stoneIn 11 rfl) mv_X6_findStoneIn ml_X8_91 rfl rfl o.s.k rfl rfl (Nat.le_of_ble_eq_true rfl) ⟨by decide, by decide⟩ ⟨rfl, rfl⟩ ⟨Nat.le_of_ble_eq_true rfl, Nat.le_of_ble_eq_true rfl⟩ (k_X6_findStoneIn o.s v i c) ?_
      -- at 25
      rw [e]
      refine r_istore_n (j := 2) (dk kX8_stoneIn 12 rfl) rfl (by decide) rfl ?_
      simp only [List.set_cons_succ, List.set_cons_zero]
      refine r_iload_n (dk kX8_stoneIn 13 rfl) rfl ?_
      refine r_iconst (v := (-1)) (dk kX8_stoneIn 14 rfl) (by decide) ?_
      refine r_icmp_ne (tgt := 41) (dk kX8_stoneIn 15 rfl) (by decide) (fun c28 => absurd c28 (fun z => z rfl)) (fun c28 => ?_)
      -- at 31
      refine r_throwN (is := 96) (List.mem_of_getElem? (i := 23) rfl) rfl rfl (dk kX8_stoneIn 16 rfl) (dk kX8_stoneIn 17 rfl) (dk kX8_stoneIn 18 rfl) (dk kX8_stoneIn 19 rfl) (dk kX8_stoneIn 20 rfl) ⟨Nat.le_of_ble_eq_true rfl, Nat.le_of_ble_eq_true rfl⟩ ⟨Nat.le_of_ble_eq_true rfl, Nat.le_of_ble_eq_true rfl⟩ (fun z => ?_)
      exact ⟨by decide, rfl, _, rfl⟩
    | some k =>
      have e0 : sp_stoneIn g c = (0, nI k) := by unfold sp_stoneIn; rw [if_pos hc, e]
      have hk := fx_lt e
      have hne : nI k ≠ -1 := fun z => by
        have h1 := nI_pos (n := k) (by omega)
        rw [z] at h1
        exact h1 (by decide)
      rw [e0]
      refine r_iload_n (dk kX8_stoneIn 0 rfl) rfl ?_
      refine r_callSp (I' := IX8_isCell) (as := [_]) (dk kX8_stoneIn 1 rfl) ms_X8_isCell ml_X8_86 rfl rfl rfl (Nat.le_of_ble_eq_true rfl) ⟨by decide, by decide⟩ ⟨rfl, rfl⟩ ⟨Nat.le_of_ble_eq_true rfl, Nat.le_of_ble_eq_true rfl⟩ (k_X8_isCell c) ?_
      refine r_if_ne (tgt := 17) (dk kX8_stoneIn 2 rfl) (by decide) (fun c4 => ?_) (fun c4 => absurd (by rw [bI_t hc]; decide) c4)
      refine r_aload_n (dk kX8_stoneIn 8 rfl) rfl ?_
      refine r_getR (dk kX8_stoneIn 9 rfl) fa_X8_12_7 o.k rfl o.r0 ?_
      refine r_iload_n (dk kX8_stoneIn 10 rfl) rfl ?_
      refine r_callVp (I' := IX6_findStoneIn) (as := [_]) (dk kX8_stoneIn 11 rfl) mv_X6_findStoneIn ml_X8_91 rfl rfl o.s.k rfl rfl (Nat.le_of_ble_eq_true rfl) ⟨by decide, by decide⟩ ⟨rfl, rfl⟩ ⟨Nat.le_of_ble_eq_true rfl, Nat.le_of_ble_eq_true rfl⟩ (k_X6_findStoneIn o.s v i c) ?_
      -- at 25
      rw [e]
      refine r_istore_n (j := 2) (dk kX8_stoneIn 12 rfl) rfl (by decide) rfl ?_
      simp only [List.set_cons_succ, List.set_cons_zero]
      refine r_iload_n (dk kX8_stoneIn 13 rfl) rfl ?_
      refine r_iconst (v := (-1)) (dk kX8_stoneIn 14 rfl) (by decide) ?_
      refine r_icmp_ne (tgt := 41) (dk kX8_stoneIn 15 rfl) (by decide) (fun c28 => ?_) (fun c28 => absurd hne c28)
      refine r_iload_n (dk kX8_stoneIn 21 rfl) rfl ?_
      refine r_ireturn (dk kX8_stoneIn 22 rfl) rfl rfl ⟨Nat.le_of_ble_eq_true rfl, Nat.le_of_ble_eq_true rfl⟩ ⟨rfl, rfl, rfl⟩
  · have e0 : sp_stoneIn g c = (1, 0) := by unfold sp_stoneIn; rw [if_neg hc]
    rw [e0]
    refine r_iload_n (dk kX8_stoneIn 0 rfl) rfl ?_
    refine r_callSp (I' := IX8_isCell) (as := [_]) (dk kX8_stoneIn 1 rfl) ms_X8_isCell ml_X8_86 rfl rfl rfl (Nat.le_of_ble_eq_true rfl) ⟨by decide, by decide⟩ ⟨rfl, rfl⟩ ⟨Nat.le_of_ble_eq_true rfl, Nat.le_of_ble_eq_true rfl⟩ (k_X8_isCell c) ?_
    refine r_if_ne (tgt := 17) (dk kX8_stoneIn 2 rfl) (by decide) (fun c4 => absurd c4 (by rw [bI_f hc]; decide)) (fun c4 => ?_)
    -- at 7
    refine r_throwS xw_73 (is := 89) (List.mem_of_getElem? (i := 22) rfl) rfl rfl (dk kX8_stoneIn 3 rfl) (dk kX8_stoneIn 4 rfl) (dk kX8_stoneIn 5 rfl) (dk kX8_stoneIn 6 rfl) (dk kX8_stoneIn 7 rfl) ⟨Nat.le_of_ble_eq_true rfl, Nat.le_of_ble_eq_true rfl⟩ ⟨Nat.le_of_ble_eq_true rfl, Nat.le_of_ble_eq_true rfl⟩ (fun z => ?_)
    exact ⟨by decide, rfl, _, rfl⟩
theorem k_X8_petitionsOf (o : BO M x) (v : SV M (x + 1) g q) (i : GI F g) (s : Int32) : KK G IX8_petitionsOf [.ref x, .int s] M (QSp M (sp_petitionsOf g s) nm1) := by
  refine KK.ofW (by decide) (by simp [Value.category]) (Nat.le_of_ble_eq_true rfl) rfl ?_
  show WW _ _ _ 0 [_, _, lj, lj] [] _ _ _
  have b2 := i.o.2
  have b3 := i.p.2
  refine r_aload_n (dk kX8_petitionsOf 0 rfl) rfl ?_
  refine r_getR (dk kX8_petitionsOf 1 rfl) fa_X8_12_7 o.k rfl o.r0 ?_
  refine r_iload_n (dk kX8_petitionsOf 2 rfl) rfl ?_
  refine r_callVp (I' := IX6_hasOfficer) (as := [_]) (dk kX8_petitionsOf 3 rfl) mv_X6_hasOfficer ml_X8_102 rfl rfl o.s.k rfl rfl (Nat.le_of_ble_eq_true rfl) ⟨by decide, by decide⟩ ⟨rfl, rfl⟩ ⟨Nat.le_of_ble_eq_true rfl, Nat.le_of_ble_eq_true rfl⟩ (k_X6_hasOfficer o.s.k s) ?_
  -- at 8
  rw [v.c1 i]
  cases e : ixo (gn g 1) s with
  | none =>
    have e0 : sp_petitionsOf g s = (1, 0) := by unfold sp_petitionsOf sp_off; rw [e]
    rw [e0, bI_f (ixo_0 (by omega) e)]
    refine r_if_ne (tgt := 21) (dk kX8_petitionsOf 4 rfl) (by decide) (fun c8 => absurd c8 (by decide)) (fun c8 => ?_)
    -- at 11
    refine r_throwS xw_73 (is := 105) (List.mem_of_getElem? (i := 0) rfl) rfl rfl (dk kX8_petitionsOf 5 rfl) (dk kX8_petitionsOf 6 rfl) (dk kX8_petitionsOf 7 rfl) (dk kX8_petitionsOf 8 rfl) (dk kX8_petitionsOf 9 rfl) ⟨Nat.le_of_ble_eq_true rfl, Nat.le_of_ble_eq_true rfl⟩ ⟨Nat.le_of_ble_eq_true rfl, Nat.le_of_ble_eq_true rfl⟩ (fun z => ?_)
    exact ⟨by decide, rfl, _, rfl⟩
  | some k =>
    obtain ⟨h1, rfl, h2⟩ := ixo_1 (by omega) e
    have e0 : sp_petitionsOf g (nI k) = (0, nI (ct (gOwn g (nI k)) (gn g 3))) := by unfold sp_petitionsOf sp_off; rw [e]
    rw [e0, bI_t h2, ← v.o.ctP]
    refine r_if_ne (tgt := 21) (dk kX8_petitionsOf 4 rfl) (by decide) (fun c8 => ?_) (fun c8 => absurd (by decide) c8)
    refine r_iconst (v := 0) (dk kX8_petitionsOf 10 rfl) (by decide) ?_
    refine r_istore_n (j := 2) (dk kX8_petitionsOf 11 rfl) rfl (by decide) rfl ?_
    simp only [List.set_cons_succ, List.set_cons_zero]
    refine r_iconst (v := 0) (dk kX8_petitionsOf 12 rfl) (by decide) ?_
    refine r_istore_n (j := 3) (dk kX8_petitionsOf 13 rfl) rfl (by decide) rfl ?_
    simp only [List.set_cons_succ, List.set_cons_zero]
    -- at 25
    suffices key : ∀ d j, j + d = gn g 3 → WW G IX8_petitionsOf (QSp M (0, nI (ct (fun i => gOwn g (nI k) (q i)) (gn g 3))) nm1) 25 [.ref x, .int (nI k), .int (nI (ct (fun i => gOwn g (nI k) (q i)) j)), .int (nI j)] [] M 0 0 from key _ 0 (Nat.zero_add _)
    intro d
    induction d with
    | zero =>
      intro j hj
      have hj : j = gn g 3 := hj
      refine r_iload_n (dk kX8_petitionsOf 14 rfl) rfl ?_
      refine r_aload_n (dk kX8_petitionsOf 15 rfl) rfl ?_
      refine r_getR (dk kX8_petitionsOf 16 rfl) fa_X8_12_7 o.k rfl o.r0 ?_
      refine r_geti (dk kX8_petitionsOf 17 rfl) fa_X8_110_5 o.s.k rfl ?_
      -- at 33
      rw [v.c3 i]
      refine r_icmp_ge (tgt := 61) (dk kX8_petitionsOf 18 rfl) (by decide) (fun c33 => ?_) (fun c33 => absurd (nI_le (by omega) (by omega)) c33)
      refine r_iload_n (dk kX8_petitionsOf 30 rfl) rfl ?_
      refine r_ireturn (dk kX8_petitionsOf 31 rfl) rfl rfl ⟨Nat.le_of_ble_eq_true rfl, Nat.le_of_ble_eq_true rfl⟩ ⟨rfl, by rw [hj], rfl⟩
    | succ d ih =>
      intro j hj
      have hst : ct (fun i => gOwn g (nI k) (q i)) (j + 1) = ct (fun i => gOwn g (nI k) (q i)) j + (if gOwn g (nI k) (q j) = true then 1 else 0) := rfl
      refine r_iload_n (dk kX8_petitionsOf 14 rfl) rfl ?_
      refine r_aload_n (dk kX8_petitionsOf 15 rfl) rfl ?_
      refine r_getR (dk kX8_petitionsOf 16 rfl) fa_X8_12_7 o.k rfl o.r0 ?_
      refine r_geti (dk kX8_petitionsOf 17 rfl) fa_X8_110_5 o.s.k rfl ?_
      -- at 33
      rw [v.c3 i]
      refine r_icmp_ge (tgt := 61) (dk kX8_petitionsOf 18 rfl) (by decide) (fun c33 => absurd c33 (nI_ge (by omega) (by omega))) (fun c33 => ?_)
      refine r_aload_n (dk kX8_petitionsOf 19 rfl) rfl ?_
      refine r_getR (dk kX8_petitionsOf 20 rfl) fa_X8_12_7 o.k rfl o.r0 ?_
      refine r_getR (dk kX8_petitionsOf 21 rfl) fa_X8_113_5 o.s.k rfl o.s.r3 ?_
      refine r_iload_n (dk kX8_petitionsOf 22 rfl) rfl ?_
      refine r_aal (dk kX8_petitionsOf 23 rfl) o.s.k4 (by decide) o.s.l4 rfl (show j < 8 by omega) (by decide) (o.s.rp (by omega)) ?_
      refine r_geti (dk kX8_petitionsOf 24 rfl) fa_X8_117_3 (o.s.ka (j := j) (by omega)) rfl ?_
      -- at 48
      rw [(v.p (j := j) (by omega)).2.1]
      by_cases hc : g (35 + 11 * q j + 1) = nI k
      · rw [if_pos (show gOwn g (nI k) (q j) = true from decide_eq_true hc)] at hst
        refine r_iload_n (dk kX8_petitionsOf 25 rfl) rfl ?_
        refine r_icmp_ne (tgt := 55) (dk kX8_petitionsOf 26 rfl) (by decide) (fun c49 => absurd c49 (fun z => z hc)) (fun c49 => ?_)
        refine r_iinc (dk kX8_petitionsOf 27 rfl) (by decide) rfl rfl rfl ?_
        simp only [List.set_cons_succ, List.set_cons_zero]
        refine r_iinc (dk kX8_petitionsOf 28 rfl) (by decide) rfl rfl rfl ?_
        simp only [List.set_cons_succ, List.set_cons_zero]
        refine r_goto (tgt := 25) (dk kX8_petitionsOf 29 rfl) (by decide) ?_
        -- at 25
        rw [show nI j + Int32.ofInt 1 = nI (j + 1) from nI_1 j, show nI (ct (fun i => gOwn g (nI k) (q i)) j) + Int32.ofInt 1 = nI (ct (fun i => gOwn g (nI k) (q i)) (j + 1)) from (nI_1 _).trans (by rw [hst])]
        exact ih (j + 1) (by omega)
      · rw [if_neg (show ¬ gOwn g (nI k) (q j) = true from fun z => hc (of_decide_eq_true z))] at hst
        refine r_iload_n (dk kX8_petitionsOf 25 rfl) rfl ?_
        refine r_icmp_ne (tgt := 55) (dk kX8_petitionsOf 26 rfl) (by decide) (fun c49 => ?_) (fun c49 => absurd hc c49)
        refine r_iinc (dk kX8_petitionsOf 28 rfl) (by decide) rfl rfl rfl ?_
        simp only [List.set_cons_succ, List.set_cons_zero]
        refine r_goto (tgt := 25) (dk kX8_petitionsOf 29 rfl) (by decide) ?_
        -- at 25
        rw [show nI j + Int32.ofInt 1 = nI (j + 1) from nI_1 j]
        have h := ih (j + 1) (by omega)
        rw [hst] at h
        exact h
/-- the petition of a number is there, or the call throws -/
def QRq (M : Mm) (x : Nat) (g : Nat → Int32) (q : Nat → Nat) (y : Int32) : QQ := qr (fun r M' => M' = M ∧ ∃ j, j < gn g 3 ∧ gPlace g y = some (q j) ∧ r = some (pA M (x + 1) j)) (fun E M' => gPlace g y = none ∧ E = nE ∧ ∃ z, M' = sX M z)
theorem k_X8_requirePetition (o : BO M x) (v : SV M (x + 1) g q) (i : GI F g) (y : Int32) : KK G IX8_requirePetition [.ref x, .int y] M (QRq M x g q y) := by
  refine KK.ofW (by decide) (by simp [Value.category]) (Nat.le_of_ble_eq_true rfl) rfl ?_
  show WW _ _ _ 0 [_, _, lj] [] _ _ _
  cases e : gPlace g y with
  | none =>
    refine r_aload_n (dk kX8_requirePetition 0 rfl) rfl ?_
    refine r_getR (dk kX8_requirePetition 1 rfl) fa_X8_12_7 o.k rfl o.r0 ?_
    refine r_iload_n (dk kX8_requirePetition 2 rfl) rfl ?_
    refine r_callVz (I' := IX6_findPetition) (as := [_]) (dk kX8_requirePetition 3 rfl) mv_X6_findPetition ml_X8_361 rfl rfl o.s.k rfl rfl (Nat.le_of_ble_eq_true rfl) ⟨by decide, by decide⟩ ⟨rfl, rfl⟩ ⟨Nat.le_of_ble_eq_true rfl, Nat.le_of_ble_eq_true rfl⟩ (k_X6_findPetitionZ o.s v i e) ?_
    refine r_astore_nN (j := 2) (dk kX8_requirePetition 4 rfl) rfl (by decide) rfl ?_
    simp only [List.set_cons_succ, List.set_cons_zero]
    refine r_aload_nN (dk kX8_requirePetition 5 rfl) rfl ?_
    refine r_ifnonnullN (dk kX8_requirePetition 6 rfl) ?_
    -- at 13
    refine r_throwNW (is := 436) (List.mem_of_getElem? (i := 17) rfl) rfl rfl (dk kX8_requirePetition 7 rfl) (dk kX8_requirePetition 8 rfl) (dk kX8_requirePetition 9 rfl) (dk kX8_requirePetition 10 rfl) (dk kX8_requirePetition 11 rfl) ⟨Nat.le_of_ble_eq_true rfl, Nat.le_of_ble_eq_true rfl⟩ ⟨Nat.le_of_ble_eq_true rfl, Nat.le_of_ble_eq_true rfl⟩ (fun z => ?_)
    exact ⟨e, rfl, _, rfl⟩
  | some p =>
    obtain ⟨j, hj, hqj⟩ := v.o.at (fx_lt e)
    subst hqj
    refine r_aload_n (dk kX8_requirePetition 0 rfl) rfl ?_
    refine r_getR (dk kX8_requirePetition 1 rfl) fa_X8_12_7 o.k rfl o.r0 ?_
    refine r_iload_n (dk kX8_requirePetition 2 rfl) rfl ?_
    refine r_callVr (I' := IX6_findPetition) (as := [_]) (dk kX8_requirePetition 3 rfl) mv_X6_findPetition ml_X8_361 rfl rfl o.s.k rfl rfl (Nat.le_of_ble_eq_true rfl) ⟨by decide, by decide⟩ ⟨rfl, rfl⟩ ⟨Nat.le_of_ble_eq_true rfl, Nat.le_of_ble_eq_true rfl⟩ (k_X6_findPetition o.s v i hj e) ?_
    refine r_astore_n (j := 2) (dk kX8_requirePetition 4 rfl) rfl (by decide) rfl ?_
    simp only [List.set_cons_succ, List.set_cons_zero]
    refine r_aload_n (dk kX8_requirePetition 5 rfl) rfl ?_
    refine r_ifnonnull (tgt := 24) (dk kX8_requirePetition 6 rfl) (by decide) ?_
    refine r_aload_n (dk kX8_requirePetition 12 rfl) rfl ?_
    -- at 25
    exact r_areturn (r := some (pA M (x + 1) j)) (dk kX8_requirePetition 13 rfl) rfl (Or.inl ⟨_, rfl⟩) rfl ⟨Nat.le_of_ble_eq_true rfl, Nat.le_of_ble_eq_true rfl⟩ ⟨rfl, j, hj, e, rfl⟩
def QRr (M : Mm) (x : Nat) (g : Nat → Int32) (y : Int32) : QQ := qr (fun r M' => M' = M ∧ ∃ k, k < gn g 5 ∧ y = nI k ∧ ixo (gn g 5) y = some k ∧ r = some (x + 15 + k)) (fun E M' => ixo (gn g 5) y = none ∧ E = "java/lang/IndexOutOfBoundsException" ∧ ∃ z, M' = sX M z)
theorem k_X8_requireRuling (o : BO M x) (v : SV M (x + 1) g q) (i : GI F g) (y : Int32) : KK G IX8_requireRuling [.ref x, .int y] M (QRr M x g y) := by
  refine KK.ofW (by decide) (by simp [Value.category]) (Nat.le_of_ble_eq_true rfl) rfl ?_
  show WW _ _ _ 0 [_, _, lj] [] _ _ _
  have b5 := i.r.2
  cases e : ixo (gn g 5) y with
  | none =>
    refine r_aload_n (dk kX8_requireRuling 0 rfl) rfl ?_
    refine r_getR (dk kX8_requireRuling 1 rfl) fa_X8_12_7 o.k rfl o.r0 ?_
    refine r_iload_n (dk kX8_requireRuling 2 rfl) rfl ?_
    refine r_callVz (I' := IX6_findRuling) (as := [_]) (dk kX8_requireRuling 3 rfl) mv_X6_findRuling ml_X8_374 rfl rfl o.s.k rfl rfl (Nat.le_of_ble_eq_true rfl) ⟨by decide, by decide⟩ ⟨rfl, rfl⟩ ⟨Nat.le_of_ble_eq_true rfl, Nat.le_of_ble_eq_true rfl⟩ (k_X6_findRulingZ o.s v i e) ?_
    refine r_astore_nN (j := 2) (dk kX8_requireRuling 4 rfl) rfl (by decide) rfl ?_
    simp only [List.set_cons_succ, List.set_cons_zero]
    refine r_aload_nN (dk kX8_requireRuling 5 rfl) rfl ?_
    refine r_ifnonnullN (dk kX8_requireRuling 6 rfl) ?_
    -- at 13
    refine r_throwSW xw_73 (is := 438) (List.mem_of_getElem? (i := 18) rfl) rfl rfl (dk kX8_requireRuling 7 rfl) (dk kX8_requireRuling 8 rfl) (dk kX8_requireRuling 9 rfl) (dk kX8_requireRuling 10 rfl) (dk kX8_requireRuling 11 rfl) ⟨Nat.le_of_ble_eq_true rfl, Nat.le_of_ble_eq_true rfl⟩ ⟨Nat.le_of_ble_eq_true rfl, Nat.le_of_ble_eq_true rfl⟩ (fun z => ?_)
    exact ⟨e, rfl, _, rfl⟩
  | some k =>
    obtain ⟨h1, rfl, h2⟩ := ixo_1 (by omega) e
    have hk := k_X6_findRuling (G := G) o.s v i h1
    rw [show x + 1 + 14 + k = x + 15 + k by omega] at hk
    refine r_aload_n (dk kX8_requireRuling 0 rfl) rfl ?_
    refine r_getR (dk kX8_requireRuling 1 rfl) fa_X8_12_7 o.k rfl o.r0 ?_
    refine r_iload_n (dk kX8_requireRuling 2 rfl) rfl ?_
    refine r_callVr (I' := IX6_findRuling) (as := [_]) (dk kX8_requireRuling 3 rfl) mv_X6_findRuling ml_X8_374 rfl rfl o.s.k rfl rfl (Nat.le_of_ble_eq_true rfl) ⟨by decide, by decide⟩ ⟨rfl, rfl⟩ ⟨Nat.le_of_ble_eq_true rfl, Nat.le_of_ble_eq_true rfl⟩ hk ?_
    refine r_astore_n (j := 2) (dk kX8_requireRuling 4 rfl) rfl (by decide) rfl ?_
    simp only [List.set_cons_succ, List.set_cons_zero]
    refine r_aload_n (dk kX8_requireRuling 5 rfl) rfl ?_
    refine r_ifnonnull (tgt := 24) (dk kX8_requireRuling 6 rfl) (by decide) ?_
    refine r_aload_n (dk kX8_requireRuling 12 rfl) rfl ?_
    -- at 25
    exact r_areturn (r := some (x + 15 + k)) (dk kX8_requireRuling 13 rfl) rfl (Or.inl ⟨_, rfl⟩) rfl ⟨Nat.le_of_ble_eq_true rfl, Nat.le_of_ble_eq_true rfl⟩ ⟨rfl, k, h1, rfl, e, rfl⟩
theorem spN {f : Nat → Int32} {y : Int32} (h : gPlace g y = none) : sp_pet f g y = (1, 0) := by unfold sp_pet; rw [h]
theorem spS {f : Nat → Int32} {y : Int32} {p : Nat} (h : gPlace g y = some p) : sp_pet f g y = (0, f p) := by unfold sp_pet; rw [h]
theorem srN {f : Nat → Int32} {y : Int32} (h : ixo (gn g 5) y = none) : sp_rul f g y = (1, 0) := by unfold sp_rul; rw [h]
theorem srS {f : Nat → Int32} {y : Int32} {k : Nat} (h : ixo (gn g 5) y = some k) : sp_rul f g y = (0, f k) := by unfold sp_rul; rw [h]
theorem QRq_x {f : Nat → Int32} {y : Int32} {E : String} {M' : Mm} (h : (QRq M x g q y).2 E M') : (QSp M (sp_pet f g y) nm2).2 E M' := by
  obtain ⟨h1, h2, h3⟩ := h
  rw [spN h1]
  exact ⟨by decide, h2, h3⟩
theorem QRr_x {f : Nat → Int32} {y : Int32} {E : String} {M' : Mm} (h : (QRr M x g y).2 E M') : (QSp M (sp_rul f g y) nm1).2 E M' := by
  obtain ⟨h1, h2, h3⟩ := h
  rw [srN h1]
  exact ⟨by decide, h2, h3⟩
theorem k_X8_stoneOf (o : BO M x) (v : SV M (x + 1) g q) (i : GI F g) (y : Int32) : KK G IX8_stoneOf [.ref x, .int y] M (QSp M (sp_stoneOf g y) nm2) := by
  refine KK.ofW (by decide) (by simp [Value.category]) (Nat.le_of_ble_eq_true rfl) rfl ?_
  show WW _ _ _ 0 [_, _] [] _ _ _
  have b3 := i.p.2
  refine r_aload_n (dk kX8_stoneOf 0 rfl) rfl ?_
  refine r_iload_n (dk kX8_stoneOf 1 rfl) rfl ?_
  refine r_callV (I' := IX8_requirePetition) (as := [_]) (dk kX8_stoneOf 2 rfl) mv_X8_requirePetition ml_X8_144 rfl rfl o.k rfl rfl (Nat.le_of_ble_eq_true rfl) ⟨by decide, by decide⟩ ⟨Nat.le_of_ble_eq_true rfl, Nat.le_of_ble_eq_true rfl⟩ (k_X8_requirePetition o v i y) ?_ ?_
  · exact fun E M' z => QRq_x z
  rintro w M' ⟨r, rfl, rfl, j, hj, hp, rfl⟩
  show WW G IX8_stoneOf _ 5 [.ref x, .int y] [.ref (pA M' (x + 1) j)] M' 1 6
  rw [show sp_stoneOf g y = _ from spS hp]
  refine r_geti (dk kX8_stoneOf 3 rfl) fa_X8_152_3 (o.s.ka (j := j) (by omega)) rfl ?_
  refine r_ireturn (dk kX8_stoneOf 4 rfl) rfl rfl ⟨Nat.le_of_ble_eq_true rfl, Nat.le_of_ble_eq_true rfl⟩ ⟨rfl, (v.p hj).2.2.2.1, rfl⟩
theorem k_X8_targetOf (o : BO M x) (v : SV M (x + 1) g q) (i : GI F g) (y : Int32) : KK G IX8_targetOf [.ref x, .int y] M (QSp M (sp_targetOf g y) nm2) := by
  refine KK.ofW (by decide) (by simp [Value.category]) (Nat.le_of_ble_eq_true rfl) rfl ?_
  show WW _ _ _ 0 [_, _] [] _ _ _
  have b3 := i.p.2
  refine r_aload_n (dk kX8_targetOf 0 rfl) rfl ?_
  refine r_iload_n (dk kX8_targetOf 1 rfl) rfl ?_
  refine r_callV (I' := IX8_requirePetition) (as := [_]) (dk kX8_targetOf 2 rfl) mv_X8_requirePetition ml_X8_144 rfl rfl o.k rfl rfl (Nat.le_of_ble_eq_true rfl) ⟨by decide, by decide⟩ ⟨Nat.le_of_ble_eq_true rfl, Nat.le_of_ble_eq_true rfl⟩ (k_X8_requirePetition o v i y) ?_ ?_
  · exact fun E M' z => QRq_x z
  rintro w M' ⟨r, rfl, rfl, j, hj, hp, rfl⟩
  show WW G IX8_targetOf _ 5 [.ref x, .int y] [.ref (pA M' (x + 1) j)] M' 1 6
  rw [show sp_targetOf g y = _ from spS hp]
  refine r_geti (dk kX8_targetOf 3 rfl) fa_X8_155_3 (o.s.ka (j := j) (by omega)) rfl ?_
  refine r_ireturn (dk kX8_targetOf 4 rfl) rfl rfl ⟨Nat.le_of_ble_eq_true rfl, Nat.le_of_ble_eq_true rfl⟩ ⟨rfl, (v.p hj).2.2.2.2.1, rfl⟩
theorem k_X8_votesFor (o : BO M x) (v : SV M (x + 1) g q) (i : GI F g) (y : Int32) : KK G IX8_votesFor [.ref x, .int y] M (QSp M (sp_votesFor g y) nm2) := by
  refine KK.ofW (by decide) (by simp [Value.category]) (Nat.le_of_ble_eq_true rfl) rfl ?_
  show WW _ _ _ 0 [_, _] [] _ _ _
  have b3 := i.p.2
  refine r_aload_n (dk kX8_votesFor 0 rfl) rfl ?_
  refine r_iload_n (dk kX8_votesFor 1 rfl) rfl ?_
  refine r_callV (I' := IX8_requirePetition) (as := [_]) (dk kX8_votesFor 2 rfl) mv_X8_requirePetition ml_X8_144 rfl rfl o.k rfl rfl (Nat.le_of_ble_eq_true rfl) ⟨by decide, by decide⟩ ⟨Nat.le_of_ble_eq_true rfl, Nat.le_of_ble_eq_true rfl⟩ (k_X8_requirePetition o v i y) ?_ ?_
  · exact fun E M' z => QRq_x z
  rintro w M' ⟨r, rfl, rfl, j, hj, hp, rfl⟩
  show WW G IX8_votesFor _ 5 [.ref x, .int y] [.ref (pA M' (x + 1) j)] M' 1 6
  rw [show sp_votesFor g y = _ from spS hp]
  have ka := o.s.ka (j := j) (by omega)
  obtain ⟨-, -, -, -, -, y1, y2, -⟩ := i.pi (v.o.1 j hj)
  obtain ⟨p0, p1, p2, p3, p4, p5, p6, p7, p8, pc⟩ := v.p hj
  refine r_callVp (I' := IX4_countFor) (as := []) (dk kX8_votesFor 3 rfl) mv_X4_countFor ml_X8_158 rfl rfl ka rfl rfl (Nat.le_of_ble_eq_true rfl) ⟨by decide, by decide⟩ ⟨rfl, rfl⟩ ⟨Nat.le_of_ble_eq_true rfl, Nat.le_of_ble_eq_true rfl⟩ (k_X4_countFor ka y1.2 (p6.trans y1.1)) ?_
  refine r_ireturn (dk kX8_votesFor 4 rfl) rfl rfl ⟨Nat.le_of_ble_eq_true rfl, Nat.le_of_ble_eq_true rfl⟩ ⟨rfl, rfl, rfl⟩
theorem k_X8_votesAgainst (o : BO M x) (v : SV M (x + 1) g q) (i : GI F g) (y : Int32) : KK G IX8_votesAgainst [.ref x, .int y] M (QSp M (sp_votesAgainst g y) nm2) := by
  refine KK.ofW (by decide) (by simp [Value.category]) (Nat.le_of_ble_eq_true rfl) rfl ?_
  show WW _ _ _ 0 [_, _] [] _ _ _
  have b3 := i.p.2
  refine r_aload_n (dk kX8_votesAgainst 0 rfl) rfl ?_
  refine r_iload_n (dk kX8_votesAgainst 1 rfl) rfl ?_
  refine r_callV (I' := IX8_requirePetition) (as := [_]) (dk kX8_votesAgainst 2 rfl) mv_X8_requirePetition ml_X8_144 rfl rfl o.k rfl rfl (Nat.le_of_ble_eq_true rfl) ⟨by decide, by decide⟩ ⟨Nat.le_of_ble_eq_true rfl, Nat.le_of_ble_eq_true rfl⟩ (k_X8_requirePetition o v i y) ?_ ?_
  · exact fun E M' z => QRq_x z
  rintro w M' ⟨r, rfl, rfl, j, hj, hp, rfl⟩
  show WW G IX8_votesAgainst _ 5 [.ref x, .int y] [.ref (pA M' (x + 1) j)] M' 1 6
  rw [show sp_votesAgainst g y = _ from spS hp]
  have ka := o.s.ka (j := j) (by omega)
  obtain ⟨-, -, -, -, -, y1, y2, -⟩ := i.pi (v.o.1 j hj)
  obtain ⟨p0, p1, p2, p3, p4, p5, p6, p7, p8, pc⟩ := v.p hj
  refine r_callVp (I' := IX4_countAgainst) (as := []) (dk kX8_votesAgainst 3 rfl) mv_X4_countAgainst ml_X8_162 rfl rfl ka rfl rfl (Nat.le_of_ble_eq_true rfl) ⟨by decide, by decide⟩ ⟨rfl, rfl⟩ ⟨Nat.le_of_ble_eq_true rfl, Nat.le_of_ble_eq_true rfl⟩ (k_X4_countAgainst ka y2.2 (p7.trans y2.1)) ?_
  refine r_ireturn (dk kX8_votesAgainst 4 rfl) rfl rfl ⟨Nat.le_of_ble_eq_true rfl, Nat.le_of_ble_eq_true rfl⟩ ⟨rfl, rfl, rfl⟩
theorem k_X8_wouldBeGranted (o : BO M x) (v : SV M (x + 1) g q) (i : GI F g) (y : Int32) : KK G IX8_wouldBeGranted [.ref x, .int y] M (QSp M (sp_wouldBeGranted g y) nm2) := by
  refine KK.ofW (by decide) (by simp [Value.category]) (Nat.le_of_ble_eq_true rfl) rfl ?_
  show WW _ _ _ 0 [_, _] [] _ _ _
  have b3 := i.p.2
  refine r_aload_n (dk kX8_wouldBeGranted 0 rfl) rfl ?_
  refine r_getR (dk kX8_wouldBeGranted 1 rfl) fa_X8_12_7 o.k rfl o.r0 ?_
  refine r_aload_n (dk kX8_wouldBeGranted 2 rfl) rfl ?_
  refine r_iload_n (dk kX8_wouldBeGranted 3 rfl) rfl ?_
  refine r_callV (I' := IX8_requirePetition) (as := [_]) (dk kX8_wouldBeGranted 4 rfl) mv_X8_requirePetition ml_X8_144 rfl rfl o.k rfl rfl (Nat.le_of_ble_eq_true rfl) ⟨by decide, by decide⟩ ⟨Nat.le_of_ble_eq_true rfl, Nat.le_of_ble_eq_true rfl⟩ (k_X8_requirePetition o v i y) ?_ ?_
  · exact fun E M' z => QRq_x z
  rintro w M' ⟨r, rfl, rfl, j, hj, hp, rfl⟩
  show WW G IX8_wouldBeGranted _ 9 [.ref x, .int y] [.ref (pA M' (x + 1) j), .ref (x + 1)] M' 1 6
  rw [show sp_wouldBeGranted g y = _ from spS hp]
  refine r_callVp (I' := IX6_isWon) (as := [_]) (dk kX8_wouldBeGranted 5 rfl) mv_X6_isWon ml_X8_165 rfl rfl o.s.k rfl rfl (Nat.le_of_ble_eq_true rfl) ⟨by decide, by decide⟩ ⟨rfl, rfl⟩ ⟨Nat.le_of_ble_eq_true rfl, Nat.le_of_ble_eq_true rfl⟩ (k_X6_isWon o.s v i hj) ?_
  refine r_ireturn (dk kX8_wouldBeGranted 6 rfl) rfl (nbI _) ⟨Nat.le_of_ble_eq_true rfl, Nat.le_of_ble_eq_true rfl⟩ ⟨rfl, rfl, rfl⟩
theorem k_X8_petitionAt (o : BO M x) (v : SV M (x + 1) g q) (i : GI F g) (y : Int32) : KK G IX8_petitionAt [.ref x, .int y] M (QSp M (sp_petitionAt g y) nm2) := by
  refine KK.ofW (by decide) (by simp [Value.category]) (Nat.le_of_ble_eq_true rfl) rfl ?_
  show WW _ _ _ 0 [_, _] [] _ _ _
  have b3 := i.p.2
  by_cases hy : 0 ≤ y ∧ y < nI (gn g 3)
  · obtain ⟨j, hj2, rfl⟩ := nI_of (Int32.not_lt.mpr hy.1)
    have hj : j < gn g 3 := (nI_ltI hj2 (by omega)).mp hy.2
    have e0 : sp_petitionAt g (nI j) = (0, g (35 + 11 * q j)) := by unfold sp_petitionAt; rw [v.o.queued (by omega) hj]
    rw [e0]
    refine r_iload_n (dk kX8_petitionAt 0 rfl) rfl ?_
    refine r_if_lt (tgt := 15) (dk kX8_petitionAt 1 rfl) (by decide) (fun c1 => absurd c1 (Int32.not_lt.mpr hy.1)) (fun c1 => ?_)
    refine r_iload_n (dk kX8_petitionAt 2 rfl) rfl ?_
    refine r_aload_n (dk kX8_petitionAt 3 rfl) rfl ?_
    refine r_getR (dk kX8_petitionAt 4 rfl) fa_X8_12_7 o.k rfl o.r0 ?_
    refine r_geti (dk kX8_petitionAt 5 rfl) fa_X8_110_5 o.s.k rfl ?_
    -- at 12
    rw [v.c3 i]
    refine r_icmp_lt (tgt := 25) (dk kX8_petitionAt 6 rfl) (by decide) (fun c12 => ?_) (fun c12 => absurd hy.2 c12)
    refine r_aload_n (dk kX8_petitionAt 12 rfl) rfl ?_
    refine r_getR (dk kX8_petitionAt 13 rfl) fa_X8_12_7 o.k rfl o.r0 ?_
    refine r_getR (dk kX8_petitionAt 14 rfl) fa_X8_113_5 o.s.k rfl o.s.r3 ?_
    refine r_iload_n (dk kX8_petitionAt 15 rfl) rfl ?_
    refine r_aal (dk kX8_petitionAt 16 rfl) o.s.k4 (by decide) o.s.l4 rfl (show j < 8 by omega) (by decide) (o.s.rp (by omega)) ?_
    refine r_geti (dk kX8_petitionAt 17 rfl) fa_X8_141_3 (o.s.ka (j := j) (by omega)) rfl ?_
    refine r_ireturn (dk kX8_petitionAt 18 rfl) rfl rfl ⟨Nat.le_of_ble_eq_true rfl, Nat.le_of_ble_eq_true rfl⟩ ⟨rfl, (v.p hj).1, rfl⟩
  · have e0 : sp_petitionAt g y = (1, 0) := by unfold sp_petitionAt; rw [v.o.queuedN (by omega) hy]
    rw [e0]
    by_cases h0 : y < 0
    · refine r_iload_n (dk kX8_petitionAt 0 rfl) rfl ?_
      refine r_if_lt (tgt := 15) (dk kX8_petitionAt 1 rfl) (by decide) (fun c1 => ?_) (fun c1 => absurd h0 c1)
      -- at 15
      refine r_throwN (is := 139) (List.mem_of_getElem? (i := 1) rfl) rfl rfl (dk kX8_petitionAt 7 rfl) (dk kX8_petitionAt 8 rfl) (dk kX8_petitionAt 9 rfl) (dk kX8_petitionAt 10 rfl) (dk kX8_petitionAt 11 rfl) ⟨Nat.le_of_ble_eq_true rfl, Nat.le_of_ble_eq_true rfl⟩ ⟨Nat.le_of_ble_eq_true rfl, Nat.le_of_ble_eq_true rfl⟩ (fun z => ?_)
      exact ⟨by decide, rfl, _, rfl⟩
    · have h1 : ¬ y < nI (gn g 3) := fun z => hy ⟨Int32.not_lt.mp h0, z⟩
      refine r_iload_n (dk kX8_petitionAt 0 rfl) rfl ?_
      refine r_if_lt (tgt := 15) (dk kX8_petitionAt 1 rfl) (by decide) (fun c1 => absurd c1 h0) (fun c1 => ?_)
      refine r_iload_n (dk kX8_petitionAt 2 rfl) rfl ?_
      refine r_aload_n (dk kX8_petitionAt 3 rfl) rfl ?_
      refine r_getR (dk kX8_petitionAt 4 rfl) fa_X8_12_7 o.k rfl o.r0 ?_
      refine r_geti (dk kX8_petitionAt 5 rfl) fa_X8_110_5 o.s.k rfl ?_
      -- at 12
      rw [v.c3 i]
      refine r_icmp_lt (tgt := 25) (dk kX8_petitionAt 6 rfl) (by decide) (fun c12 => absurd c12 h1) (fun c12 => ?_)
      -- at 15
      refine r_throwN (is := 139) (List.mem_of_getElem? (i := 1) rfl) rfl rfl (dk kX8_petitionAt 7 rfl) (dk kX8_petitionAt 8 rfl) (dk kX8_petitionAt 9 rfl) (dk kX8_petitionAt 10 rfl) (dk kX8_petitionAt 11 rfl) ⟨Nat.le_of_ble_eq_true rfl, Nat.le_of_ble_eq_true rfl⟩ ⟨Nat.le_of_ble_eq_true rfl, Nat.le_of_ble_eq_true rfl⟩ (fun z => ?_)
      exact ⟨by decide, rfl, _, rfl⟩
theorem k_X8_positionOf (o : BO M x) (v : SV M (x + 1) g q) (i : GI F g) (y : Int32) : KK G IX8_positionOf [.ref x, .int y] M (QSp M (sp_positionOf g y) nm2) := by
  refine KK.ofW (by decide) (by simp [Value.category]) (Nat.le_of_ble_eq_true rfl) rfl ?_
  show WW _ _ _ 0 [_, _, lj, lj, lj] [] _ _ _
  have b3 := i.p.2
  refine r_aload_n (dk kX8_positionOf 0 rfl) rfl ?_
  refine r_iload_n (dk kX8_positionOf 1 rfl) rfl ?_
  refine r_callV (I' := IX8_requirePetition) (as := [_]) (dk kX8_positionOf 2 rfl) mv_X8_requirePetition ml_X8_144 rfl rfl o.k rfl rfl (Nat.le_of_ble_eq_true rfl) ⟨by decide, by decide⟩ ⟨Nat.le_of_ble_eq_true rfl, Nat.le_of_ble_eq_true rfl⟩ (k_X8_requirePetition o v i y) ?_ ?_
  · exact fun E M' z => QRq_x z
  rintro w M' ⟨r, rfl, rfl, p, hp, hg, rfl⟩
  show WW G IX8_positionOf _ 5 [.ref x, .int y, lj, lj, lj] [.ref (pA M' (x + 1) p)] M' 1 6
  have e1 : gAhead g (q p) = ct (fun i => gAhd g (q i) (q p)) (gn g 3) := by
    unfold gAhead
    exact (v.o.ctP (fun k => gAhd g k (q p))).symm
  rw [show sp_positionOf g y = (0, nI (gAhead g (q p))) from spS hg, e1]
  have kp := o.s.ka (j := p) (by omega)
  refine r_astore_n (j := 2) (dk kX8_positionOf 3 rfl) rfl (by decide) rfl ?_
  simp only [List.set_cons_succ, List.set_cons_zero]
  refine r_iconst (v := 0) (dk kX8_positionOf 4 rfl) (by decide) ?_
  refine r_istore_n (j := 3) (dk kX8_positionOf 5 rfl) rfl (by decide) rfl ?_
  simp only [List.set_cons_succ, List.set_cons_zero]
  refine r_iconst (v := 0) (dk kX8_positionOf 6 rfl) (by decide) ?_
  refine r_istore (dk kX8_positionOf 7 rfl) (by decide) rfl ?_
  simp only [List.set_cons_succ, List.set_cons_zero]
  -- at 11
  suffices key : ∀ d j, j + d = gn g 3 → WW G IX8_positionOf (QSp M' (0, nI (ct (fun i => gAhd g (q i) (q p)) (gn g 3))) nm2) 11 [.ref x, .int y, .ref (pA M' (x + 1) p), .int (nI (ct (fun i => gAhd g (q i) (q p)) j)), .int (nI j)] [] M' 1 6 from key _ 0 (Nat.zero_add _)
  intro d
  induction d with
  | zero =>
    intro j hj
    have hj : j = gn g 3 := hj
    refine r_iload (dk kX8_positionOf 8 rfl) rfl ?_
    refine r_aload_n (dk kX8_positionOf 9 rfl) rfl ?_
    refine r_getR (dk kX8_positionOf 10 rfl) fa_X8_12_7 o.k rfl o.r0 ?_
    refine r_geti (dk kX8_positionOf 11 rfl) fa_X8_110_5 o.s.k rfl ?_
    -- at 20
    rw [v.c3 i]
    refine r_icmp_ge (tgt := 49) (dk kX8_positionOf 12 rfl) (by decide) (fun c20 => ?_) (fun c20 => absurd (nI_le (by omega) (by omega)) c20)
    refine r_iload_n (dk kX8_positionOf 24 rfl) rfl ?_
    refine r_ireturn (dk kX8_positionOf 25 rfl) rfl rfl ⟨Nat.le_of_ble_eq_true rfl, Nat.le_of_ble_eq_true rfl⟩ ⟨rfl, by rw [hj], rfl⟩
  | succ d ih =>
    intro j hj
    have hst : ct (fun i => gAhd g (q i) (q p)) (j + 1) = ct (fun i => gAhd g (q i) (q p)) j + (if gAhd g (q j) (q p) = true then 1 else 0) := rfl
    have kj := o.s.ka (j := j) (by omega)
    have hcb := k_X4_comesB (G := G) (M := M') kj kp (ahd_pf i (v.o.1 j (by omega)) (v.o.1 p hp) (v.p (by omega)) (v.p hp))
    refine r_iload (dk kX8_positionOf 8 rfl) rfl ?_
    refine r_aload_n (dk kX8_positionOf 9 rfl) rfl ?_
    refine r_getR (dk kX8_positionOf 10 rfl) fa_X8_12_7 o.k rfl o.r0 ?_
    refine r_geti (dk kX8_positionOf 11 rfl) fa_X8_110_5 o.s.k rfl ?_
    -- at 20
    rw [v.c3 i]
    refine r_icmp_ge (tgt := 49) (dk kX8_positionOf 12 rfl) (by decide) (fun c20 => absurd c20 (nI_ge (by omega) (by omega))) (fun c20 => ?_)
    refine r_aload_n (dk kX8_positionOf 13 rfl) rfl ?_
    refine r_getR (dk kX8_positionOf 14 rfl) fa_X8_12_7 o.k rfl o.r0 ?_
    refine r_getR (dk kX8_positionOf 15 rfl) fa_X8_113_5 o.s.k rfl o.s.r3 ?_
    refine r_iload (dk kX8_positionOf 16 rfl) rfl ?_
    refine r_aal (dk kX8_positionOf 17 rfl) o.s.k4 (by decide) o.s.l4 rfl (show j < 8 by omega) (by decide) (o.s.rp (by omega)) ?_
    refine r_aload_n (dk kX8_positionOf 18 rfl) rfl ?_
    refine r_callVp (I' := IX4_comesBefore) (as := [_]) (dk kX8_positionOf 19 rfl) mv_X4_comesBefore ml_X8_148 rfl rfl kj rfl rfl (Nat.le_of_ble_eq_true rfl) ⟨by decide, by decide⟩ ⟨rfl, rfl⟩ ⟨Nat.le_of_ble_eq_true rfl, Nat.le_of_ble_eq_true rfl⟩ hcb ?_
    -- at 37
    by_cases hc : gAhd g (q j) (q p) = true
    · rw [if_pos hc] at hst
      rw [bI_t hc]
      refine r_if_eq (tgt := 43) (dk kX8_positionOf 20 rfl) (by decide) (fun c37 => absurd c37 (by decide)) (fun c37 => ?_)
      refine r_iinc (dk kX8_positionOf 21 rfl) (by decide) rfl rfl rfl ?_
      simp only [List.set_cons_succ, List.set_cons_zero]
      refine r_iinc (dk kX8_positionOf 22 rfl) (by decide) rfl rfl rfl ?_
      simp only [List.set_cons_succ, List.set_cons_zero]
      refine r_goto (tgt := 11) (dk kX8_positionOf 23 rfl) (by decide) ?_
      -- at 11
      rw [show nI j + Int32.ofInt 1 = nI (j + 1) from nI_1 j, show nI (ct (fun i => gAhd g (q i) (q p)) j) + Int32.ofInt 1 = nI (ct (fun i => gAhd g (q i) (q p)) (j + 1)) from (nI_1 _).trans (by rw [hst])]
      exact ih (j + 1) (by omega)
    · rw [if_neg hc] at hst
      rw [bI_f hc]
      refine r_if_eq (tgt := 43) (dk kX8_positionOf 20 rfl) (by decide) (fun c37 => ?_) (fun c37 => absurd rfl c37)
      refine r_iinc (dk kX8_positionOf 22 rfl) (by decide) rfl rfl rfl ?_
      simp only [List.set_cons_succ, List.set_cons_zero]
      refine r_goto (tgt := 11) (dk kX8_positionOf 23 rfl) (by decide) ?_
      -- at 11
      rw [show nI j + Int32.ofInt 1 = nI (j + 1) from nI_1 j]
      have h := ih (j + 1) (by omega)
      rw [hst] at h
      exact h
end CLASS
