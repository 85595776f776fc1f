/-! THE CLASS: its questions about rulings, means, what was denied -/
section CLASS
variable {G : GG} {M : Mm} {x F : Nat} {g : Nat → Int32} {q : Nat → Nat}
theorem SV.r2 (v : SV M (x + 1) g q) {k : Nat} (h : k < gn g 5) : RF (mi M (x + 15 + k)) g k := by
  have := v.r h
  rw [show x + 1 + 14 + k = x + 15 + k by omega] at this
  exact this
theorem SO.kr2 (o : SO M (x + 1)) {k : Nat} (h : k < 16) : kd M (x + 15 + k) = 5 := by
  have := o.kr h
  rw [show x + 1 + 14 + k = x + 15 + k by omega] at this
  exact this
theorem k_X8_isGranted (o : BO M x) (v : SV M (x + 1) g q) (i : GI F g) (y : Int32) : KK G IX8_isGranted [.ref x, .int y] M (QSp M (sp_isGranted g y) nm1) := by
  refine KK.ofW (by decide) (by simp [Value.category]) (Nat.le_of_ble_eq_true rfl) rfl ?_
  show WW _ _ _ 0 [_, _] [] _ _ _
  have b5 := i.r.2
  refine r_aload_n (dk kX8_isGranted 0 rfl) rfl ?_
  refine r_iload_n (dk kX8_isGranted 1 rfl) rfl ?_
  refine r_callV (I' := IX8_requireRuling) (as := [_]) (dk kX8_isGranted 2 rfl) mv_X8_requireRuling ml_X8_180 rfl rfl o.k rfl rfl (Nat.le_of_ble_eq_true rfl) ⟨by decide, by decide⟩ ⟨Nat.le_of_ble_eq_true rfl, Nat.le_of_ble_eq_true rfl⟩ (k_X8_requireRuling o v i y) ?_ ?_
  · exact fun E M' z => QRr_x z
  rintro w M' ⟨r, rfl, rfl, k, hk, rfl, hx, rfl⟩
  show WW G IX8_isGranted _ 5 [.ref x, .int (nI k)] [.ref (x + 15 + k)] M' 1 6
  rw [show sp_isGranted g (nI k) = (0, bI (g (123 + 6 * k) = 1)) from srS hx]
  have kr := o.s.kr2 (k := k) (by omega)
  have ri := (i.ri hk).1
  refine r_geti (dk kX8_isGranted 3 rfl) fa_X8_184_4 kr rfl ?_
  -- at 8
  rw [(v.r2 hk).1]
  refine r_ireturn (dk kX8_isGranted 4 rfl) rfl (by rw [nb2_bI ri]; exact nbI _) ⟨Nat.le_of_ble_eq_true rfl, Nat.le_of_ble_eq_true rfl⟩ ⟨rfl, (nb2_bI ri).trans (bI_cong (nb_inj (v := 1) ri (by decide)).symm), rfl⟩
theorem k_X8_isCarriedOut (o : BO M x) (v : SV M (x + 1) g q) (i : GI F g) (y : Int32) : KK G IX8_isCarriedOut [.ref x, .int y] M (QSp M (sp_isCarriedOut g y) nm1) := by
  refine KK.ofW (by decide) (by simp [Value.category]) (Nat.le_of_ble_eq_true rfl) rfl ?_
  show WW _ _ _ 0 [_, _] [] _ _ _
  have b5 := i.r.2
  refine r_aload_n (dk kX8_isCarriedOut 0 rfl) rfl ?_
  refine r_iload_n (dk kX8_isCarriedOut 1 rfl) rfl ?_
  refine r_callV (I' := IX8_requireRuling) (as := [_]) (dk kX8_isCarriedOut 2 rfl) mv_X8_requireRuling ml_X8_180 rfl rfl o.k rfl rfl (Nat.le_of_ble_eq_true rfl) ⟨by decide, by decide⟩ ⟨Nat.le_of_ble_eq_true rfl, Nat.le_of_ble_eq_true rfl⟩ (k_X8_requireRuling o v i y) ?_ ?_
  · exact fun E M' z => QRr_x z
  rintro w M' ⟨r, rfl, rfl, k, hk, rfl, hx, rfl⟩
  show WW G IX8_isCarriedOut _ 5 [.ref x, .int (nI k)] [.ref (x + 15 + k)] M' 1 6
  rw [show sp_isCarriedOut g (nI k) = (0, bI (g (123 + 6 * k + 1) = 1)) from srS hx]
  have kr := o.s.kr2 (k := k) (by omega)
  have ri := (i.ri hk).2.1
  refine r_geti (dk kX8_isCarriedOut 3 rfl) fa_X8_190_4 kr rfl ?_
  -- at 8
  rw [(v.r2 hk).2.1]
  refine r_ireturn (dk kX8_isCarriedOut 4 rfl) rfl (by rw [nb2_bI ri]; exact nbI _) ⟨Nat.le_of_ble_eq_true rfl, Nat.le_of_ble_eq_true rfl⟩ ⟨rfl, (nb2_bI ri).trans (bI_cong (nb_inj (v := 1) ri (by decide)).symm), rfl⟩
theorem k_X8_citationCount (o : BO M x) (v : SV M (x + 1) g q) (i : GI F g) (y : Int32) : KK G IX8_citationCount [.ref x, .int y] M (QSp M (sp_citationCount g y) nm1) := by
  refine KK.ofW (by decide) (by simp [Value.category]) (Nat.le_of_ble_eq_true rfl) rfl ?_
  show WW _ _ _ 0 [_, _] [] _ _ _
  have b5 := i.r.2
  refine r_aload_n (dk kX8_citationCount 0 rfl) rfl ?_
  refine r_iload_n (dk kX8_citationCount 1 rfl) rfl ?_
  refine r_callV (I' := IX8_requireRuling) (as := [_]) (dk kX8_citationCount 2 rfl) mv_X8_requireRuling ml_X8_180 rfl rfl o.k rfl rfl (Nat.le_of_ble_eq_true rfl) ⟨by decide, by decide⟩ ⟨Nat.le_of_ble_eq_true rfl, Nat.le_of_ble_eq_true rfl⟩ (k_X8_requireRuling o v i y) ?_ ?_
  · exact fun E M' z => QRr_x z
  rintro w M' ⟨r, rfl, rfl, k, hk, rfl, hx, rfl⟩
  show WW G IX8_citationCount _ 5 [.ref x, .int (nI k)] [.ref (x + 15 + k)] M' 1 6
  rw [show sp_citationCount g (nI k) = (0, g (123 + 6 * k + 2)) from srS hx]
  have kr := o.s.kr2 (k := k) (by omega)
  refine r_geti (dk kX8_citationCount 3 rfl) fa_X8_193_4 kr rfl ?_
  refine r_ireturn (dk kX8_citationCount 4 rfl) rfl rfl ⟨Nat.le_of_ble_eq_true rfl, Nat.le_of_ble_eq_true rfl⟩ ⟨rfl, (v.r2 hk).2.2.2.1, rfl⟩
theorem k_X8_depth (o : BO M x) (v : SV M (x + 1) g q) (i : GI F g) (y : Int32) : KK G IX8_depth [.ref x, .int y] M (QSp M (sp_depth g y) nm1) := by
  refine KK.ofW (by decide) (by simp [Value.category]) (Nat.le_of_ble_eq_true rfl) rfl ?_
  show WW _ _ _ 0 [_, _] [] _ _ _
  have b5 := i.r.2
  refine r_aload_n (dk kX8_depth 0 rfl) rfl ?_
  refine r_iload_n (dk kX8_depth 1 rfl) rfl ?_
  refine r_callV (I' := IX8_requireRuling) (as := [_]) (dk kX8_depth 2 rfl) mv_X8_requireRuling ml_X8_180 rfl rfl o.k rfl rfl (Nat.le_of_ble_eq_true rfl) ⟨by decide, by decide⟩ ⟨Nat.le_of_ble_eq_true rfl, Nat.le_of_ble_eq_true rfl⟩ (k_X8_requireRuling o v i y) ?_ ?_
  · exact fun E M' z => QRr_x z
  rintro w M' ⟨r, rfl, rfl, k, hk, rfl, hx, rfl⟩
  show WW G IX8_depth _ 5 [.ref x, .int (nI k)] [.ref (x + 15 + k)] M' 1 6
  rw [show sp_depth g (nI k) = (0, nI (gDepth g k)) from srS hx]
  have kr := o.s.kr2 (k := k) (by omega)
  refine r_geti (dk kX8_depth 3 rfl) fa_X8_206_4 kr rfl ?_
  refine r_ireturn (dk kX8_depth 4 rfl) rfl rfl ⟨Nat.le_of_ble_eq_true rfl, Nat.le_of_ble_eq_true rfl⟩ ⟨rfl, (v.r2 hk).2.2.1, rfl⟩
theorem k_X8_citation (o : BO M x) (v : SV M (x + 1) g q) (i : GI F g) (y c : Int32) : KK G IX8_citation [.ref x, .int y, .int c] M (QSp M (sp_citation g y c) nm3) := by
  refine KK.ofW (by decide) (by simp [Value.category]) (Nat.le_of_ble_eq_true rfl) rfl ?_
  show WW _ _ _ 0 [_, _, _, lj] [] _ _ _
  have b5 := i.r.2
  refine r_aload_n (dk kX8_citation 0 rfl) rfl ?_
  refine r_iload_n (dk kX8_citation 1 rfl) rfl ?_
  refine r_callV (I' := IX8_requireRuling) (as := [_]) (dk kX8_citation 2 rfl) mv_X8_requireRuling ml_X8_180 rfl rfl o.k rfl rfl (Nat.le_of_ble_eq_true rfl) ⟨by decide, by decide⟩ ⟨Nat.le_of_ble_eq_true rfl, Nat.le_of_ble_eq_true rfl⟩ (k_X8_requireRuling o v i y) ?_ ?_
  · rintro E M' ⟨h1, h2, h3⟩
    rw [show sp_citation g y c = (1, 0) by unfold sp_citation; rw [h1]]
    exact ⟨by decide, h2, h3⟩
  rintro w M' ⟨r, rfl, rfl, k, hk, rfl, hx, rfl⟩
  show WW G IX8_citation _ 5 [.ref x, .int (nI k), .int c, lj] [.ref (x + 15 + k)] M' 1 6
  have kr := o.s.kr2 (k := k) (by omega)
  obtain ⟨-, -, ⟨hS, hS2⟩, -⟩ := i.ri hk
  have f0 := (v.r2 hk).2.2.2.1
  cases e : ixo (gn g (123 + 6 * k + 2)) c with
  | none =>
    have hn := ixo_0 (by omega) e
    rw [show sp_citation g (nI k) c = (2, 0) by unfold sp_citation; rw [hx]; show (match ixo (gn g (123 + 6 * k + 2)) c with | none => _ | some c => _) = _; rw [e]]
    by_cases h0 : c < 0
    · refine r_astore_n (j := 3) (dk kX8_citation 3 rfl) rfl (by decide) rfl ?_
      simp only [List.set_cons_succ, List.set_cons_zero]
      refine r_iload_n (dk kX8_citation 4 rfl) rfl ?_
      refine r_if_lt (tgt := 18) (dk kX8_citation 5 rfl) (by decide) (fun c7 => ?_) (fun c7 => absurd h0 c7)
      -- at 18
      refine r_throwN (is := 139) (List.mem_of_getElem? (i := 1) rfl) rfl rfl (dk kX8_citation 10 rfl) (dk kX8_citation 11 rfl) (dk kX8_citation 12 rfl) (dk kX8_citation 13 rfl) (dk kX8_citation 14 rfl) ⟨Nat.le_of_ble_eq_true rfl, Nat.le_of_ble_eq_true rfl⟩ ⟨Nat.le_of_ble_eq_true rfl, Nat.le_of_ble_eq_true rfl⟩ (fun z => ?_)
      exact ⟨by decide, rfl, _, rfl⟩
    · refine r_astore_n (j := 3) (dk kX8_citation 3 rfl) rfl (by decide) rfl ?_
      simp only [List.set_cons_succ, List.set_cons_zero]
      refine r_iload_n (dk kX8_citation 4 rfl) rfl ?_
      refine r_if_lt (tgt := 18) (dk kX8_citation 5 rfl) (by decide) (fun c7 => absurd c7 h0) (fun c7 => ?_)
      refine r_iload_n (dk kX8_citation 6 rfl) rfl ?_
      refine r_aload_n (dk kX8_citation 7 rfl) rfl ?_
      refine r_geti (dk kX8_citation 8 rfl) fa_X8_193_4 kr rfl ?_
      -- at 15
      rw [f0, hS]
      refine r_icmp_lt (tgt := 28) (dk kX8_citation 9 rfl) (by decide) (fun c15 => absurd c15 (fun z => hn ⟨Int32.not_lt.mp h0, z⟩)) (fun c15 => ?_)
      -- at 18
      refine r_throwN (is := 139) (List.mem_of_getElem? (i := 1) rfl) rfl rfl (dk kX8_citation 10 rfl) (dk kX8_citation 11 rfl) (dk kX8_citation 12 rfl) (dk kX8_citation 13 rfl) (dk kX8_citation 14 rfl) ⟨Nat.le_of_ble_eq_true rfl, Nat.le_of_ble_eq_true rfl⟩ ⟨Nat.le_of_ble_eq_true rfl, Nat.le_of_ble_eq_true rfl⟩ (fun z => ?_)
      exact ⟨by decide, rfl, _, rfl⟩
  | some n =>
    obtain ⟨h1, rfl, h2⟩ := ixo_1 (by omega) e
    rw [show sp_citation g (nI k) (nI n) = (0, g (123 + 6 * k + 3 + n)) by unfold sp_citation; rw [hx]; show (match ixo (gn g (123 + 6 * k + 2)) (nI n) with | none => _ | some c => _) = _; rw [e]]
    refine r_astore_n (j := 3) (dk kX8_citation 3 rfl) rfl (by decide) rfl ?_
    simp only [List.set_cons_succ, List.set_cons_zero]
    refine r_iload_n (dk kX8_citation 4 rfl) rfl ?_
    refine r_if_lt (tgt := 18) (dk kX8_citation 5 rfl) (by decide) (fun c7 => absurd c7 (nI_pos (by omega))) (fun c7 => ?_)
    refine r_iload_n (dk kX8_citation 6 rfl) rfl ?_
    refine r_aload_n (dk kX8_citation 7 rfl) rfl ?_
    refine r_geti (dk kX8_citation 8 rfl) fa_X8_193_4 kr rfl ?_
    -- at 15
    rw [f0, hS]
    refine r_icmp_lt (tgt := 28) (dk kX8_citation 9 rfl) (by decide) (fun c15 => ?_) (fun c15 => absurd h2.2 c15)
    refine r_aload_n (dk kX8_citation 15 rfl) rfl ?_
    refine r_iload_n (dk kX8_citation 16 rfl) rfl ?_
    refine r_callUp (I' := IX0_citedAt) (as := [_]) (dk kX8_citation 17 rfl) mu_X8_196_4 rfl rfl kr rfl rfl (Nat.le_of_ble_eq_true rfl) ⟨by decide, by decide⟩ ⟨rfl, rfl⟩ ⟨Nat.le_of_ble_eq_true rfl, Nat.le_of_ble_eq_true rfl⟩ (k_X0_citedAtR kr (by omega)) ?_
    refine r_ireturn (dk kX8_citation 18 rfl) rfl rfl ⟨Nat.le_of_ble_eq_true rfl, Nat.le_of_ble_eq_true rfl⟩ ⟨rfl, (v.r2 hk).2.2.2.2 n h1, rfl⟩
theorem gNames_lt {k r : Nat} (i : GI F g) (hk : k < gn g 5) (hr : r < gn g 5) (h : gNames g k (nI r) = true) : r < k := by
  have := i.r.2
  exact gCt_lt (i.ri hk) ((gCt_names (i.ri hk) (by omega) (by omega)).mp h)
theorem k_X8_citedBy (o : BO M x) (v : SV M (x + 1) g q) (i : GI F g) (y : Int32) : KK G IX8_citedBy [.ref x, .int y] M (QSp M (sp_citedBy g y) nm1) := by
  refine KK.ofW (by decide) (by simp [Value.category]) (Nat.le_of_ble_eq_true rfl) rfl ?_
  show WW _ _ _ 0 [_, _, lj, lj] [] _ _ _
  have b5 := i.r.2
  refine r_aload_n (dk kX8_citedBy 0 rfl) rfl ?_
  refine r_iload_n (dk kX8_citedBy 1 rfl) rfl ?_
  refine r_callV (I' := IX8_requireRuling) (as := [_]) (dk kX8_citedBy 2 rfl) mv_X8_requireRuling ml_X8_180 rfl rfl o.k rfl rfl (Nat.le_of_ble_eq_true rfl) ⟨by decide, by decide⟩ ⟨Nat.le_of_ble_eq_true rfl, Nat.le_of_ble_eq_true rfl⟩ (k_X8_requireRuling o v i y) ?_ ?_
  · exact fun E M' z => QRr_x z
  rintro w M' ⟨r, rfl, rfl, k, hk, rfl, hx, rfl⟩
  show WW G IX8_citedBy _ 5 [.ref x, .int (nI k), lj, lj] [.ref (x + 15 + k)] M' 1 6
  rw [show sp_citedBy g (nI k) = (0, nI (ct (fun z => gNames g z (nI k)) (gn g 5))) from srS hx]
  have z0 : ct (fun z => gNames g z (nI k)) (k + 1) = 0 := ct_0 fun z hz => by
    cases hn : gNames g z (nI k) with
    | false => rfl
    | true =>
      have := gNames_lt i (show z < gn g 5 by omega) hk hn
      omega
  refine r_pop (dk kX8_citedBy 3 rfl) rfl ?_
  refine r_iconst (v := 0) (dk kX8_citedBy 4 rfl) (by decide) ?_
  refine r_istore_n (j := 2) (dk kX8_citedBy 5 rfl) rfl (by decide) rfl ?_
  simp only [List.set_cons_succ, List.set_cons_zero]
  refine r_iload_n (dk kX8_citedBy 6 rfl) rfl ?_
  refine r_iconst (v := 1) (dk kX8_citedBy 7 rfl) (by decide) ?_
  refine r_iadd (dk kX8_citedBy 8 rfl) ?_
  -- at 11
  rw [nI_1]
  refine r_istore_n (j := 3) (dk kX8_citedBy 9 rfl) rfl (by decide) rfl ?_
  simp only [List.set_cons_succ, List.set_cons_zero]
  -- at 12
  suffices key : ∀ d j, j + d = gn g 5 → k < j → WW G IX8_citedBy (QSp M' (0, nI (ct (fun z => gNames g z (nI k)) (gn g 5))) nm1) 12 [.ref x, .int (nI k), .int (nI (ct (fun z => gNames g z (nI k)) j)), .int (nI j)] [] M' 1 6 by
    have h := key (gn g 5 - (k + 1)) (k + 1) (by omega) (by omega)
    rw [z0] at h
    exact h
  intro d
  induction d with
  | zero =>
    intro j hj hkj
    have hj : j = gn g 5 := hj
    refine r_iload_n (dk kX8_citedBy 10 rfl) rfl ?_
    refine r_aload_n (dk kX8_citedBy 11 rfl) rfl ?_
    refine r_getR (dk kX8_citedBy 12 rfl) fa_X8_12_7 o.k rfl o.r0 ?_
    refine r_geti (dk kX8_citedBy 13 rfl) fa_X8_177_5 o.s.k rfl ?_
    -- at 20
    rw [v.c5 i]
    refine r_icmp_ge (tgt := 48) (dk kX8_citedBy 14 rfl) (by decide) (fun c20 => ?_) (fun c20 => absurd (nI_le (by omega) (by omega)) c20)
    refine r_iload_n (dk kX8_citedBy 26 rfl) rfl ?_
    refine r_ireturn (dk kX8_citedBy 27 rfl) rfl rfl ⟨Nat.le_of_ble_eq_true rfl, Nat.le_of_ble_eq_true rfl⟩ ⟨rfl, by rw [hj], rfl⟩
  | succ d ih =>
    intro j hj hkj
    have hst : ct (fun z => gNames g z (nI k)) (j + 1) = ct (fun z => gNames g z (nI k)) j + (if gNames g j (nI k) = true then 1 else 0) := rfl
    have kr := o.s.kr (j := j) (by omega)
    obtain ⟨-, -, ⟨hS, hS2⟩, -⟩ := i.ri (show j < gn g 5 by omega)
    obtain ⟨-, -, -, f0, fc⟩ := v.r (show j < gn g 5 by omega)
    have hrf := k_X0_refersToR (G := G) (M := M') kr hS2 (f0.trans hS) (nI k)
    rw [show (fx (fun c => decide (mi M' (x + 1 + 14 + j) (1 + c) = nI k)) (gn g (123 + 6 * j + 2))) = fx (fun c => decide (g (123 + 6 * j + 3 + c) = nI k)) (gn g (123 + 6 * j + 2)) from fx_cong (fun c hc => by rw [fc c hc])] at hrf
    refine r_iload_n (dk kX8_citedBy 10 rfl) rfl ?_
    refine r_aload_n (dk kX8_citedBy 11 rfl) rfl ?_
    refine r_getR (dk kX8_citedBy 12 rfl) fa_X8_12_7 o.k rfl o.r0 ?_
    refine r_geti (dk kX8_citedBy 13 rfl) fa_X8_177_5 o.s.k rfl ?_
    -- at 20
    rw [v.c5 i]
    refine r_icmp_ge (tgt := 48) (dk kX8_citedBy 14 rfl) (by decide) (fun c20 => absurd c20 (nI_ge (by omega) (by omega))) (fun c20 => ?_)
    refine r_aload_n (dk kX8_citedBy 15 rfl) rfl ?_
    refine r_getR (dk kX8_citedBy 16 rfl) fa_X8_12_7 o.k rfl o.r0 ?_
    refine r_getR (dk kX8_citedBy 17 rfl) fa_X8_199_5 o.s.k rfl o.s.r4 ?_
    refine r_iload_n (dk kX8_citedBy 18 rfl) rfl ?_
    refine r_aal (dk kX8_citedBy 19 rfl) o.s.k5 (by decide) o.s.l5 rfl (show j < 16 by omega) (by decide) (o.s.rr (by omega)) ?_
    refine r_iload_n (dk kX8_citedBy 20 rfl) rfl ?_
    refine r_callUp (I' := IX0_refersTo) (as := [_]) (dk kX8_citedBy 21 rfl) mu_X8_203_4 rfl rfl kr rfl rfl (Nat.le_of_ble_eq_true rfl) ⟨by decide, by decide⟩ ⟨rfl, rfl⟩ ⟨Nat.le_of_ble_eq_true rfl, Nat.le_of_ble_eq_true rfl⟩ hrf ?_
    -- at 36
    by_cases hc : gNames g j (nI k) = true
    · rw [if_pos hc] at hst
      unfold gNames at hc
      rw [bI_t hc]
      refine r_if_eq (tgt := 42) (dk kX8_citedBy 22 rfl) (by decide) (fun c36 => absurd c36 (by decide)) (fun c36 => ?_)
      refine r_iinc (dk kX8_citedBy 23 rfl) (by decide) rfl rfl rfl ?_
      simp only [List.set_cons_succ, List.set_cons_zero]
      refine r_iinc (dk kX8_citedBy 24 rfl) (by decide) rfl rfl rfl ?_
      simp only [List.set_cons_succ, List.set_cons_zero]
      refine r_goto (tgt := 12) (dk kX8_citedBy 25 rfl) (by decide) ?_
      -- at 12
      rw [show nI j + Int32.ofInt 1 = nI (j + 1) from nI_1 j, show nI (ct (fun z => gNames g z (nI k)) j) + Int32.ofInt 1 = nI (ct (fun z => gNames g z (nI k)) (j + 1)) from (nI_1 _).trans (by rw [hst])]
      exact ih (j + 1) (by omega) (by omega)
    · rw [if_neg hc] at hst
      unfold gNames at hc
      rw [bI_f hc]
      refine r_if_eq (tgt := 42) (dk kX8_citedBy 22 rfl) (by decide) (fun c36 => ?_) (fun c36 => absurd rfl c36)
      refine r_iinc (dk kX8_citedBy 24 rfl) (by decide) rfl rfl rfl ?_
      simp only [List.set_cons_succ, List.set_cons_zero]
      refine r_goto (tgt := 12) (dk kX8_citedBy 25 rfl) (by decide) ?_
      -- at 12
      rw [show nI j + Int32.ofInt 1 = nI (j + 1) from nI_1 j]
      have h := ih (j + 1) (by omega) (by omega)
      rw [hst] at h
      exact h
theorem k_X8_isBasedOn (o : BO M x) (v : SV M (x + 1) g q) (i : GI F g) (y c : Int32) : KK G IX8_isBasedOn [.ref x, .int y, .int c] M (QSp M (sp_isBasedOn g y c) nm1) := by
  refine KK.ofW (by decide) (by simp [Value.category]) (Nat.le_of_ble_eq_true rfl) rfl ?_
  show WW _ _ _ 0 [_, _, _] [] _ _ _
  have b5 := i.r.2
  refine r_aload_n (dk kX8_isBasedOn 0 rfl) rfl ?_
  refine r_iload_n (dk kX8_isBasedOn 1 rfl) rfl ?_
  refine r_callV (I' := IX8_requireRuling) (as := [_]) (dk kX8_isBasedOn 2 rfl) mv_X8_requireRuling ml_X8_180 rfl rfl o.k rfl rfl (Nat.le_of_ble_eq_true rfl) ⟨by decide, by decide⟩ ⟨Nat.le_of_ble_eq_true rfl, Nat.le_of_ble_eq_true rfl⟩ (k_X8_requireRuling o v i y) ?_ ?_
  · rintro E M' ⟨h1, h2, h3⟩
    rw [show sp_isBasedOn g y c = (1, 0) by unfold sp_isBasedOn; rw [h1]]
    exact ⟨by decide, h2, h3⟩
  rintro w M' ⟨r, rfl, rfl, k, hk, rfl, hx, rfl⟩
  show WW G IX8_isBasedOn _ 5 [.ref x, .int (nI k), .int c] [.ref (x + 15 + k)] M' 1 6
  refine r_pop (dk kX8_isBasedOn 3 rfl) rfl ?_
  refine r_aload_n (dk kX8_isBasedOn 4 rfl) rfl ?_
  refine r_iload_n (dk kX8_isBasedOn 5 rfl) rfl ?_
  refine r_callV (I' := IX8_requireRuling) (as := [_]) (dk kX8_isBasedOn 6 rfl) mv_X8_requireRuling ml_X8_180 rfl rfl o.k rfl rfl (Nat.le_of_ble_eq_true rfl) ⟨by decide, by decide⟩ ⟨Nat.le_of_ble_eq_true rfl, Nat.le_of_ble_eq_true rfl⟩ (k_X8_requireRuling o v i c) ?_ ?_
  · rintro E M2 ⟨h1, h2, h3⟩
    rw [show sp_isBasedOn g (nI k) c = (1, 0) by unfold sp_isBasedOn; rw [hx]; show (match ixo (gn g 5) c with | none => _ | some j => _) = _; rw [h1]]
    exact ⟨by decide, h2, h3⟩
  rintro w M2 ⟨r, rfl, rfl, j, hj, rfl, hx2, rfl⟩
  show WW G IX8_isBasedOn _ 11 [.ref x, .int (nI k), .int (nI j)] [.ref (x + 15 + j)] M2 2 12
  rw [show sp_isBasedOn g (nI k) (nI j) = (0, bI (gBased g j k = true)) by unfold sp_isBasedOn; rw [hx]; show (match ixo (gn g 5) (nI j) with | none => _ | some j => _) = _; rw [hx2]]
  refine r_pop (dk kX8_isBasedOn 7 rfl) rfl ?_
  refine r_aload_n (dk kX8_isBasedOn 8 rfl) rfl ?_
  refine r_getR (dk kX8_isBasedOn 9 rfl) fa_X8_12_7 o.k rfl o.r0 ?_
  refine r_iload_n (dk kX8_isBasedOn 10 rfl) rfl ?_
  refine r_iload_n (dk kX8_isBasedOn 11 rfl) rfl ?_
  refine r_callVp (I' := IX6_restsOn) (as := [_, _]) (dk kX8_isBasedOn 12 rfl) mv_X6_restsOn ml_X8_209 rfl rfl o.s.k rfl rfl (Nat.le_of_ble_eq_true rfl) ⟨by decide, by decide⟩ ⟨rfl, rfl⟩ ⟨Nat.le_of_ble_eq_true rfl, Nat.le_of_ble_eq_true rfl⟩ (k_X6_restsOn o.s v i hk hj) ?_
  refine r_ireturn (dk kX8_isBasedOn 13 rfl) rfl (nbI _) ⟨Nat.le_of_ble_eq_true rfl, Nat.le_of_ble_eq_true rfl⟩ ⟨rfl, rfl, rfl⟩
theorem k_X8_influence (o : BO M x) (v : SV M (x + 1) g q) (i : GI F g) (y : Int32) : KK G IX8_influence [.ref x, .int y] M (QSp M (sp_influence g y) nm1) := by
  refine KK.ofW (by decide) (by simp [Value.category]) (Nat.le_of_ble_eq_true rfl) rfl ?_
  show WW _ _ _ 0 [_, _, lj, lj] [] _ _ _
  have b5 := i.r.2
  refine r_aload_n (dk kX8_influence 0 rfl) rfl ?_
  refine r_iload_n (dk kX8_influence 1 rfl) rfl ?_
  refine r_callV (I' := IX8_requireRuling) (as := [_]) (dk kX8_influence 2 rfl) mv_X8_requireRuling ml_X8_180 rfl rfl o.k rfl rfl (Nat.le_of_ble_eq_true rfl) ⟨by decide, by decide⟩ ⟨Nat.le_of_ble_eq_true rfl, Nat.le_of_ble_eq_true rfl⟩ (k_X8_requireRuling o v i y) ?_ ?_
  · exact fun E M' z => QRr_x z
  rintro w M' ⟨r, rfl, rfl, k, hk, rfl, hx, rfl⟩
  show WW G IX8_influence _ 5 [.ref x, .int (nI k), lj, lj] [.ref (x + 15 + k)] M' 1 6
  rw [show sp_influence g (nI k) = (0, nI (gReach g k)) from srS hx]
  refine r_pop (dk kX8_influence 3 rfl) rfl ?_
  refine r_iconst (v := 0) (dk kX8_influence 4 rfl) (by decide) ?_
  refine r_istore_n (j := 2) (dk kX8_influence 5 rfl) rfl (by decide) rfl ?_
  simp only [List.set_cons_succ, List.set_cons_zero]
  refine r_iconst (v := 0) (dk kX8_influence 6 rfl) (by decide) ?_
  refine r_istore_n (j := 3) (dk kX8_influence 7 rfl) rfl (by decide) rfl ?_
  simp only [List.set_cons_succ, List.set_cons_zero]
  -- at 10
  suffices key : ∀ d j, j + d = gn g 5 → WW G IX8_influence (QSp M' (0, nI (gReach g k)) nm1) 10 [.ref x, .int (nI k), .int (nI (ct (fun z => gBased g k z) j)), .int (nI j)] [] M' 1 6 from key _ 0 (Nat.zero_add _)
  intro d
  induction d with
  | zero =>
    intro j hj
    have hj : j = gn g 5 := hj
    refine r_iload_n (dk kX8_influence 8 rfl) rfl ?_
    refine r_aload_n (dk kX8_influence 9 rfl) rfl ?_
    refine r_getR (dk kX8_influence 10 rfl) fa_X8_12_7 o.k rfl o.r0 ?_
    refine r_geti (dk kX8_influence 11 rfl) fa_X8_177_5 o.s.k rfl ?_
    -- at 18
    rw [v.c5 i]
    refine r_icmp_ge (tgt := 42) (dk kX8_influence 12 rfl) (by decide) (fun c18 => ?_) (fun c18 => absurd (nI_le (by omega) (by omega)) c18)
    refine r_iload_n (dk kX8_influence 22 rfl) rfl ?_
    refine r_ireturn (dk kX8_influence 23 rfl) rfl rfl ⟨Nat.le_of_ble_eq_true rfl, Nat.le_of_ble_eq_true rfl⟩ ⟨rfl, by rw [hj]; rfl, rfl⟩
  | succ d ih =>
    intro j hj
    have hst : ct (fun z => gBased g k z) (j + 1) = ct (fun z => gBased g k z) j + (if gBased g k j = true then 1 else 0) := rfl
    refine r_iload_n (dk kX8_influence 8 rfl) rfl ?_
    refine r_aload_n (dk kX8_influence 9 rfl) rfl ?_
    refine r_getR (dk kX8_influence 10 rfl) fa_X8_12_7 o.k rfl o.r0 ?_
    refine r_geti (dk kX8_influence 11 rfl) fa_X8_177_5 o.s.k rfl ?_
    -- at 18
    rw [v.c5 i]
    refine r_icmp_ge (tgt := 42) (dk kX8_influence 12 rfl) (by decide) (fun c18 => absurd c18 (nI_ge (by omega) (by omega))) (fun c18 => ?_)
    refine r_aload_n (dk kX8_influence 13 rfl) rfl ?_
    refine r_getR (dk kX8_influence 14 rfl) fa_X8_12_7 o.k rfl o.r0 ?_
    refine r_iload_n (dk kX8_influence 15 rfl) rfl ?_
    refine r_iload_n (dk kX8_influence 16 rfl) rfl ?_
    refine r_callVp (I' := IX6_restsOn) (as := [_, _]) (dk kX8_influence 17 rfl) mv_X6_restsOn ml_X8_209 rfl rfl o.s.k rfl rfl (Nat.le_of_ble_eq_true rfl) ⟨by decide, by decide⟩ ⟨rfl, rfl⟩ ⟨Nat.le_of_ble_eq_true rfl, Nat.le_of_ble_eq_true rfl⟩ (k_X6_restsOn o.s v i (show j < gn g 5 by omega) hk) ?_
    -- at 30
    by_cases hc : gBased g k j = true
    · rw [if_pos hc] at hst
      rw [bI_t hc]
      refine r_if_eq (tgt := 36) (dk kX8_influence 18 rfl) (by decide) (fun c30 => absurd c30 (by decide)) (fun c30 => ?_)
      refine r_iinc (dk kX8_influence 19 rfl) (by decide) rfl rfl rfl ?_
      simp only [List.set_cons_succ, List.set_cons_zero]
      refine r_iinc (dk kX8_influence 20 rfl) (by decide) rfl rfl rfl ?_
      simp only [List.set_cons_succ, List.set_cons_zero]
      refine r_goto (tgt := 10) (dk kX8_influence 21 rfl) (by decide) ?_
      -- at 10
      rw [show nI j + Int32.ofInt 1 = nI (j + 1) from nI_1 j, show nI (ct (fun z => gBased g k z) j) + Int32.ofInt 1 = nI (ct (fun z => gBased g k z) (j + 1)) from (nI_1 _).trans (by rw [hst])]
      exact ih (j + 1) (by omega)
    · rw [if_neg hc] at hst
      rw [bI_f hc]
      refine r_if_eq (tgt := 36) (dk kX8_influence 18 rfl) (by decide) (fun c30 => ?_) (fun c30 => absurd rfl c30)
      refine r_iinc (dk kX8_influence 20 rfl) (by decide) rfl rfl rfl ?_
      simp only [List.set_cons_succ, List.set_cons_zero]
      refine r_goto (tgt := 10) (dk kX8_influence 21 rfl) (by decide) ?_
      -- at 10
      rw [show nI j + Int32.ofInt 1 = nI (j + 1) from nI_1 j]
      have h := ih (j + 1) (by omega)
      rw [hst] at h
      exact h
theorem k_X8_influenceByMarking (o : BO M x) (v : SV M (x + 1) g q) (i : GI F g) (y : Int32) : KK G IX8_influenceByMarking [.ref x, .int y] M (QSp M (sp_influence g y) nm1) := by
  refine KK.ofW (by decide) (by simp [Value.category]) (Nat.le_of_ble_eq_true rfl) rfl ?_
  show WW _ _ _ 0 [_, _] [] _ _ _
  have b5 := i.r.2
  refine r_aload_n (dk kX8_influenceByMarking 0 rfl) rfl ?_
  refine r_iload_n (dk kX8_influenceByMarking 1 rfl) rfl ?_
  refine r_callV (I' := IX8_requireRuling) (as := [_]) (dk kX8_influenceByMarking 2 rfl) mv_X8_requireRuling ml_X8_180 rfl rfl o.k rfl rfl (Nat.le_of_ble_eq_true rfl) ⟨by decide, by decide⟩ ⟨Nat.le_of_ble_eq_true rfl, Nat.le_of_ble_eq_true rfl⟩ (k_X8_requireRuling o v i y) ?_ ?_
  · exact fun E M' z => QRr_x z
  rintro w M' ⟨r, rfl, rfl, k, hk, rfl, hx, rfl⟩
  show WW G IX8_influenceByMarking _ 5 [.ref x, .int (nI k)] [.ref (x + 15 + k)] M' 1 6
  rw [show sp_influence g (nI k) = (0, nI (gReach g k)) from srS hx]
  refine r_pop (dk kX8_influenceByMarking 3 rfl) rfl ?_
  refine r_aload_n (dk kX8_influenceByMarking 4 rfl) rfl ?_
  refine r_getR (dk kX8_influenceByMarking 5 rfl) fa_X8_12_7 o.k rfl o.r0 ?_
  refine r_iload_n (dk kX8_influenceByMarking 6 rfl) rfl ?_
  refine r_callVp (I' := IX6_countMarked) (as := [_]) (dk kX8_influenceByMarking 7 rfl) mv_X6_countMarked ml_X8_213 rfl rfl o.s.k rfl rfl (Nat.le_of_ble_eq_true rfl) ⟨by decide, by decide⟩ ⟨rfl, rfl⟩ ⟨Nat.le_of_ble_eq_true rfl, Nat.le_of_ble_eq_true rfl⟩ (k_X6_countMarked o.s v i hk) ?_
  refine r_ireturn (dk kX8_influenceByMarking 8 rfl) rfl rfl ⟨Nat.le_of_ble_eq_true rfl, Nat.le_of_ble_eq_true rfl⟩ ⟨rfl, rfl, rfl⟩
theorem k_X8_undoCount (o : BO M x) {c : Nat} (hc : mi M (x + 61) 1 = nI c) : KP G IX8_undoCount [.ref x] M (nI c) := by
  refine KK.ofW (by decide) (by simp [Value.category]) (Nat.le_of_ble_eq_true rfl) rfl ?_
  show WW _ _ _ 0 [_] [] _ _ _
  refine r_aload_n (dk kX8_undoCount 0 rfl) rfl ?_
  refine r_getR (dk kX8_undoCount 1 rfl) fa_X8_22_7 o.k rfl o.r2 ?_
  refine r_geti (dk kX8_undoCount 2 rfl) fa_X8_329_1 o.h.k rfl ?_
  refine r_ireturn (dk kX8_undoCount 3 rfl) rfl rfl ⟨Nat.le_of_ble_eq_true rfl, Nat.le_of_ble_eq_true rfl⟩ ⟨hc, rfl⟩
theorem k_X8_faultPosition (o : BO M x) {f : Int32} (hf : mi M x 8 = f) (hr : f = -1 ∨ 0 ≤ f) : KK G IX8_faultPosition [.ref x] M (QSp M (bI (f < 0), if f < 0 then 0 else f) nm2) := by
  refine KK.ofW (by decide) (by simp [Value.category]) (Nat.le_of_ble_eq_true rfl) rfl ?_
  show WW _ _ _ 0 [_] [] _ _ _
  subst hf
  rcases hr with e | e
  · rw [e]
    refine r_aload_n (dk kX8_faultPosition 0 rfl) rfl ?_
    refine r_geti (dk kX8_faultPosition 1 rfl) fa_X8_47_7 o.k rfl ?_
    -- at 4
    rw [e]
    refine r_iconst (v := (-1)) (dk kX8_faultPosition 2 rfl) (by decide) ?_
    refine r_icmp_ne (tgt := 19) (dk kX8_faultPosition 3 rfl) (by decide) (fun c5 => absurd c5 (fun z => z rfl)) (fun c5 => ?_)
    -- at 8
    refine r_throwNW (is := 288) (List.mem_of_getElem? (i := 8) rfl) rfl rfl (dk kX8_faultPosition 4 rfl) (dk kX8_faultPosition 5 rfl) (dk kX8_faultPosition 6 rfl) (dk kX8_faultPosition 7 rfl) (dk kX8_faultPosition 8 rfl) ⟨Nat.le_of_ble_eq_true rfl, Nat.le_of_ble_eq_true rfl⟩ ⟨Nat.le_of_ble_eq_true rfl, Nat.le_of_ble_eq_true rfl⟩ (fun z => ?_)
    exact ⟨by decide, rfl, _, rfl⟩
  · have h1 : ¬ mi M x 8 < 0 := Int32.not_lt.mpr e
    rw [bI_f h1, if_neg h1]
    refine r_aload_n (dk kX8_faultPosition 0 rfl) rfl ?_
    refine r_geti (dk kX8_faultPosition 1 rfl) fa_X8_47_7 o.k rfl ?_
    refine r_iconst (v := (-1)) (dk kX8_faultPosition 2 rfl) (by decide) ?_
    refine r_icmp_ne (tgt := 19) (dk kX8_faultPosition 3 rfl) (by decide) (fun c5 => ?_) (fun c5 => absurd (fun z => h1 (by rw [z]; decide)) c5)
    refine r_aload_n (dk kX8_faultPosition 9 rfl) rfl ?_
    refine r_geti (dk kX8_faultPosition 10 rfl) fa_X8_47_7 o.k rfl ?_
    refine r_ireturn (dk kX8_faultPosition 11 rfl) rfl rfl ⟨Nat.le_of_ble_eq_true rfl, Nat.le_of_ble_eq_true rfl⟩ ⟨rfl, rfl, rfl⟩
theorem k_X8_lineCharacter (o : BO M x) {l : LN} (c : C5 M x l) (y : Int32) : KK G IX8_lineCharacter [.ref x, .int y] M (QSp M (match ixo l.2 y with | none => (1, 32) | some k => (0, l.1 k)) nm1) := by
  refine KK.ofW (by decide) (by simp [Value.category]) (Nat.le_of_ble_eq_true rfl) rfl ?_
  show WW _ _ _ 0 [_, _] [] _ _ _
  obtain ⟨d1, d2, d3, d4⟩ := c
  cases e : ixo l.2 y with
  | none =>
    have hn := ixo_0 (by omega) e
    by_cases h0 : y < 0
    · refine r_iload_n (dk kX8_lineCharacter 0 rfl) rfl ?_
      refine r_if_lt (tgt := 15) (dk kX8_lineCharacter 1 rfl) (by decide) (fun c1 => ?_) (fun c1 => absurd h0 c1)
      -- at 15
      refine r_throwSW xw_73 (is := 305) (List.mem_of_getElem? (i := 10) rfl) rfl rfl (dk kX8_lineCharacter 7 rfl) (dk kX8_lineCharacter 8 rfl) (dk kX8_lineCharacter 9 rfl) (dk kX8_lineCharacter 10 rfl) (dk kX8_lineCharacter 11 rfl) ⟨Nat.le_of_ble_eq_true rfl, Nat.le_of_ble_eq_true rfl⟩ ⟨Nat.le_of_ble_eq_true rfl, Nat.le_of_ble_eq_true rfl⟩ (fun z => ?_)
      exact ⟨show (1 : Int32) ≠ 0 by decide, rfl, _, rfl⟩
    · refine r_iload_n (dk kX8_lineCharacter 0 rfl) rfl ?_
      refine r_if_lt (tgt := 15) (dk kX8_lineCharacter 1 rfl) (by decide) (fun c1 => absurd c1 h0) (fun c1 => ?_)
      refine r_iload_n (dk kX8_lineCharacter 2 rfl) rfl ?_
      refine r_aload_n (dk kX8_lineCharacter 3 rfl) rfl ?_
      refine r_getR (dk kX8_lineCharacter 4 rfl) fa_X8_33_7 o.k rfl o.r4 ?_
      refine r_geti (dk kX8_lineCharacter 5 rfl) fa_X8_243_2 o.l.1 rfl ?_
      -- at 12
      rw [d1]
      refine r_icmp_lt (tgt := 26) (dk kX8_lineCharacter 6 rfl) (by decide) (fun c12 => absurd c12 (fun z => hn ⟨Int32.not_lt.mp h0, z⟩)) (fun c12 => ?_)
      -- at 15
      refine r_throwSW xw_73 (is := 305) (List.mem_of_getElem? (i := 10) rfl) rfl rfl (dk kX8_lineCharacter 7 rfl) (dk kX8_lineCharacter 8 rfl) (dk kX8_lineCharacter 9 rfl) (dk kX8_lineCharacter 10 rfl) (dk kX8_lineCharacter 11 rfl) ⟨Nat.le_of_ble_eq_true rfl, Nat.le_of_ble_eq_true rfl⟩ ⟨Nat.le_of_ble_eq_true rfl, Nat.le_of_ble_eq_true rfl⟩ (fun z => ?_)
      exact ⟨show (1 : Int32) ≠ 0 by decide, rfl, _, rfl⟩
  | some k =>
    obtain ⟨h1, rfl, h2⟩ := ixo_1 (by omega) e
    have hch : ∀ k, k < l.2 → narrow .char (.int (mi M (x + 335 + 1) k)) = .int (mi M (x + 335 + 1) k) := fun k hk => by
      obtain ⟨z, hz, e2⟩ := d4 k hk
      have := d3 k hk
      rw [show x + 335 + 1 = x + 336 from rfl, this, e2]
      exact (pk_charN (by omega)).1
    have ha := k_X3_at (G := G) o.l d1 d2 hch (p := k) (by omega)
    rw [if_pos h1] at ha
    refine r_iload_n (dk kX8_lineCharacter 0 rfl) rfl ?_
    refine r_if_lt (tgt := 15) (dk kX8_lineCharacter 1 rfl) (by decide) (fun c1 => absurd c1 (nI_pos (by omega))) (fun c1 => ?_)
    refine r_iload_n (dk kX8_lineCharacter 2 rfl) rfl ?_
    refine r_aload_n (dk kX8_lineCharacter 3 rfl) rfl ?_
    refine r_getR (dk kX8_lineCharacter 4 rfl) fa_X8_33_7 o.k rfl o.r4 ?_
    refine r_geti (dk kX8_lineCharacter 5 rfl) fa_X8_243_2 o.l.1 rfl ?_
    -- at 12
    rw [d1]
    refine r_icmp_lt (tgt := 26) (dk kX8_lineCharacter 6 rfl) (by decide) (fun c12 => ?_) (fun c12 => absurd h2.2 c12)
    refine r_aload_n (dk kX8_lineCharacter 12 rfl) rfl ?_
    refine r_getR (dk kX8_lineCharacter 13 rfl) fa_X8_33_7 o.k rfl o.r4 ?_
    refine r_iload_n (dk kX8_lineCharacter 14 rfl) rfl ?_
    refine r_callVp (I' := IX3_at) (as := [_]) (dk kX8_lineCharacter 15 rfl) mv_X3_at ml_X8_307 rfl rfl o.l.1 rfl rfl (Nat.le_of_ble_eq_true rfl) ⟨by decide, by decide⟩ ⟨rfl, rfl⟩ ⟨Nat.le_of_ble_eq_true rfl, Nat.le_of_ble_eq_true rfl⟩ ha ?_
    refine r_ireturn (dk kX8_lineCharacter 16 rfl) rfl (hch k h1) ⟨Nat.le_of_ble_eq_true rfl, Nat.le_of_ble_eq_true rfl⟩ ⟨rfl, d3 k h1, rfl⟩
theorem k_X8_requireDenial (o : BO M x) : KK G IX8_requireDenial [.ref x] M (qv (fun M' => mi M x 11 ≠ 0 ∧ M' = M) (fun E M' => mi M x 11 = 0 ∧ E = nE ∧ ∃ z, M' = sX M z)) := by
  refine KK.ofW (by decide) (by simp [Value.category]) (Nat.le_of_ble_eq_true rfl) rfl ?_
  show WW _ _ _ 0 [_] [] _ _ _
  by_cases h : mi M x 11 = 0
  · refine r_aload_n (dk kX8_requireDenial 0 rfl) rfl ?_
    refine r_geti (dk kX8_requireDenial 1 rfl) fa_X8_314_7 o.k rfl ?_
    refine r_if_ne (tgt := 18) (dk kX8_requireDenial 2 rfl) (by decide) (fun c4 => absurd c4 (fun z => z h)) (fun c4 => ?_)
    -- at 7
    refine r_throwNW (is := 440) (List.mem_of_getElem? (i := 19) rfl) rfl rfl (dk kX8_requireDenial 3 rfl) (dk kX8_requireDenial 4 rfl) (dk kX8_requireDenial 5 rfl) (dk kX8_requireDenial 6 rfl) (dk kX8_requireDenial 7 rfl) ⟨Nat.le_of_ble_eq_true rfl, Nat.le_of_ble_eq_true rfl⟩ ⟨Nat.le_of_ble_eq_true rfl, Nat.le_of_ble_eq_true rfl⟩ (fun z => ?_)
    exact ⟨h, rfl, _, rfl⟩
  · refine r_aload_n (dk kX8_requireDenial 0 rfl) rfl ?_
    refine r_geti (dk kX8_requireDenial 1 rfl) fa_X8_314_7 o.k rfl ?_
    refine r_if_ne (tgt := 18) (dk kX8_requireDenial 2 rfl) (by decide) (fun c4 => ?_) (fun c4 => absurd h c4)
    refine r_return (dk kX8_requireDenial 8 rfl) rfl ⟨Nat.le_of_ble_eq_true rfl, Nat.le_of_ble_eq_true rfl⟩ ⟨h, rfl⟩
theorem k_X8_requireCause (o : BO M x) : KK G IX8_requireCause [.ref x] M (qv (fun M' => mi M x 13 ≠ 0 ∧ M' = M) (fun E M' => mi M x 13 = 0 ∧ E = nE ∧ ∃ z, M' = sX M z)) := by
  refine KK.ofW (by decide) (by simp [Value.category]) (Nat.le_of_ble_eq_true rfl) rfl ?_
  show WW _ _ _ 0 [_] [] _ _ _
  by_cases h : mi M x 13 = 0
  · refine r_aload_n (dk kX8_requireCause 0 rfl) rfl ?_
    refine r_geti (dk kX8_requireCause 1 rfl) fa_X8_323_7 o.k rfl ?_
    refine r_if_ne (tgt := 18) (dk kX8_requireCause 2 rfl) (by decide) (fun c4 => absurd c4 (fun z => z h)) (fun c4 => ?_)
    -- at 7
    refine r_throwNW (is := 442) (List.mem_of_getElem? (i := 20) rfl) rfl rfl (dk kX8_requireCause 3 rfl) (dk kX8_requireCause 4 rfl) (dk kX8_requireCause 5 rfl) (dk kX8_requireCause 6 rfl) (dk kX8_requireCause 7 rfl) ⟨Nat.le_of_ble_eq_true rfl, Nat.le_of_ble_eq_true rfl⟩ ⟨Nat.le_of_ble_eq_true rfl, Nat.le_of_ble_eq_true rfl⟩ (fun z => ?_)
    exact ⟨h, rfl, _, rfl⟩
  · refine r_aload_n (dk kX8_requireCause 0 rfl) rfl ?_
    refine r_geti (dk kX8_requireCause 1 rfl) fa_X8_323_7 o.k rfl ?_
    refine r_if_ne (tgt := 18) (dk kX8_requireCause 2 rfl) (by decide) (fun c4 => ?_) (fun c4 => absurd h c4)
    refine r_return (dk kX8_requireCause 8 rfl) rfl ⟨Nat.le_of_ble_eq_true rfl, Nat.le_of_ble_eq_true rfl⟩ ⟨h, rfl⟩
theorem k_X8_denial (o : BO M x) : KK G IX8_denial [.ref x] M (QSp M (bI (mi M x 11 = 0), if mi M x 11 = 0 then 0 else mi M x 11) nm2) := by
  refine KK.ofW (by decide) (by simp [Value.category]) (Nat.le_of_ble_eq_true rfl) rfl ?_
  show WW _ _ _ 0 [_] [] _ _ _
  refine r_aload_n (dk kX8_denial 0 rfl) rfl ?_
  refine r_callV (I' := IX8_requireDenial) (as := []) (dk kX8_denial 1 rfl) mv_X8_requireDenial ml_X8_311 rfl rfl o.k rfl rfl (Nat.le_of_ble_eq_true rfl) ⟨by decide, by decide⟩ ⟨Nat.le_of_ble_eq_true rfl, Nat.le_of_ble_eq_true rfl⟩ (k_X8_requireDenial o) ?_ ?_
  · rintro E M' ⟨h1, h2, h3⟩
    rw [bI_t h1]
    exact ⟨show (1 : Int32) ≠ 0 by decide, h2, h3⟩
  rintro w M' ⟨rfl, h1, rfl⟩
  show WW G IX8_denial _ 4 [.ref x] [] M' 1 6
  rw [bI_f h1, if_neg h1]
  refine r_aload_n (dk kX8_denial 2 rfl) rfl ?_
  refine r_geti (dk kX8_denial 3 rfl) fa_X8_314_7 o.k rfl ?_
  refine r_ireturn (dk kX8_denial 4 rfl) rfl rfl ⟨Nat.le_of_ble_eq_true rfl, Nat.le_of_ble_eq_true rfl⟩ ⟨rfl, rfl, rfl⟩
theorem k_X8_denialDetail (o : BO M x) : KK G IX8_denialDetail [.ref x] M (QSp M (bI (mi M x 11 = 0), if mi M x 11 = 0 then 0 else mi M x 12) nm2) := by
  refine KK.ofW (by decide) (by simp [Value.category]) (Nat.le_of_ble_eq_true rfl) rfl ?_
  show WW _ _ _ 0 [_] [] _ _ _
  refine r_aload_n (dk kX8_denialDetail 0 rfl) rfl ?_
  refine r_callV (I' := IX8_requireDenial) (as := []) (dk kX8_denialDetail 1 rfl) mv_X8_requireDenial ml_X8_311 rfl rfl o.k rfl rfl (Nat.le_of_ble_eq_true rfl) ⟨by decide, by decide⟩ ⟨Nat.le_of_ble_eq_true rfl, Nat.le_of_ble_eq_true rfl⟩ (k_X8_requireDenial o) ?_ ?_
  · rintro E M' ⟨h1, h2, h3⟩
    rw [bI_t h1]
    exact ⟨show (1 : Int32) ≠ 0 by decide, h2, h3⟩
  rintro w M' ⟨rfl, h1, rfl⟩
  show WW G IX8_denialDetail _ 4 [.ref x] [] M' 1 6
  rw [bI_f h1, if_neg h1]
  refine r_aload_n (dk kX8_denialDetail 2 rfl) rfl ?_
  refine r_geti (dk kX8_denialDetail 3 rfl) fa_X8_317_7 o.k rfl ?_
  refine r_ireturn (dk kX8_denialDetail 4 rfl) rfl rfl ⟨Nat.le_of_ble_eq_true rfl, Nat.le_of_ble_eq_true rfl⟩ ⟨rfl, rfl, rfl⟩
theorem k_X8_denialCause (o : BO M x) : KK G IX8_denialCause [.ref x] M (QSp M (bI (mi M x 13 = 0), if mi M x 13 = 0 then 0 else mi M x 13) nm2) := by
  refine KK.ofW (by decide) (by simp [Value.category]) (Nat.le_of_ble_eq_true rfl) rfl ?_
  show WW _ _ _ 0 [_] [] _ _ _
  refine r_aload_n (dk kX8_denialCause 0 rfl) rfl ?_
  refine r_callV (I' := IX8_requireCause) (as := []) (dk kX8_denialCause 1 rfl) mv_X8_requireCause ml_X8_320 rfl rfl o.k rfl rfl (Nat.le_of_ble_eq_true rfl) ⟨by decide, by decide⟩ ⟨Nat.le_of_ble_eq_true rfl, Nat.le_of_ble_eq_true rfl⟩ (k_X8_requireCause o) ?_ ?_
  · rintro E M' ⟨h1, h2, h3⟩
    rw [bI_t h1]
    exact ⟨show (1 : Int32) ≠ 0 by decide, h2, h3⟩
  rintro w M' ⟨rfl, h1, rfl⟩
  show WW G IX8_denialCause _ 4 [.ref x] [] M' 1 6
  rw [bI_f h1, if_neg h1]
  refine r_aload_n (dk kX8_denialCause 2 rfl) rfl ?_
  refine r_geti (dk kX8_denialCause 3 rfl) fa_X8_323_7 o.k rfl ?_
  refine r_ireturn (dk kX8_denialCause 4 rfl) rfl rfl ⟨Nat.le_of_ble_eq_true rfl, Nat.le_of_ble_eq_true rfl⟩ ⟨rfl, rfl, rfl⟩
theorem k_X8_denialCauseDetail (o : BO M x) : KK G IX8_denialCauseDetail [.ref x] M (QSp M (bI (mi M x 13 = 0), if mi M x 13 = 0 then 0 else mi M x 14) nm2) := by
  refine KK.ofW (by decide) (by simp [Value.category]) (Nat.le_of_ble_eq_true rfl) rfl ?_
  show WW _ _ _ 0 [_] [] _ _ _
  refine r_aload_n (dk kX8_denialCauseDetail 0 rfl) rfl ?_
  refine r_callV (I' := IX8_requireCause) (as := []) (dk kX8_denialCauseDetail 1 rfl) mv_X8_requireCause ml_X8_320 rfl rfl o.k rfl rfl (Nat.le_of_ble_eq_true rfl) ⟨by decide, by decide⟩ ⟨Nat.le_of_ble_eq_true rfl, Nat.le_of_ble_eq_true rfl⟩ (k_X8_requireCause o) ?_ ?_
  · rintro E M' ⟨h1, h2, h3⟩
    rw [bI_t h1]
    exact ⟨show (1 : Int32) ≠ 0 by decide, h2, h3⟩
  rintro w M' ⟨rfl, h1, rfl⟩
  show WW G IX8_denialCauseDetail _ 4 [.ref x] [] M' 1 6
  rw [bI_f h1, if_neg h1]
  refine r_aload_n (dk kX8_denialCauseDetail 2 rfl) rfl ?_
  refine r_geti (dk kX8_denialCauseDetail 3 rfl) fa_X8_326_7 o.k rfl ?_
  refine r_ireturn (dk kX8_denialCauseDetail 4 rfl) rfl rfl ⟨Nat.le_of_ble_eq_true rfl, Nat.le_of_ble_eq_true rfl⟩ ⟨rfl, rfl, rfl⟩
end CLASS
