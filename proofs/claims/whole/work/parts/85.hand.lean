/-! THE LAW'S HELPERS: questions -/
section LAW
variable {G : GG} {M : Mm} {x lo F : Nat} {B : BS} {sp : SPv}
theorem hg_cellOf (cb : CB F M x B) (kl : kd M lo = 22) (ll : ln M lo = 1) (s : Int32) (hK : KK G IX8_cellOf [.ref x, .int s] M (QSp M sp nm1)) (sh : sp.1 = 0 ∨ sp.1 = 1) : KK G IL_cellOf [.ref x, .int s, .ref lo] M (QL F M x lo sp.1 sp.2 B) := by
  refine KK.ofWH (by decide) (by simp [Value.category]) (Nat.le_of_ble_eq_true rfl) rfl ?_
  show WW _ _ _ 0 [_, _, _, lj] [] _ _ _
  refine r_aload_n (dk kL_cellOf 0 rfl) rfl ?_
  refine r_iconst (v := 0) (dk kL_cellOf 1 rfl) (by decide) ?_
  refine r_aload_n (dk kL_cellOf 2 rfl) rfl ?_
  refine r_iload_n (dk kL_cellOf 3 rfl) rfl ?_
  -- at 4
  refine r_tryV (I' := IX8_cellOf) (as := [_]) (dk kL_cellOf 4 rfl) mv_X8_cellOf ml_L_23 rfl cb.o.k rfl rfl (Nat.le_of_ble_eq_true rfl) ⟨by decide, by decide⟩ ⟨Nat.le_of_ble_eq_true rfl, Nat.le_of_ble_eq_true rfl⟩ hK ?_ ?_
  · rintro E M' ⟨h0, hE, z, hz⟩
    subst hz
    rcases sh with e | e
    · exact absurd e h0
    · have hE2 : E = "java/lang/IndexOutOfBoundsException" := hE.trans (by rw [e]; rfl)
      refine ⟨12, by rw [hE2]; exact hn_cellOf_1, fun q => ?_⟩
      refine r_astore_n (j := 3) (dk kL_cellOf 8 rfl) rfl (by decide) rfl ?_
      simp only [List.set_cons_succ, List.set_cons_zero]
      refine r_iconst (v := 1) (dk kL_cellOf 9 rfl) (by decide) ?_
      refine r_ireturn (dk kL_cellOf 10 rfl) rfl rfl ⟨Nat.le_of_ble_eq_true rfl, Nat.le_of_ble_eq_true rfl⟩ ⟨e.symm, FY.rfl M x, fun z2 => absurd z2 h0, cb.sx z⟩
  · rintro v M' ⟨y9, hv, c0, hy, hM⟩
    subst hv
    subst hM
    show WW G IL_cellOf _ 7 _ [.int y9, .int 0, .ref lo] M' _ _
    refine r_i2l (dk kL_cellOf 5 rfl) ?_
    refine r_las (dk kL_cellOf 6 rfl) kl ll (j := 0) rfl (by decide) (by decide) ?_
    refine r_goto (tgt := 15) (dk kL_cellOf 7 rfl) (by decide) ?_
    refine r_iconst (v := 0) (dk kL_cellOf 11 rfl) (by decide) ?_
    refine r_ireturn (dk kL_cellOf 12 rfl) rfl rfl ⟨Nat.le_of_ble_eq_true rfl, Nat.le_of_ble_eq_true rfl⟩ ⟨c0.symm, (FY.rfl _ _).j _ _ _, fun _ => by rw [mj_s, hy], cb.sJ _ _ _⟩
theorem hg_weightOf (cb : CB F M x B) (kl : kd M lo = 22) (ll : ln M lo = 1) (s : Int32) (hK : KK G IX8_weightOf [.ref x, .int s] M (QSp M sp nm1)) (sh : sp.1 = 0 ∨ sp.1 = 1) : KK G IL_weightOf [.ref x, .int s, .ref lo] M (QL F M x lo sp.1 sp.2 B) := by
  refine KK.ofWH (by decide) (by simp [Value.category]) (Nat.le_of_ble_eq_true rfl) rfl ?_
  show WW _ _ _ 0 [_, _, _, lj] [] _ _ _
  refine r_aload_n (dk kL_weightOf 0 rfl) rfl ?_
  refine r_iconst (v := 0) (dk kL_weightOf 1 rfl) (by decide) ?_
  refine r_aload_n (dk kL_weightOf 2 rfl) rfl ?_
  refine r_iload_n (dk kL_weightOf 3 rfl) rfl ?_
  -- at 4
  refine r_tryV (I' := IX8_weightOf) (as := [_]) (dk kL_weightOf 4 rfl) mv_X8_weightOf ml_L_26 rfl cb.o.k rfl rfl (Nat.le_of_ble_eq_true rfl) ⟨by decide, by decide⟩ ⟨Nat.le_of_ble_eq_true rfl, Nat.le_of_ble_eq_true rfl⟩ hK ?_ ?_
  · rintro E M' ⟨h0, hE, z, hz⟩
    subst hz
    rcases sh with e | e
    · exact absurd e h0
    · have hE2 : E = "java/lang/IndexOutOfBoundsException" := hE.trans (by rw [e]; rfl)
      refine ⟨12, by rw [hE2]; exact hn_weightOf_1, fun q => ?_⟩
      refine r_astore_n (j := 3) (dk kL_weightOf 8 rfl) rfl (by decide) rfl ?_
      simp only [List.set_cons_succ, List.set_cons_zero]
      refine r_iconst (v := 1) (dk kL_weightOf 9 rfl) (by decide) ?_
      refine r_ireturn (dk kL_weightOf 10 rfl) rfl rfl ⟨Nat.le_of_ble_eq_true rfl, Nat.le_of_ble_eq_true rfl⟩ ⟨e.symm, FY.rfl M x, fun z2 => absurd z2 h0, cb.sx z⟩
  · rintro v M' ⟨y9, hv, c0, hy, hM⟩
    subst hv
    subst hM
    show WW G IL_weightOf _ 7 _ [.int y9, .int 0, .ref lo] M' _ _
    refine r_i2l (dk kL_weightOf 5 rfl) ?_
    refine r_las (dk kL_weightOf 6 rfl) kl ll (j := 0) rfl (by decide) (by decide) ?_
    refine r_goto (tgt := 15) (dk kL_weightOf 7 rfl) (by decide) ?_
    refine r_iconst (v := 0) (dk kL_weightOf 11 rfl) (by decide) ?_
    refine r_ireturn (dk kL_weightOf 12 rfl) rfl rfl ⟨Nat.le_of_ble_eq_true rfl, Nat.le_of_ble_eq_true rfl⟩ ⟨c0.symm, (FY.rfl _ _).j _ _ _, fun _ => by rw [mj_s, hy], cb.sJ _ _ _⟩
theorem hg_rankOf (cb : CB F M x B) (kl : kd M lo = 22) (ll : ln M lo = 1) (s : Int32) (hK : KK G IX8_rankOf [.ref x, .int s] M (QSp M sp nm1)) (sh : sp.1 = 0 ∨ sp.1 = 1) : KK G IL_rankOf [.ref x, .int s, .ref lo] M (QL F M x lo sp.1 sp.2 B) := by
  refine KK.ofWH (by decide) (by simp [Value.category]) (Nat.le_of_ble_eq_true rfl) rfl ?_
  show WW _ _ _ 0 [_, _, _, lj] [] _ _ _
  refine r_aload_n (dk kL_rankOf 0 rfl) rfl ?_
  refine r_iconst (v := 0) (dk kL_rankOf 1 rfl) (by decide) ?_
  refine r_aload_n (dk kL_rankOf 2 rfl) rfl ?_
  refine r_iload_n (dk kL_rankOf 3 rfl) rfl ?_
  -- at 4
  refine r_tryV (I' := IX8_rankOf) (as := [_]) (dk kL_rankOf 4 rfl) mv_X8_rankOf ml_L_34 rfl cb.o.k rfl rfl (Nat.le_of_ble_eq_true rfl) ⟨by decide, by decide⟩ ⟨Nat.le_of_ble_eq_true rfl, Nat.le_of_ble_eq_true rfl⟩ hK ?_ ?_
  · rintro E M' ⟨h0, hE, z, hz⟩
    subst hz
    rcases sh with e | e
    · exact absurd e h0
    · have hE2 : E = "java/lang/IndexOutOfBoundsException" := hE.trans (by rw [e]; rfl)
      refine ⟨12, by rw [hE2]; exact hn_rankOf_1, fun q => ?_⟩
      refine r_astore_n (j := 3) (dk kL_rankOf 8 rfl) rfl (by decide) rfl ?_
      simp only [List.set_cons_succ, List.set_cons_zero]
      refine r_iconst (v := 1) (dk kL_rankOf 9 rfl) (by decide) ?_
      refine r_ireturn (dk kL_rankOf 10 rfl) rfl rfl ⟨Nat.le_of_ble_eq_true rfl, Nat.le_of_ble_eq_true rfl⟩ ⟨e.symm, FY.rfl M x, fun z2 => absurd z2 h0, cb.sx z⟩
  · rintro v M' ⟨y9, hv, c0, hy, hM⟩
    subst hv
    subst hM
    show WW G IL_rankOf _ 7 _ [.int y9, .int 0, .ref lo] M' _ _
    refine r_i2l (dk kL_rankOf 5 rfl) ?_
    refine r_las (dk kL_rankOf 6 rfl) kl ll (j := 0) rfl (by decide) (by decide) ?_
    refine r_goto (tgt := 15) (dk kL_rankOf 7 rfl) (by decide) ?_
    refine r_iconst (v := 0) (dk kL_rankOf 11 rfl) (by decide) ?_
    refine r_ireturn (dk kL_rankOf 12 rfl) rfl rfl ⟨Nat.le_of_ble_eq_true rfl, Nat.le_of_ble_eq_true rfl⟩ ⟨c0.symm, (FY.rfl _ _).j _ _ _, fun _ => by rw [mj_s, hy], cb.sJ _ _ _⟩
theorem hg_petitionsOf (cb : CB F M x B) (kl : kd M lo = 22) (ll : ln M lo = 1) (s : Int32) (hK : KK G IX8_petitionsOf [.ref x, .int s] M (QSp M sp nm1)) (sh : sp.1 = 0 ∨ sp.1 = 1) : KK G IL_petitionsOf [.ref x, .int s, .ref lo] M (QL F M x lo sp.1 sp.2 B) := by
  refine KK.ofWH (by decide) (by simp [Value.category]) (Nat.le_of_ble_eq_true rfl) rfl ?_
  show WW _ _ _ 0 [_, _, _, lj] [] _ _ _
  refine r_aload_n (dk kL_petitionsOf 0 rfl) rfl ?_
  refine r_iconst (v := 0) (dk kL_petitionsOf 1 rfl) (by decide) ?_
  refine r_aload_n (dk kL_petitionsOf 2 rfl) rfl ?_
  refine r_iload_n (dk kL_petitionsOf 3 rfl) rfl ?_
  -- at 4
  refine r_tryV (I' := IX8_petitionsOf) (as := [_]) (dk kL_petitionsOf 4 rfl) mv_X8_petitionsOf ml_L_37 rfl cb.o.k rfl rfl (Nat.le_of_ble_eq_true rfl) ⟨by decide, by decide⟩ ⟨Nat.le_of_ble_eq_true rfl, Nat.le_of_ble_eq_true rfl⟩ hK ?_ ?_
  · rintro E M' ⟨h0, hE, z, hz⟩
    subst hz
    rcases sh with e | e
    · exact absurd e h0
    · have hE2 : E = "java/lang/IndexOutOfBoundsException" := hE.trans (by rw [e]; rfl)
      refine ⟨12, by rw [hE2]; exact hn_petitionsOf_1, fun q => ?_⟩
      refine r_astore_n (j := 3) (dk kL_petitionsOf 8 rfl) rfl (by decide) rfl ?_
      simp only [List.set_cons_succ, List.set_cons_zero]
      refine r_iconst (v := 1) (dk kL_petitionsOf 9 rfl) (by decide) ?_
      refine r_ireturn (dk kL_petitionsOf 10 rfl) rfl rfl ⟨Nat.le_of_ble_eq_true rfl, Nat.le_of_ble_eq_true rfl⟩ ⟨e.symm, FY.rfl M x, fun z2 => absurd z2 h0, cb.sx z⟩
  · rintro v M' ⟨y9, hv, c0, hy, hM⟩
    subst hv
    subst hM
    show WW G IL_petitionsOf _ 7 _ [.int y9, .int 0, .ref lo] M' _ _
    refine r_i2l (dk kL_petitionsOf 5 rfl) ?_
    refine r_las (dk kL_petitionsOf 6 rfl) kl ll (j := 0) rfl (by decide) (by decide) ?_
    refine r_goto (tgt := 15) (dk kL_petitionsOf 7 rfl) (by decide) ?_
    refine r_iconst (v := 0) (dk kL_petitionsOf 11 rfl) (by decide) ?_
    refine r_ireturn (dk kL_petitionsOf 12 rfl) rfl rfl ⟨Nat.le_of_ble_eq_true rfl, Nat.le_of_ble_eq_true rfl⟩ ⟨c0.symm, (FY.rfl _ _).j _ _ _, fun _ => by rw [mj_s, hy], cb.sJ _ _ _⟩
theorem hg_citationCount (cb : CB F M x B) (kl : kd M lo = 22) (ll : ln M lo = 1) (y : Int32) (hK : KK G IX8_citationCount [.ref x, .int y] M (QSp M sp nm1)) (sh : sp.1 = 0 ∨ sp.1 = 1) : KK G IL_citationCount [.ref x, .int y, .ref lo] M (QL F M x lo sp.1 sp.2 B) := by
  refine KK.ofWH (by decide) (by simp [Value.category]) (Nat.le_of_ble_eq_true rfl) rfl ?_
  show WW _ _ _ 0 [_, _, _, lj] [] _ _ _
  refine r_aload_n (dk kL_citationCount 0 rfl) rfl ?_
  refine r_iconst (v := 0) (dk kL_citationCount 1 rfl) (by decide) ?_
  refine r_aload_n (dk kL_citationCount 2 rfl) rfl ?_
  refine r_iload_n (dk kL_citationCount 3 rfl) rfl ?_
  -- at 4
  refine r_tryV (I' := IX8_citationCount) (as := [_]) (dk kL_citationCount 4 rfl) mv_X8_citationCount ml_L_92 rfl cb.o.k rfl rfl (Nat.le_of_ble_eq_true rfl) ⟨by decide, by decide⟩ ⟨Nat.le_of_ble_eq_true rfl, Nat.le_of_ble_eq_true rfl⟩ hK ?_ ?_
  · rintro E M' ⟨h0, hE, z, hz⟩
    subst hz
    rcases sh with e | e
    · exact absurd e h0
    · have hE2 : E = "java/lang/IndexOutOfBoundsException" := hE.trans (by rw [e]; rfl)
      refine ⟨12, by rw [hE2]; exact hn_citationCount_1, fun q => ?_⟩
      refine r_astore_n (j := 3) (dk kL_citationCount 8 rfl) rfl (by decide) rfl ?_
      simp only [List.set_cons_succ, List.set_cons_zero]
      refine r_iconst (v := 1) (dk kL_citationCount 9 rfl) (by decide) ?_
      refine r_ireturn (dk kL_citationCount 10 rfl) rfl rfl ⟨Nat.le_of_ble_eq_true rfl, Nat.le_of_ble_eq_true rfl⟩ ⟨e.symm, FY.rfl M x, fun z2 => absurd z2 h0, cb.sx z⟩
  · rintro v M' ⟨y9, hv, c0, hy, hM⟩
    subst hv
    subst hM
    show WW G IL_citationCount _ 7 _ [.int y9, .int 0, .ref lo] M' _ _
    refine r_i2l (dk kL_citationCount 5 rfl) ?_
    refine r_las (dk kL_citationCount 6 rfl) kl ll (j := 0) rfl (by decide) (by decide) ?_
    refine r_goto (tgt := 15) (dk kL_citationCount 7 rfl) (by decide) ?_
    refine r_iconst (v := 0) (dk kL_citationCount 11 rfl) (by decide) ?_
    refine r_ireturn (dk kL_citationCount 12 rfl) rfl rfl ⟨Nat.le_of_ble_eq_true rfl, Nat.le_of_ble_eq_true rfl⟩ ⟨c0.symm, (FY.rfl _ _).j _ _ _, fun _ => by rw [mj_s, hy], cb.sJ _ _ _⟩
theorem hg_citedBy (cb : CB F M x B) (kl : kd M lo = 22) (ll : ln M lo = 1) (y : Int32) (hK : KK G IX8_citedBy [.ref x, .int y] M (QSp M sp nm1)) (sh : sp.1 = 0 ∨ sp.1 = 1) : KK G IL_citedBy [.ref x, .int y, .ref lo] M (QL F M x lo sp.1 sp.2 B) := by
  refine KK.ofWH (by decide) (by simp [Value.category]) (Nat.le_of_ble_eq_true rfl) rfl ?_
  show WW _ _ _ 0 [_, _, _, lj] [] _ _ _
  refine r_aload_n (dk kL_citedBy 0 rfl) rfl ?_
  refine r_iconst (v := 0) (dk kL_citedBy 1 rfl) (by decide) ?_
  refine r_aload_n (dk kL_citedBy 2 rfl) rfl ?_
  refine r_iload_n (dk kL_citedBy 3 rfl) rfl ?_
  -- at 4
  refine r_tryV (I' := IX8_citedBy) (as := [_]) (dk kL_citedBy 4 rfl) mv_X8_citedBy ml_L_98 rfl cb.o.k rfl rfl (Nat.le_of_ble_eq_true rfl) ⟨by decide, by decide⟩ ⟨Nat.le_of_ble_eq_true rfl, Nat.le_of_ble_eq_true rfl⟩ hK ?_ ?_
  · rintro E M' ⟨h0, hE, z, hz⟩
    subst hz
    rcases sh with e | e
    · exact absurd e h0
    · have hE2 : E = "java/lang/IndexOutOfBoundsException" := hE.trans (by rw [e]; rfl)
      refine ⟨12, by rw [hE2]; exact hn_citedBy_1, fun q => ?_⟩
      refine r_astore_n (j := 3) (dk kL_citedBy 8 rfl) rfl (by decide) rfl ?_
      simp only [List.set_cons_succ, List.set_cons_zero]
      refine r_iconst (v := 1) (dk kL_citedBy 9 rfl) (by decide) ?_
      refine r_ireturn (dk kL_citedBy 10 rfl) rfl rfl ⟨Nat.le_of_ble_eq_true rfl, Nat.le_of_ble_eq_true rfl⟩ ⟨e.symm, FY.rfl M x, fun z2 => absurd z2 h0, cb.sx z⟩
  · rintro v M' ⟨y9, hv, c0, hy, hM⟩
    subst hv
    subst hM
    show WW G IL_citedBy _ 7 _ [.int y9, .int 0, .ref lo] M' _ _
    refine r_i2l (dk kL_citedBy 5 rfl) ?_
    refine r_las (dk kL_citedBy 6 rfl) kl ll (j := 0) rfl (by decide) (by decide) ?_
    refine r_goto (tgt := 15) (dk kL_citedBy 7 rfl) (by decide) ?_
    refine r_iconst (v := 0) (dk kL_citedBy 11 rfl) (by decide) ?_
    refine r_ireturn (dk kL_citedBy 12 rfl) rfl rfl ⟨Nat.le_of_ble_eq_true rfl, Nat.le_of_ble_eq_true rfl⟩ ⟨c0.symm, (FY.rfl _ _).j _ _ _, fun _ => by rw [mj_s, hy], cb.sJ _ _ _⟩
theorem hg_depth (cb : CB F M x B) (kl : kd M lo = 22) (ll : ln M lo = 1) (y : Int32) (hK : KK G IX8_depth [.ref x, .int y] M (QSp M sp nm1)) (sh : sp.1 = 0 ∨ sp.1 = 1) : KK G IL_depth [.ref x, .int y, .ref lo] M (QL F M x lo sp.1 sp.2 B) := by
  refine KK.ofWH (by decide) (by simp [Value.category]) (Nat.le_of_ble_eq_true rfl) rfl ?_
  show WW _ _ _ 0 [_, _, _, lj] [] _ _ _
  refine r_aload_n (dk kL_depth 0 rfl) rfl ?_
  refine r_iconst (v := 0) (dk kL_depth 1 rfl) (by decide) ?_
  refine r_aload_n (dk kL_depth 2 rfl) rfl ?_
  refine r_iload_n (dk kL_depth 3 rfl) rfl ?_
  -- at 4
  refine r_tryV (I' := IX8_depth) (as := [_]) (dk kL_depth 4 rfl) mv_X8_depth ml_L_101 rfl cb.o.k rfl rfl (Nat.le_of_ble_eq_true rfl) ⟨by decide, by decide⟩ ⟨Nat.le_of_ble_eq_true rfl, Nat.le_of_ble_eq_true rfl⟩ hK ?_ ?_
  · rintro E M' ⟨h0, hE, z, hz⟩
    subst hz
    rcases sh with e | e
    · exact absurd e h0
    · have hE2 : E = "java/lang/IndexOutOfBoundsException" := hE.trans (by rw [e]; rfl)
      refine ⟨12, by rw [hE2]; exact hn_depth_1, fun q => ?_⟩
      refine r_astore_n (j := 3) (dk kL_depth 8 rfl) rfl (by decide) rfl ?_
      simp only [List.set_cons_succ, List.set_cons_zero]
      refine r_iconst (v := 1) (dk kL_depth 9 rfl) (by decide) ?_
      refine r_ireturn (dk kL_depth 10 rfl) rfl rfl ⟨Nat.le_of_ble_eq_true rfl, Nat.le_of_ble_eq_true rfl⟩ ⟨e.symm, FY.rfl M x, fun z2 => absurd z2 h0, cb.sx z⟩
  · rintro v M' ⟨y9, hv, c0, hy, hM⟩
    subst hv
    subst hM
    show WW G IL_depth _ 7 _ [.int y9, .int 0, .ref lo] M' _ _
    refine r_i2l (dk kL_depth 5 rfl) ?_
    refine r_las (dk kL_depth 6 rfl) kl ll (j := 0) rfl (by decide) (by decide) ?_
    refine r_goto (tgt := 15) (dk kL_depth 7 rfl) (by decide) ?_
    refine r_iconst (v := 0) (dk kL_depth 11 rfl) (by decide) ?_
    refine r_ireturn (dk kL_depth 12 rfl) rfl rfl ⟨Nat.le_of_ble_eq_true rfl, Nat.le_of_ble_eq_true rfl⟩ ⟨c0.symm, (FY.rfl _ _).j _ _ _, fun _ => by rw [mj_s, hy], cb.sJ _ _ _⟩
theorem hg_influence (cb : CB F M x B) (kl : kd M lo = 22) (ll : ln M lo = 1) (y : Int32) (hK : KK G IX8_influence [.ref x, .int y] M (QSp M sp nm1)) (sh : sp.1 = 0 ∨ sp.1 = 1) : KK G IL_influence [.ref x, .int y, .ref lo] M (QL F M x lo sp.1 sp.2 B) := by
  refine KK.ofWH (by decide) (by simp [Value.category]) (Nat.le_of_ble_eq_true rfl) rfl ?_
  show WW _ _ _ 0 [_, _, _, lj] [] _ _ _
  refine r_aload_n (dk kL_influence 0 rfl) rfl ?_
  refine r_iconst (v := 0) (dk kL_influence 1 rfl) (by decide) ?_
  refine r_aload_n (dk kL_influence 2 rfl) rfl ?_
  refine r_iload_n (dk kL_influence 3 rfl) rfl ?_
  -- at 4
  refine r_tryV (I' := IX8_influence) (as := [_]) (dk kL_influence 4 rfl) mv_X8_influence ml_L_108 rfl cb.o.k rfl rfl (Nat.le_of_ble_eq_true rfl) ⟨by decide, by decide⟩ ⟨Nat.le_of_ble_eq_true rfl, Nat.le_of_ble_eq_true rfl⟩ hK ?_ ?_
  · rintro E M' ⟨h0, hE, z, hz⟩
    subst hz
    rcases sh with e | e
    · exact absurd e h0
    · have hE2 : E = "java/lang/IndexOutOfBoundsException" := hE.trans (by rw [e]; rfl)
      refine ⟨12, by rw [hE2]; exact hn_influence_1, fun q => ?_⟩
      refine r_astore_n (j := 3) (dk kL_influence 8 rfl) rfl (by decide) rfl ?_
      simp only [List.set_cons_succ, List.set_cons_zero]
      refine r_iconst (v := 1) (dk kL_influence 9 rfl) (by decide) ?_
      refine r_ireturn (dk kL_influence 10 rfl) rfl rfl ⟨Nat.le_of_ble_eq_true rfl, Nat.le_of_ble_eq_true rfl⟩ ⟨e.symm, FY.rfl M x, fun z2 => absurd z2 h0, cb.sx z⟩
  · rintro v M' ⟨y9, hv, c0, hy, hM⟩
    subst hv
    subst hM
    show WW G IL_influence _ 7 _ [.int y9, .int 0, .ref lo] M' _ _
    refine r_i2l (dk kL_influence 5 rfl) ?_
    refine r_las (dk kL_influence 6 rfl) kl ll (j := 0) rfl (by decide) (by decide) ?_
    refine r_goto (tgt := 15) (dk kL_influence 7 rfl) (by decide) ?_
    refine r_iconst (v := 0) (dk kL_influence 11 rfl) (by decide) ?_
    refine r_ireturn (dk kL_influence 12 rfl) rfl rfl ⟨Nat.le_of_ble_eq_true rfl, Nat.le_of_ble_eq_true rfl⟩ ⟨c0.symm, (FY.rfl _ _).j _ _ _, fun _ => by rw [mj_s, hy], cb.sJ _ _ _⟩
theorem hg_influenceByMarking (cb : CB F M x B) (kl : kd M lo = 22) (ll : ln M lo = 1) (y : Int32) (hK : KK G IX8_influenceByMarking [.ref x, .int y] M (QSp M sp nm1)) (sh : sp.1 = 0 ∨ sp.1 = 1) : KK G IL_influenceByMarking [.ref x, .int y, .ref lo] M (QL F M x lo sp.1 sp.2 B) := by
  refine KK.ofWH (by decide) (by simp [Value.category]) (Nat.le_of_ble_eq_true rfl) rfl ?_
  show WW _ _ _ 0 [_, _, _, lj] [] _ _ _
  refine r_aload_n (dk kL_influenceByMarking 0 rfl) rfl ?_
  refine r_iconst (v := 0) (dk kL_influenceByMarking 1 rfl) (by decide) ?_
  refine r_aload_n (dk kL_influenceByMarking 2 rfl) rfl ?_
  refine r_iload_n (dk kL_influenceByMarking 3 rfl) rfl ?_
  -- at 4
  refine r_tryV (I' := IX8_influenceByMarking) (as := [_]) (dk kL_influenceByMarking 4 rfl) mv_X8_influenceByMarking ml_L_111 rfl cb.o.k rfl rfl (Nat.le_of_ble_eq_true rfl) ⟨by decide, by decide⟩ ⟨Nat.le_of_ble_eq_true rfl, Nat.le_of_ble_eq_true rfl⟩ hK ?_ ?_
  · rintro E M' ⟨h0, hE, z, hz⟩
    subst hz
    rcases sh with e | e
    · exact absurd e h0
    · have hE2 : E = "java/lang/IndexOutOfBoundsException" := hE.trans (by rw [e]; rfl)
      refine ⟨12, by rw [hE2]; exact hn_influenceByMarking_1, fun q => ?_⟩
      refine r_astore_n (j := 3) (dk kL_influenceByMarking 8 rfl) rfl (by decide) rfl ?_
      simp only [List.set_cons_succ, List.set_cons_zero]
      refine r_iconst (v := 1) (dk kL_influenceByMarking 9 rfl) (by decide) ?_
      refine r_ireturn (dk kL_influenceByMarking 10 rfl) rfl rfl ⟨Nat.le_of_ble_eq_true rfl, Nat.le_of_ble_eq_true rfl⟩ ⟨e.symm, FY.rfl M x, fun z2 => absurd z2 h0, cb.sx z⟩
  · rintro v M' ⟨y9, hv, c0, hy, hM⟩
    subst hv
    subst hM
    show WW G IL_influenceByMarking _ 7 _ [.int y9, .int 0, .ref lo] M' _ _
    refine r_i2l (dk kL_influenceByMarking 5 rfl) ?_
    refine r_las (dk kL_influenceByMarking 6 rfl) kl ll (j := 0) rfl (by decide) (by decide) ?_
    refine r_goto (tgt := 15) (dk kL_influenceByMarking 7 rfl) (by decide) ?_
    refine r_iconst (v := 0) (dk kL_influenceByMarking 11 rfl) (by decide) ?_
    refine r_ireturn (dk kL_influenceByMarking 12 rfl) rfl rfl ⟨Nat.le_of_ble_eq_true rfl, Nat.le_of_ble_eq_true rfl⟩ ⟨c0.symm, (FY.rfl _ _).j _ _ _, fun _ => by rw [mj_s, hy], cb.sJ _ _ _⟩
theorem hg_lineCharacter (cb : CB F M x B) (kl : kd M lo = 22) (ll : ln M lo = 1) (y : Int32) (hK : KK G IX8_lineCharacter [.ref x, .int y] M (QSp M sp nm1)) (sh : sp.1 = 0 ∨ sp.1 = 1) : KK G IL_lineCharacter [.ref x, .int y, .ref lo] M (QL F M x lo sp.1 sp.2 B) := by
  refine KK.ofWH (by decide) (by simp [Value.category]) (Nat.le_of_ble_eq_true rfl) rfl ?_
  show WW _ _ _ 0 [_, _, _, lj] [] _ _ _
  refine r_aload_n (dk kL_lineCharacter 0 rfl) rfl ?_
  refine r_iconst (v := 0) (dk kL_lineCharacter 1 rfl) (by decide) ?_
  refine r_aload_n (dk kL_lineCharacter 2 rfl) rfl ?_
  refine r_iload_n (dk kL_lineCharacter 3 rfl) rfl ?_
  -- at 4
  refine r_tryV (I' := IX8_lineCharacter) (as := [_]) (dk kL_lineCharacter 4 rfl) mv_X8_lineCharacter ml_L_145 rfl cb.o.k rfl rfl (Nat.le_of_ble_eq_true rfl) ⟨by decide, by decide⟩ ⟨Nat.le_of_ble_eq_true rfl, Nat.le_of_ble_eq_true rfl⟩ hK ?_ ?_
  · rintro E M' ⟨h0, hE, z, hz⟩
    subst hz
    rcases sh with e | e
    · exact absurd e h0
    · have hE2 : E = "java/lang/IndexOutOfBoundsException" := hE.trans (by rw [e]; rfl)
      refine ⟨12, by rw [hE2]; exact hn_lineCharacter_1, fun q => ?_⟩
      refine r_astore_n (j := 3) (dk kL_lineCharacter 8 rfl) rfl (by decide) rfl ?_
      simp only [List.set_cons_succ, List.set_cons_zero]
      refine r_iconst (v := 1) (dk kL_lineCharacter 9 rfl) (by decide) ?_
      refine r_ireturn (dk kL_lineCharacter 10 rfl) rfl rfl ⟨Nat.le_of_ble_eq_true rfl, Nat.le_of_ble_eq_true rfl⟩ ⟨e.symm, FY.rfl M x, fun z2 => absurd z2 h0, cb.sx z⟩
  · rintro v M' ⟨y9, hv, c0, hy, hM⟩
    subst hv
    subst hM
    show WW G IL_lineCharacter _ 7 _ [.int y9, .int 0, .ref lo] M' _ _
    refine r_i2l (dk kL_lineCharacter 5 rfl) ?_
    refine r_las (dk kL_lineCharacter 6 rfl) kl ll (j := 0) rfl (by decide) (by decide) ?_
    refine r_goto (tgt := 15) (dk kL_lineCharacter 7 rfl) (by decide) ?_
    refine r_iconst (v := 0) (dk kL_lineCharacter 11 rfl) (by decide) ?_
    refine r_ireturn (dk kL_lineCharacter 12 rfl) rfl rfl ⟨Nat.le_of_ble_eq_true rfl, Nat.le_of_ble_eq_true rfl⟩ ⟨c0.symm, (FY.rfl _ _).j _ _ _, fun _ => by rw [mj_s, hy], cb.sJ _ _ _⟩
theorem hg_petitionAt (cb : CB F M x B) (kl : kd M lo = 22) (ll : ln M lo = 1) (y : Int32) (hK : KK G IX8_petitionAt [.ref x, .int y] M (QSp M sp nm2)) (sh : sp.1 = 0 ∨ sp.1 = 1) : KK G IL_petitionAt [.ref x, .int y, .ref lo] M (QL F M x lo sp.1 sp.2 B) := by
  refine KK.ofWH (by decide) (by simp [Value.category]) (Nat.le_of_ble_eq_true rfl) rfl ?_
  show WW _ _ _ 0 [_, _, _, lj] [] _ _ _
  refine r_aload_n (dk kL_petitionAt 0 rfl) rfl ?_
  refine r_iconst (v := 0) (dk kL_petitionAt 1 rfl) (by decide) ?_
  refine r_aload_n (dk kL_petitionAt 2 rfl) rfl ?_
  refine r_iload_n (dk kL_petitionAt 3 rfl) rfl ?_
  -- at 4
  refine r_tryV (I' := IX8_petitionAt) (as := [_]) (dk kL_petitionAt 4 rfl) mv_X8_petitionAt ml_L_57 rfl cb.o.k rfl rfl (Nat.le_of_ble_eq_true rfl) ⟨by decide, by decide⟩ ⟨Nat.le_of_ble_eq_true rfl, Nat.le_of_ble_eq_true rfl⟩ hK ?_ ?_
  · rintro E M' ⟨h0, hE, z, hz⟩
    subst hz
    rcases sh with e | e
    · exact absurd e h0
    · have hE2 : E = "java/util/NoSuchElementException" := hE.trans (by rw [e]; rfl)
      refine ⟨12, by rw [hE2]; exact hn_petitionAt_1, fun q => ?_⟩
      refine r_astore_n (j := 3) (dk kL_petitionAt 8 rfl) rfl (by decide) rfl ?_
      simp only [List.set_cons_succ, List.set_cons_zero]
      refine r_iconst (v := 1) (dk kL_petitionAt 9 rfl) (by decide) ?_
      refine r_ireturn (dk kL_petitionAt 10 rfl) rfl rfl ⟨Nat.le_of_ble_eq_true rfl, Nat.le_of_ble_eq_true rfl⟩ ⟨e.symm, FY.rfl M x, fun z2 => absurd z2 h0, cb.sx z⟩
  · rintro v M' ⟨y9, hv, c0, hy, hM⟩
    subst hv
    subst hM
    show WW G IL_petitionAt _ 7 _ [.int y9, .int 0, .ref lo] M' _ _
    refine r_i2l (dk kL_petitionAt 5 rfl) ?_
    refine r_las (dk kL_petitionAt 6 rfl) kl ll (j := 0) rfl (by decide) (by decide) ?_
    refine r_goto (tgt := 15) (dk kL_petitionAt 7 rfl) (by decide) ?_
    refine r_iconst (v := 0) (dk kL_petitionAt 11 rfl) (by decide) ?_
    refine r_ireturn (dk kL_petitionAt 12 rfl) rfl rfl ⟨Nat.le_of_ble_eq_true rfl, Nat.le_of_ble_eq_true rfl⟩ ⟨c0.symm, (FY.rfl _ _).j _ _ _, fun _ => by rw [mj_s, hy], cb.sJ _ _ _⟩
theorem hg_positionOf (cb : CB F M x B) (kl : kd M lo = 22) (ll : ln M lo = 1) (y : Int32) (hK : KK G IX8_positionOf [.ref x, .int y] M (QSp M sp nm2)) (sh : sp.1 = 0 ∨ sp.1 = 1) : KK G IL_positionOf [.ref x, .int y, .ref lo] M (QL F M x lo sp.1 sp.2 B) := by
  refine KK.ofWH (by decide) (by simp [Value.category]) (Nat.le_of_ble_eq_true rfl) rfl ?_
  show WW _ _ _ 0 [_, _, _, lj] [] _ _ _
  refine r_aload_n (dk kL_positionOf 0 rfl) rfl ?_
  refine r_iconst (v := 0) (dk kL_positionOf 1 rfl) (by decide) ?_
  refine r_aload_n (dk kL_positionOf 2 rfl) rfl ?_
  refine r_iload_n (dk kL_positionOf 3 rfl) rfl ?_
  -- at 4
  refine r_tryV (I' := IX8_positionOf) (as := [_]) (dk kL_positionOf 4 rfl) mv_X8_positionOf ml_L_60 rfl cb.o.k rfl rfl (Nat.le_of_ble_eq_true rfl) ⟨by decide, by decide⟩ ⟨Nat.le_of_ble_eq_true rfl, Nat.le_of_ble_eq_true rfl⟩ hK ?_ ?_
  · rintro E M' ⟨h0, hE, z, hz⟩
    subst hz
    rcases sh with e | e
    · exact absurd e h0
    · have hE2 : E = "java/util/NoSuchElementException" := hE.trans (by rw [e]; rfl)
      refine ⟨12, by rw [hE2]; exact hn_positionOf_1, fun q => ?_⟩
      refine r_astore_n (j := 3) (dk kL_positionOf 8 rfl) rfl (by decide) rfl ?_
      simp only [List.set_cons_succ, List.set_cons_zero]
      refine r_iconst (v := 1) (dk kL_positionOf 9 rfl) (by decide) ?_
      refine r_ireturn (dk kL_positionOf 10 rfl) rfl rfl ⟨Nat.le_of_ble_eq_true rfl, Nat.le_of_ble_eq_true rfl⟩ ⟨e.symm, FY.rfl M x, fun z2 => absurd z2 h0, cb.sx z⟩
  · rintro v M' ⟨y9, hv, c0, hy, hM⟩
    subst hv
    subst hM
    show WW G IL_positionOf _ 7 _ [.int y9, .int 0, .ref lo] M' _ _
    refine r_i2l (dk kL_positionOf 5 rfl) ?_
    refine r_las (dk kL_positionOf 6 rfl) kl ll (j := 0) rfl (by decide) (by decide) ?_
    refine r_goto (tgt := 15) (dk kL_positionOf 7 rfl) (by decide) ?_
    refine r_iconst (v := 0) (dk kL_positionOf 11 rfl) (by decide) ?_
    refine r_ireturn (dk kL_positionOf 12 rfl) rfl rfl ⟨Nat.le_of_ble_eq_true rfl, Nat.le_of_ble_eq_true rfl⟩ ⟨c0.symm, (FY.rfl _ _).j _ _ _, fun _ => by rw [mj_s, hy], cb.sJ _ _ _⟩
theorem hg_stoneOf (cb : CB F M x B) (kl : kd M lo = 22) (ll : ln M lo = 1) (y : Int32) (hK : KK G IX8_stoneOf [.ref x, .int y] M (QSp M sp nm2)) (sh : sp.1 = 0 ∨ sp.1 = 1) : KK G IL_stoneOf [.ref x, .int y, .ref lo] M (QL F M x lo sp.1 sp.2 B) := by
  refine KK.ofWH (by decide) (by simp [Value.category]) (Nat.le_of_ble_eq_true rfl) rfl ?_
  show WW _ _ _ 0 [_, _, _, lj] [] _ _ _
  refine r_aload_n (dk kL_stoneOf 0 rfl) rfl ?_
  refine r_iconst (v := 0) (dk kL_stoneOf 1 rfl) (by decide) ?_
  refine r_aload_n (dk kL_stoneOf 2 rfl) rfl ?_
  refine r_iload_n (dk kL_stoneOf 3 rfl) rfl ?_
  -- at 4
  refine r_tryV (I' := IX8_stoneOf) (as := [_]) (dk kL_stoneOf 4 rfl) mv_X8_stoneOf ml_L_63 rfl cb.o.k rfl rfl (Nat.le_of_ble_eq_true rfl) ⟨by decide, by decide⟩ ⟨Nat.le_of_ble_eq_true rfl, Nat.le_of_ble_eq_true rfl⟩ hK ?_ ?_
  · rintro E M' ⟨h0, hE, z, hz⟩
    subst hz
    rcases sh with e | e
    · exact absurd e h0
    · have hE2 : E = "java/util/NoSuchElementException" := hE.trans (by rw [e]; rfl)
      refine ⟨12, by rw [hE2]; exact hn_stoneOf_1, fun q => ?_⟩
      refine r_astore_n (j := 3) (dk kL_stoneOf 8 rfl) rfl (by decide) rfl ?_
      simp only [List.set_cons_succ, List.set_cons_zero]
      refine r_iconst (v := 1) (dk kL_stoneOf 9 rfl) (by decide) ?_
      refine r_ireturn (dk kL_stoneOf 10 rfl) rfl rfl ⟨Nat.le_of_ble_eq_true rfl, Nat.le_of_ble_eq_true rfl⟩ ⟨e.symm, FY.rfl M x, fun z2 => absurd z2 h0, cb.sx z⟩
  · rintro v M' ⟨y9, hv, c0, hy, hM⟩
    subst hv
    subst hM
    show WW G IL_stoneOf _ 7 _ [.int y9, .int 0, .ref lo] M' _ _
    refine r_i2l (dk kL_stoneOf 5 rfl) ?_
    refine r_las (dk kL_stoneOf 6 rfl) kl ll (j := 0) rfl (by decide) (by decide) ?_
    refine r_goto (tgt := 15) (dk kL_stoneOf 7 rfl) (by decide) ?_
    refine r_iconst (v := 0) (dk kL_stoneOf 11 rfl) (by decide) ?_
    refine r_ireturn (dk kL_stoneOf 12 rfl) rfl rfl ⟨Nat.le_of_ble_eq_true rfl, Nat.le_of_ble_eq_true rfl⟩ ⟨c0.symm, (FY.rfl _ _).j _ _ _, fun _ => by rw [mj_s, hy], cb.sJ _ _ _⟩
theorem hg_targetOf (cb : CB F M x B) (kl : kd M lo = 22) (ll : ln M lo = 1) (y : Int32) (hK : KK G IX8_targetOf [.ref x, .int y] M (QSp M sp nm2)) (sh : sp.1 = 0 ∨ sp.1 = 1) : KK G IL_targetOf [.ref x, .int y, .ref lo] M (QL F M x lo sp.1 sp.2 B) := by
  refine KK.ofWH (by decide) (by simp [Value.category]) (Nat.le_of_ble_eq_true rfl) rfl ?_
  show WW _ _ _ 0 [_, _, _, lj] [] _ _ _
  refine r_aload_n (dk kL_targetOf 0 rfl) rfl ?_
  refine r_iconst (v := 0) (dk kL_targetOf 1 rfl) (by decide) ?_
  refine r_aload_n (dk kL_targetOf 2 rfl) rfl ?_
  refine r_iload_n (dk kL_targetOf 3 rfl) rfl ?_
  -- at 4
  refine r_tryV (I' := IX8_targetOf) (as := [_]) (dk kL_targetOf 4 rfl) mv_X8_targetOf ml_L_66 rfl cb.o.k rfl rfl (Nat.le_of_ble_eq_true rfl) ⟨by decide, by decide⟩ ⟨Nat.le_of_ble_eq_true rfl, Nat.le_of_ble_eq_true rfl⟩ hK ?_ ?_
  · rintro E M' ⟨h0, hE, z, hz⟩
    subst hz
    rcases sh with e | e
    · exact absurd e h0
    · have hE2 : E = "java/util/NoSuchElementException" := hE.trans (by rw [e]; rfl)
      refine ⟨12, by rw [hE2]; exact hn_targetOf_1, fun q => ?_⟩
      refine r_astore_n (j := 3) (dk kL_targetOf 8 rfl) rfl (by decide) rfl ?_
      simp only [List.set_cons_succ, List.set_cons_zero]
      refine r_iconst (v := 1) (dk kL_targetOf 9 rfl) (by decide) ?_
      refine r_ireturn (dk kL_targetOf 10 rfl) rfl rfl ⟨Nat.le_of_ble_eq_true rfl, Nat.le_of_ble_eq_true rfl⟩ ⟨e.symm, FY.rfl M x, fun z2 => absurd z2 h0, cb.sx z⟩
  · rintro v M' ⟨y9, hv, c0, hy, hM⟩
    subst hv
    subst hM
    show WW G IL_targetOf _ 7 _ [.int y9, .int 0, .ref lo] M' _ _
    refine r_i2l (dk kL_targetOf 5 rfl) ?_
    refine r_las (dk kL_targetOf 6 rfl) kl ll (j := 0) rfl (by decide) (by decide) ?_
    refine r_goto (tgt := 15) (dk kL_targetOf 7 rfl) (by decide) ?_
    refine r_iconst (v := 0) (dk kL_targetOf 11 rfl) (by decide) ?_
    refine r_ireturn (dk kL_targetOf 12 rfl) rfl rfl ⟨Nat.le_of_ble_eq_true rfl, Nat.le_of_ble_eq_true rfl⟩ ⟨c0.symm, (FY.rfl _ _).j _ _ _, fun _ => by rw [mj_s, hy], cb.sJ _ _ _⟩
theorem hg_votesFor (cb : CB F M x B) (kl : kd M lo = 22) (ll : ln M lo = 1) (y : Int32) (hK : KK G IX8_votesFor [.ref x, .int y] M (QSp M sp nm2)) (sh : sp.1 = 0 ∨ sp.1 = 1) : KK G IL_votesFor [.ref x, .int y, .ref lo] M (QL F M x lo sp.1 sp.2 B) := by
  refine KK.ofWH (by decide) (by simp [Value.category]) (Nat.le_of_ble_eq_true rfl) rfl ?_
  show WW _ _ _ 0 [_, _, _, lj] [] _ _ _
  refine r_aload_n (dk kL_votesFor 0 rfl) rfl ?_
  refine r_iconst (v := 0) (dk kL_votesFor 1 rfl) (by decide) ?_
  refine r_aload_n (dk kL_votesFor 2 rfl) rfl ?_
  refine r_iload_n (dk kL_votesFor 3 rfl) rfl ?_
  -- at 4
  refine r_tryV (I' := IX8_votesFor) (as := [_]) (dk kL_votesFor 4 rfl) mv_X8_votesFor ml_L_69 rfl cb.o.k rfl rfl (Nat.le_of_ble_eq_true rfl) ⟨by decide, by decide⟩ ⟨Nat.le_of_ble_eq_true rfl, Nat.le_of_ble_eq_true rfl⟩ hK ?_ ?_
  · rintro E M' ⟨h0, hE, z, hz⟩
    subst hz
    rcases sh with e | e
    · exact absurd e h0
    · have hE2 : E = "java/util/NoSuchElementException" := hE.trans (by rw [e]; rfl)
      refine ⟨12, by rw [hE2]; exact hn_votesFor_1, fun q => ?_⟩
      refine r_astore_n (j := 3) (dk kL_votesFor 8 rfl) rfl (by decide) rfl ?_
      simp only [List.set_cons_succ, List.set_cons_zero]
      refine r_iconst (v := 1) (dk kL_votesFor 9 rfl) (by decide) ?_
      refine r_ireturn (dk kL_votesFor 10 rfl) rfl rfl ⟨Nat.le_of_ble_eq_true rfl, Nat.le_of_ble_eq_true rfl⟩ ⟨e.symm, FY.rfl M x, fun z2 => absurd z2 h0, cb.sx z⟩
  · rintro v M' ⟨y9, hv, c0, hy, hM⟩
    subst hv
    subst hM
    show WW G IL_votesFor _ 7 _ [.int y9, .int 0, .ref lo] M' _ _
    refine r_i2l (dk kL_votesFor 5 rfl) ?_
    refine r_las (dk kL_votesFor 6 rfl) kl ll (j := 0) rfl (by decide) (by decide) ?_
    refine r_goto (tgt := 15) (dk kL_votesFor 7 rfl) (by decide) ?_
    refine r_iconst (v := 0) (dk kL_votesFor 11 rfl) (by decide) ?_
    refine r_ireturn (dk kL_votesFor 12 rfl) rfl rfl ⟨Nat.le_of_ble_eq_true rfl, Nat.le_of_ble_eq_true rfl⟩ ⟨c0.symm, (FY.rfl _ _).j _ _ _, fun _ => by rw [mj_s, hy], cb.sJ _ _ _⟩
theorem hg_votesAgainst (cb : CB F M x B) (kl : kd M lo = 22) (ll : ln M lo = 1) (y : Int32) (hK : KK G IX8_votesAgainst [.ref x, .int y] M (QSp M sp nm2)) (sh : sp.1 = 0 ∨ sp.1 = 1) : KK G IL_votesAgainst [.ref x, .int y, .ref lo] M (QL F M x lo sp.1 sp.2 B) := by
  refine KK.ofWH (by decide) (by simp [Value.category]) (Nat.le_of_ble_eq_true rfl) rfl ?_
  show WW _ _ _ 0 [_, _, _, lj] [] _ _ _
  refine r_aload_n (dk kL_votesAgainst 0 rfl) rfl ?_
  refine r_iconst (v := 0) (dk kL_votesAgainst 1 rfl) (by decide) ?_
  refine r_aload_n (dk kL_votesAgainst 2 rfl) rfl ?_
  refine r_iload_n (dk kL_votesAgainst 3 rfl) rfl ?_
  -- at 4
  refine r_tryV (I' := IX8_votesAgainst) (as := [_]) (dk kL_votesAgainst 4 rfl) mv_X8_votesAgainst ml_L_72 rfl cb.o.k rfl rfl (Nat.le_of_ble_eq_true rfl) ⟨by decide, by decide⟩ ⟨Nat.le_of_ble_eq_true rfl, Nat.le_of_ble_eq_true rfl⟩ hK ?_ ?_
  · rintro E M' ⟨h0, hE, z, hz⟩
    subst hz
    rcases sh with e | e
    · exact absurd e h0
    · have hE2 : E = "java/util/NoSuchElementException" := hE.trans (by rw [e]; rfl)
      refine ⟨12, by rw [hE2]; exact hn_votesAgainst_1, fun q => ?_⟩
      refine r_astore_n (j := 3) (dk kL_votesAgainst 8 rfl) rfl (by decide) rfl ?_
      simp only [List.set_cons_succ, List.set_cons_zero]
      refine r_iconst (v := 1) (dk kL_votesAgainst 9 rfl) (by decide) ?_
      refine r_ireturn (dk kL_votesAgainst 10 rfl) rfl rfl ⟨Nat.le_of_ble_eq_true rfl, Nat.le_of_ble_eq_true rfl⟩ ⟨e.symm, FY.rfl M x, fun z2 => absurd z2 h0, cb.sx z⟩
  · rintro v M' ⟨y9, hv, c0, hy, hM⟩
    subst hv
    subst hM
    show WW G IL_votesAgainst _ 7 _ [.int y9, .int 0, .ref lo] M' _ _
    refine r_i2l (dk kL_votesAgainst 5 rfl) ?_
    refine r_las (dk kL_votesAgainst 6 rfl) kl ll (j := 0) rfl (by decide) (by decide) ?_
    refine r_goto (tgt := 15) (dk kL_votesAgainst 7 rfl) (by decide) ?_
    refine r_iconst (v := 0) (dk kL_votesAgainst 11 rfl) (by decide) ?_
    refine r_ireturn (dk kL_votesAgainst 12 rfl) rfl rfl ⟨Nat.le_of_ble_eq_true rfl, Nat.le_of_ble_eq_true rfl⟩ ⟨c0.symm, (FY.rfl _ _).j _ _ _, fun _ => by rw [mj_s, hy], cb.sJ _ _ _⟩
theorem hg_stoneIn (cb : CB F M x B) (kl : kd M lo = 22) (ll : ln M lo = 1) (c : Int32) (hK : KK G IX8_stoneIn [.ref x, .int c] M (QSp M sp nm3)) (sh : sp.1 = 0 ∨ sp.1 = 1 ∨ sp.1 = 2) : KK G IL_stoneIn [.ref x, .int c, .ref lo] M (QL F M x lo sp.1 sp.2 B) := by
  refine KK.ofWH (by decide) (by simp [Value.category]) (Nat.le_of_ble_eq_true rfl) rfl ?_
  show WW _ _ _ 0 [_, _, _, lj] [] _ _ _
  refine r_aload_n (dk kL_stoneIn 0 rfl) rfl ?_
  refine r_iconst (v := 0) (dk kL_stoneIn 1 rfl) (by decide) ?_
  refine r_aload_n (dk kL_stoneIn 2 rfl) rfl ?_
  refine r_iload_n (dk kL_stoneIn 3 rfl) rfl ?_
  -- at 4
  refine r_tryV (I' := IX8_stoneIn) (as := [_]) (dk kL_stoneIn 4 rfl) mv_X8_stoneIn ml_L_29 rfl cb.o.k rfl rfl (Nat.le_of_ble_eq_true rfl) ⟨by decide, by decide⟩ ⟨Nat.le_of_ble_eq_true rfl, Nat.le_of_ble_eq_true rfl⟩ hK ?_ ?_
  · rintro E M' ⟨h0, hE, z, hz⟩
    subst hz
    rcases sh with e | e | e
    · exact absurd e h0
    · have hE2 : E = "java/lang/IndexOutOfBoundsException" := hE.trans (by rw [e]; rfl)
      refine ⟨12, by rw [hE2]; exact hn_stoneIn_1, fun q => ?_⟩
      refine r_astore_n (j := 3) (dk kL_stoneIn 8 rfl) rfl (by decide) rfl ?_
      simp only [List.set_cons_succ, List.set_cons_zero]
      refine r_iconst (v := 1) (dk kL_stoneIn 9 rfl) (by decide) ?_
      refine r_ireturn (dk kL_stoneIn 10 rfl) rfl rfl ⟨Nat.le_of_ble_eq_true rfl, Nat.le_of_ble_eq_true rfl⟩ ⟨e.symm, FY.rfl M x, fun z2 => absurd z2 h0, cb.sx z⟩
    · have hE2 : E = "java/util/NoSuchElementException" := hE.trans (by rw [e]; rfl)
      refine ⟨15, by rw [hE2]; exact hn_stoneIn_2, fun q => ?_⟩
      refine r_astore_n (j := 3) (dk kL_stoneIn 11 rfl) rfl (by decide) rfl ?_
      simp only [List.set_cons_succ, List.set_cons_zero]
      refine r_iconst (v := 2) (dk kL_stoneIn 12 rfl) (by decide) ?_
      refine r_ireturn (dk kL_stoneIn 13 rfl) rfl rfl ⟨Nat.le_of_ble_eq_true rfl, Nat.le_of_ble_eq_true rfl⟩ ⟨e.symm, FY.rfl M x, fun z2 => absurd z2 h0, cb.sx z⟩
  · rintro v M' ⟨y9, hv, c0, hy, hM⟩
    subst hv
    subst hM
    show WW G IL_stoneIn _ 7 _ [.int y9, .int 0, .ref lo] M' _ _
    refine r_i2l (dk kL_stoneIn 5 rfl) ?_
    refine r_las (dk kL_stoneIn 6 rfl) kl ll (j := 0) rfl (by decide) (by decide) ?_
    refine r_goto (tgt := 18) (dk kL_stoneIn 7 rfl) (by decide) ?_
    refine r_iconst (v := 0) (dk kL_stoneIn 14 rfl) (by decide) ?_
    refine r_ireturn (dk kL_stoneIn 15 rfl) rfl rfl ⟨Nat.le_of_ble_eq_true rfl, Nat.le_of_ble_eq_true rfl⟩ ⟨c0.symm, (FY.rfl _ _).j _ _ _, fun _ => by rw [mj_s, hy], cb.sJ _ _ _⟩
theorem hg_citation (cb : CB F M x B) (kl : kd M lo = 22) (ll : ln M lo = 1) (y c : Int32) (hK : KK G IX8_citation [.ref x, .int y, .int c] M (QSp M sp nm3)) (sh : sp.1 = 0 ∨ sp.1 = 1 ∨ sp.1 = 2) : KK G IL_citation [.ref x, .int y, .int c, .ref lo] M (QL F M x lo sp.1 sp.2 B) := by
  refine KK.ofWH (by decide) (by simp [Value.category]) (Nat.le_of_ble_eq_true rfl) rfl ?_
  show WW _ _ _ 0 [_, _, _, _, lj] [] _ _ _
  refine r_aload_n (dk kL_citation 0 rfl) rfl ?_
  refine r_iconst (v := 0) (dk kL_citation 1 rfl) (by decide) ?_
  refine r_aload_n (dk kL_citation 2 rfl) rfl ?_
  refine r_iload_n (dk kL_citation 3 rfl) rfl ?_
  refine r_iload_n (dk kL_citation 4 rfl) rfl ?_
  -- at 5
  refine r_tryV (I' := IX8_citation) (as := [_, _]) (dk kL_citation 5 rfl) mv_X8_citation ml_L_95 rfl cb.o.k rfl rfl (Nat.le_of_ble_eq_true rfl) ⟨by decide, by decide⟩ ⟨Nat.le_of_ble_eq_true rfl, Nat.le_of_ble_eq_true rfl⟩ hK ?_ ?_
  · rintro E M' ⟨h0, hE, z, hz⟩
    subst hz
    rcases sh with e | e | e
    · exact absurd e h0
    · have hE2 : E = "java/lang/IndexOutOfBoundsException" := hE.trans (by rw [e]; rfl)
      refine ⟨13, by rw [hE2]; exact hn_citation_1, fun q => ?_⟩
      refine r_astore (dk kL_citation 9 rfl) (by decide) rfl ?_
      simp only [List.set_cons_succ, List.set_cons_zero]
      refine r_iconst (v := 1) (dk kL_citation 10 rfl) (by decide) ?_
      refine r_ireturn (dk kL_citation 11 rfl) rfl rfl ⟨Nat.le_of_ble_eq_true rfl, Nat.le_of_ble_eq_true rfl⟩ ⟨e.symm, FY.rfl M x, fun z2 => absurd z2 h0, cb.sx z⟩
    · have hE2 : E = "java/util/NoSuchElementException" := hE.trans (by rw [e]; rfl)
      refine ⟨17, by rw [hE2]; exact hn_citation_2, fun q => ?_⟩
      refine r_astore (dk kL_citation 12 rfl) (by decide) rfl ?_
      simp only [List.set_cons_succ, List.set_cons_zero]
      refine r_iconst (v := 2) (dk kL_citation 13 rfl) (by decide) ?_
      refine r_ireturn (dk kL_citation 14 rfl) rfl rfl ⟨Nat.le_of_ble_eq_true rfl, Nat.le_of_ble_eq_true rfl⟩ ⟨e.symm, FY.rfl M x, fun z2 => absurd z2 h0, cb.sx z⟩
  · rintro v M' ⟨y9, hv, c0, hy, hM⟩
    subst hv
    subst hM
    show WW G IL_citation _ 8 _ [.int y9, .int 0, .ref lo] M' _ _
    refine r_i2l (dk kL_citation 6 rfl) ?_
    refine r_las (dk kL_citation 7 rfl) kl ll (j := 0) rfl (by decide) (by decide) ?_
    refine r_goto (tgt := 21) (dk kL_citation 8 rfl) (by decide) ?_
    refine r_iconst (v := 0) (dk kL_citation 15 rfl) (by decide) ?_
    refine r_ireturn (dk kL_citation 16 rfl) rfl rfl ⟨Nat.le_of_ble_eq_true rfl, Nat.le_of_ble_eq_true rfl⟩ ⟨c0.symm, (FY.rfl _ _).j _ _ _, fun _ => by rw [mj_s, hy], cb.sJ _ _ _⟩
theorem hg_faultPosition (cb : CB F M x B) (kl : kd M lo = 22) (ll : ln M lo = 1) (hK : KK G IX8_faultPosition [.ref x] M (QSp M sp nm2)) (sh : sp.1 = 0 ∨ sp.1 = 1) : KK G IL_faultPosition [.ref x, .ref lo] M (QL F M x lo sp.1 sp.2 B) := by
  refine KK.ofWH (by decide) (by simp [Value.category]) (Nat.le_of_ble_eq_true rfl) rfl ?_
  show WW _ _ _ 0 [_, _, lj] [] _ _ _
  refine r_aload_n (dk kL_faultPosition 0 rfl) rfl ?_
  refine r_iconst (v := 0) (dk kL_faultPosition 1 rfl) (by decide) ?_
  refine r_aload_n (dk kL_faultPosition 2 rfl) rfl ?_
  -- at 3
  refine r_tryV (I' := IX8_faultPosition) (as := []) (dk kL_faultPosition 3 rfl) mv_X8_faultPosition ml_L_136 rfl cb.o.k rfl rfl (Nat.le_of_ble_eq_true rfl) ⟨by decide, by decide⟩ ⟨Nat.le_of_ble_eq_true rfl, Nat.le_of_ble_eq_true rfl⟩ hK ?_ ?_
  · rintro E M' ⟨h0, hE, z, hz⟩
    subst hz
    rcases sh with e | e
    · exact absurd e h0
    · have hE2 : E = "java/util/NoSuchElementException" := hE.trans (by rw [e]; rfl)
      refine ⟨11, by rw [hE2]; exact hn_faultPosition_1, fun q => ?_⟩
      refine r_astore_n (j := 2) (dk kL_faultPosition 7 rfl) rfl (by decide) rfl ?_
      simp only [List.set_cons_succ, List.set_cons_zero]
      refine r_iconst (v := 1) (dk kL_faultPosition 8 rfl) (by decide) ?_
      refine r_ireturn (dk kL_faultPosition 9 rfl) rfl rfl ⟨Nat.le_of_ble_eq_true rfl, Nat.le_of_ble_eq_true rfl⟩ ⟨e.symm, FY.rfl M x, fun z2 => absurd z2 h0, cb.sx z⟩
  · rintro v M' ⟨y9, hv, c0, hy, hM⟩
    subst hv
    subst hM
    show WW G IL_faultPosition _ 6 _ [.int y9, .int 0, .ref lo] M' _ _
    refine r_i2l (dk kL_faultPosition 4 rfl) ?_
    refine r_las (dk kL_faultPosition 5 rfl) kl ll (j := 0) rfl (by decide) (by decide) ?_
    refine r_goto (tgt := 14) (dk kL_faultPosition 6 rfl) (by decide) ?_
    refine r_iconst (v := 0) (dk kL_faultPosition 10 rfl) (by decide) ?_
    refine r_ireturn (dk kL_faultPosition 11 rfl) rfl rfl ⟨Nat.le_of_ble_eq_true rfl, Nat.le_of_ble_eq_true rfl⟩ ⟨c0.symm, (FY.rfl _ _).j _ _ _, fun _ => by rw [mj_s, hy], cb.sJ _ _ _⟩
theorem hg_denial (cb : CB F M x B) (kl : kd M lo = 22) (ll : ln M lo = 1) (hK : KK G IX8_denial [.ref x] M (QSp M sp nm2)) (sh : sp.1 = 0 ∨ sp.1 = 1) : KK G IL_denial [.ref x, .ref lo] M (QL F M x lo sp.1 sp.2 B) := by
  refine KK.ofWH (by decide) (by simp [Value.category]) (Nat.le_of_ble_eq_true rfl) rfl ?_
  show WW _ _ _ 0 [_, _, lj] [] _ _ _
  refine r_aload_n (dk kL_denial 0 rfl) rfl ?_
  refine r_iconst (v := 0) (dk kL_denial 1 rfl) (by decide) ?_
  refine r_aload_n (dk kL_denial 2 rfl) rfl ?_
  -- at 3
  refine r_tryV (I' := IX8_denial) (as := []) (dk kL_denial 3 rfl) mv_X8_denial ml_L_149 rfl cb.o.k rfl rfl (Nat.le_of_ble_eq_true rfl) ⟨by decide, by decide⟩ ⟨Nat.le_of_ble_eq_true rfl, Nat.le_of_ble_eq_true rfl⟩ hK ?_ ?_
  · rintro E M' ⟨h0, hE, z, hz⟩
    subst hz
    rcases sh with e | e
    · exact absurd e h0
    · have hE2 : E = "java/util/NoSuchElementException" := hE.trans (by rw [e]; rfl)
      refine ⟨11, by rw [hE2]; exact hn_denial_1, fun q => ?_⟩
      refine r_astore_n (j := 2) (dk kL_denial 7 rfl) rfl (by decide) rfl ?_
      simp only [List.set_cons_succ, List.set_cons_zero]
      refine r_iconst (v := 1) (dk kL_denial 8 rfl) (by decide) ?_
      refine r_ireturn (dk kL_denial 9 rfl) rfl rfl ⟨Nat.le_of_ble_eq_true rfl, Nat.le_of_ble_eq_true rfl⟩ ⟨e.symm, FY.rfl M x, fun z2 => absurd z2 h0, cb.sx z⟩
  · rintro v M' ⟨y9, hv, c0, hy, hM⟩
    subst hv
    subst hM
    show WW G IL_denial _ 6 _ [.int y9, .int 0, .ref lo] M' _ _
    refine r_i2l (dk kL_denial 4 rfl) ?_
    refine r_las (dk kL_denial 5 rfl) kl ll (j := 0) rfl (by decide) (by decide) ?_
    refine r_goto (tgt := 14) (dk kL_denial 6 rfl) (by decide) ?_
    refine r_iconst (v := 0) (dk kL_denial 10 rfl) (by decide) ?_
    refine r_ireturn (dk kL_denial 11 rfl) rfl rfl ⟨Nat.le_of_ble_eq_true rfl, Nat.le_of_ble_eq_true rfl⟩ ⟨c0.symm, (FY.rfl _ _).j _ _ _, fun _ => by rw [mj_s, hy], cb.sJ _ _ _⟩
theorem hg_denialDetail (cb : CB F M x B) (kl : kd M lo = 22) (ll : ln M lo = 1) (hK : KK G IX8_denialDetail [.ref x] M (QSp M sp nm2)) (sh : sp.1 = 0 ∨ sp.1 = 1) : KK G IL_denialDetail [.ref x, .ref lo] M (QL F M x lo sp.1 sp.2 B) := by
  refine KK.ofWH (by decide) (by simp [Value.category]) (Nat.le_of_ble_eq_true rfl) rfl ?_
  show WW _ _ _ 0 [_, _, lj] [] _ _ _
  refine r_aload_n (dk kL_denialDetail 0 rfl) rfl ?_
  refine r_iconst (v := 0) (dk kL_denialDetail 1 rfl) (by decide) ?_
  refine r_aload_n (dk kL_denialDetail 2 rfl) rfl ?_
  -- at 3
  refine r_tryV (I' := IX8_denialDetail) (as := []) (dk kL_denialDetail 3 rfl) mv_X8_denialDetail ml_L_152 rfl cb.o.k rfl rfl (Nat.le_of_ble_eq_true rfl) ⟨by decide, by decide⟩ ⟨Nat.le_of_ble_eq_true rfl, Nat.le_of_ble_eq_true rfl⟩ hK ?_ ?_
  · rintro E M' ⟨h0, hE, z, hz⟩
    subst hz
    rcases sh with e | e
    · exact absurd e h0
    · have hE2 : E = "java/util/NoSuchElementException" := hE.trans (by rw [e]; rfl)
      refine ⟨11, by rw [hE2]; exact hn_denialDetail_1, fun q => ?_⟩
      refine r_astore_n (j := 2) (dk kL_denialDetail 7 rfl) rfl (by decide) rfl ?_
      simp only [List.set_cons_succ, List.set_cons_zero]
      refine r_iconst (v := 1) (dk kL_denialDetail 8 rfl) (by decide) ?_
      refine r_ireturn (dk kL_denialDetail 9 rfl) rfl rfl ⟨Nat.le_of_ble_eq_true rfl, Nat.le_of_ble_eq_true rfl⟩ ⟨e.symm, FY.rfl M x, fun z2 => absurd z2 h0, cb.sx z⟩
  · rintro v M' ⟨y9, hv, c0, hy, hM⟩
    subst hv
    subst hM
    show WW G IL_denialDetail _ 6 _ [.int y9, .int 0, .ref lo] M' _ _
    refine r_i2l (dk kL_denialDetail 4 rfl) ?_
    refine r_las (dk kL_denialDetail 5 rfl) kl ll (j := 0) rfl (by decide) (by decide) ?_
    refine r_goto (tgt := 14) (dk kL_denialDetail 6 rfl) (by decide) ?_
    refine r_iconst (v := 0) (dk kL_denialDetail 10 rfl) (by decide) ?_
    refine r_ireturn (dk kL_denialDetail 11 rfl) rfl rfl ⟨Nat.le_of_ble_eq_true rfl, Nat.le_of_ble_eq_true rfl⟩ ⟨c0.symm, (FY.rfl _ _).j _ _ _, fun _ => by rw [mj_s, hy], cb.sJ _ _ _⟩
theorem hg_denialCause (cb : CB F M x B) (kl : kd M lo = 22) (ll : ln M lo = 1) (hK : KK G IX8_denialCause [.ref x] M (QSp M sp nm2)) (sh : sp.1 = 0 ∨ sp.1 = 1) : KK G IL_denialCause [.ref x, .ref lo] M (QL F M x lo sp.1 sp.2 B) := by
  refine KK.ofWH (by decide) (by simp [Value.category]) (Nat.le_of_ble_eq_true rfl) rfl ?_
  show WW _ _ _ 0 [_, _, lj] [] _ _ _
  refine r_aload_n (dk kL_denialCause 0 rfl) rfl ?_
  refine r_iconst (v := 0) (dk kL_denialCause 1 rfl) (by decide) ?_
  refine r_aload_n (dk kL_denialCause 2 rfl) rfl ?_
  -- at 3
  refine r_tryV (I' := IX8_denialCause) (as := []) (dk kL_denialCause 3 rfl) mv_X8_denialCause ml_L_155 rfl cb.o.k rfl rfl (Nat.le_of_ble_eq_true rfl) ⟨by decide, by decide⟩ ⟨Nat.le_of_ble_eq_true rfl, Nat.le_of_ble_eq_true rfl⟩ hK ?_ ?_
  · rintro E M' ⟨h0, hE, z, hz⟩
    subst hz
    rcases sh with e | e
    · exact absurd e h0
    · have hE2 : E = "java/util/NoSuchElementException" := hE.trans (by rw [e]; rfl)
      refine ⟨11, by rw [hE2]; exact hn_denialCause_1, fun q => ?_⟩
      refine r_astore_n (j := 2) (dk kL_denialCause 7 rfl) rfl (by decide) rfl ?_
      simp only [List.set_cons_succ, List.set_cons_zero]
      refine r_iconst (v := 1) (dk kL_denialCause 8 rfl) (by decide) ?_
      refine r_ireturn (dk kL_denialCause 9 rfl) rfl rfl ⟨Nat.le_of_ble_eq_true rfl, Nat.le_of_ble_eq_true rfl⟩ ⟨e.symm, FY.rfl M x, fun z2 => absurd z2 h0, cb.sx z⟩
  · rintro v M' ⟨y9, hv, c0, hy, hM⟩
    subst hv
    subst hM
    show WW G IL_denialCause _ 6 _ [.int y9, .int 0, .ref lo] M' _ _
    refine r_i2l (dk kL_denialCause 4 rfl) ?_
    refine r_las (dk kL_denialCause 5 rfl) kl ll (j := 0) rfl (by decide) (by decide) ?_
    refine r_goto (tgt := 14) (dk kL_denialCause 6 rfl) (by decide) ?_
    refine r_iconst (v := 0) (dk kL_denialCause 10 rfl) (by decide) ?_
    refine r_ireturn (dk kL_denialCause 11 rfl) rfl rfl ⟨Nat.le_of_ble_eq_true rfl, Nat.le_of_ble_eq_true rfl⟩ ⟨c0.symm, (FY.rfl _ _).j _ _ _, fun _ => by rw [mj_s, hy], cb.sJ _ _ _⟩
theorem hg_denialCauseDetail (cb : CB F M x B) (kl : kd M lo = 22) (ll : ln M lo = 1) (hK : KK G IX8_denialCauseDetail [.ref x] M (QSp M sp nm2)) (sh : sp.1 = 0 ∨ sp.1 = 1) : KK G IL_denialCauseDetail [.ref x, .ref lo] M (QL F M x lo sp.1 sp.2 B) := by
  refine KK.ofWH (by decide) (by simp [Value.category]) (Nat.le_of_ble_eq_true rfl) rfl ?_
  show WW _ _ _ 0 [_, _, lj] [] _ _ _
  refine r_aload_n (dk kL_denialCauseDetail 0 rfl) rfl ?_
  refine r_iconst (v := 0) (dk kL_denialCauseDetail 1 rfl) (by decide) ?_
  refine r_aload_n (dk kL_denialCauseDetail 2 rfl) rfl ?_
  -- at 3
  refine r_tryV (I' := IX8_denialCauseDetail) (as := []) (dk kL_denialCauseDetail 3 rfl) mv_X8_denialCauseDetail ml_L_158 rfl cb.o.k rfl rfl (Nat.le_of_ble_eq_true rfl) ⟨by decide, by decide⟩ ⟨Nat.le_of_ble_eq_true rfl, Nat.le_of_ble_eq_true rfl⟩ hK ?_ ?_
  · rintro E M' ⟨h0, hE, z, hz⟩
    subst hz
    rcases sh with e | e
    · exact absurd e h0
    · have hE2 : E = "java/util/NoSuchElementException" := hE.trans (by rw [e]; rfl)
      refine ⟨11, by rw [hE2]; exact hn_denialCauseDetail_1, fun q => ?_⟩
      refine r_astore_n (j := 2) (dk kL_denialCauseDetail 7 rfl) rfl (by decide) rfl ?_
      simp only [List.set_cons_succ, List.set_cons_zero]
      refine r_iconst (v := 1) (dk kL_denialCauseDetail 8 rfl) (by decide) ?_
      refine r_ireturn (dk kL_denialCauseDetail 9 rfl) rfl rfl ⟨Nat.le_of_ble_eq_true rfl, Nat.le_of_ble_eq_true rfl⟩ ⟨e.symm, FY.rfl M x, fun z2 => absurd z2 h0, cb.sx z⟩
  · rintro v M' ⟨y9, hv, c0, hy, hM⟩
    subst hv
    subst hM
    show WW G IL_denialCauseDetail _ 6 _ [.int y9, .int 0, .ref lo] M' _ _
    refine r_i2l (dk kL_denialCauseDetail 4 rfl) ?_
    refine r_las (dk kL_denialCauseDetail 5 rfl) kl ll (j := 0) rfl (by decide) (by decide) ?_
    refine r_goto (tgt := 14) (dk kL_denialCauseDetail 6 rfl) (by decide) ?_
    refine r_iconst (v := 0) (dk kL_denialCauseDetail 10 rfl) (by decide) ?_
    refine r_ireturn (dk kL_denialCauseDetail 11 rfl) rfl rfl ⟨Nat.le_of_ble_eq_true rfl, Nat.le_of_ble_eq_true rfl⟩ ⟨c0.symm, (FY.rfl _ _).j _ _ _, fun _ => by rw [mj_s, hy], cb.sJ _ _ _⟩
theorem hg_wouldBeGranted (cb : CB F M x B) (kl : kd M lo = 22) (ll : ln M lo = 1) (y : Int32) (hK : KK G IX8_wouldBeGranted [.ref x, .int y] M (QSp M sp nm2)) (sh : sp.1 = 0 ∧ sp.2 = 0 ∨ sp.1 = 0 ∧ sp.2 = 1 ∨ sp.1 = 1) : KK G IL_wouldBeGranted [.ref x, .int y, .ref lo] M (QL F M x lo sp.1 sp.2 B) := by
  refine KK.ofWH (by decide) (by simp [Value.category]) (Nat.le_of_ble_eq_true rfl) rfl ?_
  show WW _ _ _ 0 [_, _, _, lj] [] _ _ _
  refine r_aload_n (dk kL_wouldBeGranted 0 rfl) rfl ?_
  refine r_iconst (v := 0) (dk kL_wouldBeGranted 1 rfl) (by decide) ?_
  refine r_aload_n (dk kL_wouldBeGranted 2 rfl) rfl ?_
  refine r_iload_n (dk kL_wouldBeGranted 3 rfl) rfl ?_
  -- at 4
  refine r_tryV (I' := IX8_wouldBeGranted) (as := [_]) (dk kL_wouldBeGranted 4 rfl) mv_X8_wouldBeGranted ml_L_75 rfl cb.o.k rfl rfl (Nat.le_of_ble_eq_true rfl) ⟨by decide, by decide⟩ ⟨Nat.le_of_ble_eq_true rfl, Nat.le_of_ble_eq_true rfl⟩ hK ?_ ?_
  · rintro E M' ⟨h0, hE, z, hz⟩
    subst hz
    rcases sh with ⟨e, e2⟩ | ⟨e, e2⟩ | e
    · exact absurd e h0
    · exact absurd e h0
    · have hE2 : E = "java/util/NoSuchElementException" := hE.trans (by rw [e]; rfl)
      refine ⟨19, by rw [hE2]; exact hn_wouldBeGranted_1, fun q => ?_⟩
      refine r_astore_n (j := 3) (dk kL_wouldBeGranted 11 rfl) rfl (by decide) rfl ?_
      simp only [List.set_cons_succ, List.set_cons_zero]
      refine r_iconst (v := 1) (dk kL_wouldBeGranted 12 rfl) (by decide) ?_
      refine r_ireturn (dk kL_wouldBeGranted 13 rfl) rfl rfl ⟨Nat.le_of_ble_eq_true rfl, Nat.le_of_ble_eq_true rfl⟩ ⟨e.symm, FY.rfl M x, fun z2 => absurd z2 h0, cb.sx z⟩
  · rintro v M' ⟨y9, hv, c0, hy, hM⟩
    subst hv
    subst hM
    show WW G IL_wouldBeGranted _ 7 _ [.int y9, .int 0, .ref lo] M' _ _
    rcases sh with ⟨e, e2⟩ | ⟨e, e2⟩ | e
    · refine r_if_eq (tgt := 14) (dk kL_wouldBeGranted 5 rfl) (by decide) (fun c7 => ?_) (fun c7 => absurd (hy.trans e2) c7)
      refine r_lconst (v := 0) (dk kL_wouldBeGranted 8 rfl) (by decide) ?_
      refine r_las (dk kL_wouldBeGranted 9 rfl) kl ll (j := 0) rfl (by decide) (by decide) ?_
      refine r_goto (tgt := 22) (dk kL_wouldBeGranted 10 rfl) (by decide) ?_
      refine r_iconst (v := 0) (dk kL_wouldBeGranted 14 rfl) (by decide) ?_
      refine r_ireturn (dk kL_wouldBeGranted 15 rfl) rfl rfl ⟨Nat.le_of_ble_eq_true rfl, Nat.le_of_ble_eq_true rfl⟩ ⟨c0.symm, (FY.rfl _ _).j _ _ _, fun _ => by rw [mj_s, e2]; rfl, cb.sJ _ _ _⟩
    · refine r_if_eq (tgt := 14) (dk kL_wouldBeGranted 5 rfl) (by decide) (fun c7 => absurd c7 (by rw [hy, e2]; decide)) (fun c7 => ?_)
      refine r_lconst (v := 1) (dk kL_wouldBeGranted 6 rfl) (by decide) ?_
      refine r_goto (tgt := 15) (dk kL_wouldBeGranted 7 rfl) (by decide) ?_
      refine r_las (dk kL_wouldBeGranted 9 rfl) kl ll (j := 0) rfl (by decide) (by decide) ?_
      refine r_goto (tgt := 22) (dk kL_wouldBeGranted 10 rfl) (by decide) ?_
      refine r_iconst (v := 0) (dk kL_wouldBeGranted 14 rfl) (by decide) ?_
      refine r_ireturn (dk kL_wouldBeGranted 15 rfl) rfl rfl ⟨Nat.le_of_ble_eq_true rfl, Nat.le_of_ble_eq_true rfl⟩ ⟨c0.symm, (FY.rfl _ _).j _ _ _, fun _ => by rw [mj_s, e2]; rfl, cb.sJ _ _ _⟩
    · exact absurd (c0.symm.trans e) (by decide)
theorem hg_isGranted (cb : CB F M x B) (kl : kd M lo = 22) (ll : ln M lo = 1) (y : Int32) (hK : KK G IX8_isGranted [.ref x, .int y] M (QSp M sp nm1)) (sh : sp.1 = 0 ∧ sp.2 = 0 ∨ sp.1 = 0 ∧ sp.2 = 1 ∨ sp.1 = 1) : KK G IL_isGranted [.ref x, .int y, .ref lo] M (QL F M x lo sp.1 sp.2 B) := by
  refine KK.ofWH (by decide) (by simp [Value.category]) (Nat.le_of_ble_eq_true rfl) rfl ?_
  show WW _ _ _ 0 [_, _, _, lj] [] _ _ _
  refine r_aload_n (dk kL_isGranted 0 rfl) rfl ?_
  refine r_iconst (v := 0) (dk kL_isGranted 1 rfl) (by decide) ?_
  refine r_aload_n (dk kL_isGranted 2 rfl) rfl ?_
  refine r_iload_n (dk kL_isGranted 3 rfl) rfl ?_
  -- at 4
  refine r_tryV (I' := IX8_isGranted) (as := [_]) (dk kL_isGranted 4 rfl) mv_X8_isGranted ml_L_86 rfl cb.o.k rfl rfl (Nat.le_of_ble_eq_true rfl) ⟨by decide, by decide⟩ ⟨Nat.le_of_ble_eq_true rfl, Nat.le_of_ble_eq_true rfl⟩ hK ?_ ?_
  · rintro E M' ⟨h0, hE, z, hz⟩
    subst hz
    rcases sh with ⟨e, e2⟩ | ⟨e, e2⟩ | e
    · exact absurd e h0
    · exact absurd e h0
    · have hE2 : E = "java/lang/IndexOutOfBoundsException" := hE.trans (by rw [e]; rfl)
      refine ⟨19, by rw [hE2]; exact hn_isGranted_1, fun q => ?_⟩
      refine r_astore_n (j := 3) (dk kL_isGranted 11 rfl) rfl (by decide) rfl ?_
      simp only [List.set_cons_succ, List.set_cons_zero]
      refine r_iconst (v := 1) (dk kL_isGranted 12 rfl) (by decide) ?_
      refine r_ireturn (dk kL_isGranted 13 rfl) rfl rfl ⟨Nat.le_of_ble_eq_true rfl, Nat.le_of_ble_eq_true rfl⟩ ⟨e.symm, FY.rfl M x, fun z2 => absurd z2 h0, cb.sx z⟩
  · rintro v M' ⟨y9, hv, c0, hy, hM⟩
    subst hv
    subst hM
    show WW G IL_isGranted _ 7 _ [.int y9, .int 0, .ref lo] M' _ _
    rcases sh with ⟨e, e2⟩ | ⟨e, e2⟩ | e
    · refine r_if_eq (tgt := 14) (dk kL_isGranted 5 rfl) (by decide) (fun c7 => ?_) (fun c7 => absurd (hy.trans e2) c7)
      refine r_lconst (v := 0) (dk kL_isGranted 8 rfl) (by decide) ?_
      refine r_las (dk kL_isGranted 9 rfl) kl ll (j := 0) rfl (by decide) (by decide) ?_
      refine r_goto (tgt := 22) (dk kL_isGranted 10 rfl) (by decide) ?_
      refine r_iconst (v := 0) (dk kL_isGranted 14 rfl) (by decide) ?_
      refine r_ireturn (dk kL_isGranted 15 rfl) rfl rfl ⟨Nat.le_of_ble_eq_true rfl, Nat.le_of_ble_eq_true rfl⟩ ⟨c0.symm, (FY.rfl _ _).j _ _ _, fun _ => by rw [mj_s, e2]; rfl, cb.sJ _ _ _⟩
    · refine r_if_eq (tgt := 14) (dk kL_isGranted 5 rfl) (by decide) (fun c7 => absurd c7 (by rw [hy, e2]; decide)) (fun c7 => ?_)
      refine r_lconst (v := 1) (dk kL_isGranted 6 rfl) (by decide) ?_
      refine r_goto (tgt := 15) (dk kL_isGranted 7 rfl) (by decide) ?_
      refine r_las (dk kL_isGranted 9 rfl) kl ll (j := 0) rfl (by decide) (by decide) ?_
      refine r_goto (tgt := 22) (dk kL_isGranted 10 rfl) (by decide) ?_
      refine r_iconst (v := 0) (dk kL_isGranted 14 rfl) (by decide) ?_
      refine r_ireturn (dk kL_isGranted 15 rfl) rfl rfl ⟨Nat.le_of_ble_eq_true rfl, Nat.le_of_ble_eq_true rfl⟩ ⟨c0.symm, (FY.rfl _ _).j _ _ _, fun _ => by rw [mj_s, e2]; rfl, cb.sJ _ _ _⟩
    · exact absurd (c0.symm.trans e) (by decide)
theorem hg_isCarriedOut (cb : CB F M x B) (kl : kd M lo = 22) (ll : ln M lo = 1) (y : Int32) (hK : KK G IX8_isCarriedOut [.ref x, .int y] M (QSp M sp nm1)) (sh : sp.1 = 0 ∧ sp.2 = 0 ∨ sp.1 = 0 ∧ sp.2 = 1 ∨ sp.1 = 1) : KK G IL_isCarriedOut [.ref x, .int y, .ref lo] M (QL F M x lo sp.1 sp.2 B) := by
  refine KK.ofWH (by decide) (by simp [Value.category]) (Nat.le_of_ble_eq_true rfl) rfl ?_
  show WW _ _ _ 0 [_, _, _, lj] [] _ _ _
  refine r_aload_n (dk kL_isCarriedOut 0 rfl) rfl ?_
  refine r_iconst (v := 0) (dk kL_isCarriedOut 1 rfl) (by decide) ?_
  refine r_aload_n (dk kL_isCarriedOut 2 rfl) rfl ?_
  refine r_iload_n (dk kL_isCarriedOut 3 rfl) rfl ?_
  -- at 4
  refine r_tryV (I' := IX8_isCarriedOut) (as := [_]) (dk kL_isCarriedOut 4 rfl) mv_X8_isCarriedOut ml_L_89 rfl cb.o.k rfl rfl (Nat.le_of_ble_eq_true rfl) ⟨by decide, by decide⟩ ⟨Nat.le_of_ble_eq_true rfl, Nat.le_of_ble_eq_true rfl⟩ hK ?_ ?_
  · rintro E M' ⟨h0, hE, z, hz⟩
    subst hz
    rcases sh with ⟨e, e2⟩ | ⟨e, e2⟩ | e
    · exact absurd e h0
    · exact absurd e h0
    · have hE2 : E = "java/lang/IndexOutOfBoundsException" := hE.trans (by rw [e]; rfl)
      refine ⟨19, by rw [hE2]; exact hn_isCarriedOut_1, fun q => ?_⟩
      refine r_astore_n (j := 3) (dk kL_isCarriedOut 11 rfl) rfl (by decide) rfl ?_
      simp only [List.set_cons_succ, List.set_cons_zero]
      refine r_iconst (v := 1) (dk kL_isCarriedOut 12 rfl) (by decide) ?_
      refine r_ireturn (dk kL_isCarriedOut 13 rfl) rfl rfl ⟨Nat.le_of_ble_eq_true rfl, Nat.le_of_ble_eq_true rfl⟩ ⟨e.symm, FY.rfl M x, fun z2 => absurd z2 h0, cb.sx z⟩
  · rintro v M' ⟨y9, hv, c0, hy, hM⟩
    subst hv
    subst hM
    show WW G IL_isCarriedOut _ 7 _ [.int y9, .int 0, .ref lo] M' _ _
    rcases sh with ⟨e, e2⟩ | ⟨e, e2⟩ | e
    · refine r_if_eq (tgt := 14) (dk kL_isCarriedOut 5 rfl) (by decide) (fun c7 => ?_) (fun c7 => absurd (hy.trans e2) c7)
      refine r_lconst (v := 0) (dk kL_isCarriedOut 8 rfl) (by decide) ?_
      refine r_las (dk kL_isCarriedOut 9 rfl) kl ll (j := 0) rfl (by decide) (by decide) ?_
      refine r_goto (tgt := 22) (dk kL_isCarriedOut 10 rfl) (by decide) ?_
      refine r_iconst (v := 0) (dk kL_isCarriedOut 14 rfl) (by decide) ?_
      refine r_ireturn (dk kL_isCarriedOut 15 rfl) rfl rfl ⟨Nat.le_of_ble_eq_true rfl, Nat.le_of_ble_eq_true rfl⟩ ⟨c0.symm, (FY.rfl _ _).j _ _ _, fun _ => by rw [mj_s, e2]; rfl, cb.sJ _ _ _⟩
    · refine r_if_eq (tgt := 14) (dk kL_isCarriedOut 5 rfl) (by decide) (fun c7 => absurd c7 (by rw [hy, e2]; decide)) (fun c7 => ?_)
      refine r_lconst (v := 1) (dk kL_isCarriedOut 6 rfl) (by decide) ?_
      refine r_goto (tgt := 15) (dk kL_isCarriedOut 7 rfl) (by decide) ?_
      refine r_las (dk kL_isCarriedOut 9 rfl) kl ll (j := 0) rfl (by decide) (by decide) ?_
      refine r_goto (tgt := 22) (dk kL_isCarriedOut 10 rfl) (by decide) ?_
      refine r_iconst (v := 0) (dk kL_isCarriedOut 14 rfl) (by decide) ?_
      refine r_ireturn (dk kL_isCarriedOut 15 rfl) rfl rfl ⟨Nat.le_of_ble_eq_true rfl, Nat.le_of_ble_eq_true rfl⟩ ⟨c0.symm, (FY.rfl _ _).j _ _ _, fun _ => by rw [mj_s, e2]; rfl, cb.sJ _ _ _⟩
    · exact absurd (c0.symm.trans e) (by decide)
theorem hg_isBasedOn (cb : CB F M x B) (kl : kd M lo = 22) (ll : ln M lo = 1) (y c : Int32) (hK : KK G IX8_isBasedOn [.ref x, .int y, .int c] M (QSp M sp nm1)) (sh : sp.1 = 0 ∧ sp.2 = 0 ∨ sp.1 = 0 ∧ sp.2 = 1 ∨ sp.1 = 1) : KK G IL_isBasedOn [.ref x, .int y, .int c, .ref lo] M (QL F M x lo sp.1 sp.2 B) := by
  refine KK.ofWH (by decide) (by simp [Value.category]) (Nat.le_of_ble_eq_true rfl) rfl ?_
  show WW _ _ _ 0 [_, _, _, _, lj] [] _ _ _
  refine r_aload_n (dk kL_isBasedOn 0 rfl) rfl ?_
  refine r_iconst (v := 0) (dk kL_isBasedOn 1 rfl) (by decide) ?_
  refine r_aload_n (dk kL_isBasedOn 2 rfl) rfl ?_
  refine r_iload_n (dk kL_isBasedOn 3 rfl) rfl ?_
  refine r_iload_n (dk kL_isBasedOn 4 rfl) rfl ?_
  -- at 5
  refine r_tryV (I' := IX8_isBasedOn) (as := [_, _]) (dk kL_isBasedOn 5 rfl) mv_X8_isBasedOn ml_L_104 rfl cb.o.k rfl rfl (Nat.le_of_ble_eq_true rfl) ⟨by decide, by decide⟩ ⟨Nat.le_of_ble_eq_true rfl, Nat.le_of_ble_eq_true rfl⟩ hK ?_ ?_
  · rintro E M' ⟨h0, hE, z, hz⟩
    subst hz
    rcases sh with ⟨e, e2⟩ | ⟨e, e2⟩ | e
    · exact absurd e h0
    · exact absurd e h0
    · have hE2 : E = "java/lang/IndexOutOfBoundsException" := hE.trans (by rw [e]; rfl)
      refine ⟨20, by rw [hE2]; exact hn_isBasedOn_1, fun q => ?_⟩
      refine r_astore (dk kL_isBasedOn 12 rfl) (by decide) rfl ?_
      simp only [List.set_cons_succ, List.set_cons_zero]
      refine r_iconst (v := 1) (dk kL_isBasedOn 13 rfl) (by decide) ?_
      refine r_ireturn (dk kL_isBasedOn 14 rfl) rfl rfl ⟨Nat.le_of_ble_eq_true rfl, Nat.le_of_ble_eq_true rfl⟩ ⟨e.symm, FY.rfl M x, fun z2 => absurd z2 h0, cb.sx z⟩
  · rintro v M' ⟨y9, hv, c0, hy, hM⟩
    subst hv
    subst hM
    show WW G IL_isBasedOn _ 8 _ [.int y9, .int 0, .ref lo] M' _ _
    rcases sh with ⟨e, e2⟩ | ⟨e, e2⟩ | e
    · refine r_if_eq (tgt := 15) (dk kL_isBasedOn 6 rfl) (by decide) (fun c8 => ?_) (fun c8 => absurd (hy.trans e2) c8)
      refine r_lconst (v := 0) (dk kL_isBasedOn 9 rfl) (by decide) ?_
      refine r_las (dk kL_isBasedOn 10 rfl) kl ll (j := 0) rfl (by decide) (by decide) ?_
      refine r_goto (tgt := 24) (dk kL_isBasedOn 11 rfl) (by decide) ?_
      refine r_iconst (v := 0) (dk kL_isBasedOn 15 rfl) (by decide) ?_
      refine r_ireturn (dk kL_isBasedOn 16 rfl) rfl rfl ⟨Nat.le_of_ble_eq_true rfl, Nat.le_of_ble_eq_true rfl⟩ ⟨c0.symm, (FY.rfl _ _).j _ _ _, fun _ => by rw [mj_s, e2]; rfl, cb.sJ _ _ _⟩
    · refine r_if_eq (tgt := 15) (dk kL_isBasedOn 6 rfl) (by decide) (fun c8 => absurd c8 (by rw [hy, e2]; decide)) (fun c8 => ?_)
      refine r_lconst (v := 1) (dk kL_isBasedOn 7 rfl) (by decide) ?_
      refine r_goto (tgt := 16) (dk kL_isBasedOn 8 rfl) (by decide) ?_
      refine r_las (dk kL_isBasedOn 10 rfl) kl ll (j := 0) rfl (by decide) (by decide) ?_
      refine r_goto (tgt := 24) (dk kL_isBasedOn 11 rfl) (by decide) ?_
      refine r_iconst (v := 0) (dk kL_isBasedOn 15 rfl) (by decide) ?_
      refine r_ireturn (dk kL_isBasedOn 16 rfl) rfl rfl ⟨Nat.le_of_ble_eq_true rfl, Nat.le_of_ble_eq_true rfl⟩ ⟨c0.symm, (FY.rfl _ _).j _ _ _, fun _ => by rw [mj_s, e2]; rfl, cb.sJ _ _ _⟩
    · exact absurd (c0.symm.trans e) (by decide)
theorem hg_feed (cb : CB F M x B) (kl : kd M lo = 22) (ll : ln M lo = 1) (c : Int32) {ok : Bool} {z : Int32} {B2 : BS} (hK : KK G IX8_feed [.ref x, .int c] M (QOp F M x B ok z B2 nS)) : KK G IL_feed [.ref x, .int c, .ref lo] M (QL F M x lo (if ok = true then 0 else 1) z (if ok = true then B2 else B)) := by
  refine KK.ofWH (by decide) (by simp [Value.category]) (Nat.le_of_ble_eq_true rfl) rfl ?_
  show WW _ _ _ 0 [_, _, _, lj] [] _ _ _
  refine r_aload_n (dk kL_feed 0 rfl) rfl ?_
  refine r_iconst (v := 0) (dk kL_feed 1 rfl) (by decide) ?_
  refine r_aload_n (dk kL_feed 2 rfl) rfl ?_
  refine r_iload_n (dk kL_feed 3 rfl) rfl ?_
  -- at 4
  refine r_tryV (I' := IX8_feed) (as := [_]) (dk kL_feed 4 rfl) mv_X8_feed ml_L_127 rfl cb.o.k rfl rfl (Nat.le_of_ble_eq_true rfl) ⟨by decide, by decide⟩ ⟨Nat.le_of_ble_eq_true rfl, Nat.le_of_ble_eq_true rfl⟩ hK ?_ ?_
  · rintro E M' ⟨h0, hE, z3, hz⟩
    subst hz
    subst h0
    refine ⟨12, by rw [hE]; exact hn_feed_1, fun q => ?_⟩
    refine r_astore_n (j := 3) (dk kL_feed 8 rfl) rfl (by decide) rfl ?_
    simp only [List.set_cons_succ, List.set_cons_zero]
    refine r_iconst (v := 1) (dk kL_feed 9 rfl) (by decide) ?_
    refine r_ireturn (dk kL_feed 10 rfl) rfl rfl ⟨Nat.le_of_ble_eq_true rfl, Nat.le_of_ble_eq_true rfl⟩ ⟨rfl, FY.rfl M x, fun z2 => absurd z2 (by decide), cb.sx z3⟩
  · rintro v M' ⟨y9, hv, c0, hy, fx, cb2⟩
    subst hv
    subst c0
    show WW G IL_feed _ 7 _ [.int y9, .int 0, .ref lo] M' _ _
    refine r_i2l (dk kL_feed 5 rfl) ?_
    refine r_las (dk kL_feed 6 rfl) ((congrFun fx.1 lo).trans kl) ((congrFun fx.2.1 lo).trans ll) (j := 0) rfl (by decide) (by decide) ?_
    refine r_goto (tgt := 15) (dk kL_feed 7 rfl) (by decide) ?_
    refine r_iconst (v := 0) (dk kL_feed 11 rfl) (by decide) ?_
    refine r_ireturn (dk kL_feed 12 rfl) rfl rfl ⟨Nat.le_of_ble_eq_true rfl, Nat.le_of_ble_eq_true rfl⟩ ⟨rfl, fx.fy.j _ _ _, fun _ => by rw [mj_s, hy], cb2.sJ _ _ _⟩
theorem hg_undo (cb : CB F M x B) (kl : kd M lo = 22) (ll : ln M lo = 1) {ok : Bool} {z : Int32} {B2 : BS} (hK : KK G IX8_undo [.ref x] M (QOp F M x B ok z B2 nS)) : KK G IL_undo [.ref x, .ref lo] M (QL F M x lo (if ok = true then 0 else 1) z (if ok = true then B2 else B)) := by
  refine KK.ofWH (by decide) (by simp [Value.category]) (Nat.le_of_ble_eq_true rfl) rfl ?_
  show WW _ _ _ 0 [_, _, lj] [] _ _ _
  refine r_aload_n (dk kL_undo 0 rfl) rfl ?_
  refine r_iconst (v := 0) (dk kL_undo 1 rfl) (by decide) ?_
  refine r_aload_n (dk kL_undo 2 rfl) rfl ?_
  -- at 3
  refine r_tryV (I' := IX8_undo) (as := []) (dk kL_undo 3 rfl) mv_X8_undo ml_L_161 rfl cb.o.k rfl rfl (Nat.le_of_ble_eq_true rfl) ⟨by decide, by decide⟩ ⟨Nat.le_of_ble_eq_true rfl, Nat.le_of_ble_eq_true rfl⟩ hK ?_ ?_
  · rintro E M' ⟨h0, hE, z3, hz⟩
    subst hz
    subst h0
    refine ⟨11, by rw [hE]; exact hn_undo_1, fun q => ?_⟩
    refine r_astore_n (j := 2) (dk kL_undo 7 rfl) rfl (by decide) rfl ?_
    simp only [List.set_cons_succ, List.set_cons_zero]
    refine r_iconst (v := 1) (dk kL_undo 8 rfl) (by decide) ?_
    refine r_ireturn (dk kL_undo 9 rfl) rfl rfl ⟨Nat.le_of_ble_eq_true rfl, Nat.le_of_ble_eq_true rfl⟩ ⟨rfl, FY.rfl M x, fun z2 => absurd z2 (by decide), cb.sx z3⟩
  · rintro v M' ⟨y9, hv, c0, hy, fx, cb2⟩
    subst hv
    subst c0
    show WW G IL_undo _ 6 _ [.int y9, .int 0, .ref lo] M' _ _
    refine r_i2l (dk kL_undo 4 rfl) ?_
    refine r_las (dk kL_undo 5 rfl) ((congrFun fx.1 lo).trans kl) ((congrFun fx.2.1 lo).trans ll) (j := 0) rfl (by decide) (by decide) ?_
    refine r_goto (tgt := 14) (dk kL_undo 6 rfl) (by decide) ?_
    refine r_iconst (v := 0) (dk kL_undo 10 rfl) (by decide) ?_
    refine r_ireturn (dk kL_undo 11 rfl) rfl rfl ⟨Nat.le_of_ble_eq_true rfl, Nat.le_of_ble_eq_true rfl⟩ ⟨rfl, fx.fy.j _ _ _, fun _ => by rw [mj_s, hy], cb2.sJ _ _ _⟩
theorem hg_restoreSnapshot (cb : CB F M x B) (kl : kd M lo = 22) (ll : ln M lo = 1) {ok : Bool} {z : Int32} {B2 : BS} (hK : KK G IX8_restoreSnapshot [.ref x] M (QOp F M x B ok z B2 nS)) : KK G IL_restoreSnapshot [.ref x, .ref lo] M (QL F M x lo (if ok = true then 0 else 1) z (if ok = true then B2 else B)) := by
  refine KK.ofWH (by decide) (by simp [Value.category]) (Nat.le_of_ble_eq_true rfl) rfl ?_
  show WW _ _ _ 0 [_, _, lj] [] _ _ _
  refine r_aload_n (dk kL_restoreSnapshot 0 rfl) rfl ?_
  refine r_iconst (v := 0) (dk kL_restoreSnapshot 1 rfl) (by decide) ?_
  refine r_aload_n (dk kL_restoreSnapshot 2 rfl) rfl ?_
  -- at 3
  refine r_tryV (I' := IX8_restoreSnapshot) (as := []) (dk kL_restoreSnapshot 3 rfl) mv_X8_restoreSnapshot ml_L_164 rfl cb.o.k rfl rfl (Nat.le_of_ble_eq_true rfl) ⟨by decide, by decide⟩ ⟨Nat.le_of_ble_eq_true rfl, Nat.le_of_ble_eq_true rfl⟩ hK ?_ ?_
  · rintro E M' ⟨h0, hE, z3, hz⟩
    subst hz
    subst h0
    refine ⟨11, by rw [hE]; exact hn_restoreSnapshot_1, fun q => ?_⟩
    refine r_astore_n (j := 2) (dk kL_restoreSnapshot 7 rfl) rfl (by decide) rfl ?_
    simp only [List.set_cons_succ, List.set_cons_zero]
    refine r_iconst (v := 1) (dk kL_restoreSnapshot 8 rfl) (by decide) ?_
    refine r_ireturn (dk kL_restoreSnapshot 9 rfl) rfl rfl ⟨Nat.le_of_ble_eq_true rfl, Nat.le_of_ble_eq_true rfl⟩ ⟨rfl, FY.rfl M x, fun z2 => absurd z2 (by decide), cb.sx z3⟩
  · rintro v M' ⟨y9, hv, c0, hy, fx, cb2⟩
    subst hv
    subst c0
    show WW G IL_restoreSnapshot _ 6 _ [.int y9, .int 0, .ref lo] M' _ _
    refine r_i2l (dk kL_restoreSnapshot 4 rfl) ?_
    refine r_las (dk kL_restoreSnapshot 5 rfl) ((congrFun fx.1 lo).trans kl) ((congrFun fx.2.1 lo).trans ll) (j := 0) rfl (by decide) (by decide) ?_
    refine r_goto (tgt := 14) (dk kL_restoreSnapshot 6 rfl) (by decide) ?_
    refine r_iconst (v := 0) (dk kL_restoreSnapshot 10 rfl) (by decide) ?_
    refine r_ireturn (dk kL_restoreSnapshot 11 rfl) rfl rfl ⟨Nat.le_of_ble_eq_true rfl, Nat.le_of_ble_eq_true rfl⟩ ⟨rfl, fx.fy.j _ _ _, fun _ => by rw [mj_s, hy], cb2.sJ _ _ _⟩
theorem hg_writeRow (cb : CB F M x B) (kl : kd M lo = 22) (ll : ln M lo = 1) (y : Int32) {ok : Bool} {z : Int32} {B2 : BS} (hK : KK G IX8_writeRow [.ref x, .int y] M (QOp F M x B ok z B2 "java/lang/IndexOutOfBoundsException")) : KK G IL_writeRow [.ref x, .int y, .ref lo] M (QL F M x lo (if ok = true then 0 else 1) z (if ok = true then B2 else B)) := by
  refine KK.ofWH (by decide) (by simp [Value.category]) (Nat.le_of_ble_eq_true rfl) rfl ?_
  show WW _ _ _ 0 [_, _, _, lj] [] _ _ _
  refine r_aload_n (dk kL_writeRow 0 rfl) rfl ?_
  refine r_iconst (v := 0) (dk kL_writeRow 1 rfl) (by decide) ?_
  refine r_aload_n (dk kL_writeRow 2 rfl) rfl ?_
  refine r_iload_n (dk kL_writeRow 3 rfl) rfl ?_
  -- at 4
  refine r_tryV (I' := IX8_writeRow) (as := [_]) (dk kL_writeRow 4 rfl) mv_X8_writeRow ml_L_142 rfl cb.o.k rfl rfl (Nat.le_of_ble_eq_true rfl) ⟨by decide, by decide⟩ ⟨Nat.le_of_ble_eq_true rfl, Nat.le_of_ble_eq_true rfl⟩ hK ?_ ?_
  · rintro E M' ⟨h0, hE, z3, hz⟩
    subst hz
    subst h0
    refine ⟨12, by rw [hE]; exact hn_writeRow_1, fun q => ?_⟩
    refine r_astore_n (j := 3) (dk kL_writeRow 8 rfl) rfl (by decide) rfl ?_
    simp only [List.set_cons_succ, List.set_cons_zero]
    refine r_iconst (v := 1) (dk kL_writeRow 9 rfl) (by decide) ?_
    refine r_ireturn (dk kL_writeRow 10 rfl) rfl rfl ⟨Nat.le_of_ble_eq_true rfl, Nat.le_of_ble_eq_true rfl⟩ ⟨rfl, FY.rfl M x, fun z2 => absurd z2 (by decide), cb.sx z3⟩
  · rintro v M' ⟨y9, hv, c0, hy, fx, cb2⟩
    subst hv
    subst c0
    show WW G IL_writeRow _ 7 _ [.int y9, .int 0, .ref lo] M' _ _
    refine r_i2l (dk kL_writeRow 5 rfl) ?_
    refine r_las (dk kL_writeRow 6 rfl) ((congrFun fx.1 lo).trans kl) ((congrFun fx.2.1 lo).trans ll) (j := 0) rfl (by decide) (by decide) ?_
    refine r_goto (tgt := 15) (dk kL_writeRow 7 rfl) (by decide) ?_
    refine r_iconst (v := 0) (dk kL_writeRow 11 rfl) (by decide) ?_
    refine r_ireturn (dk kL_writeRow 12 rfl) rfl rfl ⟨Nat.le_of_ble_eq_true rfl, Nat.le_of_ble_eq_true rfl⟩ ⟨rfl, fx.fy.j _ _ _, fun _ => by rw [mj_s, hy], cb2.sJ _ _ _⟩
theorem hg_writePetition (cb : CB F M x B) (kl : kd M lo = 22) (ll : ln M lo = 1) (y : Int32) {ok : Bool} {z : Int32} {B2 : BS} (hK : KK G IX8_writePetition [.ref x, .int y] M (QOp F M x B ok z B2 nE)) : KK G IL_writePetition [.ref x, .int y, .ref lo] M (QL F M x lo (if ok = true then 0 else 1) z (if ok = true then B2 else B)) := by
  refine KK.ofWH (by decide) (by simp [Value.category]) (Nat.le_of_ble_eq_true rfl) rfl ?_
  show WW _ _ _ 0 [_, _, _, lj] [] _ _ _
  refine r_aload_n (dk kL_writePetition 0 rfl) rfl ?_
  refine r_iconst (v := 0) (dk kL_writePetition 1 rfl) (by decide) ?_
  refine r_aload_n (dk kL_writePetition 2 rfl) rfl ?_
  refine r_iload_n (dk kL_writePetition 3 rfl) rfl ?_
  -- at 4
  refine r_tryV (I' := IX8_writePetition) (as := [_]) (dk kL_writePetition 4 rfl) mv_X8_writePetition ml_L_139 rfl cb.o.k rfl rfl (Nat.le_of_ble_eq_true rfl) ⟨by decide, by decide⟩ ⟨Nat.le_of_ble_eq_true rfl, Nat.le_of_ble_eq_true rfl⟩ hK ?_ ?_
  · rintro E M' ⟨h0, hE, z3, hz⟩
    subst hz
    subst h0
    refine ⟨12, by rw [hE]; exact hn_writePetition_1, fun q => ?_⟩
    refine r_astore_n (j := 3) (dk kL_writePetition 8 rfl) rfl (by decide) rfl ?_
    simp only [List.set_cons_succ, List.set_cons_zero]
    refine r_iconst (v := 1) (dk kL_writePetition 9 rfl) (by decide) ?_
    refine r_ireturn (dk kL_writePetition 10 rfl) rfl rfl ⟨Nat.le_of_ble_eq_true rfl, Nat.le_of_ble_eq_true rfl⟩ ⟨rfl, FY.rfl M x, fun z2 => absurd z2 (by decide), cb.sx z3⟩
  · rintro v M' ⟨y9, hv, c0, hy, fx, cb2⟩
    subst hv
    subst c0
    show WW G IL_writePetition _ 7 _ [.int y9, .int 0, .ref lo] M' _ _
    refine r_i2l (dk kL_writePetition 5 rfl) ?_
    refine r_las (dk kL_writePetition 6 rfl) ((congrFun fx.1 lo).trans kl) ((congrFun fx.2.1 lo).trans ll) (j := 0) rfl (by decide) (by decide) ?_
    refine r_goto (tgt := 15) (dk kL_writePetition 7 rfl) (by decide) ?_
    refine r_iconst (v := 0) (dk kL_writePetition 11 rfl) (by decide) ?_
    refine r_ireturn (dk kL_writePetition 12 rfl) rfl rfl ⟨Nat.le_of_ble_eq_true rfl, Nat.le_of_ble_eq_true rfl⟩ ⟨rfl, fx.fy.j _ _ _, fun _ => by rw [mj_s, hy], cb2.sJ _ _ _⟩
end LAW
