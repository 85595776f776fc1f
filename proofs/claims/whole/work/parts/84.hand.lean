/-! THE LAW'S HELPERS: commands -/
section LAW
variable {G : GG} {M : Mm} {x lo F : Nat} {B : BS}
theorem sh_addStone (g : Nat → Int32) (c w : Int32) : (sp_addStone g c w).1 = 0 ∨ (sp_addStone g c w).1 = 1 ∧ (sp_addStone g c w).2.1.1 = 0 ∨ (sp_addStone g c w).1 = 2 ∧ (sp_addStone g c w).2.1.1 = 0 ∨ (sp_addStone g c w).1 = 3 ∧ (sp_addStone g c w).2.1.1 ≠ 0 := by
  unfold sp_addStone
  repeat' split
  all_goals first | exact Or.inl rfl | exact Or.inr (Or.inl ⟨rfl, rfl⟩) | exact Or.inr (Or.inr (Or.inl ⟨rfl, rfl⟩)) | exact Or.inr (Or.inr (Or.inr (⟨rfl, (by decide : (1 : Int32) ≠ 0)⟩))) | exact Or.inr (Or.inr (Or.inr (⟨rfl, (by decide : (2 : Int32) ≠ 0)⟩))) | exact Or.inr (Or.inr (Or.inr (⟨rfl, (by decide : (3 : Int32) ≠ 0)⟩))) | exact Or.inr (Or.inr (Or.inr (⟨rfl, (by decide : (4 : Int32) ≠ 0)⟩))) | exact Or.inr (Or.inr (Or.inr (⟨rfl, (by decide : (5 : Int32) ≠ 0)⟩))) | exact Or.inr (Or.inr (Or.inr (⟨rfl, (by decide : (6 : Int32) ≠ 0)⟩))) | exact Or.inr (Or.inr (Or.inr (⟨rfl, (by decide : (7 : Int32) ≠ 0)⟩))) | exact Or.inr (Or.inr (Or.inr (⟨rfl, (by decide : (8 : Int32) ≠ 0)⟩))) | exact Or.inr (Or.inr (Or.inr (⟨rfl, (by decide : (9 : Int32) ≠ 0)⟩))) | exact Or.inr (Or.inr (Or.inr (⟨rfl, (by decide : (10 : Int32) ≠ 0)⟩))) | exact Or.inr (Or.inr (Or.inr (⟨rfl, (by decide : (11 : Int32) ≠ 0)⟩)))
theorem h_addStone (cb : CB F M x B) (hF : F + 1 < 2 ^ 30) (kl : kd M lo = 22) (ll : ln M lo = 1) (c w : Int32) : KK G IL_addStone [.ref x, .int c, .int w, .ref lo] M (QL (F + 1) M x lo (sp_addStone (bg B) c w).1 (sp_addStone (bg B) c w).2.2.1 (bOut B (sp_addStone (bg B) c w))) := by
  have sh := sh_addStone (bg B) c w
  have hK := k_X8_addStone (G := G) cb hF c w
  generalize sp_addStone (bg B) c w = co at *
  refine KK.ofWH (by decide) (by simp [Value.category]) (Nat.le_of_ble_eq_true rfl) rfl ?_
  show WW _ _ _ 0 [_, _, _, _, lj] [] _ _ _
  refine r_aload_n (dk kL_addStone 0 rfl) rfl ?_
  refine r_iconst (v := 0) (dk kL_addStone 1 rfl) (by decide) ?_
  refine r_aload_n (dk kL_addStone 2 rfl) rfl ?_
  refine r_iload_n (dk kL_addStone 3 rfl) rfl ?_
  refine r_iload_n (dk kL_addStone 4 rfl) rfl ?_
  -- at 5
  refine r_tryV (I' := IX8_addStone) (as := [_, _]) (dk kL_addStone 5 rfl) mv_X8_addStone ml_L_7 rfl cb.o.k rfl rfl (Nat.le_of_ble_eq_true rfl) ⟨by decide, by decide⟩ ⟨Nat.le_of_ble_eq_true rfl, Nat.le_of_ble_eq_true rfl⟩ hK ?_ ?_
  · rintro E M' ⟨h0, fx, hd⟩
    rcases sh with e | ⟨e, d⟩ | ⟨e, d⟩ | ⟨e, d⟩
    · exact absurd e h0
    · rcases hd with ⟨d2, hE, cb2⟩ | ⟨d2, hE, cb2⟩
      · have hE2 : E = "java/lang/IndexOutOfBoundsException" := hE.trans (by rw [e]; rfl)
        refine ⟨13, by rw [hE2]; exact hn_addStone_1, fun q => ?_⟩
        refine r_astore (dk kL_addStone 9 rfl) (by decide) rfl ?_
        simp only [List.set_cons_succ, List.set_cons_zero]
        refine r_iconst (v := 1) (dk kL_addStone 10 rfl) (by decide) ?_
        refine r_ireturn (dk kL_addStone 11 rfl) rfl rfl ⟨Nat.le_of_ble_eq_true rfl, Nat.le_of_ble_eq_true rfl⟩ ⟨e.symm, fx.fy, fun z => absurd z h0, by rw [bOut_t h0 d]; exact cb2⟩
      · exact absurd d d2
    · rcases hd with ⟨d2, hE, cb2⟩ | ⟨d2, hE, cb2⟩
      · have hE2 : E = "java/lang/IllegalArgumentException" := hE.trans (by rw [e]; rfl)
        refine ⟨17, by rw [hE2]; exact hn_addStone_2, fun q => ?_⟩
        refine r_astore (dk kL_addStone 12 rfl) (by decide) rfl ?_
        simp only [List.set_cons_succ, List.set_cons_zero]
        refine r_iconst (v := 2) (dk kL_addStone 13 rfl) (by decide) ?_
        refine r_ireturn (dk kL_addStone 14 rfl) rfl rfl ⟨Nat.le_of_ble_eq_true rfl, Nat.le_of_ble_eq_true rfl⟩ ⟨e.symm, fx.fy, fun z => absurd z h0, by rw [bOut_t h0 d]; exact cb2⟩
      · exact absurd d d2
    · rcases hd with ⟨d2, hE, cb2⟩ | ⟨d2, hE, cb2⟩
      · exact absurd d2 d
      · have hE2 : E = "java/lang/UnsupportedOperationException" := hE.trans rfl
        refine ⟨21, by rw [hE2]; exact hn_addStone_3, fun q => ?_⟩
        refine r_astore (dk kL_addStone 15 rfl) (by decide) rfl ?_
        simp only [List.set_cons_succ, List.set_cons_zero]
        refine r_iconst (v := 3) (dk kL_addStone 16 rfl) (by decide) ?_
        refine r_ireturn (dk kL_addStone 17 rfl) rfl rfl ⟨Nat.le_of_ble_eq_true rfl, Nat.le_of_ble_eq_true rfl⟩ ⟨e.symm, fx.fy, fun z => absurd z h0, by rw [bOut_d h0 d]; exact cb2⟩
  · rintro v M' ⟨y9, hv, c0, hy, fx, cb2⟩
    subst hv
    show WW G IL_addStone _ 8 _ [.int y9, .int 0, .ref lo] M' _ _
    refine r_i2l (dk kL_addStone 6 rfl) ?_
    refine r_las (dk kL_addStone 7 rfl) ((congrFun fx.1 lo).trans kl) ((congrFun fx.2.1 lo).trans ll) (j := 0) rfl (by decide) (by decide) ?_
    refine r_goto (tgt := 25) (dk kL_addStone 8 rfl) (by decide) ?_
    refine r_iconst (v := 0) (dk kL_addStone 18 rfl) (by decide) ?_
    refine r_ireturn (dk kL_addStone 19 rfl) rfl rfl ⟨Nat.le_of_ble_eq_true rfl, Nat.le_of_ble_eq_true rfl⟩ ⟨c0.symm, fx.fy.j _ _ _, fun _ => by rw [mj_s, hy], by rw [bOut_0 c0]; exact cb2.sJ _ _ _⟩
theorem sh_addOfficer (g : Nat → Int32) (w : Int32) : (sp_addOfficer g w).1 = 0 ∨ (sp_addOfficer g w).1 = 1 ∧ (sp_addOfficer g w).2.1.1 = 0 ∨ (sp_addOfficer g w).1 = 2 ∧ (sp_addOfficer g w).2.1.1 ≠ 0 := by
  unfold sp_addOfficer
  repeat' split
  all_goals first | exact Or.inl rfl | exact Or.inr (Or.inl ⟨rfl, rfl⟩) | exact Or.inr (Or.inr (⟨rfl, (by decide : (1 : Int32) ≠ 0)⟩)) | exact Or.inr (Or.inr (⟨rfl, (by decide : (2 : Int32) ≠ 0)⟩)) | exact Or.inr (Or.inr (⟨rfl, (by decide : (3 : Int32) ≠ 0)⟩)) | exact Or.inr (Or.inr (⟨rfl, (by decide : (4 : Int32) ≠ 0)⟩)) | exact Or.inr (Or.inr (⟨rfl, (by decide : (5 : Int32) ≠ 0)⟩)) | exact Or.inr (Or.inr (⟨rfl, (by decide : (6 : Int32) ≠ 0)⟩)) | exact Or.inr (Or.inr (⟨rfl, (by decide : (7 : Int32) ≠ 0)⟩)) | exact Or.inr (Or.inr (⟨rfl, (by decide : (8 : Int32) ≠ 0)⟩)) | exact Or.inr (Or.inr (⟨rfl, (by decide : (9 : Int32) ≠ 0)⟩)) | exact Or.inr (Or.inr (⟨rfl, (by decide : (10 : Int32) ≠ 0)⟩)) | exact Or.inr (Or.inr (⟨rfl, (by decide : (11 : Int32) ≠ 0)⟩))
theorem h_addOfficer (cb : CB F M x B) (hF : F + 1 < 2 ^ 30) (kl : kd M lo = 22) (ll : ln M lo = 1) (w : Int32) : KK G IL_addOfficer [.ref x, .int w, .ref lo] M (QL (F + 1) M x lo (sp_addOfficer (bg B) w).1 (sp_addOfficer (bg B) w).2.2.1 (bOut B (sp_addOfficer (bg B) w))) := by
  have sh := sh_addOfficer (bg B) w
  have hK := k_X8_addOfficer (G := G) cb hF w
  generalize sp_addOfficer (bg B) w = co at *
  refine KK.ofWH (by decide) (by simp [Value.category]) (Nat.le_of_ble_eq_true rfl) rfl ?_
  show WW _ _ _ 0 [_, _, _, lj] [] _ _ _
  refine r_aload_n (dk kL_addOfficer 0 rfl) rfl ?_
  refine r_iconst (v := 0) (dk kL_addOfficer 1 rfl) (by decide) ?_
  refine r_aload_n (dk kL_addOfficer 2 rfl) rfl ?_
  refine r_iload_n (dk kL_addOfficer 3 rfl) rfl ?_
  -- at 4
  refine r_tryV (I' := IX8_addOfficer) (as := [_]) (dk kL_addOfficer 4 rfl) mv_X8_addOfficer ml_L_19 rfl cb.o.k rfl rfl (Nat.le_of_ble_eq_true rfl) ⟨by decide, by decide⟩ ⟨Nat.le_of_ble_eq_true rfl, Nat.le_of_ble_eq_true rfl⟩ hK ?_ ?_
  · rintro E M' ⟨h0, fx, hd⟩
    rcases sh with e | ⟨e, d⟩ | ⟨e, d⟩
    · exact absurd e h0
    · rcases hd with ⟨d2, hE, cb2⟩ | ⟨d2, hE, cb2⟩
      · have hE2 : E = "java/lang/IllegalArgumentException" := hE.trans (by rw [e]; rfl)
        refine ⟨12, by rw [hE2]; exact hn_addOfficer_1, fun q => ?_⟩
        refine r_astore_n (j := 3) (dk kL_addOfficer 8 rfl) rfl (by decide) rfl ?_
        simp only [List.set_cons_succ, List.set_cons_zero]
        refine r_iconst (v := 1) (dk kL_addOfficer 9 rfl) (by decide) ?_
        refine r_ireturn (dk kL_addOfficer 10 rfl) rfl rfl ⟨Nat.le_of_ble_eq_true rfl, Nat.le_of_ble_eq_true rfl⟩ ⟨e.symm, fx.fy, fun z => absurd z h0, by rw [bOut_t h0 d]; exact cb2⟩
      · exact absurd d d2
    · rcases hd with ⟨d2, hE, cb2⟩ | ⟨d2, hE, cb2⟩
      · exact absurd d2 d
      · have hE2 : E = "java/lang/UnsupportedOperationException" := hE.trans rfl
        refine ⟨15, by rw [hE2]; exact hn_addOfficer_2, fun q => ?_⟩
        refine r_astore_n (j := 3) (dk kL_addOfficer 11 rfl) rfl (by decide) rfl ?_
        simp only [List.set_cons_succ, List.set_cons_zero]
        refine r_iconst (v := 2) (dk kL_addOfficer 12 rfl) (by decide) ?_
        refine r_ireturn (dk kL_addOfficer 13 rfl) rfl rfl ⟨Nat.le_of_ble_eq_true rfl, Nat.le_of_ble_eq_true rfl⟩ ⟨e.symm, fx.fy, fun z => absurd z h0, by rw [bOut_d h0 d]; exact cb2⟩
  · rintro v M' ⟨y9, hv, c0, hy, fx, cb2⟩
    subst hv
    show WW G IL_addOfficer _ 7 _ [.int y9, .int 0, .ref lo] M' _ _
    refine r_i2l (dk kL_addOfficer 5 rfl) ?_
    refine r_las (dk kL_addOfficer 6 rfl) ((congrFun fx.1 lo).trans kl) ((congrFun fx.2.1 lo).trans ll) (j := 0) rfl (by decide) (by decide) ?_
    refine r_goto (tgt := 18) (dk kL_addOfficer 7 rfl) (by decide) ?_
    refine r_iconst (v := 0) (dk kL_addOfficer 14 rfl) (by decide) ?_
    refine r_ireturn (dk kL_addOfficer 15 rfl) rfl rfl ⟨Nat.le_of_ble_eq_true rfl, Nat.le_of_ble_eq_true rfl⟩ ⟨c0.symm, fx.fy.j _ _ _, fun _ => by rw [mj_s, hy], by rw [bOut_0 c0]; exact cb2.sJ _ _ _⟩
theorem sh_file (g : Nat → Int32) (a s c w : Int32) : (sp_file g a s c w).1 = 0 ∨ (sp_file g a s c w).1 = 1 ∧ (sp_file g a s c w).2.1.1 = 0 ∨ (sp_file g a s c w).1 = 2 ∧ (sp_file g a s c w).2.1.1 = 0 ∨ (sp_file g a s c w).1 = 3 ∧ (sp_file g a s c w).2.1.1 ≠ 0 := by
  unfold sp_file
  repeat' split
  all_goals first | exact Or.inl rfl | exact Or.inr (Or.inl ⟨rfl, rfl⟩) | exact Or.inr (Or.inr (Or.inl ⟨rfl, rfl⟩)) | exact Or.inr (Or.inr (Or.inr (⟨rfl, (by decide : (1 : Int32) ≠ 0)⟩))) | exact Or.inr (Or.inr (Or.inr (⟨rfl, (by decide : (2 : Int32) ≠ 0)⟩))) | exact Or.inr (Or.inr (Or.inr (⟨rfl, (by decide : (3 : Int32) ≠ 0)⟩))) | exact Or.inr (Or.inr (Or.inr (⟨rfl, (by decide : (4 : Int32) ≠ 0)⟩))) | exact Or.inr (Or.inr (Or.inr (⟨rfl, (by decide : (5 : Int32) ≠ 0)⟩))) | exact Or.inr (Or.inr (Or.inr (⟨rfl, (by decide : (6 : Int32) ≠ 0)⟩))) | exact Or.inr (Or.inr (Or.inr (⟨rfl, (by decide : (7 : Int32) ≠ 0)⟩))) | exact Or.inr (Or.inr (Or.inr (⟨rfl, (by decide : (8 : Int32) ≠ 0)⟩))) | exact Or.inr (Or.inr (Or.inr (⟨rfl, (by decide : (9 : Int32) ≠ 0)⟩))) | exact Or.inr (Or.inr (Or.inr (⟨rfl, (by decide : (10 : Int32) ≠ 0)⟩))) | exact Or.inr (Or.inr (Or.inr (⟨rfl, (by decide : (11 : Int32) ≠ 0)⟩)))
theorem h_file (cb : CB F M x B) (hF : F + 1 < 2 ^ 30) (kl : kd M lo = 22) (ll : ln M lo = 1) (a s c w : Int32) : KK G IL_file [.ref x, .int a, .int s, .int c, .int w, .ref lo] M (QL (F + 1) M x lo (sp_file (bg B) a s c w).1 (sp_file (bg B) a s c w).2.2.1 (bOut B (sp_file (bg B) a s c w))) := by
  have sh := sh_file (bg B) a s c w
  have hK := k_X8_file (G := G) cb hF a s c w
  generalize sp_file (bg B) a s c w = co at *
  refine KK.ofWH (by decide) (by simp [Value.category]) (Nat.le_of_ble_eq_true rfl) rfl ?_
  show WW _ _ _ 0 [_, _, _, _, _, _, lj] [] _ _ _
  refine r_aload (dk kL_file 0 rfl) rfl ?_
  refine r_iconst (v := 0) (dk kL_file 1 rfl) (by decide) ?_
  refine r_aload_n (dk kL_file 2 rfl) rfl ?_
  refine r_iload_n (dk kL_file 3 rfl) rfl ?_
  refine r_iload_n (dk kL_file 4 rfl) rfl ?_
  refine r_iload_n (dk kL_file 5 rfl) rfl ?_
  refine r_iload (dk kL_file 6 rfl) rfl ?_
  -- at 9
  refine r_tryV (I' := IX8_file) (as := [_, _, _, _]) (dk kL_file 7 rfl) mv_X8_file ml_L_40 rfl cb.o.k rfl rfl (Nat.le_of_ble_eq_true rfl) ⟨by decide, by decide⟩ ⟨Nat.le_of_ble_eq_true rfl, Nat.le_of_ble_eq_true rfl⟩ hK ?_ ?_
  · rintro E M' ⟨h0, fx, hd⟩
    rcases sh with e | ⟨e, d⟩ | ⟨e, d⟩ | ⟨e, d⟩
    · exact absurd e h0
    · rcases hd with ⟨d2, hE, cb2⟩ | ⟨d2, hE, cb2⟩
      · have hE2 : E = "java/lang/IndexOutOfBoundsException" := hE.trans (by rw [e]; rfl)
        refine ⟨17, by rw [hE2]; exact hn_file_1, fun q => ?_⟩
        refine r_astore (dk kL_file 11 rfl) (by decide) rfl ?_
        simp only [List.set_cons_succ, List.set_cons_zero]
        refine r_iconst (v := 1) (dk kL_file 12 rfl) (by decide) ?_
        refine r_ireturn (dk kL_file 13 rfl) rfl rfl ⟨Nat.le_of_ble_eq_true rfl, Nat.le_of_ble_eq_true rfl⟩ ⟨e.symm, fx.fy, fun z => absurd z h0, by rw [bOut_t h0 d]; exact cb2⟩
      · exact absurd d d2
    · rcases hd with ⟨d2, hE, cb2⟩ | ⟨d2, hE, cb2⟩
      · have hE2 : E = "java/lang/IllegalArgumentException" := hE.trans (by rw [e]; rfl)
        refine ⟨21, by rw [hE2]; exact hn_file_2, fun q => ?_⟩
        refine r_astore (dk kL_file 14 rfl) (by decide) rfl ?_
        simp only [List.set_cons_succ, List.set_cons_zero]
        refine r_iconst (v := 2) (dk kL_file 15 rfl) (by decide) ?_
        refine r_ireturn (dk kL_file 16 rfl) rfl rfl ⟨Nat.le_of_ble_eq_true rfl, Nat.le_of_ble_eq_true rfl⟩ ⟨e.symm, fx.fy, fun z => absurd z h0, by rw [bOut_t h0 d]; exact cb2⟩
      · exact absurd d d2
    · rcases hd with ⟨d2, hE, cb2⟩ | ⟨d2, hE, cb2⟩
      · exact absurd d2 d
      · have hE2 : E = "java/lang/UnsupportedOperationException" := hE.trans rfl
        refine ⟨25, by rw [hE2]; exact hn_file_3, fun q => ?_⟩
        refine r_astore (dk kL_file 17 rfl) (by decide) rfl ?_
        simp only [List.set_cons_succ, List.set_cons_zero]
        refine r_iconst (v := 3) (dk kL_file 18 rfl) (by decide) ?_
        refine r_ireturn (dk kL_file 19 rfl) rfl rfl ⟨Nat.le_of_ble_eq_true rfl, Nat.le_of_ble_eq_true rfl⟩ ⟨e.symm, fx.fy, fun z => absurd z h0, by rw [bOut_d h0 d]; exact cb2⟩
  · rintro v M' ⟨y9, hv, c0, hy, fx, cb2⟩
    subst hv
    show WW G IL_file _ 12 _ [.int y9, .int 0, .ref lo] M' _ _
    refine r_i2l (dk kL_file 8 rfl) ?_
    refine r_las (dk kL_file 9 rfl) ((congrFun fx.1 lo).trans kl) ((congrFun fx.2.1 lo).trans ll) (j := 0) rfl (by decide) (by decide) ?_
    refine r_goto (tgt := 29) (dk kL_file 10 rfl) (by decide) ?_
    refine r_iconst (v := 0) (dk kL_file 20 rfl) (by decide) ?_
    refine r_ireturn (dk kL_file 21 rfl) rfl rfl ⟨Nat.le_of_ble_eq_true rfl, Nat.le_of_ble_eq_true rfl⟩ ⟨c0.symm, fx.fy.j _ _ _, fun _ => by rw [mj_s, hy], by rw [bOut_0 c0]; exact cb2.sJ _ _ _⟩
theorem sh_vote (g : Nat → Int32) (a y b : Int32) : (sp_vote g a y b).1 = 0 ∨ (sp_vote g a y b).1 = 1 ∧ (sp_vote g a y b).2.1.1 = 0 ∨ (sp_vote g a y b).1 = 2 ∧ (sp_vote g a y b).2.1.1 = 0 ∨ (sp_vote g a y b).1 = 3 ∧ (sp_vote g a y b).2.1.1 ≠ 0 := by
  unfold sp_vote
  repeat' split
  all_goals first | exact Or.inl rfl | exact Or.inr (Or.inl ⟨rfl, rfl⟩) | exact Or.inr (Or.inr (Or.inl ⟨rfl, rfl⟩)) | exact Or.inr (Or.inr (Or.inr (⟨rfl, (by decide : (1 : Int32) ≠ 0)⟩))) | exact Or.inr (Or.inr (Or.inr (⟨rfl, (by decide : (2 : Int32) ≠ 0)⟩))) | exact Or.inr (Or.inr (Or.inr (⟨rfl, (by decide : (3 : Int32) ≠ 0)⟩))) | exact Or.inr (Or.inr (Or.inr (⟨rfl, (by decide : (4 : Int32) ≠ 0)⟩))) | exact Or.inr (Or.inr (Or.inr (⟨rfl, (by decide : (5 : Int32) ≠ 0)⟩))) | exact Or.inr (Or.inr (Or.inr (⟨rfl, (by decide : (6 : Int32) ≠ 0)⟩))) | exact Or.inr (Or.inr (Or.inr (⟨rfl, (by decide : (7 : Int32) ≠ 0)⟩))) | exact Or.inr (Or.inr (Or.inr (⟨rfl, (by decide : (8 : Int32) ≠ 0)⟩))) | exact Or.inr (Or.inr (Or.inr (⟨rfl, (by decide : (9 : Int32) ≠ 0)⟩))) | exact Or.inr (Or.inr (Or.inr (⟨rfl, (by decide : (10 : Int32) ≠ 0)⟩))) | exact Or.inr (Or.inr (Or.inr (⟨rfl, (by decide : (11 : Int32) ≠ 0)⟩)))
theorem h_vote (cb : CB F M x B) (hF : F + 1 < 2 ^ 30) (kl : kd M lo = 22) (ll : ln M lo = 1) (a y b : Int32) : KK G IL_vote [.ref x, .int a, .int y, .int b, .ref lo] M (QL (F + 1) M x lo (sp_vote (bg B) a y b).1 (sp_vote (bg B) a y b).2.2.1 (bOut B (sp_vote (bg B) a y b))) := by
  have sh := sh_vote (bg B) a y b
  have hK := k_X8_vote (G := G) cb hF a y b
  generalize sp_vote (bg B) a y b = co at *
  refine KK.ofWH (by decide) (by simp [Value.category]) (Nat.le_of_ble_eq_true rfl) rfl ?_
  show WW _ _ _ 0 [_, _, _, _, _, lj] [] _ _ _
  refine r_aload (dk kL_vote 0 rfl) rfl ?_
  refine r_iconst (v := 0) (dk kL_vote 1 rfl) (by decide) ?_
  refine r_aload_n (dk kL_vote 2 rfl) rfl ?_
  refine r_iload_n (dk kL_vote 3 rfl) rfl ?_
  refine r_iload_n (dk kL_vote 4 rfl) rfl ?_
  refine r_iload_n (dk kL_vote 5 rfl) rfl ?_
  -- at 7
  refine r_tryV (I' := IX8_vote) (as := [_, _, _]) (dk kL_vote 6 rfl) mv_X8_vote ml_L_44 rfl cb.o.k rfl rfl (Nat.le_of_ble_eq_true rfl) ⟨by decide, by decide⟩ ⟨Nat.le_of_ble_eq_true rfl, Nat.le_of_ble_eq_true rfl⟩ hK ?_ ?_
  · rintro E M' ⟨h0, fx, hd⟩
    rcases sh with e | ⟨e, d⟩ | ⟨e, d⟩ | ⟨e, d⟩
    · exact absurd e h0
    · rcases hd with ⟨d2, hE, cb2⟩ | ⟨d2, hE, cb2⟩
      · have hE2 : E = "java/lang/IndexOutOfBoundsException" := hE.trans (by rw [e]; rfl)
        refine ⟨15, by rw [hE2]; exact hn_vote_1, fun q => ?_⟩
        refine r_astore (dk kL_vote 10 rfl) (by decide) rfl ?_
        simp only [List.set_cons_succ, List.set_cons_zero]
        refine r_iconst (v := 1) (dk kL_vote 11 rfl) (by decide) ?_
        refine r_ireturn (dk kL_vote 12 rfl) rfl rfl ⟨Nat.le_of_ble_eq_true rfl, Nat.le_of_ble_eq_true rfl⟩ ⟨e.symm, fx.fy, fun z => absurd z h0, by rw [bOut_t h0 d]; exact cb2⟩
      · exact absurd d d2
    · rcases hd with ⟨d2, hE, cb2⟩ | ⟨d2, hE, cb2⟩
      · have hE2 : E = "java/util/NoSuchElementException" := hE.trans (by rw [e]; rfl)
        refine ⟨19, by rw [hE2]; exact hn_vote_2, fun q => ?_⟩
        refine r_astore (dk kL_vote 13 rfl) (by decide) rfl ?_
        simp only [List.set_cons_succ, List.set_cons_zero]
        refine r_iconst (v := 2) (dk kL_vote 14 rfl) (by decide) ?_
        refine r_ireturn (dk kL_vote 15 rfl) rfl rfl ⟨Nat.le_of_ble_eq_true rfl, Nat.le_of_ble_eq_true rfl⟩ ⟨e.symm, fx.fy, fun z => absurd z h0, by rw [bOut_t h0 d]; exact cb2⟩
      · exact absurd d d2
    · rcases hd with ⟨d2, hE, cb2⟩ | ⟨d2, hE, cb2⟩
      · exact absurd d2 d
      · have hE2 : E = "java/lang/UnsupportedOperationException" := hE.trans rfl
        refine ⟨23, by rw [hE2]; exact hn_vote_3, fun q => ?_⟩
        refine r_astore (dk kL_vote 16 rfl) (by decide) rfl ?_
        simp only [List.set_cons_succ, List.set_cons_zero]
        refine r_iconst (v := 3) (dk kL_vote 17 rfl) (by decide) ?_
        refine r_ireturn (dk kL_vote 18 rfl) rfl rfl ⟨Nat.le_of_ble_eq_true rfl, Nat.le_of_ble_eq_true rfl⟩ ⟨e.symm, fx.fy, fun z => absurd z h0, by rw [bOut_d h0 d]; exact cb2⟩
  · rintro v M' ⟨y9, hv, c0, hy, fx, cb2⟩
    subst hv
    show WW G IL_vote _ 10 _ [.int y9, .int 0, .ref lo] M' _ _
    refine r_i2l (dk kL_vote 7 rfl) ?_
    refine r_las (dk kL_vote 8 rfl) ((congrFun fx.1 lo).trans kl) ((congrFun fx.2.1 lo).trans ll) (j := 0) rfl (by decide) (by decide) ?_
    refine r_goto (tgt := 27) (dk kL_vote 9 rfl) (by decide) ?_
    refine r_iconst (v := 0) (dk kL_vote 19 rfl) (by decide) ?_
    refine r_ireturn (dk kL_vote 20 rfl) rfl rfl ⟨Nat.le_of_ble_eq_true rfl, Nat.le_of_ble_eq_true rfl⟩ ⟨c0.symm, fx.fy.j _ _ _, fun _ => by rw [mj_s, hy], by rw [bOut_0 c0]; exact cb2.sJ _ _ _⟩
theorem sh_cite (g : Nat → Int32) (y r : Int32) : (sp_cite g y r).1 = 0 ∨ (sp_cite g y r).1 = 1 ∧ (sp_cite g y r).2.1.1 = 0 ∨ (sp_cite g y r).1 = 2 ∧ (sp_cite g y r).2.1.1 ≠ 0 := by
  unfold sp_cite
  repeat' split
  all_goals first | exact Or.inl rfl | exact Or.inr (Or.inl ⟨rfl, rfl⟩) | exact Or.inr (Or.inr (⟨rfl, (by decide : (1 : Int32) ≠ 0)⟩)) | exact Or.inr (Or.inr (⟨rfl, (by decide : (2 : Int32) ≠ 0)⟩)) | exact Or.inr (Or.inr (⟨rfl, (by decide : (3 : Int32) ≠ 0)⟩)) | exact Or.inr (Or.inr (⟨rfl, (by decide : (4 : Int32) ≠ 0)⟩)) | exact Or.inr (Or.inr (⟨rfl, (by decide : (5 : Int32) ≠ 0)⟩)) | exact Or.inr (Or.inr (⟨rfl, (by decide : (6 : Int32) ≠ 0)⟩)) | exact Or.inr (Or.inr (⟨rfl, (by decide : (7 : Int32) ≠ 0)⟩)) | exact Or.inr (Or.inr (⟨rfl, (by decide : (8 : Int32) ≠ 0)⟩)) | exact Or.inr (Or.inr (⟨rfl, (by decide : (9 : Int32) ≠ 0)⟩)) | exact Or.inr (Or.inr (⟨rfl, (by decide : (10 : Int32) ≠ 0)⟩)) | exact Or.inr (Or.inr (⟨rfl, (by decide : (11 : Int32) ≠ 0)⟩))
theorem h_cite (cb : CB F M x B) (hF : F + 1 < 2 ^ 30) (kl : kd M lo = 22) (ll : ln M lo = 1) (y r : Int32) : KK G IL_cite [.ref x, .int y, .int r, .ref lo] M (QL (F + 1) M x lo (sp_cite (bg B) y r).1 (sp_cite (bg B) y r).2.2.1 (bOut B (sp_cite (bg B) y r))) := by
  have sh := sh_cite (bg B) y r
  have hK := k_X8_cite (G := G) cb hF y r
  generalize sp_cite (bg B) y r = co at *
  refine KK.ofWH (by decide) (by simp [Value.category]) (Nat.le_of_ble_eq_true rfl) rfl ?_
  show WW _ _ _ 0 [_, _, _, _, lj] [] _ _ _
  refine r_aload_n (dk kL_cite 0 rfl) rfl ?_
  refine r_iconst (v := 0) (dk kL_cite 1 rfl) (by decide) ?_
  refine r_aload_n (dk kL_cite 2 rfl) rfl ?_
  refine r_iload_n (dk kL_cite 3 rfl) rfl ?_
  refine r_iload_n (dk kL_cite 4 rfl) rfl ?_
  -- at 5
  refine r_tryV (I' := IX8_cite) (as := [_, _]) (dk kL_cite 5 rfl) mv_X8_cite ml_L_48 rfl cb.o.k rfl rfl (Nat.le_of_ble_eq_true rfl) ⟨by decide, by decide⟩ ⟨Nat.le_of_ble_eq_true rfl, Nat.le_of_ble_eq_true rfl⟩ hK ?_ ?_
  · rintro E M' ⟨h0, fx, hd⟩
    rcases sh with e | ⟨e, d⟩ | ⟨e, d⟩
    · exact absurd e h0
    · rcases hd with ⟨d2, hE, cb2⟩ | ⟨d2, hE, cb2⟩
      · have hE2 : E = "java/util/NoSuchElementException" := hE.trans (by rw [e]; rfl)
        refine ⟨13, by rw [hE2]; exact hn_cite_1, fun q => ?_⟩
        refine r_astore (dk kL_cite 9 rfl) (by decide) rfl ?_
        simp only [List.set_cons_succ, List.set_cons_zero]
        refine r_iconst (v := 1) (dk kL_cite 10 rfl) (by decide) ?_
        refine r_ireturn (dk kL_cite 11 rfl) rfl rfl ⟨Nat.le_of_ble_eq_true rfl, Nat.le_of_ble_eq_true rfl⟩ ⟨e.symm, fx.fy, fun z => absurd z h0, by rw [bOut_t h0 d]; exact cb2⟩
      · exact absurd d d2
    · rcases hd with ⟨d2, hE, cb2⟩ | ⟨d2, hE, cb2⟩
      · exact absurd d2 d
      · have hE2 : E = "java/lang/UnsupportedOperationException" := hE.trans rfl
        refine ⟨17, by rw [hE2]; exact hn_cite_2, fun q => ?_⟩
        refine r_astore (dk kL_cite 12 rfl) (by decide) rfl ?_
        simp only [List.set_cons_succ, List.set_cons_zero]
        refine r_iconst (v := 2) (dk kL_cite 13 rfl) (by decide) ?_
        refine r_ireturn (dk kL_cite 14 rfl) rfl rfl ⟨Nat.le_of_ble_eq_true rfl, Nat.le_of_ble_eq_true rfl⟩ ⟨e.symm, fx.fy, fun z => absurd z h0, by rw [bOut_d h0 d]; exact cb2⟩
  · rintro v M' ⟨y9, hv, c0, hy, fx, cb2⟩
    subst hv
    show WW G IL_cite _ 8 _ [.int y9, .int 0, .ref lo] M' _ _
    refine r_i2l (dk kL_cite 6 rfl) ?_
    refine r_las (dk kL_cite 7 rfl) ((congrFun fx.1 lo).trans kl) ((congrFun fx.2.1 lo).trans ll) (j := 0) rfl (by decide) (by decide) ?_
    refine r_goto (tgt := 21) (dk kL_cite 8 rfl) (by decide) ?_
    refine r_iconst (v := 0) (dk kL_cite 15 rfl) (by decide) ?_
    refine r_ireturn (dk kL_cite 16 rfl) rfl rfl ⟨Nat.le_of_ble_eq_true rfl, Nat.le_of_ble_eq_true rfl⟩ ⟨c0.symm, fx.fy.j _ _ _, fun _ => by rw [mj_s, hy], by rw [bOut_0 c0]; exact cb2.sJ _ _ _⟩
theorem sh_veto (g : Nat → Int32) (a y : Int32) : (sp_veto g a y).1 = 0 ∨ (sp_veto g a y).1 = 1 ∧ (sp_veto g a y).2.1.1 = 0 ∨ (sp_veto g a y).1 = 2 ∧ (sp_veto g a y).2.1.1 = 0 ∨ (sp_veto g a y).1 = 3 ∧ (sp_veto g a y).2.1.1 ≠ 0 := by
  unfold sp_veto
  repeat' split
  all_goals first | exact Or.inl rfl | exact Or.inr (Or.inl ⟨rfl, rfl⟩) | exact Or.inr (Or.inr (Or.inl ⟨rfl, rfl⟩)) | exact Or.inr (Or.inr (Or.inr (⟨rfl, (by decide : (1 : Int32) ≠ 0)⟩))) | exact Or.inr (Or.inr (Or.inr (⟨rfl, (by decide : (2 : Int32) ≠ 0)⟩))) | exact Or.inr (Or.inr (Or.inr (⟨rfl, (by decide : (3 : Int32) ≠ 0)⟩))) | exact Or.inr (Or.inr (Or.inr (⟨rfl, (by decide : (4 : Int32) ≠ 0)⟩))) | exact Or.inr (Or.inr (Or.inr (⟨rfl, (by decide : (5 : Int32) ≠ 0)⟩))) | exact Or.inr (Or.inr (Or.inr (⟨rfl, (by decide : (6 : Int32) ≠ 0)⟩))) | exact Or.inr (Or.inr (Or.inr (⟨rfl, (by decide : (7 : Int32) ≠ 0)⟩))) | exact Or.inr (Or.inr (Or.inr (⟨rfl, (by decide : (8 : Int32) ≠ 0)⟩))) | exact Or.inr (Or.inr (Or.inr (⟨rfl, (by decide : (9 : Int32) ≠ 0)⟩))) | exact Or.inr (Or.inr (Or.inr (⟨rfl, (by decide : (10 : Int32) ≠ 0)⟩))) | exact Or.inr (Or.inr (Or.inr (⟨rfl, (by decide : (11 : Int32) ≠ 0)⟩)))
theorem h_veto (cb : CB F M x B) (hF : F + 1 < 2 ^ 30) (kl : kd M lo = 22) (ll : ln M lo = 1) (a y : Int32) : KK G IL_veto [.ref x, .int a, .int y, .ref lo] M (QL (F + 1) M x lo (sp_veto (bg B) a y).1 (sp_veto (bg B) a y).2.2.1 (bOut B (sp_veto (bg B) a y))) := by
  have sh := sh_veto (bg B) a y
  have hK := k_X8_veto (G := G) cb hF a y
  generalize sp_veto (bg B) a y = co at *
  refine KK.ofWH (by decide) (by simp [Value.category]) (Nat.le_of_ble_eq_true rfl) rfl ?_
  show WW _ _ _ 0 [_, _, _, _, lj] [] _ _ _
  refine r_aload_n (dk kL_veto 0 rfl) rfl ?_
  refine r_iconst (v := 0) (dk kL_veto 1 rfl) (by decide) ?_
  refine r_aload_n (dk kL_veto 2 rfl) rfl ?_
  refine r_iload_n (dk kL_veto 3 rfl) rfl ?_
  refine r_iload_n (dk kL_veto 4 rfl) rfl ?_
  -- at 5
  refine r_tryV (I' := IX8_veto) (as := [_, _]) (dk kL_veto 5 rfl) mv_X8_veto ml_L_51 rfl cb.o.k rfl rfl (Nat.le_of_ble_eq_true rfl) ⟨by decide, by decide⟩ ⟨Nat.le_of_ble_eq_true rfl, Nat.le_of_ble_eq_true rfl⟩ hK ?_ ?_
  · rintro E M' ⟨h0, fx, hd⟩
    rcases sh with e | ⟨e, d⟩ | ⟨e, d⟩ | ⟨e, d⟩
    · exact absurd e h0
    · rcases hd with ⟨d2, hE, cb2⟩ | ⟨d2, hE, cb2⟩
      · have hE2 : E = "java/lang/IndexOutOfBoundsException" := hE.trans (by rw [e]; rfl)
        refine ⟨13, by rw [hE2]; exact hn_veto_1, fun q => ?_⟩
        refine r_astore (dk kL_veto 9 rfl) (by decide) rfl ?_
        simp only [List.set_cons_succ, List.set_cons_zero]
        refine r_iconst (v := 1) (dk kL_veto 10 rfl) (by decide) ?_
        refine r_ireturn (dk kL_veto 11 rfl) rfl rfl ⟨Nat.le_of_ble_eq_true rfl, Nat.le_of_ble_eq_true rfl⟩ ⟨e.symm, fx.fy, fun z => absurd z h0, by rw [bOut_t h0 d]; exact cb2⟩
      · exact absurd d d2
    · rcases hd with ⟨d2, hE, cb2⟩ | ⟨d2, hE, cb2⟩
      · have hE2 : E = "java/util/NoSuchElementException" := hE.trans (by rw [e]; rfl)
        refine ⟨17, by rw [hE2]; exact hn_veto_2, fun q => ?_⟩
        refine r_astore (dk kL_veto 12 rfl) (by decide) rfl ?_
        simp only [List.set_cons_succ, List.set_cons_zero]
        refine r_iconst (v := 2) (dk kL_veto 13 rfl) (by decide) ?_
        refine r_ireturn (dk kL_veto 14 rfl) rfl rfl ⟨Nat.le_of_ble_eq_true rfl, Nat.le_of_ble_eq_true rfl⟩ ⟨e.symm, fx.fy, fun z => absurd z h0, by rw [bOut_t h0 d]; exact cb2⟩
      · exact absurd d d2
    · rcases hd with ⟨d2, hE, cb2⟩ | ⟨d2, hE, cb2⟩
      · exact absurd d2 d
      · have hE2 : E = "java/lang/UnsupportedOperationException" := hE.trans rfl
        refine ⟨21, by rw [hE2]; exact hn_veto_3, fun q => ?_⟩
        refine r_astore (dk kL_veto 15 rfl) (by decide) rfl ?_
        simp only [List.set_cons_succ, List.set_cons_zero]
        refine r_iconst (v := 3) (dk kL_veto 16 rfl) (by decide) ?_
        refine r_ireturn (dk kL_veto 17 rfl) rfl rfl ⟨Nat.le_of_ble_eq_true rfl, Nat.le_of_ble_eq_true rfl⟩ ⟨e.symm, fx.fy, fun z => absurd z h0, by rw [bOut_d h0 d]; exact cb2⟩
  · rintro v M' ⟨y9, hv, c0, hy, fx, cb2⟩
    subst hv
    show WW G IL_veto _ 8 _ [.int y9, .int 0, .ref lo] M' _ _
    refine r_i2l (dk kL_veto 6 rfl) ?_
    refine r_las (dk kL_veto 7 rfl) ((congrFun fx.1 lo).trans kl) ((congrFun fx.2.1 lo).trans ll) (j := 0) rfl (by decide) (by decide) ?_
    refine r_goto (tgt := 25) (dk kL_veto 8 rfl) (by decide) ?_
    refine r_iconst (v := 0) (dk kL_veto 18 rfl) (by decide) ?_
    refine r_ireturn (dk kL_veto 19 rfl) rfl rfl ⟨Nat.le_of_ble_eq_true rfl, Nat.le_of_ble_eq_true rfl⟩ ⟨c0.symm, fx.fy.j _ _ _, fun _ => by rw [mj_s, hy], by rw [bOut_0 c0]; exact cb2.sJ _ _ _⟩
theorem sh_withdraw (g : Nat → Int32) (y : Int32) : (sp_withdraw g y).1 = 0 ∨ (sp_withdraw g y).1 = 1 ∧ (sp_withdraw g y).2.1.1 = 0 := by
  unfold sp_withdraw
  repeat' split
  all_goals first | exact Or.inl rfl | exact Or.inr (⟨rfl, rfl⟩)
theorem h_withdraw (cb : CB F M x B) (hF : F + 1 < 2 ^ 30) (kl : kd M lo = 22) (ll : ln M lo = 1) (y : Int32) : KK G IL_withdraw [.ref x, .int y, .ref lo] M (QL (F + 1) M x lo (sp_withdraw (bg B) y).1 (sp_withdraw (bg B) y).2.2.1 (bOut B (sp_withdraw (bg B) y))) := by
  have sh := sh_withdraw (bg B) y
  have hK := k_X8_withdraw (G := G) cb hF y
  generalize sp_withdraw (bg B) y = co at *
  refine KK.ofWH (by decide) (by simp [Value.category]) (Nat.le_of_ble_eq_true rfl) rfl ?_
  show WW _ _ _ 0 [_, _, _, lj] [] _ _ _
  refine r_aload_n (dk kL_withdraw 0 rfl) rfl ?_
  refine r_iconst (v := 0) (dk kL_withdraw 1 rfl) (by decide) ?_
  refine r_aload_n (dk kL_withdraw 2 rfl) rfl ?_
  refine r_iload_n (dk kL_withdraw 3 rfl) rfl ?_
  -- at 4
  refine r_tryV (I' := IX8_withdraw) (as := [_]) (dk kL_withdraw 4 rfl) mv_X8_withdraw ml_L_54 rfl cb.o.k rfl rfl (Nat.le_of_ble_eq_true rfl) ⟨by decide, by decide⟩ ⟨Nat.le_of_ble_eq_true rfl, Nat.le_of_ble_eq_true rfl⟩ hK ?_ ?_
  · rintro E M' ⟨h0, fx, hd⟩
    rcases sh with e | ⟨e, d⟩
    · exact absurd e h0
    · rcases hd with ⟨d2, hE, cb2⟩ | ⟨d2, hE, cb2⟩
      · have hE2 : E = "java/util/NoSuchElementException" := hE.trans (by rw [e]; rfl)
        refine ⟨12, by rw [hE2]; exact hn_withdraw_1, fun q => ?_⟩
        refine r_astore_n (j := 3) (dk kL_withdraw 8 rfl) rfl (by decide) rfl ?_
        simp only [List.set_cons_succ, List.set_cons_zero]
        refine r_iconst (v := 1) (dk kL_withdraw 9 rfl) (by decide) ?_
        refine r_ireturn (dk kL_withdraw 10 rfl) rfl rfl ⟨Nat.le_of_ble_eq_true rfl, Nat.le_of_ble_eq_true rfl⟩ ⟨e.symm, fx.fy, fun z => absurd z h0, by rw [bOut_t h0 d]; exact cb2⟩
      · exact absurd d d2
  · rintro v M' ⟨y9, hv, c0, hy, fx, cb2⟩
    subst hv
    show WW G IL_withdraw _ 7 _ [.int y9, .int 0, .ref lo] M' _ _
    refine r_i2l (dk kL_withdraw 5 rfl) ?_
    refine r_las (dk kL_withdraw 6 rfl) ((congrFun fx.1 lo).trans kl) ((congrFun fx.2.1 lo).trans ll) (j := 0) rfl (by decide) (by decide) ?_
    refine r_goto (tgt := 15) (dk kL_withdraw 7 rfl) (by decide) ?_
    refine r_iconst (v := 0) (dk kL_withdraw 11 rfl) (by decide) ?_
    refine r_ireturn (dk kL_withdraw 12 rfl) rfl rfl ⟨Nat.le_of_ble_eq_true rfl, Nat.le_of_ble_eq_true rfl⟩ ⟨c0.symm, fx.fy.j _ _ _, fun _ => by rw [mj_s, hy], by rw [bOut_0 c0]; exact cb2.sJ _ _ _⟩
theorem sh_setQuorum (g : Nat → Int32) (w : Int32) : (sp_setQuorum g w).1 = 0 ∨ (sp_setQuorum g w).1 = 1 ∧ (sp_setQuorum g w).2.1.1 = 0 ∨ (sp_setQuorum g w).1 = 2 ∧ (sp_setQuorum g w).2.1.1 ≠ 0 := by
  unfold sp_setQuorum
  repeat' split
  all_goals first | exact Or.inl rfl | exact Or.inr (Or.inl ⟨rfl, rfl⟩) | exact Or.inr (Or.inr (⟨rfl, (by decide : (1 : Int32) ≠ 0)⟩)) | exact Or.inr (Or.inr (⟨rfl, (by decide : (2 : Int32) ≠ 0)⟩)) | exact Or.inr (Or.inr (⟨rfl, (by decide : (3 : Int32) ≠ 0)⟩)) | exact Or.inr (Or.inr (⟨rfl, (by decide : (4 : Int32) ≠ 0)⟩)) | exact Or.inr (Or.inr (⟨rfl, (by decide : (5 : Int32) ≠ 0)⟩)) | exact Or.inr (Or.inr (⟨rfl, (by decide : (6 : Int32) ≠ 0)⟩)) | exact Or.inr (Or.inr (⟨rfl, (by decide : (7 : Int32) ≠ 0)⟩)) | exact Or.inr (Or.inr (⟨rfl, (by decide : (8 : Int32) ≠ 0)⟩)) | exact Or.inr (Or.inr (⟨rfl, (by decide : (9 : Int32) ≠ 0)⟩)) | exact Or.inr (Or.inr (⟨rfl, (by decide : (10 : Int32) ≠ 0)⟩)) | exact Or.inr (Or.inr (⟨rfl, (by decide : (11 : Int32) ≠ 0)⟩))
theorem h_setQuorum (cb : CB F M x B) (hF : F + 1 < 2 ^ 30) (kl : kd M lo = 22) (ll : ln M lo = 1) (w : Int32) : KK G IL_setQuorum [.ref x, .int w, .ref lo] M (QL (F + 1) M x lo (sp_setQuorum (bg B) w).1 (sp_setQuorum (bg B) w).2.2.1 (bOut B (sp_setQuorum (bg B) w))) := by
  have sh := sh_setQuorum (bg B) w
  have hK := k_X8_setQuorum (G := G) cb hF w
  generalize sp_setQuorum (bg B) w = co at *
  refine KK.ofWH (by decide) (by simp [Value.category]) (Nat.le_of_ble_eq_true rfl) rfl ?_
  show WW _ _ _ 0 [_, _, _, lj] [] _ _ _
  refine r_aload_n (dk kL_setQuorum 0 rfl) rfl ?_
  refine r_iconst (v := 0) (dk kL_setQuorum 1 rfl) (by decide) ?_
  refine r_aload_n (dk kL_setQuorum 2 rfl) rfl ?_
  refine r_iload_n (dk kL_setQuorum 3 rfl) rfl ?_
  -- at 4
  refine r_tryV (I' := IX8_setQuorum) (as := [_]) (dk kL_setQuorum 4 rfl) mv_X8_setQuorum ml_L_79 rfl cb.o.k rfl rfl (Nat.le_of_ble_eq_true rfl) ⟨by decide, by decide⟩ ⟨Nat.le_of_ble_eq_true rfl, Nat.le_of_ble_eq_true rfl⟩ hK ?_ ?_
  · rintro E M' ⟨h0, fx, hd⟩
    rcases sh with e | ⟨e, d⟩ | ⟨e, d⟩
    · exact absurd e h0
    · rcases hd with ⟨d2, hE, cb2⟩ | ⟨d2, hE, cb2⟩
      · have hE2 : E = "java/lang/IllegalArgumentException" := hE.trans (by rw [e]; rfl)
        refine ⟨12, by rw [hE2]; exact hn_setQuorum_1, fun q => ?_⟩
        refine r_astore_n (j := 3) (dk kL_setQuorum 8 rfl) rfl (by decide) rfl ?_
        simp only [List.set_cons_succ, List.set_cons_zero]
        refine r_iconst (v := 1) (dk kL_setQuorum 9 rfl) (by decide) ?_
        refine r_ireturn (dk kL_setQuorum 10 rfl) rfl rfl ⟨Nat.le_of_ble_eq_true rfl, Nat.le_of_ble_eq_true rfl⟩ ⟨e.symm, fx.fy, fun z => absurd z h0, by rw [bOut_t h0 d]; exact cb2⟩
      · exact absurd d d2
    · rcases hd with ⟨d2, hE, cb2⟩ | ⟨d2, hE, cb2⟩
      · exact absurd d2 d
      · have hE2 : E = "java/lang/UnsupportedOperationException" := hE.trans rfl
        refine ⟨15, by rw [hE2]; exact hn_setQuorum_2, fun q => ?_⟩
        refine r_astore_n (j := 3) (dk kL_setQuorum 11 rfl) rfl (by decide) rfl ?_
        simp only [List.set_cons_succ, List.set_cons_zero]
        refine r_iconst (v := 2) (dk kL_setQuorum 12 rfl) (by decide) ?_
        refine r_ireturn (dk kL_setQuorum 13 rfl) rfl rfl ⟨Nat.le_of_ble_eq_true rfl, Nat.le_of_ble_eq_true rfl⟩ ⟨e.symm, fx.fy, fun z => absurd z h0, by rw [bOut_d h0 d]; exact cb2⟩
  · rintro v M' ⟨y9, hv, c0, hy, fx, cb2⟩
    subst hv
    show WW G IL_setQuorum _ 7 _ [.int y9, .int 0, .ref lo] M' _ _
    refine r_i2l (dk kL_setQuorum 5 rfl) ?_
    refine r_las (dk kL_setQuorum 6 rfl) ((congrFun fx.1 lo).trans kl) ((congrFun fx.2.1 lo).trans ll) (j := 0) rfl (by decide) (by decide) ?_
    refine r_goto (tgt := 18) (dk kL_setQuorum 7 rfl) (by decide) ?_
    refine r_iconst (v := 0) (dk kL_setQuorum 14 rfl) (by decide) ?_
    refine r_ireturn (dk kL_setQuorum 15 rfl) rfl rfl ⟨Nat.le_of_ble_eq_true rfl, Nat.le_of_ble_eq_true rfl⟩ ⟨c0.symm, fx.fy.j _ _ _, fun _ => by rw [mj_s, hy], by rw [bOut_0 c0]; exact cb2.sJ _ _ _⟩
theorem sh_decide (g : Nat → Int32) : (sp_decide g).1 = 0 ∨ (sp_decide g).1 = 1 ∧ (sp_decide g).2.1.1 ≠ 0 := by
  unfold sp_decide
  repeat' split
  all_goals first | exact Or.inl rfl | exact Or.inr (⟨rfl, (by decide : (1 : Int32) ≠ 0)⟩) | exact Or.inr (⟨rfl, (by decide : (2 : Int32) ≠ 0)⟩) | exact Or.inr (⟨rfl, (by decide : (3 : Int32) ≠ 0)⟩) | exact Or.inr (⟨rfl, (by decide : (4 : Int32) ≠ 0)⟩) | exact Or.inr (⟨rfl, (by decide : (5 : Int32) ≠ 0)⟩) | exact Or.inr (⟨rfl, (by decide : (6 : Int32) ≠ 0)⟩) | exact Or.inr (⟨rfl, (by decide : (7 : Int32) ≠ 0)⟩) | exact Or.inr (⟨rfl, (by decide : (8 : Int32) ≠ 0)⟩) | exact Or.inr (⟨rfl, (by decide : (9 : Int32) ≠ 0)⟩) | exact Or.inr (⟨rfl, (by decide : (10 : Int32) ≠ 0)⟩) | exact Or.inr (⟨rfl, (by decide : (11 : Int32) ≠ 0)⟩)
theorem h_decide (cb : CB F M x B) (hF : F + 1 < 2 ^ 30) (kl : kd M lo = 22) (ll : ln M lo = 1) : KK G IL_decide [.ref x, .ref lo] M (QL (F + 1) M x lo (sp_decide (bg B)).1 (sp_decide (bg B)).2.2.1 (bOut B (sp_decide (bg B)))) := by
  have sh := sh_decide (bg B)
  have hK := k_X8_decide (G := G) cb hF
  generalize sp_decide (bg B) = co at *
  refine KK.ofWH (by decide) (by simp [Value.category]) (Nat.le_of_ble_eq_true rfl) rfl ?_
  show WW _ _ _ 0 [_, _, lj] [] _ _ _
  refine r_aload_n (dk kL_decide 0 rfl) rfl ?_
  refine r_iconst (v := 0) (dk kL_decide 1 rfl) (by decide) ?_
  refine r_aload_n (dk kL_decide 2 rfl) rfl ?_
  -- at 3
  refine r_tryV (I' := IX8_decide) (as := []) (dk kL_decide 3 rfl) mv_X8_decide ml_L_82 rfl cb.o.k rfl rfl (Nat.le_of_ble_eq_true rfl) ⟨by decide, by decide⟩ ⟨Nat.le_of_ble_eq_true rfl, Nat.le_of_ble_eq_true rfl⟩ hK ?_ ?_
  · rintro E M' ⟨h0, fx, hd⟩
    rcases sh with e | ⟨e, d⟩
    · exact absurd e h0
    · rcases hd with ⟨d2, hE, cb2⟩ | ⟨d2, hE, cb2⟩
      · exact absurd d2 d
      · have hE2 : E = "java/lang/UnsupportedOperationException" := hE.trans rfl
        refine ⟨11, by rw [hE2]; exact hn_decide_1, fun q => ?_⟩
        refine r_astore_n (j := 2) (dk kL_decide 7 rfl) rfl (by decide) rfl ?_
        simp only [List.set_cons_succ, List.set_cons_zero]
        refine r_iconst (v := 1) (dk kL_decide 8 rfl) (by decide) ?_
        refine r_ireturn (dk kL_decide 9 rfl) rfl rfl ⟨Nat.le_of_ble_eq_true rfl, Nat.le_of_ble_eq_true rfl⟩ ⟨e.symm, fx.fy, fun z => absurd z h0, by rw [bOut_d h0 d]; exact cb2⟩
  · rintro v M' ⟨y9, hv, c0, hy, fx, cb2⟩
    subst hv
    show WW G IL_decide _ 6 _ [.int y9, .int 0, .ref lo] M' _ _
    refine r_i2l (dk kL_decide 4 rfl) ?_
    refine r_las (dk kL_decide 5 rfl) ((congrFun fx.1 lo).trans kl) ((congrFun fx.2.1 lo).trans ll) (j := 0) rfl (by decide) (by decide) ?_
    refine r_goto (tgt := 14) (dk kL_decide 6 rfl) (by decide) ?_
    refine r_iconst (v := 0) (dk kL_decide 10 rfl) (by decide) ?_
    refine r_ireturn (dk kL_decide 11 rfl) rfl rfl ⟨Nat.le_of_ble_eq_true rfl, Nat.le_of_ble_eq_true rfl⟩ ⟨c0.symm, fx.fy.j _ _ _, fun _ => by rw [mj_s, hy], by rw [bOut_0 c0]; exact cb2.sJ _ _ _⟩
end LAW
