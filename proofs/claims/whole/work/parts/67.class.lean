/-! THE CLASS: the nine calls that change -/
theorem tc1_ok : ∀ p, tc1 p = -1 ∨ tc1 p = -2 ∨ tc1 p = -3 := fun p => by unfold tc1; split <;> simp
theorem tc2_ok : ∀ p, tc2 p = -1 ∨ tc2 p = -2 ∨ tc2 p = -3 := fun p => Or.inr (Or.inl rfl)
theorem tc3_ok : ∀ p, tc3 p = -1 ∨ tc3 p = -2 ∨ tc3 p = -3 := fun p => by unfold tc3; split <;> simp
theorem tc4_ok : ∀ p, tc4 p = -1 ∨ tc4 p = -2 ∨ tc4 p = -3 := fun p => Or.inr (Or.inr rfl)
theorem QA.kd {M M' : Mm} {x : Nat} {co : CO} {tc : Int32 → Int32} {y : Int32} (h : QA M x co tc y M') : kd M' = kd M := by
  rcases h with ⟨-, -, -, r, -⟩ | ⟨-, -, -, rfl⟩ | ⟨-, -, -, rfl⟩
  · exact r.k
  · rfl
  · rfl
theorem QCc_n {F : Nat} {M M1 M' : Mm} {x : Nat} {B : BS} {co : CO} {y : Int32} (f : FX M x (x + 349) M1) (h : co.1 = 0 ∧ y = co.2.2.1 ∧ FX M1 x (x + 349) M' ∧ CB F M' x (bDo B co.2.2.2)) : co.1 = 0 ∧ y = co.2.2.1 ∧ FX M x (x + 349) M' ∧ CB F M' x (bDo B co.2.2.2) := ⟨h.1, h.2.1, f.tr h.2.2.1, h.2.2.2⟩
theorem QCc_x {F : Nat} {M M1 M' : Mm} {x : Nat} {B : BS} {co : CO} {tc : Int32 → Int32} {E : String} (f : FX M x (x + 349) M1) (h : (QCc F M1 x B co tc).2 E M') : (QCc F M x B co tc).2 E M' := ⟨h.1, f.tr h.2.1, h.2.2⟩
section CLASS
variable {G : GG} {M : Mm} {x F : Nat} {B : BS}
/-- behind the preparing -/
theorem CB.prep {M1 : Mm} (cb : CB F M x B) (r : FR M (hA M (x + 61) (bc B)) (hA M (x + 61) (bc B) + 29) M1) (hm : mr M1 = mr M) {q : Nat → Nat} (v : SV M1 (hA M (x + 61) (bc B)) (bg B) q) : CB F M1 x B ∧ PRP M1 x B ∧ FX M x (x + 349) M1 := by
  have c8 := cb.i.2.1
  have hb := cb.o.h.b (j := bc B) (by omega)
  have hx : mi M1 x = mi M x := r.i (by omega)
  have hp : ∀ j, hA M1 (x + 61) j = hA M (x + 61) j := fun j => by unfold hA; rw [hm]
  refine ⟨?_, ⟨q, by rw [hp]; exact v⟩, r.fx (by omega) (by omega)⟩
  obtain ⟨c0, i, c1, c2, c3, c4, c5, c6, c7⟩ := cb
  refine ⟨c0.tr r.k r.l hm, i, c1.ag c0.s i.1.1 (r.ag (by omega)), c2.ag c0.n i.2.2.2 (by rw [hx]) (r.ag (by omega)), ⟨by rw [r.i (by omega)]; exact c3.1, fun j hj => ?_⟩, c4.ag (r.ag (by omega)), c5.ag (r.ag (by omega)), by rw [hx]; exact c6, ?_⟩
  · obtain ⟨q2, v2⟩ := c3.2 j hj
    have hn := c0.h.ne (i := j) (j := bc B) (by omega) (by omega) (by omega)
    exact ⟨q2, by rw [hp]; exact v2.fr (c0.h.s (by omega)) (i.2.2.1 j hj).1 r (by omega)⟩
  · unfold C7
    rw [hx]
    exact c7
theorem k_X8_addStone (cb : CB F M x B) (hF : F + 1 < 2 ^ 30) (c w : Int32) : KK G IX8_addStone [.ref x, .int c, .int w] M (QCc (F + 1) M x B (sp_addStone (bg B) c w) tc1) := by
  refine KK.ofW (by decide) (by simp [Value.category]) (Nat.le_of_ble_eq_true rfl) rfl ?_
  show WW _ _ _ 0 [_, _, _] [] _ _ _
  obtain ⟨q, v⟩ := cb.c1
  refine r_aload_n (dk kX8_addStone 0 rfl) rfl ?_
  refine r_getR (dk kX8_addStone 1 rfl) fa_X8_22_7 cb.o.k rfl cb.o.r2 ?_
  refine r_aload_n (dk kX8_addStone 2 rfl) rfl ?_
  refine r_getR (dk kX8_addStone 3 rfl) fa_X8_12_7 cb.o.k rfl cb.o.r0 ?_
  refine r_callV (I' := IX2_prepare) (as := [_]) (dk kX8_addStone 4 rfl) mv_X2_prepare ml_X8_51 rfl rfl cb.o.h.k rfl rfl (Nat.le_of_ble_eq_true rfl) ⟨by decide, by decide⟩ ⟨Nat.le_of_ble_eq_true rfl, Nat.le_of_ble_eq_true rfl⟩ (k_X2_prepare cb.o.h cb.o.s v cb.i.1.1 (by omega) cb.c3.1 (by have := cb.i.2.1; omega)) ?_ ?_
  · exact fun E M' z => z.elim
  rintro w0 M1 ⟨rfl, r1, m1, v1⟩
  show WW G IX8_addStone _ 11 [.ref x, .int c, .int w] [] M1 0 0
  obtain ⟨cb1, pr1, fx1⟩ := cb.prep r1 m1 v1
  obtain ⟨q1, w1⟩ := cb1.c1
  refine r_aload_n (dk kX8_addStone 5 rfl) rfl ?_
  refine r_aload_n (dk kX8_addStone 6 rfl) rfl ?_
  refine r_iload_n (dk kX8_addStone 7 rfl) rfl ?_
  refine r_iload_n (dk kX8_addStone 8 rfl) rfl ?_
  refine r_callV (I' := IX8_placeStone) (as := [_, _]) (dk kX8_addStone 9 rfl) mv_X8_placeStone ml_X8_55 rfl rfl cb1.o.k rfl rfl (Nat.le_of_ble_eq_true rfl) ⟨by decide, by decide⟩ ⟨Nat.le_of_ble_eq_true rfl, Nat.le_of_ble_eq_true rfl⟩ (k_X8_placeStone cb1.o w1 cb1.i.1.1 c w) ?_ ?_
  · exact fun E M' z => z.elim
  rintro w0 M2 ⟨z, rfl, hq⟩
  show WW G IX8_addStone _ 18 [.ref x, .int c, .int w] [.int z, .ref x] M2 0 0
  have k2 : kd M2 x = 8 := by rw [hq.kd]; exact cb1.o.k
  refine r_callV (I' := IX8_conclude) (as := [_]) (dk kX8_addStone 10 rfl) mv_X8_conclude ml_X8_59 rfl rfl k2 rfl rfl (Nat.le_of_ble_eq_true rfl) ⟨by decide, by decide⟩ ⟨Nat.le_of_ble_eq_true rfl, Nat.le_of_ble_eq_true rfl⟩ (k_X8_conclude cb1 pr1 (Nat.le_succ F) hF (fun h0 => ⟨(GI_spAddStone cb.i.1.1 h0).mono (Nat.le_succ F) hF, GU_spAddStone cb.i.1.2 cb.i.1.1 h0⟩) tc1_ok hq) ?_ ?_
  · exact fun E M' z => QCc_x fx1 z
  rintro w0 M3 ⟨z3, rfl, hz⟩
  show WW G IX8_addStone _ 21 [.ref x, .int c, .int w] [.int z3] M3 1 6
  refine r_ireturn (dk kX8_addStone 11 rfl) rfl rfl ⟨Nat.le_of_ble_eq_true rfl, Nat.le_of_ble_eq_true rfl⟩ (QCc_n fx1 hz)
theorem k_X8_addOfficer (cb : CB F M x B) (hF : F + 1 < 2 ^ 30) (w : Int32) : KK G IX8_addOfficer [.ref x, .int w] M (QCc (F + 1) M x B (sp_addOfficer (bg B) w) tc2) := by
  refine KK.ofW (by decide) (by simp [Value.category]) (Nat.le_of_ble_eq_true rfl) rfl ?_
  show WW _ _ _ 0 [_, _] [] _ _ _
  obtain ⟨q, v⟩ := cb.c1
  refine r_aload_n (dk kX8_addOfficer 0 rfl) rfl ?_
  refine r_getR (dk kX8_addOfficer 1 rfl) fa_X8_22_7 cb.o.k rfl cb.o.r2 ?_
  refine r_aload_n (dk kX8_addOfficer 2 rfl) rfl ?_
  refine r_getR (dk kX8_addOfficer 3 rfl) fa_X8_12_7 cb.o.k rfl cb.o.r0 ?_
  refine r_callV (I' := IX2_prepare) (as := [_]) (dk kX8_addOfficer 4 rfl) mv_X2_prepare ml_X8_51 rfl rfl cb.o.h.k rfl rfl (Nat.le_of_ble_eq_true rfl) ⟨by decide, by decide⟩ ⟨Nat.le_of_ble_eq_true rfl, Nat.le_of_ble_eq_true rfl⟩ (k_X2_prepare cb.o.h cb.o.s v cb.i.1.1 (by omega) cb.c3.1 (by have := cb.i.2.1; omega)) ?_ ?_
  · exact fun E M' z => z.elim
  rintro w0 M1 ⟨rfl, r1, m1, v1⟩
  show WW G IX8_addOfficer _ 11 [.ref x, .int w] [] M1 0 0
  obtain ⟨cb1, pr1, fx1⟩ := cb.prep r1 m1 v1
  obtain ⟨q1, w1⟩ := cb1.c1
  refine r_aload_n (dk kX8_addOfficer 5 rfl) rfl ?_
  refine r_aload_n (dk kX8_addOfficer 6 rfl) rfl ?_
  refine r_iload_n (dk kX8_addOfficer 7 rfl) rfl ?_
  refine r_callV (I' := IX8_enlistOfficer) (as := [_]) (dk kX8_addOfficer 8 rfl) mv_X8_enlistOfficer ml_X8_63 rfl rfl cb1.o.k rfl rfl (Nat.le_of_ble_eq_true rfl) ⟨by decide, by decide⟩ ⟨Nat.le_of_ble_eq_true rfl, Nat.le_of_ble_eq_true rfl⟩ (k_X8_enlistOfficer cb1.o w1 cb1.i.1.1 w) ?_ ?_
  · exact fun E M' z => z.elim
  rintro w0 M2 ⟨z, rfl, hq⟩
  show WW G IX8_addOfficer _ 17 [.ref x, .int w] [.int z, .ref x] M2 0 0
  have k2 : kd M2 x = 8 := by rw [hq.kd]; exact cb1.o.k
  refine r_callV (I' := IX8_conclude) (as := [_]) (dk kX8_addOfficer 9 rfl) mv_X8_conclude ml_X8_59 rfl rfl k2 rfl rfl (Nat.le_of_ble_eq_true rfl) ⟨by decide, by decide⟩ ⟨Nat.le_of_ble_eq_true rfl, Nat.le_of_ble_eq_true rfl⟩ (k_X8_conclude cb1 pr1 (Nat.le_succ F) hF (fun h0 => ⟨(GI_spAddOfficer cb.i.1.1 h0).mono (Nat.le_succ F) hF, GU_spAddOfficer cb.i.1.2 cb.i.1.1 h0⟩) tc2_ok hq) ?_ ?_
  · exact fun E M' z => QCc_x fx1 z
  rintro w0 M3 ⟨z3, rfl, hz⟩
  show WW G IX8_addOfficer _ 20 [.ref x, .int w] [.int z3] M3 1 6
  refine r_ireturn (dk kX8_addOfficer 10 rfl) rfl rfl ⟨Nat.le_of_ble_eq_true rfl, Nat.le_of_ble_eq_true rfl⟩ (QCc_n fx1 hz)
theorem k_X8_file (cb : CB F M x B) (hF : F + 1 < 2 ^ 30) (a s c w : Int32) : KK G IX8_file [.ref x, .int a, .int s, .int c, .int w] M (QCc (F + 1) M x B (sp_file (bg B) a s c w) tc1) := by
  refine KK.ofW (by decide) (by simp [Value.category]) (Nat.le_of_ble_eq_true rfl) rfl ?_
  show WW _ _ _ 0 [_, _, _, _, _] [] _ _ _
  obtain ⟨q, v⟩ := cb.c1
  refine r_aload_n (dk kX8_file 0 rfl) rfl ?_
  refine r_getR (dk kX8_file 1 rfl) fa_X8_22_7 cb.o.k rfl cb.o.r2 ?_
  refine r_aload_n (dk kX8_file 2 rfl) rfl ?_
  refine r_getR (dk kX8_file 3 rfl) fa_X8_12_7 cb.o.k rfl cb.o.r0 ?_
  refine r_callV (I' := IX2_prepare) (as := [_]) (dk kX8_file 4 rfl) mv_X2_prepare ml_X8_51 rfl rfl cb.o.h.k rfl rfl (Nat.le_of_ble_eq_true rfl) ⟨by decide, by decide⟩ ⟨Nat.le_of_ble_eq_true rfl, Nat.le_of_ble_eq_true rfl⟩ (k_X2_prepare cb.o.h cb.o.s v cb.i.1.1 (by omega) cb.c3.1 (by have := cb.i.2.1; omega)) ?_ ?_
  · exact fun E M' z => z.elim
  rintro w0 M1 ⟨rfl, r1, m1, v1⟩
  show WW G IX8_file _ 11 [.ref x, .int a, .int s, .int c, .int w] [] M1 0 0
  obtain ⟨cb1, pr1, fx1⟩ := cb.prep r1 m1 v1
  obtain ⟨q1, w1⟩ := cb1.c1
  refine r_aload_n (dk kX8_file 5 rfl) rfl ?_
  refine r_aload_n (dk kX8_file 6 rfl) rfl ?_
  refine r_iload_n (dk kX8_file 7 rfl) rfl ?_
  refine r_iload_n (dk kX8_file 8 rfl) rfl ?_
  refine r_iload_n (dk kX8_file 9 rfl) rfl ?_
  refine r_iload (dk kX8_file 10 rfl) rfl ?_
  refine r_callV (I' := IX8_lodgePetition) (as := [_, _, _, _]) (dk kX8_file 11 rfl) mv_X8_lodgePetition ml_X8_122 rfl rfl cb1.o.k rfl rfl (Nat.le_of_ble_eq_true rfl) ⟨by decide, by decide⟩ ⟨Nat.le_of_ble_eq_true rfl, Nat.le_of_ble_eq_true rfl⟩ (k_X8_lodgePetition cb1.o w1 cb1.i.1.1 hF cb1.i.1.2 a s c w) ?_ ?_
  · exact fun E M' z => z.elim
  rintro w0 M2 ⟨z, rfl, hq⟩
  show WW G IX8_file _ 21 [.ref x, .int a, .int s, .int c, .int w] [.int z, .ref x] M2 0 0
  have k2 : kd M2 x = 8 := by rw [hq.kd]; exact cb1.o.k
  refine r_callV (I' := IX8_conclude) (as := [_]) (dk kX8_file 12 rfl) mv_X8_conclude ml_X8_59 rfl rfl k2 rfl rfl (Nat.le_of_ble_eq_true rfl) ⟨by decide, by decide⟩ ⟨Nat.le_of_ble_eq_true rfl, Nat.le_of_ble_eq_true rfl⟩ (k_X8_conclude cb1 pr1 (Nat.le_succ F) hF (fun h0 => ⟨GI_spFile cb.i.1.1 hF h0, GU_spFile cb.i.1.2 cb.i.1.1 h0⟩) tc1_ok hq) ?_ ?_
  · exact fun E M' z => QCc_x fx1 z
  rintro w0 M3 ⟨z3, rfl, hz⟩
  show WW G IX8_file _ 24 [.ref x, .int a, .int s, .int c, .int w] [.int z3] M3 1 6
  refine r_ireturn (dk kX8_file 13 rfl) rfl rfl ⟨Nat.le_of_ble_eq_true rfl, Nat.le_of_ble_eq_true rfl⟩ (QCc_n fx1 hz)
theorem k_X8_vote (cb : CB F M x B) (hF : F + 1 < 2 ^ 30) (a y b : Int32) : KK G IX8_vote [.ref x, .int a, .int y, .int b] M (QCc (F + 1) M x B (sp_vote (bg B) a y b) tc3) := by
  refine KK.ofW (by decide) (by simp [Value.category]) (Nat.le_of_ble_eq_true rfl) rfl ?_
  show WW _ _ _ 0 [_, _, _, _] [] _ _ _
  obtain ⟨q, v⟩ := cb.c1
  refine r_aload_n (dk kX8_vote 0 rfl) rfl ?_
  refine r_getR (dk kX8_vote 1 rfl) fa_X8_22_7 cb.o.k rfl cb.o.r2 ?_
  refine r_aload_n (dk kX8_vote 2 rfl) rfl ?_
  refine r_getR (dk kX8_vote 3 rfl) fa_X8_12_7 cb.o.k rfl cb.o.r0 ?_
  refine r_callV (I' := IX2_prepare) (as := [_]) (dk kX8_vote 4 rfl) mv_X2_prepare ml_X8_51 rfl rfl cb.o.h.k rfl rfl (Nat.le_of_ble_eq_true rfl) ⟨by decide, by decide⟩ ⟨Nat.le_of_ble_eq_true rfl, Nat.le_of_ble_eq_true rfl⟩ (k_X2_prepare cb.o.h cb.o.s v cb.i.1.1 (by omega) cb.c3.1 (by have := cb.i.2.1; omega)) ?_ ?_
  · exact fun E M' z => z.elim
  rintro w0 M1 ⟨rfl, r1, m1, v1⟩
  show WW G IX8_vote _ 11 [.ref x, .int a, .int y, .int b] [] M1 0 0
  obtain ⟨cb1, pr1, fx1⟩ := cb.prep r1 m1 v1
  obtain ⟨q1, w1⟩ := cb1.c1
  refine r_aload_n (dk kX8_vote 5 rfl) rfl ?_
  refine r_aload_n (dk kX8_vote 6 rfl) rfl ?_
  refine r_iload_n (dk kX8_vote 7 rfl) rfl ?_
  refine r_iload_n (dk kX8_vote 8 rfl) rfl ?_
  refine r_iload_n (dk kX8_vote 9 rfl) rfl ?_
  refine r_callV (I' := IX8_castVote) (as := [_, _, _]) (dk kX8_vote 10 rfl) mv_X8_castVote ml_X8_126 rfl rfl cb1.o.k rfl rfl (Nat.le_of_ble_eq_true rfl) ⟨by decide, by decide⟩ ⟨Nat.le_of_ble_eq_true rfl, Nat.le_of_ble_eq_true rfl⟩ (k_X8_castVote cb1.o w1 cb1.i.1.1 a y b) ?_ ?_
  · exact fun E M' z => z.elim
  rintro w0 M2 ⟨z, rfl, hq⟩
  show WW G IX8_vote _ 19 [.ref x, .int a, .int y, .int b] [.int z, .ref x] M2 0 0
  have k2 : kd M2 x = 8 := by rw [hq.kd]; exact cb1.o.k
  refine r_callV (I' := IX8_conclude) (as := [_]) (dk kX8_vote 11 rfl) mv_X8_conclude ml_X8_59 rfl rfl k2 rfl rfl (Nat.le_of_ble_eq_true rfl) ⟨by decide, by decide⟩ ⟨Nat.le_of_ble_eq_true rfl, Nat.le_of_ble_eq_true rfl⟩ (k_X8_conclude cb1 pr1 (Nat.le_succ F) hF (fun h0 => ⟨(GI_spVote cb.i.1.1 h0).mono (Nat.le_succ F) hF, GU_spVote cb.i.1.2 cb.i.1.1 h0⟩) tc3_ok hq) ?_ ?_
  · exact fun E M' z => QCc_x fx1 z
  rintro w0 M3 ⟨z3, rfl, hz⟩
  show WW G IX8_vote _ 22 [.ref x, .int a, .int y, .int b] [.int z3] M3 1 6
  refine r_ireturn (dk kX8_vote 12 rfl) rfl rfl ⟨Nat.le_of_ble_eq_true rfl, Nat.le_of_ble_eq_true rfl⟩ (QCc_n fx1 hz)
theorem k_X8_cite (cb : CB F M x B) (hF : F + 1 < 2 ^ 30) (y r : Int32) : KK G IX8_cite [.ref x, .int y, .int r] M (QCc (F + 1) M x B (sp_cite (bg B) y r) tc4) := by
  refine KK.ofW (by decide) (by simp [Value.category]) (Nat.le_of_ble_eq_true rfl) rfl ?_
  show WW _ _ _ 0 [_, _, _] [] _ _ _
  obtain ⟨q, v⟩ := cb.c1
  refine r_aload_n (dk kX8_cite 0 rfl) rfl ?_
  refine r_getR (dk kX8_cite 1 rfl) fa_X8_22_7 cb.o.k rfl cb.o.r2 ?_
  refine r_aload_n (dk kX8_cite 2 rfl) rfl ?_
  refine r_getR (dk kX8_cite 3 rfl) fa_X8_12_7 cb.o.k rfl cb.o.r0 ?_
  refine r_callV (I' := IX2_prepare) (as := [_]) (dk kX8_cite 4 rfl) mv_X2_prepare ml_X8_51 rfl rfl cb.o.h.k rfl rfl (Nat.le_of_ble_eq_true rfl) ⟨by decide, by decide⟩ ⟨Nat.le_of_ble_eq_true rfl, Nat.le_of_ble_eq_true rfl⟩ (k_X2_prepare cb.o.h cb.o.s v cb.i.1.1 (by omega) cb.c3.1 (by have := cb.i.2.1; omega)) ?_ ?_
  · exact fun E M' z => z.elim
  rintro w0 M1 ⟨rfl, r1, m1, v1⟩
  show WW G IX8_cite _ 11 [.ref x, .int y, .int r] [] M1 0 0
  obtain ⟨cb1, pr1, fx1⟩ := cb.prep r1 m1 v1
  obtain ⟨q1, w1⟩ := cb1.c1
  refine r_aload_n (dk kX8_cite 5 rfl) rfl ?_
  refine r_aload_n (dk kX8_cite 6 rfl) rfl ?_
  refine r_iload_n (dk kX8_cite 7 rfl) rfl ?_
  refine r_iload_n (dk kX8_cite 8 rfl) rfl ?_
  refine r_callV (I' := IX8_citeRuling) (as := [_, _]) (dk kX8_cite 9 rfl) mv_X8_citeRuling ml_X8_130 rfl rfl cb1.o.k rfl rfl (Nat.le_of_ble_eq_true rfl) ⟨by decide, by decide⟩ ⟨Nat.le_of_ble_eq_true rfl, Nat.le_of_ble_eq_true rfl⟩ (k_X8_citeRuling cb1.o w1 cb1.i.1.1 y r) ?_ ?_
  · exact fun E M' z => z.elim
  rintro w0 M2 ⟨z, rfl, hq⟩
  show WW G IX8_cite _ 18 [.ref x, .int y, .int r] [.int z, .ref x] M2 0 0
  have k2 : kd M2 x = 8 := by rw [hq.kd]; exact cb1.o.k
  refine r_callV (I' := IX8_conclude) (as := [_]) (dk kX8_cite 10 rfl) mv_X8_conclude ml_X8_59 rfl rfl k2 rfl rfl (Nat.le_of_ble_eq_true rfl) ⟨by decide, by decide⟩ ⟨Nat.le_of_ble_eq_true rfl, Nat.le_of_ble_eq_true rfl⟩ (k_X8_conclude cb1 pr1 (Nat.le_succ F) hF (fun h0 => ⟨(GI_spCite cb.i.1.1 h0).mono (Nat.le_succ F) hF, GU_spCite cb.i.1.2 cb.i.1.1 h0⟩) tc4_ok hq) ?_ ?_
  · exact fun E M' z => QCc_x fx1 z
  rintro w0 M3 ⟨z3, rfl, hz⟩
  show WW G IX8_cite _ 21 [.ref x, .int y, .int r] [.int z3] M3 1 6
  refine r_ireturn (dk kX8_cite 11 rfl) rfl rfl ⟨Nat.le_of_ble_eq_true rfl, Nat.le_of_ble_eq_true rfl⟩ (QCc_n fx1 hz)
theorem k_X8_veto (cb : CB F M x B) (hF : F + 1 < 2 ^ 30) (a y : Int32) : KK G IX8_veto [.ref x, .int a, .int y] M (QCc (F + 1) M x B (sp_veto (bg B) a y) tc3) := by
  refine KK.ofW (by decide) (by simp [Value.category]) (Nat.le_of_ble_eq_true rfl) rfl ?_
  show WW _ _ _ 0 [_, _, _] [] _ _ _
  obtain ⟨q, v⟩ := cb.c1
  refine r_aload_n (dk kX8_veto 0 rfl) rfl ?_
  refine r_getR (dk kX8_veto 1 rfl) fa_X8_22_7 cb.o.k rfl cb.o.r2 ?_
  refine r_aload_n (dk kX8_veto 2 rfl) rfl ?_
  refine r_getR (dk kX8_veto 3 rfl) fa_X8_12_7 cb.o.k rfl cb.o.r0 ?_
  refine r_callV (I' := IX2_prepare) (as := [_]) (dk kX8_veto 4 rfl) mv_X2_prepare ml_X8_51 rfl rfl cb.o.h.k rfl rfl (Nat.le_of_ble_eq_true rfl) ⟨by decide, by decide⟩ ⟨Nat.le_of_ble_eq_true rfl, Nat.le_of_ble_eq_true rfl⟩ (k_X2_prepare cb.o.h cb.o.s v cb.i.1.1 (by omega) cb.c3.1 (by have := cb.i.2.1; omega)) ?_ ?_
  · exact fun E M' z => z.elim
  rintro w0 M1 ⟨rfl, r1, m1, v1⟩
  show WW G IX8_veto _ 11 [.ref x, .int a, .int y] [] M1 0 0
  obtain ⟨cb1, pr1, fx1⟩ := cb.prep r1 m1 v1
  obtain ⟨q1, w1⟩ := cb1.c1
  refine r_aload_n (dk kX8_veto 5 rfl) rfl ?_
  refine r_aload_n (dk kX8_veto 6 rfl) rfl ?_
  refine r_iload_n (dk kX8_veto 7 rfl) rfl ?_
  refine r_iload_n (dk kX8_veto 8 rfl) rfl ?_
  refine r_callV (I' := IX8_vetoPetition) (as := [_, _]) (dk kX8_veto 9 rfl) mv_X8_vetoPetition ml_X8_133 rfl rfl cb1.o.k rfl rfl (Nat.le_of_ble_eq_true rfl) ⟨by decide, by decide⟩ ⟨Nat.le_of_ble_eq_true rfl, Nat.le_of_ble_eq_true rfl⟩ (k_X8_vetoPetition cb1.o w1 cb1.i.1.1 a y) ?_ ?_
  · exact fun E M' z => z.elim
  rintro w0 M2 ⟨z, rfl, hq⟩
  show WW G IX8_veto _ 18 [.ref x, .int a, .int y] [.int z, .ref x] M2 0 0
  have k2 : kd M2 x = 8 := by rw [hq.kd]; exact cb1.o.k
  refine r_callV (I' := IX8_conclude) (as := [_]) (dk kX8_veto 10 rfl) mv_X8_conclude ml_X8_59 rfl rfl k2 rfl rfl (Nat.le_of_ble_eq_true rfl) ⟨by decide, by decide⟩ ⟨Nat.le_of_ble_eq_true rfl, Nat.le_of_ble_eq_true rfl⟩ (k_X8_conclude cb1 pr1 (Nat.le_succ F) hF (fun h0 => ⟨(GI_spVeto cb.i.1.1 h0).mono (Nat.le_succ F) hF, GU_spVeto cb.i.1.2 cb.i.1.1 h0⟩) tc3_ok hq) ?_ ?_
  · exact fun E M' z => QCc_x fx1 z
  rintro w0 M3 ⟨z3, rfl, hz⟩
  show WW G IX8_veto _ 21 [.ref x, .int a, .int y] [.int z3] M3 1 6
  refine r_ireturn (dk kX8_veto 11 rfl) rfl rfl ⟨Nat.le_of_ble_eq_true rfl, Nat.le_of_ble_eq_true rfl⟩ (QCc_n fx1 hz)
theorem k_X8_withdraw (cb : CB F M x B) (hF : F + 1 < 2 ^ 30) (y : Int32) : KK G IX8_withdraw [.ref x, .int y] M (QCc (F + 1) M x B (sp_withdraw (bg B) y) tc4) := by
  refine KK.ofW (by decide) (by simp [Value.category]) (Nat.le_of_ble_eq_true rfl) rfl ?_
  show WW _ _ _ 0 [_, _] [] _ _ _
  obtain ⟨q, v⟩ := cb.c1
  refine r_aload_n (dk kX8_withdraw 0 rfl) rfl ?_
  refine r_getR (dk kX8_withdraw 1 rfl) fa_X8_22_7 cb.o.k rfl cb.o.r2 ?_
  refine r_aload_n (dk kX8_withdraw 2 rfl) rfl ?_
  refine r_getR (dk kX8_withdraw 3 rfl) fa_X8_12_7 cb.o.k rfl cb.o.r0 ?_
  refine r_callV (I' := IX2_prepare) (as := [_]) (dk kX8_withdraw 4 rfl) mv_X2_prepare ml_X8_51 rfl rfl cb.o.h.k rfl rfl (Nat.le_of_ble_eq_true rfl) ⟨by decide, by decide⟩ ⟨Nat.le_of_ble_eq_true rfl, Nat.le_of_ble_eq_true rfl⟩ (k_X2_prepare cb.o.h cb.o.s v cb.i.1.1 (by omega) cb.c3.1 (by have := cb.i.2.1; omega)) ?_ ?_
  · exact fun E M' z => z.elim
  rintro w0 M1 ⟨rfl, r1, m1, v1⟩
  show WW G IX8_withdraw _ 11 [.ref x, .int y] [] M1 0 0
  obtain ⟨cb1, pr1, fx1⟩ := cb.prep r1 m1 v1
  obtain ⟨q1, w1⟩ := cb1.c1
  refine r_aload_n (dk kX8_withdraw 5 rfl) rfl ?_
  refine r_aload_n (dk kX8_withdraw 6 rfl) rfl ?_
  refine r_iload_n (dk kX8_withdraw 7 rfl) rfl ?_
  refine r_callV (I' := IX8_withdrawPetition) (as := [_]) (dk kX8_withdraw 8 rfl) mv_X8_withdrawPetition ml_X8_136 rfl rfl cb1.o.k rfl rfl (Nat.le_of_ble_eq_true rfl) ⟨by decide, by decide⟩ ⟨Nat.le_of_ble_eq_true rfl, Nat.le_of_ble_eq_true rfl⟩ (k_X8_withdrawPetition cb1.o w1 cb1.i.1.1 y) ?_ ?_
  · exact fun E M' z => z.elim
  rintro w0 M2 ⟨z, rfl, hq⟩
  show WW G IX8_withdraw _ 17 [.ref x, .int y] [.int z, .ref x] M2 0 0
  have k2 : kd M2 x = 8 := by rw [hq.kd]; exact cb1.o.k
  refine r_callV (I' := IX8_conclude) (as := [_]) (dk kX8_withdraw 9 rfl) mv_X8_conclude ml_X8_59 rfl rfl k2 rfl rfl (Nat.le_of_ble_eq_true rfl) ⟨by decide, by decide⟩ ⟨Nat.le_of_ble_eq_true rfl, Nat.le_of_ble_eq_true rfl⟩ (k_X8_conclude cb1 pr1 (Nat.le_succ F) hF (fun h0 => ⟨(GI_spWithdraw cb.i.1.1 h0).mono (Nat.le_succ F) hF, GU_spWithdraw cb.i.1.2 cb.i.1.1 h0⟩) tc4_ok hq) ?_ ?_
  · exact fun E M' z => QCc_x fx1 z
  rintro w0 M3 ⟨z3, rfl, hz⟩
  show WW G IX8_withdraw _ 20 [.ref x, .int y] [.int z3] M3 1 6
  refine r_ireturn (dk kX8_withdraw 10 rfl) rfl rfl ⟨Nat.le_of_ble_eq_true rfl, Nat.le_of_ble_eq_true rfl⟩ (QCc_n fx1 hz)
theorem k_X8_setQuorum (cb : CB F M x B) (hF : F + 1 < 2 ^ 30) (w : Int32) : KK G IX8_setQuorum [.ref x, .int w] M (QCc (F + 1) M x B (sp_setQuorum (bg B) w) tc2) := by
  refine KK.ofW (by decide) (by simp [Value.category]) (Nat.le_of_ble_eq_true rfl) rfl ?_
  show WW _ _ _ 0 [_, _] [] _ _ _
  obtain ⟨q, v⟩ := cb.c1
  refine r_aload_n (dk kX8_setQuorum 0 rfl) rfl ?_
  refine r_getR (dk kX8_setQuorum 1 rfl) fa_X8_22_7 cb.o.k rfl cb.o.r2 ?_
  refine r_aload_n (dk kX8_setQuorum 2 rfl) rfl ?_
  refine r_getR (dk kX8_setQuorum 3 rfl) fa_X8_12_7 cb.o.k rfl cb.o.r0 ?_
  refine r_callV (I' := IX2_prepare) (as := [_]) (dk kX8_setQuorum 4 rfl) mv_X2_prepare ml_X8_51 rfl rfl cb.o.h.k rfl rfl (Nat.le_of_ble_eq_true rfl) ⟨by decide, by decide⟩ ⟨Nat.le_of_ble_eq_true rfl, Nat.le_of_ble_eq_true rfl⟩ (k_X2_prepare cb.o.h cb.o.s v cb.i.1.1 (by omega) cb.c3.1 (by have := cb.i.2.1; omega)) ?_ ?_
  · exact fun E M' z => z.elim
  rintro w0 M1 ⟨rfl, r1, m1, v1⟩
  show WW G IX8_setQuorum _ 11 [.ref x, .int w] [] M1 0 0
  obtain ⟨cb1, pr1, fx1⟩ := cb.prep r1 m1 v1
  obtain ⟨q1, w1⟩ := cb1.c1
  refine r_aload_n (dk kX8_setQuorum 5 rfl) rfl ?_
  refine r_aload_n (dk kX8_setQuorum 6 rfl) rfl ?_
  refine r_iload_n (dk kX8_setQuorum 7 rfl) rfl ?_
  refine r_callV (I' := IX8_changeQuorum) (as := [_]) (dk kX8_setQuorum 8 rfl) mv_X8_changeQuorum ml_X8_168 rfl rfl cb1.o.k rfl rfl (Nat.le_of_ble_eq_true rfl) ⟨by decide, by decide⟩ ⟨Nat.le_of_ble_eq_true rfl, Nat.le_of_ble_eq_true rfl⟩ (k_X8_changeQuorum cb1.o w1 cb1.i.1.1 w) ?_ ?_
  · exact fun E M' z => z.elim
  rintro w0 M2 ⟨z, rfl, hq⟩
  show WW G IX8_setQuorum _ 17 [.ref x, .int w] [.int z, .ref x] M2 0 0
  have k2 : kd M2 x = 8 := by rw [hq.kd]; exact cb1.o.k
  refine r_callV (I' := IX8_conclude) (as := [_]) (dk kX8_setQuorum 9 rfl) mv_X8_conclude ml_X8_59 rfl rfl k2 rfl rfl (Nat.le_of_ble_eq_true rfl) ⟨by decide, by decide⟩ ⟨Nat.le_of_ble_eq_true rfl, Nat.le_of_ble_eq_true rfl⟩ (k_X8_conclude cb1 pr1 (Nat.le_succ F) hF (fun h0 => ⟨(GI_spSetQuorum cb.i.1.1 h0).mono (Nat.le_succ F) hF, GU_spSetQuorum cb.i.1.2 cb.i.1.1 h0⟩) tc2_ok hq) ?_ ?_
  · exact fun E M' z => QCc_x fx1 z
  rintro w0 M3 ⟨z3, rfl, hz⟩
  show WW G IX8_setQuorum _ 20 [.ref x, .int w] [.int z3] M3 1 6
  refine r_ireturn (dk kX8_setQuorum 10 rfl) rfl rfl ⟨Nat.le_of_ble_eq_true rfl, Nat.le_of_ble_eq_true rfl⟩ (QCc_n fx1 hz)
theorem k_X8_decide (cb : CB F M x B) (hF : F + 1 < 2 ^ 30) : KK G IX8_decide [.ref x] M (QCc (F + 1) M x B (sp_decide (bg B) ) tc4) := by
  refine KK.ofW (by decide) (by simp [Value.category]) (Nat.le_of_ble_eq_true rfl) rfl ?_
  show WW _ _ _ 0 [_] [] _ _ _
  obtain ⟨q, v⟩ := cb.c1
  refine r_aload_n (dk kX8_decide 0 rfl) rfl ?_
  refine r_getR (dk kX8_decide 1 rfl) fa_X8_22_7 cb.o.k rfl cb.o.r2 ?_
  refine r_aload_n (dk kX8_decide 2 rfl) rfl ?_
  refine r_getR (dk kX8_decide 3 rfl) fa_X8_12_7 cb.o.k rfl cb.o.r0 ?_
  refine r_callV (I' := IX2_prepare) (as := [_]) (dk kX8_decide 4 rfl) mv_X2_prepare ml_X8_51 rfl rfl cb.o.h.k rfl rfl (Nat.le_of_ble_eq_true rfl) ⟨by decide, by decide⟩ ⟨Nat.le_of_ble_eq_true rfl, Nat.le_of_ble_eq_true rfl⟩ (k_X2_prepare cb.o.h cb.o.s v cb.i.1.1 (by omega) cb.c3.1 (by have := cb.i.2.1; omega)) ?_ ?_
  · exact fun E M' z => z.elim
  rintro w0 M1 ⟨rfl, r1, m1, v1⟩
  show WW G IX8_decide _ 11 [.ref x] [] M1 0 0
  obtain ⟨cb1, pr1, fx1⟩ := cb.prep r1 m1 v1
  obtain ⟨q1, w1⟩ := cb1.c1
  refine r_aload_n (dk kX8_decide 5 rfl) rfl ?_
  refine r_aload_n (dk kX8_decide 6 rfl) rfl ?_
  refine r_callV (I' := IX8_decideFirst) (as := []) (dk kX8_decide 7 rfl) mv_X8_decideFirst ml_X8_171 rfl rfl cb1.o.k rfl rfl (Nat.le_of_ble_eq_true rfl) ⟨by decide, by decide⟩ ⟨Nat.le_of_ble_eq_true rfl, Nat.le_of_ble_eq_true rfl⟩ (k_X8_decideFirst cb1.o w1 cb1.i.1.1) ?_ ?_
  · exact fun E M' z => z.elim
  rintro w0 M2 ⟨z, rfl, hq⟩
  show WW G IX8_decide _ 16 [.ref x] [.int z, .ref x] M2 0 0
  have k2 : kd M2 x = 8 := by rw [hq.kd]; exact cb1.o.k
  refine r_callV (I' := IX8_conclude) (as := [_]) (dk kX8_decide 8 rfl) mv_X8_conclude ml_X8_59 rfl rfl k2 rfl rfl (Nat.le_of_ble_eq_true rfl) ⟨by decide, by decide⟩ ⟨Nat.le_of_ble_eq_true rfl, Nat.le_of_ble_eq_true rfl⟩ (k_X8_conclude cb1 pr1 (Nat.le_succ F) hF (fun h0 => ⟨(GI_spDecide cb.i.1.1 h0).mono (Nat.le_succ F) hF, GU_spDecide cb.i.1.2 cb.i.1.1 h0⟩) tc4_ok hq) ?_ ?_
  · exact fun E M' z => QCc_x fx1 z
  rintro w0 M3 ⟨z3, rfl, hz⟩
  show WW G IX8_decide _ 19 [.ref x] [.int z3] M3 1 6
  refine r_ireturn (dk kX8_decide 9 rfl) rfl rfl ⟨Nat.le_of_ble_eq_true rfl, Nat.le_of_ble_eq_true rfl⟩ (QCc_n fx1 hz)
end CLASS
