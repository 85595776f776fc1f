/-! THE LAW'S HELPERS: the ranking, a text carried out, means -/
theorem CB.inf {F : Nat} {M : Mm} {x : Nat} {B : BS} (c : CB F M x B) (f : Nat → Int32) : CB F (sA M (x + 349) f) x B := by
  have g : ∀ a b, b < x + 349 → AG M (sA M (x + 349) f) a b := fun a b hb => ⟨rfl, rfl, fun z h1 h2 => ⟨mi_sA_n _ _ (by omega), rfl⟩⟩
  have hx : mi (sA M (x + 349) f) x = mi M x := mi_sA_n _ _ (by omega)
  obtain ⟨c0, i, c1, c2, c3, c4, c5, c6, c7⟩ := c
  refine ⟨c0.tr rfl rfl rfl, i, c1.ag c0.s i.1.1 (g _ _ (by omega)), c2.ag c0.n i.2.2.2 (by rw [hx]) (g _ _ (by omega)), c3.ag c0.h i.2.1 i.2.2.1 (g _ _ (by omega)), c4.ag (g _ _ (by omega)), c5.ag (g _ _ (by omega)), by rw [hx]; exact c6, ?_⟩
  unfold C7
  rw [hx]
  exact c7
theorem FY.inf (M : Mm) (x : Nat) (f : Nat → Int32) : FY M (sA M (x + 349) f) x := ⟨_root_.rfl, _root_.rfl, fun c h => ⟨mi_sA_n _ _ (by omega), _root_.rfl⟩⟩
/-- what a text's run answers, and what it leaves -/
def xO (B : BS) : Int32 × Int32 × BS := if (tOK (btx B).2 (btx B).1).1 = false then (1, 0, bFlt (bClr B) (nI (tOK (btx B).2 (btx B).1).2.1)) else match xFail (bg B) (btx B).2 (btx B).1 (tOK (btx B).2 (btx B).1).2.2 with
  | none => (0, nI (tOK (btx B).2 (btx B).1).2.2, bDo (bClr B) (rG (bg B) (btx B).2 (btx B).1 (tOK (btx B).2 (btx B).1).2.2))
  | some j => (2, 0, bDeny (bClr B) (12, nI j, xCause (rC (bg B) (btx B).2 (btx B).1 j), xDet (rC (bg B) (btx B).2 (btx B).1 j)))
theorem xO_f {B : BS} (h : (tOK (btx B).2 (btx B).1).1 = false) : xO B = (1, 0, bFlt (bClr B) (nI (tOK (btx B).2 (btx B).1).2.1)) := if_pos h
theorem xO_n {B : BS} (h : (tOK (btx B).2 (btx B).1).1 = true) (h2 : xFail (bg B) (btx B).2 (btx B).1 (tOK (btx B).2 (btx B).1).2.2 = none) : xO B = (0, nI (tOK (btx B).2 (btx B).1).2.2, bDo (bClr B) (rG (bg B) (btx B).2 (btx B).1 (tOK (btx B).2 (btx B).1).2.2)) := by
  unfold xO
  rw [if_neg (by rw [h]; decide), h2]
theorem xO_s {B : BS} {j : Nat} (h : (tOK (btx B).2 (btx B).1).1 = true) (h2 : xFail (bg B) (btx B).2 (btx B).1 (tOK (btx B).2 (btx B).1).2.2 = some j) : xO B = (2, 0, bDeny (bClr B) (12, nI j, xCause (rC (bg B) (btx B).2 (btx B).1 j), xDet (rC (bg B) (btx B).2 (btx B).1 j))) := by
  unfold xO
  rw [if_neg (by rw [h]; decide), h2]
/-- answers c; where c is naught the row of doubles holds v; the board is as it was -/
def QD (F : Nat) (M : Mm) (x dr : Nat) (c : Int32) (v : UInt64) (B' : BS) : QQ := qi (fun y M' => y = c ∧ FY M M' x ∧ (c = 0 → md M' dr 0 = v) ∧ CB F M' x B') nox
def mV (g : Nat → Int32) : UInt64 := FP.ddiv (FP.i2d (nI (gSv g (gn g 3)))) (FP.i2d (nI (gn g 3)))
def gV (g : Nat → Int32) : UInt32 := FP.fdiv (FP.i2f (nI (gSg g (gn g 5)))) (FP.i2f (nI (gn g 5)))
section LAW
variable {G : GG} {M : Mm} {x lo dr F : Nat} {B : BS} {sp : SPv}
theorem hg_rulingByInfluence (cb : CB F M x B) (kl : kd M lo = 22) (ll : ln M lo = 1) (y : Int32) (hK : KK G IX8_rulingByInfluence [.ref x, .int y] M (QIn M x sp)) (sh : sp.1 = 0 ∨ sp.1 = 1) : KK G IL_rulingByInfluence [.ref x, .int y, .ref lo] M (QL F M x lo sp.1 sp.2 B) := by
  refine KK.ofWH (by decide) (by simp [Value.category]) (Nat.le_of_ble_eq_true rfl) rfl ?_
  show WW _ _ _ 0 [_, _, _, lj] [] _ _ _
  refine r_aload_n (dk kL_rulingByInfluence 0 rfl) rfl ?_
  refine r_iconst (v := 0) (dk kL_rulingByInfluence 1 rfl) (by decide) ?_
  refine r_aload_n (dk kL_rulingByInfluence 2 rfl) rfl ?_
  refine r_iload_n (dk kL_rulingByInfluence 3 rfl) rfl ?_
  -- at 4
  refine r_tryV (I' := IX8_rulingByInfluence) (as := [_]) (dk kL_rulingByInfluence 4 rfl) mv_X8_rulingByInfluence ml_L_114 rfl cb.o.k rfl rfl (Nat.le_of_ble_eq_true rfl) ⟨by decide, by decide⟩ ⟨Nat.le_of_ble_eq_true rfl, Nat.le_of_ble_eq_true rfl⟩ hK ?_ ?_
  · rintro E M' ⟨h0, hE, z, hz⟩
    subst hz
    rcases sh with e | e
    · exact absurd e h0
    · refine ⟨12, by rw [hE]; exact hn_rulingByInfluence_1, fun q => ?_⟩
      refine r_astore_n (j := 3) (dk kL_rulingByInfluence 8 rfl) rfl (by decide) rfl ?_
      simp only [List.set_cons_succ, List.set_cons_zero]
      refine r_iconst (v := 1) (dk kL_rulingByInfluence 9 rfl) (by decide) ?_
      refine r_ireturn (dk kL_rulingByInfluence 10 rfl) rfl rfl ⟨Nat.le_of_ble_eq_true rfl, Nat.le_of_ble_eq_true rfl⟩ ⟨e.symm, FY.rfl M x, fun z2 => absurd z2 h0, cb.sx z⟩
  · rintro v M' ⟨y9, hv, c0, hy, f, hM⟩
    subst hv
    subst hM
    show WW G IL_rulingByInfluence _ 7 _ [.int y9, .int 0, .ref lo] _ _ _
    refine r_i2l (dk kL_rulingByInfluence 5 rfl) ?_
    refine r_las (dk kL_rulingByInfluence 6 rfl) kl ll (j := 0) rfl (by decide) (by decide) ?_
    refine r_goto (tgt := 15) (dk kL_rulingByInfluence 7 rfl) (by decide) ?_
    refine r_iconst (v := 0) (dk kL_rulingByInfluence 11 rfl) (by decide) ?_
    refine r_ireturn (dk kL_rulingByInfluence 12 rfl) rfl rfl ⟨Nat.le_of_ble_eq_true rfl, Nat.le_of_ble_eq_true rfl⟩ ⟨c0.symm, (FY.inf _ _ _).j _ _ _, fun _ => by rw [mj_s, hy], (cb.inf f).sJ _ _ _⟩
theorem h_execute (cb : CB F M x B) (hF : F + 9 < 2 ^ 30) (kl : kd M lo = 22) (ll : ln M lo = 1) : KK G IL_execute [.ref x, .ref lo] M (QL (F + 9) M x lo (xO B).1 (xO B).2.1 (xO B).2.2) := by
  have hK := k_X8_execute (G := G) cb hF
  refine KK.ofWH (by decide) (by simp [Value.category]) (Nat.le_of_ble_eq_true rfl) rfl ?_
  show WW _ _ _ 0 [_, _, lj] [] _ _ _
  refine r_aload_n (dk kL_execute 0 rfl) rfl ?_
  refine r_iconst (v := 0) (dk kL_execute 1 rfl) (by decide) ?_
  refine r_aload_n (dk kL_execute 2 rfl) rfl ?_
  -- at 3
  refine r_tryV (I' := IX8_execute) (as := []) (dk kL_execute 3 rfl) mv_X8_execute ml_L_133 rfl cb.o.k rfl rfl (Nat.le_of_ble_eq_true rfl) ⟨by decide, by decide⟩ ⟨Nat.le_of_ble_eq_true rfl, Nat.le_of_ble_eq_true rfl⟩ hK ?_ ?_
  · rintro E M' ⟨fx, ⟨h1, hE, cb2⟩ | ⟨h1, j, h2, hE, cb2⟩⟩
    · refine ⟨11, by rw [hE]; exact hn_execute_1, fun q => ?_⟩
      rw [xO_f h1]
      refine r_astore_n (j := 2) (dk kL_execute 7 rfl) rfl (by decide) rfl ?_
      simp only [List.set_cons_succ, List.set_cons_zero]
      refine r_iconst (v := 1) (dk kL_execute 8 rfl) (by decide) ?_
      refine r_ireturn (dk kL_execute 9 rfl) rfl rfl ⟨Nat.le_of_ble_eq_true rfl, Nat.le_of_ble_eq_true rfl⟩ ⟨rfl, fx.fy, fun z2 => absurd z2 (by decide), cb2⟩
    · refine ⟨14, by rw [hE]; exact hn_execute_2, fun q => ?_⟩
      rw [xO_s h1 h2]
      refine r_astore_n (j := 2) (dk kL_execute 10 rfl) rfl (by decide) rfl ?_
      simp only [List.set_cons_succ, List.set_cons_zero]
      refine r_iconst (v := 2) (dk kL_execute 11 rfl) (by decide) ?_
      refine r_ireturn (dk kL_execute 12 rfl) rfl rfl ⟨Nat.le_of_ble_eq_true rfl, Nat.le_of_ble_eq_true rfl⟩ ⟨rfl, fx.fy, fun z2 => absurd z2 (by decide), cb2⟩
  · rintro v M' ⟨y9, hv, h1, h2, hy, fx, cb2⟩
    subst hv
    rw [xO_n h1 h2]
    show WW G IL_execute _ 6 _ [.int y9, .int 0, .ref lo] M' _ _
    refine r_i2l (dk kL_execute 4 rfl) ?_
    refine r_las (dk kL_execute 5 rfl) ((congrFun fx.1 lo).trans kl) ((congrFun fx.2.1 lo).trans ll) (j := 0) rfl (by decide) (by decide) ?_
    refine r_goto (tgt := 17) (dk kL_execute 6 rfl) (by decide) ?_
    refine r_iconst (v := 0) (dk kL_execute 13 rfl) (by decide) ?_
    refine r_ireturn (dk kL_execute 14 rfl) rfl rfl ⟨Nat.le_of_ble_eq_true rfl, Nat.le_of_ble_eq_true rfl⟩ ⟨rfl, fx.fy.j _ _ _, fun _ => by rw [mj_s, hy], cb2.sJ _ _ _⟩
theorem h_meanVotes (cb : CB F M x B) (kl : kd M dr = 23) (ll : ln M dr = 1) : KK G IL_meanVotes [.ref x, .ref dr] M (QD F M x dr (if gn (bg B) 3 = 0 then 1 else 0) (mV (bg B)) B) := by
  obtain ⟨q, v⟩ := cb.c1
  have hK := k_X8_meanVotes (G := G) cb.o v cb.i.1.1
  refine KK.ofWH (by decide) (by simp [Value.category]) (Nat.le_of_ble_eq_true rfl) rfl ?_
  show WW _ _ _ 0 [_, _, lj] [] _ _ _
  refine r_aload_n (dk kL_meanVotes 0 rfl) rfl ?_
  refine r_iconst (v := 0) (dk kL_meanVotes 1 rfl) (by decide) ?_
  refine r_aload_n (dk kL_meanVotes 2 rfl) rfl ?_
  -- at 3
  refine r_tryV (I' := IX8_meanVotes) (as := []) (dk kL_meanVotes 3 rfl) mv_X8_meanVotes ml_L_117 rfl cb.o.k rfl rfl (Nat.le_of_ble_eq_true rfl) ⟨by decide, by decide⟩ ⟨Nat.le_of_ble_eq_true rfl, Nat.le_of_ble_eq_true rfl⟩ hK ?_ ?_
  · rintro E M' ⟨h0, hE, z, hz⟩
    subst hz
    refine ⟨10, by rw [hE]; exact hn_meanVotes_1, fun q => ?_⟩
    rw [if_pos h0]
    refine r_astore_n (j := 2) (dk kL_meanVotes 6 rfl) rfl (by decide) rfl ?_
    simp only [List.set_cons_succ, List.set_cons_zero]
    refine r_iconst (v := 1) (dk kL_meanVotes 7 rfl) (by decide) ?_
    refine r_ireturn (dk kL_meanVotes 8 rfl) rfl rfl ⟨Nat.le_of_ble_eq_true rfl, Nat.le_of_ble_eq_true rfl⟩ ⟨rfl, FY.rfl M x, fun z2 => absurd z2 (by decide), cb.sx z⟩
  · rintro v M' ⟨y9, hv, c0, hy, hM⟩
    subst hv
    subst hM
    rw [if_neg c0]
    show WW G IL_meanVotes _ 6 _ [.double y9, .int 0, .ref dr] _ _ _
    refine r_das (dk kL_meanVotes 4 rfl) kl ll (j := 0) rfl (by decide) (by decide) ?_
    refine r_goto (tgt := 13) (dk kL_meanVotes 5 rfl) (by decide) ?_
    refine r_iconst (v := 0) (dk kL_meanVotes 9 rfl) (by decide) ?_
    refine r_ireturn (dk kL_meanVotes 10 rfl) rfl rfl ⟨Nat.le_of_ble_eq_true rfl, Nat.le_of_ble_eq_true rfl⟩ ⟨rfl, (FY.rfl _ _).d _ _ _, fun _ => by rw [md_s, hy]; rfl, cb.sD _ _ _⟩
theorem h_grantedShare (cb : CB F M x B) (kl : kd M dr = 23) (ll : ln M dr = 1) : KK G IL_grantedShare [.ref x, .ref dr] M (QD F M x dr (if gn (bg B) 5 = 0 then 1 else 0) (FP.f2d (gV (bg B))) B) := by
  obtain ⟨q, v⟩ := cb.c1
  have hK := k_X8_grantedShare (G := G) cb.o v cb.i.1.1
  refine KK.ofWH (by decide) (by simp [Value.category]) (Nat.le_of_ble_eq_true rfl) rfl ?_
  show WW _ _ _ 0 [_, _, lj] [] _ _ _
  refine r_aload_n (dk kL_grantedShare 0 rfl) rfl ?_
  refine r_iconst (v := 0) (dk kL_grantedShare 1 rfl) (by decide) ?_
  refine r_aload_n (dk kL_grantedShare 2 rfl) rfl ?_
  -- at 3
  refine r_tryV (I' := IX8_grantedShare) (as := []) (dk kL_grantedShare 3 rfl) mv_X8_grantedShare ml_L_123 rfl cb.o.k rfl rfl (Nat.le_of_ble_eq_true rfl) ⟨by decide, by decide⟩ ⟨Nat.le_of_ble_eq_true rfl, Nat.le_of_ble_eq_true rfl⟩ hK ?_ ?_
  · rintro E M' ⟨h0, hE, z, hz⟩
    subst hz
    refine ⟨11, by rw [hE]; exact hn_grantedShare_1, fun q => ?_⟩
    rw [if_pos h0]
    refine r_astore_n (j := 2) (dk kL_grantedShare 7 rfl) rfl (by decide) rfl ?_
    simp only [List.set_cons_succ, List.set_cons_zero]
    refine r_iconst (v := 1) (dk kL_grantedShare 8 rfl) (by decide) ?_
    refine r_ireturn (dk kL_grantedShare 9 rfl) rfl rfl ⟨Nat.le_of_ble_eq_true rfl, Nat.le_of_ble_eq_true rfl⟩ ⟨rfl, FY.rfl M x, fun z2 => absurd z2 (by decide), cb.sx z⟩
  · rintro v M' ⟨y9, hv, c0, hy, hM⟩
    subst hv
    subst hM
    rw [if_neg c0]
    have hr := cb.i.1.1.r.2
    have hle := gSg_le cb.i.1.1 (gn (bg B) 5) (Nat.le_refl _)
    have hnn : vf_n64 (FP.f2d y9) := by rw [hy]; exact nn_f2d _ (by omega) _ (by omega) c0
    show WW G IL_grantedShare _ 6 _ [.float y9, .int 0, .ref dr] _ _ _
    refine r_f2d (dk kL_grantedShare 4 rfl) hnn ?_
    refine r_das (dk kL_grantedShare 5 rfl) kl ll (j := 0) rfl (by decide) (by decide) ?_
    refine r_goto (tgt := 14) (dk kL_grantedShare 6 rfl) (by decide) ?_
    refine r_iconst (v := 0) (dk kL_grantedShare 10 rfl) (by decide) ?_
    refine r_ireturn (dk kL_grantedShare 11 rfl) rfl rfl ⟨Nat.le_of_ble_eq_true rfl, Nat.le_of_ble_eq_true rfl⟩ ⟨rfl, (FY.rfl _ _).d _ _ _, fun _ => by rw [md_s, hy]; rfl, cb.sD _ _ _⟩
end LAW
