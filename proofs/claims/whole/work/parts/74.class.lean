/-! THE CLASS: the commands of a text run; a text is executed -/
def bG (B : BS) (g' : Nat → Int32) : BS := (g', (bc B, bH B), bs B, btx B, bl B, bf B, bd B)
/-- the row c of the history holds g -/
def PG (M : Mm) (x c : Nat) (g : Nat → Int32) : Prop := ∃ q, SV M (hA M (x + 61) c) g q
theorem PG.ag {F : Nat} {M M' : Mm} {x c : Nat} {g : Nat → Int32} (p : PG M x c g) (o : HO M (x + 61)) (hc : c < 9) (i : GI F g) (a : AG M M' (x + 61) (x + 332)) : PG M' x c g := by
  obtain ⟨q, v⟩ := p
  have hb := o.b hc
  have hp : hA M' (x + 61) c = hA M (x + 61) c := by unfold hA; rw [a.r (by omega) (by omega)]
  exact ⟨q, by rw [hp]; exact v.ag (o.s hc) i (a.w (by omega) (by omega))⟩
theorem GU_rG {F : Nat} {g inp : Nat → Int32} {n : Nat} (i : GI F g) (u : GU g) : ∀ {j}, F + j < 2 ^ 30 → (∀ z, z < j → (rC g inp n z).1 = 0) → GU (rG g inp n j)
  | 0, _, _ => u
  | j + 1, hF, h => GU_cmd (GU_rG i u (j := j) (by omega) fun z hz => h z (by omega)) (GI_rG i (j := j) (by omega) fun z hz => h z (by omega)) (h j (by omega))
/-- the cause of a failed text and its detail -/
def xCause (co : CO) : Int32 := if co.2.1.1 = 0 then 13 else co.2.1.1
def xDet (co : CO) : Int32 := if co.2.1.1 = 0 then 0 else co.2.1.2
/-- the first command that fails -/
def xFail (g inp : Nat → Int32) (n K : Nat) : Option Nat := fx (fun j => decide ((rC g inp n j).1 ≠ 0)) K
def QRun (F : Nat) (M : Mm) (x : Nat) (B : BS) (inp : Nat → Int32) (n K : Nat) (y : Int32) (M' : Mm) : Prop := FX M x (x + 349) M' ∧ mi M' (x + 337) = mi M (x + 337) ∧ PG M' x (bc B) (bg B) ∧ (xFail (bg B) inp n K = none ∧ y = 1 ∧ CB F M' x (bG B (rG (bg B) inp n K)) ∨ ∃ j, xFail (bg B) inp n K = some j ∧ y = 0 ∧ CB F M' x (bDeny (bG B (rG (bg B) inp n j)) (12, nI j, xCause (rC (bg B) inp n j), xDet (rC (bg B) inp n j))))
section CLASS
variable {G : GG} {M : Mm} {x F : Nat} {B : BS}
theorem k_X8_runCommands (cb : CB F M x B) (hF : F + 9 < 2 ^ 30) (pg : PG M x (bc B) (bg B)) {inp : Nat → Int32} {n K : Nat} (hK : K ≤ 9) (h1 : mi M (x + 337) 1 = nI K) (hcm : ∀ j, j < K → CF (mi M (x + 337 + 2 + j)) (xL inp n j) (pC inp n (ps inp n j)).2) (hok : ∀ j, j < K → (pC inp n (ps inp n j)).1 = true) : KK G IX8_runCommands [.ref x] M (qi (QRun (F + 9) M x B inp n K) nox) := by
  refine KK.ofW (by decide) (by simp [Value.category]) (Nat.le_of_ble_eq_true rfl) rfl ?_
  show WW _ _ _ 0 [_, lj, lj] [] _ _ _
  have i := cb.i.1.1
  have c8 := cb.i.2.1
  refine r_iconst (v := 0) (dk kX8_runCommands 0 rfl) (by decide) ?_
  refine r_istore_n (j := 1) (dk kX8_runCommands 1 rfl) rfl (by decide) rfl ?_
  simp only [List.set_cons_succ, List.set_cons_zero]
  -- at 2
  -- behind the first j commands
  suffices key : ∀ z j, j + z = K → (∀ w, w < j → (rC (bg B) inp n w).1 = 0) → ∀ Y l, FR M (x + 1) (x + 30) Y → SO Y (x + 1) → C1 Y x (rG (bg B) inp n j) → WW G IX8_runCommands (qi (QRun (F + 9) M x B inp n K) nox) 2 [.ref x, .int (nI j), l] [] Y 0 0 from key K 0 (Nat.zero_add _) (fun w hw => absurd hw (Nat.not_lt_zero w)) M _ (FR.rfl _ _ _) cb.o.s cb.c1
  intro z
  induction z with
  | zero =>
    intro j hj hz Y l rY oY vY
    have hj : j = K := hj
    subst hj
    have cD := cb.done (F' := F + 9) (by omega) hF rY oY ⟨(GI_rG i (by omega) hz).mono (by omega) hF, GU_rG i cb.i.1.2 (by omega) hz⟩ vY
    have m337 : mi Y (x + 337) = mi M (x + 337) := rY.i (by omega)
    refine r_iload_n (dk kX8_runCommands 2 rfl) rfl ?_
    refine r_aload_n (dk kX8_runCommands 3 rfl) rfl ?_
    refine r_getR (dk kX8_runCommands 4 rfl) fa_X8_39_7 cD.o.k rfl cD.o.r5 ?_
    refine r_geti (dk kX8_runCommands 5 rfl) fa_X8_285_6 cD.o.r.1 rfl ?_
    -- at 10
    rw [m337, h1]
    refine r_icmp_ge (tgt := 72) (dk kX8_runCommands 6 rfl) (by decide) (fun c10 => ?_) (fun c10 => absurd (Int32.le_refl _) c10)
    refine r_iconst (v := 1) (dk kX8_runCommands 40 rfl) (by decide) ?_
    refine r_ireturn (dk kX8_runCommands 41 rfl) rfl rfl ⟨Nat.le_of_ble_eq_true rfl, Nat.le_of_ble_eq_true rfl⟩ ⟨rY.fx (by omega) (by omega), m337, pg.ag cb.o.h (by omega) i (rY.ag (by omega)), Or.inl ⟨fx_none.mpr fun w hw => decide_eq_false (fun e => e (hz w hw)), rfl, cD⟩⟩
  | succ z ih =>
    intro j hj hz Y l rY oY vY
    have gj := GI_rG (n := n) (inp := inp) i (j := j) (by omega) hz
    have uj := GU_rG (n := n) (inp := inp) i cb.i.1.2 (j := j) (by omega) hz
    have cD := cb.done (F' := F + 9) (by omega) hF rY oY ⟨gj.mono (by omega) hF, uj⟩ vY
    have m337 : mi Y (x + 337) = mi M (x + 337) := rY.i (by omega)
    obtain ⟨q, v⟩ := vY
    obtain ⟨r1, r2, r3, r4, r5⟩ := cD.o.r
    have kc := (r5 j (by omega)).2
    obtain ⟨f0, f5, fa⟩ := hcm j (by omega)
    have mc : mi Y (x + 337 + 2 + j) = mi M (x + 337 + 2 + j) := rY.i (by omega)
    have hpn := pC_n (hok j (by omega))
    have hat := k_X8_attempt (G := G) (M := Y) (x := x) (d := x + 337 + 2 + j) cD.o v gj (by omega) uj kc (L := xL inp n j) (a := xA inp n j) hpn.2 (by rw [mc]; exact f0) (fun w hw => by rw [mc]; exact fa w (by rw [hpn.1]; exact hw))
    refine r_iload_n (dk kX8_runCommands 2 rfl) rfl ?_
    refine r_aload_n (dk kX8_runCommands 3 rfl) rfl ?_
    refine r_getR (dk kX8_runCommands 4 rfl) fa_X8_39_7 cD.o.k rfl cD.o.r5 ?_
    refine r_geti (dk kX8_runCommands 5 rfl) fa_X8_285_6 r1 rfl ?_
    -- at 10
    rw [m337, h1]
    refine r_icmp_ge (tgt := 72) (dk kX8_runCommands 6 rfl) (by decide) (fun c10 => absurd c10 (nI_ge (by omega) (by omega))) (fun c10 => ?_)
    refine r_aload_n (dk kX8_runCommands 7 rfl) rfl ?_
    refine r_aload_n (dk kX8_runCommands 8 rfl) rfl ?_
    refine r_getR (dk kX8_runCommands 9 rfl) fa_X8_39_7 cD.o.k rfl cD.o.r5 ?_
    refine r_getR (dk kX8_runCommands 10 rfl) fa_X8_410_6 r1 rfl r2 ?_
    refine r_iload_n (dk kX8_runCommands 11 rfl) rfl ?_
    refine r_aal (dk kX8_runCommands 12 rfl) r3 (t := 0) (by decide) r4 rfl (show j < 10 by omega) (by decide) (r5 j (by omega)).1 ?_
    refine r_callV (I' := IX8_attempt) (as := [_]) (dk kX8_runCommands 13 rfl) mv_X8_attempt ml_X8_414 rfl rfl cD.o.k rfl rfl (Nat.le_of_ble_eq_true rfl) ⟨by decide, by decide⟩ ⟨Nat.le_of_ble_eq_true rfl, Nat.le_of_ble_eq_true rfl⟩ hat ?_ ?_
    · exact fun E M' z => z.elim
    rintro w0 Z ⟨y, rfl, tc, htc, hq⟩
    show WW G IX8_runCommands _ 26 [.ref x, .int (nI j), l] [.int y] Z 0 0
    have hrc : sp_cmd (rG (bg B) inp n j) (xL inp n j) (xA inp n j) = rC (bg B) inp n j := rfl
    rw [hrc] at hq
    have hfail : (rC (bg B) inp n j).1 ≠ 0 → xFail (bg B) inp n K = some j := fun h0 => fx_some.mpr ⟨by omega, decide_eq_true h0, fun w hw => decide_eq_false (fun e => e (hz w hw))⟩
    have pgY := pg.ag (M' := Y) cb.o.h (by omega) i (rY.ag (by omega))
    rcases hq with ⟨h0, rfl, hy, r, oS, vS⟩ | ⟨h0, hd, rfl, rfl⟩ | ⟨h0, hd, rfl, rfl⟩
    · -- it succeeds
      have n4 : (rC (bg B) inp n j).2.2.1 ≠ -4 := fun z => by rw [z] at hy; exact absurd hy (by decide)
      refine r_istore_n (j := 2) (dk kX8_runCommands 14 rfl) rfl (by decide) rfl ?_
      simp only [List.set_cons_succ, List.set_cons_zero]
      refine r_iload_n (dk kX8_runCommands 15 rfl) rfl ?_
      refine r_bipush (v := (-4)) (dk kX8_runCommands 16 rfl) (by decide) ?_
      refine r_icmp_ne (tgt := 50) (dk kX8_runCommands 17 rfl) (by decide) (fun c30 => ?_) (fun c30 => absurd n4 c30)
      refine r_iload_n (dk kX8_runCommands 28 rfl) rfl ?_
      refine r_if_ge (tgt := 66) (dk kX8_runCommands 29 rfl) (by decide) (fun c51 => ?_) (fun c51 => absurd hy c51)
      refine r_iinc (dk kX8_runCommands 38 rfl) (by decide) rfl rfl rfl ?_
      simp only [List.set_cons_succ, List.set_cons_zero]
      refine r_goto (tgt := 2) (dk kX8_runCommands 39 rfl) (by decide) ?_
      -- at 2
      rw [show nI j + Int32.ofInt 1 = nI (j + 1) from nI_1 j]
      exact ih (j + 1) (by omega) (fun w hw => by
        by_cases e : w = j
        · rw [e]; exact h0
        · exact hz w (by omega)) Z _ (rY.tr r) oS vS
    · -- it throws
      have hn4 : tc (rC (bg B) inp n j).1 ≠ -4 := by rcases htc (rC (bg B) inp n j).1 with e | e | e <;> rw [e] <;> decide
      have hneg : ¬ 0 ≤ tc (rC (bg B) inp n j).1 := by rcases htc (rC (bg B) inp n j).1 with e | e | e <;> rw [e] <;> decide
      have cE := cD.deny 12 (nI j) 13 0
      have e1 : xCause (rC (bg B) inp n j) = 13 := if_pos hd
      have e2 : xDet (rC (bg B) inp n j) = 0 := if_pos hd
      have mn : ∀ z, z ≠ x → mi (sI (sI (sI (sI Z x 11 12) x 12 (nI j)) x 13 13) x 14 0) z = mi Z z := fun z hz => by rw [mi_sI_n _ _ _ hz, mi_sI_n _ _ _ hz, mi_sI_n _ _ _ hz, mi_sI_n _ _ _ hz]
      refine r_istore_n (j := 2) (dk kX8_runCommands 14 rfl) rfl (by decide) rfl ?_
      simp only [List.set_cons_succ, List.set_cons_zero]
      refine r_iload_n (dk kX8_runCommands 15 rfl) rfl ?_
      refine r_bipush (v := (-4)) (dk kX8_runCommands 16 rfl) (by decide) ?_
      refine r_icmp_ne (tgt := 50) (dk kX8_runCommands 17 rfl) (by decide) (fun c30 => ?_) (fun c30 => absurd hn4 c30)
      refine r_iload_n (dk kX8_runCommands 28 rfl) rfl ?_
      refine r_if_ge (tgt := 66) (dk kX8_runCommands 29 rfl) (by decide) (fun c51 => absurd c51 hneg) (fun c51 => ?_)
      refine r_aload_n (dk kX8_runCommands 30 rfl) rfl ?_
      refine r_bipush (v := 12) (dk kX8_runCommands 31 rfl) (by decide) ?_
      refine r_iload_n (dk kX8_runCommands 32 rfl) rfl ?_
      refine r_bipush (v := 13) (dk kX8_runCommands 33 rfl) (by decide) ?_
      refine r_iconst (v := 0) (dk kX8_runCommands 34 rfl) (by decide) ?_
      refine r_callVu (I' := IX8_keepDenial) (as := [_, _, _, _]) (dk kX8_runCommands 35 rfl) mv_X8_keepDenial ml_X8_404 rfl rfl cD.o.k rfl rfl (Nat.le_of_ble_eq_true rfl) ⟨by decide, by decide⟩ ⟨rfl, rfl⟩ ⟨Nat.le_of_ble_eq_true rfl, Nat.le_of_ble_eq_true rfl⟩ (k_X8_keepDenial cD.o _ _ _ _) ?_
      -- at 64
      refine r_iconst (v := 0) (dk kX8_runCommands 36 rfl) (by decide) ?_
      refine r_ireturn (dk kX8_runCommands 37 rfl) rfl rfl ⟨Nat.le_of_ble_eq_true rfl, Nat.le_of_ble_eq_true rfl⟩ ⟨(rY.fx (by omega) (by omega)).tr (FR.fx (((((FR.rfl Z x (x + 349)).sI _ _ (by omega)).sI _ _ (by omega)).sI _ _ (by omega)).sI _ _ (by omega)) (Nat.le_refl _) (Nat.le_refl _)), by rw [mn _ (by omega)]; exact m337, pgY.ag cD.o.h (by omega) i ⟨rfl, rfl, fun z h1 h2 => ⟨mn z (by omega), rfl⟩⟩, Or.inr ⟨j, hfail h0, rfl, by rw [e1, e2]; exact cE⟩⟩
    · -- it is denied
      have cR := cD.reason (rC (bg B) inp n j).2.1.1 (rC (bg B) inp n j).2.1.2
      have cE := cR.deny 12 (nI j) (rC (bg B) inp n j).2.1.1 (rC (bg B) inp n j).2.1.2
      have e1 : xCause (rC (bg B) inp n j) = (rC (bg B) inp n j).2.1.1 := if_neg hd
      have e2 : xDet (rC (bg B) inp n j) = (rC (bg B) inp n j).2.1.2 := if_neg hd
      have rs1 : mi (sI (sI Y x 9 (rC (bg B) inp n j).2.1.1) x 10 (rC (bg B) inp n j).2.1.2) x 9 = (rC (bg B) inp n j).2.1.1 := by rw [mi_sI_s, va_up_ne _ _ (by decide), mi_sI_s, va_up_self]
      have rs2 : mi (sI (sI Y x 9 (rC (bg B) inp n j).2.1.1) x 10 (rC (bg B) inp n j).2.1.2) x 10 = (rC (bg B) inp n j).2.1.2 := by rw [mi_sI_s, va_up_self]
      have mnR : ∀ z, z ≠ x → mi (sI (sI Y x 9 (rC (bg B) inp n j).2.1.1) x 10 (rC (bg B) inp n j).2.1.2) z = mi Y z := fun z hz => by rw [mi_sI_n _ _ _ hz, mi_sI_n _ _ _ hz]
      have rR : FX Y x (x + 349) (sI (sI Y x 9 (rC (bg B) inp n j).2.1.1) x 10 (rC (bg B) inp n j).2.1.2) := FR.fx (((FR.rfl Y x (x + 349)).sI _ _ (by omega)).sI _ _ (by omega)) (Nat.le_refl _) (Nat.le_refl _)
      have kR : kd (sI (sI Y x 9 (rC (bg B) inp n j).2.1.1) x 10 (rC (bg B) inp n j).2.1.2) = kd Y := rfl
      have pgR : PG (sI (sI Y x 9 (rC (bg B) inp n j).2.1.1) x 10 (rC (bg B) inp n j).2.1.2) x (bc B) (bg B) := pgY.ag cD.o.h (by omega) i ⟨rfl, rfl, fun z h1 h2 => ⟨mnR z (by omega), rfl⟩⟩
      generalize sI (sI Y x 9 (rC (bg B) inp n j).2.1.1) x 10 (rC (bg B) inp n j).2.1.2 = Z at *
      have mn : ∀ a b z, z ≠ x → mi (sI (sI (sI (sI Z x 11 12) x 12 (nI j)) x 13 a) x 14 b) z = mi Z z := fun a b z hz => by rw [mi_sI_n _ _ _ hz, mi_sI_n _ _ _ hz, mi_sI_n _ _ _ hz, mi_sI_n _ _ _ hz]
      refine r_istore_n (j := 2) (dk kX8_runCommands 14 rfl) rfl (by decide) rfl ?_
      simp only [List.set_cons_succ, List.set_cons_zero]
      refine r_iload_n (dk kX8_runCommands 15 rfl) rfl ?_
      refine r_bipush (v := (-4)) (dk kX8_runCommands 16 rfl) (by decide) ?_
      refine r_icmp_ne (tgt := 50) (dk kX8_runCommands 17 rfl) (by decide) (fun c30 => absurd c30 (fun z => z rfl)) (fun c30 => ?_)
      refine r_aload_n (dk kX8_runCommands 18 rfl) rfl ?_
      refine r_bipush (v := 12) (dk kX8_runCommands 19 rfl) (by decide) ?_
      refine r_iload_n (dk kX8_runCommands 20 rfl) rfl ?_
      refine r_aload_n (dk kX8_runCommands 21 rfl) rfl ?_
      refine r_geti (dk kX8_runCommands 22 rfl) fa_X8_392_7 cR.o.k rfl ?_
      -- at 41
      rw [rs1]
      refine r_aload_n (dk kX8_runCommands 23 rfl) rfl ?_
      refine r_geti (dk kX8_runCommands 24 rfl) fa_X8_395_7 cR.o.k rfl ?_
      -- at 45
      rw [rs2]
      refine r_callVu (I' := IX8_keepDenial) (as := [_, _, _, _]) (dk kX8_runCommands 25 rfl) mv_X8_keepDenial ml_X8_404 rfl rfl cR.o.k rfl rfl (Nat.le_of_ble_eq_true rfl) ⟨by decide, by decide⟩ ⟨rfl, rfl⟩ ⟨Nat.le_of_ble_eq_true rfl, Nat.le_of_ble_eq_true rfl⟩ (k_X8_keepDenial cR.o _ _ _ _) ?_
      -- at 48
      refine r_iconst (v := 0) (dk kX8_runCommands 26 rfl) (by decide) ?_
      refine r_ireturn (dk kX8_runCommands 27 rfl) rfl rfl ⟨Nat.le_of_ble_eq_true rfl, Nat.le_of_ble_eq_true rfl⟩ ⟨((rY.fx (by omega) (by omega)).tr rR).tr (FR.fx (((((FR.rfl Z x (x + 349)).sI _ _ (by omega)).sI _ _ (by omega)).sI _ _ (by omega)).sI _ _ (by omega)) (Nat.le_refl _) (Nat.le_refl _)), by rw [mn _ _ _ (by omega), mnR _ (by omega)]; exact m337, pgR.ag cR.o.h (by omega) i ⟨rfl, rfl, fun z h1 h2 => ⟨mn _ _ z (by omega), rfl⟩⟩, Or.inr ⟨j, hfail h0, rfl, by rw [e1, e2]; exact cE⟩⟩
/-- keepPrepared, on a board -/
theorem k_keep {g' : Nat → Int32} (cD : CB F M x (bG B g')) (i0 : BI F B) (pD : PG M x (bc B) (bg B)) : KK G IX2_keepPrepared [.ref (x + 61)] M (qv (fun M' => FX M x (x + 349) M' ∧ mi M' (x + 337) = mi M (x + 337) ∧ CB F M' x (bDo B g')) nox) := by
  have oD := cD.o
  have c3D : C3 M x (bc B) (bH B) := cD.c3
  have i' : GG2 F g' := cD.i.1
  have cu : BI F (bDo B g') := BI.keep i0 i'
  by_cases c8 : bc B < 8
  · refine KK.mono (k_X2_keepPreparedO (G := G) oD.h c3D.1 c8) (fun v M' ⟨h1, h2⟩ => ⟨h1, ?_⟩) (fun _ _ z => z)
    subst h2
    have ag : ∀ p r, (r < x + 61 ∨ x + 61 < p) → AG M (sI M (x + 61) 1 (nI (bc B + 1))) p r := fun p r hp => ⟨rfl, rfl, fun z h1 h2 => ⟨mi_sI_n _ _ _ (by omega), rfl⟩⟩
    refine ⟨FR.fx ((FR.rfl M x (x + 349)).sI _ _ (by omega)) (Nat.le_refl _) (Nat.le_refl _), mi_sI_n _ _ _ (by omega), oD.tr rfl rfl rfl, cu, cD.c1.ag oD.s i'.1 (ag _ _ (by omega)), cD.c2.ag oD.n i0.2.2.2 (by rw [mi_sI_n _ _ _ (by omega)]) (ag _ _ (by omega)), C3_keepO oD.h i0 c3D pD c8, cD.c4.ag (ag _ _ (by omega)), cD.c5.ag (ag _ _ (by omega)), by rw [mi_sI_n _ _ _ (by omega)]; exact cD.c6, ?_⟩
    unfold C7
    rw [mi_sI_n _ _ _ (by omega)]
    exact cD.c7
  · have e8 : bc B = 8 := by have := i0.2.1; omega
    have h1 := c3D.1
    rw [e8] at h1
    refine KK.mono (k_X2_keepPreparedF (G := G) oD.h h1) (fun v M' ⟨h1, h2⟩ => ⟨h1, ?_⟩) (fun _ _ z => z)
    subst h2
    have ag : ∀ p r, (r < x + 62 ∨ x + 62 < p) → AG M (sQ M (x + 62) (fun j => mr M (x + 62) (wR j))) p r := fun p r hp => ⟨rfl, rfl, fun z h1 h2 => ⟨rfl, mr_sQ_n _ _ (by omega)⟩⟩
    obtain ⟨oH, cH⟩ := C3_keepF oD.h i0 c3D pD e8
    have oN : BO (sQ M (x + 62) (fun j => mr M (x + 62) (wR j))) x := by
      obtain ⟨a1, a2, a3, a4, a5, a6, a7, a8, a9, a10⟩ := oD
      exact ⟨a1, by rw [mr_sQ_n _ _ (show x ≠ x + 62 by omega)]; exact a2, a3.ag (ag _ _ (by omega)), a4.ag (ag _ _ (by omega)), oH, a6.to rfl rfl (mr_sQ_n _ _ (by omega)), a7.to rfl rfl (mr_sQ_n _ _ (by omega)), a8.to rfl rfl (mr_sQ_n _ _ (by omega)) (mr_sQ_n _ _ (by omega)), a9, a10⟩
    exact ⟨FR.fx ((FR.rfl M x (x + 349)).sQ _ (by omega)) (Nat.le_refl _) (Nat.le_refl _), rfl, oN, cu, cD.c1.ag oD.s i'.1 (ag _ _ (by omega)), cD.c2.ag oD.n i0.2.2.2 rfl (ag _ _ (by omega)), cH, cD.c4.ag (ag _ _ (by omega)), cD.c5.ag (ag _ _ (by omega)), cD.c6, cD.c7⟩
def bClr (B : BS) : BS := (bg B, (bc B, bH B), bs B, (0, (btx B).2), bl B, bf B, bd B)
def bFlt (B : BS) (f : Int32) : BS := (bg B, (bc B, bH B), bs B, btx B, bl B, f, bd B)
/-- what executing a text leaves -/
def QEx (F : Nat) (M : Mm) (x : Nat) (B : BS) (inp : Nat → Int32) (n : Nat) : QQ := qi (fun y M' => (tOK inp n).1 = true ∧ xFail (bg B) inp n (tOK inp n).2.2 = none ∧ y = nI (tOK inp n).2.2 ∧ FX M x (x + 349) M' ∧ CB F M' x (bDo (bClr B) (rG (bg B) inp n (tOK inp n).2.2))) (fun E M' => FX M x (x + 349) M' ∧ ((tOK inp n).1 = false ∧ E = "java/lang/IllegalArgumentException" ∧ CB F M' x (bFlt (bClr B) (nI (tOK inp n).2.1)) ∨ (tOK inp n).1 = true ∧ ∃ j, xFail (bg B) inp n (tOK inp n).2.2 = some j ∧ E = "java/lang/UnsupportedOperationException" ∧ CB F M' x (bDeny (bClr B) (12, nI j, xCause (rC (bg B) inp n j), xDet (rC (bg B) inp n j)))))
theorem CB.read (cb : CB F M x B) {M1 : Mm} (r : FR M (x + 337) (x + 348) M1) (hm : mr M1 = mr M) : CB F (sI M1 (x + 333) 1 0) x (bClr B) := by
  have ms : ∀ z, (z < x + 337 ∨ x + 348 < z) → z ≠ x + 333 → mi (sI M1 (x + 333) 1 0) z = mi M z := fun z h1 h2 => by rw [mi_sI_n _ _ _ h2]; exact r.i h1
  have hx : mi (sI M1 (x + 333) 1 0) x = mi M x := ms x (by omega) (by omega)
  have ag : ∀ p q, (q < x + 333 ∨ x + 333 < p) → (q < x + 337 ∨ x + 348 < p) → AG M (sI M1 (x + 333) 1 0) p q := fun p q h1 h2 => ⟨r.k, r.l, fun z h3 h4 => ⟨ms z (by omega) (by omega), by show mr M1 z = _; rw [hm]⟩⟩
  obtain ⟨c0, i, c1, c2, c3, c4, c5, c6, c7⟩ := cb
  refine ⟨c0.tr r.k r.l hm, i, c1.ag c0.s i.1.1 (ag _ _ (by omega) (by omega)), c2.ag c0.n i.2.2.2 (by rw [hx]) (ag _ _ (by omega) (by omega)), c3.ag c0.h i.2.1 i.2.2.1 (ag _ _ (by omega) (by omega)), ⟨?_, ?_, Nat.zero_le _, fun k hk => absurd hk (Nat.not_lt_zero k), fun k hk => absurd hk (Nat.not_lt_zero k)⟩, c5.ag (ag _ _ (by omega) (by omega)), by rw [hx]; exact c6, ?_⟩
  · exact c4.1.to r.k r.l (by show mr M1 _ = _; rw [hm])
  · rw [mi_sI_s, va_up_self]
    rfl
  · unfold C7
    rw [hx]
    exact c7
theorem CB.flt (cb : CB F M x B) (f : Int32) : CB F (sI M x 8 f) x (bFlt B f) := by
  have mn : ∀ z, z ≠ x → mi (sI M x 8 f) z = mi M z := fun z hz => mi_sI_n _ _ _ hz
  have ms : ∀ z, z ≠ 8 → mi (sI M x 8 f) x z = mi M x z := fun z hz => by rw [mi_sI_s, va_up_ne _ _ hz]
  have ag : ∀ p r, x < p → AG M (sI M x 8 f) p r := fun p r hp => ⟨rfl, rfl, fun z h1 h2 => ⟨mn z (by omega), rfl⟩⟩
  obtain ⟨c0, i, c1, c2, c3, c4, c5, c6, c7⟩ := cb
  refine ⟨c0.tr rfl rfl rfl, i, c1.ag c0.s i.1.1 (ag _ _ (by omega)), c2.ag c0.n i.2.2.2 (ms 7 (by decide)) (ag _ _ (by omega)), c3.ag c0.h i.2.1 i.2.2.1 (ag _ _ (by omega)), c4.ag (ag _ _ (by omega)), c5.ag (ag _ _ (by omega)), by rw [mi_sI_s, va_up_self]; rfl, ?_⟩
  unfold C7
  rw [ms 11 (by decide), ms 12 (by decide), ms 13 (by decide), ms 14 (by decide)]
  exact c7
theorem k_X8_execute (cb : CB F M x B) (hF : F + 9 < 2 ^ 30) : KK G IX8_execute [.ref x] M (QEx (F + 9) M x B (btx B).2 (btx B).1) := by
  refine KK.ofW (by decide) (by simp [Value.category]) (Nat.le_of_ble_eq_true rfl) rfl ?_
  show WW _ _ _ 0 [_, lj] [] _ _ _
  have i := cb.i.1.1
  have c8 := cb.i.2.1
  refine r_aload_n (dk kX8_execute 0 rfl) rfl ?_
  refine r_getR (dk kX8_execute 1 rfl) fa_X8_39_7 cb.o.k rfl cb.o.r5 ?_
  refine r_aload_n (dk kX8_execute 2 rfl) rfl ?_
  refine r_getR (dk kX8_execute 3 rfl) fa_X8_29_7 cb.o.k rfl cb.o.r3 ?_
  refine r_callV (I' := IX7_read) (as := [_]) (dk kX8_execute 4 rfl) mv_X7_read ml_X8_255 rfl rfl cb.o.r.1 rfl rfl (Nat.le_of_ble_eq_true rfl) ⟨by decide, by decide⟩ ⟨Nat.le_of_ble_eq_true rfl, Nat.le_of_ble_eq_true rfl⟩ (k_X7_read cb.o.r cb.c4 (by omega)) ?_ ?_
  · exact fun E M' z => z.elim
  rintro w M1 ⟨y, rfl, r1, m1, rfl, p2, hcm⟩
  show WW G IX8_execute _ 11 [.ref x, lj] [.int _] M1 0 0
  generalize hn : (btx B).1 = n at *
  generalize hinp : (btx B).2 = inp at *
  have cC := cb.read r1 m1
  have o1 : BO M1 x := cb.o.tr r1.k r1.l m1
  have rd : mi (sI M1 (x + 333) 1 0) (x + 337) = mi M1 (x + 337) := mi_sI_n _ _ _ (by omega)
  have rc : ∀ j, mi (sI M1 (x + 333) 1 0) (x + 337 + 2 + j) = mi M1 (x + 337 + 2 + j) := fun j => mi_sI_n _ _ _ (by omega)
  have f1 : FX M x (x + 349) (sI M1 (x + 333) 1 0) := FR.fx ((r1.mo (by omega) (by omega)).sI (a := x) (b := x + 349) _ _ (by omega)) (Nat.le_refl _) (Nat.le_refl _)
  refine r_istore_n (j := 1) (dk kX8_execute 5 rfl) rfl (by decide) rfl ?_
  simp only [List.set_cons_succ, List.set_cons_zero]
  refine r_aload_n (dk kX8_execute 6 rfl) rfl ?_
  refine r_getR (dk kX8_execute 7 rfl) fa_X8_29_7 o1.k rfl o1.r3 ?_
  refine r_callVu (I' := IX3_clear) (as := []) (dk kX8_execute 8 rfl) mv_X3_clear ml_X8_259 rfl rfl o1.t.1 rfl rfl (Nat.le_of_ble_eq_true rfl) ⟨by decide, by decide⟩ ⟨rfl, rfl⟩ ⟨Nat.le_of_ble_eq_true rfl, Nat.le_of_ble_eq_true rfl⟩ (k_X3_clear o1.t) ?_
  -- at 19
  generalize sI M1 (x + 333) 1 0 = C at *
  by_cases hok : (tOK inp n).1 = true
  · rw [bI_t hok]
    obtain ⟨cnt, hcm⟩ := hcm hok
    obtain ⟨k9, k0, kall⟩ := tOK_all hok
    obtain ⟨q, v⟩ := cC.c1
    refine r_iload_n (dk kX8_execute 9 rfl) rfl ?_
    refine r_if_ne (tgt := 45) (dk kX8_execute 10 rfl) (by decide) (fun c20 => ?_) (fun c20 => absurd (by decide) c20)
    refine r_aload_n (dk kX8_execute 21 rfl) rfl ?_
    refine r_getR (dk kX8_execute 22 rfl) fa_X8_22_7 cC.o.k rfl cC.o.r2 ?_
    refine r_aload_n (dk kX8_execute 23 rfl) rfl ?_
    refine r_getR (dk kX8_execute 24 rfl) fa_X8_12_7 cC.o.k rfl cC.o.r0 ?_
    refine r_callV (I' := IX2_prepare) (as := [_]) (dk kX8_execute 25 rfl) mv_X2_prepare ml_X8_51 rfl rfl cC.o.h.k rfl rfl (Nat.le_of_ble_eq_true rfl) ⟨by decide, by decide⟩ ⟨Nat.le_of_ble_eq_true rfl, Nat.le_of_ble_eq_true rfl⟩ (k_X2_prepare cC.o.h cC.o.s v i (by omega) cC.c3.1 (by show bc B < 9; omega)) ?_ ?_
    · exact fun E M' z => z.elim
    rintro w M2 ⟨rfl, r2, m2, v2⟩
    show WW G IX8_execute _ 56 [.ref x, .int 1] [] M2 0 0
    obtain ⟨cP, pP, f2⟩ := cC.prep r2 m2 v2
    have hb := cC.o.h.b (j := bc (bClr B)) (show bc B < 9 by omega)
    have r337 : mi M2 (x + 337) = mi C (x + 337) := r2.i (by omega)
    have rcm : ∀ j, j < 9 → mi M2 (x + 337 + 2 + j) = mi C (x + 337 + 2 + j) := fun j hj => r2.i (by omega)
    have hrun := k_X8_runCommands (G := G) cP hF pP (inp := inp) (n := n) (K := (tOK inp n).2.2) k9 (by rw [r337, rd]; exact cnt) (fun j hj => by rw [rcm j (by omega), rc]; exact hcm j hj) kall
    refine r_aload_n (dk kX8_execute 26 rfl) rfl ?_
    refine r_callV (I' := IX8_runCommands) (as := []) (dk kX8_execute 27 rfl) mv_X8_runCommands ml_X8_270 rfl rfl cP.o.k rfl rfl (Nat.le_of_ble_eq_true rfl) ⟨by decide, by decide⟩ ⟨Nat.le_of_ble_eq_true rfl, Nat.le_of_ble_eq_true rfl⟩ hrun ?_ ?_
    · exact fun E M' z => z.elim
    rintro w M3 ⟨y, rfl, f3, h3, pg3, hq⟩
    show WW G IX8_execute _ 60 [.ref x, .int 1] [.int y] M3 0 0
    rcases hq with ⟨hx, rfl, c3⟩ | ⟨j, hx, rfl, c3⟩
    · have hx : xFail (bg B) inp n (tOK inp n).2.2 = none := hx
      refine r_if_ne (tgt := 85) (dk kX8_execute 28 rfl) (by decide) (fun c60 => ?_) (fun c60 => absurd (by decide) c60)
      refine r_aload_n (dk kX8_execute 39 rfl) rfl ?_
      refine r_getR (dk kX8_execute 40 rfl) fa_X8_22_7 c3.o.k rfl c3.o.r2 ?_
      refine r_callV (I' := IX2_keepPrepared) (as := []) (dk kX8_execute 41 rfl) mv_X2_keepPrepared ml_X8_282 rfl rfl c3.o.h.k rfl rfl (Nat.le_of_ble_eq_true rfl) ⟨by decide, by decide⟩ ⟨Nat.le_of_ble_eq_true rfl, Nat.le_of_ble_eq_true rfl⟩ (k_keep (B := bClr B) c3 (cC.i.mono (by omega) hF) pg3) ?_ ?_
      · exact fun E M' z => z.elim
      rintro w M4 ⟨rfl, f4, h4, c4⟩
      show WW G IX8_execute _ 92 [.ref x, .int 1] [] M4 0 0
      refine r_aload_n (dk kX8_execute 42 rfl) rfl ?_
      refine r_getR (dk kX8_execute 43 rfl) fa_X8_39_7 c4.o.k rfl c4.o.r5 ?_
      refine r_geti (dk kX8_execute 44 rfl) fa_X8_285_6 c4.o.r.1 rfl ?_
      -- at 99
      rw [h4, h3, r337, rd, cnt]
      refine r_ireturn (dk kX8_execute 45 rfl) rfl rfl ⟨Nat.le_of_ble_eq_true rfl, Nat.le_of_ble_eq_true rfl⟩ ⟨hok, hx, rfl, ((f1.tr f2).tr f3).tr f4, c4⟩
    · have hx : xFail (bg B) inp n (tOK inp n).2.2 = some j := hx
      obtain ⟨q3, v3⟩ := pg3
      refine r_if_ne (tgt := 85) (dk kX8_execute 28 rfl) (by decide) (fun c60 => absurd c60 (fun z => z rfl)) (fun c60 => ?_)
      refine r_aload_n (dk kX8_execute 29 rfl) rfl ?_
      refine r_getR (dk kX8_execute 30 rfl) fa_X8_22_7 c3.o.k rfl c3.o.r2 ?_
      refine r_aload_n (dk kX8_execute 31 rfl) rfl ?_
      refine r_getR (dk kX8_execute 32 rfl) fa_X8_12_7 c3.o.k rfl c3.o.r0 ?_
      refine r_callV (I' := IX2_bringBackPrepared) (as := [_]) (dk kX8_execute 33 rfl) mv_X2_bringBackPrepared ml_X8_274 rfl rfl c3.o.h.k rfl rfl (Nat.le_of_ble_eq_true rfl) ⟨by decide, by decide⟩ ⟨Nat.le_of_ble_eq_true rfl, Nat.le_of_ble_eq_true rfl⟩ (k_X2_bringBackPrepared c3.o.h c3.o.s (by omega) c3.c3.1 (by show bc B < 9; omega) v3 i) ?_ ?_
      · exact fun E M' z => z.elim
      rintro w M4 ⟨rfl, r4, m4, v4⟩
      show WW G IX8_execute _ 74 [.ref x, .int 1] [] M4 0 0
      have c5 := c3.done (F' := F + 9) (Nat.le_refl _) hF r4 (c3.o.s.tr r4.k r4.l m4) (cb.i.1.mono (by omega) hF) ⟨q3, v4⟩
      refine r_throwSW xw_277 (is := 279) (List.mem_of_getElem? (i := 7) rfl) rfl rfl (dk kX8_execute 34 rfl) (dk kX8_execute 35 rfl) (dk kX8_execute 36 rfl) (dk kX8_execute 37 rfl) (dk kX8_execute 38 rfl) ⟨Nat.le_of_ble_eq_true rfl, Nat.le_of_ble_eq_true rfl⟩ ⟨Nat.le_of_ble_eq_true rfl, Nat.le_of_ble_eq_true rfl⟩ (fun z => ?_)
      exact ⟨FX.x (((f1.tr f2).tr f3).tr (r4.fx (by omega) (by omega))) z, Or.inr ⟨hok, j, hx, rfl, c5.sx z⟩⟩
  · rw [bI_f hok]
    have c9 := (cC.mono (F' := F + 9) (by omega) hF).flt (nI (tOK inp n).2.1)
    have e2 : mi C (x + 337) 2 = nI (tOK inp n).2.1 := by rw [rd]; exact p2
    refine r_iload_n (dk kX8_execute 9 rfl) rfl ?_
    refine r_if_ne (tgt := 45) (dk kX8_execute 10 rfl) (by decide) (fun c20 => absurd c20 (fun z => z rfl)) (fun c20 => ?_)
    refine r_aload_n (dk kX8_execute 11 rfl) rfl ?_
    refine r_aload_n (dk kX8_execute 12 rfl) rfl ?_
    refine r_getR (dk kX8_execute 13 rfl) fa_X8_39_7 cC.o.k rfl cC.o.r5 ?_
    refine r_geti (dk kX8_execute 14 rfl) fa_X8_262_6 cC.o.r.1 rfl ?_
    -- at 31
    rw [e2]
    refine r_puti (dk kX8_execute 15 rfl) fa_X8_47_7 cC.o.k rfl rfl rfl rfl ?_
    -- at 34
    refine r_throwSW xw_265 (is := 267) (List.mem_of_getElem? (i := 6) rfl) rfl rfl (dk kX8_execute 16 rfl) (dk kX8_execute 17 rfl) (dk kX8_execute 18 rfl) (dk kX8_execute 19 rfl) (dk kX8_execute 20 rfl) ⟨Nat.le_of_ble_eq_true rfl, Nat.le_of_ble_eq_true rfl⟩ ⟨Nat.le_of_ble_eq_true rfl, Nat.le_of_ble_eq_true rfl⟩ (fun z => ?_)
    exact ⟨FX.x (f1.tr (FR.fx ((FR.rfl C x (x + 349)).sI _ _ (by omega)) (Nat.le_refl _) (Nat.le_refl _))) z, Or.inl ⟨by simpa using hok, rfl, c9.sx z⟩⟩
end CLASS
