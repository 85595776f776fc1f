/-! THE CLASS: a call is concluded -/
def xnm (y : Int32) : String := if y = -1 then "java/lang/IndexOutOfBoundsException" else if y = -2 then "java/lang/IllegalArgumentException" else if y = -3 then nE else "java/lang/UnsupportedOperationException"
/-- the states before the latest changes, behind one more -/
def bKeep (c : Nat) (H : Nat → Nat → Int32) (g : Nat → Int32) : Nat × (Nat → Nat → Int32) := if c < 8 then (c + 1, fun j => if j = c then g else H j) else (8, fun j => if j < 7 then H (j + 1) else g)
def bDo (B : BS) (g' : Nat → Int32) : BS := (g', bKeep (bc B) (bH B) (bg B), bs B, btx B, bl B, bf B, bd B)
def bDeny (B : BS) (d : Int32 × Int32 × Int32 × Int32) : BS := (bg B, (bc B, bH B), bs B, btx B, bl B, bf B, d)
theorem BI.keep {F : Nat} {B : BS} (i : BI F B) {g' : Nat → Int32} (h : GG2 F g') : BI F (bDo B g') := by
  refine ⟨h, ?_, ?_, i.2.2.2⟩
  · show (bKeep (bc B) (bH B) (bg B)).1 ≤ 8
    unfold bKeep
    split
    · show bc B + 1 ≤ 8; omega
    · exact Nat.le_refl 8
  · show ∀ j, j < (bKeep (bc B) (bH B) (bg B)).1 → GG2 F ((bKeep (bc B) (bH B) (bg B)).2 j)
    unfold bKeep
    by_cases c8 : bc B < 8
    · rw [if_pos c8]
      intro j hj
      have hj : j < bc B + 1 := hj
      show GG2 F (if j = bc B then bg B else bH B j)
      by_cases e : j = bc B
      · rw [if_pos e]; exact i.1
      · rw [if_neg e]; exact i.2.2.1 j (by omega)
    · rw [if_neg c8]
      intro j hj
      have h8 := i.2.1
      show GG2 F (if j < 7 then bH B (j + 1) else bg B)
      by_cases e : j < 7
      · rw [if_pos e]; exact i.2.2.1 (j + 1) (by omega)
      · rw [if_neg e]; exact i.1
/-- the row behind the states holds the state as it was -/
def PRP (M : Mm) (x : Nat) (B : BS) : Prop := ∃ q, SV M (hA M (x + 61) (bc B)) (bg B) q
theorem wR_lt : ∀ j, j < 9 → wR j < 9 := fun j hj => by
  unfold wR
  by_cases h : j < 8
  · rw [if_pos h]; omega
  · rw [if_neg h, if_pos (by omega)]; omega
theorem wR_inj : ∀ i j, i < j → j < 9 → wR i ≠ wR j := fun i j h hj => by
  unfold wR
  rw [if_pos (by omega)]
  by_cases h2 : j < 8
  · rw [if_pos h2]; omega
  · rw [if_neg h2, if_pos (by omega)]; omega
/-- the rows behind a change -/
theorem C3_keepO {F : Nat} {M : Mm} {x : Nat} {B : BS} (o : HO M (x + 61)) (i : BI F B) (c3 : C3 M x (bc B) (bH B)) (pr : PRP M x B) (c8 : bc B < 8) : C3 (sI M (x + 61) 1 (nI (bc B + 1))) x (bKeep (bc B) (bH B) (bg B)).1 (bKeep (bc B) (bH B) (bg B)).2 := by
  unfold bKeep
  rw [if_pos c8]
  refine ⟨by rw [mi_sI_s, va_up_self], fun j hj => ?_⟩
  have hj : j < bc B + 1 := hj
  show ∃ q, SV (sI M (x + 61) 1 (nI (bc B + 1))) (hA M (x + 61) j) (if j = bc B then bg B else bH B j) q
  have hb := o.b (j := j) (by omega)
  have go : ∀ f, GI F f → (∃ q, SV M (hA M (x + 61) j) f q) → ∃ q, SV (sI M (x + 61) 1 (nI (bc B + 1))) (hA M (x + 61) j) f q := fun f hf ⟨q, v⟩ => ⟨q, v.to (o.s (by omega)) hf (fun z h1 h2 => mi_sI_n _ _ _ (by omega)) rfl⟩
  by_cases e : j = bc B
  · rw [if_pos e]
    refine go _ i.1.1 ?_
    rw [e]
    exact pr
  · rw [if_neg e]
    exact go _ (i.2.2.1 j (by omega)).1 (c3.2 j (by omega))
theorem C3_keepF {F : Nat} {M : Mm} {x : Nat} {B : BS} (o : HO M (x + 61)) (i : BI F B) (c3 : C3 M x (bc B) (bH B)) (pr : PRP M x B) (c8 : bc B = 8) : HO (sQ M (x + 62) (fun j => mr M (x + 62) (wR j))) (x + 61) ∧ C3 (sQ M (x + 62) (fun j => mr M (x + 62) (wR j))) x (bKeep (bc B) (bH B) (bg B)).1 (bKeep (bc B) (bH B) (bg B)).2 := by
  obtain ⟨o', hp⟩ := o.pm (M' := sQ M (x + 62) (fun j => mr M (x + 62) (wR j))) rfl rfl (w := wR) (fun b hb => mr_sQ_n _ _ (by omega)) (fun j hj => by rw [show x + 61 + 1 = x + 62 from rfl, mr_sQ_s]) wR_lt wR_inj
  refine ⟨o', ?_⟩
  unfold bKeep
  rw [if_neg (by omega)]
  have hc := c3.1
  rw [c8] at hc
  refine ⟨hc, fun j hj => ?_⟩
  have hj : j < 8 := hj
  rw [hp j (by omega)]
  show ∃ q, SV _ (hA M (x + 61) (wR j)) (if j < 7 then bH B (j + 1) else bg B) q
  have hw : wR j = j + 1 := if_pos hj
  rw [hw]
  have go : ∀ f, GI F f → (∃ q, SV M (hA M (x + 61) (j + 1)) f q) → ∃ q, SV (sQ M (x + 62) (fun j => mr M (x + 62) (wR j))) (hA M (x + 61) (j + 1)) f q := fun f hf ⟨q, v⟩ => ⟨q, v.to (o.s (by omega)) hf (fun z h1 h2 => rfl) (by have hb := o.b (j := j + 1) (by omega); rw [mr_sQ_n _ _ (by omega)])⟩
  by_cases e : j < 7
  · rw [if_pos e]
    exact go _ (i.2.2.1 (j + 1) (by omega)).1 (c3.2 (j + 1) (by omega))
  · rw [if_neg e]
    refine go _ i.1.1 ?_
    have h7 : j + 1 = bc B := by omega
    rw [h7]
    exact pr
/-- what a command's call leaves -/
def QCc (F : Nat) (M : Mm) (x : Nat) (B : BS) (co : CO) (tc : Int32 → Int32) : QQ := qi (fun y M' => co.1 = 0 ∧ y = co.2.2.1 ∧ FX M x (x + 349) M' ∧ CB F M' x (bDo B co.2.2.2)) (fun E M' => co.1 ≠ 0 ∧ FX M x (x + 349) M' ∧ (co.2.1.1 = 0 ∧ E = xnm (tc co.1) ∧ CB F M' x B ∨ co.2.1.1 ≠ 0 ∧ E = xnm (-4) ∧ CB F M' x (bDeny B (co.2.1.1, co.2.1.2, 0, 0))))
section CLASS
variable {G : GG} {M M0 : Mm} {x F F' : Nat} {B : BS} {co : CO} {tc : Int32 → Int32} {y : Int32}
theorem k_X8_keepDenial (o : BO M x) (a b c d : Int32) : KU G IX8_keepDenial [.ref x, .int a, .int b, .int c, .int d] M (sI (sI (sI (sI M x 11 a) x 12 b) x 13 c) x 14 d) := by
  refine KK.ofW (by decide) (by simp [Value.category]) (Nat.le_of_ble_eq_true rfl) rfl ?_
  show WW _ _ _ 0 [_, _, _, _, _] [] _ _ _
  refine r_aload_n (dk kX8_keepDenial 0 rfl) rfl ?_
  refine r_iload_n (dk kX8_keepDenial 1 rfl) rfl ?_
  refine r_puti (dk kX8_keepDenial 2 rfl) fa_X8_314_7 o.k rfl rfl rfl rfl ?_
  refine r_aload_n (dk kX8_keepDenial 3 rfl) rfl ?_
  refine r_iload_n (dk kX8_keepDenial 4 rfl) rfl ?_
  refine r_puti (dk kX8_keepDenial 5 rfl) fa_X8_317_7 o.k rfl rfl rfl rfl ?_
  refine r_aload_n (dk kX8_keepDenial 6 rfl) rfl ?_
  refine r_iload_n (dk kX8_keepDenial 7 rfl) rfl ?_
  refine r_puti (dk kX8_keepDenial 8 rfl) fa_X8_323_7 o.k rfl rfl rfl rfl ?_
  refine r_aload_n (dk kX8_keepDenial 9 rfl) rfl ?_
  refine r_iload (dk kX8_keepDenial 10 rfl) rfl ?_
  refine r_puti (dk kX8_keepDenial 11 rfl) fa_X8_326_7 o.k rfl rfl rfl rfl ?_
  refine r_return (dk kX8_keepDenial 12 rfl) rfl ⟨Nat.le_of_ble_eq_true rfl, Nat.le_of_ble_eq_true rfl⟩ rfl
theorem CB.deny (cb : CB F M x B) (a b c d : Int32) : CB F (sI (sI (sI (sI M x 11 a) x 12 b) x 13 c) x 14 d) x (bDeny B (a, b, c, d)) := by
  have mn : ∀ z, z ≠ x → mi (sI (sI (sI (sI M x 11 a) x 12 b) x 13 c) x 14 d) z = mi M z := fun z hz => by rw [mi_sI_n _ _ _ hz, mi_sI_n _ _ _ hz, mi_sI_n _ _ _ hz, mi_sI_n _ _ _ hz]
  have ms : ∀ z, z < 11 → mi (sI (sI (sI (sI M x 11 a) x 12 b) x 13 c) x 14 d) x z = mi M x z := fun z hz => by rw [mi_sI_s, va_up_ne _ _ (by omega), mi_sI_s, va_up_ne _ _ (by omega), mi_sI_s, va_up_ne _ _ (by omega), mi_sI_s, va_up_ne _ _ (by omega)]
  have ag : ∀ p r, x < p → AG M (sI (sI (sI (sI M x 11 a) x 12 b) x 13 c) x 14 d) p r := fun p r hp => ⟨rfl, rfl, fun z h1 h2 => ⟨mn z (by omega), rfl⟩⟩
  obtain ⟨c0, i, c1, c2, c3, c4, c5, c6, c7⟩ := cb
  refine ⟨c0.tr rfl rfl rfl, i, c1.ag c0.s i.1.1 (ag _ _ (by omega)), c2.ag c0.n i.2.2.2 (ms 7 (by decide)) (ag _ _ (by omega)), c3.ag c0.h i.2.1 i.2.2.1 (ag _ _ (by omega)), c4.ag (ag _ _ (by omega)), c5.ag (ag _ _ (by omega)), by rw [ms 8 (by decide)]; exact c6, ?_, ?_, ?_, ?_⟩
  · rw [mi_sI_s, va_up_ne _ _ (by decide), mi_sI_s, va_up_ne _ _ (by decide), mi_sI_s, va_up_ne _ _ (by decide), mi_sI_s, va_up_self]
    rfl
  · rw [mi_sI_s, va_up_ne _ _ (by decide), mi_sI_s, va_up_ne _ _ (by decide), mi_sI_s, va_up_self]
    rfl
  · rw [mi_sI_s, va_up_ne _ _ (by decide), mi_sI_s, va_up_self]
    rfl
  · rw [mi_sI_s, va_up_self]
    rfl
/-- the reason set aside changes nothing that is held -/
theorem CB.reason (cb : CB F M x B) (a b : Int32) : CB F (sI (sI M x 9 a) x 10 b) x B := by
  have mn : ∀ z, z ≠ x → mi (sI (sI M x 9 a) x 10 b) z = mi M z := fun z hz => by rw [mi_sI_n _ _ _ hz, mi_sI_n _ _ _ hz]
  have ms : ∀ z, z ≠ 9 → z ≠ 10 → mi (sI (sI M x 9 a) x 10 b) x z = mi M x z := fun z h1 h2 => by rw [mi_sI_s, va_up_ne _ _ h2, mi_sI_s, va_up_ne _ _ h1]
  have ag : ∀ p r, x < p → AG M (sI (sI M x 9 a) x 10 b) p r := fun p r hp => ⟨rfl, rfl, fun z h1 h2 => ⟨mn z (by omega), rfl⟩⟩
  obtain ⟨c0, i, c1, c2, c3, c4, c5, c6, c7⟩ := cb
  refine ⟨c0.tr rfl rfl rfl, i, c1.ag c0.s i.1.1 (ag _ _ (by omega)), c2.ag c0.n i.2.2.2 (ms 7 (by decide) (by decide)) (ag _ _ (by omega)), c3.ag c0.h i.2.1 i.2.2.1 (ag _ _ (by omega)), c4.ag (ag _ _ (by omega)), c5.ag (ag _ _ (by omega)), by rw [ms 8 (by decide) (by decide)]; exact c6, ?_⟩
  unfold C7
  rw [ms 11 (by decide) (by decide), ms 12 (by decide) (by decide), ms 13 (by decide) (by decide), ms 14 (by decide) (by decide)]
  exact c7
/-- behind a change of the state alone -/
theorem CB.done (cb : CB F M0 x B) (hF : F ≤ F') (hF2 : F' < 2 ^ 30) (r : FR M0 (x + 1) (x + 30) M) (o : SO M (x + 1)) {g' : Nat → Int32} (i' : GG2 F' g') (v : C1 M x g') : CB F' M x (g', (bc B, bH B), bs B, btx B, bl B, bf B, bd B) := by
  obtain ⟨c0, i, c1, c2, c3, c4, c5, c6, c7⟩ := cb
  have hx : mi M x = mi M0 x := r.i (by omega)
  have i2 := i.mono hF hF2
  refine ⟨c0.fs r o, ⟨i', i2.2⟩, v, c2.ag c0.n i.2.2.2 (by rw [hx]) (r.ag (by omega)), c3.ag c0.h i.2.1 i.2.2.1 (r.ag (by omega)), c4.ag (r.ag (by omega)), c5.ag (r.ag (by omega)), by rw [hx]; exact c6, ?_⟩
  unfold C7
  rw [hx]
  exact c7
theorem PRP.done (cb : CB F M0 x B) (p : PRP M0 x B) (r : FR M0 (x + 1) (x + 30) M) : PRP M x B := by
  obtain ⟨q, v⟩ := p
  have hp : hA M (x + 61) (bc B) = hA M0 (x + 61) (bc B) := by unfold hA; rw [r.r (by omega)]
  have c8 := cb.i.2.1
  have hb := cb.o.h.b (j := bc B) (by omega)
  exact ⟨q, by rw [hp]; exact v.fr (cb.o.h.s (by omega)) cb.i.1.1 r (by omega)⟩
theorem k_X8_conclude (cb : CB F M0 x B) (pr : PRP M0 x B) (hF : F ≤ F') (hF2 : F' < 2 ^ 30) (i' : co.1 = 0 → GG2 F' co.2.2.2) (htc : ∀ p, tc p = -1 ∨ tc p = -2 ∨ tc p = -3) (hq : QA M0 x co tc y M) : KK G IX8_conclude [.ref x, .int y] M (QCc F' M0 x B co tc) := by
  refine KK.ofW (by decide) (by simp [Value.category]) (Nat.le_of_ble_eq_true rfl) rfl ?_
  show WW _ _ _ 0 [_, _] [] _ _ _
  rcases hq with ⟨h0, rfl, hy, r, oS, v⟩ | ⟨h0, hd, rfl, rfl⟩ | ⟨h0, hd, rfl, rfl⟩
  · have cD := cb.done hF hF2 r oS (i' h0) v
    have pD := pr.done cb r
    have oD := cD.o
    have n1 : co.2.2.1 ≠ -1 := fun z => by rw [z] at hy; exact absurd hy (by decide)
    have n2 : co.2.2.1 ≠ -2 := fun z => by rw [z] at hy; exact absurd hy (by decide)
    have n3 : co.2.2.1 ≠ -3 := fun z => by rw [z] at hy; exact absurd hy (by decide)
    have n4 : co.2.2.1 ≠ -4 := fun z => by rw [z] at hy; exact absurd hy (by decide)
    have i0 := cb.i.mono hF hF2
    have hx : mi M x = mi M0 x := r.i (by omega)
    have c3D : C3 M x (bc B) (bH B) := cD.c3
    by_cases c8 : bc B < 8
    · have kp := k_X2_keepPreparedO (G := G) oD.h c3D.1 c8
      have ag : ∀ p r, (r < x + 61 ∨ x + 61 < p) → AG M (sI M (x + 61) 1 (nI (bc B + 1))) p r := fun p r hp => ⟨rfl, rfl, fun z h1 h2 => ⟨mi_sI_n _ _ _ (by omega), rfl⟩⟩
      refine r_iload_n (dk kX8_conclude 0 rfl) rfl ?_
      refine r_iconst (v := (-1)) (dk kX8_conclude 1 rfl) (by decide) ?_
      refine r_icmp_ne (tgt := 16) (dk kX8_conclude 2 rfl) (by decide) (fun c2 => ?_) (fun c2 => absurd n1 c2)
      refine r_iload_n (dk kX8_conclude 8 rfl) rfl ?_
      refine r_bipush (v := (-2)) (dk kX8_conclude 9 rfl) (by decide) ?_
      refine r_icmp_ne (tgt := 33) (dk kX8_conclude 10 rfl) (by decide) (fun c19 => ?_) (fun c19 => absurd n2 c19)
      refine r_iload_n (dk kX8_conclude 16 rfl) rfl ?_
      refine r_bipush (v := (-3)) (dk kX8_conclude 17 rfl) (by decide) ?_
      refine r_icmp_ne (tgt := 50) (dk kX8_conclude 18 rfl) (by decide) (fun c36 => ?_) (fun c36 => absurd n3 c36)
      refine r_iload_n (dk kX8_conclude 24 rfl) rfl ?_
      refine r_bipush (v := (-4)) (dk kX8_conclude 25 rfl) (by decide) ?_
      refine r_icmp_ne (tgt := 81) (dk kX8_conclude 26 rfl) (by decide) (fun c53 => ?_) (fun c53 => absurd n4 c53)
      refine r_aload_n (dk kX8_conclude 40 rfl) rfl ?_
      refine r_getR (dk kX8_conclude 41 rfl) fa_X8_22_7 oD.k rfl oD.r2 ?_
      refine r_callVu (I' := IX2_keepPrepared) (as := []) (dk kX8_conclude 42 rfl) mv_X2_keepPrepared ml_X8_282 rfl rfl oD.h.k rfl rfl (Nat.le_of_ble_eq_true rfl) ⟨by decide, by decide⟩ ⟨rfl, rfl⟩ ⟨Nat.le_of_ble_eq_true rfl, Nat.le_of_ble_eq_true rfl⟩ kp ?_
      refine r_iload_n (dk kX8_conclude 43 rfl) rfl ?_
      refine r_ireturn (dk kX8_conclude 44 rfl) rfl rfl ⟨Nat.le_of_ble_eq_true rfl, Nat.le_of_ble_eq_true rfl⟩ ⟨h0, rfl, ((r.fx (by omega) (by omega)).tr (FR.fx ((FR.rfl M x (x + 349)).sI _ _ (by omega)) (Nat.le_refl _) (Nat.le_refl _))), oD.tr rfl rfl rfl, BI.keep i0 (i' h0), cD.c1.ag oS (i' h0).1 (ag _ _ (by omega)), cD.c2.ag oD.n i0.2.2.2 (by rw [mi_sI_n _ _ _ (by omega)]) (ag _ _ (by omega)), C3_keepO oD.h i0 c3D pD c8, cD.c4.ag (ag _ _ (by omega)), cD.c5.ag (ag _ _ (by omega)), by rw [mi_sI_n _ _ _ (by omega)]; exact cD.c6, ?_⟩
      unfold C7
      rw [mi_sI_n _ _ _ (by omega)]
      exact cD.c7
    · have e8 : bc B = 8 := by have := cb.i.2.1; omega
      have h1 := c3D.1
      rw [e8] at h1
      have kp := k_X2_keepPreparedF (G := G) oD.h h1
      have ag : ∀ p r, (r < x + 62 ∨ x + 62 < p) → AG M (sQ M (x + 62) (fun j => mr M (x + 62) (wR j))) p r := fun p r hp => ⟨rfl, rfl, fun z h1 h2 => ⟨rfl, mr_sQ_n _ _ (by omega)⟩⟩
      obtain ⟨oH, cH⟩ := C3_keepF oD.h i0 c3D pD e8
      have oN : BO (sQ M (x + 62) (fun j => mr M (x + 62) (wR j))) x := by
        obtain ⟨a1, a2, a3, a4, a5, a6, a7, a8, a9, a10⟩ := oD
        exact ⟨a1, by rw [mr_sQ_n _ _ (show x ≠ x + 62 by omega)]; exact a2, a3.ag (ag _ _ (by omega)), a4.ag (ag _ _ (by omega)), oH, a6.to rfl rfl (mr_sQ_n _ _ (by omega)), a7.to rfl rfl (mr_sQ_n _ _ (by omega)), a8.to rfl rfl (mr_sQ_n _ _ (by omega)) (mr_sQ_n _ _ (by omega)), a9, a10⟩
      refine r_iload_n (dk kX8_conclude 0 rfl) rfl ?_
      refine r_iconst (v := (-1)) (dk kX8_conclude 1 rfl) (by decide) ?_
      refine r_icmp_ne (tgt := 16) (dk kX8_conclude 2 rfl) (by decide) (fun c2 => ?_) (fun c2 => absurd n1 c2)
      refine r_iload_n (dk kX8_conclude 8 rfl) rfl ?_
      refine r_bipush (v := (-2)) (dk kX8_conclude 9 rfl) (by decide) ?_
      refine r_icmp_ne (tgt := 33) (dk kX8_conclude 10 rfl) (by decide) (fun c19 => ?_) (fun c19 => absurd n2 c19)
      refine r_iload_n (dk kX8_conclude 16 rfl) rfl ?_
      refine r_bipush (v := (-3)) (dk kX8_conclude 17 rfl) (by decide) ?_
      refine r_icmp_ne (tgt := 50) (dk kX8_conclude 18 rfl) (by decide) (fun c36 => ?_) (fun c36 => absurd n3 c36)
      refine r_iload_n (dk kX8_conclude 24 rfl) rfl ?_
      refine r_bipush (v := (-4)) (dk kX8_conclude 25 rfl) (by decide) ?_
      refine r_icmp_ne (tgt := 81) (dk kX8_conclude 26 rfl) (by decide) (fun c53 => ?_) (fun c53 => absurd n4 c53)
      refine r_aload_n (dk kX8_conclude 40 rfl) rfl ?_
      refine r_getR (dk kX8_conclude 41 rfl) fa_X8_22_7 oD.k rfl oD.r2 ?_
      refine r_callVu (I' := IX2_keepPrepared) (as := []) (dk kX8_conclude 42 rfl) mv_X2_keepPrepared ml_X8_282 rfl rfl oD.h.k rfl rfl (Nat.le_of_ble_eq_true rfl) ⟨by decide, by decide⟩ ⟨rfl, rfl⟩ ⟨Nat.le_of_ble_eq_true rfl, Nat.le_of_ble_eq_true rfl⟩ kp ?_
      refine r_iload_n (dk kX8_conclude 43 rfl) rfl ?_
      refine r_ireturn (dk kX8_conclude 44 rfl) rfl rfl ⟨Nat.le_of_ble_eq_true rfl, Nat.le_of_ble_eq_true rfl⟩ ⟨h0, rfl, ((r.fx (by omega) (by omega)).tr (FR.fx ((FR.rfl M x (x + 349)).sQ _ (by omega)) (Nat.le_refl _) (Nat.le_refl _))), oN, BI.keep i0 (i' h0), cD.c1.ag oS (i' h0).1 (ag _ _ (by omega)), cD.c2.ag oD.n i0.2.2.2 rfl (ag _ _ (by omega)), cH, cD.c4.ag (ag _ _ (by omega)), cD.c5.ag (ag _ _ (by omega)), cD.c6, cD.c7⟩
  · have cb' := cb.mono hF hF2
    have go : ∀ E z, E = xnm (tc co.1) → (QCc F' M x B co tc).2 E (sX M z) := fun E z e => ⟨h0, FX.rfl _ _ _, Or.inl ⟨hd, e, cb'.sx z⟩⟩
    rcases htc co.1 with e | e | e
    · rw [e] at go ⊢
      refine r_iload_n (dk kX8_conclude 0 rfl) rfl ?_
      refine r_iconst (v := (-1)) (dk kX8_conclude 1 rfl) (by decide) ?_
      refine r_icmp_ne (tgt := 16) (dk kX8_conclude 2 rfl) (by decide) (fun c2 => absurd c2 (fun z => z rfl)) (fun c2 => ?_)
      -- at 5
      refine r_throwSW xw_73 (is := 398) (List.mem_of_getElem? (i := 13) rfl) rfl rfl (dk kX8_conclude 3 rfl) (dk kX8_conclude 4 rfl) (dk kX8_conclude 5 rfl) (dk kX8_conclude 6 rfl) (dk kX8_conclude 7 rfl) ⟨Nat.le_of_ble_eq_true rfl, Nat.le_of_ble_eq_true rfl⟩ ⟨Nat.le_of_ble_eq_true rfl, Nat.le_of_ble_eq_true rfl⟩ (fun z => ?_)
      exact go _ _ rfl
    · rw [e] at go ⊢
      refine r_iload_n (dk kX8_conclude 0 rfl) rfl ?_
      refine r_iconst (v := (-1)) (dk kX8_conclude 1 rfl) (by decide) ?_
      refine r_icmp_ne (tgt := 16) (dk kX8_conclude 2 rfl) (by decide) (fun c2 => ?_) (fun c2 => absurd (by decide) c2)
      refine r_iload_n (dk kX8_conclude 8 rfl) rfl ?_
      refine r_bipush (v := (-2)) (dk kX8_conclude 9 rfl) (by decide) ?_
      refine r_icmp_ne (tgt := 33) (dk kX8_conclude 10 rfl) (by decide) (fun c19 => absurd c19 (fun z => z rfl)) (fun c19 => ?_)
      -- at 22
      refine r_throwSW xw_265 (is := 400) (List.mem_of_getElem? (i := 14) rfl) rfl rfl (dk kX8_conclude 11 rfl) (dk kX8_conclude 12 rfl) (dk kX8_conclude 13 rfl) (dk kX8_conclude 14 rfl) (dk kX8_conclude 15 rfl) ⟨Nat.le_of_ble_eq_true rfl, Nat.le_of_ble_eq_true rfl⟩ ⟨Nat.le_of_ble_eq_true rfl, Nat.le_of_ble_eq_true rfl⟩ (fun z => ?_)
      exact go _ _ rfl
    · rw [e] at go ⊢
      refine r_iload_n (dk kX8_conclude 0 rfl) rfl ?_
      refine r_iconst (v := (-1)) (dk kX8_conclude 1 rfl) (by decide) ?_
      refine r_icmp_ne (tgt := 16) (dk kX8_conclude 2 rfl) (by decide) (fun c2 => ?_) (fun c2 => absurd (by decide) c2)
      refine r_iload_n (dk kX8_conclude 8 rfl) rfl ?_
      refine r_bipush (v := (-2)) (dk kX8_conclude 9 rfl) (by decide) ?_
      refine r_icmp_ne (tgt := 33) (dk kX8_conclude 10 rfl) (by decide) (fun c19 => ?_) (fun c19 => absurd (by decide) c19)
      refine r_iload_n (dk kX8_conclude 16 rfl) rfl ?_
      refine r_bipush (v := (-3)) (dk kX8_conclude 17 rfl) (by decide) ?_
      refine r_icmp_ne (tgt := 50) (dk kX8_conclude 18 rfl) (by decide) (fun c36 => absurd c36 (fun z => z rfl)) (fun c36 => ?_)
      -- at 39
      refine r_throwNW (is := 402) (List.mem_of_getElem? (i := 15) rfl) rfl rfl (dk kX8_conclude 19 rfl) (dk kX8_conclude 20 rfl) (dk kX8_conclude 21 rfl) (dk kX8_conclude 22 rfl) (dk kX8_conclude 23 rfl) ⟨Nat.le_of_ble_eq_true rfl, Nat.le_of_ble_eq_true rfl⟩ ⟨Nat.le_of_ble_eq_true rfl, Nat.le_of_ble_eq_true rfl⟩ (fun z => ?_)
      exact go _ _ rfl
  · have cb' := (cb.mono hF hF2).reason co.2.1.1 co.2.1.2
    have oR := cb'.o
    refine r_iload_n (dk kX8_conclude 0 rfl) rfl ?_
    refine r_iconst (v := (-1)) (dk kX8_conclude 1 rfl) (by decide) ?_
    refine r_icmp_ne (tgt := 16) (dk kX8_conclude 2 rfl) (by decide) (fun c2 => ?_) (fun c2 => absurd (by decide) c2)
    refine r_iload_n (dk kX8_conclude 8 rfl) rfl ?_
    refine r_bipush (v := (-2)) (dk kX8_conclude 9 rfl) (by decide) ?_
    refine r_icmp_ne (tgt := 33) (dk kX8_conclude 10 rfl) (by decide) (fun c19 => ?_) (fun c19 => absurd (by decide) c19)
    refine r_iload_n (dk kX8_conclude 16 rfl) rfl ?_
    refine r_bipush (v := (-3)) (dk kX8_conclude 17 rfl) (by decide) ?_
    refine r_icmp_ne (tgt := 50) (dk kX8_conclude 18 rfl) (by decide) (fun c36 => ?_) (fun c36 => absurd (by decide) c36)
    refine r_iload_n (dk kX8_conclude 24 rfl) rfl ?_
    refine r_bipush (v := (-4)) (dk kX8_conclude 25 rfl) (by decide) ?_
    refine r_icmp_ne (tgt := 81) (dk kX8_conclude 26 rfl) (by decide) (fun c53 => absurd c53 (fun z => z rfl)) (fun c53 => ?_)
    refine r_aload_n (dk kX8_conclude 27 rfl) rfl ?_
    refine r_aload_n (dk kX8_conclude 28 rfl) rfl ?_
    refine r_geti (dk kX8_conclude 29 rfl) fa_X8_392_7 oR.k rfl ?_
    -- at 61
    rw [mi_sI_s, va_up_ne _ _ (by decide), mi_sI_s, va_up_self]
    refine r_aload_n (dk kX8_conclude 30 rfl) rfl ?_
    refine r_geti (dk kX8_conclude 31 rfl) fa_X8_395_7 oR.k rfl ?_
    -- at 65
    rw [mi_sI_s, va_up_self]
    refine r_iconst (v := 0) (dk kX8_conclude 32 rfl) (by decide) ?_
    refine r_iconst (v := 0) (dk kX8_conclude 33 rfl) (by decide) ?_
    refine r_callVu (I' := IX8_keepDenial) (as := [_, _, _, _]) (dk kX8_conclude 34 rfl) mv_X8_keepDenial ml_X8_404 rfl rfl oR.k rfl rfl (Nat.le_of_ble_eq_true rfl) ⟨by decide, by decide⟩ ⟨rfl, rfl⟩ ⟨Nat.le_of_ble_eq_true rfl, Nat.le_of_ble_eq_true rfl⟩ (k_X8_keepDenial oR _ _ _ _) ?_
    -- at 70
    refine r_throwSW xw_277 (is := 408) (List.mem_of_getElem? (i := 16) rfl) rfl rfl (dk kX8_conclude 35 rfl) (dk kX8_conclude 36 rfl) (dk kX8_conclude 37 rfl) (dk kX8_conclude 38 rfl) (dk kX8_conclude 39 rfl) ⟨Nat.le_of_ble_eq_true rfl, Nat.le_of_ble_eq_true rfl⟩ ⟨Nat.le_of_ble_eq_true rfl, Nat.le_of_ble_eq_true rfl⟩ (fun z => ?_)
    refine ⟨h0, ?_, Or.inr ⟨hd, rfl, (cb'.deny _ _ _ _).sx z⟩⟩
    exact FX.x (FR.fx (((((((FR.rfl M0 x (x + 349)).sI _ _ (by omega)).sI _ _ (by omega)).sI _ _ (by omega)).sI _ _ (by omega)).sI _ _ (by omega)).sI _ _ (by omega)) (Nat.le_refl _) (Nat.le_refl _)) z
end CLASS
