/-! THE CLASS: a ruling -/
section CLASS
variable {G : GG} {M : Mm} {s F : Nat} {g : Nat → Int32} {q : Nat → Nat}
theorem k_X6_rule (o : SO M s) (v : SV M s g q) (i : GI F g) (h0 : 0 < gn g 3) (h16 : gn g 5 ≠ 16) : KK G IX6_rule [.ref s, .ref (pA M s 0)] M (qi (fun y M' => y = nI (gn g 5) ∧ FR M s (s + 29) M' ∧ SO M' s ∧ ∃ q', SV M' s (gDecide g (q 0)) q') nox) := by
  have n8 := i.p.2
  have n17 := i.r.2
  have n11 := i.s.2
  have n7 := i.o.2
  have hp := v.o.1 0 h0
  have i' := GI_decide i hp h16
  have dd := GDe_decide i hp
  have hdep := gDepth_new i hp dd i'
  generalize hg' : gDecide g (q 0) = g' at *
  have ka := o.ka (j := 0) (by omega)
  have kR := o.kr (j := gn g 5) (by omega)
  have pb := o.pb (j := 0) (by omega)
  have pf := v.p h0
  obtain ⟨-, -, ⟨z2, z2'⟩, ⟨z3, z3'⟩, -, -, -, ⟨z7, z7'⟩, -⟩ := i.pi hp
  obtain ⟨pf0, pf1, pf2, pf3, pf4, pf5, pf6, pf7, pf8, pf9⟩ := pf
  generalize hq0 : q 0 = p at *
  generalize hA : pA M s 0 = A at *
  refine KK.ofW (by decide) (by simp [Value.category]) (Nat.le_of_ble_eq_true rfl) rfl ?_
  show WW _ _ _ 0 [_, _, lj] [] _ _ _
  first | refine r_aload_n (dk kX6_rule 0 rfl) rfl ?_ | refine r_aload_nN (dk kX6_rule 0 rfl) rfl ?_
  refine r_getR (dk kX6_rule 1 rfl) fa_X6_29_5 o.k rfl o.r4 ?_
  first | refine r_aload_n (dk kX6_rule 2 rfl) rfl ?_ | refine r_aload_nN (dk kX6_rule 2 rfl) rfl ?_
  refine r_geti (dk kX6_rule 3 rfl) fa_X6_52_5 o.k rfl ?_
  -- at 8
  rw [v.c5 i]
  refine r_aal (dk kX6_rule 4 rfl) o.k5 (by decide) o.l5 rfl (show gn g 5 < 16 by omega) (by decide) (o.rr (by omega)) ?_
  refine r_astore_n (j := 2) (dk kX6_rule 5 rfl) rfl (by decide) rfl ?_
  simp only [List.set_cons_succ, List.set_cons_zero]
  first | refine r_aload_n (dk kX6_rule 6 rfl) rfl ?_ | refine r_aload_nN (dk kX6_rule 6 rfl) rfl ?_
  first | refine r_aload_n (dk kX6_rule 7 rfl) rfl ?_ | refine r_aload_nN (dk kX6_rule 7 rfl) rfl ?_
  refine r_callUu (I' := IX0_copyCited) (as := [_]) (dk kX6_rule 8 rfl) mu_X6_126_4 rfl rfl kR rfl rfl (Nat.le_of_ble_eq_true rfl) ⟨by decide, by decide⟩ ⟨rfl, rfl⟩ ⟨Nat.le_of_ble_eq_true rfl, Nat.le_of_ble_eq_true rfl⟩ (k_X0_copyCitedRP kR ka (by omega)) ?_
  -- at 15
  -- the new ruling's ints from here on: f
  suffices key : ∀ f : Nat → Int32, f 0 = g (35 + 11 * p + 7) → (∀ c, c < gn g (35 + 11 * p + 7) → f (1 + c) = g (35 + 11 * p + 8 + c)) → WW G IX6_rule (qi (fun y M' => y = nI (gn g 5) ∧ FR M s (s + 29) M' ∧ SO M' s ∧ ∃ q', SV M' s g' q') nox) 15 [.ref s, .ref A, .ref (s + 14 + gn g 5)] [] (sA M (s + 14 + gn g 5) f) 0 0 by
    refine key _ ?_ fun c hc => ?_
    · show (if 0 < 4 then mi M A 0 else _) = _
      rw [if_pos (by decide)]
      exact pf8
    · show (if 1 + c < 4 then mi M A (1 + c) else _) = _
      rw [if_pos (by omega)]
      exact pf9 c hc
  intro f f0 fc
  have oT : ∀ f, SO (sA M (s + 14 + gn g 5) f) s := fun f => o.tr rfl rfl rfl
  have vT : ∀ f, SV (sA M (s + 14 + gn g 5) f) s g q := fun f => v.to o i (fun c h1 h2 => mi_sA_n _ _ (by omega)) rfl
  have pT : ∀ f, pA (sA M (s + 14 + gn g 5) f) s 0 = A := fun f => hA
  have hlv := k_X6_levelAbove (G := G) (oT f) (vT f) i h0
  rw [hq0, pT] at hlv
  first | refine r_aload_n (dk kX6_rule 9 rfl) rfl ?_ | refine r_aload_nN (dk kX6_rule 9 rfl) rfl ?_
  first | refine r_aload_n (dk kX6_rule 10 rfl) rfl ?_ | refine r_aload_nN (dk kX6_rule 10 rfl) rfl ?_
  first | refine r_aload_n (dk kX6_rule 11 rfl) rfl ?_ | refine r_aload_nN (dk kX6_rule 11 rfl) rfl ?_
  refine r_callVp (I' := IX6_levelAbove) (as := [_]) (dk kX6_rule 12 rfl) mv_X6_levelAbove ml_X6_130 rfl rfl o.k rfl rfl (Nat.le_of_ble_eq_true rfl) ⟨by decide, by decide⟩ ⟨rfl, rfl⟩ ⟨Nat.le_of_ble_eq_true rfl, Nat.le_of_ble_eq_true rfl⟩ hlv ?_
  refine r_puti (dk kX6_rule 13 rfl) fa_X6_134_4 kR rfl rfl rfl rfl ?_
  -- at 24
  rw [sI_sA]
  have hwn := k_X6_isWon (G := G) (oT (va_up f 6 (nI (gLv g p (gn g (35 + 11 * p + 7)))))) (vT _) i h0
  rw [hq0, pT] at hwn
  first | refine r_aload_n (dk kX6_rule 14 rfl) rfl ?_ | refine r_aload_nN (dk kX6_rule 14 rfl) rfl ?_
  first | refine r_aload_n (dk kX6_rule 15 rfl) rfl ?_ | refine r_aload_nN (dk kX6_rule 15 rfl) rfl ?_
  first | refine r_aload_n (dk kX6_rule 16 rfl) rfl ?_ | refine r_aload_nN (dk kX6_rule 16 rfl) rfl ?_
  refine r_callVp (I' := IX6_isWon) (as := [_]) (dk kX6_rule 17 rfl) mv_X6_isWon ml_X6_137 rfl rfl o.k rfl rfl (Nat.le_of_ble_eq_true rfl) ⟨by decide, by decide⟩ ⟨rfl, rfl⟩ ⟨Nat.le_of_ble_eq_true rfl, Nat.le_of_ble_eq_true rfl⟩ hwn ?_
  refine r_puti (dk kX6_rule 18 rfl) fa_X6_122_4 kR rfl rfl (nbI _) (fbI _) ?_
  -- at 33
  rw [sI_sA]
  first | refine r_aload_n (dk kX6_rule 19 rfl) rfl ?_ | refine r_aload_nN (dk kX6_rule 19 rfl) rfl ?_
  first | refine r_aload_n (dk kX6_rule 20 rfl) rfl ?_ | refine r_aload_nN (dk kX6_rule 20 rfl) rfl ?_
  refine r_geti (dk kX6_rule 21 rfl) fa_X6_122_4 kR rfl ?_
  -- at 38
  rw [mi_sA_s, va_up_self]
  -- behind the moving
  have fin : ∀ (N : Mm), kd N = kd M → ln N = ln M → mr N = mr M → FR M s (s + 29) N → (∀ c, c ≠ s → c ≠ s + 1 → c ≠ s + 14 + gn g 5 → mi N c = mi M c) → (∀ c, c ≠ 13 → mi N s c = mi M s c) → mi N s 13 = g' 8 → (∀ k, k < gn g 0 → mi N (s + 1) k = g' (9 + 2 * k)) → RF (mi N (s + 14 + gn g 5)) g' (gn g 5) → WW G IX6_rule (qi (fun y M' => y = nI (gn g 5) ∧ FR M s (s + 29) M' ∧ SO M' s ∧ ∃ q', SV M' s g' q') nox) 80 [.ref s, .ref A, .ref (s + 14 + gn g 5)] [] N 0 0 := by
    intro N k1 k2 k3 rN mo ms m8 mc mR
    have oN : SO N s := o.tr k1 k2 k3
    have pN : ∀ j, pA N s j = pA M s j := fun j => by unfold pA; rw [k3]
    have h7 : mi N s 7 = nI (gn g 3) := by rw [ms 7 (by decide)]; exact v.c3 i
    have hdq := k_X6_dequeue (G := G) oN h7 n8 h0
    rw [pN, hA] at hdq
    first | refine r_aload_n (dk kX6_rule 42 rfl) rfl ?_ | refine r_aload_nN (dk kX6_rule 42 rfl) rfl ?_
    first | refine r_aload_n (dk kX6_rule 43 rfl) rfl ?_ | refine r_aload_nN (dk kX6_rule 43 rfl) rfl ?_
    refine r_callVu (I' := IX6_dequeue) (as := [_]) (dk kX6_rule 44 rfl) mv_X6_dequeue ml_X6_150 rfl rfl oN.k rfl rfl (Nat.le_of_ble_eq_true rfl) ⟨by decide, by decide⟩ ⟨rfl, rfl⟩ ⟨Nat.le_of_ble_eq_true rfl, Nat.le_of_ble_eq_true rfl⟩ hdq ?_
    -- at 85
    obtain ⟨oZ, pZ⟩ := oN.pm (M' := sQ N (s + 4) (fun j => mr N (s + 4) (wD 0 (gn g 3) j))) rfl rfl (mr_sQ_n _ _ (by omega)) (mr_sQ_n _ _ (by omega)) (w := wD 0 (gn g 3)) (fun j _ => by rw [mr_sQ_s]) (fun j hj => wD_lt h0 (by omega) hj) (fun x y hxy _ => wD_inj h0 x y hxy)
    have rZ : FR M s (s + 29) (sQ N (s + 4) (fun j => mr N (s + 4) (wD 0 (gn g 3) j))) := rN.sQ _ (by omega)
    have miZ : mi (sQ N (s + 4) (fun j => mr N (s + 4) (wD 0 (gn g 3) j))) = mi N := rfl
    generalize sQ N (s + 4) (fun j => mr N (s + 4) (wD 0 (gn g 3) j)) = Z at *
    first | refine r_aload_n (dk kX6_rule 45 rfl) rfl ?_ | refine r_aload_nN (dk kX6_rule 45 rfl) rfl ?_
    refine r_dup (dk kX6_rule 46 rfl) rfl ?_
    refine r_geti (dk kX6_rule 47 rfl) fa_X6_52_5 oZ.k rfl ?_
    -- at 90
    rw [mi_sI_s, va_up_ne _ _ (by decide), miZ, ms 8 (by decide), v.c5 i]
    refine r_iconst (v := 1) (dk kX6_rule 48 rfl) (by decide) ?_
    refine r_iadd (dk kX6_rule 49 rfl) ?_
    -- at 92
    rw [nI_1]
    refine r_puti (dk kX6_rule 50 rfl) fa_X6_52_5 oZ.k rfl rfl rfl rfl ?_
    first | refine r_aload_n (dk kX6_rule 51 rfl) rfl ?_ | refine r_aload_nN (dk kX6_rule 51 rfl) rfl ?_
    refine r_geti (dk kX6_rule 52 rfl) fa_X6_52_5 oZ.k rfl ?_
    -- at 99
    rw [mi_sI_s, va_up_self]
    refine r_iconst (v := 1) (dk kX6_rule 53 rfl) (by decide) ?_
    refine r_isub (dk kX6_rule 54 rfl) ?_
    -- at 101
    rw [nI_pred]
    obtain ⟨d0, d1, d2, d3, d4, d5, d6, d7, d8, ds, dr, dp, dn1, dn2, dnw, dol⟩ := dd
    have hs0 : ∀ z, z ≠ 7 → z ≠ 8 → z ≠ 13 → mi (sI (sI Z s 7 (nI (gn g 3 - 1))) s 8 (nI (gn g 5 + 1))) s z = mi M s z := fun z h1 h2 h3 => by rw [mi_sI_s, va_up_ne _ _ h2, mi_sI_s, va_up_ne _ _ h1, miZ, ms z h3]
    have hsi : ∀ z, z ≠ s → mi (sI (sI Z s 7 (nI (gn g 3 - 1))) s 8 (nI (gn g 5 + 1))) z = mi N z := fun z hz => by rw [mi_sI_n _ _ _ hz, mi_sI_n _ _ _ hz, miZ]
    have hD : GDr g (q 0) g' := ⟨d3, fun k hk => dr k (by omega), fun x h1 h2 => by rw [hq0]; exact dp x h1 h2⟩
    refine r_ireturn (dk kX6_rule 55 rfl) rfl rfl ⟨Nat.le_of_ble_eq_true rfl, Nat.le_of_ble_eq_true rfl⟩ ⟨rfl, (rZ.sI _ _ (by omega)).sI _ _ (by omega), oZ.tr rfl rfl rfl, _, ⟨?_, ?_, ?_, ?_, ?_, ?_, ?_, ?_, ?_⟩, ?_, ?_, QO_drop i v.o h0 hD, ?_, ?_⟩
    · rw [hs0 5 (by decide) (by decide) (by decide), d0]; exact v.1.1
    · rw [hs0 6 (by decide) (by decide) (by decide), d1]; exact v.1.2.1
    · rw [mi_sI_s, va_up_ne _ _ (by decide), mi_sI_s, va_up_self, d3]
    · rw [mi_sI_s, va_up_self, d5]
    · rw [hs0 9 (by decide) (by decide) (by decide), d2]; exact v.1.2.2.2.2.1
    · rw [hs0 10 (by decide) (by decide) (by decide), d4]; exact v.1.2.2.2.2.2.1
    · rw [hs0 11 (by decide) (by decide) (by decide), d6]; exact v.c6
    · rw [hs0 12 (by decide) (by decide) (by decide), d7]; exact v.c7
    · rw [mi_sI_s, va_up_ne _ _ (by decide), mi_sI_s, va_up_ne _ _ (by decide), miZ, m8]
    · intro k hk
      rw [gn_eq d0] at hk
      rw [hsi _ (by omega), hsi _ (by omega)]
      refine ⟨mc k hk, ?_⟩
      rw [mo _ (by omega) (by omega) (by omega), (ds k (by omega)).2]
      exact v.weight hk
    · intro k hk
      rw [gn_eq d1] at hk
      rw [hsi _ (by omega), mo _ (by omega) (by omega) (by omega), dr k (by omega)]
      exact v.rank hk
    · intro j hj
      rw [hD.n n8] at hj
      have hpj : pA (sI (sI Z s 7 (nI (gn g 3 - 1))) s 8 (nI (gn g 5 + 1))) s j = pA N s (wD 0 (gn g 3) j) := pZ j (by omega)
      have hw := wD_lt h0 (by omega) (show j < 8 by omega)
      have hwb := o.pb hw
      have hw2 : wD 0 (gn g 3) j < gn g 3 := by
        unfold wD
        rw [if_neg (Nat.not_lt_zero j), if_pos (by omega)]
        omega
      rw [hpj, pN, hsi _ (by omega), mo _ (by omega) (by omega) (by omega)]
      exact (PF_drop i v.o h0 hD hj (v.p hw2)).2
    · intro r hr
      rw [gn_v d5 (by omega)] at hr
      rw [hsi _ (by omega)]
      by_cases e : r = gn g 5
      · rw [e]; exact mR
      · rw [mo _ (by omega) (by omega) (by omega)]
        exact (v.r (by omega)).to (fun w hw => dol _ (by omega) (by omega)) (i.ri (by omega)).2.2.1.2 (gDepth_cong fun z hz => ⟨(i.ri (show z < gn g 5 by omega)).2.2.1.2, fun w hw => dol _ (by omega) (by omega)⟩)
  obtain ⟨d0, d1, d2, d3, d4, d5, d6, d7, d8, ds, dr, dp, dn1, dn2, dnw, dol⟩ := dd
  have hRF : ∀ w, w = bI (gMoved g p = true) → RF (va_up (va_up (va_up f 6 (nI (gLv g p (gn g (35 + 11 * p + 7))))) 4 (bI (gWins g p = true))) 5 w) g' (gn g 5) := by
    intro w hw
    have e2 : g' (123 + 6 * gn g 5 + 2) = g (35 + 11 * p + 7) := dnw 0 (by decide)
    refine ⟨?_, ?_, ?_, ?_, fun c hc => ?_⟩
    · rw [dn1]; rfl
    · rw [dn2]; exact hw
    · rw [hdep]; rfl
    · rw [e2]; exact f0
    · rw [gn_eq e2] at hc
      have := dnw (1 + c) (by omega)
      rw [← Nat.add_assoc, ← Nat.add_assoc] at this
      rw [this]
      show va_up (va_up (va_up f 6 _) 4 _) 5 _ (1 + c) = _
      rw [va_up_ne _ _ (by omega), va_up_ne _ _ (by omega), va_up_ne _ _ (by omega)]
      exact fc c hc
  -- carried out or not
  have car : ∀ w : Int32, w = bI (gMoved g p = true) → WW G IX6_rule (qi (fun y M' => y = nI (gn g 5) ∧ FR M s (s + 29) M' ∧ SO M' s ∧ ∃ q', SV M' s g' q') nox) 58 [.ref s, .ref A, .ref (s + 14 + gn g 5)] [.int w, .ref (s + 14 + gn g 5)] (sA M (s + 14 + gn g 5) (va_up (va_up f 6 (nI (gLv g p (gn g (35 + 11 * p + 7))))) 4 (bI (gWins g p = true)))) 0 0 := by
    intro w hw
    have hR := hRF w hw
    refine r_puti (dk kX6_rule 32 rfl) fa_X6_143_4 kR rfl rfl (by rw [hw]; exact nbI _) (by rw [hw]; exact fbI _) ?_
    -- at 61
    rw [sI_sA]
    first | refine r_aload_n (dk kX6_rule 33 rfl) rfl ?_ | refine r_aload_nN (dk kX6_rule 33 rfl) rfl ?_
    refine r_geti (dk kX6_rule 34 rfl) fa_X6_143_4 kR rfl ?_
    -- at 65
    rw [mi_sA_s, va_up_self]
    generalize (va_up (va_up (va_up f 6 (nI (gLv g p (gn g (35 + 11 * p + 7))))) 4 (bI (gWins g p = true))) 5 w) = fR at *
    by_cases hm : gMoved g p = true
    · rw [bI_t hm] at hw
      have miA : mi (sA M (s + 14 + gn g 5) fR) A = mi M A := mi_sA_n _ _ (by omega)
      have miS : mi (sA M (s + 14 + gn g 5) fR) s = mi M s := mi_sA_n _ _ (by omega)
      have mi1 : mi (sA M (s + 14 + gn g 5) fR) (s + 1) = mi M (s + 1) := mi_sA_n _ _ (by omega)
      have mi2 : mi (sA M (s + 14 + gn g 5) fR) (s + 2) = mi M (s + 2) := mi_sA_n _ _ (by omega)
      refine r_if_eq (tgt := 80) (dk kX6_rule 35 rfl) (by decide) (fun c65 => absurd c65 (by rw [hw]; decide)) (fun c65 => ?_)
      first | refine r_aload_n (dk kX6_rule 36 rfl) rfl ?_ | refine r_aload_nN (dk kX6_rule 36 rfl) rfl ?_
      first | refine r_aload_n (dk kX6_rule 37 rfl) rfl ?_ | refine r_aload_nN (dk kX6_rule 37 rfl) rfl ?_
      refine r_geti (dk kX6_rule 38 rfl) fa_X6_79_3 ka rfl ?_
      -- at 73
      rw [miA, pf3, z2]
      first | refine r_aload_n (dk kX6_rule 39 rfl) rfl ?_ | refine r_aload_nN (dk kX6_rule 39 rfl) rfl ?_
      refine r_geti (dk kX6_rule 40 rfl) fa_X6_88_3 ka rfl ?_
      -- at 77
      rw [miA, pf4]
      refine r_callVu (I' := IX6_moveStone) (as := [_, _]) (dk kX6_rule 41 rfl) mv_X6_moveStone ml_X6_146 rfl rfl o.k rfl rfl (Nat.le_of_ble_eq_true rfl) ⟨by decide, by decide⟩ ⟨rfl, rfl⟩ ⟨Nat.le_of_ble_eq_true rfl, Nat.le_of_ble_eq_true rfl⟩ (k_X6_moveStone (oT fR) (n := gn g 0) (by rw [miS]; exact v.c0 i) n11 z2' _) ?_
      -- at 80
      rw [miS, mi2, v.c8, v.weight z2']
      rw [if_pos hm] at d8
      refine fin _ rfl rfl rfl ((((FR.rfl M s (s + 29)).sA _ (by omega)).sI _ _ (by omega)).sI _ _ (by omega)) (fun c h1 h2 h3 => ?_) (fun c h1 => ?_) ?_ (fun k hk => ?_) ?_
      · rw [mi_sI_n _ _ _ h1, mi_sI_n _ _ _ h2, mi_sA_n _ _ h3]
      · rw [mi_sI_s, va_up_ne _ _ h1, mi_sI_n _ _ _ (by omega), miS]
      · rw [mi_sI_s, va_up_self, d8]
      · rw [mi_sI_n _ _ _ (by omega), mi_sI_s, (ds k (by omega)).1]
        by_cases e : k = gn g (35 + 11 * p + 2)
        · rw [e, va_up_self, if_pos ⟨hm, rfl⟩]
        · rw [va_up_ne _ _ e, if_neg (fun z => e z.2), mi1]
          exact v.cell hk
      · rw [mi_sI_n _ _ _ (by omega), mi_sI_n _ _ _ (by omega), mi_sA_s]
        exact hR
    · rw [bI_f hm] at hw
      rw [if_neg hm] at d8
      refine r_if_eq (tgt := 80) (dk kX6_rule 35 rfl) (by decide) (fun c65 => ?_) (fun c65 => absurd hw c65)
      -- at 80
      refine fin _ rfl rfl rfl ((FR.rfl M s (s + 29)).sA _ (by omega)) (fun c h1 h2 h3 => ?_) (fun c h1 => ?_) ?_ (fun k hk => ?_) ?_
      · rw [mi_sA_n _ _ h3]
      · rw [mi_sA_n _ _ (by omega)]
      · rw [mi_sA_n _ _ (by omega), d8]
        exact v.c8
      · rw [mi_sA_n _ _ (by omega), (ds k (by omega)).1, if_neg (fun z => hm z.1)]
        exact v.cell hk
      · rw [mi_sA_s]
        exact hR
  by_cases hwin : gWins g p = true
  · have hfs := k_X6_findStoneIn (G := G) (oT (va_up (va_up f 6 (nI (gLv g p (gn g (35 + 11 * p + 7))))) 4 (bI (gWins g p = true)))) (vT _) i (g (35 + 11 * p + 3))
    refine r_if_eq (tgt := 57) (dk kX6_rule 22 rfl) (by decide) (fun c38 => absurd c38 (by rw [bI_t hwin]; decide)) (fun c38 => ?_)
    first | refine r_aload_n (dk kX6_rule 23 rfl) rfl ?_ | refine r_aload_nN (dk kX6_rule 23 rfl) rfl ?_
    first | refine r_aload_n (dk kX6_rule 24 rfl) rfl ?_ | refine r_aload_nN (dk kX6_rule 24 rfl) rfl ?_
    refine r_geti (dk kX6_rule 25 rfl) fa_X6_88_3 ka rfl ?_
    -- at 46
    rw [mi_sA_n _ _ (show A ≠ s + 14 + gn g 5 by omega), pf4]
    refine r_callVp (I' := IX6_findStoneIn) (as := [_]) (dk kX6_rule 26 rfl) mv_X6_findStoneIn ml_X6_140 rfl rfl o.k rfl rfl (Nat.le_of_ble_eq_true rfl) ⟨by decide, by decide⟩ ⟨rfl, rfl⟩ ⟨Nat.le_of_ble_eq_true rfl, Nat.le_of_ble_eq_true rfl⟩ hfs ?_
    refine r_iconst (v := (-1)) (dk kX6_rule 27 rfl) (by decide) ?_
    -- at 50
    cases hw : gWithin g (g (35 + 11 * p + 3)) with
    | none =>
      have hm : gMoved g p = true := by unfold gMoved; rw [hwin, hw]; rfl
      refine r_icmp_ne (tgt := 57) (dk kX6_rule 28 rfl) (by decide) (fun c50 => absurd c50 (fun z => z rfl)) (fun c50 => ?_)
      refine r_iconst (v := 1) (dk kX6_rule 29 rfl) (by decide) ?_
      refine r_goto (tgt := 58) (dk kX6_rule 30 rfl) (by decide) ?_
      -- at 58
      exact car 1 (bI_t hm).symm
    | some k =>
      have hm : ¬ gMoved g p = true := by unfold gMoved; rw [hwin, hw]; exact fun z => by cases z
      have hk := fx_lt hw
      have hne : nI k ≠ -1 := fun z => by
        have h1 := nI_pos (n := k) (by omega)
        rw [z] at h1
        exact h1 (by decide)
      refine r_icmp_ne (tgt := 57) (dk kX6_rule 28 rfl) (by decide) (fun c50 => ?_) (fun c50 => absurd hne c50)
      refine r_iconst (v := 0) (dk kX6_rule 31 rfl) (by decide) ?_
      -- at 58
      exact car 0 (bI_f hm).symm
  · have hm : ¬ gMoved g p = true := by unfold gMoved; rw [Bool.not_eq_true] at hwin; rw [hwin]; exact fun z => by cases z
    refine r_if_eq (tgt := 57) (dk kX6_rule 22 rfl) (by decide) (fun c38 => ?_) (fun c38 => absurd (by rw [bI_f hwin]) c38)
    refine r_iconst (v := 0) (dk kX6_rule 31 rfl) (by decide) ?_
    -- at 58
    exact car 0 (bI_f hm).symm
end CLASS
