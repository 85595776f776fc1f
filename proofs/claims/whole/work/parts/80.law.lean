/-! CONSTRUCTORS: the reference -/
section MODEL
variable {G : GG} {M M0 N : Mm} {h : Nat}
def r9 (h : Nat) : Nat → Option Nat := (va_up (va_up (va_up (va_up (va_up (va_up (va_up (va_up (fun _ => none) 0 (some (h + 1))) 1 (some (h + 2))) 2 (some (h + 3))) 3 (some (h + 4))) 13 (some (h + 5))) 16 (some (h + 6))) 18 (some (h + 7))) 20 (some (h + 8)))
theorem RB_new (v7 : CE N h 9 0 (va_up (fun _ => 0) 15 (-1)) (r9 h)) (a0 : AR N (h + 1) 20 219 0 (fun j => j)) (a1 : AR N (h + 2) 20 1752 0 (fun j => j)) (a2 : AR N (h + 3) 20 219 0 (fun j => j)) (a3 : AR N (h + 4) 20 219 0 (fun j => j)) (a4 : AR N (h + 5) 20 60 0 (fun j => j)) (a5 : AR N (h + 6) 21 60 0 (fun j => j)) (a6 : AR N (h + 7) 20 16 0 (fun j => j)) (a7 : AR N (h + 8) 20 155 0 (fun j => j)) : RB (sI N (h + 1) 2 2) h B0 := by
  have hr : ∀ j, mr (sI N (h + 1) 2 2) h j = mr N h j := fun _ => rfl
  have hm : mi (sI N (h + 1) 2 2) h = mi N h := mi_sI_n _ _ _ (by omega)
  have ho : MO (sI N (h + 1) 2 2) h := by
    refine ⟨v7.1, ⟨a0.1, a1.1, a2.1, a3.1, a4.1, a5.1, a6.1, a7.1⟩, ⟨a0.2.1, a1.2.1, a2.2.1, a3.2.1, a4.2.1, a5.2.1, a6.2.1, a7.2.1⟩, ?_, ?_, ?_, ?_, ?_, ?_, ?_, ?_⟩
    all_goals
      rw [hr, v7.2.2.2]
      rfl
  have hf : ∀ j, j ≠ 15 → mi (sI N (h + 1) 2 2) h j = 0 := fun j hj => by
    rw [hm, v7.2.2.1, va_up_ne _ _ hj]
  refine ⟨ho, ?_, ⟨hf 5 (by decide), fun j hj => absurd hj (Nat.not_lt_zero j)⟩, ⟨fun _ => hf 4 (by decide), fun s hs => by cases hs⟩, ⟨hf 14 (by decide), by decide, ?_⟩, ⟨hf 17 (by decide), ?_⟩, ?_, ⟨hf 9 (by decide), hf 10 (by decide), hf 11 (by decide), hf 12 (by decide)⟩, hf 6 (by decide)⟩
  · rw [mi_sI_s, a0.2.2.1]
    rfl
  · rw [mi_sI_n _ _ _ (by omega), a4.2.2.1]
    rfl
  · rw [mi_sI_n _ _ _ (by omega), a5.2.2.1]
    rfl
  · rw [hm, v7.2.2.1, va_up_self]
    rfl
theorem w_X9_7 {z : Int32} (hz : z = 155) (p : NB M0 h M ∧ nx M = h + 8 ∧ CE M h 9 0 (va_up (fun _ => 0) 15 (-1)) (va_up (va_up (va_up (va_up (va_up (va_up (va_up (fun _ => none) 0 (some (h + 1))) 1 (some (h + 2))) 2 (some (h + 3))) 3 (some (h + 4))) 13 (some (h + 5))) 16 (some (h + 6))) 18 (some (h + 7))) ∧ AR M (h + 1) 20 219 0 (fun j => j) ∧ AR M (h + 2) 20 1752 0 (fun j => j) ∧ AR M (h + 3) 20 219 0 (fun j => j) ∧ AR M (h + 4) 20 219 0 (fun j => j) ∧ AR M (h + 5) 20 60 0 (fun j => j) ∧ AR M (h + 6) 21 60 0 (fun j => j) ∧ AR M (h + 7) 20 16 0 (fun j => j)) : WW G IX9_init (qv (fun M' => NB M0 h M' ∧ nx M' = h + 9 ∧ RB M' h B0) nox) 73 [.ref h] [.int z, .ref h] M 7 2545 := by
  subst hz
  obtain ⟨b, hx, e, a0, a1, a2, a3, a4, a5, a6⟩ := p
  refine r_newI (I := IX9_init) (k := 7) (n := 2545) (x := 155) (N := 155) (dk kX9_init 35 rfl) w_arr_int (by decide) (by decide) (by decide) ⟨Nat.le_of_ble_eq_true rfl, Nat.le_of_ble_eq_true rfl⟩ ?_
  rw [hx]
  have u := e.sN 20 155 (by omega)
  have v := u.sR_s 20 (some (h + 8))
  have q : EX M (sR (sN M 20 155) h 20 (some (h + 8))) h (h + 8) := EX.np M 20 155 h 20 _ (by omega)
  have a7 : AR (sR (sN M 20 155) h 20 (some (h + 8))) (h + 8) 20 155 0 (fun j => j) := (hx ▸ AR.new M 20 155 _).put_n (by omega)
  have x2 : nx (sR (sN M 20 155) h 20 (some (h + 8))) = h + 9 := congrArg (· + 1) hx
  have a0 := a0.ex q (by omega) (by omega)
  have a1 := a1.ex q (by omega) (by omega)
  have a2 := a2.ex q (by omega) (by omega)
  have a3 := a3.ex q (by omega) (by omega)
  have a4 := a4.ex q (by omega) (by omega)
  have a5 := a5.ex q (by omega) (by omega)
  have a6 := a6.ex q (by omega) (by omega)
  have b := b.ex q (Nat.le_refl h) (by omega)
  refine r_putF (Cn := "") (dk kX9_init 36 rfl) fa_X9_36_8 u.1 rfl rfl rfl rfl rfl rfl ?_
  -- at 78
  generalize sR (sN M 20 155) h 20 (some (h + 8)) = N at *
  refine r_aload_n (dk kX9_init 37 rfl) rfl ?_
  refine r_getR (dk kX9_init 38 rfl) fa_X9_7_8 v.1 rfl (show mr N h 0 = some (h + 1) by rw [v.2.2.2]; rfl) ?_
  refine r_iconst (v := 2) (dk kX9_init 39 rfl) (by decide) ?_
  refine r_iconst (v := 2) (dk kX9_init 40 rfl) (by decide) ?_
  refine r_ias (dk kX9_init 41 rfl) a0.1 a0.2.1 (j := 2) rfl (by decide) (by decide) ?_
  -- at 85
  exact r_return (I := IX9_init) (k := 8) (n := 2700) (dk kX9_init 42 rfl) rfl ⟨Nat.le_of_ble_eq_true rfl, Nat.le_of_ble_eq_true rfl⟩ ⟨b.tr (NB.sI 2 _ (by omega : h ≤ h + 1)) (Nat.le_refl h), x2, RB_new v a0 a1 a2 a3 a4 a5 a6 a7⟩
theorem w_X9_6 {z : Int32} (hz : z = 16) (p : NB M0 h M ∧ nx M = h + 7 ∧ CE M h 9 0 (va_up (fun _ => 0) 15 (-1)) (va_up (va_up (va_up (va_up (va_up (va_up (fun _ => none) 0 (some (h + 1))) 1 (some (h + 2))) 2 (some (h + 3))) 3 (some (h + 4))) 13 (some (h + 5))) 16 (some (h + 6))) ∧ AR M (h + 1) 20 219 0 (fun j => j) ∧ AR M (h + 2) 20 1752 0 (fun j => j) ∧ AR M (h + 3) 20 219 0 (fun j => j) ∧ AR M (h + 4) 20 219 0 (fun j => j) ∧ AR M (h + 5) 20 60 0 (fun j => j) ∧ AR M (h + 6) 21 60 0 (fun j => j)) : WW G IX9_init (qv (fun M' => NB M0 h M' ∧ nx M' = h + 9 ∧ RB M' h B0) nox) 64 [.ref h] [.int z, .ref h] M 6 2529 := by
  subst hz
  obtain ⟨b, hx, e, a0, a1, a2, a3, a4, a5⟩ := p
  refine r_newI (I := IX9_init) (k := 6) (n := 2529) (x := 16) (N := 16) (dk kX9_init 31 rfl) w_arr_int (by decide) (by decide) (by decide) ⟨Nat.le_of_ble_eq_true rfl, Nat.le_of_ble_eq_true rfl⟩ ?_
  rw [hx]
  have u := e.sN 20 16 (by omega)
  have v := u.sR_s 18 (some (h + 7))
  have q : EX M (sR (sN M 20 16) h 18 (some (h + 7))) h (h + 7) := EX.np M 20 16 h 18 _ (by omega)
  have a6 : AR (sR (sN M 20 16) h 18 (some (h + 7))) (h + 7) 20 16 0 (fun j => j) := (hx ▸ AR.new M 20 16 _).put_n (by omega)
  have x2 : nx (sR (sN M 20 16) h 18 (some (h + 7))) = h + 8 := congrArg (· + 1) hx
  have a0 := a0.ex q (by omega) (by omega)
  have a1 := a1.ex q (by omega) (by omega)
  have a2 := a2.ex q (by omega) (by omega)
  have a3 := a3.ex q (by omega) (by omega)
  have a4 := a4.ex q (by omega) (by omega)
  have a5 := a5.ex q (by omega) (by omega)
  have b := b.ex q (Nat.le_refl h) (by omega)
  refine r_putF (Cn := "") (dk kX9_init 32 rfl) fa_X9_33_8 u.1 rfl rfl rfl rfl rfl rfl ?_
  refine r_aload_n (dk kX9_init 33 rfl) rfl ?_
  refine r_sipush (v := 155) (dk kX9_init 34 rfl) (by decide) ?_
  -- at 73
  exact w_X9_7 (M0 := M0) rfl ⟨b, x2, v, a0, a1, a2, a3, a4, a5, a6⟩
theorem w_X9_5 {z : Int32} (hz : z = 60) (p : NB M0 h M ∧ nx M = h + 6 ∧ CE M h 9 0 (va_up (fun _ => 0) 15 (-1)) (va_up (va_up (va_up (va_up (va_up (fun _ => none) 0 (some (h + 1))) 1 (some (h + 2))) 2 (some (h + 3))) 3 (some (h + 4))) 13 (some (h + 5))) ∧ AR M (h + 1) 20 219 0 (fun j => j) ∧ AR M (h + 2) 20 1752 0 (fun j => j) ∧ AR M (h + 3) 20 219 0 (fun j => j) ∧ AR M (h + 4) 20 219 0 (fun j => j) ∧ AR M (h + 5) 20 60 0 (fun j => j)) : WW G IX9_init (qv (fun M' => NB M0 h M' ∧ nx M' = h + 9 ∧ RB M' h B0) nox) 56 [.ref h] [.int z, .ref h] M 5 2469 := by
  subst hz
  obtain ⟨b, hx, e, a0, a1, a2, a3, a4⟩ := p
  refine r_newC (I := IX9_init) (k := 5) (n := 2469) (x := 60) (N := 60) (dk kX9_init 27 rfl) w_arr_char (by decide) (by decide) (by decide) ⟨Nat.le_of_ble_eq_true rfl, Nat.le_of_ble_eq_true rfl⟩ ?_
  rw [hx]
  have u := e.sN 21 60 (by omega)
  have v := u.sR_s 16 (some (h + 6))
  have q : EX M (sR (sN M 21 60) h 16 (some (h + 6))) h (h + 6) := EX.np M 21 60 h 16 _ (by omega)
  have a5 : AR (sR (sN M 21 60) h 16 (some (h + 6))) (h + 6) 21 60 0 (fun j => j) := (hx ▸ AR.new M 21 60 _).put_n (by omega)
  have x2 : nx (sR (sN M 21 60) h 16 (some (h + 6))) = h + 7 := congrArg (· + 1) hx
  have a0 := a0.ex q (by omega) (by omega)
  have a1 := a1.ex q (by omega) (by omega)
  have a2 := a2.ex q (by omega) (by omega)
  have a3 := a3.ex q (by omega) (by omega)
  have a4 := a4.ex q (by omega) (by omega)
  have b := b.ex q (Nat.le_refl h) (by omega)
  refine r_putF (Cn := "") (dk kX9_init 28 rfl) fa_X9_29_8 u.1 rfl rfl rfl rfl rfl rfl ?_
  refine r_aload_n (dk kX9_init 29 rfl) rfl ?_
  refine r_bipush (v := 16) (dk kX9_init 30 rfl) (by decide) ?_
  -- at 64
  exact w_X9_6 (M0 := M0) rfl ⟨b, x2, v, a0, a1, a2, a3, a4, a5⟩
theorem w_X9_4 {z : Int32} (hz : z = 60) (p : NB M0 h M ∧ nx M = h + 5 ∧ CE M h 9 0 (fun _ => 0) (va_up (va_up (va_up (va_up (fun _ => none) 0 (some (h + 1))) 1 (some (h + 2))) 2 (some (h + 3))) 3 (some (h + 4))) ∧ AR M (h + 1) 20 219 0 (fun j => j) ∧ AR M (h + 2) 20 1752 0 (fun j => j) ∧ AR M (h + 3) 20 219 0 (fun j => j) ∧ AR M (h + 4) 20 219 0 (fun j => j)) : WW G IX9_init (qv (fun M' => NB M0 h M' ∧ nx M' = h + 9 ∧ RB M' h B0) nox) 43 [.ref h] [.int z, .ref h] M 4 2409 := by
  subst hz
  obtain ⟨b, hx, e, a0, a1, a2, a3⟩ := p
  refine r_newI (I := IX9_init) (k := 4) (n := 2409) (x := 60) (N := 60) (dk kX9_init 20 rfl) w_arr_int (by decide) (by decide) (by decide) ⟨Nat.le_of_ble_eq_true rfl, Nat.le_of_ble_eq_true rfl⟩ ?_
  rw [hx]
  have u := e.sN 20 60 (by omega)
  have v := u.sR_s 13 (some (h + 5))
  have q : EX M (sR (sN M 20 60) h 13 (some (h + 5))) h (h + 5) := EX.np M 20 60 h 13 _ (by omega)
  have a4 : AR (sR (sN M 20 60) h 13 (some (h + 5))) (h + 5) 20 60 0 (fun j => j) := (hx ▸ AR.new M 20 60 _).put_n (by omega)
  have x2 : nx (sR (sN M 20 60) h 13 (some (h + 5))) = h + 6 := congrArg (· + 1) hx
  have a0 := a0.ex q (by omega) (by omega)
  have a1 := a1.ex q (by omega) (by omega)
  have a2 := a2.ex q (by omega) (by omega)
  have a3 := a3.ex q (by omega) (by omega)
  have b := b.ex q (Nat.le_refl h) (by omega)
  refine r_putF (Cn := "") (dk kX9_init 21 rfl) fa_X9_22_8 u.1 rfl rfl rfl rfl rfl rfl ?_
  -- at 48
  generalize sR (sN M 20 60) h 13 (some (h + 5)) = N at *
  refine r_aload_n (dk kX9_init 22 rfl) rfl ?_
  refine r_iconst (v := (-1)) (dk kX9_init 23 rfl) (by decide) ?_
  refine r_puti (dk kX9_init 24 rfl) fa_X9_25_8 v.1 rfl rfl rfl rfl ?_
  -- at 53
  have v := v.sI_s 15 (-1)
  have q2 : EX N (sI N h 15 (-1)) h (h + 5 + 1) := fun d _ hs => ⟨rfl, rfl, mi_sI_n _ _ _ hs, rfl, rfl, rfl⟩
  have a0 := a0.ex q2 (by omega) (by omega)
  have a1 := a1.ex q2 (by omega) (by omega)
  have a2 := a2.ex q2 (by omega) (by omega)
  have a3 := a3.ex q2 (by omega) (by omega)
  have a4 := a4.ex q2 (by omega) (by omega)
  have b := b.ex q2 (Nat.le_refl h) (by omega)
  refine r_aload_n (dk kX9_init 25 rfl) rfl ?_
  refine r_bipush (v := 60) (dk kX9_init 26 rfl) (by decide) ?_
  -- at 56
  exact w_X9_5 (M0 := M0) rfl ⟨b, x2, v, a0, a1, a2, a3, a4⟩
theorem w_X9_3 {z : Int32} (hz : z = 219) (p : NB M0 h M ∧ nx M = h + 4 ∧ CE M h 9 0 (fun _ => 0) (va_up (va_up (va_up (fun _ => none) 0 (some (h + 1))) 1 (some (h + 2))) 2 (some (h + 3))) ∧ AR M (h + 1) 20 219 0 (fun j => j) ∧ AR M (h + 2) 20 1752 0 (fun j => j) ∧ AR M (h + 3) 20 219 0 (fun j => j)) : WW G IX9_init (qv (fun M' => NB M0 h M' ∧ nx M' = h + 9 ∧ RB M' h B0) nox) 35 [.ref h] [.int z, .ref h] M 3 2190 := by
  subst hz
  obtain ⟨b, hx, e, a0, a1, a2⟩ := p
  refine r_newI (I := IX9_init) (k := 3) (n := 2190) (x := 219) (N := 219) (dk kX9_init 16 rfl) w_arr_int (by decide) (by decide) (by decide) ⟨Nat.le_of_ble_eq_true rfl, Nat.le_of_ble_eq_true rfl⟩ ?_
  rw [hx]
  have u := e.sN 20 219 (by omega)
  have v := u.sR_s 3 (some (h + 4))
  have q : EX M (sR (sN M 20 219) h 3 (some (h + 4))) h (h + 4) := EX.np M 20 219 h 3 _ (by omega)
  have a3 : AR (sR (sN M 20 219) h 3 (some (h + 4))) (h + 4) 20 219 0 (fun j => j) := (hx ▸ AR.new M 20 219 _).put_n (by omega)
  have x2 : nx (sR (sN M 20 219) h 3 (some (h + 4))) = h + 5 := congrArg (· + 1) hx
  have a0 := a0.ex q (by omega) (by omega)
  have a1 := a1.ex q (by omega) (by omega)
  have a2 := a2.ex q (by omega) (by omega)
  have b := b.ex q (Nat.le_refl h) (by omega)
  refine r_putF (Cn := "") (dk kX9_init 17 rfl) fa_X9_19_8 u.1 rfl rfl rfl rfl rfl rfl ?_
  refine r_aload_n (dk kX9_init 18 rfl) rfl ?_
  refine r_bipush (v := 60) (dk kX9_init 19 rfl) (by decide) ?_
  -- at 43
  exact w_X9_4 (M0 := M0) rfl ⟨b, x2, v, a0, a1, a2, a3⟩
theorem w_X9_2 {z : Int32} (hz : z = 219) (p : NB M0 h M ∧ nx M = h + 3 ∧ CE M h 9 0 (fun _ => 0) (va_up (va_up (fun _ => none) 0 (some (h + 1))) 1 (some (h + 2))) ∧ AR M (h + 1) 20 219 0 (fun j => j) ∧ AR M (h + 2) 20 1752 0 (fun j => j)) : WW G IX9_init (qv (fun M' => NB M0 h M' ∧ nx M' = h + 9 ∧ RB M' h B0) nox) 26 [.ref h] [.int z, .ref h] M 2 1971 := by
  subst hz
  obtain ⟨b, hx, e, a0, a1⟩ := p
  refine r_newI (I := IX9_init) (k := 2) (n := 1971) (x := 219) (N := 219) (dk kX9_init 12 rfl) w_arr_int (by decide) (by decide) (by decide) ⟨Nat.le_of_ble_eq_true rfl, Nat.le_of_ble_eq_true rfl⟩ ?_
  rw [hx]
  have u := e.sN 20 219 (by omega)
  have v := u.sR_s 2 (some (h + 3))
  have q : EX M (sR (sN M 20 219) h 2 (some (h + 3))) h (h + 3) := EX.np M 20 219 h 2 _ (by omega)
  have a2 : AR (sR (sN M 20 219) h 2 (some (h + 3))) (h + 3) 20 219 0 (fun j => j) := (hx ▸ AR.new M 20 219 _).put_n (by omega)
  have x2 : nx (sR (sN M 20 219) h 2 (some (h + 3))) = h + 4 := congrArg (· + 1) hx
  have a0 := a0.ex q (by omega) (by omega)
  have a1 := a1.ex q (by omega) (by omega)
  have b := b.ex q (Nat.le_refl h) (by omega)
  refine r_putF (Cn := "") (dk kX9_init 13 rfl) fa_X9_16_8 u.1 rfl rfl rfl rfl rfl rfl ?_
  refine r_aload_n (dk kX9_init 14 rfl) rfl ?_
  refine r_sipush (v := 219) (dk kX9_init 15 rfl) (by decide) ?_
  -- at 35
  exact w_X9_3 (M0 := M0) rfl ⟨b, x2, v, a0, a1, a2⟩
theorem w_X9_1 {z : Int32} (hz : z = 1752) (p : NB M0 h M ∧ nx M = h + 2 ∧ CE M h 9 0 (fun _ => 0) (va_up (fun _ => none) 0 (some (h + 1))) ∧ AR M (h + 1) 20 219 0 (fun j => j)) : WW G IX9_init (qv (fun M' => NB M0 h M' ∧ nx M' = h + 9 ∧ RB M' h B0) nox) 17 [.ref h] [.int z, .ref h] M 1 219 := by
  subst hz
  obtain ⟨b, hx, e, a0⟩ := p
  refine r_newI (I := IX9_init) (k := 1) (n := 219) (x := 1752) (N := 1752) (dk kX9_init 8 rfl) w_arr_int (by decide) (by decide) (by decide) ⟨Nat.le_of_ble_eq_true rfl, Nat.le_of_ble_eq_true rfl⟩ ?_
  rw [hx]
  have u := e.sN 20 1752 (by omega)
  have v := u.sR_s 1 (some (h + 2))
  have q : EX M (sR (sN M 20 1752) h 1 (some (h + 2))) h (h + 2) := EX.np M 20 1752 h 1 _ (by omega)
  have a1 : AR (sR (sN M 20 1752) h 1 (some (h + 2))) (h + 2) 20 1752 0 (fun j => j) := (hx ▸ AR.new M 20 1752 _).put_n (by omega)
  have x2 : nx (sR (sN M 20 1752) h 1 (some (h + 2))) = h + 3 := congrArg (· + 1) hx
  have a0 := a0.ex q (by omega) (by omega)
  have b := b.ex q (Nat.le_refl h) (by omega)
  refine r_putF (Cn := "") (dk kX9_init 9 rfl) fa_X9_13_8 u.1 rfl rfl rfl rfl rfl rfl ?_
  refine r_aload_n (dk kX9_init 10 rfl) rfl ?_
  refine r_sipush (v := 219) (dk kX9_init 11 rfl) (by decide) ?_
  -- at 26
  exact w_X9_2 (M0 := M0) rfl ⟨b, x2, v, a0, a1⟩
theorem w_X9_0 {z : Int32} (hz : z = 219) (p : NB M0 h M ∧ nx M = h + 1 ∧ CE M h 9 0 (fun _ => 0) (fun _ => none)) : WW G IX9_init (qv (fun M' => NB M0 h M' ∧ nx M' = h + 9 ∧ RB M' h B0) nox) 8 [.ref h] [.int z, .ref h] M 0 0 := by
  subst hz
  obtain ⟨b, hx, e⟩ := p
  refine r_newI (I := IX9_init) (k := 0) (n := 0) (x := 219) (N := 219) (dk kX9_init 4 rfl) w_arr_int (by decide) (by decide) (by decide) ⟨Nat.le_of_ble_eq_true rfl, Nat.le_of_ble_eq_true rfl⟩ ?_
  rw [hx]
  have u := e.sN 20 219 (by omega)
  have v := u.sR_s 0 (some (h + 1))
  have q : EX M (sR (sN M 20 219) h 0 (some (h + 1))) h (h + 1) := EX.np M 20 219 h 0 _ (by omega)
  have a0 : AR (sR (sN M 20 219) h 0 (some (h + 1))) (h + 1) 20 219 0 (fun j => j) := (hx ▸ AR.new M 20 219 _).put_n (by omega)
  have x2 : nx (sR (sN M 20 219) h 0 (some (h + 1))) = h + 2 := congrArg (· + 1) hx
  have b := b.ex q (Nat.le_refl h) (by omega)
  refine r_putF (Cn := "") (dk kX9_init 5 rfl) fa_X9_7_8 u.1 rfl rfl rfl rfl rfl rfl ?_
  refine r_aload_n (dk kX9_init 6 rfl) rfl ?_
  refine r_sipush (v := 1752) (dk kX9_init 7 rfl) (by decide) ?_
  -- at 17
  exact w_X9_1 (M0 := M0) rfl ⟨b, x2, v, a0⟩
/-- what a new reference is -/
theorem k_X9_init (hx : nx M = h + 1) (e0 : CE M h 9 0 (fun _ => 0) (fun _ => none)) : KK G IX9_init [.ref h] M (qv (fun M' => NB M h M' ∧ nx M' = h + 9 ∧ RB M' h B0) nox) := by
  refine KK.ofW (by decide) (by simp [Value.category]) (Nat.le_of_ble_eq_true rfl) rfl ?_
  show WW _ _ _ 0 [_] [] _ _ _
  refine r_aload_n (dk kX9_init 0 rfl) rfl ?_
  refine r_obj (dk kX9_init 1 rfl) ml_X9_1 w_objI w_objC (by decide) (Nat.le_of_ble_eq_true rfl) ?_
  refine r_aload_n (dk kX9_init 2 rfl) rfl ?_
  refine r_sipush (v := 219) (dk kX9_init 3 rfl) (by decide) ?_
  -- at 8
  exact w_X9_0 (M0 := M) rfl ⟨NB.rfl M h, hx, e0⟩
end MODEL
