/-! CONSTRUCTORS: the reference -/
section MODEL
variable {G : GG} {M : Mm} {h : Nat}
/-- what a new reference is -/
theorem k_X9_init (hx : nx M = h + 1) (e0 : CE M h 9 0 (fun _ => 0) (fun _ => none)) : KK G IX9_init [.ref h] M (qv (fun M' => NB M h M' ∧ nx M' = h + 9 ∧ RB M' h B0) nox) := by
  refine KK.ofW (by decide) (by simp [Value.category]) (Nat.le_of_ble_eq_true rfl) rfl ?_
  show WW _ _ _ 0 [_] [] _ _ _
  refine r_aload_n (dk kX9_init 0 rfl) rfl ?_
  refine r_obj (dk kX9_init 1 rfl) ml_X9_1 w_objI w_objC (by decide) (Nat.le_of_ble_eq_true rfl) ?_
  refine r_aload_n (dk kX9_init 2 rfl) rfl ?_
  refine r_sipush (v := 219) (dk kX9_init 3 rfl) (by decide) ?_
  -- at 8
  refine r_newI (I := IX9_init) (k := 0) (n := 0) (x := 219) (N := 219) (dk kX9_init 4 rfl) w_arr_int (by decide) (by decide) (by decide) ⟨Nat.le_of_ble_eq_true rfl, Nat.le_of_ble_eq_true rfl⟩ ?_
  rw [hx]
  have u0 := e0.sN 20 219 (by omega)
  have v0 := u0.sR_s 0 (some (h + 1))
  have q0 : EX M (sR (sN M 20 219) h 0 (some (h + 1))) h (h + 1) := EX.np M 20 219 h 0 _ (by omega)
  have a0 : AR (sR (sN M 20 219) h 0 (some (h + 1))) (h + 1) 20 219 0 (fun j => j) := (hx ▸ AR.new M 20 219 _).put_n (by omega)
  have x0 : nx (sR (sN M 20 219) h 0 (some (h + 1))) = h + 2 := congrArg (· + 1) hx
  have b0 := (NB.rfl M h).ex q0 (Nat.le_refl h) (by omega)
  refine r_putF (Cn := "") (dk kX9_init 5 rfl) fa_X9_7_8 u0.1 rfl rfl rfl rfl rfl rfl ?_
  refine r_aload_n (dk kX9_init 6 rfl) rfl ?_
  refine r_sipush (v := 1752) (dk kX9_init 7 rfl) (by decide) ?_
  -- at 17
  generalize sR (sN M 20 219) h 0 (some (h + 1)) = M0 at *
  refine r_newI (I := IX9_init) (k := 1) (n := 219) (x := 1752) (N := 1752) (dk kX9_init 8 rfl) w_arr_int (by decide) (by decide) (by decide) ⟨Nat.le_of_ble_eq_true rfl, Nat.le_of_ble_eq_true rfl⟩ ?_
  rw [x0]
  have u1 := v0.sN 20 1752 (by omega)
  have v1 := u1.sR_s 1 (some (h + 2))
  have q1 : EX M0 (sR (sN M0 20 1752) h 1 (some (h + 2))) h (h + 2) := EX.np M0 20 1752 h 1 _ (by omega)
  have a1 : AR (sR (sN M0 20 1752) h 1 (some (h + 2))) (h + 2) 20 1752 0 (fun j => j) := (x0 ▸ AR.new M0 20 1752 _).put_n (by omega)
  have x1 : nx (sR (sN M0 20 1752) h 1 (some (h + 2))) = h + 3 := congrArg (· + 1) x0
  have a0 := a0.ex q1 (by omega) (by omega)
  have b1 := b0.ex q1 (Nat.le_refl h) (by omega)
  refine r_putF (Cn := "") (dk kX9_init 9 rfl) fa_X9_13_8 u1.1 rfl rfl rfl rfl rfl rfl ?_
  refine r_aload_n (dk kX9_init 10 rfl) rfl ?_
  refine r_sipush (v := 219) (dk kX9_init 11 rfl) (by decide) ?_
  -- at 26
  generalize sR (sN M0 20 1752) h 1 (some (h + 2)) = M1 at *
  refine r_newI (I := IX9_init) (k := 2) (n := 1971) (x := 219) (N := 219) (dk kX9_init 12 rfl) w_arr_int (by decide) (by decide) (by decide) ⟨Nat.le_of_ble_eq_true rfl, Nat.le_of_ble_eq_true rfl⟩ ?_
  rw [x1]
  have u2 := v1.sN 20 219 (by omega)
  have v2 := u2.sR_s 2 (some (h + 3))
  have q2 : EX M1 (sR (sN M1 20 219) h 2 (some (h + 3))) h (h + 3) := EX.np M1 20 219 h 2 _ (by omega)
  have a2 : AR (sR (sN M1 20 219) h 2 (some (h + 3))) (h + 3) 20 219 0 (fun j => j) := (x1 ▸ AR.new M1 20 219 _).put_n (by omega)
  have x2 : nx (sR (sN M1 20 219) h 2 (some (h + 3))) = h + 4 := congrArg (· + 1) x1
  have a0 := a0.ex q2 (by omega) (by omega)
  have a1 := a1.ex q2 (by omega) (by omega)
  have b2 := b1.ex q2 (Nat.le_refl h) (by omega)
  refine r_putF (Cn := "") (dk kX9_init 13 rfl) fa_X9_16_8 u2.1 rfl rfl rfl rfl rfl rfl ?_
  refine r_aload_n (dk kX9_init 14 rfl) rfl ?_
  refine r_sipush (v := 219) (dk kX9_init 15 rfl) (by decide) ?_
  -- at 35
  generalize sR (sN M1 20 219) h 2 (some (h + 3)) = M2 at *
  refine r_newI (I := IX9_init) (k := 3) (n := 2190) (x := 219) (N := 219) (dk kX9_init 16 rfl) w_arr_int (by decide) (by decide) (by decide) ⟨Nat.le_of_ble_eq_true rfl, Nat.le_of_ble_eq_true rfl⟩ ?_
  rw [x2]
  have u3 := v2.sN 20 219 (by omega)
  have v3 := u3.sR_s 3 (some (h + 4))
  have q3 : EX M2 (sR (sN M2 20 219) h 3 (some (h + 4))) h (h + 4) := EX.np M2 20 219 h 3 _ (by omega)
  have a3 : AR (sR (sN M2 20 219) h 3 (some (h + 4))) (h + 4) 20 219 0 (fun j => j) := (x2 ▸ AR.new M2 20 219 _).put_n (by omega)
  have x3 : nx (sR (sN M2 20 219) h 3 (some (h + 4))) = h + 5 := congrArg (· + 1) x2
  have a0 := a0.ex q3 (by omega) (by omega)
  have a1 := a1.ex q3 (by omega) (by omega)
  have a2 := a2.ex q3 (by omega) (by omega)
  have b3 := b2.ex q3 (Nat.le_refl h) (by omega)
  refine r_putF (Cn := "") (dk kX9_init 17 rfl) fa_X9_19_8 u3.1 rfl rfl rfl rfl rfl rfl ?_
  refine r_aload_n (dk kX9_init 18 rfl) rfl ?_
  refine r_bipush (v := 60) (dk kX9_init 19 rfl) (by decide) ?_
  -- at 43
  generalize sR (sN M2 20 219) h 3 (some (h + 4)) = M3 at *
  refine r_newI (I := IX9_init) (k := 4) (n := 2409) (x := 60) (N := 60) (dk kX9_init 20 rfl) w_arr_int (by decide) (by decide) (by decide) ⟨Nat.le_of_ble_eq_true rfl, Nat.le_of_ble_eq_true rfl⟩ ?_
  rw [x3]
  have u4 := v3.sN 20 60 (by omega)
  have v4 := u4.sR_s 13 (some (h + 5))
  have q4 : EX M3 (sR (sN M3 20 60) h 13 (some (h + 5))) h (h + 5) := EX.np M3 20 60 h 13 _ (by omega)
  have a4 : AR (sR (sN M3 20 60) h 13 (some (h + 5))) (h + 5) 20 60 0 (fun j => j) := (x3 ▸ AR.new M3 20 60 _).put_n (by omega)
  have x4 : nx (sR (sN M3 20 60) h 13 (some (h + 5))) = h + 6 := congrArg (· + 1) x3
  have a0 := a0.ex q4 (by omega) (by omega)
  have a1 := a1.ex q4 (by omega) (by omega)
  have a2 := a2.ex q4 (by omega) (by omega)
  have a3 := a3.ex q4 (by omega) (by omega)
  have b4 := b3.ex q4 (Nat.le_refl h) (by omega)
  refine r_putF (Cn := "") (dk kX9_init 21 rfl) fa_X9_22_8 u4.1 rfl rfl rfl rfl rfl rfl ?_
  -- at 48
  generalize sR (sN M3 20 60) h 13 (some (h + 5)) = M4 at *
  refine r_aload_n (dk kX9_init 22 rfl) rfl ?_
  refine r_iconst (v := (-1)) (dk kX9_init 23 rfl) (by decide) ?_
  refine r_puti (dk kX9_init 24 rfl) fa_X9_25_8 v4.1 rfl rfl rfl rfl ?_
  -- at 53
  have v4 := v4.sI_s 15 (-1)
  have q4 : EX M4 (sI M4 h 15 (-1)) h (h + 5 + 1) := fun d _ hs => ⟨rfl, rfl, mi_sI_n _ _ _ hs, rfl, rfl, rfl⟩
  have a0 := a0.ex q4 (by omega) (by omega)
  have a1 := a1.ex q4 (by omega) (by omega)
  have a2 := a2.ex q4 (by omega) (by omega)
  have a3 := a3.ex q4 (by omega) (by omega)
  have a4 := a4.ex q4 (by omega) (by omega)
  have b4 := b4.ex q4 (Nat.le_refl h) (by omega)
  have x4 : nx (sI M4 h 15 (-1)) = h + 6 := x4
  generalize sI M4 h 15 (-1) = N4 at *
  refine r_aload_n (dk kX9_init 25 rfl) rfl ?_
  refine r_bipush (v := 60) (dk kX9_init 26 rfl) (by decide) ?_
  -- at 56
  refine r_newC (I := IX9_init) (k := 5) (n := 2469) (x := 60) (N := 60) (dk kX9_init 27 rfl) w_arr_char (by decide) (by decide) (by decide) ⟨Nat.le_of_ble_eq_true rfl, Nat.le_of_ble_eq_true rfl⟩ ?_
  rw [x4]
  have u5 := v4.sN 21 60 (by omega)
  have v5 := u5.sR_s 16 (some (h + 6))
  have q5 : EX N4 (sR (sN N4 21 60) h 16 (some (h + 6))) h (h + 6) := EX.np N4 21 60 h 16 _ (by omega)
  have a5 : AR (sR (sN N4 21 60) h 16 (some (h + 6))) (h + 6) 21 60 0 (fun j => j) := (x4 ▸ AR.new N4 21 60 _).put_n (by omega)
  have x5 : nx (sR (sN N4 21 60) h 16 (some (h + 6))) = h + 7 := congrArg (· + 1) x4
  have a0 := a0.ex q5 (by omega) (by omega)
  have a1 := a1.ex q5 (by omega) (by omega)
  have a2 := a2.ex q5 (by omega) (by omega)
  have a3 := a3.ex q5 (by omega) (by omega)
  have a4 := a4.ex q5 (by omega) (by omega)
  have b5 := b4.ex q5 (Nat.le_refl h) (by omega)
  refine r_putF (Cn := "") (dk kX9_init 28 rfl) fa_X9_29_8 u5.1 rfl rfl rfl rfl rfl rfl ?_
  refine r_aload_n (dk kX9_init 29 rfl) rfl ?_
  refine r_bipush (v := 16) (dk kX9_init 30 rfl) (by decide) ?_
  -- at 64
  generalize sR (sN N4 21 60) h 16 (some (h + 6)) = M5 at *
  refine r_newI (I := IX9_init) (k := 6) (n := 2529) (x := 16) (N := 16) (dk kX9_init 31 rfl) w_arr_int (by decide) (by decide) (by decide) ⟨Nat.le_of_ble_eq_true rfl, Nat.le_of_ble_eq_true rfl⟩ ?_
  rw [x5]
  have u6 := v5.sN 20 16 (by omega)
  have v6 := u6.sR_s 18 (some (h + 7))
  have q6 : EX M5 (sR (sN M5 20 16) h 18 (some (h + 7))) h (h + 7) := EX.np M5 20 16 h 18 _ (by omega)
  have a6 : AR (sR (sN M5 20 16) h 18 (some (h + 7))) (h + 7) 20 16 0 (fun j => j) := (x5 ▸ AR.new M5 20 16 _).put_n (by omega)
  have x6 : nx (sR (sN M5 20 16) h 18 (some (h + 7))) = h + 8 := congrArg (· + 1) x5
  have a0 := a0.ex q6 (by omega) (by omega)
  have a1 := a1.ex q6 (by omega) (by omega)
  have a2 := a2.ex q6 (by omega) (by omega)
  have a3 := a3.ex q6 (by omega) (by omega)
  have a4 := a4.ex q6 (by omega) (by omega)
  have a5 := a5.ex q6 (by omega) (by omega)
  have b6 := b5.ex q6 (Nat.le_refl h) (by omega)
  refine r_putF (Cn := "") (dk kX9_init 32 rfl) fa_X9_33_8 u6.1 rfl rfl rfl rfl rfl rfl ?_
  refine r_aload_n (dk kX9_init 33 rfl) rfl ?_
  refine r_sipush (v := 155) (dk kX9_init 34 rfl) (by decide) ?_
  -- at 73
  generalize sR (sN M5 20 16) h 18 (some (h + 7)) = M6 at *
  refine r_newI (I := IX9_init) (k := 7) (n := 2545) (x := 155) (N := 155) (dk kX9_init 35 rfl) w_arr_int (by decide) (by decide) (by decide) ⟨Nat.le_of_ble_eq_true rfl, Nat.le_of_ble_eq_true rfl⟩ ?_
  rw [x6]
  have u7 := v6.sN 20 155 (by omega)
  have v7 := u7.sR_s 20 (some (h + 8))
  have q7 : EX M6 (sR (sN M6 20 155) h 20 (some (h + 8))) h (h + 8) := EX.np M6 20 155 h 20 _ (by omega)
  have a7 : AR (sR (sN M6 20 155) h 20 (some (h + 8))) (h + 8) 20 155 0 (fun j => j) := (x6 ▸ AR.new M6 20 155 _).put_n (by omega)
  have x7 : nx (sR (sN M6 20 155) h 20 (some (h + 8))) = h + 9 := congrArg (· + 1) x6
  have a0 := a0.ex q7 (by omega) (by omega)
  have a1 := a1.ex q7 (by omega) (by omega)
  have a2 := a2.ex q7 (by omega) (by omega)
  have a3 := a3.ex q7 (by omega) (by omega)
  have a4 := a4.ex q7 (by omega) (by omega)
  have a5 := a5.ex q7 (by omega) (by omega)
  have a6 := a6.ex q7 (by omega) (by omega)
  have b7 := b6.ex q7 (Nat.le_refl h) (by omega)
  refine r_putF (Cn := "") (dk kX9_init 36 rfl) fa_X9_36_8 u7.1 rfl rfl rfl rfl rfl rfl ?_
  -- at 78
  generalize sR (sN M6 20 155) h 20 (some (h + 8)) = N at *
  refine r_aload_n (dk kX9_init 37 rfl) rfl ?_
  refine r_getR (dk kX9_init 38 rfl) fa_X9_7_8 v7.1 rfl (show mr N h 0 = some (h + 1) by rw [v7.2.2.2]; rfl) ?_
  refine r_iconst (v := 2) (dk kX9_init 39 rfl) (by decide) ?_
  refine r_iconst (v := 2) (dk kX9_init 40 rfl) (by decide) ?_
  refine r_ias (dk kX9_init 41 rfl) a0.1 a0.2.1 (j := 2) rfl (by decide) (by decide) ?_
  -- at 85
  refine r_return (I := IX9_init) (k := 8) (n := 2700) (dk kX9_init 42 rfl) rfl ⟨Nat.le_of_ble_eq_true rfl, Nat.le_of_ble_eq_true rfl⟩ ⟨b7.tr (NB.sI 2 _ (by omega : h ≤ h + 1)) (Nat.le_refl h), x7, ?_⟩
  have hr : ∀ j, mr (sI N (h + 1) 2 2) h j = mr N h j := fun _ => rfl
  have hm : mi (sI N (h + 1) 2 2) h = mi N h := mi_sI_n _ _ _ (by omega)
  have ho : MO (sI N (h + 1) 2 2) h := by
    refine ⟨v7.1, ⟨a0.1, a1.1, a2.1, a3.1, a4.1, a5.1, a6.1, a7.1⟩, ⟨a0.2.1, a1.2.1, a2.2.1, a3.2.1, a4.2.1, a5.2.1, a6.2.1, a7.2.1⟩, ?_, ?_, ?_, ?_, ?_, ?_, ?_, ?_⟩
    all_goals
      rw [hr, v7.2.2.2]
      rfl
  have hf : ∀ j, j ≠ 15 → mi (sI N (h + 1) 2 2) h j = 0 := fun j hj => by
    rw [hm, v7.2.2.1, va_up_ne _ _ hj]
  refine ⟨ho, ?_, ⟨hf 5 (by decide), fun j hj => absurd hj (Nat.not_lt_zero j)⟩, ⟨fun _ => hf 4 (by decide), fun s hs => by cases hs⟩, ⟨hf 14 (by decide), by decide, ?_⟩, ⟨hf 17 (by decide), ?_⟩, ?_, ⟨hf 9 (by decide), hf 10 (by decide), hf 11 (by decide), hf 12 (by decide)⟩, hf 6 (by decide)⟩
  · rw [mi_sI_s, a0.2.2.1]
    rfl
  · rw [mi_sI_n _ _ _ (by omega), a4.2.2.1]
    rfl
  · rw [mi_sI_n _ _ _ (by omega), a5.2.2.1]
    rfl
  · rw [hm, v7.2.2.1, va_up_self]
    rfl
end MODEL
