/-! THE LAW: its start -/
section LAW
variable {G : GG} {M M' : Mm} {x h F : Nat} {B : BS}
theorem bo_nb (o : BO M x) (n : NB M (x + 350) M') : BO M' x := by
  obtain ⟨a1, ⟨r0, r1, r2, r3, r4, r5, r6⟩, a3, a4, a5, a6, a7, a8, a9, a10⟩ := o
  obtain ⟨k1, -, -, k4, -⟩ := n x (by omega)
  obtain ⟨j1, j2, -⟩ := n (x + 349) (by omega)
  have e := EX.nb n (x + 350) (Nat.le_refl (x + 350))
  exact ⟨k1.trans a1, ⟨by rw [k4]; exact r0, by rw [k4]; exact r1, by rw [k4]; exact r2, by rw [k4]; exact r3, by rw [k4]; exact r4, by rw [k4]; exact r5, by rw [k4]; exact r6⟩, a3.ex e (by omega) (by omega), a4.ex e (by omega) (by omega), a5.ex e (by omega) (by omega), a6.ex e (by omega) (by omega), a7.ex e (by omega) (by omega), a8.ex e (by omega) (by omega), j1.trans a9, j2.trans a10⟩
theorem cb0_nb (c : CB F M x B0) (n : NB M (x + 350) M') : CB F M' x B0 := by
  obtain ⟨c0, i, ⟨q, v⟩, c2, c3, c4, c5, c6, c7⟩ := c
  have hx := (n x (by omega)).2.2.1
  refine ⟨bo_nb c0 n, i, ⟨q, ?_⟩, ⟨by rw [hx]; exact c2.1, fun s h => by cases h⟩, ⟨by rw [(n (x + 61) (by omega)).2.2.1]; exact c3.1, fun j h => absurd h (Nat.not_lt_zero j)⟩, ⟨(bo_nb c0 n).2.2.2.2.2.1, ?_, by decide, fun j h => absurd h (Nat.not_lt_zero j), fun j h => absurd h (Nat.not_lt_zero j)⟩, ⟨?_, by decide, fun j h => absurd h (Nat.not_lt_zero j), fun j h => absurd h (Nat.not_lt_zero j)⟩, by rw [hx]; exact c6, ?_⟩
  · refine ⟨?_, fun j h => absurd h (Nat.not_lt_zero j), fun j h => absurd h (Nat.not_lt_zero j), ⟨fun j h => absurd h (Nat.not_lt_zero j), fun i j _ h => absurd h (Nat.not_lt_zero j)⟩, fun j h => absurd h (Nat.not_lt_zero j), fun j h => absurd h (Nat.not_lt_zero j)⟩
    rw [(n (x + 1) (by omega)).2.2.1]
    exact v.1
  · rw [(n (x + 333) (by omega)).2.2.1]
    exact c4.2.1
  · rw [(n (x + 335) (by omega)).2.2.1]
    exact c5.1
  · unfold C7
    rw [hx]
    exact c7
theorem rb_nb (r : RB M h B) (n : NB M (h + 9) M') : RB M' h B := by
  have e : ∀ a, a < h + 9 → mi M' a = mi M a := fun a ha => (n a ha).2.2.1
  refine r.to ?_ (fun a ha => e a (by omega)) (fun j _ _ => by rw [e h (by omega)])
  have o := r.o
  unfold MO at *
  rw [(n h (by omega)).1, (n (h + 1) (by omega)).1, (n (h + 2) (by omega)).1, (n (h + 3) (by omega)).1, (n (h + 4) (by omega)).1, (n (h + 5) (by omega)).1, (n (h + 6) (by omega)).1, (n (h + 7) (by omega)).1, (n (h + 8) (by omega)).1, (n (h + 1) (by omega)).2.1, (n (h + 2) (by omega)).2.1, (n (h + 3) (by omega)).2.1, (n (h + 4) (by omega)).2.1, (n (h + 5) (by omega)).2.1, (n (h + 6) (by omega)).2.1, (n (h + 7) (by omega)).2.1, (n (h + 8) (by omega)).2.1, (n h (by omega)).2.2.2.1]
  exact o
theorem w_start {P : Int32 → Mm → Prop} (hP : ∀ M, P 1 M) (hN : (gs G).2.1 ≤ 2560) (hx : nx M = x) : WW G IL_law (qi P nox) 0 [.ref (gs G).1, lj, lj, lj, lj, lj, lj, lj, lj] [] M 0 0 := by
  refine r_new (I := IL_law) (k := 0) (n := 0) (ci := 7) (dk kL_law_p0 0 rfl) nw_L_8 ⟨Nat.le_of_ble_eq_true rfl, Nat.le_of_ble_eq_true rfl⟩ ?_
  have e0 : CE (sN M 8 0) x 8 0 (fun _ => 0) (fun _ => none) := hx ▸ CE.new M 8 0
  have x0 : nx (sN M 8 0) = x + 1 := congrArg (· + 1) hx
  rw [hx]
  refine r_dup (dk kL_law_p0 1 rfl) rfl ?_
  -- at 4
  refine r_callI (as := []) (I' := IX8_init) (dk kL_law_p0 2 rfl) mi_X8_init rfl ml_L_167 rfl rfl rfl (Nat.le_of_ble_eq_true rfl) ⟨by decide, by decide⟩ ⟨Nat.le_of_ble_eq_true rfl, Nat.le_of_ble_eq_true rfl⟩ (k_X8_init (F := 0) (by decide) x0 e0) (fun _ _ z => z) ?_
  rintro v M1 ⟨hv, n1, x1, cb⟩
  subst hv
  show WW G IL_law _ 7 _ [.ref x] M1 350 3231
  refine r_astore_n (j := 1) (dk kL_law_p0 3 rfl) rfl (by decide) rfl ?_
  simp only [List.set_cons_succ, List.set_cons_zero]
  -- at 8
  refine r_new (I := IL_law) (k := 350) (n := 3231) (ci := 8) (dk kL_law_p0 4 rfl) nw_L_168 ⟨Nat.le_of_ble_eq_true rfl, Nat.le_of_ble_eq_true rfl⟩ ?_
  have e1 : CE (sN M1 9 0) (x + 350) 9 0 (fun _ => 0) (fun _ => none) := x1 ▸ CE.new M1 9 0
  have x2 : nx (sN M1 9 0) = x + 350 + 1 := congrArg (· + 1) x1
  have nb1 : NB M1 (x + 350) (sN M1 9 0) := x1 ▸ NB.sN M1 9 0
  rw [x1]
  refine r_dup (dk kL_law_p0 5 rfl) rfl ?_
  -- at 12
  refine r_callI (as := []) (I' := IX9_init) (dk kL_law_p0 6 rfl) mi_X9_init rfl ml_L_170 rfl rfl rfl (Nat.le_of_ble_eq_true rfl) ⟨by decide, by decide⟩ ⟨Nat.le_of_ble_eq_true rfl, Nat.le_of_ble_eq_true rfl⟩ (k_X9_init x2 e1) (fun _ _ z => z) ?_
  rintro v M2 ⟨hv, n2, x3, rb⟩
  subst hv
  show WW G IL_law _ 15 _ [.ref (x + 350)] M2 359 (3231 + nF 8 + 2700)
  have cb2 := cb0_nb cb (nb1.tr n2 (Nat.le_refl _))
  clear cb n1 n2 e0 e1 x0 x1 x2 nb1
  refine r_astore_n (j := 2) (dk kL_law_p0 7 rfl) rfl (by decide) rfl ?_
  simp only [List.set_cons_succ, List.set_cons_zero]
  refine r_iconst (v := 1) (dk kL_law_p0 8 rfl) (by decide) ?_
  -- at 17
  refine r_newJ (I := IL_law) (x := 1) (N := 1) (dk kL_law_p0 9 rfl) w_arr_long (by decide) (by decide) (by decide) ⟨Nat.le_of_ble_eq_true rfl, Nat.le_of_ble_eq_true rfl⟩ ?_
  have f1 := sN_new M2 22 1
  have nb2 : NB M2 (x + 359) (sN M2 22 1) := by rw [← x3]; exact NB.sN M2 22 1
  have x4 : nx (sN M2 22 1) = x + 360 := congrArg (· + 1) x3
  rw [x3] at f1 ⊢
  have rb3 := rb_nb rb nb2
  have cb3 := cb0_nb cb2 (nb2.le (by omega))
  generalize sN M2 22 1 = M3 at *
  refine r_astore_n (j := 3) (dk kL_law_p0 10 rfl) rfl (by decide) rfl ?_
  simp only [List.set_cons_succ, List.set_cons_zero]
  refine r_iconst (v := 1) (dk kL_law_p0 11 rfl) (by decide) ?_
  -- at 21
  refine r_newD (I := IL_law) (x := 1) (N := 1) (dk kL_law_p0 12 rfl) w_arr_double (by decide) (by decide) (by decide) ⟨Nat.le_of_ble_eq_true rfl, Nat.le_of_ble_eq_true rfl⟩ ?_
  have f2 := sN_new M3 23 1
  have nb3 : NB M3 (x + 360) (sN M3 23 1) := by rw [← x4]; exact NB.sN M3 23 1
  rw [x4] at f2 ⊢
  have rb4 := rb_nb rb3 (nb3.le (by omega))
  have cb4 := cb0_nb cb3 (nb3.le (by omega))
  have f3 := nb3 (x + 359) (by omega)
  generalize sN M3 23 1 = M4 at *
  refine r_astore (dk kL_law_p0 13 rfl) (by decide) rfl ?_
  simp only [List.set_cons_succ, List.set_cons_zero]
  refine r_iconst (v := 0) (dk kL_law_p0 14 rfl) (by decide) ?_
  refine r_istore (dk kL_law_p0 15 rfl) (by decide) rfl ?_
  simp only [List.set_cons_succ, List.set_cons_zero]
  -- at 28
  have lv : LV 0 M4 x B0 := ⟨cb4, rb4, Or.inl rfl, f3.1.trans f1.1, f3.2.1.trans f1.2.1, f2.1, f2.2.1⟩
  exact w_loop hP hN 600 0 (by omega) (by omega) 0 M4 B0 _ _ _ _ _ lv (by omega) (Nat.le_of_ble_eq_true rfl) (Nat.le_of_ble_eq_true rfl)
end LAW
