/-! CONSTRUCTORS: the board -/
def g0 : Nat → Int32 := va_up (fun _ => 0) 2 2
/-- a new board -/
def B0 : BS := (g0, (0, fun _ _ => 0), none, (0, fun _ => 0), (fun _ => 0, 0), -1, (0, 0, 0, 0))
theorem GI_g0 {F : Nat} (hF : F < 2 ^ 30) : GI F g0 := by
  have z0 : gn g0 0 = 0 := rfl
  have z1 : gn g0 1 = 0 := rfl
  have z3 : gn g0 3 = 0 := rfl
  have z5 : gn g0 5 = 0 := rfl
  refine ⟨hF, ⟨rfl, by decide⟩, ⟨rfl, by decide⟩, ⟨rfl, by decide⟩, ⟨rfl, by decide⟩, ⟨rfl, Nat.succ_pos F⟩, ⟨rfl, by decide⟩, fun k h => ?_, fun k h => ?_, fun k h => ?_, fun j k _ h => ?_, fun r h => ?_⟩
  all_goals omega
theorem GU_g0 : GU g0 := fun j k _ h => by
  have z3 : gn g0 3 = 0 := rfl
  omega
theorem BI_0 {F : Nat} (hF : F < 2 ^ 30) : BI F B0 := ⟨⟨GI_g0 hF, GU_g0⟩, Nat.zero_le 8, fun j h => absurd h (Nat.not_lt_zero j), fun s h => by cases h⟩
def oX (x : Nat) : Nat → Nat
  | 0 => x + 1
  | 1 => x + 31
  | 2 => x + 61
  | 3 => x + 333
  | 4 => x + 335
  | 5 => x + 337
  | _ => x + 349
theorem HO.ex {M M' : Mm} {a d c : Nat} (o : HO M a) (e : EX M M' d c) (h : a + 272 ≤ c) (hd : d < a ∨ a + 272 ≤ d) : HO M' a := by
  obtain ⟨k0, k1, l1, r0, rj, ne, so⟩ := o
  obtain ⟨b1, b2, b3, b4, -⟩ := e a (by omega) (by omega)
  obtain ⟨c1, c2, c3, c4, -⟩ := e (a + 1) (by omega) (by omega)
  have hp : ∀ j, hA M' a j = hA M a j := fun j => by unfold hA; rw [c4]
  refine ⟨b1.trans k0, c1.trans k1, c2.trans l1, by rw [b4]; exact r0, fun j hj => ?_, fun i j hij hj => ?_, fun i hi => (so i hi).ex e (by omega) (by omega)⟩
  · rw [hp, c4]
    exact rj j hj
  · rw [hp, hp]
    exact ne i j hij hj
theorem RO.ex {M M' : Mm} {r d c : Nat} (o : RO M r) (e : EX M M' d c) (h : r + 12 ≤ c) (hd : d < r ∨ r + 12 ≤ d) : RO M' r := by
  obtain ⟨k0, r0, k1, l1, cj⟩ := o
  obtain ⟨b1, b2, b3, b4, -⟩ := e r (by omega) (by omega)
  obtain ⟨c1, c2, c3, c4, -⟩ := e (r + 1) (by omega) (by omega)
  refine ⟨b1.trans k0, by rw [b4]; exact r0, c1.trans k1, c2.trans l1, fun j hj => ⟨?_, ?_⟩⟩
  · rw [c4]
    exact (cj j hj).1
  · rw [(e (r + 2 + j) (by omega) (by omega)).1]
    exact (cj j hj).2
section STEP
variable {M M1 : Mm} {x c i k : Nat}
theorem ex_mk {v : Option Nat} (n : NB (sN M k 0) c M1) (hx : c ≤ nx M) : EX M (sR M1 x i v) x c := ((EX.sN M k 0 x hx).tr (EX.nb n x (Nat.le_refl c))).tr (EX.put M1 x i v c)
theorem ar_mk {o : Nat → Nat} (f : AR M x 8 0 i o) (n : NB (sN M k 0) c M1) (hx : nx M = c) (hc : x < c) : AR M1 x 8 0 i o := (f.sN k 0 (by omega)).ex (EX.nb n (x + 1) (Nat.le_refl c)) hc (by omega)
end STEP
section CLASS
variable {G : GG} {M : Mm} {x F : Nat}
/-- what a new board is -/
theorem k_X8_init (hF : F < 2 ^ 30) (hx : nx M = x + 1) (e0 : CE M x 8 0 (fun _ => 0) (fun _ => none)) : KK G IX8_init [.ref x] M (qv (fun M' => NB M x M' ∧ nx M' = x + 350 ∧ CB F M' x B0) nox) := by
  have f0 := e0.ar rfl (oX x)
  refine KK.ofW (by decide) (by simp [Value.category]) (Nat.le_of_ble_eq_true rfl) rfl ?_
  show WW _ _ _ 0 [_] [] _ _ _
  refine r_aload_n (dk kX8_init 0 rfl) rfl ?_
  refine r_obj (dk kX8_init 1 rfl) ml_X8_3 w_objI w_objC (by decide) (Nat.le_of_ble_eq_true rfl) ?_
  refine r_aload_n (dk kX8_init 2 rfl) rfl ?_
  -- at 5
  refine r_new (I := IX8_init) (k := 0) (n := 0) (ci := 5) (dk kX8_init 3 rfl) nw_X8_9 ⟨Nat.le_of_ble_eq_true rfl, Nat.le_of_ble_eq_true rfl⟩ ?_
  have hn1 : CE (sN M 6 0) (x + 1) 6 0 (fun _ => 0) (fun _ => none) := hx ▸ CE.new M 6 0
  have hx1 : nx (sN M 6 0) = x + 1 + 1 := congrArg (· + 1) hx
  rw [hx]
  refine r_dup (dk kX8_init 4 rfl) rfl ?_
  -- at 9
  refine r_callI (as := []) (I' := IX6_init) (dk kX8_init 5 rfl) mi_X6_init rfl ml_X8_11 rfl rfl rfl (Nat.le_of_ble_eq_true rfl) ⟨by decide, by decide⟩ ⟨Nat.le_of_ble_eq_true rfl, Nat.le_of_ble_eq_true rfl⟩ (k_X6_init hx1 hn1) (fun _ _ z => z) ?_
  rintro v M' ⟨hv, n1, n2, n3, n4⟩
  subst hv
  show WW G IX8_init _ 12 _ _ M' 30 272
  have g1 := ar_mk f0 n1 hx (by omega)
  refine r_putF (Cn := "") (dk kX8_init 6 rfl) fa_X8_12_7 g1.1 rfl rfl rfl rfl rfl rfl ?_
  refine r_aload_n (dk kX8_init 7 rfl) rfl ?_
  -- at 16
  have f1 : AR (sR M' x 0 (some (x + 1))) x 8 0 1 (oX x) := g1.put rfl rfl
  have q1 : EX M (sR M' x 0 (some (x + 1))) x (x + 1) := ex_mk n1 (by omega)
  have b1 := (NB.rfl M x).ex q1 (Nat.le_refl x) (by omega)
  have s1 : SO (sR M' x 0 (some (x + 1))) (x + 1) := n3.ex (EX.put M' x 0 (some (x + 1)) (x + 31)) (by omega) (by omega)
  have t1 : mi (sR M' x 0 (some (x + 1))) (x + 1) = va_up (fun _ => 0) 9 2 := n4
  have x1 : nx (sR M' x 0 (some (x + 1))) = x + 31 := n2
  generalize sR M' x 0 (some (x + 1)) = M1 at *
  clear n1 n2 n3 n4 g1 f0 hn1 hx1 q1
  refine r_new (I := IX8_init) (k := 30) (n := 272) (ci := 5) (dk kX8_init 8 rfl) nw_X8_9 ⟨Nat.le_of_ble_eq_true rfl, Nat.le_of_ble_eq_true rfl⟩ ?_
  have hn1 : CE (sN M1 6 0) (x + 31) 6 0 (fun _ => 0) (fun _ => none) := x1 ▸ CE.new M1 6 0
  have hx1 : nx (sN M1 6 0) = x + 31 + 1 := congrArg (· + 1) x1
  rw [x1]
  refine r_dup (dk kX8_init 9 rfl) rfl ?_
  -- at 20
  refine r_callI (as := []) (I' := IX6_init) (dk kX8_init 10 rfl) mi_X6_init rfl ml_X8_11 rfl rfl rfl (Nat.le_of_ble_eq_true rfl) ⟨by decide, by decide⟩ ⟨Nat.le_of_ble_eq_true rfl, Nat.le_of_ble_eq_true rfl⟩ (k_X6_init hx1 hn1) (fun _ _ z => z) ?_
  rintro v N ⟨hv, n1, n2, n3, n4⟩
  subst hv
  show WW G IX8_init _ 23 _ _ N 60 544
  have g1 := ar_mk f1 n1 x1 (by omega)
  refine r_putF (Cn := "") (dk kX8_init 11 rfl) fa_X8_16_7 g1.1 rfl rfl rfl rfl rfl rfl ?_
  refine r_aload_n (dk kX8_init 12 rfl) rfl ?_
  -- at 27
  have f2 : AR (sR N x 1 (some (x + 31))) x 8 0 2 (oX x) := g1.put rfl rfl
  have q2 : EX M1 (sR N x 1 (some (x + 31))) x (x + 31) := ex_mk n1 (by omega)
  have b2 := b1.ex q2 (Nat.le_refl x) (by omega)
  have s1 := s1.ex q2 (by omega) (by omega)
  have t1 := (q2 (x + 1) (by omega) (by omega)).2.2.1.trans t1
  have s2 : SO (sR N x 1 (some (x + 31))) (x + 31) := n3.ex (EX.put N x 1 (some (x + 31)) (x + 61)) (by omega) (by omega)
  have x2 : nx (sR N x 1 (some (x + 31))) = x + 61 := n2
  generalize sR N x 1 (some (x + 31)) = M2 at *
  clear n1 n2 n3 n4 g1 f1 hn1 hx1 q2 b1 x1
  refine r_new (I := IX8_init) (k := 60) (n := 544) (ci := 1) (dk kX8_init 13 rfl) nw_X8_19 ⟨Nat.le_of_ble_eq_true rfl, Nat.le_of_ble_eq_true rfl⟩ ?_
  have hn1 : CE (sN M2 2 0) (x + 61) 2 0 (fun _ => 0) (fun _ => none) := x2 ▸ CE.new M2 2 0
  have hx1 : nx (sN M2 2 0) = x + 61 + 1 := congrArg (· + 1) x2
  rw [x2]
  refine r_dup (dk kX8_init 14 rfl) rfl ?_
  -- at 31
  refine r_callI (as := []) (I' := IX2_init) (dk kX8_init 15 rfl) mi_X2_init rfl ml_X8_21 rfl rfl rfl (Nat.le_of_ble_eq_true rfl) ⟨by decide, by decide⟩ ⟨Nat.le_of_ble_eq_true rfl, Nat.le_of_ble_eq_true rfl⟩ (k_X2_init hx1 hn1) (fun _ _ z => z) ?_
  rintro v N ⟨hv, n1, n2, n3, n4⟩
  subst hv
  show WW G IX8_init _ 34 _ _ N 332 3003
  have g1 := ar_mk f2 n1 x2 (by omega)
  refine r_putF (Cn := "") (dk kX8_init 16 rfl) fa_X8_22_7 g1.1 rfl rfl rfl rfl rfl rfl ?_
  refine r_aload_n (dk kX8_init 17 rfl) rfl ?_
  -- at 38
  have f3 : AR (sR N x 2 (some (x + 61))) x 8 0 3 (oX x) := g1.put rfl rfl
  have q2 : EX M2 (sR N x 2 (some (x + 61))) x (x + 61) := ex_mk n1 (by omega)
  have b3 := b2.ex q2 (Nat.le_refl x) (by omega)
  have s1 := s1.ex q2 (by omega) (by omega)
  have t1 := (q2 (x + 1) (by omega) (by omega)).2.2.1.trans t1
  have s2 := s2.ex q2 (by omega) (by omega)
  have s3 : HO (sR N x 2 (some (x + 61))) (x + 61) := n3.ex (EX.put N x 2 (some (x + 61)) (x + 333)) (by omega) (by omega)
  have t3 : mi (sR N x 2 (some (x + 61))) (x + 61) = (fun _ => 0) := n4
  have x3 : nx (sR N x 2 (some (x + 61))) = x + 333 := n2
  generalize sR N x 2 (some (x + 61)) = M3 at *
  clear n1 n2 n3 n4 g1 f2 hn1 hx1 q2 b2 x2
  refine r_new (I := IX8_init) (k := 332) (n := 3003) (ci := 2) (dk kX8_init 18 rfl) nw_X8_26 ⟨Nat.le_of_ble_eq_true rfl, Nat.le_of_ble_eq_true rfl⟩ ?_
  have hn1 : CE (sN M3 3 0) (x + 333) 3 0 (fun _ => 0) (fun _ => none) := x3 ▸ CE.new M3 3 0
  have hx1 : nx (sN M3 3 0) = x + 333 + 1 := congrArg (· + 1) x3
  rw [x3]
  refine r_dup (dk kX8_init 19 rfl) rfl ?_
  -- at 42
  refine r_callIN (as := []) (I' := IX3_init) (dk kX8_init 20 rfl) mi_X3_init rfl nwm_5 rfl rfl rfl (Nat.le_of_ble_eq_true rfl) ⟨by decide, by decide⟩ ⟨Nat.le_of_ble_eq_true rfl, Nat.le_of_ble_eq_true rfl⟩ (k_X3_init hx1 hn1) (fun _ _ z => z) ?_
  rintro v N ⟨hv, n1, n2, n3, n4⟩
  subst hv
  show WW G IX8_init _ 45 _ _ N 334 3065
  have g1 := ar_mk f3 n1 x3 (by omega)
  refine r_putF (Cn := "") (dk kX8_init 21 rfl) fa_X8_29_7 g1.1 rfl rfl rfl rfl rfl rfl ?_
  refine r_aload_n (dk kX8_init 22 rfl) rfl ?_
  -- at 49
  have f4 : AR (sR N x 3 (some (x + 333))) x 8 0 4 (oX x) := g1.put rfl rfl
  have q2 : EX M3 (sR N x 3 (some (x + 333))) x (x + 333) := ex_mk n1 (by omega)
  have b4 := b3.ex q2 (Nat.le_refl x) (by omega)
  have s1 := s1.ex q2 (by omega) (by omega)
  have t1 := (q2 (x + 1) (by omega) (by omega)).2.2.1.trans t1
  have s2 := s2.ex q2 (by omega) (by omega)
  have s3 := s3.ex q2 (by omega) (by omega)
  have t3 := (q2 (x + 61) (by omega) (by omega)).2.2.1.trans t3
  have s4 : LO (sR N x 3 (some (x + 333))) (x + 333) := n3.ex (EX.put N x 3 (some (x + 333)) (x + 335)) (by omega) (by omega)
  have t4 : mi (sR N x 3 (some (x + 333))) (x + 333) 1 = 0 := n4
  have x4 : nx (sR N x 3 (some (x + 333))) = x + 335 := n2
  generalize sR N x 3 (some (x + 333)) = M4 at *
  clear n1 n2 n3 n4 g1 f3 hn1 hx1 q2 b3 x3
  refine r_new (I := IX8_init) (k := 334) (n := 3065) (ci := 2) (dk kX8_init 23 rfl) nw_X8_26 ⟨Nat.le_of_ble_eq_true rfl, Nat.le_of_ble_eq_true rfl⟩ ?_
  have hn1 : CE (sN M4 3 0) (x + 335) 3 0 (fun _ => 0) (fun _ => none) := x4 ▸ CE.new M4 3 0
  have hx1 : nx (sN M4 3 0) = x + 335 + 1 := congrArg (· + 1) x4
  rw [x4]
  refine r_dup (dk kX8_init 24 rfl) rfl ?_
  -- at 53
  refine r_callIN (as := []) (I' := IX3_init) (dk kX8_init 25 rfl) mi_X3_init rfl nwm_5 rfl rfl rfl (Nat.le_of_ble_eq_true rfl) ⟨by decide, by decide⟩ ⟨Nat.le_of_ble_eq_true rfl, Nat.le_of_ble_eq_true rfl⟩ (k_X3_init hx1 hn1) (fun _ _ z => z) ?_
  rintro v N ⟨hv, n1, n2, n3, n4⟩
  subst hv
  show WW G IX8_init _ 56 _ _ N 336 3127
  have g1 := ar_mk f4 n1 x4 (by omega)
  refine r_putF (Cn := "") (dk kX8_init 26 rfl) fa_X8_33_7 g1.1 rfl rfl rfl rfl rfl rfl ?_
  refine r_aload_n (dk kX8_init 27 rfl) rfl ?_
  -- at 60
  have f5 : AR (sR N x 4 (some (x + 335))) x 8 0 5 (oX x) := g1.put rfl rfl
  have q2 : EX M4 (sR N x 4 (some (x + 335))) x (x + 335) := ex_mk n1 (by omega)
  have b5 := b4.ex q2 (Nat.le_refl x) (by omega)
  have s1 := s1.ex q2 (by omega) (by omega)
  have t1 := (q2 (x + 1) (by omega) (by omega)).2.2.1.trans t1
  have s2 := s2.ex q2 (by omega) (by omega)
  have s3 := s3.ex q2 (by omega) (by omega)
  have t3 := (q2 (x + 61) (by omega) (by omega)).2.2.1.trans t3
  have s4 := s4.ex q2 (by omega) (by omega)
  have t4 : mi (sR N x 4 (some (x + 335))) (x + 333) 1 = 0 := by rw [(q2 (x + 333) (by omega) (by omega)).2.2.1]; exact t4
  have s5 : LO (sR N x 4 (some (x + 335))) (x + 335) := n3.ex (EX.put N x 4 (some (x + 335)) (x + 337)) (by omega) (by omega)
  have t5 : mi (sR N x 4 (some (x + 335))) (x + 335) 1 = 0 := n4
  have x5 : nx (sR N x 4 (some (x + 335))) = x + 337 := n2
  generalize sR N x 4 (some (x + 335)) = M5 at *
  clear n1 n2 n3 n4 g1 f4 hn1 hx1 q2 b4 x4
  refine r_new (I := IX8_init) (k := 336) (n := 3127) (ci := 6) (dk kX8_init 28 rfl) nw_X8_36 ⟨Nat.le_of_ble_eq_true rfl, Nat.le_of_ble_eq_true rfl⟩ ?_
  have hn1 : CE (sN M5 7 0) (x + 337) 7 0 (fun _ => 0) (fun _ => none) := x5 ▸ CE.new M5 7 0
  have hx1 : nx (sN M5 7 0) = x + 337 + 1 := congrArg (· + 1) x5
  rw [x5]
  refine r_dup (dk kX8_init 29 rfl) rfl ?_
  -- at 64
  refine r_callI (as := []) (I' := IX7_init) (dk kX8_init 30 rfl) mi_X7_init rfl ml_X8_38 rfl rfl rfl (Nat.le_of_ble_eq_true rfl) ⟨by decide, by decide⟩ ⟨Nat.le_of_ble_eq_true rfl, Nat.le_of_ble_eq_true rfl⟩ (k_X7_init hx1 hn1) (fun _ _ z => z) ?_
  rintro v N ⟨hv, n1, n2, n3⟩
  subst hv
  show WW G IX8_init _ 67 _ _ N 348 3200
  have g1 := ar_mk f5 n1 x5 (by omega)
  refine r_putF (Cn := "") (dk kX8_init 31 rfl) fa_X8_39_7 g1.1 rfl rfl rfl rfl rfl rfl ?_
  refine r_aload_n (dk kX8_init 32 rfl) rfl ?_
  refine r_bipush (v := 16) (dk kX8_init 33 rfl) (by decide) ?_
  -- at 73
  have f6 : AR (sR N x 5 (some (x + 337))) x 8 0 6 (oX x) := g1.put rfl rfl
  have q2 : EX M5 (sR N x 5 (some (x + 337))) x (x + 337) := ex_mk n1 (by omega)
  have b6 := b5.ex q2 (Nat.le_refl x) (by omega)
  have s1 := s1.ex q2 (by omega) (by omega)
  have t1 := (q2 (x + 1) (by omega) (by omega)).2.2.1.trans t1
  have s2 := s2.ex q2 (by omega) (by omega)
  have s3 := s3.ex q2 (by omega) (by omega)
  have t3 := (q2 (x + 61) (by omega) (by omega)).2.2.1.trans t3
  have s4 := s4.ex q2 (by omega) (by omega)
  have t4 : mi (sR N x 5 (some (x + 337))) (x + 333) 1 = 0 := by rw [(q2 (x + 333) (by omega) (by omega)).2.2.1]; exact t4
  have s5 := s5.ex q2 (by omega) (by omega)
  have t5 : mi (sR N x 5 (some (x + 337))) (x + 335) 1 = 0 := by rw [(q2 (x + 335) (by omega) (by omega)).2.2.1]; exact t5
  have s6 : RO (sR N x 5 (some (x + 337))) (x + 337) := n3.ex (EX.put N x 5 (some (x + 337)) (x + 349)) (by omega) (by omega)
  have x6 : nx (sR N x 5 (some (x + 337))) = x + 349 := n2
  generalize sR N x 5 (some (x + 337)) = M6 at *
  clear n1 n2 n3 g1 f5 hn1 hx1 q2 b5 x5
  refine r_newI (I := IX8_init) (k := 348) (n := 3200) (x := 16) (N := 16) (dk kX8_init 34 rfl) w_arr_int (by decide) (by decide) (by decide) ⟨Nat.le_of_ble_eq_true rfl, Nat.le_of_ble_eq_true rfl⟩ ?_
  rw [x6]
  have g1 := f6.sN 20 16 (by omega)
  refine r_putF (Cn := "") (dk kX8_init 35 rfl) fa_X8_43_7 g1.1 rfl rfl rfl rfl rfl rfl ?_
  refine r_aload_n (dk kX8_init 36 rfl) rfl ?_
  refine r_iconst (v := (-1)) (dk kX8_init 37 rfl) (by decide) ?_
  -- at 80
  have f7 : AR (sR (sN M6 20 16) x 6 (some (x + 349))) x 8 0 7 (oX x) := g1.put rfl rfl
  have q2 : EX M6 (sR (sN M6 20 16) x 6 (some (x + 349))) x (x + 349) := EX.np M6 20 16 x 6 _ (by omega)
  have b7 := b6.ex q2 (Nat.le_refl x) (by omega)
  have s1 := s1.ex q2 (by omega) (by omega)
  have t1 := (q2 (x + 1) (by omega) (by omega)).2.2.1.trans t1
  have s2 := s2.ex q2 (by omega) (by omega)
  have s3 := s3.ex q2 (by omega) (by omega)
  have t3 := (q2 (x + 61) (by omega) (by omega)).2.2.1.trans t3
  have s4 := s4.ex q2 (by omega) (by omega)
  have t4 : mi (sR (sN M6 20 16) x 6 (some (x + 349))) (x + 333) 1 = 0 := by rw [(q2 (x + 333) (by omega) (by omega)).2.2.1]; exact t4
  have s5 := s5.ex q2 (by omega) (by omega)
  have t5 : mi (sR (sN M6 20 16) x 6 (some (x + 349))) (x + 335) 1 = 0 := by rw [(q2 (x + 335) (by omega) (by omega)).2.2.1]; exact t5
  have s6 := s6.ex q2 (by omega) (by omega)
  have a7 : AR (sR (sN M6 20 16) x 6 (some (x + 349))) (x + 349) 20 16 0 (fun j => j) := (x6 ▸ AR.new M6 20 16 _).put_n (by omega)
  have x7 : nx (sR (sN M6 20 16) x 6 (some (x + 349))) = x + 350 := congrArg (· + 1) x6
  generalize sR (sN M6 20 16) x 6 (some (x + 349)) = N at *
  clear g1 f6 q2 b6 x6
  refine r_puti (dk kX8_init 38 rfl) fa_X8_47_7 f7.1 rfl rfl rfl rfl ?_
  -- at 83
  refine r_return (I := IX8_init) (k := 349) (n := 3216) (dk kX8_init 39 rfl) rfl ⟨Nat.le_of_ble_eq_true rfl, Nat.le_of_ble_eq_true rfl⟩ ⟨b7.tr (NB.sI 8 _ (Nat.le_refl x)) (Nat.le_refl x), x7, ?_⟩
  have hm : mi (sI N x 8 (-1)) x = va_up (fun _ => 0) 8 (-1) := by rw [mi_sI_s, f7.2.2.1]
  have hn : ∀ c, c ≠ x → mi (sI N x 8 (-1)) c = mi N c := fun c hc => mi_sI_n _ _ _ hc
  refine ⟨⟨f7.1, ⟨f7.2.2.2 0 (by decide), f7.2.2.2 1 (by decide), f7.2.2.2 2 (by decide), f7.2.2.2 3 (by decide), f7.2.2.2 4 (by decide), f7.2.2.2 5 (by decide), f7.2.2.2 6 (by decide)⟩, s1, s2, s3, s4, s5, s6, a7.1, a7.2.1⟩, BI_0 hF, ⟨fun j => j, ?_⟩, ⟨?_, fun s h => by cases h⟩, ⟨?_, fun j h => absurd h (Nat.not_lt_zero j)⟩, ⟨s4, ?_, by decide, fun j h => absurd h (Nat.not_lt_zero j), fun j h => absurd h (Nat.not_lt_zero j)⟩, ⟨?_, by decide, fun j h => absurd h (Nat.not_lt_zero j), fun j h => absurd h (Nat.not_lt_zero j)⟩, ?_, ?_, ?_, ?_, ?_⟩
  · have t1 := (hn (x + 1) (by omega)).trans t1
    refine ⟨?_, fun j h => absurd h (Nat.not_lt_zero j), fun j h => absurd h (Nat.not_lt_zero j), ⟨fun j h => absurd h (Nat.not_lt_zero j), fun i j _ h => absurd h (Nat.not_lt_zero j)⟩, fun j h => absurd h (Nat.not_lt_zero j), fun j h => absurd h (Nat.not_lt_zero j)⟩
    rw [t1]
    exact ⟨rfl, rfl, rfl, rfl, rfl, rfl, rfl, rfl, rfl⟩
  · rw [hm]; rfl
  · rw [hn _ (by omega), t3]; rfl
  · rw [hn _ (by omega), t4]; rfl
  · rw [hn _ (by omega), t5]; rfl
  · rw [hm]; rfl
  · rw [hm]; rfl
  · rw [hm]; rfl
  · rw [hm]; rfl
  · rw [hm]; rfl
end CLASS
