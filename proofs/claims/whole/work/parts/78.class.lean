/-! CONSTRUCTORS: the board -/
def g0 : Nat → Int32 := va_up (fun _ => 0) 2 2
/-- a new board -/
def B0 : BS := (g0, (0, fun _ _ => 0), none, (0, fun _ => 0), (fun _ => 0, 0), -1, (0, 0, 0, 0))
theorem GI_g0 {F : Nat} (hF : F < 2 ^ 30) : GI F g0 := by
  have z0 : gn g0 0 = 0 := rfl
  have z1 : gn g0 1 = 0 := rfl
  have z3 : gn g0 3 = 0 := rfl
  have z5 : gn g0 5 = 0 := rfl
  refine ⟨hF, ⟨rfl, by decide⟩, ⟨rfl, by decide⟩, ⟨rfl, by decide⟩, ⟨rfl, by decide⟩, ⟨rfl, Nat.succ_pos F⟩, ⟨rfl, by decide⟩, fun k h => ?_, fun k h => ?_, fun k h => ?_, fun j k _ h => ?_, fun r h => ?_⟩
  all_goals omega
theorem GU_g0 : GU g0 := fun j k _ h => by
  have z3 : gn g0 3 = 0 := rfl
  omega
theorem BI_0 {F : Nat} (hF : F < 2 ^ 30) : BI F B0 := ⟨⟨GI_g0 hF, GU_g0⟩, Nat.zero_le 8, fun j h => absurd h (Nat.not_lt_zero j), fun s h => by cases h⟩
def oX (x : Nat) : Nat → Nat
  | 0 => x + 1
  | 1 => x + 31
  | 2 => x + 61
  | 3 => x + 333
  | 4 => x + 335
  | 5 => x + 337
  | _ => x + 349
theorem HO.ex {M M' : Mm} {a d c : Nat} (o : HO M a) (e : EX M M' d c) (h : a + 272 ≤ c) (hd : d < a ∨ a + 272 ≤ d) : HO M' a := by
  obtain ⟨k0, k1, l1, r0, rj, ne, so⟩ := o
  obtain ⟨b1, b2, b3, b4, -⟩ := e a (by omega) (by omega)
  obtain ⟨c1, c2, c3, c4, -⟩ := e (a + 1) (by omega) (by omega)
  have hp : ∀ j, hA M' a j = hA M a j := fun j => by unfold hA; rw [c4]
  refine ⟨b1.trans k0, c1.trans k1, c2.trans l1, by rw [b4]; exact r0, fun j hj => ?_, fun i j hij hj => ?_, fun i hi => (so i hi).ex e (by omega) (by omega)⟩
  · rw [hp, c4]
    exact rj j hj
  · rw [hp, hp]
    exact ne i j hij hj
theorem RO.ex {M M' : Mm} {r d c : Nat} (o : RO M r) (e : EX M M' d c) (h : r + 12 ≤ c) (hd : d < r ∨ r + 12 ≤ d) : RO M' r := by
  obtain ⟨k0, r0, k1, l1, cj⟩ := o
  obtain ⟨b1, b2, b3, b4, -⟩ := e r (by omega) (by omega)
  obtain ⟨c1, c2, c3, c4, -⟩ := e (r + 1) (by omega) (by omega)
  refine ⟨b1.trans k0, by rw [b4]; exact r0, c1.trans k1, c2.trans l1, fun j hj => ⟨?_, ?_⟩⟩
  · rw [c4]
    exact (cj j hj).1
  · rw [(e (r + 2 + j) (by omega) (by omega)).1]
    exact (cj j hj).2
section STEP
variable {M M1 : Mm} {x c i k : Nat}
theorem EX.mk {v : Option Nat} (n : NB (sN M k 0) c M1) (hx : c ≤ nx M) : EX M (sR M1 x i v) x c := ((EX.sN M k 0 x hx).tr (EX.nb n x (Nat.le_refl c))).tr (EX.put M1 x i v c)
theorem AR.mk {o : Nat → Nat} (f : AR M x 8 0 i o) (n : NB (sN M k 0) c M1) (hx : nx M = c) (hc : x < c) : AR M1 x 8 0 i o := (f.sN k 0 (by omega)).ex (EX.nb n (x + 1) (Nat.le_refl c)) hc (by omega)
end STEP
section CLASS
variable {G : GG} {M : Mm} {x F : Nat}
/-- what a new board is -/
theorem k_X8_init (hF : F < 2 ^ 30) (hx : nx M = x + 1) (e0 : CE M x 8 0 (fun _ => 0) (fun _ => none)) : KK G IX8_init [.ref x] M (qv (fun M' => NB M x M' ∧ nx M' = x + 350 ∧ CB F M' x B0) nox) := by
  have f0 := e0.ar rfl (oX x)
  refine KK.ofW (by decide) (by simp [Value.category]) (Nat.le_of_ble_eq_true rfl) rfl ?_
  show WW _ _ _ 0 [_] [] _ _ _
  refine r_aload_n (dk kX8_init 0 rfl) rfl ?_
  refine r_obj (dk kX8_init 1 rfl) ml_X8_3 w_objI w_objC (by decide) (Nat.le_of_ble_eq_true rfl) ?_
  refine r_aload_n (dk kX8_init 2 rfl) rfl ?_
  -- at 5
  refine r_new (I := IX8_init) (k := 0) (n := 0) (ci := 5) (dk kX8_init 3 rfl) nw_X8_9 ⟨Nat.le_of_ble_eq_true rfl, Nat.le_of_ble_eq_true rfl⟩ ?_
  have hn1 : CE (sN M 6 0) (x + 1) 6 0 (fun _ => 0) (fun _ => none) := hx ▸ CE.new M 6 0
  have hx1 : nx (sN M 6 0) = x + 1 + 1 := congrArg (· + 1) hx
  rw [hx]
  refine r_dup (dk kX8_init 4 rfl) rfl ?_
  -- at 9
  refine r_callI (as := []) (I' := IX6_init) (dk kX8_init 5 rfl) mi_X6_init rfl ml_X8_11 rfl rfl rfl (Nat.le_of_ble_eq_true rfl) ⟨by decide, by decide⟩ ⟨Nat.le_of_ble_eq_true rfl, Nat.le_of_ble_eq_true rfl⟩ (k_X6_init hx1 hn1) (fun _ _ z => z) ?_
  rintro v M' ⟨hv, n1, n2, n3, n4⟩
  subst hv
  show WW G IX8_init _ 12 _ _ M' 30 272
  have g1 := f0.mk n1 hx (by omega)
  refine r_putF (Cn := "") (dk kX8_init 6 rfl) fa_X8_12_7 g1.1 rfl rfl rfl rfl rfl rfl ?_
  refine r_aload_n (dk kX8_init 7 rfl) rfl ?_
  -- at 16
  have f1 : AR (sR M' x 0 (some (x + 1))) x 8 0 1 (oX x) := g1.put rfl rfl
  have q1 : EX M (sR M' x 0 (some (x + 1))) x (x + 1) := EX.mk n1 (by omega)
  have b1 := (NB.rfl M x).ex q1 (Nat.le_refl x) (by omega)
  have s1 : SO (sR M' x 0 (some (x + 1))) (x + 1) := n3.ex (EX.put M' x 0 (some (x + 1)) (x + 31)) (by omega) (by omega)
  have t1 : mi (sR M' x 0 (some (x + 1))) (x + 1) = va_up (fun _ => 0) 9 2 := n4
  have x1 : nx (sR M' x 0 (some (x + 1))) = x + 31 := n2
  generalize sR M' x 0 (some (x + 1)) = M1 at *
  sorry
end CLASS
