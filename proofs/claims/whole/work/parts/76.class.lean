/-! CONSTRUCTORS: a state -/
/-- a cell being filled: kind, length, all ints naught, the references below i -/
def AR (M : Mm) (c k l i : Nat) (o : Nat → Nat) : Prop := kd M c = k ∧ ln M c = l ∧ mi M c = (fun _ => 0) ∧ ∀ j, j < i → mr M c j = some (o j)
/-- all below c but s is as before -/
def EX (M M' : Mm) (s c : Nat) : Prop := ∀ d, d < c → d ≠ s → kd M' d = kd M d ∧ ln M' d = ln M d ∧ mi M' d = mi M d ∧ mr M' d = mr M d ∧ mj M' d = mj M d ∧ md M' d = md M d
theorem EX.np (M : Mm) (k n s i : Nat) (v : Option Nat) {c : Nat} (h : c ≤ nx M) : EX M (sR (sN M k n) s i v) s c := fun d hd hs => by
  obtain ⟨a1, a2, a3, a4, a5, a6⟩ := NB.sN M k n d (by omega)
  exact ⟨a1, a2, a3, (u2_n _ _ _ hs).trans a4, a5, a6⟩
theorem EX.sN (M : Mm) (k n s : Nat) {c : Nat} (h : c ≤ nx M) : EX M (sN M k n) s c := fun d hd _ => NB.sN M k n d (by omega)
theorem EX.nb {M M' : Mm} {a : Nat} (h : NB M a M') (s : Nat) {c : Nat} (hc : c ≤ a) : EX M M' s c := fun d hd _ => h d (by omega)
theorem EX.put (M : Mm) (s i : Nat) (v : Option Nat) (c : Nat) : EX M (sR M s i v) s c := fun _ _ hs => ⟨_root_.rfl, _root_.rfl, _root_.rfl, u2_n _ _ _ hs, _root_.rfl, _root_.rfl⟩
theorem EX.tr {M M' M2 : Mm} {s c : Nat} (h : EX M M' s c) (h2 : EX M' M2 s c) : EX M M2 s c := fun d hd hs => by
  obtain ⟨a1, a2, a3, a4, a5, a6⟩ := h d hd hs
  obtain ⟨b1, b2, b3, b4, b5, b6⟩ := h2 d hd hs
  exact ⟨b1.trans a1, b2.trans a2, b3.trans a3, b4.trans a4, b5.trans a5, b6.trans a6⟩
theorem NB.ex {M0 M M' : Mm} {a s c : Nat} (h : NB M0 a M) (e : EX M M' s c) (hs : a ≤ s) (hc : a ≤ c) : NB M0 a M' := fun d hd => by
  obtain ⟨a1, a2, a3, a4, a5, a6⟩ := h d hd
  obtain ⟨b1, b2, b3, b4, b5, b6⟩ := e d (by omega) (by omega)
  exact ⟨b1.trans a1, b2.trans a2, b3.trans a3, b4.trans a4, b5.trans a5, b6.trans a6⟩
section AR
variable {M M' : Mm} {c k l i : Nat} {o : Nat → Nat}
theorem AR.new (M : Mm) (k n : Nat) (o : Nat → Nat) : AR (sN M k n) (nx M) k n 0 o := ⟨(sN_new M k n).1, (sN_new M k n).2.1, (sN_new M k n).2.2.1, fun j hj => absurd hj (Nat.not_lt_zero j)⟩
theorem AR.ex (a : AR M c k l i o) {s b : Nat} (e : EX M M' s b) (hb : c < b) (hs : c ≠ s) : AR M' c k l i o := by
  obtain ⟨a1, a2, a3, a4, -⟩ := e c hb hs
  exact ⟨a1.trans a.1, a2.trans a.2.1, a3.trans a.2.2.1, fun j hj => by rw [a4]; exact a.2.2.2 j hj⟩
theorem AR.sN (a : AR M c k l i o) (k' n : Nat) (hb : c < nx M) : AR (sN M k' n) c k l i o := a.ex (s := c + 1) (EX.sN M k' n (c + 1) (Nat.le_refl _)) hb (by omega)
theorem AR.put (a : AR M c k l i o) {j v : Nat} (hj : j = i) (hv : v = o i) : AR (sR M c j (some v)) c k l (i + 1) o := ⟨a.1, a.2.1, a.2.2.1, fun j' h' => by
  subst hj
  by_cases h : j' = j
  · subst h
    rw [mr_sR, u2_s, va_up_self, hv]
  · rw [mr_sR, u2_s, va_up_ne _ _ h]
    exact a.2.2.2 j' (by omega)⟩
theorem AR.put_n (a : AR M c k l i o) {s j : Nat} {v : Option Nat} (hs : c ≠ s) : AR (sR M s j v) c k l i o := a.ex (EX.put M s j v (c + 1)) (by omega) hs
theorem CE.ar {f : Nat → Int32} {r : Nat → Option Nat} (e : CE M c k l f r) (hf : f = fun _ => 0) (o : Nat → Nat) : AR M c k l 0 o := ⟨e.1, e.2.1, e.2.2.1.trans hf, fun j hj => absurd hj (Nat.not_lt_zero j)⟩
end AR
/-- a state that is being made: i petitions and r rulings are there -/
def P6 (M0 M : Mm) (s i r : Nat) : Prop := NB M0 s M ∧ nx M = s + 6 + i + r ∧ AR M s 6 0 5 (fun j => s + 1 + j) ∧ AR M (s + 1) 20 10 0 (fun j => j) ∧ AR M (s + 2) 20 10 0 (fun j => j) ∧ AR M (s + 3) 20 6 0 (fun j => j) ∧ AR M (s + 4) 31 8 i (fun j => s + 6 + j) ∧ AR M (s + 5) 32 16 r (fun j => s + 14 + j) ∧ (∀ j, j < i → kd M (s + 6 + j) = 4) ∧ ∀ j, j < r → kd M (s + 14 + j) = 5
theorem P6.pet {M0 M : Mm} {s i : Nat} (h : P6 M0 M s i 0) : P6 M0 (sR (sN M 4 0) (s + 4) i (some (s + 6 + i))) s (i + 1) 0 := by
  obtain ⟨h1, h2, h3, h4, h5, h6, h7, h8, h9, h10⟩ := h
  have e := EX.np M 4 0 (s + 4) i (some (s + 6 + i)) (Nat.le_refl _)
  refine ⟨h1.ex e (by omega) (by omega), ?_, h3.ex e (by omega) (by omega), h4.ex e (by omega) (by omega), h5.ex e (by omega) (by omega), h6.ex e (by omega) (by omega), (h7.sN 4 0 (by omega)).put rfl rfl, h8.ex e (by omega) (by omega), fun j hj => ?_, fun j hj => absurd hj (Nat.not_lt_zero j)⟩
  · rw [show nx (sR (sN M 4 0) (s + 4) i (some (s + 6 + i))) = nx M + 1 from rfl, h2]
    omega
  · by_cases hh : j = i
    · subst hh
      have hn := (sN_new M 4 0).1
      rw [h2] at hn
      exact hn
    · rw [(e (s + 6 + j) (by omega) (by omega)).1]
      exact h9 j (by omega)
theorem P6.rul {M0 M : Mm} {s r : Nat} (h : P6 M0 M s 8 r) : P6 M0 (sR (sN M 5 0) (s + 5) r (some (s + 14 + r))) s 8 (r + 1) := by
  obtain ⟨h1, h2, h3, h4, h5, h6, h7, h8, h9, h10⟩ := h
  have e := EX.np M 5 0 (s + 5) r (some (s + 14 + r)) (Nat.le_refl _)
  refine ⟨h1.ex e (by omega) (by omega), ?_, h3.ex e (by omega) (by omega), h4.ex e (by omega) (by omega), h5.ex e (by omega) (by omega), h6.ex e (by omega) (by omega), h7.ex e (by omega) (by omega), (h8.sN 5 0 (by omega)).put rfl rfl, fun j hj => ?_, fun j hj => ?_⟩
  · rw [show nx (sR (sN M 5 0) (s + 5) r (some (s + 14 + r))) = nx M + 1 from rfl, h2]
    omega
  · rw [(e (s + 6 + j) (by omega) (by omega)).1]
    exact h9 j hj
  · by_cases hh : j = r
    · subst hh
      have hn := (sN_new M 5 0).1
      rw [h2] at hn
      exact hn
    · rw [(e (s + 14 + j) (by omega) (by omega)).1]
      exact h10 j (by omega)
theorem P6.so {M0 M : Mm} {s : Nat} (h : P6 M0 M s 8 16) : SO M s := by
  obtain ⟨h1, h2, h3, h4, h5, h6, h7, h8, h9, h10⟩ := h
  have hp : ∀ j, j < 8 → pA M s j = s + 6 + j := fun j hj => by unfold pA; rw [h7.2.2.2 j hj]; rfl
  refine ⟨⟨h3.1, h4.1, h5.1, h6.1, h7.1, h8.1⟩, ⟨h4.2.1, h5.2.1, h6.2.1, h7.2.1, h8.2.1⟩, ⟨h3.2.2.2 0 (by decide), h3.2.2.2 1 (by decide), h3.2.2.2 2 (by decide), h3.2.2.2 3 (by decide), h3.2.2.2 4 (by decide)⟩, fun a h1 h2 => ?_, fun j hj => ⟨h10 j hj, h8.2.2.2 j hj⟩, fun j hj => ?_, fun i j hij hj => ?_⟩
  · have hq := h9 (a - (s + 6)) (by omega)
    rwa [show s + 6 + (a - (s + 6)) = a by omega] at hq
  · rw [hp j hj]
    exact ⟨h7.2.2.2 j hj, by omega, by omega⟩
  · rw [hp i (by omega), hp j hj]
    omega
section CLASS
variable {G : GG} {M M0 : Mm} {a s : Nat}
theorem w_X6_rul {P : Mm → Prop} (hQ : ∀ M', P6 M0 M' s 8 16 → P (sI M' s 9 2)) : ∀ d r, r + d = 16 → ∀ k n, k = 13 + r → n = 146 + 7 * r → ∀ M, P6 M0 M s 8 r → WW G IX6_init (qv P nox) 75 [.ref s, .int (nI r)] [] M k n := by
  intro d
  induction d with
  | zero =>
    intro r hr k n hk hn M h
    have hr : r = 16 := hr
    subst hr
    subst hk
    subst hn
    refine r_iload_n (dk kX6_init 38 rfl) rfl ?_
    refine r_bipush (v := 16) (dk kX6_init 39 rfl) (by decide) ?_
    refine r_icmp_ge (tgt := 100) (dk kX6_init 40 rfl) (by decide) (fun c78 => ?_) (fun c78 => absurd (by decide) c78)
    refine r_aload_n (dk kX6_init 50 rfl) rfl ?_
    refine r_iconst (v := 2) (dk kX6_init 51 rfl) (by decide) ?_
    -- at 102
    refine r_puti (dk kX6_init 52 rfl) fa_X6_35_5 h.2.2.1.1 rfl rfl rfl rfl ?_
    -- at 105
    exact r_return (I := IX6_init) (k := 29) (n := 258) (dk kX6_init 53 rfl) rfl ⟨Nat.le_of_ble_eq_true rfl, Nat.le_of_ble_eq_true rfl⟩ (hQ M h)
  | succ d ih =>
    intro r hr k n hk hn M h
    have hx := h.2.1
    refine r_iload_n (dk kX6_init 38 rfl) rfl ?_
    refine r_bipush (v := 16) (dk kX6_init 39 rfl) (by decide) ?_
    refine r_icmp_ge (tgt := 100) (dk kX6_init 40 rfl) (by decide) (fun c78 => absurd c78 (show ¬ nI 16 ≤ nI r from nI_ge (by omega) (by omega))) (fun c78 => ?_)
    refine r_aload_n (dk kX6_init 41 rfl) rfl ?_
    refine r_getR (dk kX6_init 42 rfl) fa_X6_29_5 h.2.2.1.1 rfl (h.2.2.1.2.2.2 4 (by decide)) ?_
    refine r_iload_n (dk kX6_init 43 rfl) rfl ?_
    -- at 86
    refine r_new (ci := 4) (dk kX6_init 44 rfl) nw_X6_27 ⟨?_, ?_⟩ ?_
    · show k + 1 ≤ 29
      omega
    · show n + 7 ≤ 258
      omega
    have hn2 := h.rul
    have h5 := h.2.2.2.2.2.2.2.1.sN 5 0 (by omega)
    have hk5 := (sN_new M 5 0).1
    rw [hx, show s + 6 + 8 + r = s + 14 + r by omega] at hk5 ⊢
    refine r_dup (dk kX6_init 45 rfl) rfl ?_
    -- at 90
    refine r_ctorN (I' := IX5_init) (dk kX6_init 46 rfl) mi_X5_init rfl nwm_3 rfl rfl (Nat.le_of_ble_eq_true rfl) ⟨by decide, by decide⟩ ⟨rfl, rfl⟩ ⟨?_, ?_⟩ k_X5_init ?_
    · show k + 1 ≤ 29
      omega
    · show n + 7 ≤ 258
      omega
    refine r_aas (dk kX6_init 47 rfl) (t := 2) h5.1 (by decide) h5.2.1 (j := r) rfl (by omega) (by decide) hk5 ?_
    refine r_iinc (dk kX6_init 48 rfl) (by decide) rfl rfl rfl ?_
    simp only [List.set_cons_succ, List.set_cons_zero]
    -- at 97
    refine r_goto (tgt := 75) (dk kX6_init 49 rfl) (by decide) ?_
    -- at 75
    rw [show nI r + Int32.ofInt 1 = nI (r + 1) from nI_1 r]
    exact ih (r + 1) (by omega) (k + 1) (n + nF 4) (by omega) (by have : nF 4 = 7 := rfl; omega) _ hn2
theorem w_X6_pet {P : Mm → Prop} (hQ : ∀ M', P6 M0 M' s 8 16 → P (sI M' s 9 2)) : ∀ d i, i + d = 8 → ∀ k n, k = 5 + i → n = 50 + 12 * i → ∀ M, P6 M0 M s i 0 → WW G IX6_init (qv P nox) 48 [.ref s, .int (nI i)] [] M k n := by
  intro d
  induction d with
  | zero =>
    intro i hi k n hk hn M h
    have hi : i = 8 := hi
    subst hi
    refine r_iload_n (dk kX6_init 24 rfl) rfl ?_
    refine r_bipush (v := 8) (dk kX6_init 25 rfl) (by decide) ?_
    refine r_icmp_ge (tgt := 73) (dk kX6_init 26 rfl) (by decide) (fun c51 => ?_) (fun c51 => absurd (by decide) c51)
    refine r_iconst (v := 0) (dk kX6_init 36 rfl) (by decide) ?_
    refine r_istore_n (j := 1) (dk kX6_init 37 rfl) rfl (by decide) rfl ?_
    simp only [List.set_cons_succ, List.set_cons_zero]
    -- at 75
    exact w_X6_rul hQ 16 0 rfl _ _ hk hn M h
  | succ d ih =>
    intro i hi k n hk hn M h
    have hx := h.2.1
    refine r_iload_n (dk kX6_init 24 rfl) rfl ?_
    refine r_bipush (v := 8) (dk kX6_init 25 rfl) (by decide) ?_
    refine r_icmp_ge (tgt := 73) (dk kX6_init 26 rfl) (by decide) (fun c51 => absurd c51 (show ¬ nI 8 ≤ nI i from nI_ge (by omega) (by omega))) (fun c51 => ?_)
    refine r_aload_n (dk kX6_init 27 rfl) rfl ?_
    refine r_getR (dk kX6_init 28 rfl) fa_X6_23_5 h.2.2.1.1 rfl (h.2.2.1.2.2.2 3 (by decide)) ?_
    refine r_iload_n (dk kX6_init 29 rfl) rfl ?_
    -- at 59
    refine r_new (ci := 3) (dk kX6_init 30 rfl) nw_X6_21 ⟨?_, ?_⟩ ?_
    · show k + 1 ≤ 29
      omega
    · show n + 12 ≤ 258
      omega
    have hn2 := h.pet
    have h5 := h.2.2.2.2.2.2.1.sN 4 0 (by omega)
    have hk5 := (sN_new M 4 0).1
    rw [hx, Nat.add_zero] at hk5 ⊢
    refine r_dup (dk kX6_init 31 rfl) rfl ?_
    -- at 63
    refine r_ctorN (I' := IX4_init) (dk kX6_init 32 rfl) mi_X4_init rfl nwm_1 rfl rfl (Nat.le_of_ble_eq_true rfl) ⟨by decide, by decide⟩ ⟨rfl, rfl⟩ ⟨?_, ?_⟩ k_X4_init ?_
    · show k + 1 ≤ 29
      omega
    · show n + 12 ≤ 258
      omega
    refine r_aas (dk kX6_init 33 rfl) (t := 1) h5.1 (by decide) h5.2.1 (j := i) rfl (by omega) (by decide) hk5 ?_
    refine r_iinc (dk kX6_init 34 rfl) (by decide) rfl rfl rfl ?_
    simp only [List.set_cons_succ, List.set_cons_zero]
    -- at 70
    refine r_goto (tgt := 48) (dk kX6_init 35 rfl) (by decide) ?_
    -- at 48
    rw [show nI i + Int32.ofInt 1 = nI (i + 1) from nI_1 i]
    exact ih (i + 1) (by omega) (k + 1) (n + nF 3) (by omega) (by have : nF 3 = 12 := rfl; omega) _ hn2
/-- what a new state is -/
theorem k_X6_init (hx : nx M = s + 1) (e0 : CE M s 6 0 (fun _ => 0) (fun _ => none)) : KK G IX6_init [.ref s] M (qv (fun M' => NB M s M' ∧ nx M' = s + 30 ∧ SO M' s ∧ mi M' s = va_up (fun _ => 0) 9 2) nox) := by
  have f0 := e0.ar rfl (fun j => s + 1 + j)
  refine KK.ofW (by decide) (by simp [Value.category]) (Nat.le_of_ble_eq_true rfl) rfl ?_
  show WW _ _ _ 0 [_, lj] [] _ _ _
  refine r_aload_n (dk kX6_init 0 rfl) rfl ?_
  refine r_obj (dk kX6_init 1 rfl) ml_X6_3 w_objI w_objC (by decide) (Nat.le_of_ble_eq_true rfl) ?_
  refine r_aload_n (dk kX6_init 2 rfl) rfl ?_
  refine r_bipush (v := 10) (dk kX6_init 3 rfl) (by decide) ?_
  -- at 7
  refine r_newI (I := IX6_init) (k := 0) (n := 0) (x := 10) (N := 10) (dk kX6_init 4 rfl) w_arr_int (by decide) (by decide) (by decide) ⟨Nat.le_of_ble_eq_true rfl, Nat.le_of_ble_eq_true rfl⟩ ?_
  rw [hx]
  have g0 := f0.sN 20 10 (by omega)
  refine r_putF (Cn := "") (dk kX6_init 5 rfl) fa_X6_9_5 g0.1 rfl rfl rfl rfl rfl rfl ?_
  refine r_aload_n (dk kX6_init 6 rfl) rfl ?_
  refine r_bipush (v := 10) (dk kX6_init 7 rfl) (by decide) ?_
  -- at 15
  have q1 : EX M (sR (sN M 20 10) s 0 (some (s + 1))) s (s + 1) := EX.np M 20 10 s 0 _ (by omega)
  have f1 := g0.put rfl rfl
  have a1 : AR (sR (sN M 20 10) s 0 (some (s + 1))) (s + 1) 20 10 0 (fun j => j) := (hx ▸ AR.new M 20 10 _).put_n (by omega)
  have x1 : nx (sR (sN M 20 10) s 0 (some (s + 1))) = s + 2 := congrArg (· + 1) hx
  generalize sR (sN M 20 10) s 0 (some (s + 1)) = M1 at *
  refine r_newI (I := IX6_init) (k := 1) (n := 10) (x := 10) (N := 10) (dk kX6_init 8 rfl) w_arr_int (by decide) (by decide) (by decide) ⟨Nat.le_of_ble_eq_true rfl, Nat.le_of_ble_eq_true rfl⟩ ?_
  rw [x1]
  have g1 := f1.sN 20 10 (by omega)
  refine r_putF (Cn := "") (dk kX6_init 9 rfl) fa_X6_15_5 g1.1 rfl rfl rfl rfl rfl rfl ?_
  refine r_aload_n (dk kX6_init 10 rfl) rfl ?_
  refine r_bipush (v := 6) (dk kX6_init 11 rfl) (by decide) ?_
  -- at 23
  have q2 : EX M1 (sR (sN M1 20 10) s 1 (some (s + 2))) s (s + 2) := EX.np M1 20 10 s 1 _ (by omega)
  have f2 := g1.put rfl rfl
  have a2 : AR (sR (sN M1 20 10) s 1 (some (s + 2))) (s + 2) 20 10 0 (fun j => j) := (x1 ▸ AR.new M1 20 10 _).put_n (by omega)
  have x2 : nx (sR (sN M1 20 10) s 1 (some (s + 2))) = s + 3 := congrArg (· + 1) x1
  generalize sR (sN M1 20 10) s 1 (some (s + 2)) = M2 at *
  refine r_newI (I := IX6_init) (k := 2) (n := 20) (x := 6) (N := 6) (dk kX6_init 12 rfl) w_arr_int (by decide) (by decide) (by decide) ⟨Nat.le_of_ble_eq_true rfl, Nat.le_of_ble_eq_true rfl⟩ ?_
  rw [x2]
  have g2 := f2.sN 20 6 (by omega)
  refine r_putF (Cn := "") (dk kX6_init 13 rfl) fa_X6_18_5 g2.1 rfl rfl rfl rfl rfl rfl ?_
  refine r_aload_n (dk kX6_init 14 rfl) rfl ?_
  refine r_bipush (v := 8) (dk kX6_init 15 rfl) (by decide) ?_
  -- at 31
  have q3 : EX M2 (sR (sN M2 20 6) s 2 (some (s + 3))) s (s + 3) := EX.np M2 20 6 s 2 _ (by omega)
  have f3 := g2.put rfl rfl
  have a3 : AR (sR (sN M2 20 6) s 2 (some (s + 3))) (s + 3) 20 6 0 (fun j => j) := (x2 ▸ AR.new M2 20 6 _).put_n (by omega)
  have x3 : nx (sR (sN M2 20 6) s 2 (some (s + 3))) = s + 4 := congrArg (· + 1) x2
  generalize sR (sN M2 20 6) s 2 (some (s + 3)) = M3 at *
  refine r_newQ (I := IX6_init) (k := 3) (n := 26) (x := 8) (N := 8) (t := 1) (dk kX6_init 16 rfl) (by decide) w106 (by decide) (by decide) (by decide) ⟨Nat.le_of_ble_eq_true rfl, Nat.le_of_ble_eq_true rfl⟩ ?_
  rw [x3]
  have g3 := f3.sN 31 8 (by omega)
  refine r_putF (Cn := "") (dk kX6_init 17 rfl) fa_X6_23_5 g3.1 rfl rfl rfl rfl rfl rfl ?_
  refine r_aload_n (dk kX6_init 18 rfl) rfl ?_
  refine r_bipush (v := 16) (dk kX6_init 19 rfl) (by decide) ?_
  -- at 40
  have q4 : EX M3 (sR (sN M3 31 8) s 3 (some (s + 4))) s (s + 4) := EX.np M3 31 8 s 3 _ (by omega)
  have f4 := g3.put rfl rfl
  have a4 : AR (sR (sN M3 31 8) s 3 (some (s + 4))) (s + 4) 31 8 0 (fun j => s + 6 + j) := (x3 ▸ AR.new M3 31 8 _).put_n (by omega)
  have x4 : nx (sR (sN M3 31 8) s 3 (some (s + 4))) = s + 5 := congrArg (· + 1) x3
  generalize sR (sN M3 31 8) s 3 (some (s + 4)) = M4 at *
  refine r_newQ (I := IX6_init) (k := 4) (n := 34) (x := 16) (N := 16) (t := 2) (dk kX6_init 20 rfl) (by decide) w108 (by decide) (by decide) (by decide) ⟨Nat.le_of_ble_eq_true rfl, Nat.le_of_ble_eq_true rfl⟩ ?_
  rw [x4]
  have g4 := f4.sN 32 16 (by omega)
  refine r_putF (Cn := "") (dk kX6_init 21 rfl) fa_X6_29_5 g4.1 rfl rfl rfl rfl rfl rfl ?_
  refine r_iconst (v := 0) (dk kX6_init 22 rfl) (by decide) ?_
  refine r_istore_n (j := 1) (dk kX6_init 23 rfl) rfl (by decide) rfl ?_
  simp only [List.set_cons_succ, List.set_cons_zero]
  -- at 48
  have q5 : EX M4 (sR (sN M4 32 16) s 4 (some (s + 5))) s (s + 5) := EX.np M4 32 16 s 4 _ (by omega)
  have f5 := g4.put rfl rfl
  have a5 : AR (sR (sN M4 32 16) s 4 (some (s + 5))) (s + 5) 32 16 0 (fun j => s + 14 + j) := (x4 ▸ AR.new M4 32 16 _).put_n (by omega)
  have x5 : nx (sR (sN M4 32 16) s 4 (some (s + 5))) = s + 6 := congrArg (· + 1) x4
  generalize sR (sN M4 32 16) s 4 (some (s + 5)) = M5 at *
  refine w_X6_pet (M0 := M) ?_ 8 0 rfl _ _ rfl rfl M5 ⟨(((((NB.rfl M s).ex q1 (Nat.le_refl s) (by omega)).ex q2 (Nat.le_refl s) (by omega)).ex q3 (Nat.le_refl s) (by omega)).ex q4 (Nat.le_refl s) (by omega)).ex q5 (Nat.le_refl s) (by omega), x5, f5, (((a1.ex q2 (by omega) (by omega)).ex q3 (by omega) (by omega)).ex q4 (by omega) (by omega)).ex q5 (by omega) (by omega), ((a2.ex q3 (by omega) (by omega)).ex q4 (by omega) (by omega)).ex q5 (by omega) (by omega), (a3.ex q4 (by omega) (by omega)).ex q5 (by omega) (by omega), a4.ex q5 (by omega) (by omega), a5, fun j hj => absurd hj (Nat.not_lt_zero j), fun j hj => absurd hj (Nat.not_lt_zero j)⟩
  intro M' p
  refine ⟨?_, ?_, ?_, ?_⟩
  · exact p.1.tr (NB.sI 9 2 (Nat.le_refl s)) (Nat.le_refl s)
  · exact p.2.1
  · exact p.so.tr rfl rfl rfl
  · rw [mi_sI_s, p.2.2.1.2.2.1]
end CLASS
