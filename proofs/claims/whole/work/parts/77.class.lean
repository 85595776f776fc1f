/-! CONSTRUCTORS: the history, the reader, the board -/
theorem SO.ex {M M' : Mm} {s d c : Nat} (o : SO M s) (e : EX M M' d c) (h : s + 30 ≤ c) (hd : d < s ∨ s + 30 ≤ d) : SO M' s := by
  have hk : ∀ q, s ≤ q → q < s + 30 → kd M' q = kd M q ∧ ln M' q = ln M q ∧ mr M' q = mr M q := fun q h1 h2 => by
    obtain ⟨a1, a2, a3, a4, -⟩ := e q (by omega) (by omega)
    exact ⟨a1, a2, a4⟩
  have hp : ∀ j, pA M' s j = pA M s j := fun j => by unfold pA; rw [(hk (s + 4) (by omega) (by omega)).2.2]
  obtain ⟨⟨k0, k1, k2, k3, k4, k5⟩, ⟨l1, l2, l3, l4, l5⟩, ⟨r0, r1, r2, r3, r4⟩, kp, kr, rp, ne⟩ := o
  refine ⟨⟨?_, ?_, ?_, ?_, ?_, ?_⟩, ⟨?_, ?_, ?_, ?_, ?_⟩, ⟨?_, ?_, ?_, ?_, ?_⟩, fun a h1 h2 => ?_, fun j hj => ⟨?_, ?_⟩, fun j hj => ?_, fun i j hij hj => ?_⟩
  · rw [(hk s (by omega) (by omega)).1]; exact k0
  · rw [(hk (s + 1) (by omega) (by omega)).1]; exact k1
  · rw [(hk (s + 2) (by omega) (by omega)).1]; exact k2
  · rw [(hk (s + 3) (by omega) (by omega)).1]; exact k3
  · rw [(hk (s + 4) (by omega) (by omega)).1]; exact k4
  · rw [(hk (s + 5) (by omega) (by omega)).1]; exact k5
  · rw [(hk (s + 1) (by omega) (by omega)).2.1]; exact l1
  · rw [(hk (s + 2) (by omega) (by omega)).2.1]; exact l2
  · rw [(hk (s + 3) (by omega) (by omega)).2.1]; exact l3
  · rw [(hk (s + 4) (by omega) (by omega)).2.1]; exact l4
  · rw [(hk (s + 5) (by omega) (by omega)).2.1]; exact l5
  · rw [(hk s (by omega) (by omega)).2.2]; exact r0
  · rw [(hk s (by omega) (by omega)).2.2]; exact r1
  · rw [(hk s (by omega) (by omega)).2.2]; exact r2
  · rw [(hk s (by omega) (by omega)).2.2]; exact r3
  · rw [(hk s (by omega) (by omega)).2.2]; exact r4
  · rw [(hk a (by omega) (by omega)).1]; exact kp a h1 h2
  · rw [(hk (s + 14 + j) (by omega) (by omega)).1]; exact (kr j hj).1
  · rw [(hk (s + 5) (by omega) (by omega)).2.2]; exact (kr j hj).2
  · rw [hp, (hk (s + 4) (by omega) (by omega)).2.2]; exact rp j hj
  · rw [hp, hp]; exact ne i j hij hj
theorem LO.ex {M M' : Mm} {s d c : Nat} (o : LO M s) (e : EX M M' d c) (h : s + 2 ≤ c) (hd : d < s ∨ s + 2 ≤ d) : LO M' s := by
  obtain ⟨a1, a2, a3, a4⟩ := o
  obtain ⟨b1, b2, b3, b4, -⟩ := e s (by omega) (by omega)
  obtain ⟨c1, c2, c3, c4, -⟩ := e (s + 1) (by omega) (by omega)
  exact ⟨b1.trans a1, c1.trans a2, c2.trans a3, by rw [b4]; exact a4⟩
/-- a history that is being made -/
def P2 (M0 M : Mm) (a i : Nat) : Prop := NB M0 a M ∧ nx M = a + 2 + 30 * i ∧ AR M a 2 0 1 (fun _ => a + 1) ∧ AR M (a + 1) 33 9 i (fun j => a + 2 + 30 * j) ∧ ∀ j, j < i → SO M (a + 2 + 30 * j)
theorem P2.row {M0 M M1 : Mm} {a i : Nat} (h : P2 M0 M a i) (n : NB (sN M 6 0) (a + 2 + 30 * i) M1) (hx : nx M1 = a + 2 + 30 * i + 30) (o : SO M1 (a + 2 + 30 * i)) : P2 M0 (sR M1 (a + 1) i (some (a + 2 + 30 * i))) a (i + 1) := by
  obtain ⟨h1, h2, h3, h4, h5⟩ := h
  have e1 : EX M M1 (a + 2 + 30 * i) (a + 2 + 30 * i) := (EX.sN M 6 0 _ (by omega)).tr (EX.nb n _ (by omega))
  have e2 := EX.put M1 (a + 1) i (some (a + 2 + 30 * i)) (a + 2 + 30 * i + 30)
  refine ⟨(h1.ex e1 (by omega) (by omega)).ex e2 (by omega) (by omega), ?_, (h3.ex e1 (by omega) (by omega)).ex e2 (by omega) (by omega), (h4.ex e1 (by omega) (by omega)).put rfl rfl, fun j hj => ?_⟩
  · rw [show nx (sR M1 (a + 1) i (some (a + 2 + 30 * i))) = nx M1 from rfl, hx]
    omega
  · by_cases hh : j = i
    · subst hh
      exact o.ex e2 (by omega) (by omega)
    · exact ((h5 j (by omega)).ex e1 (by omega) (by omega)).ex e2 (by omega) (by omega)
theorem P2.ho {M0 M : Mm} {a : Nat} (h : P2 M0 M a 9) : HO M a := by
  obtain ⟨h1, h2, h3, h4, h5⟩ := h
  have hp : ∀ j, j < 9 → hA M a j = a + 2 + 30 * j := fun j hj => by unfold hA; rw [h4.2.2.2 j hj]; rfl
  refine ⟨h3.1, h4.1, h4.2.1, h3.2.2.2 0 (by decide), fun j hj => ⟨?_, j, hj, hp j hj⟩, fun i j hij hj => ?_, h5⟩
  · rw [hp j hj]
    exact h4.2.2.2 j hj
  · rw [hp i (by omega), hp j hj]
    omega
section CLASS
variable {G : GG} {M M0 : Mm} {a x : Nat}
theorem w_X2_rows {P : Mm → Prop} (hQ : ∀ M', P2 M0 M' a 9 → P M') : ∀ d i, i + d = 9 → ∀ k n, k = 1 + 30 * i → n = 9 + 272 * i → ∀ M, P2 M0 M a i → WW G IX2_init (qv P nox) 15 [.ref a, .int (nI i)] [] M k n := by
  intro d
  induction d with
  | zero =>
    intro i hi k n hk hn M h
    have hi : i = 9 := hi
    subst hi
    subst hk
    subst hn
    refine r_iload_n (dk kX2_init 8 rfl) rfl ?_
    refine r_bipush (v := 8) (dk kX2_init 9 rfl) (by decide) ?_
    refine r_icmp_gt (tgt := 40) (dk kX2_init 10 rfl) (by decide) (fun c18 => ?_) (fun c18 => absurd (by decide) c18)
    -- at 40
    exact r_return (I := IX2_init) (k := 271) (n := 2457) (dk kX2_init 20 rfl) rfl ⟨Nat.le_of_ble_eq_true rfl, Nat.le_of_ble_eq_true rfl⟩ (hQ M h)
  | succ d ih =>
    intro i hi k n hk hn M h
    have hx := h.2.1
    refine r_iload_n (dk kX2_init 8 rfl) rfl ?_
    refine r_bipush (v := 8) (dk kX2_init 9 rfl) (by decide) ?_
    refine r_icmp_gt (tgt := 40) (dk kX2_init 10 rfl) (by decide) (fun c18 => absurd c18 (show ¬ nI 8 < nI i from Int32.not_lt.mpr (nI_le (by omega) (by omega)))) (fun c18 => ?_)
    refine r_aload_n (dk kX2_init 11 rfl) rfl ?_
    refine r_getR (dk kX2_init 12 rfl) fa_X2_11_1 h.2.2.1.1 rfl (h.2.2.1.2.2.2 0 (by decide)) ?_
    refine r_iload_n (dk kX2_init 13 rfl) rfl ?_
    -- at 26
    refine r_new (ci := 5) (dk kX2_init 14 rfl) nw_X2_9 ⟨?_, ?_⟩ ?_
    · show k + 1 ≤ 271
      omega
    · show n + 14 ≤ 2457
      omega
    have hn1 : CE (sN M 6 0) (a + 2 + 30 * i) 6 0 (fun _ => 0) (fun _ => none) := hx ▸ CE.new M 6 0
    have hx1 : nx (sN M 6 0) = a + 2 + 30 * i + 1 := congrArg (· + 1) hx
    rw [hx]
    refine r_dup (dk kX2_init 15 rfl) rfl ?_
    -- at 30
    refine r_callI (as := []) (I' := IX6_init) (dk kX2_init 16 rfl) mi_X6_init rfl ml_X2_17 rfl rfl rfl (Nat.le_of_ble_eq_true rfl) ⟨by decide, by decide⟩ ⟨?_, ?_⟩ (k_X6_init hx1 hn1) (fun _ _ z => z) ?_
    · show k + 1 + 29 ≤ 271
      omega
    · show n + 14 + 258 ≤ 2457
      omega
    rintro v M' ⟨hv, n1, n2, n3, n4⟩
    subst hv
    show WW G IX2_init (qv P nox) 33 _ _ M' (k + 1 + 29) (n + 14 + 258)
    have h9 := h.row n1 n2 n3
    have h4 : AR M' (a + 1) 33 9 i (fun j => a + 2 + 30 * j) := (h.2.2.2.1.sN 6 0 (by omega)).ex (EX.nb n1 (a + 2 + 30 * i) (Nat.le_refl _)) (by omega) (by omega)
    refine r_aas (dk kX2_init 17 rfl) (t := 3) h4.1 (by decide) h4.2.1 (j := i) rfl (by omega) (by decide) n3.k ?_
    refine r_iinc (dk kX2_init 18 rfl) (by decide) rfl rfl rfl ?_
    simp only [List.set_cons_succ, List.set_cons_zero]
    -- at 37
    refine r_goto (tgt := 15) (dk kX2_init 19 rfl) (by decide) ?_
    -- at 15
    rw [show nI i + Int32.ofInt 1 = nI (i + 1) from nI_1 i]
    exact ih (i + 1) (by omega) (k + 1 + 29) (n + 14 + 258) (by omega) (by omega) _ h9
/-- what a new history is -/
theorem k_X2_init (hx : nx M = a + 1) (e0 : CE M a 2 0 (fun _ => 0) (fun _ => none)) : KK G IX2_init [.ref a] M (qv (fun M' => NB M a M' ∧ nx M' = a + 272 ∧ HO M' a ∧ mi M' a = (fun _ => 0)) nox) := by
  have f0 := e0.ar rfl (fun _ => a + 1)
  refine KK.ofW (by decide) (by simp [Value.category]) (Nat.le_of_ble_eq_true rfl) rfl ?_
  show WW _ _ _ 0 [_, lj] [] _ _ _
  refine r_aload_n (dk kX2_init 0 rfl) rfl ?_
  refine r_obj (dk kX2_init 1 rfl) ml_X2_3 w_objI w_objC (by decide) (Nat.le_of_ble_eq_true rfl) ?_
  refine r_aload_n (dk kX2_init 2 rfl) rfl ?_
  refine r_bipush (v := 9) (dk kX2_init 3 rfl) (by decide) ?_
  -- at 7
  refine r_newQ (I := IX2_init) (k := 0) (n := 0) (x := 9) (N := 9) (t := 3) (dk kX2_init 4 rfl) (by decide) w264 (by decide) (by decide) (by decide) ⟨Nat.le_of_ble_eq_true rfl, Nat.le_of_ble_eq_true rfl⟩ ?_
  rw [hx]
  have g0 := f0.sN 33 9 (by omega)
  refine r_putF (Cn := "") (dk kX2_init 5 rfl) fa_X2_11_1 g0.1 rfl rfl rfl rfl rfl rfl ?_
  refine r_iconst (v := 0) (dk kX2_init 6 rfl) (by decide) ?_
  refine r_istore_n (j := 1) (dk kX2_init 7 rfl) rfl (by decide) rfl ?_
  simp only [List.set_cons_succ, List.set_cons_zero]
  -- at 15
  have q1 : EX M (sR (sN M 33 9) a 0 (some (a + 1))) a (a + 1) := EX.np M 33 9 a 0 _ (by omega)
  have f1 := g0.put rfl rfl
  have a1 : AR (sR (sN M 33 9) a 0 (some (a + 1))) (a + 1) 33 9 0 (fun j => a + 2 + 30 * j) := (hx ▸ AR.new M 33 9 _).put_n (by omega)
  have x1 : nx (sR (sN M 33 9) a 0 (some (a + 1))) = a + 2 := congrArg (· + 1) hx
  generalize sR (sN M 33 9) a 0 (some (a + 1)) = M1 at *
  refine w_X2_rows (M0 := M) ?_ 9 0 rfl 1 9 rfl rfl M1 ⟨(NB.rfl M a).ex q1 (Nat.le_refl a) (by omega), x1, f1, a1, fun j hj => absurd hj (Nat.not_lt_zero j)⟩
  intro M' p
  exact ⟨p.1, p.2.1, p.ho, p.2.2.1.2.2.1⟩
/-- a reader that is being made -/
def P7 (M0 M : Mm) (a i : Nat) : Prop := NB M0 a M ∧ nx M = a + 2 + i ∧ AR M a 7 0 1 (fun _ => a + 1) ∧ AR M (a + 1) 30 10 i (fun j => a + 2 + j) ∧ ∀ j, j < i → kd M (a + 2 + j) = 1
theorem P7.cmd {M0 M : Mm} {a i : Nat} (h : P7 M0 M a i) : P7 M0 (sR (sN M 1 0) (a + 1) i (some (a + 2 + i))) a (i + 1) := by
  obtain ⟨h1, h2, h3, h4, h5⟩ := h
  have e := EX.np M 1 0 (a + 1) i (some (a + 2 + i)) (Nat.le_refl _)
  refine ⟨h1.ex e (by omega) (by omega), ?_, h3.ex e (by omega) (by omega), (h4.sN 1 0 (by omega)).put rfl rfl, fun j hj => ?_⟩
  · rw [show nx (sR (sN M 1 0) (a + 1) i (some (a + 2 + i))) = nx M + 1 from rfl, h2]
    omega
  · by_cases hh : j = i
    · subst hh
      have hn := (sN_new M 1 0).1
      rw [h2] at hn
      exact hn
    · rw [(e (a + 2 + j) (by omega) (by omega)).1]
      exact h5 j (by omega)
theorem w_X7_rows {P : Mm → Prop} (hQ : ∀ M', P7 M0 M' a 10 → P M') : ∀ d i, i + d = 10 → ∀ k n, k = 1 + i → n = 10 + 6 * i → ∀ M, P7 M0 M a i → WW G IX7_init (qv P nox) 15 [.ref a, .int (nI i)] [] M k n := by
  intro d
  induction d with
  | zero =>
    intro i hi k n hk hn M h
    have hi : i = 10 := hi
    subst hi
    subst hk
    subst hn
    refine r_iload_n (dk kX7_init 8 rfl) rfl ?_
    refine r_bipush (v := 10) (dk kX7_init 9 rfl) (by decide) ?_
    refine r_icmp_ge (tgt := 40) (dk kX7_init 10 rfl) (by decide) (fun c18 => ?_) (fun c18 => absurd (by decide) c18)
    -- at 40
    exact r_return (I := IX7_init) (k := 11) (n := 70) (dk kX7_init 20 rfl) rfl ⟨Nat.le_of_ble_eq_true rfl, Nat.le_of_ble_eq_true rfl⟩ (hQ M h)
  | succ d ih =>
    intro i hi k n hk hn M h
    have hx := h.2.1
    refine r_iload_n (dk kX7_init 8 rfl) rfl ?_
    refine r_bipush (v := 10) (dk kX7_init 9 rfl) (by decide) ?_
    refine r_icmp_ge (tgt := 40) (dk kX7_init 10 rfl) (by decide) (fun c18 => absurd c18 (show ¬ nI 10 ≤ nI i from nI_ge (by omega) (by omega))) (fun c18 => ?_)
    refine r_aload_n (dk kX7_init 11 rfl) rfl ?_
    refine r_getR (dk kX7_init 12 rfl) fa_X7_11_6 h.2.2.1.1 rfl (h.2.2.1.2.2.2 0 (by decide)) ?_
    refine r_iload_n (dk kX7_init 13 rfl) rfl ?_
    -- at 26
    refine r_new (ci := 0) (dk kX7_init 14 rfl) nw_X7_9 ⟨?_, ?_⟩ ?_
    · show k + 1 ≤ 11
      omega
    · show n + 6 ≤ 70
      omega
    have hn2 := h.cmd
    have h5 := h.2.2.2.1.sN 1 0 (by omega)
    have hk5 := (sN_new M 1 0).1
    rw [hx] at hk5 ⊢
    refine r_dup (dk kX7_init 15 rfl) rfl ?_
    -- at 30
    refine r_ctorN (I' := IX1_init) (dk kX7_init 16 rfl) mi_X1_init rfl nwm_6 rfl rfl (Nat.le_of_ble_eq_true rfl) ⟨by decide, by decide⟩ ⟨rfl, rfl⟩ ⟨?_, ?_⟩ k_X1_init ?_
    · show k + 1 ≤ 11
      omega
    · show n + 6 ≤ 70
      omega
    refine r_aas (dk kX7_init 17 rfl) (t := 0) h5.1 (by decide) h5.2.1 (j := i) rfl (by omega) (by decide) hk5 ?_
    refine r_iinc (dk kX7_init 18 rfl) (by decide) rfl rfl rfl ?_
    simp only [List.set_cons_succ, List.set_cons_zero]
    -- at 37
    refine r_goto (tgt := 15) (dk kX7_init 19 rfl) (by decide) ?_
    -- at 15
    rw [show nI i + Int32.ofInt 1 = nI (i + 1) from nI_1 i]
    exact ih (i + 1) (by omega) (k + 1) (n + nF 0) (by omega) (by have : nF 0 = 6 := rfl; omega) _ hn2
/-- what a new reader is -/
theorem k_X7_init (hx : nx M = a + 1) (e0 : CE M a 7 0 (fun _ => 0) (fun _ => none)) : KK G IX7_init [.ref a] M (qv (fun M' => NB M a M' ∧ nx M' = a + 12 ∧ RO M' a) nox) := by
  have f0 := e0.ar rfl (fun _ => a + 1)
  refine KK.ofW (by decide) (by simp [Value.category]) (Nat.le_of_ble_eq_true rfl) rfl ?_
  show WW _ _ _ 0 [_, lj] [] _ _ _
  refine r_aload_n (dk kX7_init 0 rfl) rfl ?_
  refine r_obj (dk kX7_init 1 rfl) ml_X7_3 w_objI w_objC (by decide) (Nat.le_of_ble_eq_true rfl) ?_
  refine r_aload_n (dk kX7_init 2 rfl) rfl ?_
  refine r_bipush (v := 10) (dk kX7_init 3 rfl) (by decide) ?_
  -- at 7
  refine r_newQ (I := IX7_init) (k := 0) (n := 0) (x := 10) (N := 10) (t := 0) (dk kX7_init 4 rfl) (by decide) w297 (by decide) (by decide) (by decide) ⟨Nat.le_of_ble_eq_true rfl, Nat.le_of_ble_eq_true rfl⟩ ?_
  rw [hx]
  have g0 := f0.sN 30 10 (by omega)
  refine r_putF (Cn := "") (dk kX7_init 5 rfl) fa_X7_11_6 g0.1 rfl rfl rfl rfl rfl rfl ?_
  refine r_iconst (v := 0) (dk kX7_init 6 rfl) (by decide) ?_
  refine r_istore_n (j := 1) (dk kX7_init 7 rfl) rfl (by decide) rfl ?_
  simp only [List.set_cons_succ, List.set_cons_zero]
  -- at 15
  have q1 : EX M (sR (sN M 30 10) a 0 (some (a + 1))) a (a + 1) := EX.np M 30 10 a 0 _ (by omega)
  have f1 := g0.put rfl rfl
  have a1 : AR (sR (sN M 30 10) a 0 (some (a + 1))) (a + 1) 30 10 0 (fun j => a + 2 + j) := (hx ▸ AR.new M 30 10 _).put_n (by omega)
  have x1 : nx (sR (sN M 30 10) a 0 (some (a + 1))) = a + 2 := congrArg (· + 1) hx
  generalize sR (sN M 30 10) a 0 (some (a + 1)) = M1 at *
  refine w_X7_rows (M0 := M) ?_ 10 0 rfl 1 10 rfl rfl M1 ⟨(NB.rfl M a).ex q1 (Nat.le_refl a) (by omega), x1, f1, a1, fun j hj => absurd hj (Nat.not_lt_zero j)⟩
  intro M' p
  exact ⟨p.1, p.2.1, p.2.2.1.1, p.2.2.1.2.2.2 0 (by decide), p.2.2.2.1.1, p.2.2.2.1.2.1, fun j hj => ⟨p.2.2.2.1.2.2.2 j hj, p.2.2.2.2 j hj⟩⟩
end CLASS
