/-! PURE: what the changes do to what a state holds -/
section SVC
variable {M : Mm} {s F : Nat} {g : Nat → Int32} {q : Nat → Nat}
theorem SV_addStone (v : SV M s g q) (o : SO M s) (i : GI F g) (hn : gn g 0 ≠ 10) (c w : Int32) : SV (sI (sI (sI M (s + 1) (gn g 0) c) (s + 2) (gn g 0) w) s 5 (nI (gn g 0 + 1))) s (va_up (va_up (va_up g 0 (nI (gn g 0 + 1))) (9 + 2 * gn g 0) c) (9 + 2 * gn g 0 + 1) w) q := by
  have s11 := i.s.2
  have n0 : gn (va_up (va_up (va_up g 0 (nI (gn g 0 + 1))) (9 + 2 * gn g 0) c) (9 + 2 * gn g 0 + 1) w) 0 = gn g 0 + 1 := gn_v (by rw [va_up_ne _ _ (by omega), va_up_ne _ _ (by omega), va_up_self]) (by omega)
  have gx : ∀ x, x ≠ 0 → x ≠ 9 + 2 * gn g 0 → x ≠ 9 + 2 * gn g 0 + 1 → va_up (va_up (va_up g 0 (nI (gn g 0 + 1))) (9 + 2 * gn g 0) c) (9 + 2 * gn g 0 + 1) w x = g x := fun x h1 h2 h3 => by rw [va_up_ne _ _ h3, va_up_ne _ _ h2, va_up_ne _ _ h1]
  have mz : ∀ z, z ≠ s → z ≠ s + 1 → z ≠ s + 2 → mi (sI (sI (sI M (s + 1) (gn g 0) c) (s + 2) (gn g 0) w) s 5 (nI (gn g 0 + 1))) z = mi M z := fun z h1 h2 h3 => by rw [mi_sI_n _ _ _ h1, mi_sI_n _ _ _ h3, mi_sI_n _ _ _ h2]
  have ms : ∀ z, z ≠ 5 → mi (sI (sI (sI M (s + 1) (gn g 0) c) (s + 2) (gn g 0) w) s 5 (nI (gn g 0 + 1))) s z = mi M s z := fun z h1 => by rw [mi_sI_s, va_up_ne _ _ h1, mi_sI_n _ _ _ (by omega), mi_sI_n _ _ _ (by omega)]
  refine v.ge o i ⟨gx 3 (by omega) (by omega) (by omega), fun k _ => gx _ (by omega) (by omega) (by omega), fun x _ => gx _ (by omega) (by omega) (by omega)⟩ (fun z h1 h2 => mz z (by omega) (by omega) (by omega)) rfl ⟨?_, ?_, ?_, ?_, ?_, ?_, ?_, ?_, ?_⟩ (gx 5 (by omega) (by omega) (by omega)) (fun k hk => ?_) (fun k hk => ?_)
  · rw [mi_sI_s, va_up_self, va_up_ne _ _ (by omega), va_up_ne _ _ (by omega), va_up_self]
  · rw [ms 6 (by decide), gx 1 (by omega) (by omega) (by omega)]; exact v.1.2.1
  · rw [ms 7 (by decide), gx 3 (by omega) (by omega) (by omega)]; exact v.1.2.2.1
  · rw [ms 8 (by decide), gx 5 (by omega) (by omega) (by omega)]; exact v.1.2.2.2.1
  · rw [ms 9 (by decide), gx 2 (by omega) (by omega) (by omega)]; exact v.1.2.2.2.2.1
  · rw [ms 10 (by decide), gx 4 (by omega) (by omega) (by omega)]; exact v.1.2.2.2.2.2.1
  · rw [ms 11 (by decide), gx 6 (by omega) (by omega) (by omega)]; exact v.c6
  · rw [ms 12 (by decide), gx 7 (by omega) (by omega) (by omega)]; exact v.c7
  · rw [ms 13 (by decide), gx 8 (by omega) (by omega) (by omega)]; exact v.c8
  · rw [n0] at hk
    rw [mi_sI_n _ _ _ (show s + 1 ≠ s by omega), mi_sI_n _ _ _ (show s + 1 ≠ s + 2 by omega), mi_sI_s, mi_sI_n _ _ _ (show s + 2 ≠ s by omega), mi_sI_s, mi_sI_n _ _ _ (show s + 2 ≠ s + 1 by omega)]
    by_cases e : k = gn g 0
    · subst e
      refine ⟨?_, ?_⟩
      · rw [va_up_self, va_up_ne _ _ (by omega), va_up_self]
      · rw [va_up_self, va_up_self]
    · rw [va_up_ne _ _ e, va_up_ne _ _ e, gx _ (by omega) (by omega) (by omega), gx _ (by omega) (by omega) (by omega)]
      exact v.2.1 k (by omega)
  · have o7 := i.o.2
    rw [gn_eq (gx 1 (by omega) (by omega) (by omega))] at hk
    rw [mz _ (by omega) (by omega) (by omega), gx _ (by omega) (by omega) (by omega)]
    exact v.rank hk
theorem SV_addOfficer (v : SV M s g q) (o : SO M s) (i : GI F g) (hn : gn g 1 ≠ 6) (c : Int32) : SV (sI (sI M (s + 3) (gn g 1) c) s 6 (nI (gn g 1 + 1))) s (va_up (va_up g (29 + gn g 1) c) 1 (nI (gn g 1 + 1))) q := by
  have o7 := i.o.2
  have s11 := i.s.2
  have n0 : gn (va_up (va_up g (29 + gn g 1) c) 1 (nI (gn g 1 + 1))) 1 = gn g 1 + 1 := gn_v (by rw [va_up_self]) (by omega)
  have gx : ∀ x, x ≠ 1 → x ≠ 29 + gn g 1 → va_up (va_up g (29 + gn g 1) c) 1 (nI (gn g 1 + 1)) x = g x := fun x h1 h2 => by rw [va_up_ne _ _ h1, va_up_ne _ _ h2]
  have mz : ∀ z, z ≠ s → z ≠ s + 3 → mi (sI (sI M (s + 3) (gn g 1) c) s 6 (nI (gn g 1 + 1))) z = mi M z := fun z h1 h2 => by rw [mi_sI_n _ _ _ h1, mi_sI_n _ _ _ h2]
  have ms : ∀ z, z ≠ 6 → mi (sI (sI M (s + 3) (gn g 1) c) s 6 (nI (gn g 1 + 1))) s z = mi M s z := fun z h1 => by rw [mi_sI_s, va_up_ne _ _ h1, mi_sI_n _ _ _ (by omega)]
  refine v.ge o i ⟨gx 3 (by omega) (by omega), fun k _ => gx _ (by omega) (by omega), fun x _ => gx _ (by omega) (by omega)⟩ (fun z h1 h2 => mz z (by omega) (by omega)) rfl ⟨?_, ?_, ?_, ?_, ?_, ?_, ?_, ?_, ?_⟩ (gx 5 (by omega) (by omega)) (fun k hk => ?_) (fun k hk => ?_)
  · rw [ms 5 (by decide), gx 0 (by omega) (by omega)]; exact v.1.1
  · rw [mi_sI_s, va_up_self, va_up_self]
  · rw [ms 7 (by decide), gx 3 (by omega) (by omega)]; exact v.1.2.2.1
  · rw [ms 8 (by decide), gx 5 (by omega) (by omega)]; exact v.1.2.2.2.1
  · rw [ms 9 (by decide), gx 2 (by omega) (by omega)]; exact v.1.2.2.2.2.1
  · rw [ms 10 (by decide), gx 4 (by omega) (by omega)]; exact v.1.2.2.2.2.2.1
  · rw [ms 11 (by decide), gx 6 (by omega) (by omega)]; exact v.c6
  · rw [ms 12 (by decide), gx 7 (by omega) (by omega)]; exact v.c7
  · rw [ms 13 (by decide), gx 8 (by omega) (by omega)]; exact v.c8
  · rw [gn_eq (gx 0 (by omega) (by omega))] at hk
    rw [mz _ (by omega) (by omega), mz _ (by omega) (by omega), gx _ (by omega) (by omega), gx _ (by omega) (by omega)]
    exact v.2.1 k hk
  · rw [n0] at hk
    rw [mi_sI_n _ _ _ (show s + 3 ≠ s by omega), mi_sI_s]
    by_cases e : k = gn g 1
    · subst e
      rw [va_up_self, va_up_ne _ _ (by omega), va_up_self]
    · rw [va_up_ne _ _ e, gx _ (by omega) (by omega)]
      exact v.rank (by omega)
theorem SV_quorum (v : SV M s g q) (o : SO M s) (i : GI F g) (c : Int32) : SV (sI M s 9 c) s (va_up g 2 c) q := by
  have s11 := i.s.2
  have o7 := i.o.2
  have gx : ∀ x, x ≠ 2 → va_up g 2 c x = g x := fun x h1 => va_up_ne _ _ h1
  have mz : ∀ z, z ≠ s → mi (sI M s 9 c) z = mi M z := fun z h1 => mi_sI_n _ _ _ h1
  have ms : ∀ z, z ≠ 9 → mi (sI M s 9 c) s z = mi M s z := fun z h1 => by rw [mi_sI_s, va_up_ne _ _ h1]
  refine v.ge o i ⟨gx 3 (by omega), fun k _ => gx _ (by omega), fun x _ => gx _ (by omega)⟩ (fun z h1 h2 => mz z (by omega)) rfl ⟨?_, ?_, ?_, ?_, ?_, ?_, ?_, ?_, ?_⟩ (gx 5 (by omega)) (fun k hk => ?_) (fun k hk => ?_)
  · rw [ms 5 (by decide), gx 0 (by omega)]; exact v.1.1
  · rw [ms 6 (by decide), gx 1 (by omega)]; exact v.1.2.1
  · rw [ms 7 (by decide), gx 3 (by omega)]; exact v.1.2.2.1
  · rw [ms 8 (by decide), gx 5 (by omega)]; exact v.1.2.2.2.1
  · rw [mi_sI_s, va_up_self, va_up_self]
  · rw [ms 10 (by decide), gx 4 (by omega)]; exact v.1.2.2.2.2.2.1
  · rw [ms 11 (by decide), gx 6 (by omega)]; exact v.c6
  · rw [ms 12 (by decide), gx 7 (by omega)]; exact v.c7
  · rw [ms 13 (by decide), gx 8 (by omega)]; exact v.c8
  · rw [gn_eq (gx 0 (by omega))] at hk
    rw [mz _ (by omega), mz _ (by omega), gx _ (by omega), gx _ (by omega)]
    exact v.2.1 k hk
  · rw [gn_eq (gx 1 (by omega))] at hk
    rw [mz _ (by omega), gx _ (by omega)]
    exact v.rank hk
/-- one petition's votes or citations have changed -/
theorem SV_pet (v : SV M s g q) (o : SO M s) (i : GI F g) {j : Nat} (hj : j < gn g 3) {g' : Nat → Int32} (en : ∀ x, (x < 35 + 11 * q j + 5 ∨ 35 + 11 * q j + 11 ≤ x) → g' x = g x) {M' : Mm} (hr : mr M' (s + 4) = mr M (s + 4)) (hm : ∀ z, z ≠ pA M s j → mi M' z = mi M z) (pf : PF (mi M' (pA M s j)) g' (q j)) : SV M' s g' q := by
  have s11 := i.s.2
  have o7 := i.o.2
  have p9 := i.p.2
  have r17 := i.r.2
  have hq := v.o.1 j hj
  have pb := o.pb (j := j) (by omega)
  have hp : ∀ j, pA M' s j = pA M s j := fun j => by unfold pA; rw [hr]
  have n3 : gn g' 3 = gn g 3 := gn_eq (en 3 (by omega))
  have kk : ∀ k, k < gn g 3 → gRk g' k = gRk g k ∧ gUr g' k = gUr g k ∧ gNum g' k = gNum g k := fun k hk => gK_to (fun w hw => en _ (by omega)) (en _ (by have := (i.pi hk).2.1.2; omega))
  refine ⟨⟨?_, ?_, ?_, ?_, ?_, ?_, ?_, ?_, ?_⟩, fun k hk => ?_, fun k hk => ?_, ⟨fun z hz => by rw [n3] at hz ⊢; exact v.o.1 z hz, fun x y hxy hy => ?_⟩, fun z hz => ?_, fun r hr2 => ?_⟩
  · rw [hm s (by omega), en 0 (by omega)]; exact v.1.1
  · rw [hm s (by omega), en 1 (by omega)]; exact v.1.2.1
  · rw [hm s (by omega), en 3 (by omega)]; exact v.1.2.2.1
  · rw [hm s (by omega), en 5 (by omega)]; exact v.1.2.2.2.1
  · rw [hm s (by omega), en 2 (by omega)]; exact v.1.2.2.2.2.1
  · rw [hm s (by omega), en 4 (by omega)]; exact v.1.2.2.2.2.2.1
  · rw [hm s (by omega), en 6 (by omega)]; exact v.c6
  · rw [hm s (by omega), en 7 (by omega)]; exact v.c7
  · rw [hm s (by omega), en 8 (by omega)]; exact v.c8
  · rw [gn_eq (en 0 (by omega))] at hk
    rw [hm _ (by omega), hm _ (by omega), en _ (by omega), en _ (by omega)]
    exact v.2.1 k hk
  · rw [gn_eq (en 1 (by omega))] at hk
    rw [hm _ (by omega), en _ (by omega)]
    exact v.rank hk
  · rw [n3] at hy
    obtain ⟨a1, a2, a3⟩ := kk _ (v.o.1 x (by omega))
    obtain ⟨b1, b2, b3⟩ := kk _ (v.o.1 y hy)
    rw [gAhd_cong a1 b1 a2 b2 a3 b3]
    exact v.o.2 x y hxy hy
  · rw [n3] at hz
    rw [hp]
    by_cases e : z = j
    · rw [e]; exact pf
    · have hne : q z ≠ q j := by
        rcases Nat.lt_or_gt_of_ne e with w | w
        · exact v.o.inj z j w hj
        · exact fun e2 => v.o.inj j z w hz e2.symm
      have hqz := v.o.1 z hz
      rw [hm _ (o.ne e (by omega) (by omega))]
      exact (v.p hz).to (fun w hw => en _ (by omega)) (i.pi hqz).2.2.2.2.2.2.2.1.2 (en _ (by have := (i.pi hqz).2.1.2; omega))
  · rw [gn_eq (en 5 (by omega))] at hr2
    rw [hm _ (by omega)]
    exact (v.r hr2).to (fun w hw => en _ (by omega)) (i.ri hr2).2.2.1.2 (gDepth_cong fun z hz => ⟨(i.ri (show z < gn g 5 by omega)).2.2.1.2, fun w hw => en _ (by omega)⟩)
theorem SV_vote (v : SV M s g q) (o : SO M s) (i : GI F g) {j k : Nat} (hj : j < gn g 3) {w : Nat} (hw : w = 5 ∨ w = 6) : SV (sI M (pA M s j) (5 + w) (nI (gn g (35 + 11 * q j + w) ||| 2 ^ k))) s (gVote g k (q j) w) q := by
  have p9 := i.p.2
  have hq := v.o.1 j hj
  obtain ⟨-, -, -, -, -, -, -, a7, -⟩ := i.pi hq
  have en : ∀ x, x ≠ 35 + 11 * q j + w → gVote g k (q j) w x = g x := fun x hx => va_up_ne _ _ hx
  have es : gVote g k (q j) w (35 + 11 * q j + w) = nI (gn g (35 + 11 * q j + w) ||| 2 ^ k) := va_up_self _ _ _
  refine SV_pet v o i hj (fun x hx => en x (by omega)) rfl (fun z hz => mi_sI_n _ _ _ hz) ?_
  obtain ⟨p0, p1, p2, p3, p4, p5, p6, p7, p8, pc⟩ := v.p hj
  rw [mi_sI_s]
  have e1 : gn (gVote g k (q j) w) (35 + 11 * q j + 1) = gn g (35 + 11 * q j + 1) := gn_eq (en _ (by omega))
  have e7 : gn (gVote g k (q j) w) (35 + 11 * q j + 7) = gn g (35 + 11 * q j + 7) := gn_eq (en _ (by omega))
  have hr := (i.pi hq).2.1.2
  have o7 := i.o.2
  refine ⟨?_, ?_, ?_, ?_, ?_, ?_, ?_, ?_, ?_, fun c hc => ?_⟩
  · rw [va_up_ne _ _ (by omega), en _ (by omega)]; exact p0
  · rw [va_up_ne _ _ (by omega), en _ (by omega)]; exact p1
  · rw [va_up_ne _ _ (by omega), e1, en _ (by omega)]; exact p2
  · rw [va_up_ne _ _ (by omega), en _ (by omega)]; exact p3
  · rw [va_up_ne _ _ (by omega), en _ (by omega)]; exact p4
  · rw [va_up_ne _ _ (by omega), en _ (by omega)]; exact p5
  · rcases hw with rfl | rfl
    · rw [va_up_self, es]
    · rw [va_up_ne _ _ (by omega), en _ (by omega)]; exact p6
  · rcases hw with rfl | rfl
    · rw [va_up_ne _ _ (by omega), en _ (by omega)]; exact p7
    · rw [va_up_self, es]
  · rw [va_up_ne _ _ (by omega), en _ (by omega)]; exact p8
  · rw [e7] at hc
    have a72 := a7.2
    rw [va_up_ne _ _ (by omega), en _ (by omega)]
    exact pc c hc
theorem SV_cite (v : SV M s g q) (o : SO M s) (i : GI F g) {j k : Nat} (hj : j < gn g 3) (h3 : gn g (35 + 11 * q j + 7) ≠ 3) : SV (sI (sI M (pA M s j) (1 + gn g (35 + 11 * q j + 7)) (nI k)) (pA M s j) 0 (nI (gn g (35 + 11 * q j + 7) + 1))) s (gCite g (q j) k) q := by
  have p9 := i.p.2
  have hq := v.o.1 j hj
  obtain ⟨-, -, -, -, -, -, -, a7, -⟩ := i.pi hq
  have a72 := a7.2
  have en : ∀ x, x ≠ 35 + 11 * q j + 7 → x ≠ 35 + 11 * q j + 8 + gn g (35 + 11 * q j + 7) → gCite g (q j) k x = g x := fun x h1 h2 => by
    unfold gCite
    rw [va_up_ne _ _ h1, va_up_ne _ _ h2]
  have e7 : gCite g (q j) k (35 + 11 * q j + 7) = nI (gn g (35 + 11 * q j + 7) + 1) := va_up_self _ _ _
  have e8 : gCite g (q j) k (35 + 11 * q j + 8 + gn g (35 + 11 * q j + 7)) = nI k := by
    unfold gCite
    rw [va_up_ne _ _ (by omega), va_up_self]
  refine SV_pet v o i hj (fun x hx => en x (by omega) (by omega)) rfl (fun z hz => by rw [mi_sI_n _ _ _ hz, mi_sI_n _ _ _ hz]) ?_
  obtain ⟨p0, p1, p2, p3, p4, p5, p6, p7, p8, pc⟩ := v.p hj
  rw [mi_sI_s, mi_sI_s]
  have e1 : gn (gCite g (q j) k) (35 + 11 * q j + 1) = gn g (35 + 11 * q j + 1) := gn_eq (en _ (by omega) (by omega))
  have n7 : gn (gCite g (q j) k) (35 + 11 * q j + 7) = gn g (35 + 11 * q j + 7) + 1 := gn_v e7 (by omega)
  have hr := (i.pi hq).2.1.2
  have o7 := i.o.2
  have fx : ∀ z, 4 ≤ z → va_up (va_up (mi M (pA M s j)) (1 + gn g (35 + 11 * q j + 7)) (nI k)) 0 (nI (gn g (35 + 11 * q j + 7) + 1)) z = mi M (pA M s j) z := fun z hz => by rw [va_up_ne _ _ (by omega), va_up_ne _ _ (by omega)]
  refine ⟨?_, ?_, ?_, ?_, ?_, ?_, ?_, ?_, ?_, fun c hc => ?_⟩
  · rw [fx _ (by decide), en _ (by omega) (by omega)]; exact p0
  · rw [fx _ (by decide), en _ (by omega) (by omega)]; exact p1
  · rw [fx _ (by decide), e1, en _ (by omega) (by omega)]; exact p2
  · rw [fx _ (by decide), en _ (by omega) (by omega)]; exact p3
  · rw [fx _ (by decide), en _ (by omega) (by omega)]; exact p4
  · rw [fx _ (by decide), en _ (by omega) (by omega)]; exact p5
  · rw [fx _ (by decide), en _ (by omega) (by omega)]; exact p6
  · rw [fx _ (by decide), en _ (by omega) (by omega)]; exact p7
  · rw [va_up_self, e7]
  · rw [n7] at hc
    rw [va_up_ne _ _ (by omega)]
    by_cases e : c = gn g (35 + 11 * q j + 7)
    · rw [e, va_up_self, e8]
    · rw [va_up_ne _ _ (by omega), en _ (by omega) (by omega)]
      exact pc c (by omega)
/-- a petition has left; only counts have changed besides -/
theorem SV_drop (v : SV M s g q) (o : SO M s) (i : GI F g) {j0 : Nat} (hj : j0 < gn g 3) {g' : Nat → Int32} (d : GDr g (q j0) g') {M' : Mm} (hr : mr M' (s + 4) = fun j => mr M (s + 4) (wD j0 (gn g 3) j)) (hm : ∀ z, z ≠ s → mi M' z = mi M z) (hc : mi M' s 5 = g' 0 ∧ mi M' s 6 = g' 1 ∧ mi M' s 7 = g' 3 ∧ mi M' s 8 = g' 5 ∧ mi M' s 9 = g' 2 ∧ mi M' s 10 = g' 4 ∧ mi M' s 11 = g' 6 ∧ mi M' s 12 = g' 7 ∧ mi M' s 13 = g' 8) (lo : ∀ x, 8 < x → x < 35 → g' x = g x) (e0 : g' 0 = g 0) (e1 : g' 1 = g 1) (e5 : g' 5 = g 5) (hi : ∀ x, 123 ≤ x → g' x = g x) : ∃ q', SV M' s g' q' := by
  have s11 := i.s.2
  have o7 := i.o.2
  have n8 := i.p.2
  have r17 := i.r.2
  have hp : ∀ j, pA M' s j = pA M s (wD j0 (gn g 3) j) := fun j => by unfold pA; rw [hr]
  refine ⟨_, hc, fun k hk => ?_, fun k hk => ?_, QO_drop i v.o hj d, fun j h => ?_, fun r h => ?_⟩
  · rw [gn_eq e0] at hk
    rw [hm _ (by omega), hm _ (by omega), lo _ (by omega) (by omega), lo _ (by omega) (by omega)]
    exact v.2.1 k hk
  · rw [gn_eq e1] at hk
    rw [hm _ (by omega), lo _ (by omega) (by omega)]
    exact v.rank hk
  · rw [d.n n8] at h
    have hw := wD_lt hj (by omega) (show j < 8 by omega)
    have pb := o.pb hw
    have hw2 : wD j0 (gn g 3) j < gn g 3 := by
      unfold wD
      split
      · omega
      · split
        · omega
        · split <;> omega
    rw [hp, hm _ (by omega)]
    exact (PF_drop i v.o hj d h (v.p hw2)).2
  · rw [gn_eq e5] at h
    rw [hm _ (by omega)]
    exact (v.r h).to (fun w hw => hi _ (by omega)) (i.ri h).2.2.1.2 (gDepth_cong fun z hz => ⟨(i.ri (show z < gn g 5 by omega)).2.2.1.2, fun w hw => hi _ (by omega)⟩)
end SVC
