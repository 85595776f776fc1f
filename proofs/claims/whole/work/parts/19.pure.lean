/-! WHAT A COMMAND DOES: (place of its throw or 0, (number of the denial or 0, its detail), value, state afterwards) -/
abbrev CO : Type := Int32 × (Int32 × Int32) × Int32 × (Nat → Int32)
def cThr (p : Int32) : CO := (p, (0, 0), 0, fun _ => 0)
def cDen (p a b : Int32) : CO := (p, (a, b), 0, fun _ => 0)
def cOk (v : Int32) (g : Nat → Int32) : CO := (0, (0, 0), v, g)
def sp_addStone (g : Nat → Int32) (c w : Int32) : CO :=
  if 0 ≤ c ∧ c ≤ 24 then (if 1 ≤ w ∧ w ≤ 9 then (match gWithin g c with
    | some k => cDen 3 2 (nI k)
    | none => if gn g 0 = 10 then cDen 3 1 10 else cOk (nI (gn g 0)) (va_up (va_up (va_up g 0 (nI (gn g 0 + 1))) (9 + 2 * gn g 0) c) (9 + 2 * gn g 0 + 1) w)) else cThr 2) else cThr 1
def sp_addOfficer (g : Nat → Int32) (r : Int32) : CO :=
  if 1 ≤ r ∧ r ≤ 9 then (if gn g 1 = 6 then cDen 2 1 6 else cOk (nI (gn g 1)) (va_up (va_up g (29 + gn g 1) r) 1 (nI (gn g 1 + 1)))) else cThr 1
/-- g with one petition more -/
def gFile (g : Nat → Int32) (i k : Nat) (c u : Int32) : Nat → Int32 := fun x =>
  if x = 3 then nI (gn g 3 + 1) else if x = 4 then nI (gn g 4 + 1) else if x = 35 + 11 * gn g 3 then g 4 else if x = 35 + 11 * gn g 3 + 1 then nI i else if x = 35 + 11 * gn g 3 + 2 then nI k else if x = 35 + 11 * gn g 3 + 3 then c else if x = 35 + 11 * gn g 3 + 4 then u else if 35 + 11 * gn g 3 + 5 ≤ x ∧ x < 35 + 11 * gn g 3 + 11 then 0 else g x
def sp_file (g : Nat → Int32) (o s c u : Int32) : CO :=
  match ixo (gn g 1) o with
  | none => cThr 1
  | some i => match ixo (gn g 0) s with
    | none => cThr 1
    | some k => if 0 ≤ c ∧ c ≤ 24 then (if 0 ≤ u ∧ u ≤ 9 then (match gAbout g (nI k) with
      | some p => cDen 3 3 (g (35 + 11 * p))
      | none => if g (9 + 2 * k) = c then cDen 3 4 c else if gn g 3 = 8 then cDen 3 1 8 else cOk (g 4) (gFile g i k c u)) else cThr 2) else cThr 1
def gVote (g : Nat → Int32) (i p w : Nat) : Nat → Int32 := va_up g (35 + 11 * p + w) (nI (gn g (35 + 11 * p + w) ||| 2 ^ i))
def sp_vote (g : Nat → Int32) (o x b : Int32) : CO :=
  match ixo (gn g 1) o with
  | none => cThr 1
  | some i => match gPlace g x with
    | none => cThr 2
    | some p => if g (35 + 11 * p + 1) = nI i then cDen 3 6 (nI i) else if (gn g (35 + 11 * p + 5)).testBit i = true then cDen 3 5 1 else if (gn g (35 + 11 * p + 6)).testBit i = true then cDen 3 5 0 else cOk (nI (gVotes (gVote g i p (if b = 0 then 6 else 5)) p)) (gVote g i p (if b = 0 then 6 else 5))
def gCited (g : Nat → Int32) (p k : Nat) : Bool := (fx (fun c => decide (g (35 + 11 * p + 8 + c) = nI k)) (gn g (35 + 11 * p + 7))).isSome
def gCite (g : Nat → Int32) (p k : Nat) : Nat → Int32 := va_up (va_up g (35 + 11 * p + 8 + gn g (35 + 11 * p + 7)) (nI k)) (35 + 11 * p + 7) (nI (gn g (35 + 11 * p + 7) + 1))
def sp_cite (g : Nat → Int32) (x r : Int32) : CO :=
  match gPlace g x with
  | none => cThr 1
  | some p => match ixo (gn g 5) r with
    | none => cThr 1
    | some k => if gCited g p k = true then cDen 2 7 (nI k) else if gn g (35 + 11 * p + 7) = 3 then cDen 2 1 3 else cOk (nI (gn g (35 + 11 * p + 7) + 1)) (gCite g p k)
def sp_veto (g : Nat → Int32) (o x : Int32) : CO :=
  match ixo (gn g 1) o with
  | none => cThr 1
  | some i => match gPlace g x with
    | none => cThr 2
    | some p => if gn g (29 + i) ≤ gRk g p then cDen 3 8 (nI (gRk g p)) else cOk (nI (gn g 3 - 1)) (va_up (gDrop g p) 6 (g 6 + 1))
def sp_withdraw (g : Nat → Int32) (x : Int32) : CO :=
  match gPlace g x with
  | none => cThr 1
  | some p => cOk (nI (gn g 3 - 1)) (va_up (gDrop g p) 7 (g 7 + 1))
def sp_setQuorum (g : Nat → Int32) (q : Int32) : CO :=
  if 1 ≤ q ∧ q ≤ 5 then (if g 2 = q then cDen 2 11 q else cOk (g 2) (va_up g 2 q)) else cThr 1
/-- is the stone of the petition at place p moved -/
def gMoved (g : Nat → Int32) (p : Nat) : Bool := gWins g p && (gWithin g (g (35 + 11 * p + 3))).isNone
/-- g with the ruling on the petition at place p -/
def gRule (g : Nat → Int32) (p : Nat) : Nat → Int32 := fun x =>
  if x = 123 + 6 * gn g 5 then bI (gWins g p = true) else if x = 123 + 6 * gn g 5 + 1 then bI (gMoved g p = true) else if 123 + 6 * gn g 5 + 2 ≤ x ∧ x < 123 + 6 * gn g 5 + 6 then g (35 + 11 * p + 7 + (x - (123 + 6 * gn g 5 + 2))) else g x
def gMove (g : Nat → Int32) (p : Nat) : Nat → Int32 := if gMoved g p = true then va_up (va_up (gRule g p) (9 + 2 * gn g (35 + 11 * p + 2)) (g (35 + 11 * p + 3))) 8 (g 8 + g (9 + 2 * gn g (35 + 11 * p + 2) + 1)) else gRule g p
def gDecide (g : Nat → Int32) (p : Nat) : Nat → Int32 := va_up (gDrop (gMove g p) p) 5 (nI (gn g 5 + 1))
def sp_decide (g : Nat → Int32) : CO :=
  match gQueued g 0 with
  | none => cDen 1 9 (g 5)
  | some p => if gVotes g p < gn g 2 then cDen 1 10 (nI (gVotes g p)) else if gn g 5 = 16 then cDen 1 1 16 else cOk (nI (gn g 5)) (gDecide g p)
/-! what holds of the state holds afterwards -/
theorem nb_eq {g g' : Nat → Int32} {i j b : Nat} (h : g' j = g i) (n : nb g i b) : nb g' j b := by
  unfold nb gn at *
  rw [h]
  exact n
theorem nb_v {g : Nat → Int32} {i v b : Nat} (h : g i = nI v) (hv : v < b) (hb : b ≤ 2 ^ 31) : nb g i b := by
  unfold nb gn
  rw [h, nI_clamp (by omega)]
  exact ⟨rfl, hv⟩
theorem nb_i {g : Nat → Int32} {i b : Nat} {x c : Int32} (h : g i = x) (h1 : 0 ≤ x) (h2 : x ≤ c) (hc : c = nI (b - 1)) (hb : 0 < b) (hb2 : b ≤ 2 ^ 31) : nb g i b := by
  subst hc
  obtain ⟨k, hk, hx⟩ := nI_of (Int32.not_lt.mpr h1)
  subst hx
  have := (nI_leI hk (by omega)).mp h2
  exact nb_v h (by omega) hb2
theorem gn_eq {g g' : Nat → Int32} {i j : Nat} (h : g' j = g i) : gn g' j = gn g i := by unfold gn; rw [h]
theorem gn_v {g : Nat → Int32} {i v : Nat} (h : g i = nI v) (hv : v < 2 ^ 31) : gn g i = v := by unfold gn; rw [h, nI_clamp hv]
theorem PI_to {g g' : Nat → Int32} {k k' : Nat} (h : ∀ w, w < 11 → g' (35 + 11 * k' + w) = g (35 + 11 * k + w)) (h4 : gn g 4 ≤ gn g' 4) (h1 : gn g 1 ≤ gn g' 1) (h0 : gn g 0 ≤ gn g' 0) (h5 : gn g 5 ≤ gn g' 5) (p : PI g k) : PI g' k' := by
  obtain ⟨p0, p1, p2, p3, p4, p5, p6, p7, p8⟩ := p
  have e7 := gn_eq (h 7 (by decide))
  refine ⟨(nb_eq (h 0 (by decide)) p0).le h4, (nb_eq (h 1 (by decide)) p1).le h1, (nb_eq (h 2 (by decide)) p2).le h0, nb_eq (h 3 (by decide)) p3, nb_eq (h 4 (by decide)) p4, nb_eq (h 5 (by decide)) p5, nb_eq (h 6 (by decide)) p6, nb_eq (h 7 (by decide)) p7, ?_⟩
  intro c hc
  rw [e7] at hc
  have h7 := p7.2
  have h8 := h (8 + c) (by omega)
  rw [← Nat.add_assoc, ← Nat.add_assoc] at h8
  exact (nb_eq h8 (p8 c hc)).le h5
theorem RI_to {g g' : Nat → Int32} {r : Nat} (h : ∀ w, w < 6 → g' (123 + 6 * r + w) = g (123 + 6 * r + w)) (p : RI g r) : RI g' r := by
  obtain ⟨p0, p1, p2, p3⟩ := p
  have e2 := gn_eq (h 2 (by decide))
  refine ⟨nb_eq (h 0 (by decide)) p0, nb_eq (h 1 (by decide)) p1, nb_eq (h 2 (by decide)) p2, ?_⟩
  intro c hc
  rw [e2] at hc
  have h2 := p2.2
  have h8 := h (3 + c) (by omega)
  rw [← Nat.add_assoc] at h8
  exact nb_eq h8 (p3 c hc)
theorem GI.mono {F F' : Nat} {g : Nat → Int32} (i : GI F g) (hF : F ≤ F') (hF' : F' < 2 ^ 30) : GI F' g := ⟨hF', i.s, i.o, i.q, i.p, i.f.le (by omega), i.r, fun _ => i.cell, fun _ => i.rank, fun _ => i.pi, fun _ _ => i.num, fun _ => i.ri⟩
theorem GI_addStone {F : Nat} {g : Nat → Int32} (i : GI F g) {c w : Int32} (hc : 0 ≤ c ∧ c ≤ 24) (h10 : gn g 0 ≠ 10) : GI F (va_up (va_up (va_up g 0 (nI (gn g 0 + 1))) (9 + 2 * gn g 0) c) (9 + 2 * gn g 0 + 1) w) := by
  have hs := i.s.2
  have hr := i.r.2
  have hp := i.p.2
  have ho := i.o.2
  generalize hN : gn g 0 = N at *
  generalize hg : va_up (va_up (va_up g 0 (nI (N + 1))) (9 + 2 * N) c) (9 + 2 * N + 1) w = g'
  have e0 : g' 0 = nI (N + 1) := by rw [← hg, va_up_ne _ _ (by omega), va_up_ne _ _ (by omega), va_up_self]
  have ec : g' (9 + 2 * N) = c := by rw [← hg, va_up_ne _ _ (by omega), va_up_self]
  have en : ∀ x, x ≠ 0 → x ≠ 9 + 2 * N → x ≠ 9 + 2 * N + 1 → g' x = g x := fun x h1 h2 h3 => by rw [← hg, va_up_ne _ _ h3, va_up_ne _ _ h2, va_up_ne _ _ h1]
  have n0 : gn g' 0 = N + 1 := gn_v e0 (by omega)
  have e1 := en 1 (by omega) (by omega) (by omega)
  have e3 := en 3 (by omega) (by omega) (by omega)
  have e4 := en 4 (by omega) (by omega) (by omega)
  have e5 := en 5 (by omega) (by omega) (by omega)
  refine ⟨i.hF, nb_v e0 (by omega) (by decide), nb_eq e1 i.o, nb_eq (en 2 (by omega) (by omega) (by omega)) i.q, nb_eq e3 i.p, nb_eq e4 i.f, nb_eq e5 i.r, ?_, ?_, ?_, ?_, ?_⟩
  · intro k hk
    rw [n0] at hk
    by_cases h : k = N
    · subst h
      exact nb_i ec hc.1 hc.2 rfl (by decide) (by decide)
    · exact nb_eq (en _ (by omega) (by omega) (by omega)) (i.cell (by omega))
  · intro k hk
    rw [gn_eq e1] at hk
    exact nb_eq (en _ (by omega) (by omega) (by omega)) (i.rank hk)
  · intro k hk
    rw [gn_eq e3] at hk
    exact PI_to (fun w hw => en _ (by omega) (by omega) (by omega)) (by rw [gn_eq e4]; exact Nat.le_refl _) (by rw [gn_eq e1]; exact Nat.le_refl _) (by omega) (by rw [gn_eq e5]; exact Nat.le_refl _) (i.pi hk)
  · intro j k hj hk
    rw [gn_eq e3] at hk
    rw [gn_eq (en (35 + 11 * j) (by omega) (by omega) (by omega)), gn_eq (en (35 + 11 * k) (by omega) (by omega) (by omega))]
    exact i.num hj hk
  · intro r hr
    rw [gn_eq e5] at hr
    exact RI_to (fun w hw => en _ (by omega) (by omega) (by omega)) (i.ri hr)
theorem GI_addOfficer {F : Nat} {g : Nat → Int32} (i : GI F g) {c : Int32} (hc : 1 ≤ c ∧ c ≤ 9) (h10 : gn g 1 ≠ 6) : GI F (va_up (va_up g (29 + gn g 1) c) 1 (nI (gn g 1 + 1))) := by
  have hs := i.s.2
  have hr := i.r.2
  have hp := i.p.2
  have ho := i.o.2
  generalize hN : gn g 1 = N at *
  generalize hg : va_up (va_up g (29 + N) c) 1 (nI (N + 1)) = g'
  have e1 : g' 1 = nI (N + 1) := by rw [← hg, va_up_self]
  have ec : g' (29 + N) = c := by rw [← hg, va_up_ne _ _ (by omega), va_up_self]
  have en : ∀ x, x ≠ 1 → x ≠ 29 + N → g' x = g x := fun x h1 h2 => by rw [← hg, va_up_ne _ _ h1, va_up_ne _ _ h2]
  have n1 : gn g' 1 = N + 1 := gn_v e1 (by omega)
  have e0 := en 0 (by omega) (by omega)
  have e3 := en 3 (by omega) (by omega)
  have e4 := en 4 (by omega) (by omega)
  have e5 := en 5 (by omega) (by omega)
  refine ⟨i.hF, nb_eq e0 i.s, nb_v e1 (by omega) (by decide), nb_eq (en 2 (by omega) (by omega)) i.q, nb_eq e3 i.p, nb_eq e4 i.f, nb_eq e5 i.r, ?_, ?_, ?_, ?_, ?_⟩
  · intro k hk
    rw [gn_eq e0] at hk
    exact nb_eq (en _ (by omega) (by omega)) (i.cell hk)
  · intro k hk
    rw [n1] at hk
    by_cases h : k = N
    · subst h
      exact nb_i ec (Int32.le_trans (by decide) hc.1) hc.2 rfl (by decide) (by decide)
    · exact nb_eq (en _ (by omega) (by omega)) (i.rank (by omega))
  · intro k hk
    rw [gn_eq e3] at hk
    exact PI_to (fun w hw => en _ (by omega) (by omega)) (by rw [gn_eq e4]; exact Nat.le_refl _) (by omega) (by rw [gn_eq e0]; exact Nat.le_refl _) (by rw [gn_eq e5]; exact Nat.le_refl _) (i.pi hk)
  · intro j k hj hk
    rw [gn_eq e3] at hk
    rw [gn_eq (en (35 + 11 * j) (by omega) (by omega)), gn_eq (en (35 + 11 * k) (by omega) (by omega))]
    exact i.num hj hk
  · intro r hr
    rw [gn_eq e5] at hr
    exact RI_to (fun w hw => en _ (by omega) (by omega)) (i.ri hr)
theorem GI_quorum {F : Nat} {g : Nat → Int32} (i : GI F g) {q : Int32} (hq : 1 ≤ q ∧ q ≤ 5) : GI F (va_up g 2 q) := by
  have hs := i.s.2
  have hr := i.r.2
  have hp := i.p.2
  have ho := i.o.2
  generalize hg : va_up g 2 q = g'
  have ec : g' 2 = q := by rw [← hg, va_up_self]
  have en : ∀ x, x ≠ 2 → g' x = g x := fun x h1 => by rw [← hg, va_up_ne _ _ h1]
  have e0 := en 0 (by omega)
  have e1 := en 1 (by omega)
  have e3 := en 3 (by omega)
  have e4 := en 4 (by omega)
  have e5 := en 5 (by omega)
  refine ⟨i.hF, nb_eq e0 i.s, nb_eq e1 i.o, nb_i ec (Int32.le_trans (by decide) hq.1) hq.2 rfl (by decide) (by decide), nb_eq e3 i.p, nb_eq e4 i.f, nb_eq e5 i.r, ?_, ?_, ?_, ?_, ?_⟩
  · intro k hk
    rw [gn_eq e0] at hk
    exact nb_eq (en _ (by omega)) (i.cell hk)
  · intro k hk
    rw [gn_eq e1] at hk
    exact nb_eq (en _ (by omega)) (i.rank hk)
  · intro k hk
    rw [gn_eq e3] at hk
    exact PI_to (fun w hw => en _ (by omega)) (by rw [gn_eq e4]; exact Nat.le_refl _) (by rw [gn_eq e1]; exact Nat.le_refl _) (by rw [gn_eq e0]; exact Nat.le_refl _) (by rw [gn_eq e5]; exact Nat.le_refl _) (i.pi hk)
  · intro j k hj hk
    rw [gn_eq e3] at hk
    rw [gn_eq (en (35 + 11 * j) (by omega)), gn_eq (en (35 + 11 * k) (by omega))]
    exact i.num hj hk
  · intro r hr
    rw [gn_eq e5] at hr
    exact RI_to (fun w hw => en _ (by omega)) (i.ri hr)
/-- entries 6..8 are free -/
theorem GI_free {F : Nat} {g g' : Nat → Int32} (i : GI F g) (en : ∀ x, x ≠ 6 → x ≠ 7 → x ≠ 8 → g' x = g x) : GI F g' := by
  have hs := i.s.2
  have hr := i.r.2
  have hp := i.p.2
  have ho := i.o.2
  have e0 := en 0 (by omega) (by omega) (by omega)
  have e1 := en 1 (by omega) (by omega) (by omega)
  have e3 := en 3 (by omega) (by omega) (by omega)
  have e4 := en 4 (by omega) (by omega) (by omega)
  have e5 := en 5 (by omega) (by omega) (by omega)
  refine ⟨i.hF, nb_eq e0 i.s, nb_eq e1 i.o, nb_eq (en 2 (by omega) (by omega) (by omega)) i.q, nb_eq e3 i.p, nb_eq e4 i.f, nb_eq e5 i.r, ?_, ?_, ?_, ?_, ?_⟩
  · intro k hk
    rw [gn_eq e0] at hk
    exact nb_eq (en _ (by omega) (by omega) (by omega)) (i.cell hk)
  · intro k hk
    rw [gn_eq e1] at hk
    exact nb_eq (en _ (by omega) (by omega) (by omega)) (i.rank hk)
  · intro k hk
    rw [gn_eq e3] at hk
    exact PI_to (fun w hw => en _ (by omega) (by omega) (by omega)) (by rw [gn_eq e4]; exact Nat.le_refl _) (by rw [gn_eq e1]; exact Nat.le_refl _) (by rw [gn_eq e0]; exact Nat.le_refl _) (by rw [gn_eq e5]; exact Nat.le_refl _) (i.pi hk)
  · intro j k hj hk
    rw [gn_eq e3] at hk
    rw [gn_eq (en (35 + 11 * j) (by omega) (by omega) (by omega)), gn_eq (en (35 + 11 * k) (by omega) (by omega) (by omega))]
    exact i.num hj hk
  · intro r hr
    rw [gn_eq e5] at hr
    exact RI_to (fun w hw => en _ (by omega) (by omega) (by omega)) (i.ri hr)
theorem GI_file {F : Nat} {g : Nat → Int32} (i : GI F g) (hF : F + 1 < 2 ^ 30) {a b : Nat} {c u : Int32} (ha : a < gn g 1) (hb : b < gn g 0) (hc : 0 ≤ c ∧ c ≤ 24) (hu : 0 ≤ u ∧ u ≤ 9) (h8 : gn g 3 ≠ 8) : GI (F + 1) (gFile g a b c u) := by
  have hs := i.s.2
  have hr := i.r.2
  have hp := i.p.2
  have ho := i.o.2
  have hf := i.f.2
  have hlt : ∀ k, k < gn g 3 → gn g (35 + 11 * k) < gn g 4 := fun k hk => (i.pi hk).1.2
  generalize hN : gn g 3 = N at *
  generalize hg : gFile g a b c u = g'
  have u1 : g' 3 = nI (N + 1) := by rw [← hg, ← hN]; rfl
  have u2 : g' 4 = nI (gn g 4 + 1) := by rw [← hg]; rfl
  have q0 : g' (35 + 11 * N) = g 4 := by
    rw [← hg]; unfold gFile
    rw [hN, if_neg (by omega), if_neg (by omega), if_pos rfl]
  have q1 : g' (35 + 11 * N + 1) = nI a := by
    rw [← hg]; unfold gFile
    rw [hN, if_neg (by omega), if_neg (by omega), if_neg (by omega), if_pos rfl]
  have q2 : g' (35 + 11 * N + 2) = nI b := by
    rw [← hg]; unfold gFile
    rw [hN, if_neg (by omega), if_neg (by omega), if_neg (by omega), if_neg (by omega), if_pos rfl]
  have q3 : g' (35 + 11 * N + 3) = c := by
    rw [← hg]; unfold gFile
    rw [hN, if_neg (by omega), if_neg (by omega), if_neg (by omega), if_neg (by omega), if_neg (by omega), if_pos rfl]
  have q4 : g' (35 + 11 * N + 4) = u := by
    rw [← hg]; unfold gFile
    rw [hN, if_neg (by omega), if_neg (by omega), if_neg (by omega), if_neg (by omega), if_neg (by omega), if_neg (by omega), if_pos rfl]
  have q5 : ∀ x, 35 + 11 * N + 5 ≤ x → x < 35 + 11 * N + 11 → g' x = nI 0 := fun x h1 h2 => by
    rw [← hg]; unfold gFile
    rw [hN, if_neg (by omega), if_neg (by omega), if_neg (by omega), if_neg (by omega), if_neg (by omega), if_neg (by omega), if_neg (by omega), if_pos ⟨h1, h2⟩]; rfl
  have en : ∀ x, x ≠ 3 → x ≠ 4 → (x < 35 + 11 * N ∨ 35 + 11 * N + 11 ≤ x) → g' x = g x := fun x h1 h2 h3 => by
    rw [← hg]; unfold gFile
    rw [hN, if_neg h1, if_neg h2, if_neg (by omega), if_neg (by omega), if_neg (by omega), if_neg (by omega), if_neg (by omega), if_neg (by omega)]
  have n3 : gn g' 3 = N + 1 := gn_v u1 (by omega)
  have n4 : gn g' 4 = gn g 4 + 1 := gn_v u2 (by omega)
  have e0 := en 0 (by omega) (by omega) (by omega)
  have e1 := en 1 (by omega) (by omega) (by omega)
  have e5 := en 5 (by omega) (by omega) (by omega)
  refine ⟨hF, nb_eq e0 i.s, nb_eq e1 i.o, nb_eq (en 2 (by omega) (by omega) (by omega)) i.q, nb_v u1 (by omega) (by decide), nb_v u2 (by omega) (by omega), nb_eq e5 i.r, ?_, ?_, ?_, ?_, ?_⟩
  · intro k hk
    rw [gn_eq e0] at hk
    exact nb_eq (en _ (by omega) (by omega) (by omega)) (i.cell hk)
  · intro k hk
    rw [gn_eq e1] at hk
    exact nb_eq (en _ (by omega) (by omega) (by omega)) (i.rank hk)
  · intro k hk
    rw [n3] at hk
    by_cases h : k = N
    · subst h
      have z7 : gn g' (35 + 11 * k + 7) = 0 := gn_v (q5 _ (by omega) (by omega)) (by decide)
      refine ⟨?_, nb_v q1 (by rw [gn_eq e1]; exact ha) (by rw [gn_eq e1]; omega), nb_v q2 (by rw [gn_eq e0]; exact hb) (by rw [gn_eq e0]; omega), nb_i q3 hc.1 hc.2 rfl (by decide) (by decide), nb_i q4 hu.1 hu.2 rfl (by decide) (by decide), nb_v (q5 _ (by omega) (by omega)) (by decide) (by decide), nb_v (q5 _ (by omega) (by omega)) (by decide) (by decide), nb_v (q5 _ (by omega) (by omega)) (by decide) (by decide), fun c hc => by rw [z7] at hc; exact absurd hc (Nat.not_lt_zero c)⟩
      rw [n4]
      exact ⟨(nb_eq q0 i.f).1, by rw [gn_eq q0]; omega⟩
    · exact PI_to (fun w hw => en _ (by omega) (by omega) (by omega)) (by omega) (by rw [gn_eq e1]; exact Nat.le_refl _) (by rw [gn_eq e0]; exact Nat.le_refl _) (by rw [gn_eq e5]; exact Nat.le_refl _) (i.pi (by omega))
  · intro j k hj hk
    rw [n3] at hk
    rw [gn_eq (en (35 + 11 * j) (by omega) (by omega) (by omega))]
    by_cases h : k = N
    · subst h
      rw [gn_eq q0]
      exact hlt j hj
    · rw [gn_eq (en (35 + 11 * k) (by omega) (by omega) (by omega))]
      exact i.num hj (by omega)
  · intro r hr
    rw [gn_eq e5] at hr
    exact RI_to (fun w hw => en _ (by omega) (by omega) (by omega)) (i.ri hr)
/-- one petition's votes or citations alone -/
theorem GI_pet {F : Nat} {g g' : Nat → Int32} (i : GI F g) {p : Nat} (hp : p < gn g 3) (en : ∀ x, (x < 35 + 11 * p + 5 ∨ 35 + 11 * p + 11 ≤ x) → g' x = g x) (h5 : nb g' (35 + 11 * p + 5) 64) (h6 : nb g' (35 + 11 * p + 6) 64) (h7 : nb g' (35 + 11 * p + 7) 4) (h8 : ∀ c, c < gn g' (35 + 11 * p + 7) → nb g' (35 + 11 * p + 8 + c) (gn g 5)) : GI F g' := by
  have hp8 := i.p.2
  have hr := i.r.2
  have ho := i.o.2
  have hs := i.s.2
  have e0 := en 0 (by omega)
  have e1 := en 1 (by omega)
  have e3 := en 3 (by omega)
  have e4 := en 4 (by omega)
  have e5 := en 5 (by omega)
  refine ⟨i.hF, nb_eq e0 i.s, nb_eq e1 i.o, nb_eq (en 2 (by omega)) i.q, nb_eq e3 i.p, nb_eq e4 i.f, nb_eq e5 i.r, ?_, ?_, ?_, ?_, ?_⟩
  · intro k hk
    rw [gn_eq e0] at hk
    exact nb_eq (en _ (by omega)) (i.cell hk)
  · intro k hk
    rw [gn_eq e1] at hk
    exact nb_eq (en _ (by omega)) (i.rank hk)
  · intro k hk
    rw [gn_eq e3] at hk
    by_cases h : k = p
    · subst h
      obtain ⟨p0, p1, p2, p3, p4, -⟩ := i.pi hk
      refine ⟨?_, ?_, ?_, nb_eq (en _ (by omega)) p3, nb_eq (en _ (by omega)) p4, h5, h6, h7, ?_⟩
      · rw [gn_eq e4]; exact nb_eq (en _ (by omega)) p0
      · rw [gn_eq e1]; exact nb_eq (en _ (by omega)) p1
      · rw [gn_eq e0]; exact nb_eq (en _ (by omega)) p2
      · rw [gn_eq e5]; exact h8
    · exact PI_to (fun w hw => en _ (by omega)) (by rw [gn_eq e4]; exact Nat.le_refl _) (by rw [gn_eq e1]; exact Nat.le_refl _) (by rw [gn_eq e0]; exact Nat.le_refl _) (by rw [gn_eq e5]; exact Nat.le_refl _) (i.pi hk)
  · intro j k hj hk
    rw [gn_eq e3] at hk
    rw [gn_eq (en (35 + 11 * j) (by omega)), gn_eq (en (35 + 11 * k) (by omega))]
    exact i.num hj hk
  · intro r hr
    rw [gn_eq e5] at hr
    exact RI_to (fun w hw => en _ (by omega)) (i.ri hr)
theorem GI_vote {F : Nat} {g : Nat → Int32} (i : GI F g) {p k w : Nat} (hp : p < gn g 3) (hk : k < 6) (hw : w = 5 ∨ w = 6) : GI F (gVote g k p w) := by
  obtain ⟨p0, p1, p2, p3, p4, p5, p6, p7, p8⟩ := i.pi hp
  have hb : gn g (35 + 11 * p + w) < 2 ^ 6 := by
    rcases hw with rfl | rfl
    · exact p5.2
    · exact p6.2
  have h2 : 2 ^ k < 2 ^ 6 := Nat.pow_lt_pow_right (by decide) hk
  have ho := Nat.or_lt_two_pow hb h2
  have en : ∀ x, x ≠ 35 + 11 * p + w → gVote g k p w x = g x := fun x hx => va_up_ne _ _ hx
  have es : gVote g k p w (35 + 11 * p + w) = nI (gn g (35 + 11 * p + w) ||| 2 ^ k) := va_up_self _ _ _
  have e7 := en (35 + 11 * p + 7) (by omega)
  refine GI_pet i hp (fun x hx => en x (by omega)) ?_ ?_ (nb_eq e7 p7) ?_
  · rcases hw with rfl | rfl
    · exact nb_v es ho (by decide)
    · exact nb_eq (en _ (by omega)) p5
  · rcases hw with rfl | rfl
    · exact nb_eq (en _ (by omega)) p6
    · exact nb_v es ho (by decide)
  · intro c hc
    rw [gn_eq e7] at hc
    exact nb_eq (en _ (by omega)) (p8 c hc)
theorem GI_cite {F : Nat} {g : Nat → Int32} (i : GI F g) {p k : Nat} (hp : p < gn g 3) (hk : k < gn g 5) (h3 : gn g (35 + 11 * p + 7) ≠ 3) : GI F (gCite g p k) := by
  obtain ⟨p0, p1, p2, p3, p4, p5, p6, p7, p8⟩ := i.pi hp
  have hr := i.r.2
  have h7 := p7.2
  generalize hg : gCite g p k = g'
  generalize hm : gn g (35 + 11 * p + 7) = m at *
  have es : g' (35 + 11 * p + 7) = nI (m + 1) := by rw [← hg]; unfold gCite; rw [va_up_self, hm]
  have ec : g' (35 + 11 * p + 8 + m) = nI k := by rw [← hg]; unfold gCite; rw [hm, va_up_ne _ _ (by omega), va_up_self]
  have en : ∀ x, x ≠ 35 + 11 * p + 7 → x ≠ 35 + 11 * p + 8 + m → g' x = g x := fun x h1 h2 => by rw [← hg]; unfold gCite; rw [hm, va_up_ne _ _ h1, va_up_ne _ _ h2]
  refine GI_pet i hp (fun x hx => en x (by omega) (by omega)) (nb_eq (en _ (by omega) (by omega)) p5) (nb_eq (en _ (by omega) (by omega)) p6) (nb_v es (by omega) (by decide)) ?_
  intro c hc
  rw [gn_v es (by omega)] at hc
  by_cases h : c = m
  · subst h
    exact nb_v ec hk (by omega)
  · exact nb_eq (en _ (by omega) (by omega)) (p8 c (by omega))
theorem GI_drop {F : Nat} {g : Nat → Int32} (i : GI F g) {p : Nat} (hp : p < gn g 3) : GI F (gDrop g p) := by
  have hp8 := i.p.2
  have hr := i.r.2
  have ho := i.o.2
  have hs := i.s.2
  have h3 := i.p.1
  generalize hg : gDrop g p = g'
  generalize hN : gn g 3 = N at *
  have u3 : g' 3 = nI (N - 1) := by
    rw [← hg]; unfold gDrop
    rw [if_pos rfl, h3, nI_sub1 (by omega)]
  have n3 : gn g' 3 = N - 1 := gn_v u3 (by omega)
  have en : ∀ x, x ≠ 3 → (x < 35 + 11 * p ∨ 35 + 11 * N ≤ x) → g' x = g x := fun x h1 h2 => by
    rw [← hg]; unfold gDrop
    rw [hN, if_neg h1, if_neg (by omega), if_neg (by omega)]
  have em : ∀ x, 35 + 11 * p ≤ x → x < 35 + 11 * (N - 1) → g' x = g (x + 11) := fun x h1 h2 => by
    rw [← hg]; unfold gDrop
    rw [hN, if_neg (by omega), if_pos ⟨h1, h2⟩]
  have e0 := en 0 (by omega) (by omega)
  have e1 := en 1 (by omega) (by omega)
  have e4 := en 4 (by omega) (by omega)
  have e5 := en 5 (by omega) (by omega)
  refine ⟨i.hF, nb_eq e0 i.s, nb_eq e1 i.o, nb_eq (en 2 (by omega) (by omega)) i.q, nb_v u3 (by omega) (by decide), nb_eq e4 i.f, nb_eq e5 i.r, ?_, ?_, ?_, ?_, ?_⟩
  · intro k hk
    rw [gn_eq e0] at hk
    exact nb_eq (en _ (by omega) (by omega)) (i.cell hk)
  · intro k hk
    rw [gn_eq e1] at hk
    exact nb_eq (en _ (by omega) (by omega)) (i.rank hk)
  · intro k hk
    rw [n3] at hk
    by_cases h : k < p
    · exact PI_to (fun w hw => en _ (by omega) (by omega)) (by rw [gn_eq e4]; exact Nat.le_refl _) (by rw [gn_eq e1]; exact Nat.le_refl _) (by rw [gn_eq e0]; exact Nat.le_refl _) (by rw [gn_eq e5]; exact Nat.le_refl _) (i.pi (by omega))
    · exact PI_to (k := k + 1) (fun w hw => by rw [em _ (by omega) (by omega)]; congr 1; omega) (by rw [gn_eq e4]; exact Nat.le_refl _) (by rw [gn_eq e1]; exact Nat.le_refl _) (by rw [gn_eq e0]; exact Nat.le_refl _) (by rw [gn_eq e5]; exact Nat.le_refl _) (i.pi (by omega))
  · have key : ∀ k, k < N - 1 → gn g' (35 + 11 * k) = gn g (35 + 11 * (if k < p then k else k + 1)) := fun k hk => by
      by_cases h : k < p
      · rw [if_pos h]; exact gn_eq (en _ (by omega) (by omega))
      · rw [if_neg h]; exact gn_eq ((em _ (by omega) (by omega)).trans (by congr 1))
    intro j k hj hk
    rw [n3] at hk
    rw [key j (by omega), key k hk]
    refine i.num ?_ ?_
    · split <;> split <;> omega
    · split <;> omega
  · intro r hr
    rw [gn_eq e5] at hr
    exact RI_to (fun w hw => en _ (by omega) (by omega)) (i.ri hr)
theorem gDrop_out {f : Nat → Int32} {p x : Nat} (hp : p < gn f 3) (h3 : x ≠ 3) (h : x < 35 + 11 * p ∨ 35 + 11 * gn f 3 ≤ x) : gDrop f p x = f x := by
  unfold gDrop
  rw [if_neg h3, if_neg (by omega), if_neg (by omega)]
theorem gDrop_cong {f g : Nat → Int32} {p x : Nat} (hp : p < gn g 3) (hp8 : gn g 3 < 9) (h3 : f 3 = g 3) (h : ∀ y, 35 ≤ y → y < 123 → f y = g y) (hx : x = 3 ∨ 35 ≤ x ∧ x < 123) : gDrop f p x = gDrop g p x := by
  unfold gDrop
  rw [gn_eq h3, h3]
  by_cases c1 : x = 3
  · rw [if_pos c1, if_pos c1]
  · rw [if_neg c1, if_neg c1]
    by_cases c2 : 35 + 11 * p ≤ x ∧ x < 35 + 11 * (gn g 3 - 1)
    · rw [if_pos c2, if_pos c2]
      exact h _ (by omega) (by omega)
    · rw [if_neg c2, if_neg c2, h x (by omega) (by omega)]
theorem gMove_out {g : Nat → Int32} {p x : Nat} (h1 : x ≠ 8) (h2 : x ≠ 9 + 2 * gn g (35 + 11 * p + 2)) (h3 : x < 123 + 6 * gn g 5 ∨ 123 + 6 * gn g 5 + 6 ≤ x) : gMove g p x = g x := by
  have h4 : gRule g p x = g x := by
    unfold gRule
    rw [if_neg (by omega), if_neg (by omega), if_neg (by omega)]
  unfold gMove
  split
  · rw [va_up_ne _ _ h1, va_up_ne _ _ h2, h4]
  · exact h4
theorem gMove_rul {g : Nat → Int32} {p x : Nat} (hs : gn g (35 + 11 * p + 2) < 10) (h3 : 123 ≤ x) : gMove g p x = gRule g p x := by
  unfold gMove
  split
  · rw [va_up_ne _ _ (by omega), va_up_ne _ _ (by omega)]
  · rfl
theorem GI_decide {F : Nat} {g : Nat → Int32} (i : GI F g) {p : Nat} (hp : p < gn g 3) (h16 : gn g 5 ≠ 16) : GI F (gDecide g p) := by
  have hp8 := i.p.2
  have hr := i.r.2
  have ho := i.o.2
  have hs := i.s.2
  obtain ⟨p0, p1, ⟨p2, p2'⟩, p3, p4, p5, p6, p7, p8⟩ := i.pi hp
  have iD := GI_drop i hp
  have hm3 : gMove g p 3 = g 3 := gMove_out (by omega) (by omega) (by omega)
  have hmp : ∀ y, 35 ≤ y → y < 123 → gMove g p y = g y := fun y h1 h2 => gMove_out (by omega) (by omega) (by omega)
  generalize hN : gn g 3 = N at *
  generalize hR : gn g 5 = R at *
  generalize hS : gn g (35 + 11 * p + 2) = S at *
  have hpm : p < gn (gMove g p) 3 := by rw [gn_eq hm3, hN]; exact hp
  generalize hg : gDecide g p = g'
  have e5 : g' 5 = nI (R + 1) := by rw [← hg]; unfold gDecide; rw [va_up_self, hR]
  have n5 : gn g' 5 = R + 1 := gn_v e5 (by omega)
  have d5 : gn (gDrop g p) 5 = R := by rw [gn_eq (gDrop_out (by omega) (by omega) (by omega)), hR]
  have ein : ∀ x, (x = 3 ∨ 35 ≤ x ∧ x < 123) → g' x = gDrop g p x := fun x hx => by
    rw [← hg]; unfold gDecide
    rw [va_up_ne _ _ (by omega)]
    exact gDrop_cong (by omega) (by omega) hm3 hmp hx
  have eou : ∀ x, x ≠ 5 → (x < 35 ∧ x ≠ 3 ∨ 123 ≤ x) → g' x = gMove g p x := fun x h1 h2 => by
    rw [← hg]; unfold gDecide
    rw [va_up_ne _ _ h1]
    exact gDrop_out hpm (by omega) (by rw [gn_eq hm3, hN]; omega)
  have en : ∀ x, x ≠ 5 → x ≠ 8 → x ≠ 9 + 2 * S → (x < 123 + 6 * R ∨ 123 + 6 * R + 6 ≤ x) → g' x = gDrop g p x := fun x h1 h2 h3 h4 => by
    by_cases hx : x = 3 ∨ 35 ≤ x ∧ x < 123
    · exact ein x hx
    · rw [eou x h1 (by omega), gMove_out h2 (by rw [hS]; exact h3) (by rw [hR]; exact h4), gDrop_out (by omega) (by omega) (by omega)]
  have e0 := en 0 (by omega) (by omega) (by omega) (by omega)
  have e1 := en 1 (by omega) (by omega) (by omega) (by omega)
  have e3 := en 3 (by omega) (by omega) (by omega) (by omega)
  have e4 := en 4 (by omega) (by omega) (by omega) (by omega)
  have d0 : gn (gDrop g p) 0 = gn g 0 := gn_eq (gDrop_out (by omega) (by omega) (by omega))
  have d1 : gn (gDrop g p) 1 = gn g 1 := gn_eq (gDrop_out (by omega) (by omega) (by omega))
  have hD3 := iD.p.2
  refine ⟨i.hF, nb_eq e0 iD.s, nb_eq e1 iD.o, nb_eq (en 2 (by omega) (by omega) (by omega) (by omega)) iD.q, nb_eq e3 iD.p, nb_eq e4 iD.f, nb_v e5 (by omega) (by decide), ?_, ?_, ?_, ?_, ?_⟩
  · intro k hk
    rw [gn_eq e0] at hk
    by_cases h : k = S
    · subst h
      rw [← hg]
      by_cases hm : gMoved g p = true
      · refine nb_eq (g := g) (i := 35 + 11 * p + 3) ?_ p3
        rw [hg, eou _ (by omega) (by omega)]
        unfold gMove
        rw [if_pos hm, va_up_ne _ _ (by omega), hS, va_up_self]
      · refine nb_eq (g := g) (i := 9 + 2 * k) ?_ (i.cell (by omega))
        rw [hg, eou _ (by omega) (by omega)]
        unfold gMove
        rw [if_neg hm]
        unfold gRule
        rw [hR, if_neg (by omega), if_neg (by omega), if_neg (by omega)]
    · exact nb_eq (en _ (by omega) (by omega) (by omega) (by omega)) (iD.cell hk)
  · intro k hk
    rw [gn_eq e1] at hk
    exact nb_eq (en _ (by omega) (by omega) (by omega) (by omega)) (iD.rank hk)
  · intro k hk
    rw [gn_eq e3] at hk
    exact PI_to (fun w hw => ein _ (by omega)) (by rw [gn_eq e4]; exact Nat.le_refl _) (by rw [gn_eq e1]; exact Nat.le_refl _) (by rw [gn_eq e0]; exact Nat.le_refl _) (by omega) (iD.pi hk)
  · intro j k hj hk
    rw [gn_eq e3] at hk
    rw [gn_eq (ein (35 + 11 * j) (by omega)), gn_eq (ein (35 + 11 * k) (by omega))]
    exact iD.num hj hk
  · intro r hr
    rw [n5] at hr
    by_cases h : r = R
    · subst h
      have er : ∀ x, 123 ≤ x → g' x = gRule g p x := fun x hx => by rw [eou x (by omega) (by omega), gMove_rul (by omega) hx]
      have r0 : g' (123 + 6 * r) = bI (gWins g p = true) := by rw [er _ (by omega)]; unfold gRule; rw [hR, if_pos rfl]
      have r1 : g' (123 + 6 * r + 1) = bI (gMoved g p = true) := by rw [er _ (by omega)]; unfold gRule; rw [hR, if_neg (by omega), if_pos rfl]
      have r2 : ∀ c, c < 4 → g' (123 + 6 * r + 2 + c) = g (35 + 11 * p + 7 + c) := fun c hc => by
        rw [er _ (by omega)]; unfold gRule
        rw [hR, if_neg (by omega), if_neg (by omega), if_pos (by omega), Nat.add_sub_cancel_left]
      have hb : ∀ q : Prop, ∀ _ : Decidable q, (if q then 1 else 0) < 2 := fun q _ => by split <;> decide
      have h2 := r2 0 (by decide)
      refine ⟨nb_v (r0.trans (bI_nI _)) (hb _ _) (by decide), nb_v (r1.trans (bI_nI _)) (hb _ _) (by decide), nb_eq h2 p7, ?_⟩
      intro c hc
      have hc' : c < gn g' (123 + 6 * r + 2 + 0) := hc
      rw [gn_eq h2] at hc'
      have hc' : c < gn g (35 + 11 * p + 7) := hc'
      have h7 := p7.2
      have h3 := r2 (1 + c) (by omega)
      rw [show 123 + 6 * r + 2 + (1 + c) = 123 + 6 * r + 3 + c by omega, show 35 + 11 * p + 7 + (1 + c) = 35 + 11 * p + 8 + c by omega] at h3
      exact nb_eq h3 (p8 c hc')
    · exact RI_to (fun w hw => en _ (by omega) (by omega) (by omega) (by omega)) (iD.ri (by omega))
