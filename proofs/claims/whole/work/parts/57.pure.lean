/-! PURE: the state behind a decision, entry by entry; the depth of the new ruling -/
section DEC
variable {F : Nat} {g : Nat → Int32}
/-- what the state behind a decision is -/
def GDe (g : Nat → Int32) (p : Nat) (g' : Nat → Int32) : Prop := g' 0 = g 0 ∧ g' 1 = g 1 ∧ g' 2 = g 2 ∧ g' 3 = nI (gn g 3 - 1) ∧ g' 4 = g 4 ∧ g' 5 = nI (gn g 5 + 1) ∧ g' 6 = g 6 ∧ g' 7 = g 7 ∧ g' 8 = (if gMoved g p = true then g 8 + g (9 + 2 * gn g (35 + 11 * p + 2) + 1) else g 8) ∧ (∀ k, k < 10 → g' (9 + 2 * k) = (if gMoved g p = true ∧ k = gn g (35 + 11 * p + 2) then g (35 + 11 * p + 3) else g (9 + 2 * k)) ∧ g' (9 + 2 * k + 1) = g (9 + 2 * k + 1)) ∧ (∀ k, k < 6 → g' (29 + k) = g (29 + k)) ∧ (∀ x, 35 ≤ x → x < 123 → g' x = gDrop g p x) ∧ g' (123 + 6 * gn g 5) = bI (gWins g p = true) ∧ g' (123 + 6 * gn g 5 + 1) = bI (gMoved g p = true) ∧ (∀ w, w < 4 → g' (123 + 6 * gn g 5 + 2 + w) = g (35 + 11 * p + 7 + w)) ∧ ∀ x, 123 ≤ x → x < 123 + 6 * gn g 5 → g' x = g x
theorem GDe_decide (i : GI F g) {p : Nat} (hp : p < gn g 3) : GDe g p (gDecide g p) := by
  have hp8 := i.p.2
  have hr := i.r.2
  obtain ⟨-, -, ⟨-, p2'⟩, -⟩ := i.pi hp
  have hs := i.s.2
  have hm3 : gMove g p 3 = g 3 := gMove_out (by omega) (by omega) (by omega)
  have hmp : ∀ y, 35 ≤ y → y < 123 → gMove g p y = g y := fun y h1 h2 => gMove_out (by omega) (by omega) (by omega)
  have hpm : p < gn (gMove g p) 3 := by rw [gn_eq hm3]; exact hp
  have ein : ∀ x, (x = 3 ∨ 35 ≤ x ∧ x < 123) → gDecide g p x = gDrop g p x := fun x hx => by
    unfold gDecide
    rw [va_up_ne _ _ (by omega)]
    exact gDrop_cong hp hp8 hm3 hmp hx
  have eou : ∀ x, x ≠ 5 → (x < 35 ∧ x ≠ 3 ∨ 123 ≤ x) → gDecide g p x = gMove g p x := fun x h1 h2 => by
    unfold gDecide
    rw [va_up_ne _ _ h1]
    exact gDrop_out hpm (by omega) (by rw [gn_eq hm3]; omega)
  have hru : ∀ x, x < 123 → gRule g p x = g x := fun x hx => by
    unfold gRule
    rw [if_neg (by omega), if_neg (by omega), if_neg (by omega)]
  have low : ∀ x, x < 35 → x ≠ 5 → x ≠ 3 → x ≠ 8 → x ≠ 9 + 2 * gn g (35 + 11 * p + 2) → gDecide g p x = g x := fun x h1 h2 h3 h4 h5 => by
    rw [eou x h2 (by omega), gMove_out h4 h5 (by omega)]
  have rul : ∀ x, 123 ≤ x → gDecide g p x = gRule g p x := fun x hx => by
    rw [eou x (by omega) (by omega), gMove_rul (by omega) hx]
  refine ⟨low 0 (by omega) (by omega) (by omega) (by omega) (by omega), low 1 (by omega) (by omega) (by omega) (by omega) (by omega), low 2 (by omega) (by omega) (by omega) (by omega) (by omega), ?_, low 4 (by omega) (by omega) (by omega) (by omega) (by omega), ?_, low 6 (by omega) (by omega) (by omega) (by omega) (by omega), low 7 (by omega) (by omega) (by omega) (by omega) (by omega), ?_, fun k hk => ⟨?_, low _ (by omega) (by omega) (by omega) (by omega) (by omega)⟩, fun k hk => low _ (by omega) (by omega) (by omega) (by omega) (by omega), fun x h1 h2 => ein x (Or.inr ⟨h1, h2⟩), ?_, ?_, fun w hw => ?_, fun x h1 h2 => ?_⟩
  · rw [ein 3 (Or.inl rfl)]
    exact gDrop_3 i.p hp
  · unfold gDecide
    rw [va_up_self]
  · rw [eou 8 (by omega) (by omega)]
    unfold gMove
    by_cases hm : gMoved g p = true
    · rw [if_pos hm, if_pos hm, va_up_self]
    · rw [if_neg hm, if_neg hm, hru 8 (by omega)]
  · rw [eou _ (by omega) (by omega)]
    unfold gMove
    by_cases hm : gMoved g p = true
    · rw [if_pos hm, va_up_ne _ _ (by omega)]
      by_cases e : k = gn g (35 + 11 * p + 2)
      · rw [if_pos ⟨hm, e⟩, e, va_up_self]
      · rw [if_neg (fun z => e z.2), va_up_ne _ _ (by omega), hru _ (by omega)]
    · rw [if_neg hm, if_neg (fun z => hm z.1), hru _ (by omega)]
  · rw [rul _ (by omega)]
    unfold gRule
    rw [if_pos rfl]
  · rw [rul _ (by omega)]
    unfold gRule
    rw [if_neg (by omega), if_pos rfl]
  · rw [rul _ (by omega)]
    unfold gRule
    rw [if_neg (by omega), if_neg (by omega), if_pos (by omega), show 123 + 6 * gn g 5 + 2 + w - (123 + 6 * gn g 5 + 2) = w by omega]
  · rw [rul _ h1]
    unfold gRule
    rw [if_neg (by omega), if_neg (by omega), if_neg (by omega)]
/-- the depth is the least above those that are named -/
theorem gDk_ub (g : Nat → Int32) (T : Nat → Nat) (k : Nat) : ∀ o z, z < o → gNames g k (nI z) = true → T z < gDk g T k o
  | 0, z, h, _ => absurd h (Nat.not_lt_zero z)
  | o + 1, z, h, hn => by
    have ih := gDk_ub g T k o z
    show T z < (if gNames g k (nI o) = true ∧ gDk g T k o ≤ T o then T o + 1 else gDk g T k o)
    by_cases e : z = o
    · subst e
      by_cases h2 : gNames g k (nI z) = true ∧ gDk g T k z ≤ T z
      · rw [if_pos h2]; omega
      · rw [if_neg h2]
        have : ¬ gDk g T k z ≤ T z := fun w => h2 ⟨hn, w⟩
        omega
    · have := ih (by omega) hn
      split <;> omega
theorem gDk_at (g : Nat → Int32) (T : Nat → Nat) (k : Nat) : ∀ o, gDk g T k o = 0 ∨ ∃ z, z < o ∧ gNames g k (nI z) = true ∧ gDk g T k o = T z + 1
  | 0 => Or.inl rfl
  | o + 1 => by
    have ih := gDk_at g T k o
    show (if gNames g k (nI o) = true ∧ gDk g T k o ≤ T o then T o + 1 else gDk g T k o) = 0 ∨ ∃ z, z < o + 1 ∧ gNames g k (nI z) = true ∧ (if gNames g k (nI o) = true ∧ gDk g T k o ≤ T o then T o + 1 else gDk g T k o) = T z + 1
    by_cases h2 : gNames g k (nI o) = true ∧ gDk g T k o ≤ T o
    · rw [if_pos h2]
      exact Or.inr ⟨o, Nat.lt_succ_self o, h2.1, rfl⟩
    · rw [if_neg h2]
      rcases ih with e | ⟨z, z1, z2, z3⟩
      · exact Or.inl e
      · exact Or.inr ⟨z, by omega, z2, z3⟩
theorem gLv_ub (g : Nat → Int32) (p : Nat) : ∀ m c, c < m → gDepth g (gn g (35 + 11 * p + 8 + c)) < gLv g p m
  | 0, c, h => absurd h (Nat.not_lt_zero c)
  | m + 1, c, h => by
    have ih := gLv_ub g p m c
    show _ < (if gLv g p m ≤ gDepth g (gn g (35 + 11 * p + 8 + m)) then gDepth g (gn g (35 + 11 * p + 8 + m)) + 1 else gLv g p m)
    by_cases e : c = m
    · subst e
      split <;> omega
    · have := ih (by omega)
      split <;> omega
theorem gLv_at (g : Nat → Int32) (p : Nat) : ∀ m, gLv g p m = 0 ∨ ∃ c, c < m ∧ gLv g p m = gDepth g (gn g (35 + 11 * p + 8 + c)) + 1
  | 0 => Or.inl rfl
  | m + 1 => by
    have ih := gLv_at g p m
    show (if gLv g p m ≤ gDepth g (gn g (35 + 11 * p + 8 + m)) then gDepth g (gn g (35 + 11 * p + 8 + m)) + 1 else gLv g p m) = 0 ∨ ∃ c, c < m + 1 ∧ (if gLv g p m ≤ gDepth g (gn g (35 + 11 * p + 8 + m)) then gDepth g (gn g (35 + 11 * p + 8 + m)) + 1 else gLv g p m) = _
    by_cases h2 : gLv g p m ≤ gDepth g (gn g (35 + 11 * p + 8 + m))
    · rw [if_pos h2]
      exact Or.inr ⟨m, Nat.lt_succ_self m, rfl⟩
    · rw [if_neg h2]
      rcases ih with e | ⟨z, z1, z2⟩
      · exact Or.inl e
      · exact Or.inr ⟨z, by omega, z2⟩
theorem gDepth_new (i : GI F g) {p : Nat} (hp : p < gn g 3) {g' : Nat → Int32} (d : GDe g p g') (i' : GI F g') : gDepth g' (gn g 5) = gLv g p (gn g (35 + 11 * p + 7)) := by
  have hr := i.r.2
  obtain ⟨-, -, -, -, -, d5, -, -, -, -, -, -, -, -, dw, dol⟩ := d
  have n5 : gn g' 5 = gn g 5 + 1 := gn_v d5 (by omega)
  have ri := i'.ri (show gn g 5 < gn g' 5 by omega)
  obtain ⟨-, -, -, -, -, -, -, p7, p8⟩ := i.pi hp
  have hT : ∀ z, z < gn g 5 → gDt g' (gn g 5) z = gDepth g z := fun z hz => by
    rw [gDt_st g' hz]
    exact gDepth_cong fun y hy => ⟨(i.ri (show y < gn g 5 by omega)).2.2.1.2, fun w hw => dol _ (by omega) (by omega)⟩
  have e2 : gn g' (123 + 6 * gn g 5 + 2) = gn g (35 + 11 * p + 7) := gn_eq (by have := dw 0 (by decide); exact this)
  have ec : ∀ c, c < 3 → gn g' (123 + 6 * gn g 5 + 3 + c) = gn g (35 + 11 * p + 8 + c) := fun c hc => gn_eq (by
    have := dw (1 + c) (by omega)
    rw [← Nat.add_assoc, ← Nat.add_assoc] at this
    exact this)
  have hnm : ∀ z, z < gn g 5 → (gNames g' (gn g 5) (nI z) = true ↔ ∃ c, c < gn g (35 + 11 * p + 7) ∧ gn g (35 + 11 * p + 8 + c) = z) := fun z hz => by
    rw [gCt_names ri (by omega) (by omega)]
    unfold gCt
    rw [gCs_bit, e2]
    have p72 := p7.2
    exact ⟨fun ⟨c, c1, c2⟩ => ⟨c, c1, by rw [← ec c (by omega)]; exact c2⟩, fun ⟨c, c1, c2⟩ => ⟨c, c1, by rw [ec c (by omega)]; exact c2⟩⟩
  have key : gDepth g' (gn g 5) = gDk g' (gDt g' (gn g 5)) (gn g 5) (gn g 5) := by
    unfold gDepth
    show (if gn g 5 = gn g 5 then _ else _) = _
    rw [if_pos rfl]
  rw [key]
  apply Nat.le_antisymm
  · rcases gDk_at g' (gDt g' (gn g 5)) (gn g 5) (gn g 5) with e | ⟨z, z1, z2, z3⟩
    · omega
    · obtain ⟨c, c1, c2⟩ := (hnm z z1).mp z2
      have := gLv_ub g p _ c c1
      rw [z3, hT z z1, ← c2]
      exact this
  · rcases gLv_at g p (gn g (35 + 11 * p + 7)) with e | ⟨c, c1, c2⟩
    · omega
    · have hc := (p8 c c1).2
      have := gDk_ub g' (gDt g' (gn g 5)) (gn g 5) (gn g 5) _ hc ((hnm _ hc).mpr ⟨c, c1, rfl⟩)
      rw [hT _ hc] at this
      rw [c2]
      exact this
end DEC
