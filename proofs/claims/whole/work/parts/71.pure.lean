/-! PURE: what is held depends on a state's 219 entries alone; lines by what they show -/
def E219 (g g' : Nat → Int32) : Prop := ∀ i, i < 219 → g' i = g i
section E219
variable {F : Nat} {g g' : Nat → Int32}
theorem GI_219 (i : GI F g) (e : E219 g g') : GI F g' := by
  have s11 := i.s.2
  have o7 := i.o.2
  have p9 := i.p.2
  have r17 := i.r.2
  have n0 : gn g' 0 = gn g 0 := gn_eq (e 0 (by decide))
  have n1 : gn g' 1 = gn g 1 := gn_eq (e 1 (by decide))
  have n3 : gn g' 3 = gn g 3 := gn_eq (e 3 (by decide))
  have n4 : gn g' 4 = gn g 4 := gn_eq (e 4 (by decide))
  have n5 : gn g' 5 = gn g 5 := gn_eq (e 5 (by decide))
  refine ⟨i.hF, nb_eq (e 0 (by decide)) i.s, nb_eq (e 1 (by decide)) i.o, nb_eq (e 2 (by decide)) i.q, nb_eq (e 3 (by decide)) i.p, nb_eq (e 4 (by decide)) i.f, nb_eq (e 5 (by decide)) i.r, fun k hk => ?_, fun k hk => ?_, fun k hk => ?_, fun j k hj hk => ?_, fun r hr => ?_⟩
  · rw [n0] at hk
    exact nb_eq (e _ (by omega)) (i.cell hk)
  · rw [n1] at hk
    exact nb_eq (e _ (by omega)) (i.rank hk)
  · rw [n3] at hk
    exact PI_to (fun w hw => e _ (by omega)) (by omega) (by omega) (by omega) (by omega) (i.pi hk)
  · rw [n3] at hk
    rw [gn_eq (e (35 + 11 * j) (by omega)), gn_eq (e (35 + 11 * k) (by omega))]
    exact i.num hj hk
  · rw [n5] at hr
    exact RI_to (fun w hw => e _ (by omega)) (i.ri hr)
theorem GU_219 (u : GU g) (i : GI F g) (e : E219 g g') : GU g' := by
  have p9 := i.p.2
  exact GU_same u (e 3 (by decide)) (fun k hk => e _ (by omega))
theorem GG2_219 (h : GG2 F g) (e : E219 g g') : GG2 F g' := ⟨GI_219 h.1 e, GU_219 h.2 h.1 e⟩
theorem SV_219 {M : Mm} {s : Nat} {q : Nat → Nat} (v : SV M s g q) (i : GI F g) (e : E219 g g') : SV M s g' q := by
  have s11 := i.s.2
  have o7 := i.o.2
  have p9 := i.p.2
  have r17 := i.r.2
  have n0 : gn g' 0 = gn g 0 := gn_eq (e 0 (by decide))
  have n1 : gn g' 1 = gn g 1 := gn_eq (e 1 (by decide))
  have n3 : gn g' 3 = gn g 3 := gn_eq (e 3 (by decide))
  have n5 : gn g' 5 = gn g 5 := gn_eq (e 5 (by decide))
  have kk : ∀ k, k < gn g 3 → gRk g' k = gRk g k ∧ gUr g' k = gUr g k ∧ gNum g' k = gNum g k := fun k hk => gK_to (fun w hw => e _ (by omega)) (e _ (by have := (i.pi hk).2.1.2; omega))
  obtain ⟨⟨c0, c1, c2, c3, c4, c5, c6, c7, c8⟩, v2, v3, v4, v5, v6⟩ := v
  refine ⟨⟨c0.trans (e 0 (by decide)).symm, c1.trans (e 1 (by decide)).symm, c2.trans (e 3 (by decide)).symm, c3.trans (e 5 (by decide)).symm, c4.trans (e 2 (by decide)).symm, c5.trans (e 4 (by decide)).symm, c6.trans (e 6 (by decide)).symm, c7.trans (e 7 (by decide)).symm, c8.trans (e 8 (by decide)).symm⟩, fun k hk => ?_, fun k hk => ?_, ⟨fun j hj => by rw [n3] at hj ⊢; exact v4.1 j hj, fun a b hab hb => ?_⟩, fun j hj => ?_, fun r hr => ?_⟩
  · rw [n0] at hk
    rw [e _ (by omega), e _ (by omega)]
    exact v2 k hk
  · rw [n1] at hk
    rw [e _ (by omega)]
    exact v3 k hk
  · rw [n3] at hb
    obtain ⟨a1, a2, a3⟩ := kk _ (v4.1 a (by omega))
    obtain ⟨b1, b2, b3⟩ := kk _ (v4.1 b hb)
    rw [gAhd_cong a1 b1 a2 b2 a3 b3]
    exact v4.2 a b hab hb
  · rw [n3] at hj
    have hq := v4.1 j hj
    exact (v5 j hj).to (fun w hw => e _ (by omega)) (i.pi hq).2.2.2.2.2.2.2.1.2 (e _ (by have := (i.pi hq).2.1.2; omega))
  · rw [n5] at hr
    exact (v6 r hr).to (fun w hw => e _ (by omega)) (i.ri hr).2.2.1.2 (gDepth_cong fun z hz => ⟨(i.ri (show z < gn g 5 by omega)).2.2.1.2, fun w hw => e _ (by omega)⟩)
end E219
/-- two lines that show the same -/
def LEq (l l' : LN) : Prop := l'.2 = l.2 ∧ ∀ i, i < l.2 → l'.1 i = l.1 i
theorem LEq.rfl (l : LN) : LEq l l := ⟨_root_.rfl, fun _ _ => _root_.rfl⟩
theorem LEq.put {l l' : LN} (h : LEq l l') (c : Int32) : LEq (lPut l c) (lPut l' c) := by
  refine ⟨by show l'.2 + 1 = l.2 + 1; rw [h.1], fun i hi => ?_⟩
  have hi : i < l.2 + 1 := hi
  show va_up l'.1 l'.2 c i = va_up l.1 l.2 c i
  rw [h.1]
  by_cases e : i = l.2
  · rw [e, va_up_self, va_up_self]
  · rw [va_up_ne _ _ e, va_up_ne _ _ e]
    exact h.2 i (by omega)
theorem LEq.num {l l' : LN} (h : LEq l l') : ∀ z n, LEq (lNum l z n) (lNum l' z n)
  | 0, n => h.put _
  | z + 1, n => by
    show LEq (lPut (if 9 < n then lNum l z (n / 10) else l) _) (lPut (if 9 < n then lNum l' z (n / 10) else l') _)
    by_cases e : 9 < n
    · rw [if_pos e, if_pos e]
      exact (LEq.num h z _).put _
    · rw [if_neg e, if_neg e]
      exact h.put _
theorem LEq.mark {l l' : LN} (h : LEq l l') (c n : Nat) : LEq (lMark l c n) (lMark l' c n) := (h.put _).num 9 n
theorem LEq.cites {l l' : LN} (h : LEq l l') (g : Nat → Int32) (p : Nat) : ∀ c, LEq (lCites g p l c) (lCites g p l' c)
  | 0 => h
  | c + 1 => (LEq.cites h g p c).mark 94 _
theorem LEq.empty (f f' : Nat → Int32) : LEq (f, 0) (f', 0) := ⟨_root_.rfl, fun i hi => absurd hi (Nat.not_lt_zero i)⟩
theorem LEq.pet (g : Nat → Int32) (p : Nat) (f f' : Nat → Int32) : LEq (lPet g p f) (lPet g p f') := (((((((LEq.empty f f').mark 35 _).mark 58 _).mark 62 _).mark 64 _).mark 33 _).mark 43 _).mark 45 _ |>.cites g p _
theorem LEq.row (g : Nat → Int32) (r : Nat) (f f' : Nat → Int32) : ∀ j, LEq (lRow g r f j) (lRow g r f' j)
  | 0 => LEq.empty f f'
  | j + 1 => (LEq.row g r f f' j).put _
theorem LEq.ok {l l' : LN} (h : LEq l l') (o : lOK l) : lOK l' := fun i hi => by
  rw [h.1] at hi
  rw [h.2 i hi]
  exact o i hi
/-- two boards that show the same -/
def BE (B B' : BS) : Prop := E219 (bg B) (bg B') ∧ bc B' = bc B ∧ (∀ j, j < bc B → E219 (bH B j) (bH B' j)) ∧ (bs B = none ∧ bs B' = none ∨ ∃ s s', bs B = some s ∧ bs B' = some s' ∧ E219 s s') ∧ (btx B').1 = (btx B).1 ∧ (∀ k, k < (btx B).1 → (btx B').2 k = (btx B).2 k) ∧ LEq (bl B) (bl B') ∧ bf B' = bf B ∧ bd B' = bd B
theorem CB.eqv {F : Nat} {M : Mm} {x : Nat} {B B' : BS} (c : CB F M x B) (e : BE B B') : CB F M x B' := by
  obtain ⟨c0, i, c1, c2, c3, c4, c5, c6, c7⟩ := c
  obtain ⟨e1, e2, e3, e4, e5, e6, e7, e8, e9⟩ := e
  refine ⟨c0, ⟨GG2_219 i.1 e1, by rw [e2]; exact i.2.1, fun j hj => by rw [e2] at hj; exact GG2_219 (i.2.2.1 j hj) (e3 j hj), fun s hs => ?_⟩, ?_, ?_, ⟨by rw [e2]; exact c3.1, fun j hj => ?_⟩, ?_, ?_, c6.trans e8.symm, by rw [e9]; exact c7⟩
  · rcases e4 with ⟨-, h2⟩ | ⟨s1, s2, h1, h2, h3⟩
    · rw [h2] at hs; cases hs
    · rw [h2] at hs
      cases hs
      exact GG2_219 (i.2.2.2 s1 h1) h3
  · obtain ⟨q, v⟩ := c1
    exact ⟨q, SV_219 v i.1.1 e1⟩
  · rcases e4 with ⟨h1, h2⟩ | ⟨s1, s2, h1, h2, h3⟩
    · rw [h2]
      rw [h1] at c2
      exact ⟨c2.1, fun s hs => by cases hs⟩
    · rw [h2]
      rw [h1] at c2
      refine ⟨c2.1, fun s hs => ?_⟩
      cases hs
      obtain ⟨q, v⟩ := c2.2 s1 rfl
      exact ⟨q, SV_219 v (i.2.2.2 s1 h1).1 h3⟩
  · rw [e2] at hj
    obtain ⟨q, v⟩ := c3.2 j hj
    exact ⟨q, SV_219 v (i.2.2.1 j hj).1 (e3 j hj)⟩
  · obtain ⟨o, h1, h2, h3, h4⟩ := c4
    rw [e5]
    exact ⟨o, h1, h2, fun k hk => by rw [e6 k hk]; exact h3 k hk, fun k hk => by rw [e6 k hk]; exact h4 k hk⟩
  · obtain ⟨h1, h2, h3, h4⟩ := c5
    refine ⟨by rw [e7.1]; exact h1, by rw [e7.1]; exact h2, fun k hk => ?_, e7.ok h4⟩
    rw [e7.1] at hk
    rw [e7.2 k hk]
    exact h3 k hk
