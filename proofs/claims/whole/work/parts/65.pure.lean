/-! THE BOARD'S STATE, as the class holds it; one petition a stone, kept -/
/-- only what lies from a to b has changed; the heap's end may have moved -/
def FX (M : Mm) (a b : Nat) (M' : Mm) : Prop := kd M' = kd M ∧ ln M' = ln M ∧ mj M' = mj M ∧ md M' = md M ∧ ∀ c, (c < a ∨ b < c) → mi M' c = mi M c ∧ mr M' c = mr M c
theorem FX.rfl (M : Mm) (a b : Nat) : FX M a b M := ⟨_root_.rfl, _root_.rfl, _root_.rfl, _root_.rfl, fun _ _ => ⟨_root_.rfl, _root_.rfl⟩⟩
theorem FR.fx {M M' : Mm} {a b : Nat} (r : FR M a b M') {a' b' : Nat} (ha : a' ≤ a) (hb : b ≤ b') : FX M a' b' M' := ⟨r.1, r.2.1, r.2.2.1, r.2.2.2.1, fun c h => ⟨r.i (by omega), r.r (by omega)⟩⟩
theorem FX.tr {M M' M2 : Mm} {a b : Nat} (r : FX M a b M') (q : FX M' a b M2) : FX M a b M2 := ⟨q.1.trans r.1, q.2.1.trans r.2.1, q.2.2.1.trans r.2.2.1, q.2.2.2.1.trans r.2.2.2.1, fun c h => ⟨(q.2.2.2.2 c h).1.trans (r.2.2.2.2 c h).1, (q.2.2.2.2 c h).2.trans (r.2.2.2.2 c h).2⟩⟩
theorem FX.x {M M' : Mm} {a b : Nat} (r : FX M a b M') (z : Nat) : FX M a b (sX M' z) := r
/-- the state, the states before the latest changes, the snapshot, the text, the line, the fault position, the latest denial -/
abbrev BS : Type := (Nat → Int32) × (Nat × (Nat → Nat → Int32)) × Option (Nat → Int32) × (Nat × (Nat → Int32)) × LN × Int32 × (Int32 × Int32 × Int32 × Int32)
abbrev bg (B : BS) : Nat → Int32 := B.1
abbrev bc (B : BS) : Nat := B.2.1.1
abbrev bH (B : BS) : Nat → Nat → Int32 := B.2.1.2
abbrev bs (B : BS) : Option (Nat → Int32) := B.2.2.1
abbrev btx (B : BS) : Nat × (Nat → Int32) := B.2.2.2.1
abbrev bl (B : BS) : LN := B.2.2.2.2.1
abbrev bf (B : BS) : Int32 := B.2.2.2.2.2.1
abbrev bd (B : BS) : Int32 × Int32 × Int32 × Int32 := B.2.2.2.2.2.2
def GG2 (F : Nat) (g : Nat → Int32) : Prop := GI F g ∧ GU g
/-- what holds of it -/
def BI (F : Nat) (B : BS) : Prop := GG2 F (bg B) ∧ bc B ≤ 8 ∧ (∀ j, j < bc B → GG2 F (bH B j)) ∧ ∀ s, bs B = some s → GG2 F s
theorem GG2.mono {F F' : Nat} {g : Nat → Int32} (h : GG2 F g) (h1 : F ≤ F') (h2 : F' < 2 ^ 30) : GG2 F' g := ⟨h.1.mono h1 h2, h.2⟩
theorem BI.mono {F F' : Nat} {B : BS} (h : BI F B) (h1 : F ≤ F') (h2 : F' < 2 ^ 30) : BI F' B := ⟨h.1.mono h1 h2, h.2.1, fun j hj => (h.2.2.1 j hj).mono h1 h2, fun s hs => (h.2.2.2 s hs).mono h1 h2⟩
/-- the class's memory from x on holds it -/
def C1 (M : Mm) (x : Nat) (g : Nat → Int32) : Prop := ∃ q, SV M (x + 1) g q
def C2 (M : Mm) (x : Nat) (o : Option (Nat → Int32)) : Prop := mi M x 7 = (if o.isSome = true then 1 else 0) ∧ ∀ s, o = some s → ∃ q, SV M (x + 31) s q
def C3 (M : Mm) (x c : Nat) (H : Nat → Nat → Int32) : Prop := mi M (x + 61) 1 = nI c ∧ ∀ j, j < c → ∃ q, SV M (hA M (x + 61) j) (H j) q
def C5 (M : Mm) (x : Nat) (l : LN) : Prop := mi M (x + 335) 1 = nI l.2 ∧ l.2 ≤ 60 ∧ (∀ k, k < l.2 → mi M (x + 336) k = l.1 k) ∧ lOK l
def C7 (M : Mm) (x : Nat) (d : Int32 × Int32 × Int32 × Int32) : Prop := mi M x 11 = d.1 ∧ mi M x 12 = d.2.1 ∧ mi M x 13 = d.2.2.1 ∧ mi M x 14 = d.2.2.2
def CB (F : Nat) (M : Mm) (x : Nat) (B : BS) : Prop := BO M x ∧ BI F B ∧ C1 M x (bg B) ∧ C2 M x (bs B) ∧ C3 M x (bc B) (bH B) ∧ LT M (x + 333) (btx B).1 (btx B).2 ∧ C5 M x (bl B) ∧ mi M x 8 = bf B ∧ C7 M x (bd B)
section CB
variable {F : Nat} {M M' : Mm} {x : Nat} {B : BS}
theorem CB.o (c : CB F M x B) : BO M x := c.1
theorem CB.i (c : CB F M x B) : BI F B := c.2.1
theorem CB.c1 (c : CB F M x B) : C1 M x (bg B) := c.2.2.1
theorem CB.c2 (c : CB F M x B) : C2 M x (bs B) := c.2.2.2.1
theorem CB.c3 (c : CB F M x B) : C3 M x (bc B) (bH B) := c.2.2.2.2.1
theorem CB.c4 (c : CB F M x B) : LT M (x + 333) (btx B).1 (btx B).2 := c.2.2.2.2.2.1
theorem CB.c5 (c : CB F M x B) : C5 M x (bl B) := c.2.2.2.2.2.2.1
theorem CB.c6 (c : CB F M x B) : mi M x 8 = bf B := c.2.2.2.2.2.2.2.1
theorem CB.c7 (c : CB F M x B) : C7 M x (bd B) := c.2.2.2.2.2.2.2.2
/-- what of M' is as in M from a to b -/
def AG (M M' : Mm) (a b : Nat) : Prop := kd M' = kd M ∧ ln M' = ln M ∧ ∀ c, a ≤ c → c ≤ b → mi M' c = mi M c ∧ mr M' c = mr M c
theorem AG.w {a b a' b' : Nat} (g : AG M M' a b) (h1 : a ≤ a') (h2 : b' ≤ b) : AG M M' a' b' := ⟨g.1, g.2.1, fun c q1 q2 => g.2.2 c (by omega) (by omega)⟩
theorem FR.ag {a b : Nat} (r : FR M a b M') {a' b' : Nat} (h : b' < a ∨ b < a') : AG M M' a' b' := ⟨r.k, r.l, fun c h1 h2 => ⟨r.i (by omega), r.r (by omega)⟩⟩
theorem FX.ag {a b : Nat} (r : FX M a b M') {a' b' : Nat} (h : b' < a ∨ b < a') : AG M M' a' b' := ⟨r.1, r.2.1, fun c h1 h2 => r.2.2.2.2 c (by omega)⟩
theorem AG.i {a b c : Nat} (g : AG M M' a b) (h1 : a ≤ c) (h2 : c ≤ b) : mi M' c = mi M c := (g.2.2 c h1 h2).1
theorem AG.r {a b c : Nat} (g : AG M M' a b) (h1 : a ≤ c) (h2 : c ≤ b) : mr M' c = mr M c := (g.2.2 c h1 h2).2
theorem SO.ag {s : Nat} (o : SO M s) (g : AG M M' s (s + 29)) : SO M' s := o.to g.1 g.2.1 (g.r (by omega) (by omega)) (g.r (by omega) (by omega)) (g.r (by omega) (by omega))
theorem SV.ag {s : Nat} {f : Nat → Int32} {q : Nat → Nat} (v : SV M s f q) (o : SO M s) (i : GI F f) (g : AG M M' s (s + 29)) : SV M' s f q := v.to o i (fun c h1 h2 => g.i h1 (by have := i.r.2; omega)) (g.r (by omega) (by omega))
theorem HO.ag {a : Nat} (o : HO M a) (g : AG M M' a (a + 271)) : HO M' a := by
  obtain ⟨a1, a2, a3, a4, a5, a6, a7⟩ := o
  have hp : ∀ j, hA M' a j = hA M a j := fun j => by unfold hA; rw [g.r (by omega) (by omega)]
  refine ⟨by rw [g.1]; exact a1, by rw [g.1]; exact a2, by rw [g.2.1]; exact a3, by rw [g.r (by omega) (by omega)]; exact a4, fun j hj => by rw [hp, g.r (by omega) (by omega)]; exact a5 j hj, fun i j h hj => by rw [hp, hp]; exact a6 i j h hj, fun i hi => (a7 i hi).ag (g.w (by omega) (by omega))⟩
theorem C1.ag {f : Nat → Int32} (h : C1 M x f) (o : SO M (x + 1)) (i : GI F f) (g : AG M M' (x + 1) (x + 30)) : C1 M' x f := by
  obtain ⟨q, v⟩ := h
  exact ⟨q, v.ag o i g⟩
theorem C2.ag {o : Option (Nat → Int32)} (h : C2 M x o) (os : SO M (x + 31)) (i : ∀ s, o = some s → GG2 F s) (h7 : mi M' x 7 = mi M x 7) (g : AG M M' (x + 31) (x + 60)) : C2 M' x o := by
  obtain ⟨h1, h2⟩ := h
  refine ⟨h7.trans h1, fun s hs => ?_⟩
  obtain ⟨q, v⟩ := h2 s hs
  exact ⟨q, v.ag os (i s hs).1 g⟩
theorem C3.ag {c : Nat} {H : Nat → Nat → Int32} (h : C3 M x c H) (o : HO M (x + 61)) (c8 : c ≤ 8) (i : ∀ j, j < c → GG2 F (H j)) (g : AG M M' (x + 61) (x + 332)) : C3 M' x c H := by
  obtain ⟨h1, h2⟩ := h
  have hp : ∀ j, hA M' (x + 61) j = hA M (x + 61) j := fun j => by unfold hA; rw [g.r (by omega) (by omega)]
  refine ⟨by rw [g.i (by omega) (by omega)]; exact h1, fun j hj => ?_⟩
  obtain ⟨q, v⟩ := h2 j hj
  have hb := o.b (j := j) (by omega)
  exact ⟨q, by rw [hp]; exact v.ag (o.s (by omega)) (i j hj).1 (g.w (by omega) (by omega))⟩
theorem LT.ag {b n : Nat} {inp : Nat → Int32} (t : LT M b n inp) (g : AG M M' b (b + 1)) : LT M' b n inp := by
  obtain ⟨o, h1, h2, h3, h4⟩ := t
  exact ⟨o.to g.1 g.2.1 (g.r (by omega) (by omega)), by rw [g.i (by omega) (by omega)]; exact h1, h2, fun k hk => by rw [g.i (by omega) (by omega)]; exact h3 k hk, h4⟩
theorem C5.ag {l : LN} (h : C5 M x l) (g : AG M M' (x + 335) (x + 336)) : C5 M' x l := by
  obtain ⟨h1, h2, h3, h4⟩ := h
  exact ⟨by rw [g.i (by omega) (by omega)]; exact h1, h2, fun k hk => by rw [g.i (by omega) (by omega)]; exact h3 k hk, h4⟩
theorem BO.ag (o : BO M x) (g : AG M M' x (x + 349)) : BO M' x := by
  obtain ⟨a1, a2, a3, a4, a5, a6, a7, a8, a9, a10⟩ := o
  exact ⟨by rw [g.1]; exact a1, by rw [g.r (by omega) (by omega)]; exact a2, a3.ag (g.w (by omega) (by omega)), a4.ag (g.w (by omega) (by omega)), a5.ag (g.w (by omega) (by omega)), a6.to g.1 g.2.1 (g.r (by omega) (by omega)), a7.to g.1 g.2.1 (g.r (by omega) (by omega)), a8.to g.1 g.2.1 (g.r (by omega) (by omega)) (g.r (by omega) (by omega)), by rw [g.1]; exact a9, by rw [g.2.1]; exact a10⟩
/-- it depends on the class's own memory alone -/
theorem CB.ag (c : CB F M x B) (g : AG M M' x (x + 349)) : CB F M' x B := by
  have hx : mi M' x = mi M x := g.i (by omega) (by omega)
  obtain ⟨c0, i, c1, c2, c3, c4, c5, c6, c7⟩ := c
  refine ⟨c0.ag g, i, c1.ag c0.s i.1.1 (g.w (by omega) (by omega)), c2.ag c0.n i.2.2.2 (by rw [hx]) (g.w (by omega) (by omega)), c3.ag c0.h i.2.1 i.2.2.1 (g.w (by omega) (by omega)), c4.ag (g.w (by omega) (by omega)), c5.ag (g.w (by omega) (by omega)), by rw [hx]; exact c6, ?_⟩
  unfold C7
  rw [hx]
  exact c7
theorem CB.mono (c : CB F M x B) {F' : Nat} (h1 : F ≤ F') (h2 : F' < 2 ^ 30) : CB F' M x B := ⟨c.1, c.2.1.mono h1 h2, c.2.2⟩
theorem CB.sx (c : CB F M x B) (z : Nat) : CB F (sX M z) x B := c.ag ⟨rfl, rfl, fun _ _ _ => ⟨rfl, rfl⟩⟩
end CB
/-! one petition a stone, kept -/
section GU
variable {F : Nat} {g g' : Nat → Int32}
theorem GU_same (u : GU g) (h3 : g' 3 = g 3) (h : ∀ k, k < gn g 3 → g' (35 + 11 * k + 2) = g (35 + 11 * k + 2)) : GU g' := by
  intro j k hjk hk
  rw [gn_eq h3] at hk
  rw [gn_eq (h j (by omega)), gn_eq (h k hk)]
  exact u j k hjk hk
theorem GU_file (u : GU g) (i : GI F g) {a b : Nat} (hb : b < gn g 0) (c w : Int32) (h : gAbout g (nI b) = none) : GU (gFile g a b c w) := by
  have s11 := i.s.2
  intro j k hjk hk
  rw [gFile_3 i a b c w] at hk
  have old : ∀ z, z < gn g 3 → gn (gFile g a b c w) (35 + 11 * z + 2) = gn g (35 + 11 * z + 2) := fun z hz => gn_eq (gFile_old g a b c w (by omega) (by omega) (by omega))
  rw [old j (by omega)]
  by_cases e : k = gn g 3
  · subst e
    have hn : gn (gFile g a b c w) (35 + 11 * gn g 3 + 2) = b := gn_v (gFile_new g a b c w).2.2.1 (by omega)
    rw [hn]
    intro e2
    have h2 := of_decide_eq_false (fx_none.mp h j (by omega))
    have hn2 := (i.pi (show j < gn g 3 by omega)).2.2.1.1
    rw [e2] at hn2
    exact h2 hn2
  · rw [old k (by omega)]
    exact u j k hjk (by omega)
theorem GU_dr (u : GU g) (i : GI F g) {p : Nat} (hp : p < gn g 3) (d : GDr g p g') : GU g' := by
  have n8 := i.p.2
  intro j k hjk hk
  rw [d.n n8] at hk
  have up : ∀ z, z < gn g 3 - 1 → ∃ t, t < gn g 3 ∧ t ≠ p ∧ dn p t = z ∧ (z < p ∧ t = z ∨ ¬ z < p ∧ t = z + 1) := fun z hz => by
    by_cases e : z < p
    · exact ⟨z, by omega, by omega, by unfold dn; rw [if_pos e], Or.inl ⟨e, rfl⟩⟩
    · exact ⟨z + 1, by omega, by omega, by unfold dn; rw [if_neg (by omega)]; omega, Or.inr ⟨e, rfl⟩⟩
  obtain ⟨t1, x1, x2, x3, x4⟩ := up j (by omega)
  obtain ⟨t2, y1, y2, y3, y4⟩ := up k hk
  have e1 := d.at (w := 2) n8 x1 hp x2 (by decide)
  have e2 := d.at (w := 2) n8 y1 hp y2 (by decide)
  rw [x3] at e1
  rw [y3] at e2
  rw [gn_eq e1, gn_eq e2]
  exact u t1 t2 (by omega) y1
theorem GDe.dr {p : Nat} (d : GDe g p g') (i : GI F g) : GDr g p g' := by
  obtain ⟨d0, d1, d2, d3, d4, d5, d6, d7, d8, ds, dr, dp, -⟩ := d
  have o7 := i.o.2
  exact ⟨d3, fun k hk => dr k (by omega), dp⟩
theorem GU_lx (u : GU g) {g' : Nat → Int32} (h : ∀ x, x = 3 ∨ 35 ≤ x → g' x = g x) : GU g' := GU_same u (h 3 (Or.inl rfl)) (fun k _ => h _ (Or.inr (by omega)))
theorem GU_l4 (u : GU g) {p k : Nat} (h4 : gn g (35 + 11 * p + 7) < 4) : GU (gCite g p k) := by
  unfold gCite
  refine GU_same u ?_ (fun z hz => ?_)
  · rw [va_up_ne _ _ (by omega), va_up_ne _ _ (by omega)]
  · rw [va_up_ne _ _ (by omega), va_up_ne _ _ (by omega)]
theorem GU_spAddStone (u : GU g) (i : GI F g) {c w : Int32} (h0 : (sp_addStone g c w).1 = 0) : GU (sp_addStone g c w).2.2.2 := by
  unfold sp_addStone at h0 ⊢
  by_cases hc : 0 ≤ c ∧ c ≤ 24
  · rw [if_pos hc] at h0 ⊢
    by_cases hw : 1 ≤ w ∧ w ≤ 9
    · rw [if_pos hw] at h0 ⊢
      cases e : gWithin g c with
      | some k => rw [e] at h0; exact c_no (p := 3) h0 (by decide)
      | none =>
        rw [e] at h0
        simp only at h0 ⊢
        by_cases h10 : gn g 0 = 10
        · rw [if_pos h10] at h0; exact c_no (p := 3) h0 (by decide)
        · rw [if_neg h10]; exact GU_lx u (fun x hx => by have := i.s.2; show va_up (va_up (va_up g _ _) _ _) _ _ x = _; rw [va_up_ne _ _ (by omega), va_up_ne _ _ (by omega), va_up_ne _ _ (by omega)])
    · rw [if_neg hw] at h0; exact c_no (p := 2) h0 (by decide)
  · rw [if_neg hc] at h0; exact c_no (p := 1) h0 (by decide)
theorem GU_spAddOfficer (u : GU g) (i : GI F g) {r : Int32} (h0 : (sp_addOfficer g r).1 = 0) : GU (sp_addOfficer g r).2.2.2 := by
  unfold sp_addOfficer at h0 ⊢
  by_cases hc : 1 ≤ r ∧ r ≤ 9
  · rw [if_pos hc] at h0 ⊢
    by_cases h6 : gn g 1 = 6
    · rw [if_pos h6] at h0; exact c_no (p := 2) h0 (by decide)
    · rw [if_neg h6]; exact GU_lx u (fun x hx => by have := i.o.2; show va_up (va_up g (29 + gn g 1) _) 1 _ x = _; rw [va_up_ne _ _ (by omega), va_up_ne _ _ (by omega)])
  · rw [if_neg hc] at h0; exact c_no (p := 1) h0 (by decide)
theorem GU_spSetQuorum (u : GU g) (i : GI F g) {q : Int32} (h0 : (sp_setQuorum g q).1 = 0) : GU (sp_setQuorum g q).2.2.2 := by
  unfold sp_setQuorum at h0 ⊢
  by_cases hc : 1 ≤ q ∧ q ≤ 5
  · rw [if_pos hc] at h0 ⊢
    by_cases h6 : g 2 = q
    · rw [if_pos h6] at h0; exact c_no (p := 2) h0 (by decide)
    · rw [if_neg h6]; exact GU_lx u (fun x hx => va_up_ne g _ (by omega))
  · rw [if_neg hc] at h0; exact c_no (p := 1) h0 (by decide)
theorem GU_spFile (u : GU g) (i : GI F g) {a s c w : Int32} (h0 : (sp_file g a s c w).1 = 0) : GU (sp_file g a s c w).2.2.2 := by
  unfold sp_file at h0 ⊢
  rcases ixo_c (n := gn g 1) (by have := i.o.2; omega) a with ⟨ea, hb⟩ | ⟨x, hx, rfl, ea, hb⟩
  · rw [ea] at h0; exact c_no (p := 1) h0 (by decide)
  · rw [ea] at h0 ⊢
    simp only at h0 ⊢
    rcases ixo_c (n := gn g 0) (by have := i.s.2; omega) s with ⟨es, hb2⟩ | ⟨k, hk, rfl, es, hb2⟩
    · rw [es] at h0; exact c_no (p := 1) h0 (by decide)
    · rw [es] at h0 ⊢
      simp only at h0 ⊢
      by_cases hc : 0 ≤ c ∧ c ≤ 24
      · rw [if_pos hc] at h0 ⊢
        by_cases hu : 0 ≤ w ∧ w ≤ 9
        · rw [if_pos hu] at h0 ⊢
          cases e : gAbout g (nI k) with
          | some p => rw [e] at h0; exact c_no (p := 3) h0 (by decide)
          | none =>
            rw [e] at h0
            simp only at h0 ⊢
            by_cases h4 : g (9 + 2 * k) = c
            · rw [if_pos h4] at h0; exact c_no (p := 3) h0 (by decide)
            · rw [if_neg h4] at h0 ⊢
              by_cases h8 : gn g 3 = 8
              · rw [if_pos h8] at h0; exact c_no (p := 3) h0 (by decide)
              · rw [if_neg h8]; exact GU_file u i hk c w e
        · rw [if_neg hu] at h0; exact c_no (p := 2) h0 (by decide)
      · rw [if_neg hc] at h0; exact c_no (p := 1) h0 (by decide)
theorem GU_spVote (u : GU g) (i : GI F g) {a x b : Int32} (h0 : (sp_vote g a x b).1 = 0) : GU (sp_vote g a x b).2.2.2 := by
  unfold sp_vote at h0 ⊢
  rcases ixo_c (n := gn g 1) (by have := i.o.2; omega) a with ⟨ea, hb⟩ | ⟨k, hk, rfl, ea, hb⟩
  · rw [ea] at h0; exact c_no (p := 1) h0 (by decide)
  · rw [ea] at h0 ⊢
    simp only at h0 ⊢
    cases e : gPlace g x with
    | none => rw [e] at h0; exact c_no (p := 2) h0 (by decide)
    | some p =>
      rw [e] at h0
      simp only at h0 ⊢
      by_cases q1 : g (35 + 11 * p + 1) = nI k
      · rw [if_pos q1] at h0; exact c_no (p := 3) h0 (by decide)
      · rw [if_neg q1] at h0 ⊢
        by_cases q2 : (gn g (35 + 11 * p + 5)).testBit k = true
        · rw [if_pos q2] at h0; exact c_no (p := 3) h0 (by decide)
        · rw [if_neg q2] at h0 ⊢
          by_cases q3 : (gn g (35 + 11 * p + 6)).testBit k = true
          · rw [if_pos q3] at h0; exact c_no (p := 3) h0 (by decide)
          · rw [if_neg q3]
            exact GU_same u (va_up_ne g _ (by split <;> omega)) (fun k hk => va_up_ne g _ (by split <;> omega))
theorem GU_spCite (u : GU g) (i : GI F g) {x r : Int32} (h0 : (sp_cite g x r).1 = 0) : GU (sp_cite g x r).2.2.2 := by
  unfold sp_cite at h0 ⊢
  cases e : gPlace g x with
  | none => rw [e] at h0; exact c_no (p := 1) h0 (by decide)
  | some p =>
    rw [e] at h0
    simp only at h0 ⊢
    rcases ixo_c (n := gn g 5) (by have := i.r.2; omega) r with ⟨ea, hb⟩ | ⟨k, hk, rfl, ea, hb⟩
    · rw [ea] at h0; exact c_no (p := 1) h0 (by decide)
    · rw [ea] at h0 ⊢
      simp only at h0 ⊢
      by_cases q1 : gCited g p k = true
      · rw [if_pos q1] at h0; exact c_no (p := 2) h0 (by decide)
      · rw [if_neg q1] at h0 ⊢
        by_cases q2 : gn g (35 + 11 * p + 7) = 3
        · rw [if_pos q2] at h0; exact c_no (p := 2) h0 (by decide)
        · rw [if_neg q2]; exact GU_l4 u (i.pi (fx_lt e)).2.2.2.2.2.2.2.1.2
theorem GU_spVeto (u : GU g) (i : GI F g) {a x : Int32} (h0 : (sp_veto g a x).1 = 0) : GU (sp_veto g a x).2.2.2 := by
  unfold sp_veto at h0 ⊢
  rcases ixo_c (n := gn g 1) (by have := i.o.2; omega) a with ⟨ea, hb⟩ | ⟨k, hk, rfl, ea, hb⟩
  · rw [ea] at h0; exact c_no (p := 1) h0 (by decide)
  · rw [ea] at h0 ⊢
    simp only at h0 ⊢
    cases e : gPlace g x with
    | none => rw [e] at h0; exact c_no (p := 2) h0 (by decide)
    | some p =>
      rw [e] at h0
      simp only at h0 ⊢
      by_cases q1 : gn g (29 + k) ≤ gRk g p
      · rw [if_pos q1] at h0; exact c_no (p := 3) h0 (by decide)
      · rw [if_neg q1]; exact GU_dr u i (fx_lt e) (GDr_up i (fx_lt e) (Or.inl rfl))
theorem GU_spWithdraw (u : GU g) (i : GI F g) {x : Int32} (h0 : (sp_withdraw g x).1 = 0) : GU (sp_withdraw g x).2.2.2 := by
  unfold sp_withdraw at h0 ⊢
  cases e : gPlace g x with
  | none => rw [e] at h0; exact c_no (p := 1) h0 (by decide)
  | some p => exact GU_dr u i (fx_lt e) (GDr_up i (fx_lt e) (Or.inr rfl))
theorem GU_spDecide (u : GU g) (i : GI F g) (h0 : (sp_decide g).1 = 0) : GU (sp_decide g).2.2.2 := by
  unfold sp_decide at h0 ⊢
  cases e : gQueued g 0 with
  | none => rw [e] at h0; exact c_no (p := 1) h0 (by decide)
  | some p =>
    rw [e] at h0
    simp only at h0 ⊢
    by_cases q1 : gVotes g p < gn g 2
    · rw [if_pos q1] at h0; exact c_no (p := 1) h0 (by decide)
    · rw [if_neg q1] at h0 ⊢
      by_cases q2 : gn g 5 = 16
      · rw [if_pos q2] at h0; exact c_no (p := 1) h0 (by decide)
      · rw [if_neg q2]; exact GU_dr u i (fx_lt e) ((GDe_decide i (fx_lt e)).dr i)
theorem GU_cmd (u : GU g) (i : GI F g) {c : Int32} {a : Nat → Nat} (h0 : (sp_cmd g c a).1 = 0) : GU (sp_cmd g c a).2.2.2 := by
  unfold sp_cmd at h0 ⊢
  by_cases e115 : c = 115
  · rw [if_pos e115] at h0 ⊢
    exact GU_spAddStone u i h0
  rw [if_neg e115] at h0 ⊢
  by_cases e111 : c = 111
  · rw [if_pos e111] at h0 ⊢
    exact GU_spAddOfficer u i h0
  rw [if_neg e111] at h0 ⊢
  by_cases e113 : c = 113
  · rw [if_pos e113] at h0 ⊢
    exact GU_spSetQuorum u i h0
  rw [if_neg e113] at h0 ⊢
  by_cases e102 : c = 102
  · rw [if_pos e102] at h0 ⊢
    exact GU_spFile u i h0
  rw [if_neg e102] at h0 ⊢
  by_cases e121 : c = 121
  · rw [if_pos e121] at h0 ⊢
    exact GU_spVote u i h0
  rw [if_neg e121] at h0 ⊢
  by_cases e110 : c = 110
  · rw [if_pos e110] at h0 ⊢
    exact GU_spVote u i h0
  rw [if_neg e110] at h0 ⊢
  by_cases e99 : c = 99
  · rw [if_pos e99] at h0 ⊢
    exact GU_spCite u i h0
  rw [if_neg e99] at h0 ⊢
  by_cases e118 : c = 118
  · rw [if_pos e118] at h0 ⊢
    exact GU_spVeto u i h0
  rw [if_neg e118] at h0 ⊢
  by_cases e119 : c = 119
  · rw [if_pos e119] at h0 ⊢
    exact GU_spWithdraw u i h0
  rw [if_neg e119] at h0 ⊢
  exact GU_spDecide u i h0
end GU
