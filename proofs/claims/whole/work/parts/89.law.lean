/-! THE LAW: a text carried out -/
theorem pC_leN {inp : Nat → Int32} {n p : Nat} (hp : p ≤ n) : (pC inp n p).2.1 ≤ n := by
  unfold pC
  cases e : pI (hC inp n p) with
  | none => exact hp
  | some i =>
    have h1 : ∀ i, i < 10 → ∀ c ∈ tx_byt.getD i [], c ≠ -1 := by decide +kernel
    exact qR_le inp n (fun _ _ => trivial) _ _ (h1 i (pI_lt e)) hp
theorem tOK_le {inp : Nat → Int32} {n : Nat} : (tOK inp n).2.1 ≤ n := by
  unfold tOK
  cases e : fx (fun k => !gd inp n k) 9 with
  | none => exact Nat.zero_le n
  | some K =>
    have hK := fx_some.mp e
    have hp := (ps_b (inp := inp) (n := n) (k := K) fun j hj => by
      have h9 := hK.2.2 j hj
      cases hg : gd inp n j with
      | true => rfl
      | false => rw [hg] at h9; cases h9).2
    have hl : pe inp n K ≤ n := pC_leN hp
    show (if (pC inp n (ps inp n K)).1 = true then (decide (pe inp n K = n), (pe inp n K, K + 1)) else (false, (pe inp n K, K))).2.1 ≤ n
    split <;> exact hl
/-- the kept fault position is none, or a position -/
def FO (B : BS) : Prop := bf B = -1 ∨ 0 ≤ bf B
theorem nI_nn {k : Nat} (h : k < 2 ^ 31) : 0 ≤ nI k := (show nI 0 ≤ nI k from nI_le (Nat.zero_le k) h)
section LAW
variable {G : GG} {M M' : Mm} {h F : Nat} {B : BS}
theorem RB.to2 (r : RB M h B) (o : MO M' h) (e : ∀ a, (a = h + 1 ∨ a = h + 2 ∨ a = h + 3 ∨ a = h + 5 ∨ a = h + 6) → mi M' a = mi M a) (f : ∀ j, (j = 4 ∨ j = 5 ∨ j = 6 ∨ 9 ≤ j ∧ j ≤ 12 ∨ j = 14 ∨ j = 15 ∨ j = 17) → mi M' h j = mi M h j) : RB M' h B := by
  obtain ⟨-, h1, ⟨h2, h3⟩, ⟨h4, h5⟩, ⟨t1, t2, t3⟩, ⟨l1, l2⟩, h6, ⟨d1, d2, d3, d4⟩, h7⟩ := r
  refine ⟨o, (e _ (by omega)).trans h1, ⟨(f 5 (by omega)).trans h2, fun j hj k hk => ?_⟩, ⟨fun z => (f 4 (by omega)).trans (h4 z), fun s hs => ⟨?_, fun k hk => ?_⟩⟩, ⟨(f 14 (by omega)).trans t1, t2, (e _ (by omega)).trans t3⟩, ⟨(f 17 (by omega)).trans l1, (e _ (by omega)).trans l2⟩, (f 15 (by omega)).trans h6, ⟨(f 9 (by omega)).trans d1, (f 10 (by omega)).trans d2, (f 11 (by omega)).trans d3, (f 12 (by omega)).trans d4⟩, (f 6 (by omega)).trans h7⟩
  · rw [e (h + 2) (by omega)]
    exact h3 j hj k hk
  · rw [f 4 (by omega)]
    exact (h5 s hs).1
  · rw [e (h + 3) (by omega)]
    exact (h5 s hs).2 k hk
theorem RB.clr (r : RB M h B) : RB (sI M h 14 0) h (bClr B) := by
  have e1 : mi (sI M h 14 0) h = va_up (mi M h) 14 0 := mi_sI_s _ _ _ _
  have en : ∀ a, a ≠ h → mi (sI M h 14 0) a = mi M a := fun a ha => mi_sI_n _ _ _ ha
  have f : ∀ j, j ≠ 14 → mi (sI M h 14 0) h j = mi M h j := fun j a => by rw [e1, va_up_ne _ _ a]
  obtain ⟨o, h1, ⟨h2, h3⟩, ⟨h4, h5⟩, ⟨t1, t2, t3⟩, ⟨l1, l2⟩, h6, ⟨d1, d2, d3, d4⟩, h7⟩ := r
  refine ⟨o.to rfl rfl rfl, (en _ (by omega)).trans h1, ⟨(f 5 (by decide)).trans h2, fun j hj k hk => ?_⟩, ⟨fun z => (f 4 (by decide)).trans (h4 z), fun s hs => ⟨?_, fun k hk => ?_⟩⟩, ⟨by rw [e1, va_up_self]; rfl, Nat.zero_le _, (en _ (by omega)).trans t3⟩, ⟨(f 17 (by decide)).trans l1, (en _ (by omega)).trans l2⟩, (f 15 (by decide)).trans h6, ⟨(f 9 (by decide)).trans d1, (f 10 (by decide)).trans d2, (f 11 (by decide)).trans d3, (f 12 (by decide)).trans d4⟩, (f 6 (by decide)).trans h7⟩
  · rw [en (h + 2) (by omega)]
    exact h3 j hj k hk
  · rw [f 4 (by decide)]
    exact (h5 s hs).1
  · rw [en (h + 3) (by omega)]
    exact (h5 s hs).2 k hk
theorem RB.flt (r : RB M h B) (v : Int32) : RB (sI M h 15 v) h (bFlt B v) := by
  have e1 : mi (sI M h 15 v) h = va_up (mi M h) 15 v := mi_sI_s _ _ _ _
  have en : ∀ a, a ≠ h → mi (sI M h 15 v) a = mi M a := fun a ha => mi_sI_n _ _ _ ha
  have f : ∀ j, j ≠ 15 → mi (sI M h 15 v) h j = mi M h j := fun j a => by rw [e1, va_up_ne _ _ a]
  obtain ⟨o, h1, ⟨h2, h3⟩, ⟨h4, h5⟩, ⟨t1, t2, t3⟩, ⟨l1, l2⟩, h6, ⟨d1, d2, d3, d4⟩, h7⟩ := r
  refine ⟨o.to rfl rfl rfl, (en _ (by omega)).trans h1, ⟨(f 5 (by decide)).trans h2, fun j hj k hk => ?_⟩, ⟨fun z => (f 4 (by decide)).trans (h4 z), fun s hs => ⟨?_, fun k hk => ?_⟩⟩, ⟨(f 14 (by decide)).trans t1, t2, (en _ (by omega)).trans t3⟩, ⟨(f 17 (by decide)).trans l1, (en _ (by omega)).trans l2⟩, by rw [e1, va_up_self]; rfl, ⟨(f 9 (by decide)).trans d1, (f 10 (by decide)).trans d2, (f 11 (by decide)).trans d3, (f 12 (by decide)).trans d4⟩, (f 6 (by decide)).trans h7⟩
  · rw [en (h + 2) (by omega)]
    exact h3 j hj k hk
  · rw [f 4 (by decide)]
    exact (h5 s hs).1
  · rw [en (h + 3) (by omega)]
    exact (h5 s hs).2 k hk
section MX
variable {N : Mm}
theorem mx_f (r : RB M h B) (oN : MO N h) (ea : ∀ a, a = h + 3 ∨ a = h + 5 ∨ a = h + 6 → mi N a = mi M a) (ef : ∀ i, i = 4 ∨ i = 17 → mi N h i = mi M h i) (e6 : mi N h 6 = 0) (e14 : mi N h 14 = 0) {p : Int32} (f15 : mi N h 15 = p) (e1 : mi N (h + 1) = bg B) (e2 : mi N (h + 2) = mi M (h + 2)) (f5 : ∀ i, i = 5 ∨ 9 ≤ i ∧ i ≤ 12 → mi N h i = mi M h i) : RB N h (bFlt (bClr B) p) := by
  have c14 : mi (sI M h 14 0) h 14 = 0 := by rw [mi_sI_s, va_up_self]
  have cj : ∀ j, j ≠ 14 → mi (sI M h 14 0) h j = mi M h j := fun j hj => by rw [mi_sI_s, va_up_ne _ _ hj]
  have cn : ∀ a, a ≠ h → mi (sI M h 14 0) a = mi M a := fun a ha => mi_sI_n _ _ _ ha
  refine (r.clr.flt p).to2 oN (fun a ha => ?_) (fun j hj => ?_)
  · rw [mi_sI_n _ _ _ (by omega), cn a (by omega)]
    rcases ha with h1 | h1 | h1 | h1 | h1
    · rw [h1, e1, r.g]
    · rw [h1, e2]
    · exact ea a (by omega)
    · exact ea a (by omega)
    · exact ea a (by omega)
  · rw [mi_sI_s]
    by_cases h15 : j = 15
    · rw [h15, va_up_self, f15]
    · rw [va_up_ne _ _ h15]
      by_cases h14 : j = 14
      · rw [h14, c14, e14]
      · rw [cj j h14]
        by_cases h6 : j = 6
        · rw [h6, e6, r.w]
        · by_cases h4 : j = 4 ∨ j = 17
          · exact ef j h4
          · exact f5 j (by omega)
theorem mx_n (r : RB M h B) (i : BI F B) (oN : MO N h) (ea : ∀ a, a = h + 3 ∨ a = h + 5 ∨ a = h + 6 → mi N a = mi M a) (ef : ∀ i, i = 4 ∨ i = 17 → mi N h i = mi M h i) (e6 : mi N h 6 = 0) (e14 : mi N h 14 = 0) (f15 : mi N h 15 = mi M h 15) {g' row : Nat → Int32} (e1 : mi N (h + 1) = g') (er : ∀ i, i < 219 → row i = bg B i) (e2 : mi N (h + 2) = mKeepRow (mi M (h + 2)) row (bc B)) (f5 : mi N h 5 = nI (min (bc B) 7 + 1)) (fd : ∀ i, 9 ≤ i ∧ i ≤ 12 → mi N h i = mi M h i) : RB N h (bDo (bClr B) g') := by
  have c14 : mi (sI M h 14 0) h 14 = 0 := by rw [mi_sI_s, va_up_self]
  have cj : ∀ j, j ≠ 14 → mi (sI M h 14 0) h j = mi M h j := fun j hj => by rw [mi_sI_s, va_up_ne _ _ hj]
  have cn : ∀ a, a ≠ h → mi (sI M h 14 0) a = mi M a := fun a ha => mi_sI_n _ _ _ ha
  have rN : RB (sA (sA (sI (sI M h 14 0) h 5 (nI (min (bc B) 7 + 1))) (h + 2) (mi N (h + 2))) (h + 1) g') h (bDo (bClr B) g') := by
    refine RB.do (F := F) (row := row) r.clr i (r.o.to rfl rfl rfl) (mi_sA_s _ _ _) ?_ er (fun a ha => ?_) ?_ (fun j h5 _ _ => ?_)
    · rw [mi_sA_n _ _ (by omega), mi_sA_s, cn _ (by omega)]
      exact e2
    · rw [mi_sA_n _ _ (by omega), mi_sA_n _ _ (by omega), mi_sI_n _ _ _ (by omega)]
    · rw [mi_sA_n _ _ (by omega), mi_sA_n _ _ (by omega), mi_sI_s, va_up_self]
      rfl
    · rw [mi_sA_n _ _ (by omega), mi_sA_n _ _ (by omega), mi_sI_s, va_up_ne _ _ h5]
  refine rN.to2 oN (fun a ha => ?_) (fun j hj => ?_)
  · rcases ha with h1 | h1 | h1 | h1 | h1
    · rw [h1, mi_sA_s, e1]
    · rw [h1, mi_sA_n _ _ (by omega), mi_sA_s]
    · rw [mi_sA_n _ _ (by omega), mi_sA_n _ _ (by omega), mi_sI_n _ _ _ (by omega), cn a (by omega)]
      exact ea a (by omega)
    · rw [mi_sA_n _ _ (by omega), mi_sA_n _ _ (by omega), mi_sI_n _ _ _ (by omega), cn a (by omega)]
      exact ea a (by omega)
    · rw [mi_sA_n _ _ (by omega), mi_sA_n _ _ (by omega), mi_sI_n _ _ _ (by omega), cn a (by omega)]
      exact ea a (by omega)
  · rw [mi_sA_n _ _ (by omega), mi_sA_n _ _ (by omega), mi_sI_s]
    by_cases h5 : j = 5
    · rw [h5, va_up_self, f5]
    · rw [va_up_ne _ _ h5]
      by_cases h14 : j = 14
      · rw [h14, c14, e14]
      · rw [cj j h14]
        by_cases h6 : j = 6
        · rw [h6, e6, r.w]
        · by_cases h4 : j = 4 ∨ j = 17
          · exact ef j h4
          · by_cases h15 : j = 15
            · rw [h15, f15]
            · exact fd j (by omega)
/-- what a denial writes -/
def m4 (M : Mm) (h : Nat) (d : Int32 × Int32 × Int32 × Int32) : Mm := sI (sI (sI (sI M h 9 d.1) h 10 d.2.1) h 11 d.2.2.1) h 12 d.2.2.2
theorem m4_9 (M : Mm) (h : Nat) (d : Int32 × Int32 × Int32 × Int32) : mi (m4 M h d) h 9 = d.1 ∧ mi (m4 M h d) h 10 = d.2.1 ∧ mi (m4 M h d) h 11 = d.2.2.1 ∧ mi (m4 M h d) h 12 = d.2.2.2 := by
  unfold m4
  refine ⟨?_, ?_, ?_, ?_⟩
  · rw [mi_sI_s, va_up_ne _ _ (by decide), mi_sI_s, va_up_ne _ _ (by decide), mi_sI_s, va_up_ne _ _ (by decide), mi_sI_s, va_up_self]
  · rw [mi_sI_s, va_up_ne _ _ (by decide), mi_sI_s, va_up_ne _ _ (by decide), mi_sI_s, va_up_self]
  · rw [mi_sI_s, va_up_ne _ _ (by decide), mi_sI_s, va_up_self]
  · rw [mi_sI_s, va_up_self]
theorem m4_j (M : Mm) (h : Nat) (d : Int32 × Int32 × Int32 × Int32) {j : Nat} (h9 : ¬ (9 ≤ j ∧ j ≤ 12)) : mi (m4 M h d) h j = mi M h j := by
  unfold m4
  rw [mi_sI_s, va_up_ne _ _ (by omega), mi_sI_s, va_up_ne _ _ (by omega), mi_sI_s, va_up_ne _ _ (by omega), mi_sI_s, va_up_ne _ _ (by omega)]
theorem m4_n (M : Mm) (h : Nat) (d : Int32 × Int32 × Int32 × Int32) {a : Nat} (ha : a ≠ h) : mi (m4 M h d) a = mi M a := by
  unfold m4
  rw [mi_sI_n _ _ _ ha, mi_sI_n _ _ _ ha, mi_sI_n _ _ _ ha, mi_sI_n _ _ _ ha]
theorem be_g (B : BS) {g' : Nat → Int32} (e : E219 (bg B) g') : BE B (g', (bc B, bH B), bs B, btx B, bl B, bf B, bd B) := by
  have hB := BE.rfl B
  obtain ⟨g, ⟨c, H⟩, s, t, l, f, d⟩ := B
  exact ⟨e, hB.2.1, hB.2.2.1, hB.2.2.2.1, hB.2.2.2.2.1, hB.2.2.2.2.2.1, hB.2.2.2.2.2.2.1, hB.2.2.2.2.2.2.2.1, hB.2.2.2.2.2.2.2.2⟩
theorem mx_g {N1 : Mm} {B : BS} (r : RB N1 h B) (oN : MO N h) (e1 : E219 (bg B) (mi N (h + 1))) (e : ∀ a, (a = h + 2 ∨ a = h + 3 ∨ a = h + 5 ∨ a = h + 6) → mi N a = mi N1 a) (f : ∀ j, (j = 4 ∨ j = 5 ∨ j = 6 ∨ 9 ≤ j ∧ j ≤ 12 ∨ j = 14 ∨ j = 15 ∨ j = 17) → mi N h j = mi N1 h j) : ∃ B2, BE B B2 ∧ RB N h B2 := by
  have hc : ∀ j, mi (sA N1 (h + 1) (mi N (h + 1))) h j = mi N1 h j := fun j => by rw [mi_sA_n _ _ (by omega)]
  have hr : ∀ a, a ≠ h + 1 → mi (sA N1 (h + 1) (mi N (h + 1))) a = mi N1 a := fun a ha => mi_sA_n _ _ ha
  have r2 := r.gc (M' := sA N1 (h + 1) (mi N (h + 1))) (g' := mi N (h + 1)) (c' := bc B) (Nat.le_refl _) (r.o.to rfl rfl rfl) (mi_sA_s _ _ _) ((hc 5).trans r.2.2.1.1) (fun a ha => hr a (by omega)) (fun j _ _ _ => hc j)
  refine ⟨_, be_g B e1, r2.to2 oN (fun a ha => ?_) (fun j hj => (f j hj).trans (hc j).symm)⟩
  by_cases h1 : a = h + 1
  · rw [h1, mi_sA_s]
  · rw [hr a h1]
    exact e a (by omega)
theorem mx_s (r : RB M h B) (oN : MO N h) (ea : ∀ a, a = h + 3 ∨ a = h + 5 ∨ a = h + 6 → mi N a = mi M a) (ef : ∀ i, i = 4 ∨ i = 17 → mi N h i = mi M h i) (e6 : mi N h 6 = 0) (e14 : mi N h 14 = 0) (f15 : mi N h 15 = mi M h 15) {d : Int32 × Int32 × Int32 × Int32} (e1 : ∀ i, i < 219 → mi N (h + 1) i = bg B i) (e2 : mi N (h + 2) = mi M (h + 2)) (f5 : mi N h 5 = mi M h 5) (d9 : mi N h 9 = d.1) (d10 : mi N h 10 = d.2.1) (d11 : mi N h 11 = d.2.2.1) (d12 : mi N h 12 = d.2.2.2) : ∃ B2, BE (bDeny (bClr B) d) B2 ∧ RB N h B2 := by
  have c14 : mi (sI M h 14 0) h 14 = 0 := by rw [mi_sI_s, va_up_self]
  have cj : ∀ j, j ≠ 14 → mi (sI M h 14 0) h j = mi M h j := fun j hj => by rw [mi_sI_s, va_up_ne _ _ hj]
  have cn : ∀ a, a ≠ h → mi (sI M h 14 0) a = mi M a := fun a ha => mi_sI_n _ _ _ ha
  have r1 : RB (m4 (sI M h 14 0) h d) h (bDeny (bClr B) d) := r.clr.dn (r.o.to rfl rfl rfl) (fun a ha => m4_n _ _ _ (by omega)) (m4_9 _ _ _) (fun j _ _ h9 => m4_j _ _ _ h9)
  obtain ⟨q1, q2, q3, q4⟩ := m4_9 (sI M h 14 0) h d
  have k9 : ∀ j, ¬ (9 ≤ j ∧ j ≤ 12) → mi (m4 (sI M h 14 0) h d) h j = mi (sI M h 14 0) h j := fun j h9 => m4_j _ _ _ h9
  have kn : ∀ a, a ≠ h → mi (m4 (sI M h 14 0) h d) a = mi M a := fun a ha => (m4_n _ _ _ ha).trans (cn a ha)
  generalize m4 (sI M h 14 0) h d = N1 at *
  refine mx_g r1 oN e1 (fun a ha => ?_) (fun j hj => ?_)
  · rw [kn a (by omega)]
    rcases ha with h1 | h1 | h1 | h1
    · rw [h1, e2]
    · exact ea a (by omega)
    · exact ea a (by omega)
    · exact ea a (by omega)
  · by_cases h9 : 9 ≤ j ∧ j ≤ 12
    · rcases (show j = 9 ∨ j = 10 ∨ j = 11 ∨ j = 12 by omega) with h1 | h1 | h1 | h1
      · rw [h1, d9, q1]
      · rw [h1, d10, q2]
      · rw [h1, d11, q3]
      · rw [h1, d12, q4]
    · rw [k9 j h9]
      by_cases h14 : j = 14
      · rw [h14, c14, e14]
      · rw [cj j h14]
        by_cases h6 : j = 6
        · rw [h6, e6, r.w]
        · by_cases h4 : j = 4 ∨ j = 17
          · exact ef j h4
          · by_cases h15 : j = 15
            · rw [h15, f15]
            · rw [show j = 5 by omega, f5]
end MX
theorem m_execute (r : RB M h B) (i : BI F B) (hF : F + 9 < 2 ^ 30) : KK G IX9_execute [.ref h] M (QM M h (xO B).1 (xO B).2.1 (xO B).2.2) := by
  have hK := k_X9_execute (G := G) r.o r.2.2.2.2.1 (r.gi i) hF (r.nk i) r.w
  have hg : gn (mi M h) 5 = bc B := by
    have h8 := i.2.1
    show (mi M h 5).toNatClampNeg = bc B
    rw [r.2.2.1.1]
    exact nI_clamp (by omega)
  refine KK.mono hK (fun w N hw => ?_) (fun _ _ z => z)
  obtain ⟨z, e0, mr, ea, ef, e6, e14, eF, eT⟩ := hw
  have oN : MO N h := r.o.mr mr
  refine ⟨z, e0, mr, ?_⟩
  rw [r.g] at eF eT
  cases hok : (tOK (btx B).2 (btx B).1).1 with
  | false =>
    obtain ⟨hy, f8, f15, e1, e2, f5⟩ := eF hok
    rw [xO_f hok]
    exact ⟨f8, fun z => absurd z (show ¬ (1 : Int32) = 0 by decide), _, BE.rfl _, mx_f r oN ea ef e6 e14 f15 e1 e2 f5⟩
  | true =>
    obtain ⟨f15, eN, eS⟩ := eT hok
    cases hx : xFail (bg B) (btx B).2 (btx B).1 (tOK (btx B).2 (btx B).1).2.2 with
    | none =>
      obtain ⟨hy, f8, e1, ⟨row, er, e2⟩, f5, fd⟩ := eN hx
      rw [xO_n hok hx]
      rw [hg] at e2 f5
      exact ⟨f8, fun _ => hy, _, BE.rfl _, mx_n r i oN ea ef e6 e14 f15 e1 er e2 f5 fd⟩
    | some j0 =>
      obtain ⟨hy, f8, e1, e2, f5, f9, f10, f11, f12⟩ := eS j0 hx
      rw [xO_s hok hx]
      exact ⟨f8, fun z => absurd z (show ¬ (2 : Int32) = 0 by decide), mx_s r oN ea ef e6 e14 f15 e1 e2 f5 f9 f10 f11 f12⟩
end LAW
