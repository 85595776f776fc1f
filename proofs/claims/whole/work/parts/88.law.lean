/-! THE LAW: the reference's texts, lines, faults and denials -/
theorem nch_128 : ∀ k, k < 128 → narrow .char (.int (nI k)) = .int (nI k) := by decide +kernel
section LAW
variable {G : GG} {M M1 M' : Mm} {h x F : Nat} {B B' : BS} {y c v : Int32}
theorem m_feed (r : RB M h B) (c : Int32) : KK G IX9_feed [.ref h, .int c] M (QM M h (if decide ((btx B).1 < 60) = true then 0 else 1) (nI ((btx B).1 + 1)) (if decide ((btx B).1 < 60) = true then bFeed B c else B)) := by
  obtain ⟨t1, t2, t3⟩ := r.2.2.2.2.1
  by_cases h60 : (btx B).1 < 60
  · rw [if_pos (decide_eq_true h60), if_pos (decide_eq_true h60)]
    have e1 : mi (sI (sI (mFail M h 0) (h + 5) (btx B).1 c) h 14 (nI ((btx B).1 + 1))) h = va_up (mi (mFail M h 0) h) 14 (nI ((btx B).1 + 1)) := by rw [mi_sI_s, mi_sI_n _ _ _ (by omega)]
    have en : ∀ a, a ≠ h → a ≠ h + 5 → mi (sI (sI (mFail M h 0) (h + 5) (btx B).1 c) h 14 (nI ((btx B).1 + 1))) a = mi M a := fun a ha hb => by rw [mi_sI_n _ _ _ ha, mi_sI_n _ _ _ hb, mfail_n _ _ _ ha]
    have f : ∀ j, j ≠ 14 → j ≠ 7 → j ≠ 8 → mi (sI (sI (mFail M h 0) (h + 5) (btx B).1 c) h 14 (nI ((btx B).1 + 1))) h j = mi M h j := fun j a b d => by rw [e1, va_up_ne _ _ a, mfail_j _ _ _ b d]
    refine (k_X9_feedO r.o t1 h60 c).qm (((mr_fail M h 0).sI _ _ (by omega)).sI _ _ (by omega)) ?_ (fun _ => rfl) ⟨_, BE.rfl _, ?_⟩
    · rw [e1, va_up_ne _ _ (by decide), mfail_8]
    · obtain ⟨o, h1, ⟨h2, h3⟩, ⟨h4, h5⟩, -, ⟨l1, l2⟩, h6, ⟨d1, d2, d3, d4⟩, h7⟩ := r
      have q : ∀ j v, j ≠ 14 → j ≠ 7 → j ≠ 8 → mi M h j = v → mi (sI (sI (mFail M h 0) (h + 5) (btx B).1 c) h 14 (nI ((btx B).1 + 1))) h j = v := fun j v a b c d => (f j a b c).trans d
      refine ⟨o.to rfl rfl rfl, (en _ (by omega) (by omega)).trans h1, ⟨q 5 _ (by decide) (by decide) (by decide) h2, fun j hj k hk => ?_⟩, ⟨fun z => q 4 _ (by decide) (by decide) (by decide) (h4 z), fun s hs => ⟨?_, fun k hk => ?_⟩⟩, ⟨?_, h60, ?_⟩, ⟨q 17 _ (by decide) (by decide) (by decide) l1, (en _ (by omega) (by omega)).trans l2⟩, q 15 _ (by decide) (by decide) (by decide) h6, ⟨q 9 _ (by decide) (by decide) (by decide) d1, q 10 _ (by decide) (by decide) (by decide) d2, q 11 _ (by decide) (by decide) (by decide) d3, q 12 _ (by decide) (by decide) (by decide) d4⟩, q 6 _ (by decide) (by decide) (by decide) h7⟩
      · rw [en _ (by omega) (by omega)]
        exact h3 j hj k hk
      · rw [f 4 (by decide) (by decide) (by decide)]
        exact (h5 s hs).1
      · rw [en _ (by omega) (by omega)]
        exact (h5 s hs).2 k hk
      · rw [e1, va_up_self]
        rfl
      · rw [mi_sI_n _ _ _ (by omega), mi_sI_s, mfail_n _ _ _ (by omega), t3]
        rfl
  · rw [if_neg (by rw [decide_eq_false h60]; decide), if_neg (by rw [decide_eq_false h60]; decide)]
    refine (k_X9_feedF r.o (by rw [t1, show (btx B).1 = 60 by omega]; rfl) c).qm (mr_fail _ _ _) (mfail_8 _ _ _) (fun z => absurd z (by decide)) ⟨_, BE.rfl _, r.fail _⟩
theorem RB.line (r : RB M h B) (l : LN) : RB (mLine M h l) h (bLine B l) := by
  have e1 : mi (mLine M h l) h = va_up (mi M h) 17 (nI l.2) := mi_sA_s _ _ _
  have en : ∀ a, a ≠ h → a ≠ h + 6 → mi (mLine M h l) a = mi M a := fun a ha hb => by
    unfold mLine
    rw [mi_sA_n _ _ ha, mi_sA_n _ _ hb]
  have f : ∀ j, j ≠ 17 → mi (mLine M h l) h j = mi M h j := fun j a => by rw [e1, va_up_ne _ _ a]
  obtain ⟨o, h1, ⟨h2, h3⟩, ⟨h4, h5⟩, ⟨t1, t2, t3⟩, -, h6, ⟨d1, d2, d3, d4⟩, h7⟩ := r
  have q : ∀ j v, j ≠ 17 → mi M h j = v → mi (mLine M h l) h j = v := fun j v a d => (f j a).trans d
  refine ⟨o.line l, (en _ (by omega) (by omega)).trans h1, ⟨q 5 _ (by decide) h2, fun j hj k hk => ?_⟩, ⟨fun z => q 4 _ (by decide) (h4 z), fun s hs => ⟨?_, fun k hk => ?_⟩⟩, ⟨q 14 _ (by decide) t1, t2, (en _ (by omega) (by omega)).trans t3⟩, ⟨by rw [e1, va_up_self]; rfl, ?_⟩, q 15 _ (by decide) h6, ⟨q 9 _ (by decide) d1, q 10 _ (by decide) d2, q 11 _ (by decide) d3, q 12 _ (by decide) d4⟩, q 6 _ (by decide) h7⟩
  · rw [en _ (by omega) (by omega)]
    exact h3 j hj k hk
  · rw [f 4 (by decide)]
    exact (h5 s hs).1
  · rw [en _ (by omega) (by omega)]
    exact (h5 s hs).2 k hk
  · unfold mLine
    rw [mi_sA_n _ _ (by omega), mi_sA_s]
    rfl
theorem mr_line {M M' : Mm} (r : MR M h M') (l : LN) : MR M h (mLine M' h l) := (r.sA _ (by omega)).sA _ (by omega)
theorem line_8 (M : Mm) (h : Nat) (l : LN) : mi (mLine M h l) h 8 = mi M h 8 := by
  unfold mLine
  rw [mi_sA_s, va_up_ne _ _ (by decide)]
theorem be_line (B : BS) {l l' : LN} (e : LEq l l') : BE (bLine B l) (bLine B l') := by
  have hB := BE.rfl B
  exact ⟨hB.1, rfl, hB.2.2.1, hB.2.2.2.1, rfl, fun _ _ => rfl, e, rfl, rfl⟩
theorem m_writeRow (r : RB M h B) (i : BI F B) (y : Int32) (f : Nat → Int32) : KK G IX9_writeRow [.ref h, .int y] M (QM M h (if decide (0 ≤ y ∧ y < 5) = true then 0 else 1) 5 (if decide (0 ≤ y ∧ y < 5) = true then bLine B (lRow (bg B) y.toNatClampNeg f 5) else B)) := by
  by_cases h5 : 0 ≤ y ∧ y < 5
  · rw [if_pos (decide_eq_true h5), if_pos (decide_eq_true h5)]
    obtain ⟨k, hk, hy⟩ := (nI_lt0 (x := y) (n := 5) (by decide)).mp ⟨h5.1, by show y ≤ 4; exact Int32.le_iff_toInt_le.mpr (by have := Int32.lt_iff_toInt_lt.mp h5.2; have h9 : (5 : Int32).toInt = 5 := (by decide); have h8 : (4 : Int32).toInt = 4 := (by decide); omega)⟩
    subst hy
    rw [nI_clamp (by omega)]
    have hK := k_X9_writeRowO (G := G) r.o (r.gi i) hk
    rw [r.g] at hK
    refine hK.qm (mr_line (mr_fail M h 0) _) (by rw [line_8, mfail_8]) (fun _ => rfl) ⟨_, be_line B (LEq.row (bg B) k f _ 5), (r.fail 0).line _⟩
  · rw [if_neg (by rw [decide_eq_false h5]; decide), if_neg (by rw [decide_eq_false h5]; decide)]
    have hx : ¬ (0 ≤ y ∧ y ≤ 4) := fun z => h5 ⟨z.1, Int32.lt_iff_toInt_lt.mpr (by have := Int32.le_iff_toInt_le.mp z.2; have h9 : (5 : Int32).toInt = 5 := (by decide); have h8 : (4 : Int32).toInt = 4 := (by decide); omega)⟩
    exact (k_X9_writeRowF r.o hx).qm (mr_fail _ _ _) (mfail_8 _ _ _) (fun z => absurd z (by decide)) ⟨_, BE.rfl _, r.fail _⟩
theorem m_writePetitionN (r : RB M h B) (i : BI F B) {y : Int32} (e : gPlace (bg B) y = none) (v : Int32) : KK G IX9_writePetition [.ref h, .int y] M (QM M h 1 v B) := (k_X9_writePetitionF r.o (r.gi i) (by rw [r.g]; exact e)).qm (mr_fail _ _ _) (mfail_8 _ _ _) (fun z => absurd z (by decide)) ⟨_, BE.rfl _, r.fail _⟩
theorem m_writePetition (r : RB M h B) (i : BI F B) {y : Int32} {p : Nat} (e : gPlace (bg B) y = some p) (f : Nat → Int32) : KK G IX9_writePetition [.ref h, .int y] M (QM M h 0 (nI (lPet (bg B) p f).2) (bLine B (lPet (bg B) p f))) := by
  have hK := k_X9_writePetitionO (G := G) r.o (r.gi i) (x := y) (p := p) (by rw [r.g]; exact e)
  rw [r.g] at hK
  have hl := LEq.pet (bg B) p f (mi M (h + 6))
  exact hK.qm (mr_line (mr_fail M h 0) _) (by rw [line_8, mfail_8]) (fun _ => by rw [hl.1]) ⟨_, be_line B hl, (r.fail 0).line _⟩
theorem m_faultPosition (r : RB M h B) : KK G IX9_faultPosition [.ref h] M (QM M h (bI (bf B < 0)) (if bf B < 0 then 0 else bf B) B) := by
  have hK := k_X9_faultPosition (G := G) r.o
  rw [r.f] at hK
  exact hK.qm (mr_fail _ _ _) (mfail_8 _ _ _) (fun _ => rfl) ⟨_, BE.rfl _, r.fail _⟩
theorem bI_0n {p : Prop} [Decidable p] (h : bI p = 0) : ¬ p := fun z => by
  rw [bI_t z] at h
  exact absurd h (by decide)
theorem m_denial (r : RB M h B) : KK G IX9_denial [.ref h] M (QM M h (bI ((bd B).1 = 0)) (if (bd B).1 = 0 then 0 else (bd B).1) B) := by
  have hK := k_X9_denial (G := G) r.o
  rw [r.d.1] at hK
  exact hK.qm (mr_fail _ _ _) (mfail_8 _ _ _) (fun z => (if_neg (bI_0n z)).symm) ⟨_, BE.rfl _, r.fail _⟩
theorem m_denialDetail (r : RB M h B) : KK G IX9_denialDetail [.ref h] M (QM M h (bI ((bd B).1 = 0)) (if (bd B).1 = 0 then 0 else (bd B).2.1) B) := by
  have hK := k_X9_denialDetail (G := G) r.o
  rw [r.d.1, r.d.2.1] at hK
  exact hK.qm (mr_fail _ _ _) (mfail_8 _ _ _) (fun _ => rfl) ⟨_, BE.rfl _, r.fail _⟩
theorem m_denialCause (r : RB M h B) : KK G IX9_denialCause [.ref h] M (QM M h (bI ((bd B).2.2.1 = 0)) (if (bd B).2.2.1 = 0 then 0 else (bd B).2.2.1) B) := by
  have hK := k_X9_denialCause (G := G) r.o
  rw [r.d.2.2.1] at hK
  exact hK.qm (mr_fail _ _ _) (mfail_8 _ _ _) (fun z => (if_neg (bI_0n z)).symm) ⟨_, BE.rfl _, r.fail _⟩
theorem m_denialCauseDetail (r : RB M h B) : KK G IX9_denialCauseDetail [.ref h] M (QM M h (bI ((bd B).2.2.1 = 0)) (if (bd B).2.2.1 = 0 then 0 else (bd B).2.2.2) B) := by
  have hK := k_X9_denialCauseDetail (G := G) r.o
  rw [r.d.2.2.1, r.d.2.2.2] at hK
  exact hK.qm (mr_fail _ _ _) (mfail_8 _ _ _) (fun _ => rfl) ⟨_, BE.rfl _, r.fail _⟩
def sp_lineCharacter (l : LN) (y : Int32) : SPv := match ixo l.2 y with
  | none => (1, 32)
  | some k => (0, l.1 k)
theorem m_lineCharacter (r : RB M h B) (l60 : (bl B).2 ≤ 60) (lo : lOK (bl B)) (y : Int32) : KK G IX9_lineCharacter [.ref h, .int y] M (QM M h (sp_lineCharacter (bl B) y).1 (sp_lineCharacter (bl B) y).2 B) := by
  obtain ⟨l1, l2⟩ := r.2.2.2.2.2.1
  have hg : gn (mi M h) 17 = (bl B).2 := by
    show (mi M h 17).toNatClampNeg = (bl B).2
    rw [l1]
    exact nI_clamp (by omega)
  have hK := k_X9_lineCharacter (G := G) r.o ⟨by rw [hg]; exact l1, by rw [hg]; omega⟩ (fun k hk => ?_) y
  · rw [hg, l2] at hK
    unfold sp_lineCharacter
    cases hx : ixo (bl B).2 y with
    | none =>
      rw [hx] at hK
      exact m_of_sp r (sp := (1, 32)) hK
    | some k =>
      rw [hx] at hK
      exact m_of_sp r (sp := (0, (bl B).1 k)) hK
  · rw [hg] at hk
    rw [l2]
    obtain ⟨k2, h1, h2⟩ := lo k hk
    rw [h2]
    exact nch_128 k2 h1
end LAW
