/-! THE LAW: what the reference's methods leave, as the class's do -/
theorem E219.rfl (g : Nat → Int32) : E219 g g := fun _ _ => _root_.rfl
theorem BE.rfl (B : BS) : BE B B := by
  refine ⟨fun _ _ => _root_.rfl, _root_.rfl, fun _ _ _ _ => _root_.rfl, ?_, _root_.rfl, fun _ _ => _root_.rfl, LEq.rfl _, _root_.rfl, _root_.rfl⟩
  cases h : bs B with
  | none => exact Or.inl ⟨_root_.rfl, _root_.rfl⟩
  | some s => exact Or.inr ⟨s, s, _root_.rfl, _root_.rfl, fun _ _ => _root_.rfl⟩
/-- answers v, if the code that it leaves, c, is naught; and holds what shows B' -/
def QM (M : Mm) (h : Nat) (c v : Int32) (B' : BS) : QQ := qi (fun y M' => MR M h M' ∧ mi M' h 8 = c ∧ (c = 0 → y = v) ∧ ∃ B2, BE B' B2 ∧ RB M' h B2) nox
section LAW
variable {G : GG} {M M1 M' : Mm} {h x F : Nat} {B B' : BS} {I : MI} {as : List Value} {y c v : Int32}
theorem KE.qm (hK : KE G I as M y M1) (hm : MR M h M1) (h8 : mi M1 h 8 = c) (hv : c = 0 → y = v) (hB : ∃ B2, BE B' B2 ∧ RB M1 h B2) : KK G I as M (QM M h c v B') := by
  refine KK.mono hK (fun w N hw => ?_) (fun _ _ z => z)
  obtain ⟨z, e1, e2, e3⟩ := hw
  subst e3
  exact ⟨z, e1, hm, h8, fun h0 => e2.trans (hv h0), hB⟩
theorem RB.fy (r : RB M h B) (f : FY M M' x) (hh : x + 350 ≤ h) : RB M' h B := by
  obtain ⟨f1, f2, f3⟩ := f
  have e : ∀ a, h ≤ a → mi M' a = mi M a := fun a ha => (f3 a (by omega)).1
  refine r.to ?_ (fun a ha => e a (by omega)) (fun j _ _ => by rw [e h (Nat.le_refl h)])
  have o := r.o
  unfold MO at *
  rw [f1, f2, (f3 h (by omega)).2]
  exact o
theorem CB.mr (c : CB F M x B) (r : MR M h M') (hh : x + 350 ≤ h) : CB F M' x B := c.ag ⟨r.1, r.2.1, fun a h1 h2 => ⟨r.2.2.2.2.2.2 a (by omega), by rw [r.2.2.1]⟩⟩
theorem m_of_co (r : RB M h B) (i : BI F B) {co : CO} (hK : KE G I as M co.2.2.1 (mOut (mFail M h 0) h co)) : KK G I as M (QM M h co.1 co.2.2.1 (bOut B co)) := by
  obtain ⟨o1, o2, o3⟩ := (r.fail 0).out i co
  exact hK.qm ((mr_fail M h 0).tr o2) o3 (fun _ => rfl) ⟨_, BE.rfl _, o1⟩
theorem m_decide (r : RB M h B) (i : BI F B) : KK G IX9_decide [.ref h] M (QM M h (sp_decide (bg B)).1 (sp_decide (bg B)).2.2.1 (bOut B (sp_decide (bg B)))) := by
  have hK := k_X9_decide (G := G) r.o (r.gi i) (r.nk i)
  rw [r.g] at hK
  obtain ⟨o1, o2, o3⟩ := r.out i (sp_decide (bg B))
  exact hK.qm o2 o3 (fun _ => rfl) ⟨_, BE.rfl _, o1⟩
theorem m_of_sp (r : RB M h B) {sp : SPv} (hK : KE G I as M sp.2 (mFail M h sp.1)) : KK G I as M (QM M h sp.1 sp.2 B) := hK.qm (mr_fail _ _ _) (mfail_8 _ _ _) (fun _ => rfl) ⟨_, BE.rfl _, r.fail _⟩
theorem mr_s8 (M : Mm) (h : Nat) (p : Int32) : MR M h (sI M h 8 p) := (MR.rfl M h).sI 8 p (by omega)
theorem s8_8 (M : Mm) (h : Nat) (p : Int32) : mi (sI M h 8 p) h 8 = p := by rw [mi_sI_s, va_up_self]
theorem m_of_s8 (r : RB M h B) {sp : SPv} (hK : KE G I as M sp.2 (sI M h 8 sp.1)) : KK G I as M (QM M h sp.1 sp.2 B) := hK.qm (mr_s8 _ _ _) (s8_8 _ _ _) (fun _ => rfl) ⟨_, BE.rfl _, r.s8 _⟩
theorem m_depth (r : RB M h B) (i : BI F B) (y : Int32) : KK G IX9_depth [.ref h, .int y] M (QM M h (sp_depth (bg B) y).1 (sp_depth (bg B) y).2 B) := by
  have hK := k_X9_depth (G := G) r.o (r.gi i) y
  rw [r.g] at hK
  refine KK.mono hK (fun w N hw => ?_) (fun _ _ z => z)
  obtain ⟨z, e1, e2, f, e3⟩ := hw
  subst e3
  refine ⟨z, e1, (mr_fail M h _).sA f (by omega), ?_, fun _ => e2, B, BE.rfl B, (r.fail _).to (r.o.to rfl rfl rfl) (fun a ha => mi_sA_n _ _ (by omega)) (fun j _ _ => by rw [mi_sA_n _ _ (by omega)])⟩
  rw [mi_sA_n _ _ (by omega)]
  exact mfail_8 _ _ _
/-- another state, and no more changes kept than before -/
theorem RB.gc (r : RB M h B) {g' : Nat → Int32} {c' : Nat} (hc : c' ≤ bc B) (o : MO M' h) (e1 : mi M' (h + 1) = g') (e5 : mi M' h 5 = nI c') (e : ∀ a, (a = h + 2 ∨ a = h + 3 ∨ a = h + 5 ∨ a = h + 6) → mi M' a = mi M a) (f : ∀ j, j ≠ 5 → j ≠ 7 → j ≠ 8 → mi M' h j = mi M h j) : RB M' h (g', (c', bH B), bs B, btx B, bl B, bf B, bd B) := by
  obtain ⟨-, h1, ⟨h2, h3⟩, ⟨h4, h5⟩, ⟨t1, t2, t3⟩, ⟨l1, l2⟩, h6, ⟨d1, d2, d3, d4⟩, h7⟩ := r
  have q : ∀ j v, j ≠ 5 → j ≠ 7 → j ≠ 8 → mi M h j = v → mi M' h j = v := fun j v z a b c => (f j z a b).trans c
  refine ⟨o, e1, ⟨e5, fun j hj k hk => ?_⟩, ⟨fun z => q 4 _ (by decide) (by decide) (by decide) (h4 z), fun s hs => ⟨?_, fun k hk => ?_⟩⟩, ⟨q 14 _ (by decide) (by decide) (by decide) t1, t2, (e _ (by omega)).trans t3⟩, ⟨q 17 _ (by decide) (by decide) (by decide) l1, (e _ (by omega)).trans l2⟩, q 15 _ (by decide) (by decide) (by decide) h6, ⟨q 9 _ (by decide) (by decide) (by decide) d1, q 10 _ (by decide) (by decide) (by decide) d2, q 11 _ (by decide) (by decide) (by decide) d3, q 12 _ (by decide) (by decide) (by decide) d4⟩, q 6 _ (by decide) (by decide) (by decide) h7⟩
  · rw [e (h + 2) (by omega)]
    exact h3 j (Nat.lt_of_lt_of_le hj hc) k hk
  · rw [f 4 (by decide) (by decide) (by decide)]
    exact (h5 s hs).1
  · rw [e (h + 3) (by omega)]
    exact (h5 s hs).2 k hk
theorem m_undo (r : RB M h B) (i : BI F B) : KK G IX9_undo [.ref h] M (QM M h (if decide (bc B ≠ 0) = true then 0 else 1) (nI (bc B - 1)) (if decide (bc B ≠ 0) = true then bUndo B else B)) := by
  by_cases h0 : bc B = 0
  · rw [if_neg (by rw [h0]; decide), if_neg (by rw [h0]; decide)]
    refine (k_X9_undoF r.o (by rw [r.2.2.1.1, h0]; rfl)).qm (mr_fail _ _ _) (mfail_8 _ _ _) (fun z => absurd z (by decide)) ⟨_, BE.rfl _, r.fail _⟩
  · rw [if_pos (decide_eq_true h0), if_pos (decide_eq_true h0)]
    have h8 := i.2.1
    have hn : mi M h 5 = nI (bc B - 1 + 1) := by rw [r.2.2.1.1, show bc B - 1 + 1 = bc B by omega]
    have e5 : mi (sA (sI (mFail M h 0) h 5 (nI (bc B - 1))) (h + 1) (va_cpy (mi M (h + 2)) (mi M (h + 1)) (219 * (bc B - 1)) 0 219)) h = va_up (mi (mFail M h 0) h) 5 (nI (bc B - 1)) := by rw [mi_sA_n _ _ (by omega), mi_sI_s]
    have en : ∀ a, a ≠ h → a ≠ h + 1 → mi (sA (sI (mFail M h 0) h 5 (nI (bc B - 1))) (h + 1) (va_cpy (mi M (h + 2)) (mi M (h + 1)) (219 * (bc B - 1)) 0 219)) a = mi M a := fun a ha hb => by rw [mi_sA_n _ _ hb, mi_sI_n _ _ _ ha, mfail_n _ _ _ ha]
    refine (k_X9_undoO r.o hn (by omega)).qm (((mr_fail M h 0).sI 5 _ (by omega)).sA _ (by omega)) ?_ (fun _ => rfl) ⟨_, ?_, r.gc (g' := va_cpy (mi M (h + 2)) (mi M (h + 1)) (219 * (bc B - 1)) 0 219) (c' := bc B - 1) (by omega) (r.o.to rfl rfl rfl) (mi_sA_s _ _ _) (by rw [e5, va_up_self]) (fun a ha => en a (by omega) (by omega)) (fun j a b c => by rw [e5, va_up_ne _ _ a, mfail_j _ _ _ b c])⟩
    · rw [e5, va_up_ne _ _ (by decide), mfail_8]
    · have hB := BE.rfl (bUndo B)
      refine ⟨fun k hk => ?_, rfl, hB.2.2.1, hB.2.2.2.1, hB.2.2.2.2.1, hB.2.2.2.2.2.1, hB.2.2.2.2.2.2.1, hB.2.2.2.2.2.2.2.1, hB.2.2.2.2.2.2.2.2⟩
      show va_cpy (mi M (h + 2)) (mi M (h + 1)) (219 * (bc B - 1)) 0 219 k = bH B (bc B - 1) k
      unfold va_cpy
      rw [if_pos (by omega), show 219 * (bc B - 1) + (k - 0) = 219 * (bc B - 1) + k by omega]
      exact r.2.2.1.2 (bc B - 1) (by omega) k hk
theorem m_saveSnapshot (r : RB M h B) : KK G IX9_saveSnapshot [.ref h] M (QM M h 0 (bg B 3) (bSave B)) := by
  have e1 : mi (sA (sI (sI M h 8 0) h 4 1) (h + 3) (va_cpy (mi M (h + 1)) (mi M (h + 3)) 0 0 219)) h = va_up (va_up (mi M h) 8 0) 4 1 := by rw [mi_sA_n _ _ (by omega), mi_sI_s, mi_sI_s]
  have en : ∀ a, a ≠ h → a ≠ h + 3 → mi (sA (sI (sI M h 8 0) h 4 1) (h + 3) (va_cpy (mi M (h + 1)) (mi M (h + 3)) 0 0 219)) a = mi M a := fun a ha hb => by rw [mi_sA_n _ _ hb, mi_sI_n _ _ _ ha, mi_sI_n _ _ _ ha]
  refine (k_X9_saveSnapshot r.o).qm ((((MR.rfl M h).sI 8 0 (by omega)).sI 4 1 (by omega)).sA _ (by omega)) ?_ (fun _ => by rw [r.g]) ⟨_, BE.rfl _, ?_⟩
  · rw [e1, va_up_ne _ _ (by decide), va_up_self]
  · have f : ∀ j, j ≠ 4 → j ≠ 8 → mi (sA (sI (sI M h 8 0) h 4 1) (h + 3) (va_cpy (mi M (h + 1)) (mi M (h + 3)) 0 0 219)) h j = mi M h j := fun j a b => by rw [e1, va_up_ne _ _ a, va_up_ne _ _ b]
    have rg := r.g
    obtain ⟨o, h1, ⟨h2, h3⟩, -, ⟨t1, t2, t3⟩, ⟨l1, l2⟩, h6, ⟨d1, d2, d3, d4⟩, h7⟩ := r
    have q : ∀ j v, j ≠ 4 → j ≠ 8 → mi M h j = v → mi (sA (sI (sI M h 8 0) h 4 1) (h + 3) (va_cpy (mi M (h + 1)) (mi M (h + 3)) 0 0 219)) h j = v := fun j v a b c => (f j a b).trans c
    refine ⟨o.to rfl rfl rfl, (en _ (by omega) (by omega)).trans h1, ⟨q 5 _ (by decide) (by decide) h2, fun j hj k hk => ?_⟩, ⟨fun z => (by cases z), fun s hs => ⟨?_, fun k hk => ?_⟩⟩, ⟨q 14 _ (by decide) (by decide) t1, t2, (en _ (by omega) (by omega)).trans t3⟩, ⟨q 17 _ (by decide) (by decide) l1, (en _ (by omega) (by omega)).trans l2⟩, q 15 _ (by decide) (by decide) h6, ⟨q 9 _ (by decide) (by decide) d1, q 10 _ (by decide) (by decide) d2, q 11 _ (by decide) (by decide) d3, q 12 _ (by decide) (by decide) d4⟩, q 6 _ (by decide) (by decide) h7⟩
    · rw [en _ (by omega) (by omega)]
      exact h3 j hj k hk
    · rw [e1, va_up_self]
      decide
    · cases hs
      rw [mi_sA_s, va_cpy_lt hk, rg]
theorem m_restoreSnapshotN (r : RB M h B) (hs : bs B = none) (v : Int32) : KK G IX9_restoreSnapshot [.ref h] M (QM M h 1 v B) := (k_X9_restoreSnapshotF r.o (r.2.2.2.1.1 hs)).qm (mr_fail _ _ _) (mfail_8 _ _ _) (fun z => absurd z (by decide)) ⟨_, BE.rfl _, r.fail _⟩
theorem m_restoreSnapshot (r : RB M h B) {s : Nat → Int32} (hs : bs B = some s) : KK G IX9_restoreSnapshot [.ref h] M (QM M h 0 (s 3) (bRest B s)) := by
  have e1 : mi (sI (sA (mFail M h 0) (h + 1) (va_cpy (mi M (h + 3)) (mi M (h + 1)) 0 0 219)) h 5 0) h = va_up (mi (mFail M h 0) h) 5 0 := by rw [mi_sI_s, mi_sA_n _ _ (by omega)]
  have en : ∀ a, a ≠ h → a ≠ h + 1 → mi (sI (sA (mFail M h 0) (h + 1) (va_cpy (mi M (h + 3)) (mi M (h + 1)) 0 0 219)) h 5 0) a = mi M a := fun a ha hb => by rw [mi_sI_n _ _ _ ha, mi_sA_n _ _ hb, mfail_n _ _ _ ha]
  obtain ⟨s4, s3⟩ := r.2.2.2.1.2 s hs
  refine (k_X9_restoreSnapshotO r.o s4).qm (((mr_fail M h 0).sA _ (by omega)).sI 5 0 (by omega)) ?_ (fun _ => s3 3 (by decide)) ⟨_, ?_, r.gc (g' := va_cpy (mi M (h + 3)) (mi M (h + 1)) 0 0 219) (c' := 0) (Nat.zero_le _) (r.o.to rfl rfl rfl) (by rw [mi_sI_n _ _ _ (by omega), mi_sA_s]) (by rw [e1, va_up_self]; rfl) (fun a ha => en a (by omega) (by omega)) (fun j a b c => by rw [e1, va_up_ne _ _ a, mfail_j _ _ _ b c])⟩
  · rw [e1, va_up_ne _ _ (by decide), mfail_8]
  · have hB := BE.rfl (bRest B s)
    refine ⟨fun k hk => ?_, rfl, hB.2.2.1, hB.2.2.2.1, hB.2.2.2.2.1, hB.2.2.2.2.2.1, hB.2.2.2.2.2.2.1, hB.2.2.2.2.2.2.2.1, hB.2.2.2.2.2.2.2.2⟩
    show va_cpy (mi M (h + 3)) (mi M (h + 1)) 0 0 219 k = s k
    rw [va_cpy_lt hk]
    exact s3 k hk
end LAW
