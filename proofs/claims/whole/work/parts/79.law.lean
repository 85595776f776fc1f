/-! THE REFERENCE HOLDS A BOARD'S STATE -/
/-- the reference at h holds B -/
def RB (M : Mm) (h : Nat) (B : BS) : Prop := MO M h ∧ mi M (h + 1) = bg B ∧ (mi M h 5 = nI (bc B) ∧ ∀ j, j < bc B → ∀ k, k < 219 → mi M (h + 2) (219 * j + k) = bH B j k) ∧ ((bs B = none → mi M h 4 = 0) ∧ ∀ s, bs B = some s → mi M h 4 ≠ 0 ∧ ∀ k, k < 219 → mi M (h + 3) k = s k) ∧ mIn M h (btx B).1 (btx B).2 ∧ (mi M h 17 = nI (bl B).2 ∧ mi M (h + 6) = (bl B).1) ∧ mi M h 15 = bf B ∧ (mi M h 9 = (bd B).1 ∧ mi M h 10 = (bd B).2.1 ∧ mi M h 11 = (bd B).2.2.1 ∧ mi M h 12 = (bd B).2.2.2) ∧ mi M h 6 = 0
section RB
variable {M M' : Mm} {h : Nat} {B : BS} {F : Nat}
theorem RB.o (r : RB M h B) : MO M h := r.1
theorem RB.g (r : RB M h B) : mi M (h + 1) = bg B := r.2.1
theorem RB.f (r : RB M h B) : mi M h 15 = bf B := r.2.2.2.2.2.2.1
theorem RB.d (r : RB M h B) : mi M h 9 = (bd B).1 ∧ mi M h 10 = (bd B).2.1 ∧ mi M h 11 = (bd B).2.2.1 ∧ mi M h 12 = (bd B).2.2.2 := r.2.2.2.2.2.2.2.1
theorem RB.w (r : RB M h B) : mi M h 6 = 0 := r.2.2.2.2.2.2.2.2
theorem RB.gi (r : RB M h B) (i : BI F B) : GI F (mi M (h + 1)) := by rw [r.g]; exact i.1.1
theorem RB.nk (r : RB M h B) (i : BI F B) : nb (mi M h) 5 9 := by
  have h8 := i.2.1
  have hg : gn (mi M h) 5 = bc B := by show (mi M h 5).toNatClampNeg = bc B; rw [r.2.2.1.1]; exact nI_clamp (by omega)
  exact ⟨by rw [hg]; exact r.2.2.1.1, by omega⟩
theorem RB.to (r : RB M h B) (o : MO M' h) (e : ∀ a, (a = h + 1 ∨ a = h + 2 ∨ a = h + 3 ∨ a = h + 5 ∨ a = h + 6) → mi M' a = mi M a) (f : ∀ j, j ≠ 7 → j ≠ 8 → mi M' h j = mi M h j) : RB M' h B := by
  obtain ⟨-, h1, ⟨h2, h3⟩, ⟨h4, h5⟩, ⟨t1, t2, t3⟩, ⟨l1, l2⟩, h6, ⟨d1, d2, d3, d4⟩, h7⟩ := r
  have q : ∀ j v, j ≠ 7 → j ≠ 8 → mi M h j = v → mi M' h j = v := fun j v a b c => (f j a b).trans c
  refine ⟨o, (e _ (by omega)).trans h1, ⟨q 5 _ (by decide) (by decide) h2, fun j hj k hk => ?_⟩, ⟨fun z => q 4 _ (by decide) (by decide) (h4 z), fun s hs => ⟨?_, fun k hk => ?_⟩⟩, ⟨q 14 _ (by decide) (by decide) t1, t2, (e _ (by omega)).trans t3⟩, ⟨q 17 _ (by decide) (by decide) l1, (e _ (by omega)).trans l2⟩, q 15 _ (by decide) (by decide) h6, ⟨q 9 _ (by decide) (by decide) d1, q 10 _ (by decide) (by decide) d2, q 11 _ (by decide) (by decide) d3, q 12 _ (by decide) (by decide) d4⟩, q 6 _ (by decide) (by decide) h7⟩
  · rw [e (h + 2) (by omega)]
    exact h3 j hj k hk
  · rw [f 4 (by decide) (by decide)]
    exact (h5 s hs).1
  · rw [e (h + 3) (by omega)]
    exact (h5 s hs).2 k hk
theorem mfail_8 (M : Mm) (h : Nat) (p : Int32) : mi (mFail M h p) h 8 = p := by
  unfold mFail
  rw [mi_sI_s, va_up_ne _ _ (by decide), mi_sI_s, va_up_self]
theorem mfail_j (M : Mm) (h : Nat) (p : Int32) {j : Nat} (h7 : j ≠ 7) (h8 : j ≠ 8) : mi (mFail M h p) h j = mi M h j := by
  unfold mFail
  rw [mi_sI_s, va_up_ne _ _ h7, mi_sI_s, va_up_ne _ _ h8]
theorem mfail_n (M : Mm) (h : Nat) (p : Int32) {a : Nat} (ha : a ≠ h) : mi (mFail M h p) a = mi M a := by
  unfold mFail
  rw [mi_sI_n _ _ _ ha, mi_sI_n _ _ _ ha]
theorem RB.fail (r : RB M h B) (p : Int32) : RB (mFail M h p) h B := r.to (r.o.to rfl rfl rfl) (fun a ha => mfail_n _ _ _ (by omega)) (fun j h7 h8 => mfail_j _ _ _ h7 h8)
theorem RB.s8 (r : RB M h B) (p : Int32) : RB (sI M h 8 p) h B := r.to (r.o.to rfl rfl rfl) (fun a ha => mi_sI_n _ _ _ (by omega)) (fun j h7 h8 => by rw [mi_sI_s, va_up_ne _ _ h8])
theorem mr_fail (M : Mm) (h : Nat) (p : Int32) : MR M h (mFail M h p) := ⟨rfl, rfl, rfl, rfl, rfl, rfl, fun b hb => mfail_n _ _ _ (by omega)⟩
/-- what the reference holds behind an attempt -/
def bOut (B : BS) (c : CO) : BS := if c.1 = 0 then bDo B c.2.2.2 else if c.2.1.1 = 0 then B else bDeny B (c.2.1.1, c.2.1.2, 0, 0)
theorem mrow_at {kept row : Nat → Int32} {n j k : Nat} (hn : n ≤ 8) (hk : k < 219) (hj : j < min n 7 + 1) : mKeepRow kept row n (219 * j + k) = if j = min n 7 then row k else if n = 8 then kept (219 * (j + 1) + k) else kept (219 * j + k) := by
  unfold mKeepRow va_cpy
  by_cases e : j = min n 7
  · rw [if_pos e, if_pos (by subst e; omega)]
    congr 1
    subst e
    omega
  · rw [if_neg e, if_neg (by omega)]
    by_cases e8 : n = 8
    · rw [if_pos e8, if_pos e8]
      unfold mShift
      rw [if_pos (by omega)]
      congr 1
      omega
    · rw [if_neg e8, if_neg e8]
/-- a change that was made, and kept -/
theorem RB.do (r : RB M h B) (i : BI F B) {M' : Mm} {g' row : Nat → Int32} (o : MO M' h) (e1 : mi M' (h + 1) = g') (e2 : mi M' (h + 2) = mKeepRow (mi M (h + 2)) row (bc B)) (er : ∀ k, k < 219 → row k = bg B k) (e : ∀ a, (a = h + 3 ∨ a = h + 5 ∨ a = h + 6) → mi M' a = mi M a) (e5 : mi M' h 5 = nI (min (bc B) 7 + 1)) (f : ∀ j, j ≠ 5 → j ≠ 7 → j ≠ 8 → mi M' h j = mi M h j) : RB M' h (bDo B g') := by
  obtain ⟨-, h1, ⟨h2, h3⟩, ⟨h4, h5⟩, ⟨t1, t2, t3⟩, ⟨l1, l2⟩, h6, ⟨d1, d2, d3, d4⟩, h7⟩ := r
  have h8 := i.2.1
  have q : ∀ j v, j ≠ 5 → j ≠ 7 → j ≠ 8 → mi M h j = v → mi M' h j = v := fun j v z a b c => (f j z a b).trans c
  refine ⟨o, e1, ⟨?_, fun j hj k hk => ?_⟩, ⟨fun z => q 4 _ (by decide) (by decide) (by decide) (h4 z), fun s hs => ⟨?_, fun k hk => ?_⟩⟩, ⟨q 14 _ (by decide) (by decide) (by decide) t1, t2, (e _ (by omega)).trans t3⟩, ⟨q 17 _ (by decide) (by decide) (by decide) l1, (e _ (by omega)).trans l2⟩, q 15 _ (by decide) (by decide) (by decide) h6, ⟨q 9 _ (by decide) (by decide) (by decide) d1, q 10 _ (by decide) (by decide) (by decide) d2, q 11 _ (by decide) (by decide) (by decide) d3, q 12 _ (by decide) (by decide) (by decide) d4⟩, q 6 _ (by decide) (by decide) (by decide) h7⟩
  · rw [e5]
    show nI (min (bc B) 7 + 1) = nI (bKeep (bc B) (bH B) (bg B)).1
    unfold bKeep
    by_cases c8 : bc B < 8
    · rw [if_pos c8]
      show nI (min (bc B) 7 + 1) = nI (bc B + 1)
      rw [Nat.min_eq_left (by omega)]
    · rw [if_neg c8]
      show nI (min (bc B) 7 + 1) = nI 8
      rw [Nat.min_eq_right (by omega)]
  · have hj : j < (bKeep (bc B) (bH B) (bg B)).1 := hj
    show mi M' (h + 2) (219 * j + k) = (bKeep (bc B) (bH B) (bg B)).2 j k
    rw [e2]
    unfold bKeep at hj ⊢
    by_cases c8 : bc B < 8
    · rw [if_pos c8] at hj ⊢
      have hj : j < bc B + 1 := hj
      rw [mrow_at i.2.1 hk (by omega)]
      show _ = (if j = bc B then bg B else bH B j) k
      by_cases ej : j = bc B
      · rw [if_pos (by omega), if_pos ej]
        exact er k hk
      · rw [if_neg (by omega), if_neg (by omega), if_neg ej]
        exact h3 j (by omega) k hk
    · rw [if_neg c8] at hj ⊢
      have hj : j < 8 := hj
      rw [mrow_at i.2.1 hk (by omega)]
      show _ = (if j < 7 then bH B (j + 1) else bg B) k
      by_cases ej : j < 7
      · rw [if_neg (by omega), if_pos (by omega), if_pos ej]
        exact h3 (j + 1) (by omega) k hk
      · rw [if_pos (by omega), if_neg ej]
        exact er k hk
  · rw [f 4 (by decide) (by decide) (by decide)]
    exact (h5 s hs).1
  · rw [e (h + 3) (by omega)]
    exact (h5 s hs).2 k hk
theorem mdeny_8 (M : Mm) (h : Nat) (p a b : Int32) : mi (mDeny M h p a b) h 8 = p := by
  unfold mDeny
  simp only [mi_sI_s]
  rfl
theorem mdeny_n (M : Mm) (h : Nat) (p a b : Int32) {c : Nat} (hc : c ≠ h) : mi (mDeny M h p a b) c = mi M c := by
  unfold mDeny
  simp only [mi_sI_n _ _ _ hc]
theorem mdeny_j (M : Mm) (h : Nat) (p a b : Int32) {j : Nat} (h7 : j ≠ 7) (h8 : j ≠ 8) (h9 : ¬ (9 ≤ j ∧ j ≤ 12)) : mi (mDeny M h p a b) h j = mi M h j := by
  unfold mDeny
  simp only [mi_sI_s]
  rw [va_up_ne _ _ (by omega), va_up_ne _ _ (by omega), va_up_ne _ _ (by omega), va_up_ne _ _ (by omega), va_up_ne _ _ h7, va_up_ne _ _ h8]
theorem mr_deny (M : Mm) (h : Nat) (p a b : Int32) : MR M h (mDeny M h p a b) := ⟨rfl, rfl, rfl, rfl, rfl, rfl, fun c hc => mdeny_n _ _ _ _ _ (by omega)⟩
/-- a denial -/
theorem RB.dn (r : RB M h B) {M' : Mm} {d : Int32 × Int32 × Int32 × Int32} (o : MO M' h) (e : ∀ a, (a = h + 1 ∨ a = h + 2 ∨ a = h + 3 ∨ a = h + 5 ∨ a = h + 6) → mi M' a = mi M a) (hd : mi M' h 9 = d.1 ∧ mi M' h 10 = d.2.1 ∧ mi M' h 11 = d.2.2.1 ∧ mi M' h 12 = d.2.2.2) (f : ∀ j, j ≠ 7 → j ≠ 8 → ¬ (9 ≤ j ∧ j ≤ 12) → mi M' h j = mi M h j) : RB M' h (bDeny B d) := by
  obtain ⟨-, h1, ⟨h2, h3⟩, ⟨h4, h5⟩, ⟨t1, t2, t3⟩, ⟨l1, l2⟩, h6, -, h7⟩ := r
  have q : ∀ j v, j ≠ 7 → j ≠ 8 → ¬ (9 ≤ j ∧ j ≤ 12) → mi M h j = v → mi M' h j = v := fun j v z a b c => (f j z a b).trans c
  refine ⟨o, (e _ (by omega)).trans h1, ⟨q 5 _ (by decide) (by decide) (by decide) h2, fun j hj k hk => ?_⟩, ⟨fun z => q 4 _ (by decide) (by decide) (by decide) (h4 z), fun s hs => ⟨?_, fun k hk => ?_⟩⟩, ⟨q 14 _ (by decide) (by decide) (by decide) t1, t2, (e _ (by omega)).trans t3⟩, ⟨q 17 _ (by decide) (by decide) (by decide) l1, (e _ (by omega)).trans l2⟩, q 15 _ (by decide) (by decide) (by decide) h6, hd, q 6 _ (by decide) (by decide) (by decide) h7⟩
  · rw [e (h + 2) (by omega)]
    exact h3 j hj k hk
  · rw [f 4 (by decide) (by decide) (by decide)]
    exact (h5 s hs).1
  · rw [e (h + 3) (by omega)]
    exact (h5 s hs).2 k hk
theorem RB.out (r : RB M h B) (i : BI F B) (c : CO) : RB (mOut M h c) h (bOut B c) ∧ MR M h (mOut M h c) ∧ mi (mOut M h c) h 8 = c.1 := by
  have hg : gn (mi M h) 5 = bc B := by
    have h8 := i.2.1
    show (mi M h 5).toNatClampNeg = bc B
    rw [r.2.2.1.1]
    exact nI_clamp (by omega)
  unfold mOut bOut
  by_cases e0 : c.1 = 0
  · rw [if_pos e0, if_pos e0]
    have ek : mKeep M h (h + 1) = sA (sA M (h + 2) (mKeepRow (mi M (h + 2)) (mi M (h + 1)) (bc B))) h (va_up (va_up (mi M h) 8 0) 5 (nI (min (bc B) 7 + 1))) := by
      unfold mKeep
      rw [if_pos r.w, hg]
    rw [ek]
    refine ⟨r.do i (row := mi M (h + 1)) (r.o.to rfl rfl rfl) (mi_sA_s _ _ _) ?_ (fun k hk => by rw [r.g]) (fun a ha => ?_) ?_ (fun j h5 h7 h8 => ?_), ⟨rfl, rfl, rfl, rfl, rfl, rfl, fun b hb => ?_⟩, ?_⟩
    · rw [mi_sA_n _ _ (by omega), mi_sA_n _ _ (by omega), mi_sA_s]
    · rw [mi_sA_n _ _ (by omega), mi_sA_n _ _ (by omega), mi_sA_n _ _ (by omega)]
    · rw [mi_sA_n _ _ (by omega), mi_sA_s, va_up_self]
    · rw [mi_sA_n _ _ (by omega), mi_sA_s, va_up_ne _ _ h5, va_up_ne _ _ h8]
    · rw [mi_sA_n _ _ (by omega), mi_sA_n _ _ (by omega), mi_sA_n _ _ (by omega)]
    · rw [mi_sA_n _ _ (by omega), mi_sA_s, va_up_ne _ _ (by decide), va_up_self, e0]
  · rw [if_neg e0, if_neg e0]
    by_cases e1 : c.2.1.1 = 0
    · rw [if_pos e1, if_pos e1]
      exact ⟨r.fail _, mr_fail _ _ _, mfail_8 _ _ _⟩
    · rw [if_neg e1, if_neg e1]
      refine ⟨r.dn (r.o.to rfl rfl rfl) (fun a ha => mdeny_n _ _ _ _ _ (by omega)) ⟨?_, ?_, ?_, ?_⟩ (fun j h7 h8 h9 => mdeny_j _ _ _ _ _ h7 h8 h9), mr_deny _ _ _ _ _, mdeny_8 _ _ _ _ _⟩
      all_goals
        simp only [mi_sI_s]
        rfl
theorem MR.tr {M M' M2 : Mm} {h : Nat} (r : MR M h M') (q : MR M' h M2) : MR M h M2 := ⟨q.1.trans r.1, q.2.1.trans r.2.1, q.2.2.1.trans r.2.2.1, q.2.2.2.1.trans r.2.2.2.1, q.2.2.2.2.1.trans r.2.2.2.2.1, q.2.2.2.2.2.1.trans r.2.2.2.2.2.1, fun b hb => (q.2.2.2.2.2.2 b hb).trans (r.2.2.2.2.2.2 b hb)⟩
end RB
