/-! THE LAW: what its helpers leave -/
/-- only the board's ints and references have changed, and longs and doubles -/
def FY (M M' : Mm) (x : Nat) : Prop := kd M' = kd M ∧ ln M' = ln M ∧ ∀ c, (c < x ∨ x + 349 < c) → mi M' c = mi M c ∧ mr M' c = mr M c
theorem FX.fy {M M' : Mm} {x : Nat} (r : FX M x (x + 349) M') : FY M M' x := ⟨r.1, r.2.1, r.2.2.2.2⟩
theorem FY.rfl (M : Mm) (x : Nat) : FY M M x := ⟨_root_.rfl, _root_.rfl, fun _ _ => ⟨_root_.rfl, _root_.rfl⟩⟩
theorem FY.tr {M M' M2 : Mm} {x : Nat} (r : FY M M' x) (q : FY M' M2 x) : FY M M2 x := ⟨q.1.trans r.1, q.2.1.trans r.2.1, fun c h => ⟨(q.2.2 c h).1.trans (r.2.2 c h).1, (q.2.2 c h).2.trans (r.2.2 c h).2⟩⟩
theorem FY.j {M M' : Mm} {x : Nat} (r : FY M M' x) (a j : Nat) (v : Int64) : FY M (sJ M' a j v) x := r
theorem FY.d {M M' : Mm} {x : Nat} (r : FY M M' x) (a j : Nat) (v : UInt64) : FY M (sD M' a j v) x := r
theorem CB.sJ {F : Nat} {M : Mm} {x : Nat} {B : BS} (c : CB F M x B) (a j : Nat) (v : Int64) : CB F (sJ M a j v) x B := c.ag ⟨_root_.rfl, _root_.rfl, fun _ _ _ => ⟨_root_.rfl, _root_.rfl⟩⟩
theorem CB.sD {F : Nat} {M : Mm} {x : Nat} {B : BS} (c : CB F M x B) (a j : Nat) (v : UInt64) : CB F (sD M a j v) x B := c.ag ⟨_root_.rfl, _root_.rfl, fun _ _ _ => ⟨_root_.rfl, _root_.rfl⟩⟩
theorem mj_s (M : Mm) (a j : Nat) (v : Int64) : mj (sJ M a j v) a j = v := by
  show u2 (mj M) a j v a j = v
  rw [u2_s, va_up_self]
theorem md_s (M : Mm) (a j : Nat) (v : UInt64) : md (sD M a j v) a j = v := by
  show u2 (md M) a j v a j = v
  rw [u2_s, va_up_self]
/-- answers c; where c is naught the row holds v; the board is B' -/
def QL (F : Nat) (M : Mm) (x lo : Nat) (c v : Int32) (B' : BS) : QQ := qi (fun y M' => y = c ∧ FY M M' x ∧ (c = 0 → mj M' lo 0 = v.toInt64) ∧ CB F M' x B') nox
theorem bOut_0 {B : BS} {c : CO} (h : c.1 = 0) : bOut B c = bDo B c.2.2.2 := if_pos h
theorem bOut_t {B : BS} {c : CO} (h : c.1 ≠ 0) (d : c.2.1.1 = 0) : bOut B c = B := by
  unfold bOut
  rw [if_neg h, if_pos d]
theorem bOut_d {B : BS} {c : CO} (h : c.1 ≠ 0) (d : c.2.1.1 ≠ 0) : bOut B c = bDeny B (c.2.1.1, c.2.1.2, 0, 0) := by
  unfold bOut
  rw [if_neg h, if_neg d]
