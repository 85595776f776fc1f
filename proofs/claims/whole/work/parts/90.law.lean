/-! THE LAW: what holds between two steps of the script -/
def LV (F : Nat) (M : Mm) (x : Nat) (B : BS) : Prop := CB F M x B ∧ RB M (x + 350) B ∧ FO B ∧ kd M (x + 359) = 22 ∧ ln M (x + 359) = 1 ∧ kd M (x + 360) = 23 ∧ ln M (x + 360) = 1
theorem lg_cmp_self (a : Int64) : lg_cmp a a = 0 := by
  unfold lg_cmp
  simp
theorem sc_in {i k N : Nat} {c : Int32} (h : i + k < N) (hN : N ≤ 2560) (e : c = nI k) : vp_in (nI i + c) N := by
  rw [e, nI_add]
  exact vp_in_nI h (by omega)
/-- behind both calls of a step -/
theorem LV.step {F F' : Nat} {M M1 M2 : Mm} {x : Nat} {B B1 B2 : BS} (lv : LV F M x B) (fy : FY M M1 x) (cb : CB F' M1 x B1) (mr : MR M1 (x + 350) M2) (be : BE B1 B2) (rb : RB M2 (x + 350) B2) (fo : FO B1) : LV F' M2 x B2 := by
  obtain ⟨-, -, -, k1, l1, k2, l2⟩ := lv
  refine ⟨(cb.mr mr (Nat.le_refl _)).eqv be, rb, ?_, ?_, ?_, ?_, ?_⟩
  · unfold FO at *
    rw [be.2.2.2.2.2.2.2.1]
    exact fo
  · rw [mr.1, fy.1]; exact k1
  · rw [mr.2.1, fy.2.1]; exact l1
  · rw [mr.1, fy.1]; exact k2
  · rw [mr.2.1, fy.2.1]; exact l2
theorem FO.out {B : BS} (f : FO B) (c : CO) : FO (bOut B c) := by
  unfold bOut
  split
  · exact f
  · split
    · exact f
    · exact f
/-- what follows a step -/
def Nx (G : GG) (P : QQ) (F x i : Nat) (k n : Nat) : Prop := ∀ M' F' B' k' n' l6 l7 l8, LV F' M' x B' → F' ≤ F + 10 → k' ≤ k + 2 → n' ≤ n + 12 → WW G IL_law P 3024 [.ref (gs G).1, .ref x, .ref (x + 350), .ref (x + 359), .ref (x + 360), .int (nI i), l6, l7, l8] [] M' k' n'
