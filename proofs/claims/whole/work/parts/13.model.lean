/-! THE REFERENCE: its cells lie behind one another: the object h; g h+1, kept h+2, saved h+3, before h+4, input h+5, signs h+6, deep h+7, told h+8 -/
section MODEL
variable {G : GG} {M : Mm} {h : Nat}
def MO (M : Mm) (h : Nat) : Prop := kd M h = 9 ∧ (kd M (h + 1) = 20 ∧ kd M (h + 2) = 20 ∧ kd M (h + 3) = 20 ∧ kd M (h + 4) = 20 ∧ kd M (h + 5) = 20 ∧ kd M (h + 6) = 21 ∧ kd M (h + 7) = 20 ∧ kd M (h + 8) = 20) ∧ (ln M (h + 1) = 219 ∧ ln M (h + 2) = 1752 ∧ ln M (h + 3) = 219 ∧ ln M (h + 4) = 219 ∧ ln M (h + 5) = 60 ∧ ln M (h + 6) = 60 ∧ ln M (h + 7) = 16 ∧ ln M (h + 8) = 155) ∧ mr M h 0 = some (h + 1) ∧ mr M h 1 = some (h + 2) ∧ mr M h 2 = some (h + 3) ∧ mr M h 3 = some (h + 4) ∧ mr M h 13 = some (h + 5) ∧ mr M h 16 = some (h + 6) ∧ mr M h 18 = some (h + 7) ∧ mr M h 20 = some (h + 8)
theorem MO.k (o : MO M h) : kd M h = 9 := o.1
theorem MO.k1 (o : MO M h) : kd M (h + 1) = 20 := o.2.1.1
theorem MO.k2 (o : MO M h) : kd M (h + 2) = 20 := o.2.1.2.1
theorem MO.k3 (o : MO M h) : kd M (h + 3) = 20 := o.2.1.2.2.1
theorem MO.k4 (o : MO M h) : kd M (h + 4) = 20 := o.2.1.2.2.2.1
theorem MO.k5 (o : MO M h) : kd M (h + 5) = 20 := o.2.1.2.2.2.2.1
theorem MO.k6 (o : MO M h) : kd M (h + 6) = 21 := o.2.1.2.2.2.2.2.1
theorem MO.k7 (o : MO M h) : kd M (h + 7) = 20 := o.2.1.2.2.2.2.2.2.1
theorem MO.k8 (o : MO M h) : kd M (h + 8) = 20 := o.2.1.2.2.2.2.2.2.2
theorem MO.l1 (o : MO M h) : ln M (h + 1) = 219 := o.2.2.1.1
theorem MO.l2 (o : MO M h) : ln M (h + 2) = 1752 := o.2.2.1.2.1
theorem MO.l3 (o : MO M h) : ln M (h + 3) = 219 := o.2.2.1.2.2.1
theorem MO.l4 (o : MO M h) : ln M (h + 4) = 219 := o.2.2.1.2.2.2.1
theorem MO.l5 (o : MO M h) : ln M (h + 5) = 60 := o.2.2.1.2.2.2.2.1
theorem MO.l6 (o : MO M h) : ln M (h + 6) = 60 := o.2.2.1.2.2.2.2.2.1
theorem MO.l7 (o : MO M h) : ln M (h + 7) = 16 := o.2.2.1.2.2.2.2.2.2.1
theorem MO.l8 (o : MO M h) : ln M (h + 8) = 155 := o.2.2.1.2.2.2.2.2.2.2
theorem MO.r0 (o : MO M h) : mr M h 0 = some (h + 1) := o.2.2.2.1
theorem MO.r1 (o : MO M h) : mr M h 1 = some (h + 2) := o.2.2.2.2.1
theorem MO.r2 (o : MO M h) : mr M h 2 = some (h + 3) := o.2.2.2.2.2.1
theorem MO.r3 (o : MO M h) : mr M h 3 = some (h + 4) := o.2.2.2.2.2.2.1
theorem MO.r13 (o : MO M h) : mr M h 13 = some (h + 5) := o.2.2.2.2.2.2.2.1
theorem MO.r16 (o : MO M h) : mr M h 16 = some (h + 6) := o.2.2.2.2.2.2.2.2.1
theorem MO.r18 (o : MO M h) : mr M h 18 = some (h + 7) := o.2.2.2.2.2.2.2.2.2.1
theorem MO.r20 (o : MO M h) : mr M h 20 = some (h + 8) := o.2.2.2.2.2.2.2.2.2.2
/-- an index by its value, in a row of known length -/
theorem ix {i : Int32} {N l : Nat} (hl : l = N) (h0 : 0 ≤ i.toInt) (h1 : i.toInt < N) : vp_in i l := by
  subst hl
  exact vp_in_iff.mpr ⟨h0, h1⟩
abbrev bI (p : Prop) [Decidable p] : Int32 := if p then 1 else 0
theorem nbI (p : Prop) [Decidable p] : narrow .boolean (.int (bI p)) = .int (bI p) := by
  by_cases hp : p
  · rw [bI, if_pos hp]; rfl
  · rw [bI, if_neg hp]; rfl
theorem k_X9_thrown (o : MO M h) : KP G IX9_thrown [.ref h] M (mi M h 8) := by
  refine KK.ofW (by decide) (by simp [Value.category]) (Nat.le_of_ble_eq_true rfl) rfl ?_
  refine r_aload_n (dk kX9_thrown 0 rfl) rfl ?_
  refine r_geti (dk kX9_thrown 1 rfl) fa_X9_39_8 o.k rfl ?_
  refine r_ireturn (dk kX9_thrown 2 rfl) rfl rfl ⟨Nat.le_of_ble_eq_true rfl, Nat.le_of_ble_eq_true rfl⟩ ⟨rfl, rfl⟩
theorem k_X9_in (v a b : Int32) : KP G IX9_in [.int v, .int a, .int b] M (bI (a ≤ v ∧ v ≤ b)) := by
  refine KK.ofW (by decide) (by simp [Value.category]) (Nat.le_of_ble_eq_true rfl) rfl ?_
  refine r_iload_n (dk kX9_in 0 rfl) rfl ?_
  refine r_iload_n (dk kX9_in 1 rfl) rfl ?_
  refine r_icmp_lt (tgt := 14) (dk kX9_in 2 rfl) (by decide) (fun c2 => ?_) (fun c2 => ?_)
  · refine r_iconst (v := 0) (dk kX9_in 8 rfl) (by decide) ?_
    refine r_ireturn (dk kX9_in 9 rfl) rfl rfl ⟨Nat.le_of_ble_eq_true rfl, Nat.le_of_ble_eq_true rfl⟩ ⟨by rw [bI, if_neg (fun z => absurd c2 (Int32.not_lt.mpr z.1))], rfl⟩
  · refine r_iload_n (dk kX9_in 3 rfl) rfl ?_
    refine r_iload_n (dk kX9_in 4 rfl) rfl ?_
    refine r_icmp_gt (tgt := 14) (dk kX9_in 5 rfl) (by decide) (fun c7 => ?_) (fun c7 => ?_)
    · refine r_iconst (v := 0) (dk kX9_in 8 rfl) (by decide) ?_
      refine r_ireturn (dk kX9_in 9 rfl) rfl rfl ⟨Nat.le_of_ble_eq_true rfl, Nat.le_of_ble_eq_true rfl⟩ ⟨by rw [bI, if_neg (fun z => absurd c7 (Int32.not_lt.mpr z.2))], rfl⟩
    · refine r_iconst (v := 1) (dk kX9_in 6 rfl) (by decide) ?_
      refine r_goto (tgt := 15) (dk kX9_in 7 rfl) (by decide) ?_
      refine r_ireturn (dk kX9_in 9 rfl) rfl rfl ⟨Nat.le_of_ble_eq_true rfl, Nat.le_of_ble_eq_true rfl⟩ ⟨by rw [bI, if_pos ⟨Int32.not_lt.mp c2, Int32.not_lt.mp c7⟩], rfl⟩
theorem k_X9_fails (o : MO M h) (p : Int32) : KK G IX9_fails [.ref h, .int p] M (qi (fun x M' => x = bI (0 < p) ∧ M' = sI (sI M h 8 p) h 7 0) nox) := by
  refine KK.ofW (by decide) (by simp [Value.category]) (Nat.le_of_ble_eq_true rfl) rfl ?_
  refine r_aload_n (dk kX9_fails 0 rfl) rfl ?_
  refine r_iload_n (dk kX9_fails 1 rfl) rfl ?_
  refine r_puti (dk kX9_fails 2 rfl) fa_X9_39_8 o.k rfl rfl rfl rfl ?_
  refine r_aload_n (dk kX9_fails 3 rfl) rfl ?_
  refine r_iconst (v := 0) (dk kX9_fails 4 rfl) (by decide) ?_
  refine r_puti (dk kX9_fails 5 rfl) fa_X9_42_8 o.k rfl rfl rfl rfl ?_
  refine r_iload_n (dk kX9_fails 6 rfl) rfl ?_
  refine r_if_le (tgt := 18) (dk kX9_fails 7 rfl) (by decide) (fun c11 => ?_) (fun c11 => ?_)
  · refine r_iconst (v := 0) (dk kX9_fails 10 rfl) (by decide) ?_
    refine r_ireturn (dk kX9_fails 11 rfl) rfl rfl ⟨Nat.le_of_ble_eq_true rfl, Nat.le_of_ble_eq_true rfl⟩ ⟨by rw [bI, if_neg (Int32.not_lt.mpr c11)], rfl⟩
  · refine r_iconst (v := 1) (dk kX9_fails 8 rfl) (by decide) ?_
    refine r_goto (tgt := 19) (dk kX9_fails 9 rfl) (by decide) ?_
    refine r_ireturn (dk kX9_fails 11 rfl) rfl rfl ⟨Nat.le_of_ble_eq_true rfl, Nat.le_of_ble_eq_true rfl⟩ ⟨by rw [bI, if_pos (Int32.not_le.mp c11)], rfl⟩
theorem k_X9_isStone (o : MO M h) (p : Int32) : KP G IX9_isStone [.ref h, .int p] M (bI (0 ≤ p ∧ p ≤ mi M (h + 1) 0 - 1)) := by
  refine KK.ofW (by decide) (by simp [Value.category]) (Nat.le_of_ble_eq_true rfl) rfl ?_
  refine r_iload_n (dk kX9_isStone 0 rfl) rfl ?_
  refine r_iconst (v := 0) (dk kX9_isStone 1 rfl) (by decide) ?_
  refine r_aload_n (dk kX9_isStone 2 rfl) rfl ?_
  refine r_getR (dk kX9_isStone 3 rfl) fa_X9_7_8 o.k rfl o.r0 ?_
  refine r_iconst (v := 0) (dk kX9_isStone 4 rfl) (by decide) ?_
  refine r_iald (dk kX9_isStone 5 rfl) o.k1 (ix o.l1 (by decide) (by decide)) ?_
  refine r_iconst (v := 1) (dk kX9_isStone 6 rfl) (by decide) ?_
  refine r_isub (dk kX9_isStone 7 rfl) ?_
  refine r_callSp (I' := IX9_in) (as := [_, _, _]) (dk kX9_isStone 8 rfl) ms_X9_in ml_X9_68 rfl rfl rfl (by decide) ⟨by decide, by decide⟩ ⟨rfl, rfl⟩ ⟨Nat.le_of_ble_eq_true rfl, Nat.le_of_ble_eq_true rfl⟩ (k_X9_in _ _ _) ?_
  refine r_ireturn (dk kX9_isStone 9 rfl) rfl (nbI _) ⟨Nat.le_of_ble_eq_true rfl, Nat.le_of_ble_eq_true rfl⟩ ⟨rfl, rfl⟩
theorem k_X9_cell (o : MO M h) (s : Nat) (hs : s < 10) : KP G IX9_cell [.ref h, .int (nI s)] M (mi M (h + 1) (9 + 2 * s)) := by
  refine KK.ofW (by decide) (by simp [Value.category]) (Nat.le_of_ble_eq_true rfl) rfl ?_
  refine r_aload_n (dk kX9_cell 0 rfl) rfl ?_
  refine r_getR (dk kX9_cell 1 rfl) fa_X9_7_8 o.k rfl o.r0 ?_
  refine r_bipush (v := 9) (dk kX9_cell 2 rfl) (by decide) ?_
  refine r_iconst (v := 2) (dk kX9_cell 3 rfl) (by decide) ?_
  refine r_iload_n (dk kX9_cell 4 rfl) rfl ?_
  refine r_imul (dk kX9_cell 5 rfl) ?_
  refine r_iadd (dk kX9_cell 6 rfl) ?_
  -- at 10
  rw [show (9 : Int32) + 2 * nI s = nI (9 + 2 * s) from by rw [show (9 : Int32) = nI 9 from rfl, show (2 : Int32) = nI 2 from rfl, pk_mul, nI_add]]
  refine r_iald (dk kX9_cell 7 rfl) o.k1 (by rw [o.l1]; exact vp_in_nI (by omega) (by decide)) ?_
  refine r_ireturn (dk kX9_cell 8 rfl) rfl rfl ⟨Nat.le_of_ble_eq_true rfl, Nat.le_of_ble_eq_true rfl⟩ ⟨by rw [nI_clamp (by omega)], rfl⟩
end MODEL
