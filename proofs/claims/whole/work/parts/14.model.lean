/-! THE REFERENCE, leaves -/
section MODEL
variable {G : GG} {M : Mm} {h : Nat}
/-- its cells lie behind one another: the object h; g h+1, kept h+2, saved h+3, before h+4, input h+5, signs h+6, deep h+7, told h+8 -/
def MO (M : Mm) (h : Nat) : Prop := kd M h = 9 ∧ (kd M (h + 1) = 20 ∧ kd M (h + 2) = 20 ∧ kd M (h + 3) = 20 ∧ kd M (h + 4) = 20 ∧ kd M (h + 5) = 20 ∧ kd M (h + 6) = 21 ∧ kd M (h + 7) = 20 ∧ kd M (h + 8) = 20) ∧ (ln M (h + 1) = 219 ∧ ln M (h + 2) = 1752 ∧ ln M (h + 3) = 219 ∧ ln M (h + 4) = 219 ∧ ln M (h + 5) = 60 ∧ ln M (h + 6) = 60 ∧ ln M (h + 7) = 16 ∧ ln M (h + 8) = 155) ∧ mr M h 0 = some (h + 1) ∧ mr M h 1 = some (h + 2) ∧ mr M h 2 = some (h + 3) ∧ mr M h 3 = some (h + 4) ∧ mr M h 13 = some (h + 5) ∧ mr M h 16 = some (h + 6) ∧ mr M h 18 = some (h + 7) ∧ mr M h 20 = some (h + 8)
theorem MO.k (o : MO M h) : kd M h = 9 := o.1
theorem MO.k1 (o : MO M h) : kd M (h + 1) = 20 := o.2.1.1
theorem MO.k2 (o : MO M h) : kd M (h + 2) = 20 := o.2.1.2.1
theorem MO.k3 (o : MO M h) : kd M (h + 3) = 20 := o.2.1.2.2.1
theorem MO.k4 (o : MO M h) : kd M (h + 4) = 20 := o.2.1.2.2.2.1
theorem MO.k5 (o : MO M h) : kd M (h + 5) = 20 := o.2.1.2.2.2.2.1
theorem MO.k6 (o : MO M h) : kd M (h + 6) = 21 := o.2.1.2.2.2.2.2.1
theorem MO.k7 (o : MO M h) : kd M (h + 7) = 20 := o.2.1.2.2.2.2.2.2.1
theorem MO.k8 (o : MO M h) : kd M (h + 8) = 20 := o.2.1.2.2.2.2.2.2.2
theorem MO.l1 (o : MO M h) : ln M (h + 1) = 219 := o.2.2.1.1
theorem MO.l2 (o : MO M h) : ln M (h + 2) = 1752 := o.2.2.1.2.1
theorem MO.l3 (o : MO M h) : ln M (h + 3) = 219 := o.2.2.1.2.2.1
theorem MO.l4 (o : MO M h) : ln M (h + 4) = 219 := o.2.2.1.2.2.2.1
theorem MO.l5 (o : MO M h) : ln M (h + 5) = 60 := o.2.2.1.2.2.2.2.1
theorem MO.l6 (o : MO M h) : ln M (h + 6) = 60 := o.2.2.1.2.2.2.2.2.1
theorem MO.l7 (o : MO M h) : ln M (h + 7) = 16 := o.2.2.1.2.2.2.2.2.2.1
theorem MO.l8 (o : MO M h) : ln M (h + 8) = 155 := o.2.2.1.2.2.2.2.2.2.2
theorem MO.r0 (o : MO M h) : mr M h 0 = some (h + 1) := o.2.2.2.1
theorem MO.r1 (o : MO M h) : mr M h 1 = some (h + 2) := o.2.2.2.2.1
theorem MO.r2 (o : MO M h) : mr M h 2 = some (h + 3) := o.2.2.2.2.2.1
theorem MO.r3 (o : MO M h) : mr M h 3 = some (h + 4) := o.2.2.2.2.2.2.1
theorem MO.r13 (o : MO M h) : mr M h 13 = some (h + 5) := o.2.2.2.2.2.2.2.1
theorem MO.r16 (o : MO M h) : mr M h 16 = some (h + 6) := o.2.2.2.2.2.2.2.2.1
theorem MO.r18 (o : MO M h) : mr M h 18 = some (h + 7) := o.2.2.2.2.2.2.2.2.2.1
theorem MO.r20 (o : MO M h) : mr M h 20 = some (h + 8) := o.2.2.2.2.2.2.2.2.2.2
/-- it depends on kinds, lengths and references alone -/
theorem MO.to {M' : Mm} (o : MO M h) (h1 : kd M' = kd M) (h2 : ln M' = ln M) (h3 : mr M' = mr M) : MO M' h := by unfold MO; rw [h1, h2, h3]; exact o
/-- one row's or object's ints, all at once -/
def sA (M : Mm) (a : Nat) (f : Nat → Int32) : Mm := (kd M, ln M, va_up (mi M) a f, mr M, mj M, md M, nx M)
theorem sI_A (M : Mm) (a j : Nat) (v : Int32) : sI M a j v = sA M a (va_up (mi M a) j v) := rfl
theorem mi_sA (M : Mm) (a : Nat) (f : Nat → Int32) : mi (sA M a f) = va_up (mi M) a f := rfl
theorem mi_sA_s (M : Mm) (a : Nat) (f : Nat → Int32) : mi (sA M a f) a = f := va_up_self _ _ _
theorem mi_sA_n (M : Mm) {a b : Nat} (f : Nat → Int32) (hb : b ≠ a) : mi (sA M a f) b = mi M b := va_up_ne _ _ hb
theorem va_up_up {α : Type} (f : Nat → α) (a : Nat) (x y : α) : va_up (va_up f a x) a y = va_up f a y := by
  funext b
  by_cases hb : b = a
  · rw [hb, va_up_self, va_up_self]
  · rw [va_up_ne _ _ hb, va_up_ne _ _ hb, va_up_ne _ _ hb]
theorem va_up_eq {α : Type} (f : Nat → α) (a : Nat) : va_up f a (f a) = f := by
  funext b
  by_cases hb : b = a
  · rw [hb, va_up_self]
  · rw [va_up_ne _ _ hb]
theorem va_up_co {α : Type} (f : Nat → α) {a b : Nat} (x y : α) (hab : a ≠ b) : va_up (va_up f a x) b y = va_up (va_up f b y) a x := by
  funext c
  by_cases h1 : c = a
  · subst h1
    rw [va_up_ne _ _ hab, va_up_self, va_up_self]
  · rw [va_up_ne (va_up f b y) _ h1]
    by_cases h2 : c = b
    · rw [h2, va_up_self, va_up_self]
    · rw [va_up_ne _ _ h2, va_up_ne _ _ h1, va_up_ne _ _ h2]
theorem sA_A (M : Mm) (a : Nat) (f f' : Nat → Int32) : sA (sA M a f) a f' = sA M a f' := by
  show (kd M, ln M, va_up (va_up (mi M) a f) a f', mr M, mj M, md M, nx M) = _
  rw [va_up_up]
  rfl
theorem sA_eq (M : Mm) (a : Nat) : sA M a (mi M a) = M := by
  show (kd M, ln M, va_up (mi M) a (mi M a), mr M, mj M, md M, nx M) = _
  rw [va_up_eq]
  rfl
theorem sA_co (M : Mm) {a b : Nat} (f f' : Nat → Int32) (hab : a ≠ b) : sA (sA M a f) b f' = sA (sA M b f') a f := by
  show (kd M, ln M, va_up (va_up (mi M) a f) b f', mr M, mj M, md M, nx M) = (kd M, ln M, va_up (va_up (mi M) b f') a f, mr M, mj M, md M, nx M)
  rw [va_up_co _ _ _ hab]
theorem k_X9_thrown (o : MO M h) : KP G IX9_thrown [.ref h] M (mi M h 8) := by
  refine KK.ofW (by decide) (by simp [Value.category]) (Nat.le_of_ble_eq_true rfl) rfl ?_
  show WW _ _ _ 0 [_] [] _ _ _
  refine r_aload_n (dk kX9_thrown 0 rfl) rfl ?_
  refine r_geti (dk kX9_thrown 1 rfl) fa_X9_39_8 o.k rfl ?_
  refine r_ireturn (dk kX9_thrown 2 rfl) rfl rfl ⟨Nat.le_of_ble_eq_true rfl, Nat.le_of_ble_eq_true rfl⟩ ⟨rfl, rfl⟩
theorem k_X9_in (v a b : Int32) : KP G IX9_in [.int v, .int a, .int b] M (bI (a ≤ v ∧ v ≤ b)) := by
  refine KK.ofW (by decide) (by simp [Value.category]) (Nat.le_of_ble_eq_true rfl) rfl ?_
  show WW _ _ _ 0 [_, _, _] [] _ _ _
  refine r_iload_n (dk kX9_in 0 rfl) rfl ?_
  refine r_iload_n (dk kX9_in 1 rfl) rfl ?_
  refine r_icmp_lt (tgt := 14) (dk kX9_in 2 rfl) (by decide) (fun c2 => ?_) (fun c2 => ?_)
  · refine r_iconst (v := 0) (dk kX9_in 8 rfl) (by decide) ?_
    refine r_ireturn (dk kX9_in 9 rfl) rfl rfl ⟨Nat.le_of_ble_eq_true rfl, Nat.le_of_ble_eq_true rfl⟩ ⟨by rw [bI, if_neg (fun z => absurd c2 (Int32.not_lt.mpr z.1))], rfl⟩
  · refine r_iload_n (dk kX9_in 3 rfl) rfl ?_
    refine r_iload_n (dk kX9_in 4 rfl) rfl ?_
    refine r_icmp_gt (tgt := 14) (dk kX9_in 5 rfl) (by decide) (fun c7 => ?_) (fun c7 => ?_)
    · refine r_iconst (v := 0) (dk kX9_in 8 rfl) (by decide) ?_
      refine r_ireturn (dk kX9_in 9 rfl) rfl rfl ⟨Nat.le_of_ble_eq_true rfl, Nat.le_of_ble_eq_true rfl⟩ ⟨by rw [bI, if_neg (fun z => absurd c7 (Int32.not_lt.mpr z.2))], rfl⟩
    · refine r_iconst (v := 1) (dk kX9_in 6 rfl) (by decide) ?_
      refine r_goto (tgt := 15) (dk kX9_in 7 rfl) (by decide) ?_
      refine r_ireturn (dk kX9_in 9 rfl) rfl rfl ⟨Nat.le_of_ble_eq_true rfl, Nat.le_of_ble_eq_true rfl⟩ ⟨by rw [bI, if_pos ⟨Int32.not_lt.mp c2, Int32.not_lt.mp c7⟩], rfl⟩
/-- what 'fails' leaves -/
abbrev mFail (M : Mm) (h : Nat) (p : Int32) : Mm := sI (sI M h 8 p) h 7 0
theorem k_X9_fails (o : MO M h) (p : Int32) : KE G IX9_fails [.ref h, .int p] M (bI (0 < p)) (mFail M h p) := by
  refine KK.ofW (by decide) (by simp [Value.category]) (Nat.le_of_ble_eq_true rfl) rfl ?_
  show WW _ _ _ 0 [_, _] [] _ _ _
  refine r_aload_n (dk kX9_fails 0 rfl) rfl ?_
  refine r_iload_n (dk kX9_fails 1 rfl) rfl ?_
  refine r_puti (dk kX9_fails 2 rfl) fa_X9_39_8 o.k rfl rfl rfl rfl ?_
  refine r_aload_n (dk kX9_fails 3 rfl) rfl ?_
  refine r_iconst (v := 0) (dk kX9_fails 4 rfl) (by decide) ?_
  refine r_puti (dk kX9_fails 5 rfl) fa_X9_42_8 o.k rfl rfl rfl rfl ?_
  refine r_iload_n (dk kX9_fails 6 rfl) rfl ?_
  refine r_if_le (tgt := 18) (dk kX9_fails 7 rfl) (by decide) (fun c11 => ?_) (fun c11 => ?_)
  · refine r_iconst (v := 0) (dk kX9_fails 10 rfl) (by decide) ?_
    refine r_ireturn (dk kX9_fails 11 rfl) rfl rfl ⟨Nat.le_of_ble_eq_true rfl, Nat.le_of_ble_eq_true rfl⟩ ⟨by rw [bI, if_neg (Int32.not_lt.mpr c11)], rfl⟩
  · refine r_iconst (v := 1) (dk kX9_fails 8 rfl) (by decide) ?_
    refine r_goto (tgt := 19) (dk kX9_fails 9 rfl) (by decide) ?_
    refine r_ireturn (dk kX9_fails 11 rfl) rfl rfl ⟨Nat.le_of_ble_eq_true rfl, Nat.le_of_ble_eq_true rfl⟩ ⟨by rw [bI, if_pos (Int32.not_le.mp c11)], rfl⟩
/-- what 'denies' leaves -/
abbrev mDeny (M : Mm) (h : Nat) (p a b : Int32) : Mm := sI (sI (sI (sI (sI (sI M h 8 p) h 7 1) h 9 a) h 10 b) h 11 0) h 12 0
theorem k_X9_denies (o : MO M h) (p a b : Int32) : KE G IX9_denies [.ref h, .int p, .int a, .int b] M 0 (mDeny M h p a b) := by
  refine KK.ofW (by decide) (by simp [Value.category]) (Nat.le_of_ble_eq_true rfl) rfl ?_
  show WW _ _ _ 0 [_, _, _, _] [] _ _ _
  refine r_aload_n (dk kX9_denies 0 rfl) rfl ?_
  refine r_iload_n (dk kX9_denies 1 rfl) rfl ?_
  refine r_puti (dk kX9_denies 2 rfl) fa_X9_39_8 o.k rfl rfl rfl rfl ?_
  refine r_aload_n (dk kX9_denies 3 rfl) rfl ?_
  refine r_iconst (v := 1) (dk kX9_denies 4 rfl) (by decide) ?_
  refine r_puti (dk kX9_denies 5 rfl) fa_X9_42_8 o.k rfl rfl rfl rfl ?_
  refine r_aload_n (dk kX9_denies 6 rfl) rfl ?_
  refine r_iload_n (dk kX9_denies 7 rfl) rfl ?_
  refine r_puti (dk kX9_denies 8 rfl) fa_X9_46_8 o.k rfl rfl rfl rfl ?_
  refine r_aload_n (dk kX9_denies 9 rfl) rfl ?_
  refine r_iload_n (dk kX9_denies 10 rfl) rfl ?_
  refine r_puti (dk kX9_denies 11 rfl) fa_X9_49_8 o.k rfl rfl rfl rfl ?_
  refine r_aload_n (dk kX9_denies 12 rfl) rfl ?_
  refine r_iconst (v := 0) (dk kX9_denies 13 rfl) (by decide) ?_
  refine r_puti (dk kX9_denies 14 rfl) fa_X9_52_8 o.k rfl rfl rfl rfl ?_
  refine r_aload_n (dk kX9_denies 15 rfl) rfl ?_
  refine r_iconst (v := 0) (dk kX9_denies 16 rfl) (by decide) ?_
  refine r_puti (dk kX9_denies 17 rfl) fa_X9_55_8 o.k rfl rfl rfl rfl ?_
  refine r_iconst (v := 0) (dk kX9_denies 18 rfl) (by decide) ?_
  refine r_ireturn (dk kX9_denies 19 rfl) rfl rfl ⟨Nat.le_of_ble_eq_true rfl, Nat.le_of_ble_eq_true rfl⟩ ⟨rfl, rfl⟩
theorem k_X9_isCell (c : Int32) : KP G IX9_isCell [.int c] M (bI (0 ≤ c ∧ c ≤ 24)) := by
  refine KK.ofW (by decide) (by simp [Value.category]) (Nat.le_of_ble_eq_true rfl) rfl ?_
  show WW _ _ _ 0 [_] [] _ _ _
  refine r_iload_n (dk kX9_isCell 0 rfl) rfl ?_
  refine r_iconst (v := 0) (dk kX9_isCell 1 rfl) (by decide) ?_
  refine r_bipush (v := 24) (dk kX9_isCell 2 rfl) (by decide) ?_
  refine r_callSp (I' := IX9_in) (as := [_, _, _]) (dk kX9_isCell 3 rfl) ms_X9_in ml_X9_68 rfl rfl rfl (Nat.le_of_ble_eq_true rfl) ⟨by decide, by decide⟩ ⟨rfl, rfl⟩ ⟨Nat.le_of_ble_eq_true rfl, Nat.le_of_ble_eq_true rfl⟩ (k_X9_in _ _ _) ?_
  refine r_ireturn (dk kX9_isCell 4 rfl) rfl (nbI _) ⟨Nat.le_of_ble_eq_true rfl, Nat.le_of_ble_eq_true rfl⟩ ⟨rfl, rfl⟩
theorem k_X9_isStone (o : MO M h) (p : Int32) : KP G IX9_isStone [.ref h, .int p] M (bI (0 ≤ p ∧ p ≤ mi M (h + 1) 0 - 1)) := by
  refine KK.ofW (by decide) (by simp [Value.category]) (Nat.le_of_ble_eq_true rfl) rfl ?_
  show WW _ _ _ 0 [_, _] [] _ _ _
  refine r_iload_n (dk kX9_isStone 0 rfl) rfl ?_
  refine r_iconst (v := 0) (dk kX9_isStone 1 rfl) (by decide) ?_
  refine r_aload_n (dk kX9_isStone 2 rfl) rfl ?_
  refine r_getR (dk kX9_isStone 3 rfl) fa_X9_7_8 o.k rfl o.r0 ?_
  refine r_iconst (v := 0) (dk kX9_isStone 4 rfl) (by decide) ?_
  refine r_ial (dk kX9_isStone 5 rfl) o.k1 o.l1 rfl (by decide) (by decide) ?_
  refine r_iconst (v := 1) (dk kX9_isStone 6 rfl) (by decide) ?_
  refine r_isub (dk kX9_isStone 7 rfl) ?_
  refine r_callSp (I' := IX9_in) (as := [_, _, _]) (dk kX9_isStone 8 rfl) ms_X9_in ml_X9_68 rfl rfl rfl (Nat.le_of_ble_eq_true rfl) ⟨by decide, by decide⟩ ⟨rfl, rfl⟩ ⟨Nat.le_of_ble_eq_true rfl, Nat.le_of_ble_eq_true rfl⟩ (k_X9_in _ _ _) ?_
  refine r_ireturn (dk kX9_isStone 9 rfl) rfl (nbI _) ⟨Nat.le_of_ble_eq_true rfl, Nat.le_of_ble_eq_true rfl⟩ ⟨rfl, rfl⟩
theorem k_X9_isOfficer (o : MO M h) (p : Int32) : KP G IX9_isOfficer [.ref h, .int p] M (bI (0 ≤ p ∧ p ≤ mi M (h + 1) 1 - 1)) := by
  refine KK.ofW (by decide) (by simp [Value.category]) (Nat.le_of_ble_eq_true rfl) rfl ?_
  show WW _ _ _ 0 [_, _] [] _ _ _
  refine r_iload_n (dk kX9_isOfficer 0 rfl) rfl ?_
  refine r_iconst (v := 0) (dk kX9_isOfficer 1 rfl) (by decide) ?_
  refine r_aload_n (dk kX9_isOfficer 2 rfl) rfl ?_
  refine r_getR (dk kX9_isOfficer 3 rfl) fa_X9_7_8 o.k rfl o.r0 ?_
  refine r_iconst (v := 1) (dk kX9_isOfficer 4 rfl) (by decide) ?_
  refine r_ial (dk kX9_isOfficer 5 rfl) o.k1 o.l1 rfl (by decide) (by decide) ?_
  refine r_iconst (v := 1) (dk kX9_isOfficer 6 rfl) (by decide) ?_
  refine r_isub (dk kX9_isOfficer 7 rfl) ?_
  refine r_callSp (I' := IX9_in) (as := [_, _, _]) (dk kX9_isOfficer 8 rfl) ms_X9_in ml_X9_68 rfl rfl rfl (Nat.le_of_ble_eq_true rfl) ⟨by decide, by decide⟩ ⟨rfl, rfl⟩ ⟨Nat.le_of_ble_eq_true rfl, Nat.le_of_ble_eq_true rfl⟩ (k_X9_in _ _ _) ?_
  refine r_ireturn (dk kX9_isOfficer 9 rfl) rfl (nbI _) ⟨Nat.le_of_ble_eq_true rfl, Nat.le_of_ble_eq_true rfl⟩ ⟨rfl, rfl⟩
theorem k_X9_isRuling (o : MO M h) (p : Int32) : KP G IX9_isRuling [.ref h, .int p] M (bI (0 ≤ p ∧ p ≤ mi M (h + 1) 5 - 1)) := by
  refine KK.ofW (by decide) (by simp [Value.category]) (Nat.le_of_ble_eq_true rfl) rfl ?_
  show WW _ _ _ 0 [_, _] [] _ _ _
  refine r_iload_n (dk kX9_isRuling 0 rfl) rfl ?_
  refine r_iconst (v := 0) (dk kX9_isRuling 1 rfl) (by decide) ?_
  refine r_aload_n (dk kX9_isRuling 2 rfl) rfl ?_
  refine r_getR (dk kX9_isRuling 3 rfl) fa_X9_7_8 o.k rfl o.r0 ?_
  refine r_iconst (v := 5) (dk kX9_isRuling 4 rfl) (by decide) ?_
  refine r_ial (dk kX9_isRuling 5 rfl) o.k1 o.l1 rfl (by decide) (by decide) ?_
  refine r_iconst (v := 1) (dk kX9_isRuling 6 rfl) (by decide) ?_
  refine r_isub (dk kX9_isRuling 7 rfl) ?_
  refine r_callSp (I' := IX9_in) (as := [_, _, _]) (dk kX9_isRuling 8 rfl) ms_X9_in ml_X9_68 rfl rfl rfl (Nat.le_of_ble_eq_true rfl) ⟨by decide, by decide⟩ ⟨rfl, rfl⟩ ⟨Nat.le_of_ble_eq_true rfl, Nat.le_of_ble_eq_true rfl⟩ (k_X9_in _ _ _) ?_
  refine r_ireturn (dk kX9_isRuling 9 rfl) rfl (nbI _) ⟨Nat.le_of_ble_eq_true rfl, Nat.le_of_ble_eq_true rfl⟩ ⟨rfl, rfl⟩
theorem k_X9_cell (o : MO M h) {s : Nat} (hs : s < 10) : KP G IX9_cell [.ref h, .int (nI s)] M (mi M (h + 1) (9 + 2 * s)) := by
  refine KK.ofW (by decide) (by simp [Value.category]) (Nat.le_of_ble_eq_true rfl) rfl ?_
  show WW _ _ _ 0 [_, _] [] _ _ _
  refine r_aload_n (dk kX9_cell 0 rfl) rfl ?_
  refine r_getR (dk kX9_cell 1 rfl) fa_X9_7_8 o.k rfl o.r0 ?_
  refine r_bipush (v := 9) (dk kX9_cell 2 rfl) (by decide) ?_
  refine r_iconst (v := 2) (dk kX9_cell 3 rfl) (by decide) ?_
  refine r_iload_n (dk kX9_cell 4 rfl) rfl ?_
  refine r_imul (dk kX9_cell 5 rfl) ?_
  refine r_iadd (dk kX9_cell 6 rfl) ?_
  refine r_ial (dk kX9_cell 7 rfl) o.k1 o.l1 (ixa (a' := 9) (b' := 2) rfl rfl) (by omega) (by decide) ?_
  refine r_ireturn (dk kX9_cell 8 rfl) rfl rfl ⟨Nat.le_of_ble_eq_true rfl, Nat.le_of_ble_eq_true rfl⟩ ⟨rfl, rfl⟩
theorem k_X9_heavy (o : MO M h) {s : Nat} (hs : s < 10) : KP G IX9_heavy [.ref h, .int (nI s)] M (mi M (h + 1) (9 + 2 * s + 1)) := by
  refine KK.ofW (by decide) (by simp [Value.category]) (Nat.le_of_ble_eq_true rfl) rfl ?_
  show WW _ _ _ 0 [_, _] [] _ _ _
  refine r_aload_n (dk kX9_heavy 0 rfl) rfl ?_
  refine r_getR (dk kX9_heavy 1 rfl) fa_X9_7_8 o.k rfl o.r0 ?_
  refine r_bipush (v := 9) (dk kX9_heavy 2 rfl) (by decide) ?_
  refine r_iconst (v := 2) (dk kX9_heavy 3 rfl) (by decide) ?_
  refine r_iload_n (dk kX9_heavy 4 rfl) rfl ?_
  refine r_imul (dk kX9_heavy 5 rfl) ?_
  refine r_iadd (dk kX9_heavy 6 rfl) ?_
  refine r_iconst (v := 1) (dk kX9_heavy 7 rfl) (by decide) ?_
  refine r_iadd (dk kX9_heavy 8 rfl) ?_
  refine r_ial (dk kX9_heavy 9 rfl) o.k1 o.l1 (ixc (a' := 9) (b' := 2) (w := 1) rfl rfl rfl) (by omega) (by decide) ?_
  refine r_ireturn (dk kX9_heavy 10 rfl) rfl rfl ⟨Nat.le_of_ble_eq_true rfl, Nat.le_of_ble_eq_true rfl⟩ ⟨rfl, rfl⟩
theorem k_X9_rank (o : MO M h) {s : Nat} (hs : s < 6) : KP G IX9_rank [.ref h, .int (nI s)] M (mi M (h + 1) (29 + s)) := by
  refine KK.ofW (by decide) (by simp [Value.category]) (Nat.le_of_ble_eq_true rfl) rfl ?_
  show WW _ _ _ 0 [_, _] [] _ _ _
  refine r_aload_n (dk kX9_rank 0 rfl) rfl ?_
  refine r_getR (dk kX9_rank 1 rfl) fa_X9_7_8 o.k rfl o.r0 ?_
  refine r_bipush (v := 29) (dk kX9_rank 2 rfl) (by decide) ?_
  refine r_iload_n (dk kX9_rank 3 rfl) rfl ?_
  refine r_iadd (dk kX9_rank 4 rfl) ?_
  refine r_ial (dk kX9_rank 5 rfl) o.k1 o.l1 (ixd (a' := 29) rfl) (by omega) (by decide) ?_
  refine r_ireturn (dk kX9_rank 6 rfl) rfl rfl ⟨Nat.le_of_ble_eq_true rfl, Nat.le_of_ble_eq_true rfl⟩ ⟨rfl, rfl⟩
theorem k_X9_of (o : MO M h) {p w : Nat} {x : Int32} (hx : x = nI w) (hp : p < 8) (hw : w < 11) : KP G IX9_of [.ref h, .int (nI p), .int x] M (mi M (h + 1) (35 + 11 * p + w)) := by
  refine KK.ofW (by decide) (by simp [Value.category]) (Nat.le_of_ble_eq_true rfl) rfl ?_
  show WW _ _ _ 0 [_, _, _] [] _ _ _
  refine r_aload_n (dk kX9_of 0 rfl) rfl ?_
  refine r_getR (dk kX9_of 1 rfl) fa_X9_7_8 o.k rfl o.r0 ?_
  refine r_bipush (v := 35) (dk kX9_of 2 rfl) (by decide) ?_
  refine r_bipush (v := 11) (dk kX9_of 3 rfl) (by decide) ?_
  refine r_iload_n (dk kX9_of 4 rfl) rfl ?_
  refine r_imul (dk kX9_of 5 rfl) ?_
  refine r_iadd (dk kX9_of 6 rfl) ?_
  refine r_iload_n (dk kX9_of 7 rfl) rfl ?_
  refine r_iadd (dk kX9_of 8 rfl) ?_
  refine r_ial (dk kX9_of 9 rfl) o.k1 o.l1 (ixc (a' := 35) (b' := 11) rfl rfl hx) (by omega) (by decide) ?_
  refine r_ireturn (dk kX9_of 10 rfl) rfl rfl ⟨Nat.le_of_ble_eq_true rfl, Nat.le_of_ble_eq_true rfl⟩ ⟨rfl, rfl⟩
theorem k_X9_by (o : MO M h) {p w : Nat} {x : Int32} (hx : x = nI w) (hp : p < 16) (hw : w < 6) : KP G IX9_by [.ref h, .int (nI p), .int x] M (mi M (h + 1) (123 + 6 * p + w)) := by
  refine KK.ofW (by decide) (by simp [Value.category]) (Nat.le_of_ble_eq_true rfl) rfl ?_
  show WW _ _ _ 0 [_, _, _] [] _ _ _
  refine r_aload_n (dk kX9_by 0 rfl) rfl ?_
  refine r_getR (dk kX9_by 1 rfl) fa_X9_7_8 o.k rfl o.r0 ?_
  refine r_bipush (v := 123) (dk kX9_by 2 rfl) (by decide) ?_
  refine r_bipush (v := 6) (dk kX9_by 3 rfl) (by decide) ?_
  refine r_iload_n (dk kX9_by 4 rfl) rfl ?_
  refine r_imul (dk kX9_by 5 rfl) ?_
  refine r_iadd (dk kX9_by 6 rfl) ?_
  refine r_iload_n (dk kX9_by 7 rfl) rfl ?_
  refine r_iadd (dk kX9_by 8 rfl) ?_
  refine r_ial (dk kX9_by 9 rfl) o.k1 o.l1 (ixc (a' := 123) (b' := 6) rfl rfl hx) (by omega) (by decide) ?_
  refine r_ireturn (dk kX9_by 10 rfl) rfl rfl ⟨Nat.le_of_ble_eq_true rfl, Nat.le_of_ble_eq_true rfl⟩ ⟨rfl, rfl⟩
theorem k_X9_of0 (o : MO M h) {p : Nat} (hp : p < 8) : KP G IX9_of [.ref h, .int (nI p), .int 0] M (mi M (h + 1) (35 + 11 * p)) := k_X9_of o (w := 0) rfl hp (by decide)
theorem k_X9_by0 (o : MO M h) {p : Nat} (hp : p < 16) : KP G IX9_by [.ref h, .int (nI p), .int 0] M (mi M (h + 1) (123 + 6 * p)) := k_X9_by o (w := 0) rfl hp (by decide)
theorem k_X9_lays (o : MO M h) {p w : Nat} {x v : Int32} (hx : x = nI w) (hp : p < 8) (hw : w < 11) : KU G IX9_lays [.ref h, .int (nI p), .int x, .int v] M (sI M (h + 1) (35 + 11 * p + w) v) := by
  refine KK.ofW (by decide) (by simp [Value.category]) (Nat.le_of_ble_eq_true rfl) rfl ?_
  show WW _ _ _ 0 [_, _, _, _] [] _ _ _
  refine r_aload_n (dk kX9_lays 0 rfl) rfl ?_
  refine r_getR (dk kX9_lays 1 rfl) fa_X9_7_8 o.k rfl o.r0 ?_
  refine r_bipush (v := 35) (dk kX9_lays 2 rfl) (by decide) ?_
  refine r_bipush (v := 11) (dk kX9_lays 3 rfl) (by decide) ?_
  refine r_iload_n (dk kX9_lays 4 rfl) rfl ?_
  refine r_imul (dk kX9_lays 5 rfl) ?_
  refine r_iadd (dk kX9_lays 6 rfl) ?_
  refine r_iload_n (dk kX9_lays 7 rfl) rfl ?_
  refine r_iadd (dk kX9_lays 8 rfl) ?_
  refine r_iload_n (dk kX9_lays 9 rfl) rfl ?_
  refine r_ias (dk kX9_lays 10 rfl) o.k1 o.l1 (ixc (a' := 35) (b' := 11) rfl rfl hx) (by omega) (by decide) ?_
  refine r_return (dk kX9_lays 11 rfl) rfl ⟨Nat.le_of_ble_eq_true rfl, Nat.le_of_ble_eq_true rfl⟩ rfl
theorem k_X9_within (o : MO M h) {F : Nat} (gi : GI F (mi M (h + 1))) (c : Int32) : KP G IX9_within [.ref h, .int c] M (oI (gWithin (mi M (h + 1)) c)) := by
  refine KK.ofW (by decide) (by simp [Value.category]) (Nat.le_of_ble_eq_true rfl) rfl ?_
  show WW _ _ _ 0 [_, _, lj] [] _ _ _
  obtain ⟨hS, hS2⟩ := gi.s
  refine r_iconst (v := 0) (dk kX9_within 0 rfl) (by decide) ?_
  refine r_istore_n (j := 2) (dk kX9_within 1 rfl) rfl (by decide) rfl ?_
  simp only [List.set_cons_succ, List.set_cons_zero]
  -- at 2
  suffices key : ∀ d j, j + d = gn (mi M (h + 1)) 0 → (∀ i, i < j → decide (mi M (h + 1) (9 + 2 * i) = c) = false) → WW G IX9_within (qi (fun y M' => y = oI (gWithin (mi M (h + 1)) c) ∧ M' = M) nox) 2 [.ref h, .int c, .int (nI j)] [] M 0 0 from key _ 0 (Nat.zero_add _) (fun i hi => absurd hi (Nat.not_lt_zero i))
  intro d
  induction d with
  | zero =>
    intro j hj hn
    refine r_iload_n (dk kX9_within 2 rfl) rfl ?_
    refine r_aload_n (dk kX9_within 3 rfl) rfl ?_
    refine r_getR (dk kX9_within 4 rfl) fa_X9_7_8 o.k rfl o.r0 ?_
    refine r_iconst (v := 0) (dk kX9_within 5 rfl) (by decide) ?_
    refine r_ial (dk kX9_within 6 rfl) o.k1 o.l1 rfl (by decide) (by decide) ?_
    refine r_icmp_ge (tgt := 29) (dk kX9_within 7 rfl) (by decide) (fun c9 => ?_) (fun c9 => absurd (by rw [hS]; exact nI_le (by omega) (by omega)) c9)
    refine r_iconst (v := (-1)) (dk kX9_within 17 rfl) (by decide) ?_
    refine r_ireturn (dk kX9_within 18 rfl) rfl rfl ⟨Nat.le_of_ble_eq_true rfl, Nat.le_of_ble_eq_true rfl⟩ ⟨by rw [show gWithin (mi M (h + 1)) c = none from fx_none.mpr (by rw [← hj]; exact hn)]; rfl, rfl⟩
  | succ d ih =>
    intro j hj hn
    refine r_iload_n (dk kX9_within 2 rfl) rfl ?_
    refine r_aload_n (dk kX9_within 3 rfl) rfl ?_
    refine r_getR (dk kX9_within 4 rfl) fa_X9_7_8 o.k rfl o.r0 ?_
    refine r_iconst (v := 0) (dk kX9_within 5 rfl) (by decide) ?_
    refine r_ial (dk kX9_within 6 rfl) o.k1 o.l1 rfl (by decide) (by decide) ?_
    refine r_icmp_ge (tgt := 29) (dk kX9_within 7 rfl) (by decide) (fun c9 => absurd c9 (by rw [hS]; exact nI_ge (by omega) (by omega))) (fun c9 => ?_)
    refine r_aload_n (dk kX9_within 8 rfl) rfl ?_
    refine r_iload_n (dk kX9_within 9 rfl) rfl ?_
    refine r_callVp (I' := IX9_cell) (as := [_]) (dk kX9_within 10 rfl) mv_X9_cell ml_X9_72 rfl rfl o.k rfl rfl (Nat.le_of_ble_eq_true rfl) ⟨by decide, by decide⟩ ⟨rfl, rfl⟩ ⟨Nat.le_of_ble_eq_true rfl, Nat.le_of_ble_eq_true rfl⟩ (k_X9_cell o (by omega)) ?_
    refine r_iload_n (dk kX9_within 11 rfl) rfl ?_
    refine r_icmp_ne (tgt := 23) (dk kX9_within 12 rfl) (by decide) (fun c18 => ?_) (fun c18 => ?_)
    · refine r_iinc (dk kX9_within 15 rfl) (by decide) rfl rfl rfl ?_
      simp only [List.set_cons_succ, List.set_cons_zero]
      refine r_goto (tgt := 2) (dk kX9_within 16 rfl) (by decide) ?_
      -- at 2
      rw [show nI j + Int32.ofInt 1 = nI (j + 1) from nI_1 j]
      exact ih (j + 1) (by omega) (fun i hi => by
        rcases Nat.lt_succ_iff_lt_or_eq.mp hi with q | q
        · exact hn i q
        · rw [q]; exact decide_eq_false c18)
    · refine r_iload_n (dk kX9_within 13 rfl) rfl ?_
      refine r_ireturn (dk kX9_within 14 rfl) rfl rfl ⟨Nat.le_of_ble_eq_true rfl, Nat.le_of_ble_eq_true rfl⟩ ⟨by rw [show gWithin (mi M (h + 1)) c = some j from fx_some.mpr ⟨by omega, decide_eq_true (Decidable.not_not.mp c18), hn⟩]; rfl, rfl⟩
theorem k_X9_placeOf (o : MO M h) {F : Nat} (gi : GI F (mi M (h + 1))) (c : Int32) : KP G IX9_placeOf [.ref h, .int c] M (oI (gPlace (mi M (h + 1)) c)) := by
  refine KK.ofW (by decide) (by simp [Value.category]) (Nat.le_of_ble_eq_true rfl) rfl ?_
  show WW _ _ _ 0 [_, _, lj] [] _ _ _
  obtain ⟨hS, hS2⟩ := gi.p
  refine r_iconst (v := 0) (dk kX9_placeOf 0 rfl) (by decide) ?_
  refine r_istore_n (j := 2) (dk kX9_placeOf 1 rfl) rfl (by decide) rfl ?_
  simp only [List.set_cons_succ, List.set_cons_zero]
  -- at 2
  suffices key : ∀ d j, j + d = gn (mi M (h + 1)) 3 → (∀ i, i < j → decide (mi M (h + 1) (35 + 11 * i) = c) = false) → WW G IX9_placeOf (qi (fun y M' => y = oI (gPlace (mi M (h + 1)) c) ∧ M' = M) nox) 2 [.ref h, .int c, .int (nI j)] [] M 0 0 from key _ 0 (Nat.zero_add _) (fun i hi => absurd hi (Nat.not_lt_zero i))
  intro d
  induction d with
  | zero =>
    intro j hj hn
    refine r_iload_n (dk kX9_placeOf 2 rfl) rfl ?_
    refine r_aload_n (dk kX9_placeOf 3 rfl) rfl ?_
    refine r_getR (dk kX9_placeOf 4 rfl) fa_X9_7_8 o.k rfl o.r0 ?_
    refine r_iconst (v := 3) (dk kX9_placeOf 5 rfl) (by decide) ?_
    refine r_ial (dk kX9_placeOf 6 rfl) o.k1 o.l1 (j := 3) rfl (by decide) (by decide) ?_
    refine r_icmp_ge (tgt := 30) (dk kX9_placeOf 7 rfl) (by decide) (fun c9 => ?_) (fun c9 => absurd (by rw [hS]; exact nI_le (by omega) (by omega)) c9)
    refine r_iconst (v := (-1)) (dk kX9_placeOf 18 rfl) (by decide) ?_
    refine r_ireturn (dk kX9_placeOf 19 rfl) rfl rfl ⟨Nat.le_of_ble_eq_true rfl, Nat.le_of_ble_eq_true rfl⟩ ⟨by rw [show gPlace (mi M (h + 1)) c = none from fx_none.mpr (by rw [← hj]; exact hn)]; rfl, rfl⟩
  | succ d ih =>
    intro j hj hn
    refine r_iload_n (dk kX9_placeOf 2 rfl) rfl ?_
    refine r_aload_n (dk kX9_placeOf 3 rfl) rfl ?_
    refine r_getR (dk kX9_placeOf 4 rfl) fa_X9_7_8 o.k rfl o.r0 ?_
    refine r_iconst (v := 3) (dk kX9_placeOf 5 rfl) (by decide) ?_
    refine r_ial (dk kX9_placeOf 6 rfl) o.k1 o.l1 (j := 3) rfl (by decide) (by decide) ?_
    refine r_icmp_ge (tgt := 30) (dk kX9_placeOf 7 rfl) (by decide) (fun c9 => absurd c9 (by rw [hS]; exact nI_ge (by omega) (by omega))) (fun c9 => ?_)
    refine r_aload_n (dk kX9_placeOf 8 rfl) rfl ?_
    refine r_iload_n (dk kX9_placeOf 9 rfl) rfl ?_
    refine r_iconst (v := 0) (dk kX9_placeOf 10 rfl) (by decide) ?_
    refine r_callVp (I' := IX9_of) (as := [_, _]) (dk kX9_placeOf 11 rfl) mv_X9_of ml_X9_106 rfl rfl o.k rfl rfl (Nat.le_of_ble_eq_true rfl) ⟨by decide, by decide⟩ ⟨rfl, rfl⟩ ⟨Nat.le_of_ble_eq_true rfl, Nat.le_of_ble_eq_true rfl⟩ (k_X9_of0 o (by omega)) ?_
    refine r_iload_n (dk kX9_placeOf 12 rfl) rfl ?_
    refine r_icmp_ne (tgt := 24) (dk kX9_placeOf 13 rfl) (by decide) (fun c19 => ?_) (fun c19 => ?_)
    · refine r_iinc (dk kX9_placeOf 16 rfl) (by decide) rfl rfl rfl ?_
      simp only [List.set_cons_succ, List.set_cons_zero]
      refine r_goto (tgt := 2) (dk kX9_placeOf 17 rfl) (by decide) ?_
      -- at 2
      rw [show nI j + Int32.ofInt 1 = nI (j + 1) from nI_1 j]
      exact ih (j + 1) (by omega) (fun i hi => by
        rcases Nat.lt_succ_iff_lt_or_eq.mp hi with q | q
        · exact hn i q
        · rw [q]; exact decide_eq_false c19)
    · refine r_iload_n (dk kX9_placeOf 14 rfl) rfl ?_
      refine r_ireturn (dk kX9_placeOf 15 rfl) rfl rfl ⟨Nat.le_of_ble_eq_true rfl, Nat.le_of_ble_eq_true rfl⟩ ⟨by rw [show gPlace (mi M (h + 1)) c = some j from fx_some.mpr ⟨by omega, decide_eq_true (Decidable.not_not.mp c19), hn⟩]; rfl, rfl⟩
theorem k_X9_about (o : MO M h) {F : Nat} (gi : GI F (mi M (h + 1))) (c : Int32) : KP G IX9_about [.ref h, .int c] M (oI (gAbout (mi M (h + 1)) c)) := by
  refine KK.ofW (by decide) (by simp [Value.category]) (Nat.le_of_ble_eq_true rfl) rfl ?_
  show WW _ _ _ 0 [_, _, lj] [] _ _ _
  obtain ⟨hS, hS2⟩ := gi.p
  refine r_iconst (v := 0) (dk kX9_about 0 rfl) (by decide) ?_
  refine r_istore_n (j := 2) (dk kX9_about 1 rfl) rfl (by decide) rfl ?_
  simp only [List.set_cons_succ, List.set_cons_zero]
  -- at 2
  suffices key : ∀ d j, j + d = gn (mi M (h + 1)) 3 → (∀ i, i < j → decide (mi M (h + 1) (35 + 11 * i + 2) = c) = false) → WW G IX9_about (qi (fun y M' => y = oI (gAbout (mi M (h + 1)) c) ∧ M' = M) nox) 2 [.ref h, .int c, .int (nI j)] [] M 0 0 from key _ 0 (Nat.zero_add _) (fun i hi => absurd hi (Nat.not_lt_zero i))
  intro d
  induction d with
  | zero =>
    intro j hj hn
    refine r_iload_n (dk kX9_about 2 rfl) rfl ?_
    refine r_aload_n (dk kX9_about 3 rfl) rfl ?_
    refine r_getR (dk kX9_about 4 rfl) fa_X9_7_8 o.k rfl o.r0 ?_
    refine r_iconst (v := 3) (dk kX9_about 5 rfl) (by decide) ?_
    refine r_ial (dk kX9_about 6 rfl) o.k1 o.l1 (j := 3) rfl (by decide) (by decide) ?_
    refine r_icmp_ge (tgt := 30) (dk kX9_about 7 rfl) (by decide) (fun c9 => ?_) (fun c9 => absurd (by rw [hS]; exact nI_le (by omega) (by omega)) c9)
    refine r_iconst (v := (-1)) (dk kX9_about 18 rfl) (by decide) ?_
    refine r_ireturn (dk kX9_about 19 rfl) rfl rfl ⟨Nat.le_of_ble_eq_true rfl, Nat.le_of_ble_eq_true rfl⟩ ⟨by rw [show gAbout (mi M (h + 1)) c = none from fx_none.mpr (by rw [← hj]; exact hn)]; rfl, rfl⟩
  | succ d ih =>
    intro j hj hn
    refine r_iload_n (dk kX9_about 2 rfl) rfl ?_
    refine r_aload_n (dk kX9_about 3 rfl) rfl ?_
    refine r_getR (dk kX9_about 4 rfl) fa_X9_7_8 o.k rfl o.r0 ?_
    refine r_iconst (v := 3) (dk kX9_about 5 rfl) (by decide) ?_
    refine r_ial (dk kX9_about 6 rfl) o.k1 o.l1 (j := 3) rfl (by decide) (by decide) ?_
    refine r_icmp_ge (tgt := 30) (dk kX9_about 7 rfl) (by decide) (fun c9 => absurd c9 (by rw [hS]; exact nI_ge (by omega) (by omega))) (fun c9 => ?_)
    refine r_aload_n (dk kX9_about 8 rfl) rfl ?_
    refine r_iload_n (dk kX9_about 9 rfl) rfl ?_
    refine r_iconst (v := 2) (dk kX9_about 10 rfl) (by decide) ?_
    refine r_callVp (I' := IX9_of) (as := [_, _]) (dk kX9_about 11 rfl) mv_X9_of ml_X9_106 rfl rfl o.k rfl rfl (Nat.le_of_ble_eq_true rfl) ⟨by decide, by decide⟩ ⟨rfl, rfl⟩ ⟨Nat.le_of_ble_eq_true rfl, Nat.le_of_ble_eq_true rfl⟩ (k_X9_of o (w := 2) rfl (by omega) (by decide)) ?_
    refine r_iload_n (dk kX9_about 12 rfl) rfl ?_
    refine r_icmp_ne (tgt := 24) (dk kX9_about 13 rfl) (by decide) (fun c19 => ?_) (fun c19 => ?_)
    · refine r_iinc (dk kX9_about 16 rfl) (by decide) rfl rfl rfl ?_
      simp only [List.set_cons_succ, List.set_cons_zero]
      refine r_goto (tgt := 2) (dk kX9_about 17 rfl) (by decide) ?_
      -- at 2
      rw [show nI j + Int32.ofInt 1 = nI (j + 1) from nI_1 j]
      exact ih (j + 1) (by omega) (fun i hi => by
        rcases Nat.lt_succ_iff_lt_or_eq.mp hi with q | q
        · exact hn i q
        · rw [q]; exact decide_eq_false c19)
    · refine r_iload_n (dk kX9_about 14 rfl) rfl ?_
      refine r_ireturn (dk kX9_about 15 rfl) rfl rfl ⟨Nat.le_of_ble_eq_true rfl, Nat.le_of_ble_eq_true rfl⟩ ⟨by rw [show gAbout (mi M (h + 1)) c = some j from fx_some.mpr ⟨by omega, decide_eq_true (Decidable.not_not.mp c19), hn⟩]; rfl, rfl⟩
theorem k_X9_isNone (o : MO M h) {F : Nat} (gi : GI F (mi M (h + 1))) (c : Int32) : KE G IX9_isNone [.ref h, .int c] M (bI (gPlace (mi M (h + 1)) c = none)) (mFail M h (bI (gPlace (mi M (h + 1)) c = none))) := by
  refine KK.ofW (by decide) (by simp [Value.category]) (Nat.le_of_ble_eq_true rfl) rfl ?_
  show WW _ _ _ 0 [_, _] [] _ _ _
  have hlt : ∀ k, gPlace (mi M (h + 1)) c = some k → k < 9 := fun k hk => Nat.lt_trans (fx_lt hk) gi.p.2
  refine r_aload_n (dk kX9_isNone 0 rfl) rfl ?_
  refine r_aload_n (dk kX9_isNone 1 rfl) rfl ?_
  refine r_iload_n (dk kX9_isNone 2 rfl) rfl ?_
  refine r_callVp (I' := IX9_placeOf) (as := [_]) (dk kX9_isNone 3 rfl) mv_X9_placeOf ml_X9_110 rfl rfl o.k rfl rfl (Nat.le_of_ble_eq_true rfl) ⟨by decide, by decide⟩ ⟨rfl, rfl⟩ ⟨Nat.le_of_ble_eq_true rfl, Nat.le_of_ble_eq_true rfl⟩ (k_X9_placeOf o gi c) ?_
  refine r_if_ge (tgt := 13) (dk kX9_isNone 4 rfl) (by decide) (fun c6 => ?_) (fun c6 => ?_)
  · have hs : ¬ gPlace (mi M (h + 1)) c = none := fun z => absurd c6 (Int32.not_le.mpr ((oI_neg hlt (by decide)).mpr z))
    rw [bI_f hs]
    refine r_iconst (v := 0) (dk kX9_isNone 7 rfl) (by decide) ?_
    refine r_callVp (I' := IX9_fails) (as := [_]) (dk kX9_isNone 8 rfl) mv_X9_fails ml_X9_80 rfl rfl o.k rfl rfl (Nat.le_of_ble_eq_true rfl) ⟨by decide, by decide⟩ ⟨rfl, rfl⟩ ⟨Nat.le_of_ble_eq_true rfl, Nat.le_of_ble_eq_true rfl⟩ (k_X9_fails o _) ?_
    refine r_ireturn (dk kX9_isNone 9 rfl) rfl rfl ⟨Nat.le_of_ble_eq_true rfl, Nat.le_of_ble_eq_true rfl⟩ ⟨rfl, rfl⟩
  · have hs : gPlace (mi M (h + 1)) c = none := (oI_neg hlt (by decide)).mp (Int32.not_le.mp c6)
    rw [bI_t hs]
    refine r_iconst (v := 1) (dk kX9_isNone 5 rfl) (by decide) ?_
    refine r_goto (tgt := 14) (dk kX9_isNone 6 rfl) (by decide) ?_
    refine r_callVp (I' := IX9_fails) (as := [_]) (dk kX9_isNone 8 rfl) mv_X9_fails ml_X9_80 rfl rfl o.k rfl rfl (Nat.le_of_ble_eq_true rfl) ⟨by decide, by decide⟩ ⟨rfl, rfl⟩ ⟨Nat.le_of_ble_eq_true rfl, Nat.le_of_ble_eq_true rfl⟩ (k_X9_fails o _) ?_
    refine r_ireturn (dk kX9_isNone 9 rfl) rfl rfl ⟨Nat.le_of_ble_eq_true rfl, Nat.le_of_ble_eq_true rfl⟩ ⟨rfl, rfl⟩
theorem bits_ok : ∀ m, m < 64 → 0 + (nI m >>> ((0 : Int32) &&& 31) &&& 1) + (nI m >>> (((0 : Int32) + Int32.ofInt 1) &&& 31) &&& 1) + (nI m >>> (((0 : Int32) + Int32.ofInt 1 + Int32.ofInt 1) &&& 31) &&& 1) + (nI m >>> (((0 : Int32) + Int32.ofInt 1 + Int32.ofInt 1 + Int32.ofInt 1) &&& 31) &&& 1) + (nI m >>> (((0 : Int32) + Int32.ofInt 1 + Int32.ofInt 1 + Int32.ofInt 1 + Int32.ofInt 1) &&& 31) &&& 1) + (nI m >>> (((0 : Int32) + Int32.ofInt 1 + Int32.ofInt 1 + Int32.ofInt 1 + Int32.ofInt 1 + Int32.ofInt 1) &&& 31) &&& 1) = nI (bN m) := by decide +kernel
theorem k_X9_bits {m : Nat} (hm : m < 64) : KP G IX9_bits [.int (nI m)] M (nI (bN m)) := by
  refine KK.ofW (by decide) (by simp [Value.category]) (Nat.le_of_ble_eq_true rfl) rfl ?_
  show WW _ _ _ 0 [_, lj, lj] [] _ _ _
  refine r_iconst (v := 0) (dk kX9_bits 0 rfl) (by decide) ?_
  refine r_istore_n (j := 1) (dk kX9_bits 1 rfl) rfl (by decide) rfl ?_
  simp only [List.set_cons_succ, List.set_cons_zero]
  refine r_iconst (v := 0) (dk kX9_bits 2 rfl) (by decide) ?_
  refine r_istore_n (j := 2) (dk kX9_bits 3 rfl) rfl (by decide) rfl ?_
  simp only [List.set_cons_succ, List.set_cons_zero]
  refine r_iload_n (dk kX9_bits 4 rfl) rfl ?_
  refine r_bipush (v := 6) (dk kX9_bits 5 rfl) (by decide) ?_
  refine r_icmp_ge (tgt := 24) (dk kX9_bits 6 rfl) (by decide) (fun c7 => absurd c7 (by decide)) (fun c7 => ?_)
  refine r_iload_n (dk kX9_bits 7 rfl) rfl ?_
  refine r_iload_n (dk kX9_bits 8 rfl) rfl ?_
  refine r_iload_n (dk kX9_bits 9 rfl) rfl ?_
  refine r_ishr (dk kX9_bits 10 rfl) ?_
  refine r_iconst (v := 1) (dk kX9_bits 11 rfl) (by decide) ?_
  refine r_iand (dk kX9_bits 12 rfl) ?_
  refine r_iadd (dk kX9_bits 13 rfl) ?_
  refine r_istore_n (j := 1) (dk kX9_bits 14 rfl) rfl (by decide) rfl ?_
  simp only [List.set_cons_succ, List.set_cons_zero]
  refine r_iinc (dk kX9_bits 15 rfl) (by decide) rfl rfl rfl ?_
  simp only [List.set_cons_succ, List.set_cons_zero]
  refine r_goto (tgt := 4) (dk kX9_bits 16 rfl) (by decide) ?_
  refine r_iload_n (dk kX9_bits 4 rfl) rfl ?_
  refine r_bipush (v := 6) (dk kX9_bits 5 rfl) (by decide) ?_
  refine r_icmp_ge (tgt := 24) (dk kX9_bits 6 rfl) (by decide) (fun c7 => absurd c7 (by decide)) (fun c7 => ?_)
  refine r_iload_n (dk kX9_bits 7 rfl) rfl ?_
  refine r_iload_n (dk kX9_bits 8 rfl) rfl ?_
  refine r_iload_n (dk kX9_bits 9 rfl) rfl ?_
  refine r_ishr (dk kX9_bits 10 rfl) ?_
  refine r_iconst (v := 1) (dk kX9_bits 11 rfl) (by decide) ?_
  refine r_iand (dk kX9_bits 12 rfl) ?_
  refine r_iadd (dk kX9_bits 13 rfl) ?_
  refine r_istore_n (j := 1) (dk kX9_bits 14 rfl) rfl (by decide) rfl ?_
  simp only [List.set_cons_succ, List.set_cons_zero]
  refine r_iinc (dk kX9_bits 15 rfl) (by decide) rfl rfl rfl ?_
  simp only [List.set_cons_succ, List.set_cons_zero]
  refine r_goto (tgt := 4) (dk kX9_bits 16 rfl) (by decide) ?_
  refine r_iload_n (dk kX9_bits 4 rfl) rfl ?_
  refine r_bipush (v := 6) (dk kX9_bits 5 rfl) (by decide) ?_
  refine r_icmp_ge (tgt := 24) (dk kX9_bits 6 rfl) (by decide) (fun c7 => absurd c7 (by decide)) (fun c7 => ?_)
  refine r_iload_n (dk kX9_bits 7 rfl) rfl ?_
  refine r_iload_n (dk kX9_bits 8 rfl) rfl ?_
  refine r_iload_n (dk kX9_bits 9 rfl) rfl ?_
  refine r_ishr (dk kX9_bits 10 rfl) ?_
  refine r_iconst (v := 1) (dk kX9_bits 11 rfl) (by decide) ?_
  refine r_iand (dk kX9_bits 12 rfl) ?_
  refine r_iadd (dk kX9_bits 13 rfl) ?_
  refine r_istore_n (j := 1) (dk kX9_bits 14 rfl) rfl (by decide) rfl ?_
  simp only [List.set_cons_succ, List.set_cons_zero]
  refine r_iinc (dk kX9_bits 15 rfl) (by decide) rfl rfl rfl ?_
  simp only [List.set_cons_succ, List.set_cons_zero]
  refine r_goto (tgt := 4) (dk kX9_bits 16 rfl) (by decide) ?_
  refine r_iload_n (dk kX9_bits 4 rfl) rfl ?_
  refine r_bipush (v := 6) (dk kX9_bits 5 rfl) (by decide) ?_
  refine r_icmp_ge (tgt := 24) (dk kX9_bits 6 rfl) (by decide) (fun c7 => absurd c7 (by decide)) (fun c7 => ?_)
  refine r_iload_n (dk kX9_bits 7 rfl) rfl ?_
  refine r_iload_n (dk kX9_bits 8 rfl) rfl ?_
  refine r_iload_n (dk kX9_bits 9 rfl) rfl ?_
  refine r_ishr (dk kX9_bits 10 rfl) ?_
  refine r_iconst (v := 1) (dk kX9_bits 11 rfl) (by decide) ?_
  refine r_iand (dk kX9_bits 12 rfl) ?_
  refine r_iadd (dk kX9_bits 13 rfl) ?_
  refine r_istore_n (j := 1) (dk kX9_bits 14 rfl) rfl (by decide) rfl ?_
  simp only [List.set_cons_succ, List.set_cons_zero]
  refine r_iinc (dk kX9_bits 15 rfl) (by decide) rfl rfl rfl ?_
  simp only [List.set_cons_succ, List.set_cons_zero]
  refine r_goto (tgt := 4) (dk kX9_bits 16 rfl) (by decide) ?_
  refine r_iload_n (dk kX9_bits 4 rfl) rfl ?_
  refine r_bipush (v := 6) (dk kX9_bits 5 rfl) (by decide) ?_
  refine r_icmp_ge (tgt := 24) (dk kX9_bits 6 rfl) (by decide) (fun c7 => absurd c7 (by decide)) (fun c7 => ?_)
  refine r_iload_n (dk kX9_bits 7 rfl) rfl ?_
  refine r_iload_n (dk kX9_bits 8 rfl) rfl ?_
  refine r_iload_n (dk kX9_bits 9 rfl) rfl ?_
  refine r_ishr (dk kX9_bits 10 rfl) ?_
  refine r_iconst (v := 1) (dk kX9_bits 11 rfl) (by decide) ?_
  refine r_iand (dk kX9_bits 12 rfl) ?_
  refine r_iadd (dk kX9_bits 13 rfl) ?_
  refine r_istore_n (j := 1) (dk kX9_bits 14 rfl) rfl (by decide) rfl ?_
  simp only [List.set_cons_succ, List.set_cons_zero]
  refine r_iinc (dk kX9_bits 15 rfl) (by decide) rfl rfl rfl ?_
  simp only [List.set_cons_succ, List.set_cons_zero]
  refine r_goto (tgt := 4) (dk kX9_bits 16 rfl) (by decide) ?_
  refine r_iload_n (dk kX9_bits 4 rfl) rfl ?_
  refine r_bipush (v := 6) (dk kX9_bits 5 rfl) (by decide) ?_
  refine r_icmp_ge (tgt := 24) (dk kX9_bits 6 rfl) (by decide) (fun c7 => absurd c7 (by decide)) (fun c7 => ?_)
  refine r_iload_n (dk kX9_bits 7 rfl) rfl ?_
  refine r_iload_n (dk kX9_bits 8 rfl) rfl ?_
  refine r_iload_n (dk kX9_bits 9 rfl) rfl ?_
  refine r_ishr (dk kX9_bits 10 rfl) ?_
  refine r_iconst (v := 1) (dk kX9_bits 11 rfl) (by decide) ?_
  refine r_iand (dk kX9_bits 12 rfl) ?_
  refine r_iadd (dk kX9_bits 13 rfl) ?_
  refine r_istore_n (j := 1) (dk kX9_bits 14 rfl) rfl (by decide) rfl ?_
  simp only [List.set_cons_succ, List.set_cons_zero]
  refine r_iinc (dk kX9_bits 15 rfl) (by decide) rfl rfl rfl ?_
  simp only [List.set_cons_succ, List.set_cons_zero]
  refine r_goto (tgt := 4) (dk kX9_bits 16 rfl) (by decide) ?_
  refine r_iload_n (dk kX9_bits 4 rfl) rfl ?_
  refine r_bipush (v := 6) (dk kX9_bits 5 rfl) (by decide) ?_
  refine r_icmp_ge (tgt := 24) (dk kX9_bits 6 rfl) (by decide) (fun c7 => ?_) (fun c7 => absurd (by decide) c7)
  refine r_iload_n (dk kX9_bits 17 rfl) rfl ?_
  refine r_ireturn (dk kX9_bits 18 rfl) rfl rfl ⟨Nat.le_of_ble_eq_true rfl, Nat.le_of_ble_eq_true rfl⟩ ⟨bits_ok m hm, rfl⟩
theorem k_X9_votes (o : MO M h) {F p : Nat} (gi : GI F (mi M (h + 1))) (hp : p < gn (mi M (h + 1)) 3) : KP G IX9_votes [.ref h, .int (nI p)] M (nI (gVotes (mi M (h + 1)) p)) := by
  refine KK.ofW (by decide) (by simp [Value.category]) (Nat.le_of_ble_eq_true rfl) rfl ?_
  show WW _ _ _ 0 [_, _] [] _ _ _
  have hp8 := gi.p.2
  obtain ⟨-, -, -, -, -, y1, y2, -⟩ := gi.pi hp
  refine r_aload_n (dk kX9_votes 0 rfl) rfl ?_
  refine r_iload_n (dk kX9_votes 1 rfl) rfl ?_
  refine r_iconst (v := 5) (dk kX9_votes 2 rfl) (by decide) ?_
  refine r_callVp (I' := IX9_of) (as := [_, _]) (dk kX9_votes 3 rfl) mv_X9_of ml_X9_106 rfl rfl o.k rfl rfl (Nat.le_of_ble_eq_true rfl) ⟨by decide, by decide⟩ ⟨rfl, rfl⟩ ⟨Nat.le_of_ble_eq_true rfl, Nat.le_of_ble_eq_true rfl⟩ (k_X9_of o (w := 5) rfl (by omega) (by decide)) ?_
  -- at 6
  rw [y1.1]
  refine r_callSp (I' := IX9_bits) (as := [_]) (dk kX9_votes 4 rfl) ms_X9_bits ml_X9_120 rfl rfl rfl (Nat.le_of_ble_eq_true rfl) ⟨by decide, by decide⟩ ⟨rfl, rfl⟩ ⟨Nat.le_of_ble_eq_true rfl, Nat.le_of_ble_eq_true rfl⟩ (k_X9_bits y1.2) ?_
  refine r_aload_n (dk kX9_votes 5 rfl) rfl ?_
  refine r_iload_n (dk kX9_votes 6 rfl) rfl ?_
  refine r_bipush (v := 6) (dk kX9_votes 7 rfl) (by decide) ?_
  refine r_callVp (I' := IX9_of) (as := [_, _]) (dk kX9_votes 8 rfl) mv_X9_of ml_X9_106 rfl rfl o.k rfl rfl (Nat.le_of_ble_eq_true rfl) ⟨by decide, by decide⟩ ⟨rfl, rfl⟩ ⟨Nat.le_of_ble_eq_true rfl, Nat.le_of_ble_eq_true rfl⟩ (k_X9_of o (w := 6) rfl (by omega) (by decide)) ?_
  -- at 16
  rw [y2.1]
  refine r_callSp (I' := IX9_bits) (as := [_]) (dk kX9_votes 9 rfl) ms_X9_bits ml_X9_120 rfl rfl rfl (Nat.le_of_ble_eq_true rfl) ⟨by decide, by decide⟩ ⟨rfl, rfl⟩ ⟨Nat.le_of_ble_eq_true rfl, Nat.le_of_ble_eq_true rfl⟩ (k_X9_bits y2.2) ?_
  refine r_iadd (dk kX9_votes 10 rfl) ?_
  refine r_ireturn (dk kX9_votes 11 rfl) rfl rfl ⟨Nat.le_of_ble_eq_true rfl, Nat.le_of_ble_eq_true rfl⟩ ⟨by rw [nI_add]; rfl, rfl⟩
theorem k_X9_isUnruled (o : MO M h) (c : Int32) : KE G IX9_isUnruled [.ref h, .int c] M (bI (¬ (0 ≤ c ∧ c ≤ mi M (h + 1) 5 - 1))) (mFail M h (bI (¬ (0 ≤ c ∧ c ≤ mi M (h + 1) 5 - 1)))) := by
  refine KK.ofW (by decide) (by simp [Value.category]) (Nat.le_of_ble_eq_true rfl) rfl ?_
  show WW _ _ _ 0 [_, _] [] _ _ _
  refine r_aload_n (dk kX9_isUnruled 0 rfl) rfl ?_
  refine r_aload_n (dk kX9_isUnruled 1 rfl) rfl ?_
  refine r_iload_n (dk kX9_isUnruled 2 rfl) rfl ?_
  refine r_callVp (I' := IX9_isRuling) (as := [_]) (dk kX9_isUnruled 3 rfl) mv_X9_isRuling ml_X9_126 rfl rfl o.k rfl rfl (Nat.le_of_ble_eq_true rfl) ⟨by decide, by decide⟩ ⟨rfl, rfl⟩ ⟨Nat.le_of_ble_eq_true rfl, Nat.le_of_ble_eq_true rfl⟩ (k_X9_isRuling o c) ?_
  refine r_if_eq (tgt := 13) (dk kX9_isUnruled 4 rfl) (by decide) (fun c6 => ?_) (fun c6 => ?_)
  · have hs := bI_0.mp c6
    rw [bI_t hs]
    refine r_iconst (v := 1) (dk kX9_isUnruled 7 rfl) (by decide) ?_
    refine r_callVp (I' := IX9_fails) (as := [_]) (dk kX9_isUnruled 8 rfl) mv_X9_fails ml_X9_80 rfl rfl o.k rfl rfl (Nat.le_of_ble_eq_true rfl) ⟨by decide, by decide⟩ ⟨rfl, rfl⟩ ⟨Nat.le_of_ble_eq_true rfl, Nat.le_of_ble_eq_true rfl⟩ (k_X9_fails o _) ?_
    refine r_ireturn (dk kX9_isUnruled 9 rfl) rfl rfl ⟨Nat.le_of_ble_eq_true rfl, Nat.le_of_ble_eq_true rfl⟩ ⟨rfl, rfl⟩
  · have hs : ¬ ¬ (0 ≤ c ∧ c ≤ mi M (h + 1) 5 - 1) := fun z => c6 (bI_f z)
    rw [bI_f hs]
    refine r_iconst (v := 0) (dk kX9_isUnruled 5 rfl) (by decide) ?_
    refine r_goto (tgt := 14) (dk kX9_isUnruled 6 rfl) (by decide) ?_
    refine r_callVp (I' := IX9_fails) (as := [_]) (dk kX9_isUnruled 8 rfl) mv_X9_fails ml_X9_80 rfl rfl o.k rfl rfl (Nat.le_of_ble_eq_true rfl) ⟨by decide, by decide⟩ ⟨rfl, rfl⟩ ⟨Nat.le_of_ble_eq_true rfl, Nat.le_of_ble_eq_true rfl⟩ (k_X9_fails o _) ?_
    refine r_ireturn (dk kX9_isUnruled 9 rfl) rfl rfl ⟨Nat.le_of_ble_eq_true rfl, Nat.le_of_ble_eq_true rfl⟩ ⟨rfl, rfl⟩
theorem k_X9_names (o : MO M h) {F r : Nat} (gi : GI F (mi M (h + 1))) (hr : r < gn (mi M (h + 1)) 5) (c : Int32) : KP G IX9_names [.ref h, .int (nI r), .int c] M (bI (gNames (mi M (h + 1)) r c = true)) := by
  refine KK.ofW (by decide) (by simp [Value.category]) (Nat.le_of_ble_eq_true rfl) rfl ?_
  show WW _ _ _ 0 [_, _, _, lj] [] _ _ _
  have hr9 := gi.r.2
  obtain ⟨-, -, ⟨hS, hS2⟩, -⟩ := gi.ri hr
  refine r_iconst (v := 0) (dk kX9_names 0 rfl) (by decide) ?_
  refine r_istore_n (j := 3) (dk kX9_names 1 rfl) rfl (by decide) rfl ?_
  simp only [List.set_cons_succ, List.set_cons_zero]
  -- at 2
  suffices key : ∀ d j, j + d = gn (mi M (h + 1)) (123 + 6 * r + 2) → (∀ i, i < j → decide (mi M (h + 1) (123 + 6 * r + 3 + i) = c) = false) → WW G IX9_names (qi (fun y M' => y = bI (gNames (mi M (h + 1)) r c = true) ∧ M' = M) nox) 2 [.ref h, .int (nI r), .int c, .int (nI j)] [] M 0 0 from key _ 0 (Nat.zero_add _) (fun i hi => absurd hi (Nat.not_lt_zero i))
  intro d
  induction d with
  | zero =>
    intro j hj hn
    refine r_iload_n (dk kX9_names 2 rfl) rfl ?_
    refine r_aload_n (dk kX9_names 3 rfl) rfl ?_
    refine r_iload_n (dk kX9_names 4 rfl) rfl ?_
    refine r_iconst (v := 2) (dk kX9_names 5 rfl) (by decide) ?_
    refine r_callVp (I' := IX9_by) (as := [_, _]) (dk kX9_names 6 rfl) mv_X9_by ml_X9_146 rfl rfl o.k rfl rfl (Nat.le_of_ble_eq_true rfl) ⟨by decide, by decide⟩ ⟨rfl, rfl⟩ ⟨Nat.le_of_ble_eq_true rfl, Nat.le_of_ble_eq_true rfl⟩ (k_X9_by o (w := 2) rfl (by omega) (by decide)) ?_
    refine r_icmp_ge (tgt := 32) (dk kX9_names 7 rfl) (by decide) (fun c9 => ?_) (fun c9 => absurd (by rw [hS]; exact nI_le (by omega) (by omega)) c9)
    refine r_iconst (v := 0) (dk kX9_names 20 rfl) (by decide) ?_
    refine r_ireturn (dk kX9_names 21 rfl) rfl rfl ⟨Nat.le_of_ble_eq_true rfl, Nat.le_of_ble_eq_true rfl⟩ ⟨by rw [bI_f]; unfold gNames; rw [fx_none.mpr (by rw [← hj]; exact hn)]; decide, rfl⟩
  | succ d ih =>
    intro j hj hn
    refine r_iload_n (dk kX9_names 2 rfl) rfl ?_
    refine r_aload_n (dk kX9_names 3 rfl) rfl ?_
    refine r_iload_n (dk kX9_names 4 rfl) rfl ?_
    refine r_iconst (v := 2) (dk kX9_names 5 rfl) (by decide) ?_
    refine r_callVp (I' := IX9_by) (as := [_, _]) (dk kX9_names 6 rfl) mv_X9_by ml_X9_146 rfl rfl o.k rfl rfl (Nat.le_of_ble_eq_true rfl) ⟨by decide, by decide⟩ ⟨rfl, rfl⟩ ⟨Nat.le_of_ble_eq_true rfl, Nat.le_of_ble_eq_true rfl⟩ (k_X9_by o (w := 2) rfl (by omega) (by decide)) ?_
    refine r_icmp_ge (tgt := 32) (dk kX9_names 7 rfl) (by decide) (fun c9 => absurd c9 (by rw [hS]; exact nI_ge (by omega) (by omega))) (fun c9 => ?_)
    refine r_aload_n (dk kX9_names 8 rfl) rfl ?_
    refine r_iload_n (dk kX9_names 9 rfl) rfl ?_
    refine r_iconst (v := 3) (dk kX9_names 10 rfl) (by decide) ?_
    refine r_iload_n (dk kX9_names 11 rfl) rfl ?_
    refine r_iadd (dk kX9_names 12 rfl) ?_
    refine r_callVp (I' := IX9_by) (as := [_, _]) (dk kX9_names 13 rfl) mv_X9_by ml_X9_146 rfl rfl o.k rfl rfl (Nat.le_of_ble_eq_true rfl) ⟨by decide, by decide⟩ ⟨rfl, rfl⟩ ⟨Nat.le_of_ble_eq_true rfl, Nat.le_of_ble_eq_true rfl⟩ (k_X9_by o (w := 3 + j) (ixd rfl) (by omega) (by omega)) ?_
    refine r_iload_n (dk kX9_names 14 rfl) rfl ?_
    refine r_icmp_ne (tgt := 26) (dk kX9_names 15 rfl) (by decide) (fun c21 => ?_) (fun c21 => ?_)
    · rw [← Nat.add_assoc] at c21
      refine r_iinc (dk kX9_names 18 rfl) (by decide) rfl rfl rfl ?_
      simp only [List.set_cons_succ, List.set_cons_zero]
      refine r_goto (tgt := 2) (dk kX9_names 19 rfl) (by decide) ?_
      -- at 2
      rw [show nI j + Int32.ofInt 1 = nI (j + 1) from nI_1 j]
      exact ih (j + 1) (by omega) (fun i hi => by
        rcases Nat.lt_succ_iff_lt_or_eq.mp hi with q | q
        · exact hn i q
        · rw [q]; exact decide_eq_false c21)
    · rw [← Nat.add_assoc] at c21
      refine r_iconst (v := 1) (dk kX9_names 16 rfl) (by decide) ?_
      refine r_ireturn (dk kX9_names 17 rfl) rfl rfl ⟨Nat.le_of_ble_eq_true rfl, Nat.le_of_ble_eq_true rfl⟩ ⟨by rw [bI_t]; unfold gNames; rw [fx_some.mpr ⟨by omega, decide_eq_true (Decidable.not_not.mp c21), hn⟩]; rfl, rfl⟩
end MODEL
