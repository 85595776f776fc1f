/-! THE CLASS: the states before the latest changes -/
/-- the state in row j of the history a -/
def hA (M : Mm) (a j : Nat) : Nat := (mr M (a + 1) j).getD 0
/-- a history at a: its row a+1, its nine states from a+2 on, by thirties, in any order -/
def HO (M : Mm) (a : Nat) : Prop := kd M a = 2 ∧ kd M (a + 1) = 33 ∧ ln M (a + 1) = 9 ∧ mr M a 0 = some (a + 1) ∧ (∀ j, j < 9 → mr M (a + 1) j = some (hA M a j) ∧ ∃ i, i < 9 ∧ hA M a j = a + 2 + 30 * i) ∧ (∀ i j, i < j → j < 9 → hA M a i ≠ hA M a j) ∧ ∀ i, i < 9 → SO M (a + 2 + 30 * i)
section HO
variable {M M' : Mm} {a : Nat}
theorem HO.k (o : HO M a) : kd M a = 2 := o.1
theorem HO.k1 (o : HO M a) : kd M (a + 1) = 30 + 3 := o.2.1
theorem HO.l1 (o : HO M a) : ln M (a + 1) = 9 := o.2.2.1
theorem HO.r0 (o : HO M a) : mr M a 0 = some (a + 1) := o.2.2.2.1
theorem HO.r1 (o : HO M a) {j : Nat} (h : j < 9) : mr M (a + 1) j = some (hA M a j) := (o.2.2.2.2.1 j h).1
theorem HO.at (o : HO M a) {j : Nat} (h : j < 9) : ∃ i, i < 9 ∧ hA M a j = a + 2 + 30 * i := (o.2.2.2.2.1 j h).2
theorem HO.s (o : HO M a) {j : Nat} (h : j < 9) : SO M (hA M a j) := by
  obtain ⟨i, h1, h2⟩ := o.at h
  rw [h2]
  exact o.2.2.2.2.2.2 i h1
theorem HO.b (o : HO M a) {j : Nat} (h : j < 9) : a + 2 ≤ hA M a j ∧ hA M a j + 29 ≤ a + 271 := by
  obtain ⟨i, h1, h2⟩ := o.at h
  omega
theorem HO.ne (o : HO M a) {i j : Nat} (h : i ≠ j) (hi : i < 9) (hj : j < 9) : hA M a i + 29 < hA M a j ∨ hA M a j + 29 < hA M a i := by
  obtain ⟨x, x1, x2⟩ := o.at hi
  obtain ⟨y, y1, y2⟩ := o.at hj
  have hne : hA M a i ≠ hA M a j := by
    rcases Nat.lt_or_gt_of_ne h with q | q
    · exact o.2.2.2.2.2.1 i j q hj
    · exact (o.2.2.2.2.2.1 j i q hi).symm
  omega
theorem HO.tr (o : HO M a) (h1 : kd M' = kd M) (h2 : ln M' = ln M) (h3 : mr M' = mr M) : HO M' a := by
  obtain ⟨a1, a2, a3, a4, a5, a6, a7⟩ := o
  have hp : ∀ j, hA M' a j = hA M a j := fun j => by unfold hA; rw [h3]
  refine ⟨by rw [h1]; exact a1, by rw [h1]; exact a2, by rw [h2]; exact a3, by rw [h3]; exact a4, fun j hj => by rw [hp, h3]; exact a5 j hj, fun i j h hj => by rw [hp, hp]; exact a6 i j h hj, fun i hi => (a7 i hi).tr h1 h2 h3⟩
theorem HO.fr {b e : Nat} (o : HO M a) (r : FR M b e M') (h : a + 271 < b ∨ e < a) : HO M' a := by
  obtain ⟨a1, a2, a3, a4, a5, a6, a7⟩ := o
  have hp : ∀ j, hA M' a j = hA M a j := fun j => by unfold hA; rw [r.r (by omega)]
  refine ⟨by rw [r.k]; exact a1, by rw [r.k]; exact a2, by rw [r.l]; exact a3, by rw [r.r (by omega)]; exact a4, fun j hj => by rw [hp, r.r (by omega)]; exact a5 j hj, fun i j h hj => by rw [hp, hp]; exact a6 i j h hj, fun i hi => (a7 i hi).fr r (by omega)⟩
/-- the rows in another order -/
theorem HO.pm (o : HO M a) (h1 : kd M' = kd M) (h2 : ln M' = ln M) {w : Nat → Nat} (h3 : ∀ b, b ≠ a + 1 → mr M' b = mr M b) (h4 : ∀ j, j < 9 → mr M' (a + 1) j = mr M (a + 1) (w j)) (hb : ∀ j, j < 9 → w j < 9) (hi : ∀ i j, i < j → j < 9 → w i ≠ w j) : HO M' a ∧ ∀ j, j < 9 → hA M' a j = hA M a (w j) := by
  have hp : ∀ j, j < 9 → hA M' a j = hA M a (w j) := fun j hj => by unfold hA; rw [h4 j hj]
  refine ⟨?_, hp⟩
  obtain ⟨a1, a2, a3, a4, a5, a6, a7⟩ := o
  refine ⟨by rw [h1]; exact a1, by rw [h1]; exact a2, by rw [h2]; exact a3, by rw [h3 _ (by omega)]; exact a4, fun j hj => ?_, fun x y hxy hy => ?_, fun i hi => (a7 i hi).to h1 h2 (h3 _ (by omega)) (h3 _ (by omega)) (h3 _ (by omega))⟩
  · rw [hp j hj, h4 j hj]
    exact a5 (w j) (hb j hj)
  · rw [hp x (by omega), hp y hy]
    rcases Nat.lt_or_gt_of_ne (hi x y hxy hy) with z | z
    · exact a6 _ _ z (hb y hy)
    · exact (a6 _ _ z (hb x (by omega))).symm
end HO
/-- the first of nine becomes the last -/
def wR (j : Nat) : Nat := if j < 8 then j + 1 else if j = 8 then 0 else j
section CLASS
variable {G : GG} {M : Mm} {a s c F : Nat} {g : Nat → Int32} {q : Nat → Nat}
theorem k_X2_prepare (o : HO M a) (os : SO M s) (v : SV M s g q) (i : GI F g) (hs : a + 271 < s ∨ s + 29 < a) (hc : mi M a 1 = nI c) (h8 : c < 9) : KK G IX2_prepare [.ref a, .ref s] M (qv (fun M' => FR M (hA M a c) (hA M a c + 29) M' ∧ mr M' = mr M ∧ SV M' (hA M a c) g q) nox) := by
  have oc := o.s h8
  have bc := o.b h8
  refine KK.ofW (by decide) (by simp [Value.category]) (Nat.le_of_ble_eq_true rfl) rfl ?_
  show WW _ _ _ 0 [_, _] [] _ _ _
  refine r_aload_n (dk kX2_prepare 0 rfl) rfl ?_
  refine r_getR (dk kX2_prepare 1 rfl) fa_X2_11_1 o.k rfl o.r0 ?_
  refine r_aload_n (dk kX2_prepare 2 rfl) rfl ?_
  refine r_geti (dk kX2_prepare 3 rfl) fa_X2_18_1 o.k rfl ?_
  -- at 8
  rw [hc]
  refine r_aal (dk kX2_prepare 4 rfl) o.k1 (by decide) o.l1 rfl (show c < 9 from h8) (by decide) (o.r1 h8) ?_
  refine r_aload_n (dk kX2_prepare 5 rfl) rfl ?_
  refine r_callV (I' := IX6_copyFrom) (as := [_]) (dk kX2_prepare 6 rfl) mv_X6_copyFrom ml_X2_22 rfl rfl oc.k rfl rfl (Nat.le_of_ble_eq_true rfl) ⟨by decide, by decide⟩ ⟨Nat.le_of_ble_eq_true rfl, Nat.le_of_ble_eq_true rfl⟩ (k_X6_copyFrom oc os v i (by omega)) ?_ ?_
  · exact fun E M' z => z.elim
  rintro w M' ⟨rfl, h1, h2, h3⟩
  show WW G IX2_prepare _ 13 [.ref a, .ref s] [] M' 0 0
  refine r_return (dk kX2_prepare 7 rfl) rfl ⟨Nat.le_of_ble_eq_true rfl, Nat.le_of_ble_eq_true rfl⟩ ⟨h1, h2, h3⟩
theorem k_X2_bringBackPrepared (o : HO M a) (os : SO M s) (hs : a + 271 < s ∨ s + 29 < a) (hc : mi M a 1 = nI c) (h8 : c < 9) (v : SV M (hA M a c) g q) (i : GI F g) : KK G IX2_bringBackPrepared [.ref a, .ref s] M (qv (fun M' => FR M s (s + 29) M' ∧ mr M' = mr M ∧ SV M' s g q) nox) := by
  have oc := o.s h8
  have bc := o.b h8
  refine KK.ofW (by decide) (by simp [Value.category]) (Nat.le_of_ble_eq_true rfl) rfl ?_
  show WW _ _ _ 0 [_, _] [] _ _ _
  refine r_aload_n (dk kX2_bringBackPrepared 0 rfl) rfl ?_
  refine r_aload_n (dk kX2_bringBackPrepared 1 rfl) rfl ?_
  refine r_getR (dk kX2_bringBackPrepared 2 rfl) fa_X2_11_1 o.k rfl o.r0 ?_
  refine r_aload_n (dk kX2_bringBackPrepared 3 rfl) rfl ?_
  refine r_geti (dk kX2_bringBackPrepared 4 rfl) fa_X2_18_1 o.k rfl ?_
  -- at 9
  rw [hc]
  refine r_aal (dk kX2_bringBackPrepared 5 rfl) o.k1 (by decide) o.l1 rfl (show c < 9 from h8) (by decide) (o.r1 h8) ?_
  refine r_callV (I' := IX6_copyFrom) (as := [_]) (dk kX2_bringBackPrepared 6 rfl) mv_X6_copyFrom ml_X2_22 rfl rfl os.k rfl rfl (Nat.le_of_ble_eq_true rfl) ⟨by decide, by decide⟩ ⟨Nat.le_of_ble_eq_true rfl, Nat.le_of_ble_eq_true rfl⟩ (k_X6_copyFrom os oc v i (by omega)) ?_ ?_
  · exact fun E M' z => z.elim
  rintro w M' ⟨rfl, h1, h2, h3⟩
  show WW G IX2_bringBackPrepared _ 13 [.ref a, .ref s] [] M' 0 0
  refine r_return (dk kX2_bringBackPrepared 7 rfl) rfl ⟨Nat.le_of_ble_eq_true rfl, Nat.le_of_ble_eq_true rfl⟩ ⟨h1, h2, h3⟩
theorem k_X2_bringBackLatest (o : HO M a) (os : SO M s) (hs : a + 271 < s ∨ s + 29 < a) (hc : mi M a 1 = nI (c + 1)) (h8 : c < 8) (v : SV M (hA M a c) g q) (i : GI F g) : KK G IX2_bringBackLatest [.ref a, .ref s] M (qv (fun M' => FR (sI M a 1 (nI c)) s (s + 29) M' ∧ mr M' = mr M ∧ SV M' s g q) nox) := by
  have oc := o.s (j := c) (by omega)
  have bc := o.b (j := c) (by omega)
  refine KK.ofW (by decide) (by simp [Value.category]) (Nat.le_of_ble_eq_true rfl) rfl ?_
  show WW _ _ _ 0 [_, _] [] _ _ _
  refine r_aload_n (dk kX2_bringBackLatest 0 rfl) rfl ?_
  refine r_geti (dk kX2_bringBackLatest 1 rfl) fa_X2_18_1 o.k rfl ?_
  -- at 4
  rw [hc]
  refine r_if_le (tgt := 30) (dk kX2_bringBackLatest 2 rfl) (by decide) (fun c4 => absurd c4 (nI_nle (by omega) (by omega))) (fun c4 => ?_)
  refine r_aload_n (dk kX2_bringBackLatest 3 rfl) rfl ?_
  refine r_dup (dk kX2_bringBackLatest 4 rfl) rfl ?_
  refine r_geti (dk kX2_bringBackLatest 5 rfl) fa_X2_18_1 o.k rfl ?_
  -- at 12
  rw [hc]
  refine r_iconst (v := 1) (dk kX2_bringBackLatest 6 rfl) (by decide) ?_
  refine r_isub (dk kX2_bringBackLatest 7 rfl) ?_
  -- at 14
  rw [nI_pred]
  refine r_puti (dk kX2_bringBackLatest 8 rfl) fa_X2_18_1 o.k rfl rfl rfl rfl ?_
  refine r_aload_n (dk kX2_bringBackLatest 9 rfl) rfl ?_
  refine r_aload_n (dk kX2_bringBackLatest 10 rfl) rfl ?_
  refine r_getR (dk kX2_bringBackLatest 11 rfl) fa_X2_11_1 o.k rfl o.r0 ?_
  refine r_aload_n (dk kX2_bringBackLatest 12 rfl) rfl ?_
  refine r_geti (dk kX2_bringBackLatest 13 rfl) fa_X2_18_1 o.k rfl ?_
  -- at 26
  rw [mi_sI_s, va_up_self]
  have v' : SV (sI M a 1 (nI c)) (hA M a c) g q := v.to oc i (fun z h1 h2 => mi_sI_n _ _ _ (by omega)) rfl
  have hcp := k_X6_copyFrom (G := G) (M := sI M a 1 (nI c)) (s := s) (b := hA M a c) (os.tr rfl rfl rfl) (oc.tr rfl rfl rfl) v' i (by omega)
  refine r_aal (dk kX2_bringBackLatest 14 rfl) o.k1 (by decide) o.l1 rfl (show c < 9 by omega) (by decide) (o.r1 (by omega)) ?_
  refine r_callV (I' := IX6_copyFrom) (as := [_]) (dk kX2_bringBackLatest 15 rfl) mv_X6_copyFrom ml_X2_22 rfl rfl os.k rfl rfl (Nat.le_of_ble_eq_true rfl) ⟨by decide, by decide⟩ ⟨Nat.le_of_ble_eq_true rfl, Nat.le_of_ble_eq_true rfl⟩ hcp ?_ ?_
  · exact fun E M' z => z.elim
  rintro w M' ⟨rfl, h1, h2, h3⟩
  show WW G IX2_bringBackLatest _ 30 [.ref a, .ref s] [] M' 0 0
  refine r_return (dk kX2_bringBackLatest 16 rfl) rfl ⟨Nat.le_of_ble_eq_true rfl, Nat.le_of_ble_eq_true rfl⟩ ⟨h1, h2, h3⟩
theorem k_X2_forget (o : HO M a) : KU G IX2_forget [.ref a] M (sI M a 1 0) := by
  refine KK.ofW (by decide) (by simp [Value.category]) (Nat.le_of_ble_eq_true rfl) rfl ?_
  show WW _ _ _ 0 [_] [] _ _ _
  refine r_aload_n (dk kX2_forget 0 rfl) rfl ?_
  refine r_iconst (v := 0) (dk kX2_forget 1 rfl) (by decide) ?_
  refine r_puti (dk kX2_forget 2 rfl) fa_X2_18_1 o.k rfl rfl rfl rfl ?_
  refine r_return (dk kX2_forget 3 rfl) rfl ⟨Nat.le_of_ble_eq_true rfl, Nat.le_of_ble_eq_true rfl⟩ rfl
theorem k_X2_keepPreparedO (o : HO M a) (hc : mi M a 1 = nI c) (h8 : c < 8) : KU G IX2_keepPrepared [.ref a] M (sI M a 1 (nI (c + 1))) := by
  refine KK.ofW (by decide) (by simp [Value.category]) (Nat.le_of_ble_eq_true rfl) rfl ?_
  show WW _ _ _ 0 [_, lj, lj] [] _ _ _
  refine r_aload_n (dk kX2_keepPrepared 0 rfl) rfl ?_
  refine r_geti (dk kX2_keepPrepared 1 rfl) fa_X2_18_1 o.k rfl ?_
  -- at 4
  rw [hc]
  refine r_bipush (v := 8) (dk kX2_keepPrepared 2 rfl) (by decide) ?_
  refine r_icmp_ge (tgt := 20) (dk kX2_keepPrepared 3 rfl) (by decide) (fun c6 => absurd c6 (nI_ge (a := c) (b := 8) h8 (by decide))) (fun c6 => ?_)
  refine r_aload_n (dk kX2_keepPrepared 4 rfl) rfl ?_
  refine r_dup (dk kX2_keepPrepared 5 rfl) rfl ?_
  refine r_geti (dk kX2_keepPrepared 6 rfl) fa_X2_18_1 o.k rfl ?_
  -- at 14
  rw [hc]
  refine r_iconst (v := 1) (dk kX2_keepPrepared 7 rfl) (by decide) ?_
  refine r_iadd (dk kX2_keepPrepared 8 rfl) ?_
  -- at 16
  rw [nI_1]
  refine r_puti (dk kX2_keepPrepared 9 rfl) fa_X2_18_1 o.k rfl rfl rfl rfl ?_
  refine r_return (dk kX2_keepPrepared 10 rfl) rfl ⟨Nat.le_of_ble_eq_true rfl, Nat.le_of_ble_eq_true rfl⟩ rfl
theorem k_X2_keepPreparedF (o : HO M a) (hc : mi M a 1 = nI 8) : KU G IX2_keepPrepared [.ref a] M (sQ M (a + 1) (fun j => mr M (a + 1) (wR j))) := by
  refine KK.ofW (by decide) (by simp [Value.category]) (Nat.le_of_ble_eq_true rfl) rfl ?_
  show WW _ _ _ 0 [_, lj, lj] [] _ _ _
  refine r_aload_n (dk kX2_keepPrepared 0 rfl) rfl ?_
  refine r_geti (dk kX2_keepPrepared 1 rfl) fa_X2_18_1 o.k rfl ?_
  -- at 4
  rw [hc]
  refine r_bipush (v := 8) (dk kX2_keepPrepared 2 rfl) (by decide) ?_
  refine r_icmp_ge (tgt := 20) (dk kX2_keepPrepared 3 rfl) (by decide) (fun c6 => ?_) (fun c6 => absurd (Int32.le_refl _) c6)
  refine r_aload_n (dk kX2_keepPrepared 11 rfl) rfl ?_
  refine r_getR (dk kX2_keepPrepared 12 rfl) fa_X2_11_1 o.k rfl o.r0 ?_
  refine r_iconst (v := 0) (dk kX2_keepPrepared 13 rfl) (by decide) ?_
  refine r_aal (dk kX2_keepPrepared 14 rfl) o.k1 (by decide) o.l1 (j := 0) rfl (by decide) (by decide) (o.r1 (by decide)) ?_
  refine r_astore_n (j := 1) (dk kX2_keepPrepared 15 rfl) rfl (by decide) rfl ?_
  simp only [List.set_cons_succ, List.set_cons_zero]
  refine r_iconst (v := 0) (dk kX2_keepPrepared 16 rfl) (by decide) ?_
  refine r_istore_n (j := 2) (dk kX2_keepPrepared 17 rfl) rfl (by decide) rfl ?_
  simp only [List.set_cons_succ, List.set_cons_zero]
  -- at 29
  suffices key : ∀ d j, j + d = 8 → WW G IX2_keepPrepared (qv (fun M' => M' = sQ M (a + 1) (fun j => mr M (a + 1) (wR j))) nox) 29 [.ref a, .ref (hA M a 0), .int (nI j)] [] (sQ M (a + 1) (fun i => if i < j then mr M (a + 1) (i + 1) else mr M (a + 1) i)) 0 0 by
    have h := key 8 0 rfl
    rw [show (fun i => if i < 0 then mr M (a + 1) (i + 1) else mr M (a + 1) i) = mr M (a + 1) from funext fun i => if_neg (Nat.not_lt_zero i), sQ_eq] at h
    exact h
  intro d
  induction d with
  | zero =>
    intro j hj
    have hj : j = 8 := hj
    subst hj
    refine r_iload_n (dk kX2_keepPrepared 18 rfl) rfl ?_
    refine r_bipush (v := 8) (dk kX2_keepPrepared 19 rfl) (by decide) ?_
    refine r_icmp_ge (tgt := 55) (dk kX2_keepPrepared 20 rfl) (by decide) (fun c32 => ?_) (fun c32 => absurd (Int32.le_refl _) c32)
    refine r_aload_n (dk kX2_keepPrepared 33 rfl) rfl ?_
    refine r_getR (dk kX2_keepPrepared 34 rfl) fa_X2_11_1 o.k rfl (by rw [mr_sQ_n _ _ (by omega)]; exact o.r0) ?_
    refine r_bipush (v := 8) (dk kX2_keepPrepared 35 rfl) (by decide) ?_
    refine r_aload_n (dk kX2_keepPrepared 36 rfl) rfl ?_
    refine r_aas (dk kX2_keepPrepared 37 rfl) o.k1 (by decide) o.l1 (j := 8) rfl (by decide) (by decide) (o.s (j := 0) (by decide)).k ?_
    -- at 63
    rw [sR_sQ]
    refine r_return (dk kX2_keepPrepared 38 rfl) rfl ⟨Nat.le_of_ble_eq_true rfl, Nat.le_of_ble_eq_true rfl⟩ ?_
    congr 1
    funext i
    unfold wR
    by_cases e : i = 8
    · rw [e, va_up_self, if_neg (by decide), if_pos rfl, o.r1 (by decide)]
    · rw [va_up_ne _ _ e]
      by_cases e2 : i < 8
      · rw [if_pos e2, if_pos e2]
      · rw [if_neg e2, if_neg e2, if_neg e]
  | succ d ih =>
    intro j hj
    have e1 : mr (sQ M (a + 1) (fun i => if i < j then mr M (a + 1) (i + 1) else mr M (a + 1) i)) (a + 1) (j + 1) = some (hA M a (j + 1)) := by
      rw [mr_sQ_s]
      show (if j + 1 < j then _ else mr M (a + 1) (j + 1)) = _
      rw [if_neg (by omega), o.r1 (by omega)]
    refine r_iload_n (dk kX2_keepPrepared 18 rfl) rfl ?_
    refine r_bipush (v := 8) (dk kX2_keepPrepared 19 rfl) (by decide) ?_
    refine r_icmp_ge (tgt := 55) (dk kX2_keepPrepared 20 rfl) (by decide) (fun c32 => absurd c32 (nI_ge (a := j) (b := 8) (by omega) (by decide))) (fun c32 => ?_)
    refine r_aload_n (dk kX2_keepPrepared 21 rfl) rfl ?_
    refine r_getR (dk kX2_keepPrepared 22 rfl) fa_X2_11_1 o.k rfl (by rw [mr_sQ_n _ _ (by omega)]; exact o.r0) ?_
    refine r_iload_n (dk kX2_keepPrepared 23 rfl) rfl ?_
    refine r_aload_n (dk kX2_keepPrepared 24 rfl) rfl ?_
    refine r_getR (dk kX2_keepPrepared 25 rfl) fa_X2_11_1 o.k rfl (by rw [mr_sQ_n _ _ (by omega)]; exact o.r0) ?_
    refine r_iload_n (dk kX2_keepPrepared 26 rfl) rfl ?_
    refine r_iconst (v := 1) (dk kX2_keepPrepared 27 rfl) (by decide) ?_
    refine r_iadd (dk kX2_keepPrepared 28 rfl) ?_
    -- at 47
    rw [nI_1]
    refine r_aal (dk kX2_keepPrepared 29 rfl) o.k1 (by decide) o.l1 rfl (show j + 1 < 9 by omega) (by decide) e1 ?_
    refine r_aas (dk kX2_keepPrepared 30 rfl) o.k1 (by decide) o.l1 rfl (show j < 9 by omega) (by decide) (o.s (j := j + 1) (by omega)).k ?_
    -- at 49
    rw [sR_sQ]
    refine r_iinc (dk kX2_keepPrepared 31 rfl) (by decide) rfl rfl rfl ?_
    simp only [List.set_cons_succ, List.set_cons_zero]
    refine r_goto (tgt := 29) (dk kX2_keepPrepared 32 rfl) (by decide) ?_
    -- at 29
    rw [show nI j + Int32.ofInt 1 = nI (j + 1) from nI_1 j]
    have h := ih (j + 1) (by omega)
    rw [show (va_up (fun i => if i < j then mr M (a + 1) (i + 1) else mr M (a + 1) i) j (some (hA M a (j + 1)))) = (fun i => if i < j + 1 then mr M (a + 1) (i + 1) else mr M (a + 1) i) from funext fun i => by
      by_cases e : i = j
      · rw [e, va_up_self, if_pos (by omega), o.r1 (by omega)]
      · rw [va_up_ne _ _ e]
        by_cases e2 : i < j
        · rw [if_pos e2, if_pos (by omega)]
        · rw [if_neg e2, if_neg (by omega)]]
    exact h
end CLASS
