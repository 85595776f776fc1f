/-! THE REFERENCE: the run of a text -/
theorem qR_cnt (inp : Nat → Int32) (n : Nat) : ∀ (w : List Int32) (s : QS), (qR inp n w s).1 = true → (qR inp n w s).2.2.1 = s.2.1 + (w.filter (fun c => c == 68 || c == 78)).length
  | [], s, _ => rfl
  | c :: cs, s, hok => by
    have ih := qR_cnt inp n cs
    have hok : (if c = 68 ∨ c = 78 then (if qDg inp n s.1 = true then qR inp n cs ((qV inp n s.1 (decide (c = 78))).2, s.2.1 + 1, va_up s.2.2 s.2.1 (qV inp n s.1 (decide (c = 78))).1) else (false, s)) else if hC inp n s.1 = c then qR inp n cs (s.1 + 1, s.2) else (false, s)).1 = true := hok
    show (if c = 68 ∨ c = 78 then (if qDg inp n s.1 = true then qR inp n cs ((qV inp n s.1 (decide (c = 78))).2, s.2.1 + 1, va_up s.2.2 s.2.1 (qV inp n s.1 (decide (c = 78))).1) else (false, s)) else if hC inp n s.1 = c then qR inp n cs (s.1 + 1, s.2) else (false, s)).2.2.1 = _
    by_cases h1 : c = 68 ∨ c = 78
    · have h3 : (c == 68 || c == 78) = true := by simpa using h1
      rw [if_pos h1] at hok
      rw [if_pos h1, show ((c :: cs).filter (fun c => c == 68 || c == 78)) = c :: cs.filter (fun c => c == 68 || c == 78) from by simp only [List.filter_cons]; rw [if_pos h3], List.length_cons]
      by_cases h2 : qDg inp n s.1 = true
      · rw [if_pos h2] at hok ⊢
        have h4 := ih _ hok
        have h4 : _ = s.2.1 + 1 + _ := h4
        omega
      · rw [if_neg h2] at hok
        cases hok
    · have h3 : ¬ (c == 68 || c == 78) = true := by simpa using h1
      rw [if_neg h1] at hok
      rw [if_neg h1, show ((c :: cs).filter (fun c => c == 68 || c == 78)) = cs.filter (fun c => c == 68 || c == 78) from by simp only [List.filter_cons]; rw [if_neg h3]]
      by_cases h2 : hC inp n s.1 = c
      · rw [if_pos h2] at hok ⊢
        exact ih _ hok
      · rw [if_neg h2] at hok
        cases hok
theorem pC_n {inp : Nat → Int32} {n p : Nat} (hok : (pC inp n p).1 = true) : (pC inp n p).2.2.1 = pN (hC inp n p) ∧ pI (hC inp n p) ≠ none := by
  unfold pC pN at *
  cases e : pI (hC inp n p) with
  | none => rw [e] at hok; cases hok
  | some i =>
    rw [e] at hok
    refine ⟨?_, fun z => by cases z⟩
    have h := qR_cnt inp n (tx_byt.getD i []) (p, 0, fun _ => 0) hok
    rw [Nat.zero_add] at h
    exact h
theorem tOK_all {inp : Nat → Int32} {n : Nat} (h : (tOK inp n).1 = true) : (tOK inp n).2.2 ≤ 9 ∧ 0 < (tOK inp n).2.2 ∧ ∀ j, j < (tOK inp n).2.2 → (pC inp n (ps inp n j)).1 = true := by
  unfold tOK at h ⊢
  cases e : fx (fun k => !gd inp n k) 9 with
  | none => rw [e] at h; cases h
  | some K =>
    rw [e] at h
    simp only at h ⊢
    obtain ⟨h1, h2, h3⟩ := fx_some.mp e
    by_cases hok : (pC inp n (ps inp n K)).1 = true
    · rw [if_pos hok]
      refine ⟨by show K + 1 ≤ 9; omega, Nat.succ_pos K, fun j hj => ?_⟩
      have hj : j < K + 1 := hj
      rcases Nat.lt_succ_iff_lt_or_eq.mp hj with q | q
      · have h4 := h3 j q
        have h5 : gd inp n j = true := by
          cases hg : gd inp n j with
          | true => rfl
          | false => rw [hg] at h4; cases h4
        exact (Bool.and_eq_true_iff.mp h5).1
      · rw [q]; exact hok
    · rw [if_neg hok] at h
      cases h
def xL (inp : Nat → Int32) (n j : Nat) : Int32 := hC inp n (ps inp n j)
def xA (inp : Nat → Int32) (n j : Nat) : Nat → Nat := (pC inp n (ps inp n j)).2.2.2
/-- the state behind the first j commands -/
def rG (g inp : Nat → Int32) (n : Nat) : Nat → Nat → Int32
  | 0 => g
  | j + 1 => (sp_cmd (rG g inp n j) (xL inp n j) (xA inp n j)).2.2.2
/-- what the j-th command does -/
def rC (g inp : Nat → Int32) (n j : Nat) : CO := sp_cmd (rG g inp n j) (xL inp n j) (xA inp n j)
theorem GI_rG {F : Nat} {g inp : Nat → Int32} {n : Nat} (i : GI F g) : ∀ {j}, F + j < 2 ^ 30 → (∀ z, z < j → (rC g inp n z).1 = 0) → GI (F + j) (rG g inp n j)
  | 0, _, _ => i
  | j + 1, hF, h => GI_cmd (GI_rG i (j := j) (by omega) fun z hz => h z (by omega)) (by omega) (h j (by omega))
/-- every command's outcome: done, thrown or denied -/
def COk (c : CO) : Prop := c.1 = 0 ∨ (0 < c.1 ∧ c.2.2.1 = 0)
theorem ok_o (v : Int32) (g : Nat → Int32) : COk (cOk v g) := Or.inl rfl
theorem ok_t {p : Int32} (h : 0 < p) : COk (cThr p) := Or.inr ⟨h, rfl⟩
theorem ok_d {p : Int32} (h : 0 < p) (a b : Int32) : COk (cDen p a b) := Or.inr ⟨h, rfl⟩
theorem COk_addStone (g : Nat → Int32) (c w : Int32) : COk (sp_addStone g c w) := by
  unfold sp_addStone
  repeat' split
  all_goals first | exact ok_o _ _ | exact ok_t (p := 1) (by decide) | exact ok_t (p := 2) (by decide) | exact ok_d (p := 1) (by decide) _ _ | exact ok_d (p := 2) (by decide) _ _ | exact ok_d (p := 3) (by decide) _ _
theorem COk_addOfficer (g : Nat → Int32) (c : Int32) : COk (sp_addOfficer g c) := by
  unfold sp_addOfficer
  repeat' split
  all_goals first | exact ok_o _ _ | exact ok_t (p := 1) (by decide) | exact ok_t (p := 2) (by decide) | exact ok_d (p := 1) (by decide) _ _ | exact ok_d (p := 2) (by decide) _ _ | exact ok_d (p := 3) (by decide) _ _
theorem COk_setQuorum (g : Nat → Int32) (c : Int32) : COk (sp_setQuorum g c) := by
  unfold sp_setQuorum
  repeat' split
  all_goals first | exact ok_o _ _ | exact ok_t (p := 1) (by decide) | exact ok_t (p := 2) (by decide) | exact ok_d (p := 1) (by decide) _ _ | exact ok_d (p := 2) (by decide) _ _ | exact ok_d (p := 3) (by decide) _ _
theorem COk_file (g : Nat → Int32) (a s c u : Int32) : COk (sp_file g a s c u) := by
  unfold sp_file
  repeat' split
  all_goals first | exact ok_o _ _ | exact ok_t (p := 1) (by decide) | exact ok_t (p := 2) (by decide) | exact ok_d (p := 1) (by decide) _ _ | exact ok_d (p := 2) (by decide) _ _ | exact ok_d (p := 3) (by decide) _ _
theorem COk_vote (g : Nat → Int32) (a x b : Int32) : COk (sp_vote g a x b) := by
  unfold sp_vote
  repeat' split
  all_goals first | exact ok_o _ _ | exact ok_t (p := 1) (by decide) | exact ok_t (p := 2) (by decide) | exact ok_d (p := 1) (by decide) _ _ | exact ok_d (p := 2) (by decide) _ _ | exact ok_d (p := 3) (by decide) _ _
theorem COk_cite (g : Nat → Int32) (x r : Int32) : COk (sp_cite g x r) := by
  unfold sp_cite
  repeat' split
  all_goals first | exact ok_o _ _ | exact ok_t (p := 1) (by decide) | exact ok_t (p := 2) (by decide) | exact ok_d (p := 1) (by decide) _ _ | exact ok_d (p := 2) (by decide) _ _ | exact ok_d (p := 3) (by decide) _ _
theorem COk_veto (g : Nat → Int32) (a x : Int32) : COk (sp_veto g a x) := by
  unfold sp_veto
  repeat' split
  all_goals first | exact ok_o _ _ | exact ok_t (p := 1) (by decide) | exact ok_t (p := 2) (by decide) | exact ok_d (p := 1) (by decide) _ _ | exact ok_d (p := 2) (by decide) _ _ | exact ok_d (p := 3) (by decide) _ _
theorem COk_withdraw (g : Nat → Int32) (x : Int32) : COk (sp_withdraw g x) := by
  unfold sp_withdraw
  repeat' split
  all_goals first | exact ok_o _ _ | exact ok_t (p := 1) (by decide) | exact ok_t (p := 2) (by decide) | exact ok_d (p := 1) (by decide) _ _ | exact ok_d (p := 2) (by decide) _ _ | exact ok_d (p := 3) (by decide) _ _
theorem COk_decide (g : Nat → Int32) : COk (sp_decide g ) := by
  unfold sp_decide
  repeat' split
  all_goals first | exact ok_o _ _ | exact ok_t (p := 1) (by decide) | exact ok_t (p := 2) (by decide) | exact ok_d (p := 1) (by decide) _ _ | exact ok_d (p := 2) (by decide) _ _ | exact ok_d (p := 3) (by decide) _ _
theorem COk_cmd (g : Nat → Int32) (c : Int32) (a : Nat → Nat) : COk (sp_cmd g c a) := by
  unfold sp_cmd
  by_cases e115 : c = 115
  · rw [if_pos e115]
    exact COk_addStone g _ _
  rw [if_neg e115]
  by_cases e111 : c = 111
  · rw [if_pos e111]
    exact COk_addOfficer g _
  rw [if_neg e111]
  by_cases e113 : c = 113
  · rw [if_pos e113]
    exact COk_setQuorum g _
  rw [if_neg e113]
  by_cases e102 : c = 102
  · rw [if_pos e102]
    exact COk_file g _ _ _ _
  rw [if_neg e102]
  by_cases e121 : c = 121
  · rw [if_pos e121]
    exact COk_vote g _ _ _
  rw [if_neg e121]
  by_cases e110 : c = 110
  · rw [if_pos e110]
    exact COk_vote g _ _ _
  rw [if_neg e110]
  by_cases e99 : c = 99
  · rw [if_pos e99]
    exact COk_cite g _ _
  rw [if_neg e99]
  by_cases e118 : c = 118
  · rw [if_pos e118]
    exact COk_veto g _ _
  rw [if_neg e118]
  by_cases e119 : c = 119
  · rw [if_pos e119]
    exact COk_withdraw g _
  rw [if_neg e119]
  exact COk_decide g
section MODEL
variable {G : GG} {M : Mm} {h : Nat}
theorem k_X9_deniesText (o : MO M h) (d : Int32) : KE G IX9_deniesText [.ref h, .int d] M 0 (sI (sI (mDeny M h 2 12 d) h 11 (if mi M h 7 = 0 then 13 else mi M h 9)) h 12 (if mi M h 7 = 0 then 0 else mi M h 10)) := by
  refine KK.ofW (by decide) (by simp [Value.category]) (Nat.le_of_ble_eq_true rfl) rfl ?_
  show WW _ _ _ 0 [_, _, lj, lj] [] _ _ _
  by_cases h7 : mi M h 7 = 0
  · rw [if_pos h7, if_pos h7]
    refine r_aload_n (dk kX9_deniesText 0 rfl) rfl ?_
    refine r_geti (dk kX9_deniesText 1 rfl) fa_X9_42_8 o.k rfl ?_
    refine r_if_eq (tgt := 14) (dk kX9_deniesText 2 rfl) (by decide) (fun c4 => ?_) (fun c4 => absurd h7 c4)
    refine r_bipush (v := 13) (dk kX9_deniesText 6 rfl) (by decide) ?_
    refine r_istore_n (j := 2) (dk kX9_deniesText 7 rfl) rfl (by decide) rfl ?_
    simp only [List.set_cons_succ, List.set_cons_zero]
    refine r_aload_n (dk kX9_deniesText 8 rfl) rfl ?_
    refine r_geti (dk kX9_deniesText 9 rfl) fa_X9_42_8 o.k rfl ?_
    refine r_if_eq (tgt := 31) (dk kX9_deniesText 10 rfl) (by decide) (fun c21 => ?_) (fun c21 => absurd h7 c21)
    refine r_iconst (v := 0) (dk kX9_deniesText 14 rfl) (by decide) ?_
    refine r_istore_n (j := 3) (dk kX9_deniesText 15 rfl) rfl (by decide) rfl ?_
    simp only [List.set_cons_succ, List.set_cons_zero]
    refine r_aload_n (dk kX9_deniesText 16 rfl) rfl ?_
    refine r_iconst (v := 2) (dk kX9_deniesText 17 rfl) (by decide) ?_
    refine r_bipush (v := 12) (dk kX9_deniesText 18 rfl) (by decide) ?_
    refine r_iload_n (dk kX9_deniesText 19 rfl) rfl ?_
    refine r_callVp (I' := IX9_denies) (as := [_, _, _]) (dk kX9_deniesText 20 rfl) mv_X9_denies ml_X9_86 rfl rfl o.k rfl rfl (Nat.le_of_ble_eq_true rfl) ⟨by decide, by decide⟩ ⟨rfl, rfl⟩ ⟨Nat.le_of_ble_eq_true rfl, Nat.le_of_ble_eq_true rfl⟩ (k_X9_denies o _ _ _) ?_
    refine r_pop (dk kX9_deniesText 21 rfl) rfl ?_
    refine r_aload_n (dk kX9_deniesText 22 rfl) rfl ?_
    refine r_iload_n (dk kX9_deniesText 23 rfl) rfl ?_
    refine r_puti (dk kX9_deniesText 24 rfl) fa_X9_52_8 o.k rfl rfl rfl rfl ?_
    refine r_aload_n (dk kX9_deniesText 25 rfl) rfl ?_
    refine r_iload_n (dk kX9_deniesText 26 rfl) rfl ?_
    refine r_puti (dk kX9_deniesText 27 rfl) fa_X9_55_8 o.k rfl rfl rfl rfl ?_
    refine r_iconst (v := 0) (dk kX9_deniesText 28 rfl) (by decide) ?_
    refine r_ireturn (dk kX9_deniesText 29 rfl) rfl rfl ⟨Nat.le_of_ble_eq_true rfl, Nat.le_of_ble_eq_true rfl⟩ ⟨rfl, rfl⟩
  · rw [if_neg h7, if_neg h7]
    refine r_aload_n (dk kX9_deniesText 0 rfl) rfl ?_
    refine r_geti (dk kX9_deniesText 1 rfl) fa_X9_42_8 o.k rfl ?_
    refine r_if_eq (tgt := 14) (dk kX9_deniesText 2 rfl) (by decide) (fun c4 => absurd c4 h7) (fun c4 => ?_)
    refine r_aload_n (dk kX9_deniesText 3 rfl) rfl ?_
    refine r_geti (dk kX9_deniesText 4 rfl) fa_X9_46_8 o.k rfl ?_
    refine r_goto (tgt := 16) (dk kX9_deniesText 5 rfl) (by decide) ?_
    refine r_istore_n (j := 2) (dk kX9_deniesText 7 rfl) rfl (by decide) rfl ?_
    simp only [List.set_cons_succ, List.set_cons_zero]
    refine r_aload_n (dk kX9_deniesText 8 rfl) rfl ?_
    refine r_geti (dk kX9_deniesText 9 rfl) fa_X9_42_8 o.k rfl ?_
    refine r_if_eq (tgt := 31) (dk kX9_deniesText 10 rfl) (by decide) (fun c21 => absurd c21 h7) (fun c21 => ?_)
    refine r_aload_n (dk kX9_deniesText 11 rfl) rfl ?_
    refine r_geti (dk kX9_deniesText 12 rfl) fa_X9_49_8 o.k rfl ?_
    refine r_goto (tgt := 32) (dk kX9_deniesText 13 rfl) (by decide) ?_
    refine r_istore_n (j := 3) (dk kX9_deniesText 15 rfl) rfl (by decide) rfl ?_
    simp only [List.set_cons_succ, List.set_cons_zero]
    refine r_aload_n (dk kX9_deniesText 16 rfl) rfl ?_
    refine r_iconst (v := 2) (dk kX9_deniesText 17 rfl) (by decide) ?_
    refine r_bipush (v := 12) (dk kX9_deniesText 18 rfl) (by decide) ?_
    refine r_iload_n (dk kX9_deniesText 19 rfl) rfl ?_
    refine r_callVp (I' := IX9_denies) (as := [_, _, _]) (dk kX9_deniesText 20 rfl) mv_X9_denies ml_X9_86 rfl rfl o.k rfl rfl (Nat.le_of_ble_eq_true rfl) ⟨by decide, by decide⟩ ⟨rfl, rfl⟩ ⟨Nat.le_of_ble_eq_true rfl, Nat.le_of_ble_eq_true rfl⟩ (k_X9_denies o _ _ _) ?_
    refine r_pop (dk kX9_deniesText 21 rfl) rfl ?_
    refine r_aload_n (dk kX9_deniesText 22 rfl) rfl ?_
    refine r_iload_n (dk kX9_deniesText 23 rfl) rfl ?_
    refine r_puti (dk kX9_deniesText 24 rfl) fa_X9_52_8 o.k rfl rfl rfl rfl ?_
    refine r_aload_n (dk kX9_deniesText 25 rfl) rfl ?_
    refine r_iload_n (dk kX9_deniesText 26 rfl) rfl ?_
    refine r_puti (dk kX9_deniesText 27 rfl) fa_X9_55_8 o.k rfl rfl rfl rfl ?_
    refine r_iconst (v := 0) (dk kX9_deniesText 28 rfl) (by decide) ?_
    refine r_ireturn (dk kX9_deniesText 29 rfl) rfl rfl ⟨Nat.le_of_ble_eq_true rfl, Nat.le_of_ble_eq_true rfl⟩ ⟨rfl, rfl⟩
/-- nothing but the reference's ints has changed -/
def MR (M : Mm) (h : Nat) (M' : Mm) : Prop := kd M' = kd M ∧ ln M' = ln M ∧ mr M' = mr M ∧ mj M' = mj M ∧ md M' = md M ∧ nx M' = nx M ∧ ∀ b, (b < h ∨ h + 8 < b) → mi M' b = mi M b
theorem MR.rfl (M : Mm) (h : Nat) : MR M h M := ⟨_root_.rfl, _root_.rfl, _root_.rfl, _root_.rfl, _root_.rfl, _root_.rfl, fun _ _ => _root_.rfl⟩
theorem MR.sA {M M' : Mm} {h : Nat} (r : MR M h M') {a : Nat} (f : Nat → Int32) (ha : h ≤ a ∧ a ≤ h + 8) : MR M h (sA M' a f) := by
  obtain ⟨r1, r2, r3, r4, r5, r6, r7⟩ := r
  exact ⟨r1, r2, r3, r4, r5, r6, fun b hb => (mi_sA_n _ _ (by omega)).trans (r7 b hb)⟩
theorem MR.sI {M M' : Mm} {h : Nat} (r : MR M h M') {a : Nat} (j : Nat) (v : Int32) (ha : h ≤ a ∧ a ≤ h + 8) : MR M h (sI M' a j v) := r.sA _ ha
theorem MO.mr {M' : Mm} (o : MO M h) (r : MR M h M') : MO M' h := o.to r.1 r.2.1 r.2.2.1
/-- the fields while a text runs: f is f0 but for what a throw leaves -/
def Fld (f0 f : Nat → Int32) : Prop := ∀ i, i ≠ 7 → i ≠ 8 → f i = f0 i
end MODEL
