/-! THE REFERENCE: the whole text -/
theorem sw_def : ∀ m, m < 23 → (m ≠ 0 ∧ m ≠ 1 ∧ m ≠ 3 ∧ m ≠ 11 ∧ m ≠ 12 ∧ m ≠ 14 ∧ m ≠ 16 ∧ m ≠ 19 ∧ m ≠ 20 ∧ m ≠ 22) → (#[317, 411, 418, 190, 418, 418, 418, 418, 418, 418, 418, 282, 142, 418, 166, 418, 107, 418, 418, 352, 387, 418, 247] : Array Int)[m]? = some 418 := by decide +kernel
section MODEL
variable {G : GG} {M : Mm} {h : Nat}
theorem k_X9_commandHere (o : MO M h) {n : Nat} {inp : Nat → Int32} (t : mIn M h n inp) {tl : Nat → Int32} {p k : Nat} (hp : p ≤ n) (hk : k < 30) : KK G IX9_commandHere [.ref h] (mTx M h tl p k) (QCm M h inp n tl p k) := by
  refine KK.ofW (by decide) (by simp [Value.category]) (Nat.le_of_ble_eq_true rfl) rfl ?_
  show WW _ _ _ 0 [_, lj] [] _ _ _
  refine r_iconst (v := 5) (dk kX9_commandHere_p0 0 rfl) (by decide) ?_
  refine r_aload_n (dk kX9_commandHere_p0 1 rfl) rfl ?_
  refine r_geti (dk kX9_commandHere_p0 2 rfl) fa_X9_174_8 o.k rfl ?_
  -- at 5
  rw [mt_21]
  refine r_imul (dk kX9_commandHere_p0 3 rfl) ?_
  -- at 6
  rw [show (5 : Int32) * nI k = nI (5 * k) from pk_mul 5 k]
  refine r_iconst (v := 1) (dk kX9_commandHere_p0 4 rfl) (by decide) ?_
  refine r_iadd (dk kX9_commandHere_p0 5 rfl) ?_
  -- at 8
  rw [nI_1]
  refine r_istore_n (j := 1) (dk kX9_commandHere_p0 6 rfl) rfl (by decide) rfl ?_
  simp only [List.set_cons_succ, List.set_cons_zero]
  refine r_aload_n (dk kX9_commandHere_p0 7 rfl) rfl ?_
  refine r_callVp (I' := IX9_here) (as := []) (dk kX9_commandHere_p0 8 rfl) mv_X9_here ml_X9_170 rfl rfl o.k rfl rfl (Nat.le_of_ble_eq_true rfl) ⟨by decide, by decide⟩ ⟨rfl, rfl⟩ ⟨Nat.le_of_ble_eq_true rfl, Nat.le_of_ble_eq_true rfl⟩ (k_X9_here o t hp) ?_
  -- at 13
  by_cases e115 : hC inp n p = 115
  · refine r_switchIn (off := 107) (tgt := 120) (dk kX9_commandHere_p0 9 rfl) (by rw [e115]; decide) (by rw [e115]; decide) (by rw [e115]; rfl) (by decide) ?_
    exact k_cmd_s o t hp hk e115
  by_cases e111 : hC inp n p = 111
  · refine r_switchIn (off := 142) (tgt := 155) (dk kX9_commandHere_p0 9 rfl) (by rw [e111]; decide) (by rw [e111]; decide) (by rw [e111]; rfl) (by decide) ?_
    exact k_cmd_o o t hp hk e111
  by_cases e113 : hC inp n p = 113
  · refine r_switchIn (off := 166) (tgt := 179) (dk kX9_commandHere_p0 9 rfl) (by rw [e113]; decide) (by rw [e113]; decide) (by rw [e113]; rfl) (by decide) ?_
    exact k_cmd_q o t hp hk e113
  by_cases e102 : hC inp n p = 102
  · refine r_switchIn (off := 190) (tgt := 203) (dk kX9_commandHere_p0 9 rfl) (by rw [e102]; decide) (by rw [e102]; decide) (by rw [e102]; rfl) (by decide) ?_
    exact k_cmd_f o t hp hk e102
  by_cases e121 : hC inp n p = 121
  · refine r_switchIn (off := 247) (tgt := 260) (dk kX9_commandHere_p0 9 rfl) (by rw [e121]; decide) (by rw [e121]; decide) (by rw [e121]; rfl) (by decide) ?_
    exact k_cmd_y o t hp hk e121
  by_cases e110 : hC inp n p = 110
  · refine r_switchIn (off := 282) (tgt := 295) (dk kX9_commandHere_p0 9 rfl) (by rw [e110]; decide) (by rw [e110]; decide) (by rw [e110]; rfl) (by decide) ?_
    exact k_cmd_n o t hp hk e110
  by_cases e99 : hC inp n p = 99
  · refine r_switchIn (off := 317) (tgt := 330) (dk kX9_commandHere_p0 9 rfl) (by rw [e99]; decide) (by rw [e99]; decide) (by rw [e99]; rfl) (by decide) ?_
    exact k_cmd_c o t hp hk e99
  by_cases e118 : hC inp n p = 118
  · refine r_switchIn (off := 352) (tgt := 365) (dk kX9_commandHere_p0 9 rfl) (by rw [e118]; decide) (by rw [e118]; decide) (by rw [e118]; rfl) (by decide) ?_
    exact k_cmd_v o t hp hk e118
  by_cases e119 : hC inp n p = 119
  · refine r_switchIn (off := 387) (tgt := 400) (dk kX9_commandHere_p0 9 rfl) (by rw [e119]; decide) (by rw [e119]; decide) (by rw [e119]; rfl) (by decide) ?_
    exact k_cmd_w o t hp hk e119
  by_cases e100 : hC inp n p = 100
  · refine r_switchIn (off := 411) (tgt := 424) (dk kX9_commandHere_p0 9 rfl) (by rw [e100]; decide) (by rw [e100]; decide) (by rw [e100]; rfl) (by decide) ?_
    exact k_cmd_d o t hp hk e100
  have e : pC inp n p = (false, (p, 0, fun _ => 0)) := by
    unfold pC pI
    rw [if_neg e115, if_neg e111, if_neg e113, if_neg e102, if_neg e121, if_neg e110, if_neg e99, if_neg e118, if_neg e119, if_neg e100]
  have fin : WW G IX9_commandHere (QCm M h inp n tl p k) 431 [.ref h, .int (nI (5 * k + 1))] [] (mTx M h tl p k) 0 0 := by
    refine r_iconst (v := 0) (dk kX9_commandHere_p3 7 rfl) (by decide) ?_
    refine r_ireturn (dk kX9_commandHere_p3 8 rfl) rfl rfl ⟨Nat.le_of_ble_eq_true rfl, Nat.le_of_ble_eq_true rfl⟩ ⟨by rw [e]; rfl, tl, by rw [e], fun _ _ => rfl, fun z => by rw [e] at z; cases z⟩
  by_cases hr : (hC inp n p).toInt < 99 ∨ 121 < (hC inp n p).toInt
  · exact r_switchOut (tgt := 431) (dk kX9_commandHere_p0 9 rfl) hr (by decide) fin
  · have h1 : ¬ (hC inp n p).toInt < 99 := fun z => hr (Or.inl z)
    have h2 : ¬ 121 < (hC inp n p).toInt := fun z => hr (Or.inr z)
    have h0 : ¬ hC inp n p < 0 := by
      intro z
      have := Int32.lt_iff_toInt_lt.mp z
      have e0 : (0 : Int32).toInt = 0 := by decide
      omega
    obtain ⟨q, hq, hx⟩ := nI_of h0
    have et := nI_toInt hq
    have ne : ∀ z : Nat, z < 2 ^ 31 → hC inp n p ≠ nI z → q - 99 ≠ z - 99 ∨ z < 99 := fun z hz hne => by
      by_cases hz9 : z < 99
      · exact Or.inr hz9
      · refine Or.inl fun hqz => hne ?_
        rw [hx] at h1
        rw [hx, show q = z by omega]
    rw [hx] at h1 h2
    refine r_switchIn (off := 418) (tgt := 431) (dk kX9_commandHere_p0 9 rfl) (by rw [hx]; exact h1) (by rw [hx]; exact h2) ?_ (by decide) fin
    rw [hx, show ((nI q).toInt - 99).toNat = q - 99 by omega]
    exact sw_def (q - 99) (by omega) ⟨by have := ne 99 (by decide) e99; omega, by have := ne 100 (by decide) e100; omega, by have := ne 102 (by decide) e102; omega, by have := ne 110 (by decide) e110; omega, by have := ne 111 (by decide) e111; omega, by have := ne 113 (by decide) e113; omega, by have := ne 115 (by decide) e115; omega, by have := ne 118 (by decide) e118; omega, by have := ne 119 (by decide) e119; omega, by have := ne 121 (by decide) e121; omega⟩
end MODEL
/-- a command takes at least as many signs as its pattern has -/
theorem qR_ge (inp : Nat → Int32) (n : Nat) : ∀ (w : List Int32) (s : QS), (qR inp n w s).1 = true → s.1 + w.length ≤ (qR inp n w s).2.1
  | [], s, _ => Nat.le_refl _
  | c :: cs, s, hok => by
    have ih := qR_ge inp n cs
    have hok : (if c = 68 ∨ c = 78 then (if qDg inp n s.1 = true then qR inp n cs ((qV inp n s.1 (decide (c = 78))).2, s.2.1 + 1, va_up s.2.2 s.2.1 (qV inp n s.1 (decide (c = 78))).1) else (false, s)) else if hC inp n s.1 = c then qR inp n cs (s.1 + 1, s.2) else (false, s)).1 = true := hok
    show s.1 + (cs.length + 1) ≤ (if c = 68 ∨ c = 78 then (if qDg inp n s.1 = true then qR inp n cs ((qV inp n s.1 (decide (c = 78))).2, s.2.1 + 1, va_up s.2.2 s.2.1 (qV inp n s.1 (decide (c = 78))).1) else (false, s)) else if hC inp n s.1 = c then qR inp n cs (s.1 + 1, s.2) else (false, s)).2.1
    by_cases h1 : c = 68 ∨ c = 78
    · rw [if_pos h1] at hok ⊢
      by_cases h2 : qDg inp n s.1 = true
      · rw [if_pos h2] at hok ⊢
        have h3 := ih _ hok
        have h4 : s.1 + 1 ≤ (qV inp n s.1 (decide (c = 78))).2 := by
          unfold qV
          split
          · exact Nat.le_succ _
          · exact Nat.le_refl _
        have h3 : (qV inp n s.1 (decide (c = 78))).2 + cs.length ≤ _ := h3
        omega
      · rw [if_neg h2] at hok
        cases hok
    · rw [if_neg h1] at hok ⊢
      by_cases h2 : hC inp n s.1 = c
      · rw [if_pos h2] at hok ⊢
        have h3 := ih _ hok
        have h3 : s.1 + 1 + cs.length ≤ _ := h3
        omega
      · rw [if_neg h2] at hok
        cases hok
theorem pI_lt {c : Int32} {i : Nat} (hi : pI c = some i) : i < 10 := by
  unfold pI at hi
  repeat (split at hi; (cases hi; decide))
  cases hi
theorem tx_6 : ∀ i, i < 10 → 6 ≤ (tx_byt.getD i []).length := by decide +kernel
theorem pC_ge {inp : Nat → Int32} {n p : Nat} (hok : (pC inp n p).1 = true) : p + 6 ≤ (pC inp n p).2.1 := by
  unfold pC at hok ⊢
  cases e : pI (hC inp n p) with
  | none => rw [e] at hok; cases hok
  | some i =>
    rw [e] at hok
    have h1 := qR_ge inp n _ _ hok
    have h2 := tx_6 i (pI_lt e)
    have h1 : p + (tx_byt.getD i []).length ≤ _ := h1
    show p + 6 ≤ (qR inp n (tx_byt.getD i []) (p, 0, fun _ => 0)).2.1
    omega
theorem pC_le {inp : Nat → Int32} {n p : Nat} (hp : p ≤ n) : (pC inp n p).2.1 ≤ n := by
  unfold pC
  cases e : pI (hC inp n p) with
  | none => exact hp
  | some i => exact qR_le inp n (fun _ _ => trivial) _ _ (tx_m1 i (Nat.lt_trans (pI_lt e) (by decide))) hp
/-- where the k-th command begins, where it ends, whether another follows -/
def ps (inp : Nat → Int32) (n : Nat) : Nat → Nat
  | 0 => 0
  | k + 1 => (pC inp n (ps inp n k)).2.1 + 1
def pe (inp : Nat → Int32) (n k : Nat) : Nat := (pC inp n (ps inp n k)).2.1
def gd (inp : Nat → Int32) (n k : Nat) : Bool := (pC inp n (ps inp n k)).1 && decide (hC inp n (pe inp n k) = 59)
theorem hC_lt {inp : Nat → Int32} {n p : Nat} {c : Int32} (h : hC inp n p = c) (hc : c ≠ -1) : p < n := by
  unfold hC at h
  split at h
  · assumption
  · exact absurd h.symm hc
theorem ps_b {inp : Nat → Int32} {n : Nat} : ∀ {k}, (∀ j, j < k → gd inp n j = true) → 7 * k ≤ ps inp n k ∧ ps inp n k ≤ n
  | 0, _ => ⟨Nat.le_refl _, Nat.zero_le _⟩
  | k + 1, h => by
    obtain ⟨h1, h2⟩ := ps_b (k := k) fun j hj => h j (by omega)
    obtain ⟨g1, g2⟩ := Bool.and_eq_true_iff.mp (h k (by omega))
    have g3 := hC_lt (of_decide_eq_true g2) (by decide)
    have g4 := pC_ge g1
    have e : ps inp n (k + 1) = pe inp n k + 1 := rfl
    have e2 : pe inp n k = (pC inp n (ps inp n k)).2.1 := rfl
    omega
/-- does the text match, where its reading ends, how many commands it has -/
def tOK (inp : Nat → Int32) (n : Nat) : Bool × Nat × Nat := match fx (fun k => !gd inp n k) 9 with
  | none => (false, (0, 0))
  | some K => if (pC inp n (ps inp n K)).1 = true then (decide (pe inp n K = n), (pe inp n K, K + 1)) else (false, (pe inp n K, K))
/-- what is told of the commands below k -/
def Told (inp : Nat → Int32) (n : Nat) (tl : Nat → Int32) (k : Nat) : Prop := ∀ j, j < k → tl (5 * j) = hC inp n (ps inp n j) ∧ ∀ m, m < (pC inp n (ps inp n j)).2.2.1 → tl (5 * j + 1 + m) = nI ((pC inp n (ps inp n j)).2.2.2 m)
theorem tx_ar : ∀ i, i < 10 → ((tx_byt.getD i []).filter (fun c => c == 68 || c == 78)).length ≤ 4 := by decide +kernel
theorem qR_ar (inp : Nat → Int32) (n : Nat) : ∀ (w : List Int32) (s : QS), (qR inp n w s).2.2.1 ≤ s.2.1 + (w.filter (fun c => c == 68 || c == 78)).length
  | [], s => Nat.le_refl _
  | c :: cs, s => by
    have ih := qR_ar inp n cs
    show (if c = 68 ∨ c = 78 then (if qDg inp n s.1 = true then qR inp n cs ((qV inp n s.1 (decide (c = 78))).2, s.2.1 + 1, va_up s.2.2 s.2.1 (qV inp n s.1 (decide (c = 78))).1) else (false, s)) else if hC inp n s.1 = c then qR inp n cs (s.1 + 1, s.2) else (false, s)).2.2.1 ≤ _
    by_cases h1 : c = 68 ∨ c = 78
    · have h3 : (c == 68 || c == 78) = true := by simpa using h1
      rw [if_pos h1, show ((c :: cs).filter (fun c => c == 68 || c == 78)) = c :: cs.filter (fun c => c == 68 || c == 78) from by simp only [List.filter_cons]; rw [if_pos h3], List.length_cons]
      split
      · have h2 := ih ((qV inp n s.1 (decide (c = 78))).2, s.2.1 + 1, va_up s.2.2 s.2.1 (qV inp n s.1 (decide (c = 78))).1)
        have h2 : _ ≤ s.2.1 + 1 + _ := h2
        omega
      · show s.2.1 ≤ _
        omega
    · have h3 : ¬ (c == 68 || c == 78) = true := by simpa using h1
      rw [if_neg h1, show ((c :: cs).filter (fun c => c == 68 || c == 78)) = cs.filter (fun c => c == 68 || c == 78) from by simp only [List.filter_cons]; rw [if_neg h3]]
      split
      · exact ih (s.1 + 1, s.2)
      · exact Nat.le_add_right _ _
theorem pC_ar (inp : Nat → Int32) (n p : Nat) : (pC inp n p).2.2.1 ≤ 4 := by
  unfold pC
  cases e : pI (hC inp n p) with
  | none => exact Nat.zero_le _
  | some i =>
    have h1 := qR_ar inp n (tx_byt.getD i []) (p, 0, fun _ => 0)
    have h2 := tx_ar i (pI_lt e)
    have h1 : _ ≤ 0 + _ := h1
    show (qR inp n (tx_byt.getD i []) (p, 0, fun _ => 0)).2.2.1 ≤ 4
    omega
section MODEL
variable {G : GG} {M : Mm} {h : Nat}
theorem k_X9_isText (o : MO M h) {n : Nat} {inp : Nat → Int32} (t : mIn M h n inp) : KK G IX9_isText [.ref h] M (qi (fun y M' => y = bI ((tOK inp n).1 = true) ∧ ∃ tl, M' = mTx M h tl (tOK inp n).2.1 (tOK inp n).2.2 ∧ ((tOK inp n).1 = true → Told inp n tl (tOK inp n).2.2)) nox) := by
  refine KK.ofW (by decide) (by simp [Value.category]) (Nat.le_of_ble_eq_true rfl) rfl ?_
  show WW _ _ _ 0 [_] [] _ _ _
  have hn60 := t.2.1
  refine r_aload_n (dk kX9_isText 0 rfl) rfl ?_
  refine r_iconst (v := 0) (dk kX9_isText 1 rfl) (by decide) ?_
  refine r_puti (dk kX9_isText 2 rfl) fa_X9_167_8 o.k rfl rfl rfl rfl ?_
  refine r_aload_n (dk kX9_isText 3 rfl) rfl ?_
  refine r_iconst (v := 0) (dk kX9_isText 4 rfl) (by decide) ?_
  refine r_puti (dk kX9_isText 5 rfl) fa_X9_174_8 o.k rfl rfl rfl rfl ?_
  -- at 10
  rw [show sI (sI M h 19 0) h 21 0 = mTx M h (mi M (h + 8)) 0 0 by unfold mTx; rw [sA_eq, sI_A M, sI_sA]; rfl]
  suffices key : ∀ d k tl, k + d = 9 → (∀ j, j < k → gd inp n j = true) → Told inp n tl k → WW G IX9_isText (qi (fun y M' => y = bI ((tOK inp n).1 = true) ∧ ∃ tl, M' = mTx M h tl (tOK inp n).2.1 (tOK inp n).2.2 ∧ ((tOK inp n).1 = true → Told inp n tl (tOK inp n).2.2)) nox) 10 [.ref h] [] (mTx M h tl (ps inp n k) k) 0 0 from key 9 0 _ rfl (fun j hj => absurd hj (Nat.not_lt_zero j)) (fun j hj => absurd hj (Nat.not_lt_zero j))
  intro d
  induction d with
  | zero =>
    intro k tl hk hg _
    have hk : k = 9 := hk
    obtain ⟨h1, h2⟩ := ps_b hg
    omega
  | succ d ih =>
    intro k tl hk hg ht
    obtain ⟨hb1, hb2⟩ := ps_b hg
    have hfx : ∀ b, (!gd inp n k) = b → fx (fun k => !gd inp n k) 9 = if b = true then some k else fx (fun k => !gd inp n k) 9 := fun b hb => by
      by_cases hbt : b = true
      · rw [if_pos hbt]
        exact fx_some.mpr ⟨by omega, by rw [hb]; exact hbt, fun j hj => by rw [hg j hj]; rfl⟩
      · rw [if_neg hbt]
    refine r_aload_n (dk kX9_isText 6 rfl) rfl ?_
    refine r_callV (I' := IX9_commandHere) (as := []) (dk kX9_isText 7 rfl) mv_X9_commandHere ml_X9_215 rfl rfl o.k rfl rfl (Nat.le_of_ble_eq_true rfl) ⟨by decide, by decide⟩ ⟨Nat.le_of_ble_eq_true rfl, Nat.le_of_ble_eq_true rfl⟩ (k_X9_commandHere o t hb2 (by omega)) ?_ ?_
    · exact fun E M' z => z.elim
    · rintro v M' ⟨y, rfl, hy, tl', rfl, hlow, htok⟩
      show WW G IX9_isText _ 14 [.ref h] [.int y] _ 0 0
      rw [hy]
      have hlow' : Told inp n tl' k := fun j hj => by
        obtain ⟨a1, a2⟩ := ht j hj
        refine ⟨(hlow _ (by omega)).trans a1, fun m hm => (hlow _ ?_).trans (a2 m hm)⟩
        have := pC_ar inp n (ps inp n j)
        omega
      by_cases hok : (pC inp n (ps inp n k)).1 = true
      · have hte := htok hok
        have hle := pC_le (inp := inp) hb2
        refine r_if_ne (tgt := 19) (dk kX9_isText 8 rfl) (by decide) (fun c14 => ?_) (fun c14 => absurd (by rw [bI_t hok]; decide) c14)
        refine r_aload_n (dk kX9_isText 11 rfl) rfl ?_
        refine r_dup (dk kX9_isText 12 rfl) rfl ?_
        refine r_geti (dk kX9_isText 13 rfl) fa_X9_174_8 o.k rfl ?_
        -- at 24
        rw [mt_21]
        refine r_iconst (v := 1) (dk kX9_isText 14 rfl) (by decide) ?_
        refine r_iadd (dk kX9_isText 15 rfl) ?_
        -- at 26
        rw [show nI k + 1 = nI (k + 1) from nI_1 k]
        refine r_puti (dk kX9_isText 16 rfl) fa_X9_174_8 o.k rfl rfl rfl rfl ?_
        -- at 29
        rw [mt_k]
        have hT1 : Told inp n tl' (k + 1) := fun j hj => by
          rcases Nat.lt_succ_iff_lt_or_eq.mp hj with q | q
          · exact hlow' j q
          · rw [q]
            exact ⟨hte.2.1, hte.2.2⟩
        refine r_aload_n (dk kX9_isText 17 rfl) rfl ?_
        refine r_bipush (v := 59) (dk kX9_isText 18 rfl) (by decide) ?_
        refine r_callVp (I' := IX9_skips) (as := [_]) (dk kX9_isText 19 rfl) mv_X9_skips ml_X9_185 rfl rfl o.k rfl rfl (Nat.le_of_ble_eq_true rfl) ⟨by decide, by decide⟩ ⟨rfl, rfl⟩ ⟨Nat.le_of_ble_eq_true rfl, Nat.le_of_ble_eq_true rfl⟩ (k_X9_skips o t hle 59) ?_
        -- at 35
        by_cases hs : hC inp n (pC inp n (ps inp n k)).2.1 = 59
        · rw [bI_t hs, if_pos hs]
          have hgk : gd inp n k = true := by
            unfold gd pe
            rw [hok, decide_eq_true hs]
            rfl
          refine r_if_ne (tgt := 10) (dk kX9_isText 20 rfl) (by decide) (fun c35 => ?_) (fun c35 => absurd (by decide) c35)
          -- at 10
          exact ih (k + 1) tl' (by omega) (fun j hj => by
            rcases Nat.lt_succ_iff_lt_or_eq.mp hj with q | q
            · exact hg j q
            · rw [q]; exact hgk) hT1
        · rw [bI_f hs, if_neg hs]
          have hgk : (!gd inp n k) = true := by
            unfold gd pe
            rw [decide_eq_false hs, Bool.and_false]
            rfl
          have eT : tOK inp n = (decide (pe inp n k = n), (pe inp n k, k + 1)) := by
            unfold tOK
            rw [hfx true hgk, if_pos rfl]
            show (if _ then _ else _) = _
            rw [if_pos hok]
          refine r_if_ne (tgt := 10) (dk kX9_isText 20 rfl) (by decide) (fun c35 => absurd c35 (by exact fun z => z rfl)) (fun c35 => ?_)
          refine r_aload_n (dk kX9_isText 21 rfl) rfl ?_
          refine r_geti (dk kX9_isText 22 rfl) fa_X9_167_8 o.k rfl ?_
          refine r_aload_n (dk kX9_isText 23 rfl) rfl ?_
          refine r_geti (dk kX9_isText 24 rfl) fa_X9_164_8 o.k rfl ?_
          -- at 46
          rw [mt_19, mt_o _ _ _ _ _ (by decide) (by decide), t.1]
          by_cases hen : pe inp n k = n
          · refine r_icmp_ne (tgt := 53) (dk kX9_isText 25 rfl) (by decide) (fun c46 => absurd c46 (by rw [show (pC inp n (ps inp n k)).2.1 = n from hen]; exact fun z => z rfl)) (fun c46 => ?_)
            refine r_iconst (v := 1) (dk kX9_isText 26 rfl) (by decide) ?_
            refine r_goto (tgt := 54) (dk kX9_isText 27 rfl) (by decide) ?_
            refine r_ireturn (dk kX9_isText 29 rfl) rfl rfl ⟨Nat.le_of_ble_eq_true rfl, Nat.le_of_ble_eq_true rfl⟩ ⟨by rw [eT]; exact (bI_t (decide_eq_true hen)).symm, tl', by rw [eT]; rfl, fun _ => by rw [eT]; exact hT1⟩
          · have hf : ¬ (tOK inp n).1 = true := by rw [eT]; show ¬ decide _ = true; rw [decide_eq_false hen]; decide
            refine r_icmp_ne (tgt := 53) (dk kX9_isText 25 rfl) (by decide) (fun c46 => ?_) (fun c46 => absurd (fun z => hen (nI_inj (by show (pC inp n (ps inp n k)).2.1 < _; omega) (by omega) z)) c46)
            refine r_iconst (v := 0) (dk kX9_isText 28 rfl) (by decide) ?_
            refine r_ireturn (dk kX9_isText 29 rfl) rfl rfl ⟨Nat.le_of_ble_eq_true rfl, Nat.le_of_ble_eq_true rfl⟩ ⟨by rw [bI_f hf], tl', by rw [eT]; rfl, fun z => absurd z hf⟩
      · have hgk : (!gd inp n k) = true := by
          unfold gd
          rw [Bool.not_eq_true] at hok
          rw [hok]
          rfl
        have eT : tOK inp n = (false, (pe inp n k, k)) := by
          unfold tOK
          rw [hfx true hgk, if_pos rfl]
          show (if _ then _ else _) = _
          rw [if_neg hok]
        refine r_if_ne (tgt := 19) (dk kX9_isText 8 rfl) (by decide) (fun c14 => absurd c14 (by rw [bI_f hok]; exact fun z => z rfl)) (fun c14 => ?_)
        refine r_iconst (v := 0) (dk kX9_isText 9 rfl) (by decide) ?_
        refine r_ireturn (dk kX9_isText 10 rfl) rfl rfl ⟨Nat.le_of_ble_eq_true rfl, Nat.le_of_ble_eq_true rfl⟩ ⟨by rw [eT]; rfl, tl', by rw [eT]; rfl, fun z => by rw [eT] at z; cases z⟩
end MODEL
