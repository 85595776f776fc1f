/-! THE REFERENCE: drops, keeps, the sets of rulings -/
section MODEL
variable {G : GG} {M : Mm} {h : Nat}
theorem k_X9_drops (o : MO M h) {p : Nat} (np : nb (mi M (h + 1)) 3 9) (hp : p < gn (mi M (h + 1)) 3) : KU G IX9_drops [.ref h, .int (nI p)] M (sA M (h + 1) (gDrop (mi M (h + 1)) p)) := by
  refine KK.ofW (by decide) (by simp [Value.category]) (Nat.le_of_ble_eq_true rfl) rfl ?_
  show WW _ _ _ 0 [_, _, lj] [] _ _ _
  obtain ⟨hS, hS2⟩ := np
  generalize hg : mi M (h + 1) = g at *
  generalize hn : gn g 3 = N at *
  refine r_aload_n (dk kX9_drops 0 rfl) rfl ?_
  refine r_getR (dk kX9_drops 1 rfl) fa_X9_7_8 o.k rfl o.r0 ?_
  refine r_iconst (v := 3) (dk kX9_drops 2 rfl) (by decide) ?_
  refine r_dup2 (dk kX9_drops 3 rfl) rfl rfl ?_
  refine r_ial (dk kX9_drops 4 rfl) o.k1 o.l1 (j := 3) rfl (by decide) (by decide) ?_
  refine r_iconst (v := 1) (dk kX9_drops 5 rfl) (by decide) ?_
  refine r_isub (dk kX9_drops 6 rfl) ?_
  refine r_ias (dk kX9_drops 7 rfl) o.k1 o.l1 (j := 3) rfl (by decide) (by decide) ?_
  -- at 10
  rw [hg, hS, nI_sub1 (by omega), sI_A, hg]
  generalize hg1 : va_up g 3 (nI (N - 1)) = g1
  have h13 : g1 3 = nI (N - 1) := by rw [← hg1, va_up_self]
  have h1n : ∀ i, i ≠ 3 → g1 i = g i := fun i hi => by rw [← hg1, va_up_ne _ _ hi]
  refine r_bipush (v := 35) (dk kX9_drops 8 rfl) (by decide) ?_
  refine r_bipush (v := 11) (dk kX9_drops 9 rfl) (by decide) ?_
  refine r_iload_n (dk kX9_drops 10 rfl) rfl ?_
  refine r_imul (dk kX9_drops 11 rfl) ?_
  refine r_iadd (dk kX9_drops 12 rfl) ?_
  refine r_istore_n (j := 2) (dk kX9_drops 13 rfl) rfl (by decide) rfl ?_
  simp only [List.set_cons_succ, List.set_cons_zero]
  -- at 18
  rw [show (35 : Int32) + 11 * nI p = nI (35 + 11 * p) from ixa rfl rfl]
  suffices key : ∀ d j, j + d = 35 + 11 * (N - 1) → 35 + 11 * p ≤ j → WW G IX9_drops (qv (fun M' => M' = sA M (h + 1) (gDrop g p)) nox) 18 [.ref h, .int (nI p), .int (nI j)] [] (sA M (h + 1) (fun i => if 35 + 11 * p ≤ i ∧ i < j then g1 (i + 11) else g1 i)) 0 0 by
    have h0 := key (11 * (N - 1 - p)) (35 + 11 * p) (by omega) (by omega)
    rw [show (fun i => if 35 + 11 * p ≤ i ∧ i < 35 + 11 * p then g1 (i + 11) else g1 i) = g1 from funext fun i => if_neg (by omega)] at h0
    exact h0
  intro d
  induction d with
  | zero =>
    intro j hj hpj
    have hj : j = 35 + 11 * (N - 1) := hj
    generalize hf : (fun i => if 35 + 11 * p ≤ i ∧ i < j then g1 (i + 11) else g1 i) = f
    have hf3 : f 3 = nI (N - 1) := by rw [← hf]; show (if _ then _ else _) = _; rw [if_neg (by omega)]; exact h13
    have e3 : mi (sA M (h + 1) f) (h + 1) = f := mi_sA_s _ _ _
    refine r_iload_n (dk kX9_drops 14 rfl) rfl ?_
    refine r_bipush (v := 35) (dk kX9_drops 15 rfl) (by decide) ?_
    refine r_bipush (v := 11) (dk kX9_drops 16 rfl) (by decide) ?_
    refine r_aload_n (dk kX9_drops 17 rfl) rfl ?_
    refine r_getR (dk kX9_drops 18 rfl) fa_X9_7_8 o.k rfl o.r0 ?_
    refine r_iconst (v := 3) (dk kX9_drops 19 rfl) (by decide) ?_
    refine r_ial (dk kX9_drops 20 rfl) o.k1 o.l1 (j := 3) rfl (by decide) (by decide) ?_
    -- at 29
    rw [e3, hf3]
    refine r_imul (dk kX9_drops 21 rfl) ?_
    refine r_iadd (dk kX9_drops 22 rfl) ?_
    refine r_icmp_ge (tgt := 55) (dk kX9_drops 23 rfl) (by decide) (fun c31 => ?_) (fun c31 => absurd (by rw [show (35 : Int32) + 11 * nI (N - 1) = nI (35 + 11 * (N - 1)) from ixa rfl rfl]; exact nI_le (by omega) (by omega)) c31)
    refine r_iconst (v := 0) (dk kX9_drops 36 rfl) (by decide) ?_
    refine r_istore_n (j := 2) (dk kX9_drops 37 rfl) rfl (by decide) rfl ?_
    simp only [List.set_cons_succ, List.set_cons_zero]
    -- at 57
    suffices key2 : ∀ d j, j + d = 11 → WW G IX9_drops (qv (fun M' => M' = sA M (h + 1) (gDrop g p)) nox) 57 [.ref h, .int (nI p), .int (nI j)] [] (sA M (h + 1) (fun i => if 35 + 11 * (N - 1) ≤ i ∧ i < 35 + 11 * (N - 1) + j then 0 else f i)) 0 0 by
      have h0 := key2 11 0 (by omega)
      rw [show (fun i => if 35 + 11 * (N - 1) ≤ i ∧ i < 35 + 11 * (N - 1) + 0 then 0 else f i) = f from funext fun i => if_neg (by omega)] at h0
      exact h0
    intro d
    induction d with
    | zero =>
      intro k hk
      have hk : k = 11 := hk
      subst hk
      refine r_iload_n (dk kX9_drops 38 rfl) rfl ?_
      refine r_bipush (v := 11) (dk kX9_drops 39 rfl) (by decide) ?_
      refine r_icmp_ge (tgt := 81) (dk kX9_drops 40 rfl) (by decide) (fun c60 => ?_) (fun c60 => absurd (by decide) c60)
      refine r_return (dk kX9_drops 51 rfl) rfl ⟨Nat.le_of_ble_eq_true rfl, Nat.le_of_ble_eq_true rfl⟩ ?_
      congr 1
      funext i
      show (if _ then (0 : Int32) else f i) = gDrop g p i
      unfold gDrop
      rw [hn]
      by_cases i3 : i = 3
      · subst i3
        rw [if_neg (by omega), if_pos rfl, hf3, hS, nI_sub1 (by omega)]
      · rw [if_neg i3]
        by_cases c1 : 35 + 11 * p ≤ i ∧ i < 35 + 11 * (N - 1)
        · rw [if_pos c1, if_neg (by omega), ← hf]
          show (if _ then _ else _) = _
          rw [if_pos (by omega), h1n _ (by omega)]
        · rw [if_neg c1]
          by_cases c2 : 35 + 11 * (N - 1) ≤ i ∧ i < 35 + 11 * (N - 1) + 11
          · rw [if_pos c2, if_pos c2]
          · rw [if_neg c2, if_neg c2, ← hf]
            show (if _ then _ else _) = _
            rw [if_neg (by omega), h1n _ i3]
    | succ d ih =>
      intro k hk
      generalize hf2 : (fun i => if 35 + 11 * (N - 1) ≤ i ∧ i < 35 + 11 * (N - 1) + k then 0 else f i) = f2
      have hf23 : f2 3 = nI (N - 1) := by rw [← hf2]; show (if _ then _ else _) = _; rw [if_neg (by omega)]; exact hf3
      have e4 : mi (sA M (h + 1) f2) (h + 1) = f2 := mi_sA_s _ _ _
      refine r_iload_n (dk kX9_drops 38 rfl) rfl ?_
      refine r_bipush (v := 11) (dk kX9_drops 39 rfl) (by decide) ?_
      refine r_icmp_ge (tgt := 81) (dk kX9_drops 40 rfl) (by decide) (fun c60 => absurd c60 (by exact fun z => absurd ((nI_leI (a := 11) (b := k) (by decide) (by omega)).mp z) (by omega))) (fun c60 => ?_)
      refine r_aload_n (dk kX9_drops 41 rfl) rfl ?_
      refine r_aload_n (dk kX9_drops 42 rfl) rfl ?_
      refine r_getR (dk kX9_drops 43 rfl) fa_X9_7_8 o.k rfl o.r0 ?_
      refine r_iconst (v := 3) (dk kX9_drops 44 rfl) (by decide) ?_
      refine r_ial (dk kX9_drops 45 rfl) o.k1 o.l1 (j := 3) rfl (by decide) (by decide) ?_
      -- at 70
      rw [e4, hf23]
      refine r_iload_n (dk kX9_drops 46 rfl) rfl ?_
      refine r_iconst (v := 0) (dk kX9_drops 47 rfl) (by decide) ?_
      refine r_callVu (I' := IX9_lays) (as := [_, _, _]) (dk kX9_drops 48 rfl) mv_X9_lays ml_X9_116 rfl rfl o.k rfl rfl (Nat.le_of_ble_eq_true rfl) ⟨by decide, by decide⟩ ⟨rfl, rfl⟩ ⟨Nat.le_of_ble_eq_true rfl, Nat.le_of_ble_eq_true rfl⟩ (k_X9_lays (M := sA M (h + 1) f2) o (p := N - 1) (w := k) rfl (by omega) (by omega)) ?_
      -- at 75
      refine r_iinc (dk kX9_drops 49 rfl) (by decide) rfl rfl rfl ?_
      simp only [List.set_cons_succ, List.set_cons_zero]
      refine r_goto (tgt := 57) (dk kX9_drops 50 rfl) (by decide) ?_
      -- at 57
      rw [show nI k + Int32.ofInt 1 = nI (k + 1) from nI_1 k, sI_sA]
      rw [show va_up f2 (35 + 11 * (N - 1) + k) 0 = (fun i => if 35 + 11 * (N - 1) ≤ i ∧ i < 35 + 11 * (N - 1) + (k + 1) then 0 else f i) from ?_]
      · exact ih (k + 1) (by omega)
      · funext i
        by_cases hi : i = 35 + 11 * (N - 1) + k
        · rw [hi, va_up_self, if_pos (by omega)]
        · rw [va_up_ne _ _ hi, ← hf2]
          show (if _ then _ else _) = _
          by_cases c1 : 35 + 11 * (N - 1) ≤ i ∧ i < 35 + 11 * (N - 1) + k
          · rw [if_pos c1, if_pos (by omega)]
          · rw [if_neg c1, if_neg (by omega)]
  | succ d ih =>
    intro j hj hpj
    generalize hf : (fun i => if 35 + 11 * p ≤ i ∧ i < j then g1 (i + 11) else g1 i) = f
    have hf3 : f 3 = nI (N - 1) := by rw [← hf]; show (if _ then _ else _) = _; rw [if_neg (by omega)]; exact h13
    have e3 : mi (sA M (h + 1) f) (h + 1) = f := mi_sA_s _ _ _
    refine r_iload_n (dk kX9_drops 14 rfl) rfl ?_
    refine r_bipush (v := 35) (dk kX9_drops 15 rfl) (by decide) ?_
    refine r_bipush (v := 11) (dk kX9_drops 16 rfl) (by decide) ?_
    refine r_aload_n (dk kX9_drops 17 rfl) rfl ?_
    refine r_getR (dk kX9_drops 18 rfl) fa_X9_7_8 o.k rfl o.r0 ?_
    refine r_iconst (v := 3) (dk kX9_drops 19 rfl) (by decide) ?_
    refine r_ial (dk kX9_drops 20 rfl) o.k1 o.l1 (j := 3) rfl (by decide) (by decide) ?_
    -- at 29
    rw [e3, hf3]
    refine r_imul (dk kX9_drops 21 rfl) ?_
    refine r_iadd (dk kX9_drops 22 rfl) ?_
    refine r_icmp_ge (tgt := 55) (dk kX9_drops 23 rfl) (by decide) (fun c31 => absurd c31 (by rw [show (35 : Int32) + 11 * nI (N - 1) = nI (35 + 11 * (N - 1)) from ixa rfl rfl]; exact nI_ge (by omega) (by omega))) (fun c31 => ?_)
    refine r_aload_n (dk kX9_drops 24 rfl) rfl ?_
    refine r_getR (dk kX9_drops 25 rfl) fa_X9_7_8 o.k rfl o.r0 ?_
    refine r_iload_n (dk kX9_drops 26 rfl) rfl ?_
    refine r_aload_n (dk kX9_drops 27 rfl) rfl ?_
    refine r_getR (dk kX9_drops 28 rfl) fa_X9_7_8 o.k rfl o.r0 ?_
    refine r_iload_n (dk kX9_drops 29 rfl) rfl ?_
    refine r_bipush (v := 11) (dk kX9_drops 30 rfl) (by decide) ?_
    refine r_iadd (dk kX9_drops 31 rfl) ?_
    refine r_ial (dk kX9_drops 32 rfl) o.k1 o.l1 (j := j + 11) (by rw [show (11 : Int32) = nI 11 from rfl, nI_add]) (by omega) (by decide) ?_
    refine r_ias (dk kX9_drops 33 rfl) o.k1 o.l1 (j := j) rfl (by omega) (by decide) ?_
    refine r_iinc (dk kX9_drops 34 rfl) (by decide) rfl rfl rfl ?_
    simp only [List.set_cons_succ, List.set_cons_zero]
    -- at 52
    refine r_goto (tgt := 18) (dk kX9_drops 35 rfl) (by decide) ?_
    -- at 18
    rw [e3, show nI j + Int32.ofInt 1 = nI (j + 1) from nI_1 j, sI_sA]
    rw [show va_up f j (f (j + 11)) = (fun i => if 35 + 11 * p ≤ i ∧ i < j + 1 then g1 (i + 11) else g1 i) from ?_]
    · exact ih (j + 1) (by omega) (by omega)
    · funext i
      by_cases hi : i = j
      · rw [hi, va_up_self, if_pos (by omega), ← hf]
        show (if _ then _ else _) = _
        rw [if_neg (by omega)]
      · rw [va_up_ne _ _ hi, ← hf]
        show (if _ then _ else _) = _
        by_cases c1 : 35 + 11 * p ≤ i ∧ i < j
        · rw [if_pos c1, if_pos (by omega)]
        · rw [if_neg c1, if_neg (by omega)]
theorem sA_in (M : Mm) {a b : Nat} (f x y : Nat → Int32) (hab : a ≠ b) : sA (sA (sA M a f) b x) a y = sA (sA M a y) b x := by
  rw [sA_co (sA M a f) x y hab.symm, sA_A]
/-- kept rows behind 'keeps' -/
def mShift (kept : Nat → Int32) : Nat → Int32 := fun i => if i < 1533 then kept (i + 219) else kept i
def mKeepRow (kept row : Nat → Int32) (n : Nat) : Nat → Int32 := va_cpy row (if n = 8 then mShift kept else kept) 0 (219 * min n 7) 219
def mKeep (M : Mm) (h a : Nat) : Mm := if mi M h 6 = 0 then sA (sA M (h + 2) (mKeepRow (mi M (h + 2)) (mi M a) (gn (mi M h) 5))) h (va_up (va_up (mi M h) 8 0) 5 (nI (min (gn (mi M h) 5) 7 + 1))) else sI M h 8 0
theorem k_X9_keeps (o : MO M h) {a : Nat} (ha : a ≠ h ∧ a ≠ h + 2) (ka : kd M a = 20) (la : ln M a = 219) (hc : nb (mi M h) 5 9) : KU G IX9_keeps [.ref h, .ref a] M (mKeep M h a) := by
  refine KK.ofW (by decide) (by simp [Value.category]) (Nat.le_of_ble_eq_true rfl) rfl ?_
  show WW _ _ _ 0 [_, _, lj] [] _ _ _
  obtain ⟨hc1, hc2⟩ := hc
  have e6 : mi (sI M h 8 0) h 6 = mi M h 6 := by rw [mi_sI_s]; rfl
  have e5 : mi (sI M h 8 0) h 5 = nI (gn (mi M h) 5) := by rw [mi_sI_s]; exact hc1
  have h2 : h ≠ h + 2 := by omega
  generalize hn : gn (mi M h) 5 = n at *
  refine r_aload_n (dk kX9_keeps 0 rfl) rfl ?_
  refine r_iconst (v := 0) (dk kX9_keeps 1 rfl) (by decide) ?_
  refine r_puti (dk kX9_keeps 2 rfl) fa_X9_39_8 o.k rfl rfl rfl rfl ?_
  refine r_aload_n (dk kX9_keeps 3 rfl) rfl ?_
  refine r_geti (dk kX9_keeps 4 rfl) fa_X9_58_8 o.k rfl ?_
  -- at 9
  rw [e6]
  refine r_if_eq (tgt := 13) (dk kX9_keeps 5 rfl) (by decide) (fun c9 => ?_) (fun c9 => ?_)
  · unfold mKeep
    rw [if_pos c9, hn]
    refine r_aload_n (dk kX9_keeps 7 rfl) rfl ?_
    refine r_geti (dk kX9_keeps 8 rfl) fa_X9_61_8 o.k rfl ?_
    refine r_bipush (v := 8) (dk kX9_keeps 9 rfl) (by decide) ?_
    -- at 19
    rw [e5]
    -- the end, from any shifted rows
    have fin : ∀ (z : Nat) (w : Nat → Int32) (f : Nat → Int32), z ≤ 7 → f 5 = nI z → va_up f 5 (nI (z + 1)) = va_up (va_up (mi M h) 8 0) 5 (nI (min n 7 + 1)) → va_cpy (mi M a) w 0 (219 * z) 219 = mKeepRow (mi M (h + 2)) (mi M a) n → ∀ y, WW G IX9_keeps (qv (fun M' => M' = sA (sA M (h + 2) (mKeepRow (mi M (h + 2)) (mi M a) n)) h (va_up (va_up (mi M h) 8 0) 5 (nI (min n 7 + 1)))) nox) 63 [.ref h, .ref a, y] [] (sA (sA M (h + 2) w) h f) 0 0 := by
      intro z w f hz hf5 hf hw y
      have q1 : mi (sA (sA M (h + 2) w) h f) h = f := mi_sA_s _ _ _
      have q2 : mi (sA (sA M (h + 2) w) h f) (h + 2) = w := by rw [mi_sA_n _ _ h2.symm, mi_sA_s]
      have q3 : mi (sA (sA M (h + 2) w) h f) a = mi M a := by rw [mi_sA_n _ _ ha.1, mi_sA_n _ _ ha.2]
      refine r_aload_n (dk kX9_keeps 34 rfl) rfl ?_
      refine r_iconst (v := 0) (dk kX9_keeps 35 rfl) (by decide) ?_
      refine r_aload_n (dk kX9_keeps 36 rfl) rfl ?_
      refine r_getR (dk kX9_keeps 37 rfl) fa_X9_13_8 o.k rfl o.r1 ?_
      refine r_sipush (v := 219) (dk kX9_keeps 38 rfl) (by decide) ?_
      refine r_aload_n (dk kX9_keeps 39 rfl) rfl ?_
      refine r_geti (dk kX9_keeps 40 rfl) fa_X9_61_8 o.k rfl ?_
      refine r_imul (dk kX9_keeps 41 rfl) ?_
      -- at 77
      rw [q1, hf5, show (219 : Int32) * nI z = nI (219 * z) from pk_mul 219 z]
      refine r_callSu (I' := IX9_copies) (as := [_, _, _, _]) (dk kX9_keeps 42 rfl) ms_X9_copies ml_X9_64 rfl rfl rfl (Nat.le_of_ble_eq_true rfl) ⟨by decide, by decide⟩ ⟨rfl, rfl⟩ ⟨Nat.le_of_ble_eq_true rfl, Nat.le_of_ble_eq_true rfl⟩ (k_X9_copies (M := sA (sA M (h + 2) w) h f) (i0 := 0) (o0 := 219 * z) ha.2 ka o.k2 la o.l2 (by decide) (by decide) rfl rfl (by omega) (by omega)) ?_
      -- at 80
      rw [q2, q3, hw]
      refine r_aload_n (dk kX9_keeps 43 rfl) rfl ?_
      refine r_dup (dk kX9_keeps 44 rfl) rfl ?_
      refine r_geti (dk kX9_keeps 45 rfl) fa_X9_61_8 o.k rfl ?_
      -- at 85
      have q4 : mi (sA (sA (sA M (h + 2) w) h f) (h + 2) (mKeepRow (mi M (h + 2)) (mi M a) n)) h = f := by rw [mi_sA_n _ _ h2, q1]
      rw [q4, hf5]
      refine r_iconst (v := 1) (dk kX9_keeps 46 rfl) (by decide) ?_
      refine r_iadd (dk kX9_keeps 47 rfl) ?_
      refine r_puti (dk kX9_keeps 48 rfl) fa_X9_61_8 o.k rfl rfl rfl rfl ?_
      -- at 90
      rw [show nI z + 1 = nI (z + 1) from nI_1 z, sI_A, q4, hf, sA_in _ _ _ _ h2.symm, sA_A]
      refine r_return (dk kX9_keeps 49 rfl) rfl ⟨Nat.le_of_ble_eq_true rfl, Nat.le_of_ble_eq_true rfl⟩ rfl
    by_cases h8 : n = 8
    · subst h8
      refine r_icmp_ne (tgt := 63) (dk kX9_keeps 10 rfl) (by decide) (fun c19 => absurd c19 (by decide)) (fun c19 => ?_)
      refine r_iconst (v := 0) (dk kX9_keeps 11 rfl) (by decide) ?_
      refine r_istore_n (j := 2) (dk kX9_keeps 12 rfl) rfl (by decide) rfl ?_
      simp only [List.set_cons_succ, List.set_cons_zero]
      -- at 24
      suffices key : ∀ d j, j + d = 1533 → WW G IX9_keeps (qv (fun M' => M' = sA (sA M (h + 2) (mKeepRow (mi M (h + 2)) (mi M a) 8)) h (va_up (va_up (mi M h) 8 0) 5 (nI (min 8 7 + 1)))) nox) 24 [.ref h, .ref a, .int (nI j)] [] (sA (sA M (h + 2) (fun i => if i < j then mi M (h + 2) (i + 219) else mi M (h + 2) i)) h (va_up (mi M h) 8 0)) 0 0 by
        have h0 := key 1533 0 (by omega)
        rw [show (fun i => if i < 0 then mi M (h + 2) (i + 219) else mi M (h + 2) i) = mi M (h + 2) from funext fun i => if_neg (by omega), sA_eq] at h0
        exact h0
      intro d
      induction d with
      | zero =>
        intro j hj
        have hj : j = 1533 := hj
        subst hj
        refine r_iload_n (dk kX9_keeps 13 rfl) rfl ?_
        refine r_sipush (v := 1533) (dk kX9_keeps 14 rfl) (by decide) ?_
        refine r_icmp_ge (tgt := 53) (dk kX9_keeps 15 rfl) (by decide) (fun c28 => ?_) (fun c28 => absurd (by decide) c28)
        refine r_aload_n (dk kX9_keeps 28 rfl) rfl ?_
        refine r_dup (dk kX9_keeps 29 rfl) rfl ?_
        refine r_geti (dk kX9_keeps 30 rfl) fa_X9_61_8 o.k rfl ?_
        -- at 58
        have q1 : mi (sA (sA M (h + 2) (fun i => if i < 1533 then mi M (h + 2) (i + 219) else mi M (h + 2) i)) h (va_up (mi M h) 8 0)) h = va_up (mi M h) 8 0 := mi_sA_s _ _ _
        rw [q1, show va_up (mi M h) 8 0 5 = nI 8 from hc1]
        refine r_iconst (v := 1) (dk kX9_keeps 31 rfl) (by decide) ?_
        refine r_isub (dk kX9_keeps 32 rfl) ?_
        refine r_puti (dk kX9_keeps 33 rfl) fa_X9_61_8 o.k rfl rfl rfl rfl ?_
        -- at 63
        rw [sI_sA]
        exact fin 7 _ _ (by decide) (by rw [va_up_self]; decide) (by rw [va_up_up]; rfl) rfl _
      | succ d ih =>
        intro j hj
        generalize hf : (fun i => if i < j then mi M (h + 2) (i + 219) else mi M (h + 2) i) = f
        have q2 : mi (sA (sA M (h + 2) f) h (va_up (mi M h) 8 0)) (h + 2) = f := by rw [mi_sA_n _ _ h2.symm, mi_sA_s]
        refine r_iload_n (dk kX9_keeps 13 rfl) rfl ?_
        refine r_sipush (v := 1533) (dk kX9_keeps 14 rfl) (by decide) ?_
        refine r_icmp_ge (tgt := 53) (dk kX9_keeps 15 rfl) (by decide) (fun c28 => absurd c28 (fun z => absurd ((nI_leI (a := 1533) (b := j) (by decide) (by omega)).mp z) (by omega))) (fun c28 => ?_)
        refine r_aload_n (dk kX9_keeps 16 rfl) rfl ?_
        refine r_getR (dk kX9_keeps 17 rfl) fa_X9_13_8 o.k rfl o.r1 ?_
        refine r_iload_n (dk kX9_keeps 18 rfl) rfl ?_
        refine r_aload_n (dk kX9_keeps 19 rfl) rfl ?_
        refine r_getR (dk kX9_keeps 20 rfl) fa_X9_13_8 o.k rfl o.r1 ?_
        refine r_iload_n (dk kX9_keeps 21 rfl) rfl ?_
        refine r_sipush (v := 219) (dk kX9_keeps 22 rfl) (by decide) ?_
        refine r_iadd (dk kX9_keeps 23 rfl) ?_
        refine r_ial (dk kX9_keeps 24 rfl) o.k2 o.l2 (j := j + 219) (by rw [show (219 : Int32) = nI 219 from rfl, nI_add]) (by omega) (by decide) ?_
        -- at 46
        rw [q2]
        refine r_ias (dk kX9_keeps 25 rfl) o.k2 o.l2 (j := j) rfl (by omega) (by decide) ?_
        refine r_iinc (dk kX9_keeps 26 rfl) (by decide) rfl rfl rfl ?_
        simp only [List.set_cons_succ, List.set_cons_zero]
        refine r_goto (tgt := 24) (dk kX9_keeps 27 rfl) (by decide) ?_
        -- at 24
        rw [show nI j + Int32.ofInt 1 = nI (j + 1) from nI_1 j, sI_A, q2, sA_in _ _ _ _ h2.symm]
        rw [show va_up f j (f (j + 219)) = (fun i => if i < j + 1 then mi M (h + 2) (i + 219) else mi M (h + 2) i) from ?_]
        · exact ih (j + 1) (by omega)
        · funext i
          by_cases hi : i = j
          · rw [hi, va_up_self, if_pos (by omega), ← hf]
            show (if _ then _ else _) = _
            rw [if_neg (by omega)]
          · rw [va_up_ne _ _ hi, ← hf]
            show (if _ then _ else _) = _
            by_cases c1 : i < j
            · rw [if_pos c1, if_pos (by omega)]
            · rw [if_neg c1, if_neg (by omega)]
    · refine r_icmp_ne (tgt := 63) (dk kX9_keeps 10 rfl) (by decide) (fun c19 => ?_) (fun c19 => absurd (fun z => h8 (nI_inj (by omega) (by decide) z)) c19)
      -- at 63
      have hm : min n 7 = n := by omega
      have h0 := fin n (mi M (h + 2)) (va_up (mi M h) 8 0) (by omega) hc1 (by rw [hm]) (by unfold mKeepRow; rw [if_neg h8, hm])
      rw [sA_eq] at h0
      exact h0 _
  · unfold mKeep
    rw [if_neg c9]
    refine r_return (dk kX9_keeps 6 rfl) rfl ⟨Nat.le_of_ble_eq_true rfl, Nat.le_of_ble_eq_true rfl⟩ rfl
end MODEL
