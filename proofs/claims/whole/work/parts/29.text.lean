/-! THE REFERENCE: figures, one command of the text, the whole text -/
theorem fg_1 : ∀ d, d < 10 → (10 : Int32) * 0 + nI (48 + d) - 48 = nI d := by decide +kernel
theorem fg_2 : ∀ a, a < 10 → ∀ d, d < 10 → (10 : Int32) * nI a + nI (48 + d) - 48 = nI (10 * a + d) := by decide +kernel
theorem wd_ok : ∀ i, i < 20 → i = 9 ∨ 11 ≤ i → 0 < tx_len.getD i 0 ∧ (tx_byt.getD i []).drop (tx_len.getD i 0) = [] ∧ ∀ j, j < tx_len.getD i 0 → (tx_byt.getD i []).drop j = tC i j :: (tx_byt.getD i []).drop (j + 1) ∧ tC i j ≠ 68 ∧ tC i j ≠ 78 ∧ tC i j ≠ -1 := by decide +kernel
/-- the pattern of a command that begins with the sign c -/
def pI (c : Int32) : Option Nat := if c = 115 then some 0 else if c = 111 then some 1 else if c = 113 then some 2 else if c = 102 then some 3 else if c = 121 then some 4 else if c = 110 then some 5 else if c = 99 then some 6 else if c = 118 then some 7 else if c = 119 then some 8 else if c = 100 then some 9 else none
/-- the command at place p -/
def pC (inp : Nat → Int32) (n p : Nat) : Bool × QS := match pI (hC inp n p) with
  | none => (false, (p, 0, fun _ => 0))
  | some i => qR inp n (tx_byt.getD i []) (p, 0, fun _ => 0)
/-- tl' tells what tl tells of the commands before the k-th, and of the k-th the letter c and the values of s -/
def Tok (k : Nat) (tl : Nat → Int32) (c : Int32) (tl' : Nat → Int32) (s : QS) : Prop := (∀ x, x < 5 * k → tl' x = tl x) ∧ tl' (5 * k) = c ∧ ∀ j, j < s.2.1 → tl' (5 * k + 1 + j) = nI (s.2.2 j)
theorem qF_eq (inp : Nat → Int32) (n : Nat) {X : Int32} (hX : X = 68 ∨ X = 78) (s : QS) : qR inp n [32, X] s = if hC inp n s.1 = 32 then (if qDg inp n (s.1 + 1) = true then (true, ((qV inp n (s.1 + 1) (decide (X = 78))).2, s.2.1 + 1, va_up s.2.2 s.2.1 (qV inp n (s.1 + 1) (decide (X = 78))).1)) else (false, (s.1 + 1, s.2))) else (false, s) := by
  show (if (32 : Int32) = 68 ∨ (32 : Int32) = 78 then _ else if hC inp n s.1 = 32 then (if X = 68 ∨ X = 78 then (if qDg inp n (s.1 + 1) = true then _ else _) else _) else _) = _
  rw [if_neg (by decide), if_pos hX]
  rfl
theorem Tok_step {k : Nat} {tl tl' : Nat → Int32} {c : Int32} {s : QS} (t : Tok k tl c tl' s) (inp : Nat → Int32) (n : Nat) {X : Int32} (hX : X = 68 ∨ X = 78) (hr : (qR inp n [32, X] s).1 = true) : Tok k tl c (va_up tl' (5 * k + 1 + s.2.1) (nI ((qR inp n [32, X] s).2.2.2 s.2.1))) (qR inp n [32, X] s).2 ∧ (qR inp n [32, X] s).2.2.1 = s.2.1 + 1 := by
  obtain ⟨t1, t2, t3⟩ := t
  rw [qF_eq inp n hX s] at hr ⊢
  by_cases h1 : hC inp n s.1 = 32
  · rw [if_pos h1] at hr ⊢
    by_cases h2 : qDg inp n (s.1 + 1) = true
    · rw [if_pos h2] at hr ⊢
      refine ⟨⟨fun x hx => (va_up_ne _ _ (by omega)).trans (t1 x hx), (va_up_ne _ _ (by omega)).trans t2, fun j hj => ?_⟩, rfl⟩
      have hj : j < s.2.1 + 1 := hj
      show va_up tl' _ (nI (va_up s.2.2 s.2.1 _ s.2.1)) _ = nI (va_up s.2.2 s.2.1 _ j)
      by_cases hjs : j = s.2.1
      · rw [hjs, va_up_self]
      · rw [va_up_ne _ _ (by omega), va_up_ne _ _ hjs]
        exact t3 j (by omega)
    · rw [if_neg h2] at hr
      cases hr
  · rw [if_neg h1] at hr
    cases hr
section MODEL
variable {G : GG} {M : Mm} {h : Nat}
theorem k_X9_figures (o : MO M h) {n : Nat} {inp : Nat → Int32} (t : mIn M h n inp) {tl : Nat → Int32} {k a : Nat} {x y X : Int32} {s : QS} (hp : s.1 ≤ n) (hX : X = 68 ∨ X = 78) (hy : y = if X = 78 then 2 else 1) (hx : x = nI a) (ha : a < 155) : KE G IX9_figures [.ref h, .int x, .int y] (mTx M h tl s.1 k) (bI ((qR inp n [32, X] s).1 = true)) (mTx M h (if (qR inp n [32, X] s).1 = true then va_up tl a (nI ((qR inp n [32, X] s).2.2.2 s.2.1)) else tl) (qR inp n [32, X] s).2.1 k) := by
  refine KK.ofW (by decide) (by simp [Value.category]) (Nat.le_of_ble_eq_true rfl) rfl ?_
  show WW _ _ _ 0 [_, _, _, lj] [] _ _ _
  subst hx
  have hy0 : ¬ y ≤ 0 := by
    rw [hy]
    rcases hX with e | e
    · subst e
      decide
    · subst e
      decide
  rw [qF_eq inp n hX s]
  by_cases h1 : hC inp n s.1 = 32
  · rw [if_pos h1]
    have hlt : s.1 < n := by
      unfold hC at h1
      split at h1
      · assumption
      · exact absurd h1 (by decide)
    refine r_aload_n (dk kX9_figures 0 rfl) rfl ?_
    refine r_bipush (v := 32) (dk kX9_figures 1 rfl) (by decide) ?_
    refine r_callVp (I' := IX9_skips) (as := [_]) (dk kX9_figures 2 rfl) mv_X9_skips ml_X9_185 rfl rfl o.k rfl rfl (Nat.le_of_ble_eq_true rfl) ⟨by decide, by decide⟩ ⟨rfl, rfl⟩ ⟨Nat.le_of_ble_eq_true rfl, Nat.le_of_ble_eq_true rfl⟩ (k_X9_skips o t hp 32) ?_
    -- at 6
    rw [bI_t h1, if_pos h1]
    refine r_if_eq (tgt := 23) (dk kX9_figures 3 rfl) (by decide) (fun c6 => absurd c6 (by decide)) (fun c6 => ?_)
    refine r_aload_n (dk kX9_figures 4 rfl) rfl ?_
    refine r_callVp (I' := IX9_here) (as := []) (dk kX9_figures 5 rfl) mv_X9_here ml_X9_170 rfl rfl o.k rfl rfl (Nat.le_of_ble_eq_true rfl) ⟨by decide, by decide⟩ ⟨rfl, rfl⟩ ⟨Nat.le_of_ble_eq_true rfl, Nat.le_of_ble_eq_true rfl⟩ (k_X9_here o t (by omega)) ?_
    refine r_bipush (v := 48) (dk kX9_figures 6 rfl) (by decide) ?_
    refine r_bipush (v := 57) (dk kX9_figures 7 rfl) (by decide) ?_
    refine r_callSp (I' := IX9_in) (as := [_, _, _]) (dk kX9_figures 8 rfl) ms_X9_in ml_X9_68 rfl rfl rfl (Nat.le_of_ble_eq_true rfl) ⟨by decide, by decide⟩ ⟨rfl, rfl⟩ ⟨Nat.le_of_ble_eq_true rfl, Nat.le_of_ble_eq_true rfl⟩ (k_X9_in _ _ _) ?_
    -- at 20
    by_cases h2 : qDg inp n (s.1 + 1) = true
    · rw [if_pos h2]
      have h2' := of_decide_eq_true h2
      obtain ⟨v1, v2, v3⟩ := qDg_v h2
      refine r_if_ne (tgt := 25) (dk kX9_figures 9 rfl) (by decide) (fun c20 => ?_) (fun c20 => absurd (by rw [bI_t h2']; decide) c20)
      refine r_aload_n (dk kX9_figures 12 rfl) rfl ?_
      refine r_getR (dk kX9_figures 13 rfl) fa_X9_36_8 o.k rfl o.r20 ?_
      refine r_iload_n (dk kX9_figures 14 rfl) rfl ?_
      refine r_iconst (v := 0) (dk kX9_figures 15 rfl) (by decide) ?_
      refine r_ias (dk kX9_figures 16 rfl) o.k8 o.l8 (j := a) rfl (by omega) (by decide) ?_
      refine r_iconst (v := 0) (dk kX9_figures 17 rfl) (by decide) ?_
      refine r_istore_n (j := 3) (dk kX9_figures 18 rfl) rfl (by decide) rfl ?_
      simp only [List.set_cons_succ, List.set_cons_zero]
      -- at 34
      rw [mt_t, va_up_self s.2.2 s.2.1]
      -- the first digit
      refine r_iload_n (dk kX9_figures 19 rfl) rfl ?_
      refine r_iload_n (dk kX9_figures 20 rfl) rfl ?_
      refine r_icmp_ge (tgt := 92) (dk kX9_figures 21 rfl) (by decide) (fun c36 => absurd c36 hy0) (fun c36 => ?_)
      refine r_aload_n (dk kX9_figures 22 rfl) rfl ?_
      refine r_callVp (I' := IX9_here) (as := []) (dk kX9_figures 23 rfl) mv_X9_here ml_X9_170 rfl rfl o.k rfl rfl (Nat.le_of_ble_eq_true rfl) ⟨by decide, by decide⟩ ⟨rfl, rfl⟩ ⟨Nat.le_of_ble_eq_true rfl, Nat.le_of_ble_eq_true rfl⟩ (k_X9_here o t (by omega)) ?_
      refine r_bipush (v := 48) (dk kX9_figures 24 rfl) (by decide) ?_
      refine r_bipush (v := 57) (dk kX9_figures 25 rfl) (by decide) ?_
      refine r_callSp (I' := IX9_in) (as := [_, _, _]) (dk kX9_figures 26 rfl) ms_X9_in ml_X9_68 rfl rfl rfl (Nat.le_of_ble_eq_true rfl) ⟨by decide, by decide⟩ ⟨rfl, rfl⟩ ⟨Nat.le_of_ble_eq_true rfl, Nat.le_of_ble_eq_true rfl⟩ (k_X9_in _ _ _) ?_
      -- at 50
      refine r_if_eq (tgt := 92) (dk kX9_figures 27 rfl) (by decide) (fun c50 => absurd c50 (by rw [bI_t h2']; decide)) (fun c50 => ?_)
      refine r_aload_n (dk kX9_figures 28 rfl) rfl ?_
      refine r_getR (dk kX9_figures 29 rfl) fa_X9_36_8 o.k rfl o.r20 ?_
      refine r_iload_n (dk kX9_figures 30 rfl) rfl ?_
      refine r_bipush (v := 10) (dk kX9_figures 31 rfl) (by decide) ?_
      refine r_aload_n (dk kX9_figures 32 rfl) rfl ?_
      refine r_getR (dk kX9_figures 33 rfl) fa_X9_36_8 o.k rfl o.r20 ?_
      refine r_iload_n (dk kX9_figures 34 rfl) rfl ?_
      refine r_ial (dk kX9_figures 35 rfl) o.k8 o.l8 (j := a) rfl (by omega) (by decide) ?_
      -- at 66
      rw [mt_8, va_up_self tl]
      refine r_imul (dk kX9_figures 36 rfl) ?_
      refine r_aload_n (dk kX9_figures 37 rfl) rfl ?_
      refine r_callVp (I' := IX9_here) (as := []) (dk kX9_figures 38 rfl) mv_X9_here ml_X9_170 rfl rfl o.k rfl rfl (Nat.le_of_ble_eq_true rfl) ⟨by decide, by decide⟩ ⟨rfl, rfl⟩ ⟨Nat.le_of_ble_eq_true rfl, Nat.le_of_ble_eq_true rfl⟩ (k_X9_here o t (by omega)) ?_
      refine r_iadd (dk kX9_figures 39 rfl) ?_
      refine r_bipush (v := 48) (dk kX9_figures 40 rfl) (by decide) ?_
      refine r_isub (dk kX9_figures 41 rfl) ?_
      -- at 75
      rw [v1, fg_1 _ v2]
      refine r_ias (dk kX9_figures 42 rfl) o.k8 o.l8 (j := a) rfl (by omega) (by decide) ?_
      refine r_aload_n (dk kX9_figures 43 rfl) rfl ?_
      refine r_dup (dk kX9_figures 44 rfl) rfl ?_
      refine r_geti (dk kX9_figures 45 rfl) fa_X9_167_8 o.k rfl ?_
      -- at 81
      rw [mt_t, va_up_up, mt_19]
      refine r_iconst (v := 1) (dk kX9_figures 46 rfl) (by decide) ?_
      refine r_iadd (dk kX9_figures 47 rfl) ?_
      -- at 83
      rw [show nI (s.1 + 1) + 1 = nI (s.1 + 2) from nI_1 _]
      refine r_puti (dk kX9_figures 48 rfl) fa_X9_167_8 o.k rfl rfl rfl rfl ?_
      -- at 86
      rw [mt_p]
      refine r_iinc (dk kX9_figures 49 rfl) (by decide) rfl rfl rfl ?_
      simp only [List.set_cons_succ, List.set_cons_zero]
      refine r_goto (tgt := 34) (dk kX9_figures 50 rfl) (by decide) ?_
      -- at 34
      rw [show (0 : Int32) + Int32.ofInt 1 = 1 from rfl]
      rcases hX with e | e
      · subst e
        rw [show y = 1 from hy.trans (if_neg (by decide)), if_pos trivial]
        have q : qV inp n (s.1 + 1) (decide ((68 : Int32) = 78)) = (qDv inp n (s.1 + 1), s.1 + 2) := rfl
        rw [q]
        refine r_iload_n (dk kX9_figures 19 rfl) rfl ?_
        refine r_iload_n (dk kX9_figures 20 rfl) rfl ?_
        refine r_icmp_ge (tgt := 92) (dk kX9_figures 21 rfl) (by decide) (fun c36 => ?_) (fun c36 => absurd (by decide) c36)
        refine r_iconst (v := 1) (dk kX9_figures 51 rfl) (by decide) ?_
        refine r_ireturn (dk kX9_figures 52 rfl) rfl rfl ⟨Nat.le_of_ble_eq_true rfl, Nat.le_of_ble_eq_true rfl⟩ ⟨rfl, rfl⟩
      · subst e
        rw [show y = 2 from hy.trans (if_pos rfl), if_pos trivial]
        have q : qV inp n (s.1 + 1) (decide ((78 : Int32) = 78)) = if qDg inp n (s.1 + 2) = true then (10 * qDv inp n (s.1 + 1) + qDv inp n (s.1 + 2), s.1 + 3) else (qDv inp n (s.1 + 1), s.1 + 2) := rfl
        rw [q]
        refine r_iload_n (dk kX9_figures 19 rfl) rfl ?_
        refine r_iload_n (dk kX9_figures 20 rfl) rfl ?_
        refine r_icmp_ge (tgt := 92) (dk kX9_figures 21 rfl) (by decide) (fun c36 => absurd c36 (by decide)) (fun c36 => ?_)
        refine r_aload_n (dk kX9_figures 22 rfl) rfl ?_
        refine r_callVp (I' := IX9_here) (as := []) (dk kX9_figures 23 rfl) mv_X9_here ml_X9_170 rfl rfl o.k rfl rfl (Nat.le_of_ble_eq_true rfl) ⟨by decide, by decide⟩ ⟨rfl, rfl⟩ ⟨Nat.le_of_ble_eq_true rfl, Nat.le_of_ble_eq_true rfl⟩ (k_X9_here o t (by omega)) ?_
        refine r_bipush (v := 48) (dk kX9_figures 24 rfl) (by decide) ?_
        refine r_bipush (v := 57) (dk kX9_figures 25 rfl) (by decide) ?_
        refine r_callSp (I' := IX9_in) (as := [_, _, _]) (dk kX9_figures 26 rfl) ms_X9_in ml_X9_68 rfl rfl rfl (Nat.le_of_ble_eq_true rfl) ⟨by decide, by decide⟩ ⟨rfl, rfl⟩ ⟨Nat.le_of_ble_eq_true rfl, Nat.le_of_ble_eq_true rfl⟩ (k_X9_in _ _ _) ?_
        -- at 50
        by_cases h3 : qDg inp n (s.1 + 2) = true
        · rw [if_pos h3]
          have h3' := of_decide_eq_true h3
          obtain ⟨w1, w2, w3⟩ := qDg_v h3
          refine r_if_eq (tgt := 92) (dk kX9_figures 27 rfl) (by decide) (fun c50 => absurd c50 (by rw [bI_t h3']; decide)) (fun c50 => ?_)
          refine r_aload_n (dk kX9_figures 28 rfl) rfl ?_
          refine r_getR (dk kX9_figures 29 rfl) fa_X9_36_8 o.k rfl o.r20 ?_
          refine r_iload_n (dk kX9_figures 30 rfl) rfl ?_
          refine r_bipush (v := 10) (dk kX9_figures 31 rfl) (by decide) ?_
          refine r_aload_n (dk kX9_figures 32 rfl) rfl ?_
          refine r_getR (dk kX9_figures 33 rfl) fa_X9_36_8 o.k rfl o.r20 ?_
          refine r_iload_n (dk kX9_figures 34 rfl) rfl ?_
          refine r_ial (dk kX9_figures 35 rfl) o.k8 o.l8 (j := a) rfl (by omega) (by decide) ?_
          -- at 66
          rw [mt_8, va_up_self tl]
          refine r_imul (dk kX9_figures 36 rfl) ?_
          refine r_aload_n (dk kX9_figures 37 rfl) rfl ?_
          refine r_callVp (I' := IX9_here) (as := []) (dk kX9_figures 38 rfl) mv_X9_here ml_X9_170 rfl rfl o.k rfl rfl (Nat.le_of_ble_eq_true rfl) ⟨by decide, by decide⟩ ⟨rfl, rfl⟩ ⟨Nat.le_of_ble_eq_true rfl, Nat.le_of_ble_eq_true rfl⟩ (k_X9_here o t (by omega)) ?_
          refine r_iadd (dk kX9_figures 39 rfl) ?_
          refine r_bipush (v := 48) (dk kX9_figures 40 rfl) (by decide) ?_
          refine r_isub (dk kX9_figures 41 rfl) ?_
          -- at 75
          rw [w1, fg_2 _ v2 _ w2]
          refine r_ias (dk kX9_figures 42 rfl) o.k8 o.l8 (j := a) rfl (by omega) (by decide) ?_
          refine r_aload_n (dk kX9_figures 43 rfl) rfl ?_
          refine r_dup (dk kX9_figures 44 rfl) rfl ?_
          refine r_geti (dk kX9_figures 45 rfl) fa_X9_167_8 o.k rfl ?_
          -- at 81
          rw [mt_t, va_up_up, mt_19]
          refine r_iconst (v := 1) (dk kX9_figures 46 rfl) (by decide) ?_
          refine r_iadd (dk kX9_figures 47 rfl) ?_
          -- at 83
          rw [show nI (s.1 + 2) + 1 = nI (s.1 + 3) from nI_1 _]
          refine r_puti (dk kX9_figures 48 rfl) fa_X9_167_8 o.k rfl rfl rfl rfl ?_
          -- at 86
          rw [mt_p]
          refine r_iinc (dk kX9_figures 49 rfl) (by decide) rfl rfl rfl ?_
          simp only [List.set_cons_succ, List.set_cons_zero]
          refine r_goto (tgt := 34) (dk kX9_figures 50 rfl) (by decide) ?_
          -- at 34
          rw [show (1 : Int32) + Int32.ofInt 1 = 2 from rfl]
          refine r_iload_n (dk kX9_figures 19 rfl) rfl ?_
          refine r_iload_n (dk kX9_figures 20 rfl) rfl ?_
          refine r_icmp_ge (tgt := 92) (dk kX9_figures 21 rfl) (by decide) (fun c36 => ?_) (fun c36 => absurd (by decide) c36)
          refine r_iconst (v := 1) (dk kX9_figures 51 rfl) (by decide) ?_
          refine r_ireturn (dk kX9_figures 52 rfl) rfl rfl ⟨Nat.le_of_ble_eq_true rfl, Nat.le_of_ble_eq_true rfl⟩ ⟨rfl, rfl⟩
        · rw [if_neg h3]
          have h3' : ¬ (48 ≤ hC inp n (s.1 + 2) ∧ hC inp n (s.1 + 2) ≤ 57) := fun z => h3 (decide_eq_true z)
          refine r_if_eq (tgt := 92) (dk kX9_figures 27 rfl) (by decide) (fun c50 => ?_) (fun c50 => absurd (by rw [bI_f h3']) c50)
          refine r_iconst (v := 1) (dk kX9_figures 51 rfl) (by decide) ?_
          refine r_ireturn (dk kX9_figures 52 rfl) rfl rfl ⟨Nat.le_of_ble_eq_true rfl, Nat.le_of_ble_eq_true rfl⟩ ⟨rfl, rfl⟩
    · rw [if_neg h2]
      have h2' : ¬ (48 ≤ hC inp n (s.1 + 1) ∧ hC inp n (s.1 + 1) ≤ 57) := fun z => h2 (decide_eq_true z)
      refine r_if_ne (tgt := 25) (dk kX9_figures 9 rfl) (by decide) (fun c20 => absurd c20 (by rw [bI_f h2']; exact fun z => z rfl)) (fun c20 => ?_)
      refine r_iconst (v := 0) (dk kX9_figures 10 rfl) (by decide) ?_
      refine r_ireturn (dk kX9_figures 11 rfl) rfl rfl ⟨Nat.le_of_ble_eq_true rfl, Nat.le_of_ble_eq_true rfl⟩ ⟨rfl, rfl⟩
  · rw [if_neg h1]
    refine r_aload_n (dk kX9_figures 0 rfl) rfl ?_
    refine r_bipush (v := 32) (dk kX9_figures 1 rfl) (by decide) ?_
    refine r_callVp (I' := IX9_skips) (as := [_]) (dk kX9_figures 2 rfl) mv_X9_skips ml_X9_185 rfl rfl o.k rfl rfl (Nat.le_of_ble_eq_true rfl) ⟨by decide, by decide⟩ ⟨rfl, rfl⟩ ⟨Nat.le_of_ble_eq_true rfl, Nat.le_of_ble_eq_true rfl⟩ (k_X9_skips o t hp 32) ?_
    -- at 6
    rw [bI_f h1, if_neg h1]
    refine r_if_eq (tgt := 23) (dk kX9_figures 3 rfl) (by decide) (fun c6 => ?_) (fun c6 => absurd (by decide) c6)
    refine r_iconst (v := 0) (dk kX9_figures 10 rfl) (by decide) ?_
    refine r_ireturn (dk kX9_figures 11 rfl) rfl rfl ⟨Nat.le_of_ble_eq_true rfl, Nat.le_of_ble_eq_true rfl⟩ ⟨rfl, rfl⟩
theorem k_X9_isWordQ (o : MO M h) {n : Nat} {inp : Nat → Int32} (t : mIn M h n inp) {tl : Nat → Int32} {p k i : Nat} (hp : p ≤ n) (hi : i < 20) (hi2 : i = 9 ∨ 11 ≤ i) (hk : k < 30) (m : Nat × (Nat → Nat)) : KE G IX9_isWord [.ref h, .ref (gk G i)] (mTx M h tl p k) (bI ((qR inp n (tx_byt.getD i []) (p, m)).1 = true)) (mTx M h (va_up tl (5 * k) (tC i 0)) (qR inp n (tx_byt.getD i []) (p, m)).2.1 k) := by
  obtain ⟨h0, he, hj⟩ := wd_ok i hi hi2
  refine k_X9_isWord o t hp hi h0 hk (fun j hj' s => ?_) he (fun j hj' => (hj j hj').2.2.2) m
  obtain ⟨e1, e2, e3, -⟩ := hj j hj'
  rw [e1]
  show (if tC i j = 68 ∨ tC i j = 78 then _ else _) = _
  rw [if_neg (fun z => z.elim e2 e3)]
/-- what one command leaves -/
def QCm (M : Mm) (h : Nat) (inp : Nat → Int32) (n : Nat) (tl : Nat → Int32) (p k : Nat) : QQ := qi (fun y M' => y = bI ((pC inp n p).1 = true) ∧ ∃ tl', M' = mTx M h tl' (pC inp n p).2.1 k ∧ (∀ x, x < 5 * k → tl' x = tl x) ∧ ((pC inp n p).1 = true → Tok k tl (hC inp n p) tl' (pC inp n p).2)) nox
theorem wd_m (inp : Nat → Int32) (n : Nat) : ∀ (w : List Int32) (s : QS), (∀ c ∈ w, c ≠ 68 ∧ c ≠ 78) → (qR inp n w s).2.2 = s.2
  | [], _, _ => rfl
  | c :: cs, s, hw => by
    have h1 := hw c List.mem_cons_self
    show (if c = 68 ∨ c = 78 then _ else if hC inp n s.1 = c then qR inp n cs (s.1 + 1, s.2) else (false, s)).2.2 = _
    rw [if_neg (fun z => z.elim h1.1 h1.2)]
    split
    · exact wd_m inp n cs _ (fun c hc => hw c (List.mem_cons_of_mem _ hc))
    · rfl
theorem tx_m1 : ∀ i, i < 20 → ∀ c ∈ tx_byt.getD i [], c ≠ -1 := by decide +kernel
theorem tx_dn : ∀ i, i < 20 → i = 9 ∨ 11 ≤ i → ∀ c ∈ tx_byt.getD i [], c ≠ 68 ∧ c ≠ 78 := by decide +kernel
theorem k_cmd_s (o : MO M h) {n : Nat} {inp : Nat → Int32} (t : mIn M h n inp) {tl : Nat → Int32} {p k : Nat} (hp : p ≤ n) (hk : k < 30) (hc : hC inp n p = 115) : WW G IX9_commandHere (QCm M h inp n tl p k) 120 [.ref h, .int (nI (5 * k + 1))] [] (mTx M h tl p k) 0 0 := by
  have e : pC inp n p = qR inp n (tx_byt.getD 11 [] ++ [32, 78] ++ [32, 68]) (p, 0, fun _ => 0) := by
    unfold pC
    rw [hc]
    rfl
  have hwm := wd_m inp n (tx_byt.getD 11 []) (p, 0, fun _ => 0) (tx_dn 11 (by decide) (by decide))
  have hwl := qR_le inp n (fun _ _ => trivial) (tx_byt.getD 11 []) (p, 0, fun _ => 0) (tx_m1 11 (by decide)) hp
  have t0 : Tok k tl 115 (va_up tl (5 * k) (tC 11 0)) (qR inp n (tx_byt.getD 11 []) (p, 0, fun _ => 0)).2 := ⟨fun x hx => va_up_ne _ _ (by omega), va_up_self _ _ _, fun j hj => by rw [hwm] at hj; exact absurd hj (Nat.not_lt_zero j)⟩
  refine r_aload_n (dk kX9_commandHere_p0 10 rfl) rfl ?_
  refine r_ldcS (tx := "stone") (i := 11) (dk kX9_commandHere_p0 11 rfl) (by decide +kernel) ?_
  refine r_callVp (I' := IX9_isWord) (as := [_]) (dk kX9_commandHere_p0 12 rfl) mv_X9_isWord ml_X9_190 rfl rfl o.k rfl rfl (Nat.le_of_ble_eq_true rfl) ⟨by decide, by decide⟩ ⟨rfl, rfl⟩ ⟨Nat.le_of_ble_eq_true rfl, Nat.le_of_ble_eq_true rfl⟩ (k_X9_isWordQ o t hp (i := 11) (by decide) (by decide) hk (0, fun _ => 0)) ?_
  -- at 126
  -- the word
  generalize hr0 : qR inp n (tx_byt.getD 11 []) (p, 0, fun _ => 0) = r0 at *
  have a0 := qR_app inp n (tx_byt.getD 11 []) [32, 78] (p, 0, fun _ => 0)
  have a1 := qR_app inp n (tx_byt.getD 11 [] ++ [32, 78]) [32, 68] (p, 0, fun _ => 0)
  rw [hr0] at a0
  have m0 : r0.2.2.1 = 0 := by rw [hwm]
  by_cases hr : r0.1 = true
  · rw [if_pos hr] at a0
    rw [a0] at a1
    have st := Tok_step t0 inp n (X := 78) (by decide)
    have hl1 := qR_le inp n (fun _ _ => trivial) [32, 78] r0.2 (by decide) hwl
    refine r_if_eq (tgt := 153) (dk kX9_commandHere_p0 13 rfl) (by decide) (fun c126 => absurd c126 (by rw [bI_t hr]; decide)) (fun c126 => ?_)
    refine r_aload_n (dk kX9_commandHere_p0 14 rfl) rfl ?_
    refine r_iload_n (dk kX9_commandHere_p0 15 rfl) rfl ?_
    refine r_iconst (v := 2) (dk kX9_commandHere_p0 16 rfl) (by decide) ?_
    refine r_callVp (I' := IX9_figures) (as := [_, _]) (dk kX9_commandHere_p0 17 rfl) mv_X9_figures ml_X9_194 rfl rfl o.k rfl rfl (Nat.le_of_ble_eq_true rfl) ⟨by decide, by decide⟩ ⟨rfl, rfl⟩ ⟨Nat.le_of_ble_eq_true rfl, Nat.le_of_ble_eq_true rfl⟩ (k_X9_figures o t (s := r0.2) (X := 78) (a := 5 * k + 1 + 0) hwl (by decide) (by decide) rfl (by omega)) ?_
    -- at 135
    rw [m0] at st ⊢
    generalize hr1 : qR inp n [32, 78] r0.2 = r1 at *
    have hq0 := hr
    clear hr
    by_cases hr : r1.1 = true
    · obtain ⟨t1, m1⟩ := st hr
      rw [if_pos hr]
      rw [if_pos hr] at a1
      have st := Tok_step t1 inp n (X := 68) (by decide)
      have hl2 := qR_le inp n (fun _ _ => trivial) [32, 68] r1.2 (by decide) hl1
      refine r_if_eq (tgt := 153) (dk kX9_commandHere_p0 18 rfl) (by decide) (fun c135 => absurd c135 (by rw [bI_t hr]; decide)) (fun c135 => ?_)
      refine r_aload_n (dk kX9_commandHere_p0 19 rfl) rfl ?_
      refine r_iload_n (dk kX9_commandHere_p0 20 rfl) rfl ?_
      refine r_iconst (v := 1) (dk kX9_commandHere_p0 21 rfl) (by decide) ?_
      refine r_iadd (dk kX9_commandHere_p0 22 rfl) ?_
      refine r_iconst (v := 1) (dk kX9_commandHere_p0 23 rfl) (by decide) ?_
      refine r_callVp (I' := IX9_figures) (as := [_, _]) (dk kX9_commandHere_p0 24 rfl) mv_X9_figures ml_X9_194 rfl rfl o.k rfl rfl (Nat.le_of_ble_eq_true rfl) ⟨by decide, by decide⟩ ⟨rfl, rfl⟩ ⟨Nat.le_of_ble_eq_true rfl, Nat.le_of_ble_eq_true rfl⟩ (k_X9_figures o t (s := r1.2) (X := 68) (a := 5 * k + 1 + 1) hl1 (by decide) (by decide) (nI_1 _) (by omega)) ?_
      -- at 146
      rw [m1] at st ⊢
      generalize hr2 : qR inp n [32, 68] r1.2 = r2 at *
      have hq1 := hr
      clear hr
      rw [a1] at e
      by_cases hr : r2.1 = true
      · obtain ⟨t2, m2⟩ := st hr
        have hf : (pC inp n p).1 = true := by rw [e]; exact hr
        rw [if_pos hr]
        refine r_if_eq (tgt := 153) (dk kX9_commandHere_p0 25 rfl) (by decide) (fun c146 => absurd c146 (by rw [bI_t hr]; decide)) (fun c146 => ?_)
        refine r_iconst (v := 1) (dk kX9_commandHere_p0 26 rfl) (by decide) ?_
        refine r_goto (tgt := 154) (dk kX9_commandHere_p0 27 rfl) (by decide) ?_
        refine r_ireturn (dk kX9_commandHere_p0 29 rfl) rfl rfl ⟨Nat.le_of_ble_eq_true rfl, Nat.le_of_ble_eq_true rfl⟩ ⟨by rw [bI_t hf], _, by rw [e], t2.1, fun z => by rw [hc, e]; exact t2⟩
      · rw [if_neg hr]
        have hf : ¬ (pC inp n p).1 = true := by rw [e]; exact hr
        refine r_if_eq (tgt := 153) (dk kX9_commandHere_p0 25 rfl) (by decide) (fun c146 => ?_) (fun c146 => absurd (by rw [bI_f hr]) c146)
        refine r_iconst (v := 0) (dk kX9_commandHere_p0 28 rfl) (by decide) ?_
        refine r_ireturn (dk kX9_commandHere_p0 29 rfl) rfl rfl ⟨Nat.le_of_ble_eq_true rfl, Nat.le_of_ble_eq_true rfl⟩ ⟨by rw [bI_f hf], _, by rw [e], t1.1, fun z => absurd z hf⟩
    · rw [if_neg hr]
      rw [if_neg hr] at a1
      rw [a1] at e
      have hf : ¬ (pC inp n p).1 = true := by rw [e]; exact hr
      refine r_if_eq (tgt := 153) (dk kX9_commandHere_p0 18 rfl) (by decide) (fun c135 => ?_) (fun c135 => absurd (by rw [bI_f hr]) c135)
      refine r_iconst (v := 0) (dk kX9_commandHere_p0 28 rfl) (by decide) ?_
      refine r_ireturn (dk kX9_commandHere_p0 29 rfl) rfl rfl ⟨Nat.le_of_ble_eq_true rfl, Nat.le_of_ble_eq_true rfl⟩ ⟨by rw [bI_f hf], _, by rw [e], t0.1, fun z => absurd z hf⟩
  · rw [if_neg hr] at a0
    rw [a0, if_neg hr] at a1
    rw [a1] at e
    have hf : ¬ (pC inp n p).1 = true := by rw [e]; exact hr
    refine r_if_eq (tgt := 153) (dk kX9_commandHere_p0 13 rfl) (by decide) (fun c126 => ?_) (fun c126 => absurd (by rw [bI_f hr]) c126)
    refine r_iconst (v := 0) (dk kX9_commandHere_p0 28 rfl) (by decide) ?_
    refine r_ireturn (dk kX9_commandHere_p0 29 rfl) rfl rfl ⟨Nat.le_of_ble_eq_true rfl, Nat.le_of_ble_eq_true rfl⟩ ⟨by rw [bI_f hf], _, by rw [e], t0.1, fun z => absurd z hf⟩
theorem k_cmd_o (o : MO M h) {n : Nat} {inp : Nat → Int32} (t : mIn M h n inp) {tl : Nat → Int32} {p k : Nat} (hp : p ≤ n) (hk : k < 30) (hc : hC inp n p = 111) : WW G IX9_commandHere (QCm M h inp n tl p k) 155 [.ref h, .int (nI (5 * k + 1))] [] (mTx M h tl p k) 0 0 := by
  have e : pC inp n p = qR inp n (tx_byt.getD 12 [] ++ [32, 68]) (p, 0, fun _ => 0) := by
    unfold pC
    rw [hc]
    rfl
  have hwm := wd_m inp n (tx_byt.getD 12 []) (p, 0, fun _ => 0) (tx_dn 12 (by decide) (by decide))
  have hwl := qR_le inp n (fun _ _ => trivial) (tx_byt.getD 12 []) (p, 0, fun _ => 0) (tx_m1 12 (by decide)) hp
  have t0 : Tok k tl 111 (va_up tl (5 * k) (tC 12 0)) (qR inp n (tx_byt.getD 12 []) (p, 0, fun _ => 0)).2 := ⟨fun x hx => va_up_ne _ _ (by omega), va_up_self _ _ _, fun j hj => by rw [hwm] at hj; exact absurd hj (Nat.not_lt_zero j)⟩
  refine r_aload_n (dk kX9_commandHere_p0 30 rfl) rfl ?_
  refine r_ldcS (tx := "officer") (i := 12) (dk kX9_commandHere_p0 31 rfl) (by decide +kernel) ?_
  refine r_callVp (I' := IX9_isWord) (as := [_]) (dk kX9_commandHere_p0 32 rfl) mv_X9_isWord ml_X9_190 rfl rfl o.k rfl rfl (Nat.le_of_ble_eq_true rfl) ⟨by decide, by decide⟩ ⟨rfl, rfl⟩ ⟨Nat.le_of_ble_eq_true rfl, Nat.le_of_ble_eq_true rfl⟩ (k_X9_isWordQ o t hp (i := 12) (by decide) (by decide) hk (0, fun _ => 0)) ?_
  -- at 161
  -- the word
  generalize hr0 : qR inp n (tx_byt.getD 12 []) (p, 0, fun _ => 0) = r0 at *
  have a0 := qR_app inp n (tx_byt.getD 12 []) [32, 68] (p, 0, fun _ => 0)
  rw [hr0] at a0
  have m0 : r0.2.2.1 = 0 := by rw [hwm]
  by_cases hr : r0.1 = true
  · rw [if_pos hr] at a0
    have st := Tok_step t0 inp n (X := 68) (by decide)
    have hl1 := qR_le inp n (fun _ _ => trivial) [32, 68] r0.2 (by decide) hwl
    refine r_if_eq (tgt := 177) (dk kX9_commandHere_p0 33 rfl) (by decide) (fun c161 => absurd c161 (by rw [bI_t hr]; decide)) (fun c161 => ?_)
    refine r_aload_n (dk kX9_commandHere_p0 34 rfl) rfl ?_
    refine r_iload_n (dk kX9_commandHere_p0 35 rfl) rfl ?_
    refine r_iconst (v := 1) (dk kX9_commandHere_p0 36 rfl) (by decide) ?_
    refine r_callVp (I' := IX9_figures) (as := [_, _]) (dk kX9_commandHere_p0 37 rfl) mv_X9_figures ml_X9_194 rfl rfl o.k rfl rfl (Nat.le_of_ble_eq_true rfl) ⟨by decide, by decide⟩ ⟨rfl, rfl⟩ ⟨Nat.le_of_ble_eq_true rfl, Nat.le_of_ble_eq_true rfl⟩ (k_X9_figures o t (s := r0.2) (X := 68) (a := 5 * k + 1 + 0) hwl (by decide) (by decide) rfl (by omega)) ?_
    -- at 170
    rw [m0] at st ⊢
    generalize hr1 : qR inp n [32, 68] r0.2 = r1 at *
    have hq0 := hr
    clear hr
    rw [a0] at e
    by_cases hr : r1.1 = true
    · obtain ⟨t1, m1⟩ := st hr
      have hf : (pC inp n p).1 = true := by rw [e]; exact hr
      rw [if_pos hr]
      refine r_if_eq (tgt := 177) (dk kX9_commandHere_p0 38 rfl) (by decide) (fun c170 => absurd c170 (by rw [bI_t hr]; decide)) (fun c170 => ?_)
      refine r_iconst (v := 1) (dk kX9_commandHere_p0 39 rfl) (by decide) ?_
      refine r_goto (tgt := 178) (dk kX9_commandHere_p0 40 rfl) (by decide) ?_
      refine r_ireturn (dk kX9_commandHere_p0 42 rfl) rfl rfl ⟨Nat.le_of_ble_eq_true rfl, Nat.le_of_ble_eq_true rfl⟩ ⟨by rw [bI_t hf], _, by rw [e], t1.1, fun z => by rw [hc, e]; exact t1⟩
    · rw [if_neg hr]
      have hf : ¬ (pC inp n p).1 = true := by rw [e]; exact hr
      refine r_if_eq (tgt := 177) (dk kX9_commandHere_p0 38 rfl) (by decide) (fun c170 => ?_) (fun c170 => absurd (by rw [bI_f hr]) c170)
      refine r_iconst (v := 0) (dk kX9_commandHere_p0 41 rfl) (by decide) ?_
      refine r_ireturn (dk kX9_commandHere_p0 42 rfl) rfl rfl ⟨Nat.le_of_ble_eq_true rfl, Nat.le_of_ble_eq_true rfl⟩ ⟨by rw [bI_f hf], _, by rw [e], t0.1, fun z => absurd z hf⟩
  · rw [if_neg hr] at a0
    rw [a0] at e
    have hf : ¬ (pC inp n p).1 = true := by rw [e]; exact hr
    refine r_if_eq (tgt := 177) (dk kX9_commandHere_p0 33 rfl) (by decide) (fun c161 => ?_) (fun c161 => absurd (by rw [bI_f hr]) c161)
    refine r_iconst (v := 0) (dk kX9_commandHere_p0 41 rfl) (by decide) ?_
    refine r_ireturn (dk kX9_commandHere_p0 42 rfl) rfl rfl ⟨Nat.le_of_ble_eq_true rfl, Nat.le_of_ble_eq_true rfl⟩ ⟨by rw [bI_f hf], _, by rw [e], t0.1, fun z => absurd z hf⟩
theorem k_cmd_q (o : MO M h) {n : Nat} {inp : Nat → Int32} (t : mIn M h n inp) {tl : Nat → Int32} {p k : Nat} (hp : p ≤ n) (hk : k < 30) (hc : hC inp n p = 113) : WW G IX9_commandHere (QCm M h inp n tl p k) 179 [.ref h, .int (nI (5 * k + 1))] [] (mTx M h tl p k) 0 0 := by
  have e : pC inp n p = qR inp n (tx_byt.getD 13 [] ++ [32, 68]) (p, 0, fun _ => 0) := by
    unfold pC
    rw [hc]
    rfl
  have hwm := wd_m inp n (tx_byt.getD 13 []) (p, 0, fun _ => 0) (tx_dn 13 (by decide) (by decide))
  have hwl := qR_le inp n (fun _ _ => trivial) (tx_byt.getD 13 []) (p, 0, fun _ => 0) (tx_m1 13 (by decide)) hp
  have t0 : Tok k tl 113 (va_up tl (5 * k) (tC 13 0)) (qR inp n (tx_byt.getD 13 []) (p, 0, fun _ => 0)).2 := ⟨fun x hx => va_up_ne _ _ (by omega), va_up_self _ _ _, fun j hj => by rw [hwm] at hj; exact absurd hj (Nat.not_lt_zero j)⟩
  refine r_aload_n (dk kX9_commandHere_p0 43 rfl) rfl ?_
  refine r_ldcS (tx := "quorum") (i := 13) (dk kX9_commandHere_p0 44 rfl) (by decide +kernel) ?_
  refine r_callVp (I' := IX9_isWord) (as := [_]) (dk kX9_commandHere_p0 45 rfl) mv_X9_isWord ml_X9_190 rfl rfl o.k rfl rfl (Nat.le_of_ble_eq_true rfl) ⟨by decide, by decide⟩ ⟨rfl, rfl⟩ ⟨Nat.le_of_ble_eq_true rfl, Nat.le_of_ble_eq_true rfl⟩ (k_X9_isWordQ o t hp (i := 13) (by decide) (by decide) hk (0, fun _ => 0)) ?_
  -- at 185
  -- the word
  generalize hr0 : qR inp n (tx_byt.getD 13 []) (p, 0, fun _ => 0) = r0 at *
  have a0 := qR_app inp n (tx_byt.getD 13 []) [32, 68] (p, 0, fun _ => 0)
  rw [hr0] at a0
  have m0 : r0.2.2.1 = 0 := by rw [hwm]
  by_cases hr : r0.1 = true
  · rw [if_pos hr] at a0
    have st := Tok_step t0 inp n (X := 68) (by decide)
    have hl1 := qR_le inp n (fun _ _ => trivial) [32, 68] r0.2 (by decide) hwl
    refine r_if_eq (tgt := 201) (dk kX9_commandHere_p0 46 rfl) (by decide) (fun c185 => absurd c185 (by rw [bI_t hr]; decide)) (fun c185 => ?_)
    refine r_aload_n (dk kX9_commandHere_p0 47 rfl) rfl ?_
    refine r_iload_n (dk kX9_commandHere_p0 48 rfl) rfl ?_
    refine r_iconst (v := 1) (dk kX9_commandHere_p0 49 rfl) (by decide) ?_
    refine r_callVp (I' := IX9_figures) (as := [_, _]) (dk kX9_commandHere_p0 50 rfl) mv_X9_figures ml_X9_194 rfl rfl o.k rfl rfl (Nat.le_of_ble_eq_true rfl) ⟨by decide, by decide⟩ ⟨rfl, rfl⟩ ⟨Nat.le_of_ble_eq_true rfl, Nat.le_of_ble_eq_true rfl⟩ (k_X9_figures o t (s := r0.2) (X := 68) (a := 5 * k + 1 + 0) hwl (by decide) (by decide) rfl (by omega)) ?_
    -- at 194
    rw [m0] at st ⊢
    generalize hr1 : qR inp n [32, 68] r0.2 = r1 at *
    have hq0 := hr
    clear hr
    rw [a0] at e
    by_cases hr : r1.1 = true
    · obtain ⟨t1, m1⟩ := st hr
      have hf : (pC inp n p).1 = true := by rw [e]; exact hr
      rw [if_pos hr]
      refine r_if_eq (tgt := 201) (dk kX9_commandHere_p0 51 rfl) (by decide) (fun c194 => absurd c194 (by rw [bI_t hr]; decide)) (fun c194 => ?_)
      refine r_iconst (v := 1) (dk kX9_commandHere_p0 52 rfl) (by decide) ?_
      refine r_goto (tgt := 202) (dk kX9_commandHere_p0 53 rfl) (by decide) ?_
      refine r_ireturn (dk kX9_commandHere_p0 55 rfl) rfl rfl ⟨Nat.le_of_ble_eq_true rfl, Nat.le_of_ble_eq_true rfl⟩ ⟨by rw [bI_t hf], _, by rw [e], t1.1, fun z => by rw [hc, e]; exact t1⟩
    · rw [if_neg hr]
      have hf : ¬ (pC inp n p).1 = true := by rw [e]; exact hr
      refine r_if_eq (tgt := 201) (dk kX9_commandHere_p0 51 rfl) (by decide) (fun c194 => ?_) (fun c194 => absurd (by rw [bI_f hr]) c194)
      refine r_iconst (v := 0) (dk kX9_commandHere_p0 54 rfl) (by decide) ?_
      refine r_ireturn (dk kX9_commandHere_p0 55 rfl) rfl rfl ⟨Nat.le_of_ble_eq_true rfl, Nat.le_of_ble_eq_true rfl⟩ ⟨by rw [bI_f hf], _, by rw [e], t0.1, fun z => absurd z hf⟩
  · rw [if_neg hr] at a0
    rw [a0] at e
    have hf : ¬ (pC inp n p).1 = true := by rw [e]; exact hr
    refine r_if_eq (tgt := 201) (dk kX9_commandHere_p0 46 rfl) (by decide) (fun c185 => ?_) (fun c185 => absurd (by rw [bI_f hr]) c185)
    refine r_iconst (v := 0) (dk kX9_commandHere_p0 54 rfl) (by decide) ?_
    refine r_ireturn (dk kX9_commandHere_p0 55 rfl) rfl rfl ⟨Nat.le_of_ble_eq_true rfl, Nat.le_of_ble_eq_true rfl⟩ ⟨by rw [bI_f hf], _, by rw [e], t0.1, fun z => absurd z hf⟩
theorem k_cmd_f (o : MO M h) {n : Nat} {inp : Nat → Int32} (t : mIn M h n inp) {tl : Nat → Int32} {p k : Nat} (hp : p ≤ n) (hk : k < 30) (hc : hC inp n p = 102) : WW G IX9_commandHere (QCm M h inp n tl p k) 203 [.ref h, .int (nI (5 * k + 1))] [] (mTx M h tl p k) 0 0 := by
  have e : pC inp n p = qR inp n (tx_byt.getD 14 [] ++ [32, 68] ++ [32, 68] ++ [32, 78] ++ [32, 68]) (p, 0, fun _ => 0) := by
    unfold pC
    rw [hc]
    rfl
  have hwm := wd_m inp n (tx_byt.getD 14 []) (p, 0, fun _ => 0) (tx_dn 14 (by decide) (by decide))
  have hwl := qR_le inp n (fun _ _ => trivial) (tx_byt.getD 14 []) (p, 0, fun _ => 0) (tx_m1 14 (by decide)) hp
  have t0 : Tok k tl 102 (va_up tl (5 * k) (tC 14 0)) (qR inp n (tx_byt.getD 14 []) (p, 0, fun _ => 0)).2 := ⟨fun x hx => va_up_ne _ _ (by omega), va_up_self _ _ _, fun j hj => by rw [hwm] at hj; exact absurd hj (Nat.not_lt_zero j)⟩
  refine r_aload_n (dk kX9_commandHere_p0 56 rfl) rfl ?_
  refine r_ldcS (tx := "file") (i := 14) (dk kX9_commandHere_p0 57 rfl) (by decide +kernel) ?_
  refine r_callVp (I' := IX9_isWord) (as := [_]) (dk kX9_commandHere_p0 58 rfl) mv_X9_isWord ml_X9_190 rfl rfl o.k rfl rfl (Nat.le_of_ble_eq_true rfl) ⟨by decide, by decide⟩ ⟨rfl, rfl⟩ ⟨Nat.le_of_ble_eq_true rfl, Nat.le_of_ble_eq_true rfl⟩ (k_X9_isWordQ o t hp (i := 14) (by decide) (by decide) hk (0, fun _ => 0)) ?_
  -- at 209
  -- the word
  generalize hr0 : qR inp n (tx_byt.getD 14 []) (p, 0, fun _ => 0) = r0 at *
  have a0 := qR_app inp n (tx_byt.getD 14 []) [32, 68] (p, 0, fun _ => 0)
  have a1 := qR_app inp n (tx_byt.getD 14 [] ++ [32, 68]) [32, 68] (p, 0, fun _ => 0)
  have a2 := qR_app inp n (tx_byt.getD 14 [] ++ [32, 68] ++ [32, 68]) [32, 78] (p, 0, fun _ => 0)
  have a3 := qR_app inp n (tx_byt.getD 14 [] ++ [32, 68] ++ [32, 68] ++ [32, 78]) [32, 68] (p, 0, fun _ => 0)
  rw [hr0] at a0
  have m0 : r0.2.2.1 = 0 := by rw [hwm]
  by_cases hr : r0.1 = true
  · rw [if_pos hr] at a0
    rw [a0] at a1
    have st := Tok_step t0 inp n (X := 68) (by decide)
    have hl1 := qR_le inp n (fun _ _ => trivial) [32, 68] r0.2 (by decide) hwl
    refine r_if_eq (tgt := 258) (dk kX9_commandHere_p0 59 rfl) (by decide) (fun c209 => absurd c209 (by rw [bI_t hr]; decide)) (fun c209 => ?_)
    refine r_aload_n (dk kX9_commandHere_p1 0 rfl) rfl ?_
    refine r_iload_n (dk kX9_commandHere_p1 1 rfl) rfl ?_
    refine r_iconst (v := 1) (dk kX9_commandHere_p1 2 rfl) (by decide) ?_
    refine r_callVp (I' := IX9_figures) (as := [_, _]) (dk kX9_commandHere_p1 3 rfl) mv_X9_figures ml_X9_194 rfl rfl o.k rfl rfl (Nat.le_of_ble_eq_true rfl) ⟨by decide, by decide⟩ ⟨rfl, rfl⟩ ⟨Nat.le_of_ble_eq_true rfl, Nat.le_of_ble_eq_true rfl⟩ (k_X9_figures o t (s := r0.2) (X := 68) (a := 5 * k + 1 + 0) hwl (by decide) (by decide) rfl (by omega)) ?_
    -- at 218
    rw [m0] at st ⊢
    generalize hr1 : qR inp n [32, 68] r0.2 = r1 at *
    have hq0 := hr
    clear hr
    by_cases hr : r1.1 = true
    · obtain ⟨t1, m1⟩ := st hr
      rw [if_pos hr]
      rw [if_pos hr] at a1
      rw [a1] at a2
      have st := Tok_step t1 inp n (X := 68) (by decide)
      have hl2 := qR_le inp n (fun _ _ => trivial) [32, 68] r1.2 (by decide) hl1
      refine r_if_eq (tgt := 258) (dk kX9_commandHere_p1 4 rfl) (by decide) (fun c218 => absurd c218 (by rw [bI_t hr]; decide)) (fun c218 => ?_)
      refine r_aload_n (dk kX9_commandHere_p1 5 rfl) rfl ?_
      refine r_iload_n (dk kX9_commandHere_p1 6 rfl) rfl ?_
      refine r_iconst (v := 1) (dk kX9_commandHere_p1 7 rfl) (by decide) ?_
      refine r_iadd (dk kX9_commandHere_p1 8 rfl) ?_
      refine r_iconst (v := 1) (dk kX9_commandHere_p1 9 rfl) (by decide) ?_
      refine r_callVp (I' := IX9_figures) (as := [_, _]) (dk kX9_commandHere_p1 10 rfl) mv_X9_figures ml_X9_194 rfl rfl o.k rfl rfl (Nat.le_of_ble_eq_true rfl) ⟨by decide, by decide⟩ ⟨rfl, rfl⟩ ⟨Nat.le_of_ble_eq_true rfl, Nat.le_of_ble_eq_true rfl⟩ (k_X9_figures o t (s := r1.2) (X := 68) (a := 5 * k + 1 + 1) hl1 (by decide) (by decide) (nI_1 _) (by omega)) ?_
      -- at 229
      rw [m1] at st ⊢
      generalize hr2 : qR inp n [32, 68] r1.2 = r2 at *
      have hq1 := hr
      clear hr
      by_cases hr : r2.1 = true
      · obtain ⟨t2, m2⟩ := st hr
        rw [if_pos hr]
        rw [if_pos hr] at a2
        rw [a2] at a3
        have st := Tok_step t2 inp n (X := 78) (by decide)
        have hl3 := qR_le inp n (fun _ _ => trivial) [32, 78] r2.2 (by decide) hl2
        refine r_if_eq (tgt := 258) (dk kX9_commandHere_p1 11 rfl) (by decide) (fun c229 => absurd c229 (by rw [bI_t hr]; decide)) (fun c229 => ?_)
        refine r_aload_n (dk kX9_commandHere_p1 12 rfl) rfl ?_
        refine r_iload_n (dk kX9_commandHere_p1 13 rfl) rfl ?_
        refine r_iconst (v := 2) (dk kX9_commandHere_p1 14 rfl) (by decide) ?_
        refine r_iadd (dk kX9_commandHere_p1 15 rfl) ?_
        refine r_iconst (v := 2) (dk kX9_commandHere_p1 16 rfl) (by decide) ?_
        refine r_callVp (I' := IX9_figures) (as := [_, _]) (dk kX9_commandHere_p1 17 rfl) mv_X9_figures ml_X9_194 rfl rfl o.k rfl rfl (Nat.le_of_ble_eq_true rfl) ⟨by decide, by decide⟩ ⟨rfl, rfl⟩ ⟨Nat.le_of_ble_eq_true rfl, Nat.le_of_ble_eq_true rfl⟩ (k_X9_figures o t (s := r2.2) (X := 78) (a := 5 * k + 1 + 2) hl2 (by decide) (by decide) (ixd rfl) (by omega)) ?_
        -- at 240
        rw [m2] at st ⊢
        generalize hr3 : qR inp n [32, 78] r2.2 = r3 at *
        have hq2 := hr
        clear hr
        by_cases hr : r3.1 = true
        · obtain ⟨t3, m3⟩ := st hr
          rw [if_pos hr]
          rw [if_pos hr] at a3
          have st := Tok_step t3 inp n (X := 68) (by decide)
          have hl4 := qR_le inp n (fun _ _ => trivial) [32, 68] r3.2 (by decide) hl3
          refine r_if_eq (tgt := 258) (dk kX9_commandHere_p1 18 rfl) (by decide) (fun c240 => absurd c240 (by rw [bI_t hr]; decide)) (fun c240 => ?_)
          refine r_aload_n (dk kX9_commandHere_p1 19 rfl) rfl ?_
          refine r_iload_n (dk kX9_commandHere_p1 20 rfl) rfl ?_
          refine r_iconst (v := 3) (dk kX9_commandHere_p1 21 rfl) (by decide) ?_
          refine r_iadd (dk kX9_commandHere_p1 22 rfl) ?_
          refine r_iconst (v := 1) (dk kX9_commandHere_p1 23 rfl) (by decide) ?_
          refine r_callVp (I' := IX9_figures) (as := [_, _]) (dk kX9_commandHere_p1 24 rfl) mv_X9_figures ml_X9_194 rfl rfl o.k rfl rfl (Nat.le_of_ble_eq_true rfl) ⟨by decide, by decide⟩ ⟨rfl, rfl⟩ ⟨Nat.le_of_ble_eq_true rfl, Nat.le_of_ble_eq_true rfl⟩ (k_X9_figures o t (s := r3.2) (X := 68) (a := 5 * k + 1 + 3) hl3 (by decide) (by decide) (ixd rfl) (by omega)) ?_
          -- at 251
          rw [m3] at st ⊢
          generalize hr4 : qR inp n [32, 68] r3.2 = r4 at *
          have hq3 := hr
          clear hr
          rw [a3] at e
          by_cases hr : r4.1 = true
          · obtain ⟨t4, m4⟩ := st hr
            have hf : (pC inp n p).1 = true := by rw [e]; exact hr
            rw [if_pos hr]
            refine r_if_eq (tgt := 258) (dk kX9_commandHere_p1 25 rfl) (by decide) (fun c251 => absurd c251 (by rw [bI_t hr]; decide)) (fun c251 => ?_)
            refine r_iconst (v := 1) (dk kX9_commandHere_p1 26 rfl) (by decide) ?_
            refine r_goto (tgt := 259) (dk kX9_commandHere_p1 27 rfl) (by decide) ?_
            refine r_ireturn (dk kX9_commandHere_p1 29 rfl) rfl rfl ⟨Nat.le_of_ble_eq_true rfl, Nat.le_of_ble_eq_true rfl⟩ ⟨by rw [bI_t hf], _, by rw [e], t4.1, fun z => by rw [hc, e]; exact t4⟩
          · rw [if_neg hr]
            have hf : ¬ (pC inp n p).1 = true := by rw [e]; exact hr
            refine r_if_eq (tgt := 258) (dk kX9_commandHere_p1 25 rfl) (by decide) (fun c251 => ?_) (fun c251 => absurd (by rw [bI_f hr]) c251)
            refine r_iconst (v := 0) (dk kX9_commandHere_p1 28 rfl) (by decide) ?_
            refine r_ireturn (dk kX9_commandHere_p1 29 rfl) rfl rfl ⟨Nat.le_of_ble_eq_true rfl, Nat.le_of_ble_eq_true rfl⟩ ⟨by rw [bI_f hf], _, by rw [e], t3.1, fun z => absurd z hf⟩
        · rw [if_neg hr]
          rw [if_neg hr] at a3
          rw [a3] at e
          have hf : ¬ (pC inp n p).1 = true := by rw [e]; exact hr
          refine r_if_eq (tgt := 258) (dk kX9_commandHere_p1 18 rfl) (by decide) (fun c240 => ?_) (fun c240 => absurd (by rw [bI_f hr]) c240)
          refine r_iconst (v := 0) (dk kX9_commandHere_p1 28 rfl) (by decide) ?_
          refine r_ireturn (dk kX9_commandHere_p1 29 rfl) rfl rfl ⟨Nat.le_of_ble_eq_true rfl, Nat.le_of_ble_eq_true rfl⟩ ⟨by rw [bI_f hf], _, by rw [e], t2.1, fun z => absurd z hf⟩
      · rw [if_neg hr]
        rw [if_neg hr] at a2
        rw [a2, if_neg hr] at a3
        rw [a3] at e
        have hf : ¬ (pC inp n p).1 = true := by rw [e]; exact hr
        refine r_if_eq (tgt := 258) (dk kX9_commandHere_p1 11 rfl) (by decide) (fun c229 => ?_) (fun c229 => absurd (by rw [bI_f hr]) c229)
        refine r_iconst (v := 0) (dk kX9_commandHere_p1 28 rfl) (by decide) ?_
        refine r_ireturn (dk kX9_commandHere_p1 29 rfl) rfl rfl ⟨Nat.le_of_ble_eq_true rfl, Nat.le_of_ble_eq_true rfl⟩ ⟨by rw [bI_f hf], _, by rw [e], t1.1, fun z => absurd z hf⟩
    · rw [if_neg hr]
      rw [if_neg hr] at a1
      rw [a1, if_neg hr] at a2
      rw [a2, if_neg hr] at a3
      rw [a3] at e
      have hf : ¬ (pC inp n p).1 = true := by rw [e]; exact hr
      refine r_if_eq (tgt := 258) (dk kX9_commandHere_p1 4 rfl) (by decide) (fun c218 => ?_) (fun c218 => absurd (by rw [bI_f hr]) c218)
      refine r_iconst (v := 0) (dk kX9_commandHere_p1 28 rfl) (by decide) ?_
      refine r_ireturn (dk kX9_commandHere_p1 29 rfl) rfl rfl ⟨Nat.le_of_ble_eq_true rfl, Nat.le_of_ble_eq_true rfl⟩ ⟨by rw [bI_f hf], _, by rw [e], t0.1, fun z => absurd z hf⟩
  · rw [if_neg hr] at a0
    rw [a0, if_neg hr] at a1
    rw [a1, if_neg hr] at a2
    rw [a2, if_neg hr] at a3
    rw [a3] at e
    have hf : ¬ (pC inp n p).1 = true := by rw [e]; exact hr
    refine r_if_eq (tgt := 258) (dk kX9_commandHere_p0 59 rfl) (by decide) (fun c209 => ?_) (fun c209 => absurd (by rw [bI_f hr]) c209)
    refine r_iconst (v := 0) (dk kX9_commandHere_p1 28 rfl) (by decide) ?_
    refine r_ireturn (dk kX9_commandHere_p1 29 rfl) rfl rfl ⟨Nat.le_of_ble_eq_true rfl, Nat.le_of_ble_eq_true rfl⟩ ⟨by rw [bI_f hf], _, by rw [e], t0.1, fun z => absurd z hf⟩
theorem k_cmd_y (o : MO M h) {n : Nat} {inp : Nat → Int32} (t : mIn M h n inp) {tl : Nat → Int32} {p k : Nat} (hp : p ≤ n) (hk : k < 30) (hc : hC inp n p = 121) : WW G IX9_commandHere (QCm M h inp n tl p k) 260 [.ref h, .int (nI (5 * k + 1))] [] (mTx M h tl p k) 0 0 := by
  have e : pC inp n p = qR inp n (tx_byt.getD 15 [] ++ [32, 68] ++ [32, 78]) (p, 0, fun _ => 0) := by
    unfold pC
    rw [hc]
    rfl
  have hwm := wd_m inp n (tx_byt.getD 15 []) (p, 0, fun _ => 0) (tx_dn 15 (by decide) (by decide))
  have hwl := qR_le inp n (fun _ _ => trivial) (tx_byt.getD 15 []) (p, 0, fun _ => 0) (tx_m1 15 (by decide)) hp
  have t0 : Tok k tl 121 (va_up tl (5 * k) (tC 15 0)) (qR inp n (tx_byt.getD 15 []) (p, 0, fun _ => 0)).2 := ⟨fun x hx => va_up_ne _ _ (by omega), va_up_self _ _ _, fun j hj => by rw [hwm] at hj; exact absurd hj (Nat.not_lt_zero j)⟩
  refine r_aload_n (dk kX9_commandHere_p1 30 rfl) rfl ?_
  refine r_ldcS (tx := "yes") (i := 15) (dk kX9_commandHere_p1 31 rfl) (by decide +kernel) ?_
  refine r_callVp (I' := IX9_isWord) (as := [_]) (dk kX9_commandHere_p1 32 rfl) mv_X9_isWord ml_X9_190 rfl rfl o.k rfl rfl (Nat.le_of_ble_eq_true rfl) ⟨by decide, by decide⟩ ⟨rfl, rfl⟩ ⟨Nat.le_of_ble_eq_true rfl, Nat.le_of_ble_eq_true rfl⟩ (k_X9_isWordQ o t hp (i := 15) (by decide) (by decide) hk (0, fun _ => 0)) ?_
  -- at 266
  -- the word
  generalize hr0 : qR inp n (tx_byt.getD 15 []) (p, 0, fun _ => 0) = r0 at *
  have a0 := qR_app inp n (tx_byt.getD 15 []) [32, 68] (p, 0, fun _ => 0)
  have a1 := qR_app inp n (tx_byt.getD 15 [] ++ [32, 68]) [32, 78] (p, 0, fun _ => 0)
  rw [hr0] at a0
  have m0 : r0.2.2.1 = 0 := by rw [hwm]
  by_cases hr : r0.1 = true
  · rw [if_pos hr] at a0
    rw [a0] at a1
    have st := Tok_step t0 inp n (X := 68) (by decide)
    have hl1 := qR_le inp n (fun _ _ => trivial) [32, 68] r0.2 (by decide) hwl
    refine r_if_eq (tgt := 293) (dk kX9_commandHere_p1 33 rfl) (by decide) (fun c266 => absurd c266 (by rw [bI_t hr]; decide)) (fun c266 => ?_)
    refine r_aload_n (dk kX9_commandHere_p1 34 rfl) rfl ?_
    refine r_iload_n (dk kX9_commandHere_p1 35 rfl) rfl ?_
    refine r_iconst (v := 1) (dk kX9_commandHere_p1 36 rfl) (by decide) ?_
    refine r_callVp (I' := IX9_figures) (as := [_, _]) (dk kX9_commandHere_p1 37 rfl) mv_X9_figures ml_X9_194 rfl rfl o.k rfl rfl (Nat.le_of_ble_eq_true rfl) ⟨by decide, by decide⟩ ⟨rfl, rfl⟩ ⟨Nat.le_of_ble_eq_true rfl, Nat.le_of_ble_eq_true rfl⟩ (k_X9_figures o t (s := r0.2) (X := 68) (a := 5 * k + 1 + 0) hwl (by decide) (by decide) rfl (by omega)) ?_
    -- at 275
    rw [m0] at st ⊢
    generalize hr1 : qR inp n [32, 68] r0.2 = r1 at *
    have hq0 := hr
    clear hr
    by_cases hr : r1.1 = true
    · obtain ⟨t1, m1⟩ := st hr
      rw [if_pos hr]
      rw [if_pos hr] at a1
      have st := Tok_step t1 inp n (X := 78) (by decide)
      have hl2 := qR_le inp n (fun _ _ => trivial) [32, 78] r1.2 (by decide) hl1
      refine r_if_eq (tgt := 293) (dk kX9_commandHere_p1 38 rfl) (by decide) (fun c275 => absurd c275 (by rw [bI_t hr]; decide)) (fun c275 => ?_)
      refine r_aload_n (dk kX9_commandHere_p1 39 rfl) rfl ?_
      refine r_iload_n (dk kX9_commandHere_p1 40 rfl) rfl ?_
      refine r_iconst (v := 1) (dk kX9_commandHere_p1 41 rfl) (by decide) ?_
      refine r_iadd (dk kX9_commandHere_p1 42 rfl) ?_
      refine r_iconst (v := 2) (dk kX9_commandHere_p1 43 rfl) (by decide) ?_
      refine r_callVp (I' := IX9_figures) (as := [_, _]) (dk kX9_commandHere_p1 44 rfl) mv_X9_figures ml_X9_194 rfl rfl o.k rfl rfl (Nat.le_of_ble_eq_true rfl) ⟨by decide, by decide⟩ ⟨rfl, rfl⟩ ⟨Nat.le_of_ble_eq_true rfl, Nat.le_of_ble_eq_true rfl⟩ (k_X9_figures o t (s := r1.2) (X := 78) (a := 5 * k + 1 + 1) hl1 (by decide) (by decide) (nI_1 _) (by omega)) ?_
      -- at 286
      rw [m1] at st ⊢
      generalize hr2 : qR inp n [32, 78] r1.2 = r2 at *
      have hq1 := hr
      clear hr
      rw [a1] at e
      by_cases hr : r2.1 = true
      · obtain ⟨t2, m2⟩ := st hr
        have hf : (pC inp n p).1 = true := by rw [e]; exact hr
        rw [if_pos hr]
        refine r_if_eq (tgt := 293) (dk kX9_commandHere_p1 45 rfl) (by decide) (fun c286 => absurd c286 (by rw [bI_t hr]; decide)) (fun c286 => ?_)
        refine r_iconst (v := 1) (dk kX9_commandHere_p1 46 rfl) (by decide) ?_
        refine r_goto (tgt := 294) (dk kX9_commandHere_p1 47 rfl) (by decide) ?_
        refine r_ireturn (dk kX9_commandHere_p1 49 rfl) rfl rfl ⟨Nat.le_of_ble_eq_true rfl, Nat.le_of_ble_eq_true rfl⟩ ⟨by rw [bI_t hf], _, by rw [e], t2.1, fun z => by rw [hc, e]; exact t2⟩
      · rw [if_neg hr]
        have hf : ¬ (pC inp n p).1 = true := by rw [e]; exact hr
        refine r_if_eq (tgt := 293) (dk kX9_commandHere_p1 45 rfl) (by decide) (fun c286 => ?_) (fun c286 => absurd (by rw [bI_f hr]) c286)
        refine r_iconst (v := 0) (dk kX9_commandHere_p1 48 rfl) (by decide) ?_
        refine r_ireturn (dk kX9_commandHere_p1 49 rfl) rfl rfl ⟨Nat.le_of_ble_eq_true rfl, Nat.le_of_ble_eq_true rfl⟩ ⟨by rw [bI_f hf], _, by rw [e], t1.1, fun z => absurd z hf⟩
    · rw [if_neg hr]
      rw [if_neg hr] at a1
      rw [a1] at e
      have hf : ¬ (pC inp n p).1 = true := by rw [e]; exact hr
      refine r_if_eq (tgt := 293) (dk kX9_commandHere_p1 38 rfl) (by decide) (fun c275 => ?_) (fun c275 => absurd (by rw [bI_f hr]) c275)
      refine r_iconst (v := 0) (dk kX9_commandHere_p1 48 rfl) (by decide) ?_
      refine r_ireturn (dk kX9_commandHere_p1 49 rfl) rfl rfl ⟨Nat.le_of_ble_eq_true rfl, Nat.le_of_ble_eq_true rfl⟩ ⟨by rw [bI_f hf], _, by rw [e], t0.1, fun z => absurd z hf⟩
  · rw [if_neg hr] at a0
    rw [a0, if_neg hr] at a1
    rw [a1] at e
    have hf : ¬ (pC inp n p).1 = true := by rw [e]; exact hr
    refine r_if_eq (tgt := 293) (dk kX9_commandHere_p1 33 rfl) (by decide) (fun c266 => ?_) (fun c266 => absurd (by rw [bI_f hr]) c266)
    refine r_iconst (v := 0) (dk kX9_commandHere_p1 48 rfl) (by decide) ?_
    refine r_ireturn (dk kX9_commandHere_p1 49 rfl) rfl rfl ⟨Nat.le_of_ble_eq_true rfl, Nat.le_of_ble_eq_true rfl⟩ ⟨by rw [bI_f hf], _, by rw [e], t0.1, fun z => absurd z hf⟩
theorem k_cmd_n (o : MO M h) {n : Nat} {inp : Nat → Int32} (t : mIn M h n inp) {tl : Nat → Int32} {p k : Nat} (hp : p ≤ n) (hk : k < 30) (hc : hC inp n p = 110) : WW G IX9_commandHere (QCm M h inp n tl p k) 295 [.ref h, .int (nI (5 * k + 1))] [] (mTx M h tl p k) 0 0 := by
  have e : pC inp n p = qR inp n (tx_byt.getD 16 [] ++ [32, 68] ++ [32, 78]) (p, 0, fun _ => 0) := by
    unfold pC
    rw [hc]
    rfl
  have hwm := wd_m inp n (tx_byt.getD 16 []) (p, 0, fun _ => 0) (tx_dn 16 (by decide) (by decide))
  have hwl := qR_le inp n (fun _ _ => trivial) (tx_byt.getD 16 []) (p, 0, fun _ => 0) (tx_m1 16 (by decide)) hp
  have t0 : Tok k tl 110 (va_up tl (5 * k) (tC 16 0)) (qR inp n (tx_byt.getD 16 []) (p, 0, fun _ => 0)).2 := ⟨fun x hx => va_up_ne _ _ (by omega), va_up_self _ _ _, fun j hj => by rw [hwm] at hj; exact absurd hj (Nat.not_lt_zero j)⟩
  refine r_aload_n (dk kX9_commandHere_p1 50 rfl) rfl ?_
  refine r_ldcS (tx := "no") (i := 16) (dk kX9_commandHere_p1 51 rfl) (by decide +kernel) ?_
  refine r_callVp (I' := IX9_isWord) (as := [_]) (dk kX9_commandHere_p1 52 rfl) mv_X9_isWord ml_X9_190 rfl rfl o.k rfl rfl (Nat.le_of_ble_eq_true rfl) ⟨by decide, by decide⟩ ⟨rfl, rfl⟩ ⟨Nat.le_of_ble_eq_true rfl, Nat.le_of_ble_eq_true rfl⟩ (k_X9_isWordQ o t hp (i := 16) (by decide) (by decide) hk (0, fun _ => 0)) ?_
  -- at 301
  -- the word
  generalize hr0 : qR inp n (tx_byt.getD 16 []) (p, 0, fun _ => 0) = r0 at *
  have a0 := qR_app inp n (tx_byt.getD 16 []) [32, 68] (p, 0, fun _ => 0)
  have a1 := qR_app inp n (tx_byt.getD 16 [] ++ [32, 68]) [32, 78] (p, 0, fun _ => 0)
  rw [hr0] at a0
  have m0 : r0.2.2.1 = 0 := by rw [hwm]
  by_cases hr : r0.1 = true
  · rw [if_pos hr] at a0
    rw [a0] at a1
    have st := Tok_step t0 inp n (X := 68) (by decide)
    have hl1 := qR_le inp n (fun _ _ => trivial) [32, 68] r0.2 (by decide) hwl
    refine r_if_eq (tgt := 328) (dk kX9_commandHere_p1 53 rfl) (by decide) (fun c301 => absurd c301 (by rw [bI_t hr]; decide)) (fun c301 => ?_)
    refine r_aload_n (dk kX9_commandHere_p1 54 rfl) rfl ?_
    refine r_iload_n (dk kX9_commandHere_p1 55 rfl) rfl ?_
    refine r_iconst (v := 1) (dk kX9_commandHere_p1 56 rfl) (by decide) ?_
    refine r_callVp (I' := IX9_figures) (as := [_, _]) (dk kX9_commandHere_p1 57 rfl) mv_X9_figures ml_X9_194 rfl rfl o.k rfl rfl (Nat.le_of_ble_eq_true rfl) ⟨by decide, by decide⟩ ⟨rfl, rfl⟩ ⟨Nat.le_of_ble_eq_true rfl, Nat.le_of_ble_eq_true rfl⟩ (k_X9_figures o t (s := r0.2) (X := 68) (a := 5 * k + 1 + 0) hwl (by decide) (by decide) rfl (by omega)) ?_
    -- at 310
    rw [m0] at st ⊢
    generalize hr1 : qR inp n [32, 68] r0.2 = r1 at *
    have hq0 := hr
    clear hr
    by_cases hr : r1.1 = true
    · obtain ⟨t1, m1⟩ := st hr
      rw [if_pos hr]
      rw [if_pos hr] at a1
      have st := Tok_step t1 inp n (X := 78) (by decide)
      have hl2 := qR_le inp n (fun _ _ => trivial) [32, 78] r1.2 (by decide) hl1
      refine r_if_eq (tgt := 328) (dk kX9_commandHere_p1 58 rfl) (by decide) (fun c310 => absurd c310 (by rw [bI_t hr]; decide)) (fun c310 => ?_)
      refine r_aload_n (dk kX9_commandHere_p1 59 rfl) rfl ?_
      refine r_iload_n (dk kX9_commandHere_p2 0 rfl) rfl ?_
      refine r_iconst (v := 1) (dk kX9_commandHere_p2 1 rfl) (by decide) ?_
      refine r_iadd (dk kX9_commandHere_p2 2 rfl) ?_
      refine r_iconst (v := 2) (dk kX9_commandHere_p2 3 rfl) (by decide) ?_
      refine r_callVp (I' := IX9_figures) (as := [_, _]) (dk kX9_commandHere_p2 4 rfl) mv_X9_figures ml_X9_194 rfl rfl o.k rfl rfl (Nat.le_of_ble_eq_true rfl) ⟨by decide, by decide⟩ ⟨rfl, rfl⟩ ⟨Nat.le_of_ble_eq_true rfl, Nat.le_of_ble_eq_true rfl⟩ (k_X9_figures o t (s := r1.2) (X := 78) (a := 5 * k + 1 + 1) hl1 (by decide) (by decide) (nI_1 _) (by omega)) ?_
      -- at 321
      rw [m1] at st ⊢
      generalize hr2 : qR inp n [32, 78] r1.2 = r2 at *
      have hq1 := hr
      clear hr
      rw [a1] at e
      by_cases hr : r2.1 = true
      · obtain ⟨t2, m2⟩ := st hr
        have hf : (pC inp n p).1 = true := by rw [e]; exact hr
        rw [if_pos hr]
        refine r_if_eq (tgt := 328) (dk kX9_commandHere_p2 5 rfl) (by decide) (fun c321 => absurd c321 (by rw [bI_t hr]; decide)) (fun c321 => ?_)
        refine r_iconst (v := 1) (dk kX9_commandHere_p2 6 rfl) (by decide) ?_
        refine r_goto (tgt := 329) (dk kX9_commandHere_p2 7 rfl) (by decide) ?_
        refine r_ireturn (dk kX9_commandHere_p2 9 rfl) rfl rfl ⟨Nat.le_of_ble_eq_true rfl, Nat.le_of_ble_eq_true rfl⟩ ⟨by rw [bI_t hf], _, by rw [e], t2.1, fun z => by rw [hc, e]; exact t2⟩
      · rw [if_neg hr]
        have hf : ¬ (pC inp n p).1 = true := by rw [e]; exact hr
        refine r_if_eq (tgt := 328) (dk kX9_commandHere_p2 5 rfl) (by decide) (fun c321 => ?_) (fun c321 => absurd (by rw [bI_f hr]) c321)
        refine r_iconst (v := 0) (dk kX9_commandHere_p2 8 rfl) (by decide) ?_
        refine r_ireturn (dk kX9_commandHere_p2 9 rfl) rfl rfl ⟨Nat.le_of_ble_eq_true rfl, Nat.le_of_ble_eq_true rfl⟩ ⟨by rw [bI_f hf], _, by rw [e], t1.1, fun z => absurd z hf⟩
    · rw [if_neg hr]
      rw [if_neg hr] at a1
      rw [a1] at e
      have hf : ¬ (pC inp n p).1 = true := by rw [e]; exact hr
      refine r_if_eq (tgt := 328) (dk kX9_commandHere_p1 58 rfl) (by decide) (fun c310 => ?_) (fun c310 => absurd (by rw [bI_f hr]) c310)
      refine r_iconst (v := 0) (dk kX9_commandHere_p2 8 rfl) (by decide) ?_
      refine r_ireturn (dk kX9_commandHere_p2 9 rfl) rfl rfl ⟨Nat.le_of_ble_eq_true rfl, Nat.le_of_ble_eq_true rfl⟩ ⟨by rw [bI_f hf], _, by rw [e], t0.1, fun z => absurd z hf⟩
  · rw [if_neg hr] at a0
    rw [a0, if_neg hr] at a1
    rw [a1] at e
    have hf : ¬ (pC inp n p).1 = true := by rw [e]; exact hr
    refine r_if_eq (tgt := 328) (dk kX9_commandHere_p1 53 rfl) (by decide) (fun c301 => ?_) (fun c301 => absurd (by rw [bI_f hr]) c301)
    refine r_iconst (v := 0) (dk kX9_commandHere_p2 8 rfl) (by decide) ?_
    refine r_ireturn (dk kX9_commandHere_p2 9 rfl) rfl rfl ⟨Nat.le_of_ble_eq_true rfl, Nat.le_of_ble_eq_true rfl⟩ ⟨by rw [bI_f hf], _, by rw [e], t0.1, fun z => absurd z hf⟩
theorem k_cmd_c (o : MO M h) {n : Nat} {inp : Nat → Int32} (t : mIn M h n inp) {tl : Nat → Int32} {p k : Nat} (hp : p ≤ n) (hk : k < 30) (hc : hC inp n p = 99) : WW G IX9_commandHere (QCm M h inp n tl p k) 330 [.ref h, .int (nI (5 * k + 1))] [] (mTx M h tl p k) 0 0 := by
  have e : pC inp n p = qR inp n (tx_byt.getD 17 [] ++ [32, 78] ++ [32, 78]) (p, 0, fun _ => 0) := by
    unfold pC
    rw [hc]
    rfl
  have hwm := wd_m inp n (tx_byt.getD 17 []) (p, 0, fun _ => 0) (tx_dn 17 (by decide) (by decide))
  have hwl := qR_le inp n (fun _ _ => trivial) (tx_byt.getD 17 []) (p, 0, fun _ => 0) (tx_m1 17 (by decide)) hp
  have t0 : Tok k tl 99 (va_up tl (5 * k) (tC 17 0)) (qR inp n (tx_byt.getD 17 []) (p, 0, fun _ => 0)).2 := ⟨fun x hx => va_up_ne _ _ (by omega), va_up_self _ _ _, fun j hj => by rw [hwm] at hj; exact absurd hj (Nat.not_lt_zero j)⟩
  refine r_aload_n (dk kX9_commandHere_p2 10 rfl) rfl ?_
  refine r_ldcS (tx := "cite") (i := 17) (dk kX9_commandHere_p2 11 rfl) (by decide +kernel) ?_
  refine r_callVp (I' := IX9_isWord) (as := [_]) (dk kX9_commandHere_p2 12 rfl) mv_X9_isWord ml_X9_190 rfl rfl o.k rfl rfl (Nat.le_of_ble_eq_true rfl) ⟨by decide, by decide⟩ ⟨rfl, rfl⟩ ⟨Nat.le_of_ble_eq_true rfl, Nat.le_of_ble_eq_true rfl⟩ (k_X9_isWordQ o t hp (i := 17) (by decide) (by decide) hk (0, fun _ => 0)) ?_
  -- at 336
  -- the word
  generalize hr0 : qR inp n (tx_byt.getD 17 []) (p, 0, fun _ => 0) = r0 at *
  have a0 := qR_app inp n (tx_byt.getD 17 []) [32, 78] (p, 0, fun _ => 0)
  have a1 := qR_app inp n (tx_byt.getD 17 [] ++ [32, 78]) [32, 78] (p, 0, fun _ => 0)
  rw [hr0] at a0
  have m0 : r0.2.2.1 = 0 := by rw [hwm]
  by_cases hr : r0.1 = true
  · rw [if_pos hr] at a0
    rw [a0] at a1
    have st := Tok_step t0 inp n (X := 78) (by decide)
    have hl1 := qR_le inp n (fun _ _ => trivial) [32, 78] r0.2 (by decide) hwl
    refine r_if_eq (tgt := 363) (dk kX9_commandHere_p2 13 rfl) (by decide) (fun c336 => absurd c336 (by rw [bI_t hr]; decide)) (fun c336 => ?_)
    refine r_aload_n (dk kX9_commandHere_p2 14 rfl) rfl ?_
    refine r_iload_n (dk kX9_commandHere_p2 15 rfl) rfl ?_
    refine r_iconst (v := 2) (dk kX9_commandHere_p2 16 rfl) (by decide) ?_
    refine r_callVp (I' := IX9_figures) (as := [_, _]) (dk kX9_commandHere_p2 17 rfl) mv_X9_figures ml_X9_194 rfl rfl o.k rfl rfl (Nat.le_of_ble_eq_true rfl) ⟨by decide, by decide⟩ ⟨rfl, rfl⟩ ⟨Nat.le_of_ble_eq_true rfl, Nat.le_of_ble_eq_true rfl⟩ (k_X9_figures o t (s := r0.2) (X := 78) (a := 5 * k + 1 + 0) hwl (by decide) (by decide) rfl (by omega)) ?_
    -- at 345
    rw [m0] at st ⊢
    generalize hr1 : qR inp n [32, 78] r0.2 = r1 at *
    have hq0 := hr
    clear hr
    by_cases hr : r1.1 = true
    · obtain ⟨t1, m1⟩ := st hr
      rw [if_pos hr]
      rw [if_pos hr] at a1
      have st := Tok_step t1 inp n (X := 78) (by decide)
      have hl2 := qR_le inp n (fun _ _ => trivial) [32, 78] r1.2 (by decide) hl1
      refine r_if_eq (tgt := 363) (dk kX9_commandHere_p2 18 rfl) (by decide) (fun c345 => absurd c345 (by rw [bI_t hr]; decide)) (fun c345 => ?_)
      refine r_aload_n (dk kX9_commandHere_p2 19 rfl) rfl ?_
      refine r_iload_n (dk kX9_commandHere_p2 20 rfl) rfl ?_
      refine r_iconst (v := 1) (dk kX9_commandHere_p2 21 rfl) (by decide) ?_
      refine r_iadd (dk kX9_commandHere_p2 22 rfl) ?_
      refine r_iconst (v := 2) (dk kX9_commandHere_p2 23 rfl) (by decide) ?_
      refine r_callVp (I' := IX9_figures) (as := [_, _]) (dk kX9_commandHere_p2 24 rfl) mv_X9_figures ml_X9_194 rfl rfl o.k rfl rfl (Nat.le_of_ble_eq_true rfl) ⟨by decide, by decide⟩ ⟨rfl, rfl⟩ ⟨Nat.le_of_ble_eq_true rfl, Nat.le_of_ble_eq_true rfl⟩ (k_X9_figures o t (s := r1.2) (X := 78) (a := 5 * k + 1 + 1) hl1 (by decide) (by decide) (nI_1 _) (by omega)) ?_
      -- at 356
      rw [m1] at st ⊢
      generalize hr2 : qR inp n [32, 78] r1.2 = r2 at *
      have hq1 := hr
      clear hr
      rw [a1] at e
      by_cases hr : r2.1 = true
      · obtain ⟨t2, m2⟩ := st hr
        have hf : (pC inp n p).1 = true := by rw [e]; exact hr
        rw [if_pos hr]
        refine r_if_eq (tgt := 363) (dk kX9_commandHere_p2 25 rfl) (by decide) (fun c356 => absurd c356 (by rw [bI_t hr]; decide)) (fun c356 => ?_)
        refine r_iconst (v := 1) (dk kX9_commandHere_p2 26 rfl) (by decide) ?_
        refine r_goto (tgt := 364) (dk kX9_commandHere_p2 27 rfl) (by decide) ?_
        refine r_ireturn (dk kX9_commandHere_p2 29 rfl) rfl rfl ⟨Nat.le_of_ble_eq_true rfl, Nat.le_of_ble_eq_true rfl⟩ ⟨by rw [bI_t hf], _, by rw [e], t2.1, fun z => by rw [hc, e]; exact t2⟩
      · rw [if_neg hr]
        have hf : ¬ (pC inp n p).1 = true := by rw [e]; exact hr
        refine r_if_eq (tgt := 363) (dk kX9_commandHere_p2 25 rfl) (by decide) (fun c356 => ?_) (fun c356 => absurd (by rw [bI_f hr]) c356)
        refine r_iconst (v := 0) (dk kX9_commandHere_p2 28 rfl) (by decide) ?_
        refine r_ireturn (dk kX9_commandHere_p2 29 rfl) rfl rfl ⟨Nat.le_of_ble_eq_true rfl, Nat.le_of_ble_eq_true rfl⟩ ⟨by rw [bI_f hf], _, by rw [e], t1.1, fun z => absurd z hf⟩
    · rw [if_neg hr]
      rw [if_neg hr] at a1
      rw [a1] at e
      have hf : ¬ (pC inp n p).1 = true := by rw [e]; exact hr
      refine r_if_eq (tgt := 363) (dk kX9_commandHere_p2 18 rfl) (by decide) (fun c345 => ?_) (fun c345 => absurd (by rw [bI_f hr]) c345)
      refine r_iconst (v := 0) (dk kX9_commandHere_p2 28 rfl) (by decide) ?_
      refine r_ireturn (dk kX9_commandHere_p2 29 rfl) rfl rfl ⟨Nat.le_of_ble_eq_true rfl, Nat.le_of_ble_eq_true rfl⟩ ⟨by rw [bI_f hf], _, by rw [e], t0.1, fun z => absurd z hf⟩
  · rw [if_neg hr] at a0
    rw [a0, if_neg hr] at a1
    rw [a1] at e
    have hf : ¬ (pC inp n p).1 = true := by rw [e]; exact hr
    refine r_if_eq (tgt := 363) (dk kX9_commandHere_p2 13 rfl) (by decide) (fun c336 => ?_) (fun c336 => absurd (by rw [bI_f hr]) c336)
    refine r_iconst (v := 0) (dk kX9_commandHere_p2 28 rfl) (by decide) ?_
    refine r_ireturn (dk kX9_commandHere_p2 29 rfl) rfl rfl ⟨Nat.le_of_ble_eq_true rfl, Nat.le_of_ble_eq_true rfl⟩ ⟨by rw [bI_f hf], _, by rw [e], t0.1, fun z => absurd z hf⟩
theorem k_cmd_v (o : MO M h) {n : Nat} {inp : Nat → Int32} (t : mIn M h n inp) {tl : Nat → Int32} {p k : Nat} (hp : p ≤ n) (hk : k < 30) (hc : hC inp n p = 118) : WW G IX9_commandHere (QCm M h inp n tl p k) 365 [.ref h, .int (nI (5 * k + 1))] [] (mTx M h tl p k) 0 0 := by
  have e : pC inp n p = qR inp n (tx_byt.getD 18 [] ++ [32, 68] ++ [32, 78]) (p, 0, fun _ => 0) := by
    unfold pC
    rw [hc]
    rfl
  have hwm := wd_m inp n (tx_byt.getD 18 []) (p, 0, fun _ => 0) (tx_dn 18 (by decide) (by decide))
  have hwl := qR_le inp n (fun _ _ => trivial) (tx_byt.getD 18 []) (p, 0, fun _ => 0) (tx_m1 18 (by decide)) hp
  have t0 : Tok k tl 118 (va_up tl (5 * k) (tC 18 0)) (qR inp n (tx_byt.getD 18 []) (p, 0, fun _ => 0)).2 := ⟨fun x hx => va_up_ne _ _ (by omega), va_up_self _ _ _, fun j hj => by rw [hwm] at hj; exact absurd hj (Nat.not_lt_zero j)⟩
  refine r_aload_n (dk kX9_commandHere_p2 30 rfl) rfl ?_
  refine r_ldcS (tx := "veto") (i := 18) (dk kX9_commandHere_p2 31 rfl) (by decide +kernel) ?_
  refine r_callVp (I' := IX9_isWord) (as := [_]) (dk kX9_commandHere_p2 32 rfl) mv_X9_isWord ml_X9_190 rfl rfl o.k rfl rfl (Nat.le_of_ble_eq_true rfl) ⟨by decide, by decide⟩ ⟨rfl, rfl⟩ ⟨Nat.le_of_ble_eq_true rfl, Nat.le_of_ble_eq_true rfl⟩ (k_X9_isWordQ o t hp (i := 18) (by decide) (by decide) hk (0, fun _ => 0)) ?_
  -- at 371
  -- the word
  generalize hr0 : qR inp n (tx_byt.getD 18 []) (p, 0, fun _ => 0) = r0 at *
  have a0 := qR_app inp n (tx_byt.getD 18 []) [32, 68] (p, 0, fun _ => 0)
  have a1 := qR_app inp n (tx_byt.getD 18 [] ++ [32, 68]) [32, 78] (p, 0, fun _ => 0)
  rw [hr0] at a0
  have m0 : r0.2.2.1 = 0 := by rw [hwm]
  by_cases hr : r0.1 = true
  · rw [if_pos hr] at a0
    rw [a0] at a1
    have st := Tok_step t0 inp n (X := 68) (by decide)
    have hl1 := qR_le inp n (fun _ _ => trivial) [32, 68] r0.2 (by decide) hwl
    refine r_if_eq (tgt := 398) (dk kX9_commandHere_p2 33 rfl) (by decide) (fun c371 => absurd c371 (by rw [bI_t hr]; decide)) (fun c371 => ?_)
    refine r_aload_n (dk kX9_commandHere_p2 34 rfl) rfl ?_
    refine r_iload_n (dk kX9_commandHere_p2 35 rfl) rfl ?_
    refine r_iconst (v := 1) (dk kX9_commandHere_p2 36 rfl) (by decide) ?_
    refine r_callVp (I' := IX9_figures) (as := [_, _]) (dk kX9_commandHere_p2 37 rfl) mv_X9_figures ml_X9_194 rfl rfl o.k rfl rfl (Nat.le_of_ble_eq_true rfl) ⟨by decide, by decide⟩ ⟨rfl, rfl⟩ ⟨Nat.le_of_ble_eq_true rfl, Nat.le_of_ble_eq_true rfl⟩ (k_X9_figures o t (s := r0.2) (X := 68) (a := 5 * k + 1 + 0) hwl (by decide) (by decide) rfl (by omega)) ?_
    -- at 380
    rw [m0] at st ⊢
    generalize hr1 : qR inp n [32, 68] r0.2 = r1 at *
    have hq0 := hr
    clear hr
    by_cases hr : r1.1 = true
    · obtain ⟨t1, m1⟩ := st hr
      rw [if_pos hr]
      rw [if_pos hr] at a1
      have st := Tok_step t1 inp n (X := 78) (by decide)
      have hl2 := qR_le inp n (fun _ _ => trivial) [32, 78] r1.2 (by decide) hl1
      refine r_if_eq (tgt := 398) (dk kX9_commandHere_p2 38 rfl) (by decide) (fun c380 => absurd c380 (by rw [bI_t hr]; decide)) (fun c380 => ?_)
      refine r_aload_n (dk kX9_commandHere_p2 39 rfl) rfl ?_
      refine r_iload_n (dk kX9_commandHere_p2 40 rfl) rfl ?_
      refine r_iconst (v := 1) (dk kX9_commandHere_p2 41 rfl) (by decide) ?_
      refine r_iadd (dk kX9_commandHere_p2 42 rfl) ?_
      refine r_iconst (v := 2) (dk kX9_commandHere_p2 43 rfl) (by decide) ?_
      refine r_callVp (I' := IX9_figures) (as := [_, _]) (dk kX9_commandHere_p2 44 rfl) mv_X9_figures ml_X9_194 rfl rfl o.k rfl rfl (Nat.le_of_ble_eq_true rfl) ⟨by decide, by decide⟩ ⟨rfl, rfl⟩ ⟨Nat.le_of_ble_eq_true rfl, Nat.le_of_ble_eq_true rfl⟩ (k_X9_figures o t (s := r1.2) (X := 78) (a := 5 * k + 1 + 1) hl1 (by decide) (by decide) (nI_1 _) (by omega)) ?_
      -- at 391
      rw [m1] at st ⊢
      generalize hr2 : qR inp n [32, 78] r1.2 = r2 at *
      have hq1 := hr
      clear hr
      rw [a1] at e
      by_cases hr : r2.1 = true
      · obtain ⟨t2, m2⟩ := st hr
        have hf : (pC inp n p).1 = true := by rw [e]; exact hr
        rw [if_pos hr]
        refine r_if_eq (tgt := 398) (dk kX9_commandHere_p2 45 rfl) (by decide) (fun c391 => absurd c391 (by rw [bI_t hr]; decide)) (fun c391 => ?_)
        refine r_iconst (v := 1) (dk kX9_commandHere_p2 46 rfl) (by decide) ?_
        refine r_goto (tgt := 399) (dk kX9_commandHere_p2 47 rfl) (by decide) ?_
        refine r_ireturn (dk kX9_commandHere_p2 49 rfl) rfl rfl ⟨Nat.le_of_ble_eq_true rfl, Nat.le_of_ble_eq_true rfl⟩ ⟨by rw [bI_t hf], _, by rw [e], t2.1, fun z => by rw [hc, e]; exact t2⟩
      · rw [if_neg hr]
        have hf : ¬ (pC inp n p).1 = true := by rw [e]; exact hr
        refine r_if_eq (tgt := 398) (dk kX9_commandHere_p2 45 rfl) (by decide) (fun c391 => ?_) (fun c391 => absurd (by rw [bI_f hr]) c391)
        refine r_iconst (v := 0) (dk kX9_commandHere_p2 48 rfl) (by decide) ?_
        refine r_ireturn (dk kX9_commandHere_p2 49 rfl) rfl rfl ⟨Nat.le_of_ble_eq_true rfl, Nat.le_of_ble_eq_true rfl⟩ ⟨by rw [bI_f hf], _, by rw [e], t1.1, fun z => absurd z hf⟩
    · rw [if_neg hr]
      rw [if_neg hr] at a1
      rw [a1] at e
      have hf : ¬ (pC inp n p).1 = true := by rw [e]; exact hr
      refine r_if_eq (tgt := 398) (dk kX9_commandHere_p2 38 rfl) (by decide) (fun c380 => ?_) (fun c380 => absurd (by rw [bI_f hr]) c380)
      refine r_iconst (v := 0) (dk kX9_commandHere_p2 48 rfl) (by decide) ?_
      refine r_ireturn (dk kX9_commandHere_p2 49 rfl) rfl rfl ⟨Nat.le_of_ble_eq_true rfl, Nat.le_of_ble_eq_true rfl⟩ ⟨by rw [bI_f hf], _, by rw [e], t0.1, fun z => absurd z hf⟩
  · rw [if_neg hr] at a0
    rw [a0, if_neg hr] at a1
    rw [a1] at e
    have hf : ¬ (pC inp n p).1 = true := by rw [e]; exact hr
    refine r_if_eq (tgt := 398) (dk kX9_commandHere_p2 33 rfl) (by decide) (fun c371 => ?_) (fun c371 => absurd (by rw [bI_f hr]) c371)
    refine r_iconst (v := 0) (dk kX9_commandHere_p2 48 rfl) (by decide) ?_
    refine r_ireturn (dk kX9_commandHere_p2 49 rfl) rfl rfl ⟨Nat.le_of_ble_eq_true rfl, Nat.le_of_ble_eq_true rfl⟩ ⟨by rw [bI_f hf], _, by rw [e], t0.1, fun z => absurd z hf⟩
theorem k_cmd_w (o : MO M h) {n : Nat} {inp : Nat → Int32} (t : mIn M h n inp) {tl : Nat → Int32} {p k : Nat} (hp : p ≤ n) (hk : k < 30) (hc : hC inp n p = 119) : WW G IX9_commandHere (QCm M h inp n tl p k) 400 [.ref h, .int (nI (5 * k + 1))] [] (mTx M h tl p k) 0 0 := by
  have e : pC inp n p = qR inp n (tx_byt.getD 19 [] ++ [32, 78]) (p, 0, fun _ => 0) := by
    unfold pC
    rw [hc]
    rfl
  have hwm := wd_m inp n (tx_byt.getD 19 []) (p, 0, fun _ => 0) (tx_dn 19 (by decide) (by decide))
  have hwl := qR_le inp n (fun _ _ => trivial) (tx_byt.getD 19 []) (p, 0, fun _ => 0) (tx_m1 19 (by decide)) hp
  have t0 : Tok k tl 119 (va_up tl (5 * k) (tC 19 0)) (qR inp n (tx_byt.getD 19 []) (p, 0, fun _ => 0)).2 := ⟨fun x hx => va_up_ne _ _ (by omega), va_up_self _ _ _, fun j hj => by rw [hwm] at hj; exact absurd hj (Nat.not_lt_zero j)⟩
  refine r_aload_n (dk kX9_commandHere_p2 50 rfl) rfl ?_
  refine r_ldcS (tx := "withdraw") (i := 19) (dk kX9_commandHere_p2 51 rfl) (by decide +kernel) ?_
  refine r_callVp (I' := IX9_isWord) (as := [_]) (dk kX9_commandHere_p2 52 rfl) mv_X9_isWord ml_X9_190 rfl rfl o.k rfl rfl (Nat.le_of_ble_eq_true rfl) ⟨by decide, by decide⟩ ⟨rfl, rfl⟩ ⟨Nat.le_of_ble_eq_true rfl, Nat.le_of_ble_eq_true rfl⟩ (k_X9_isWordQ o t hp (i := 19) (by decide) (by decide) hk (0, fun _ => 0)) ?_
  -- at 406
  -- the word
  generalize hr0 : qR inp n (tx_byt.getD 19 []) (p, 0, fun _ => 0) = r0 at *
  have a0 := qR_app inp n (tx_byt.getD 19 []) [32, 78] (p, 0, fun _ => 0)
  rw [hr0] at a0
  have m0 : r0.2.2.1 = 0 := by rw [hwm]
  by_cases hr : r0.1 = true
  · rw [if_pos hr] at a0
    have st := Tok_step t0 inp n (X := 78) (by decide)
    have hl1 := qR_le inp n (fun _ _ => trivial) [32, 78] r0.2 (by decide) hwl
    refine r_if_eq (tgt := 422) (dk kX9_commandHere_p2 53 rfl) (by decide) (fun c406 => absurd c406 (by rw [bI_t hr]; decide)) (fun c406 => ?_)
    refine r_aload_n (dk kX9_commandHere_p2 54 rfl) rfl ?_
    refine r_iload_n (dk kX9_commandHere_p2 55 rfl) rfl ?_
    refine r_iconst (v := 2) (dk kX9_commandHere_p2 56 rfl) (by decide) ?_
    refine r_callVp (I' := IX9_figures) (as := [_, _]) (dk kX9_commandHere_p2 57 rfl) mv_X9_figures ml_X9_194 rfl rfl o.k rfl rfl (Nat.le_of_ble_eq_true rfl) ⟨by decide, by decide⟩ ⟨rfl, rfl⟩ ⟨Nat.le_of_ble_eq_true rfl, Nat.le_of_ble_eq_true rfl⟩ (k_X9_figures o t (s := r0.2) (X := 78) (a := 5 * k + 1 + 0) hwl (by decide) (by decide) rfl (by omega)) ?_
    -- at 415
    rw [m0] at st ⊢
    generalize hr1 : qR inp n [32, 78] r0.2 = r1 at *
    have hq0 := hr
    clear hr
    rw [a0] at e
    by_cases hr : r1.1 = true
    · obtain ⟨t1, m1⟩ := st hr
      have hf : (pC inp n p).1 = true := by rw [e]; exact hr
      rw [if_pos hr]
      refine r_if_eq (tgt := 422) (dk kX9_commandHere_p2 58 rfl) (by decide) (fun c415 => absurd c415 (by rw [bI_t hr]; decide)) (fun c415 => ?_)
      refine r_iconst (v := 1) (dk kX9_commandHere_p2 59 rfl) (by decide) ?_
      refine r_goto (tgt := 423) (dk kX9_commandHere_p3 0 rfl) (by decide) ?_
      refine r_ireturn (dk kX9_commandHere_p3 2 rfl) rfl rfl ⟨Nat.le_of_ble_eq_true rfl, Nat.le_of_ble_eq_true rfl⟩ ⟨by rw [bI_t hf], _, by rw [e], t1.1, fun z => by rw [hc, e]; exact t1⟩
    · rw [if_neg hr]
      have hf : ¬ (pC inp n p).1 = true := by rw [e]; exact hr
      refine r_if_eq (tgt := 422) (dk kX9_commandHere_p2 58 rfl) (by decide) (fun c415 => ?_) (fun c415 => absurd (by rw [bI_f hr]) c415)
      refine r_iconst (v := 0) (dk kX9_commandHere_p3 1 rfl) (by decide) ?_
      refine r_ireturn (dk kX9_commandHere_p3 2 rfl) rfl rfl ⟨Nat.le_of_ble_eq_true rfl, Nat.le_of_ble_eq_true rfl⟩ ⟨by rw [bI_f hf], _, by rw [e], t0.1, fun z => absurd z hf⟩
  · rw [if_neg hr] at a0
    rw [a0] at e
    have hf : ¬ (pC inp n p).1 = true := by rw [e]; exact hr
    refine r_if_eq (tgt := 422) (dk kX9_commandHere_p2 53 rfl) (by decide) (fun c406 => ?_) (fun c406 => absurd (by rw [bI_f hr]) c406)
    refine r_iconst (v := 0) (dk kX9_commandHere_p3 1 rfl) (by decide) ?_
    refine r_ireturn (dk kX9_commandHere_p3 2 rfl) rfl rfl ⟨Nat.le_of_ble_eq_true rfl, Nat.le_of_ble_eq_true rfl⟩ ⟨by rw [bI_f hf], _, by rw [e], t0.1, fun z => absurd z hf⟩
theorem k_cmd_d (o : MO M h) {n : Nat} {inp : Nat → Int32} (t : mIn M h n inp) {tl : Nat → Int32} {p k : Nat} (hp : p ≤ n) (hk : k < 30) (hc : hC inp n p = 100) : WW G IX9_commandHere (QCm M h inp n tl p k) 424 [.ref h, .int (nI (5 * k + 1))] [] (mTx M h tl p k) 0 0 := by
  have e : pC inp n p = qR inp n (tx_byt.getD 9 []) (p, 0, fun _ => 0) := by
    unfold pC
    rw [hc]
    rfl
  have hwm := wd_m inp n (tx_byt.getD 9 []) (p, 0, fun _ => 0) (tx_dn 9 (by decide) (by decide))
  have hwl := qR_le inp n (fun _ _ => trivial) (tx_byt.getD 9 []) (p, 0, fun _ => 0) (tx_m1 9 (by decide)) hp
  have t0 : Tok k tl 100 (va_up tl (5 * k) (tC 9 0)) (qR inp n (tx_byt.getD 9 []) (p, 0, fun _ => 0)).2 := ⟨fun x hx => va_up_ne _ _ (by omega), va_up_self _ _ _, fun j hj => by rw [hwm] at hj; exact absurd hj (Nat.not_lt_zero j)⟩
  refine r_aload_n (dk kX9_commandHere_p3 3 rfl) rfl ?_
  refine r_ldcS (tx := "decide") (i := 9) (dk kX9_commandHere_p3 4 rfl) (by decide +kernel) ?_
  refine r_callVp (I' := IX9_isWord) (as := [_]) (dk kX9_commandHere_p3 5 rfl) mv_X9_isWord ml_X9_190 rfl rfl o.k rfl rfl (Nat.le_of_ble_eq_true rfl) ⟨by decide, by decide⟩ ⟨rfl, rfl⟩ ⟨Nat.le_of_ble_eq_true rfl, Nat.le_of_ble_eq_true rfl⟩ (k_X9_isWordQ o t hp (i := 9) (by decide) (by decide) hk (0, fun _ => 0)) ?_
  -- at 430
  rw [← e] at t0 hwl ⊢
  refine r_ireturn (dk kX9_commandHere_p3 6 rfl) rfl (nbI _) ⟨Nat.le_of_ble_eq_true rfl, Nat.le_of_ble_eq_true rfl⟩ ⟨rfl, _, rfl, t0.1, fun _ => by rw [hc]; exact t0⟩
end MODEL
