/-! THE TEXT OF COMMANDS, as it is read: inp its signs, n how many -/
/-- the sign at place p; -1: none -/
def hC (inp : Nat → Int32) (n p : Nat) : Int32 := if p < n then inp p else -1
def qDg (inp : Nat → Int32) (n p : Nat) : Bool := decide (48 ≤ hC inp n p ∧ hC inp n p ≤ 57)
def qDv (inp : Nat → Int32) (n p : Nat) : Nat := (hC inp n p).toNatClampNeg - 48
/-- a number of one or two digits at p: its value, the place behind it -/
def qV (inp : Nat → Int32) (n p : Nat) (two : Bool) : Nat × Nat := if two && qDg inp n (p + 1) then (10 * qDv inp n p + qDv inp n (p + 1), p + 2) else (qDv inp n p, p + 1)
/-- the place, how many values, the values -/
abbrev QS : Type := Nat × Nat × (Nat → Nat)
/-- a pattern: 68 a digit, 78 a number, else the sign itself -/
def qR (inp : Nat → Int32) (n : Nat) : List Int32 → QS → Bool × QS
  | [], s => (true, s)
  | c :: cs, s => if c = 68 ∨ c = 78 then (if qDg inp n s.1 = true then qR inp n cs ((qV inp n s.1 (decide (c = 78))).2, s.2.1 + 1, va_up s.2.2 s.2.1 (qV inp n s.1 (decide (c = 78))).1) else (false, s)) else if hC inp n s.1 = c then qR inp n cs (s.1 + 1, s.2) else (false, s)
theorem qR_app (inp : Nat → Int32) (n : Nat) : ∀ (a b : List Int32) (s : QS), qR inp n (a ++ b) s = if (qR inp n a s).1 = true then qR inp n b (qR inp n a s).2 else qR inp n a s
  | [], b, s => by
    show qR inp n b s = if true = true then _ else _
    rw [if_pos rfl]
    rfl
  | c :: cs, b, s => by
    show (if c = 68 ∨ c = 78 then (if qDg inp n s.1 = true then qR inp n (cs ++ b) _ else (false, s)) else if hC inp n s.1 = c then qR inp n (cs ++ b) _ else (false, s)) = if (if c = 68 ∨ c = 78 then (if qDg inp n s.1 = true then qR inp n cs _ else (false, s)) else if hC inp n s.1 = c then qR inp n cs _ else (false, s)).1 = true then qR inp n b (if c = 68 ∨ c = 78 then (if qDg inp n s.1 = true then qR inp n cs _ else (false, s)) else if hC inp n s.1 = c then qR inp n cs _ else (false, s)).2 else (if c = 68 ∨ c = 78 then (if qDg inp n s.1 = true then qR inp n cs _ else (false, s)) else if hC inp n s.1 = c then qR inp n cs _ else (false, s))
    split
    · split
      · exact qR_app inp n cs b _
      · rfl
    · split
      · exact qR_app inp n cs b _
      · rfl
theorem qDg_v {inp : Nat → Int32} {n p : Nat} (h : qDg inp n p = true) : hC inp n p = nI (48 + qDv inp n p) ∧ qDv inp n p < 10 ∧ p < n := by
  obtain ⟨h1, h2⟩ := of_decide_eq_true h
  obtain ⟨k, hk, hx⟩ := nI_of (Int32.not_lt.mpr (Int32.le_trans (by decide) h1))
  rw [hx] at h1 h2
  have a1 := (nI_leI (a := 48) (b := k) (by decide) (by omega)).mp h1
  have a2 := (nI_leI (a := k) (b := 57) (by omega) (by decide)).mp h2
  have e : qDv inp n p = k - 48 := by unfold qDv; rw [hx, nI_clamp (by omega)]
  refine ⟨by rw [hx, e]; congr 1; omega, by omega, ?_⟩
  by_cases hp : p < n
  · exact hp
  · exfalso
    unfold hC at hx
    rw [if_neg hp] at hx
    have : (-1 : Int32) < 0 := by decide
    rw [hx] at this
    exact nI_pos (by omega) this
/-- no pattern goes on past the end -/
theorem qR_le (inp : Nat → Int32) (n : Nat) (hi : ∀ p, inp p ≠ -1 → True) : ∀ (w : List Int32) (s : QS), (∀ c ∈ w, c ≠ -1) → s.1 ≤ n → (qR inp n w s).2.1 ≤ n
  | [], s, _, h => h
  | c :: cs, s, hw, h => by
    have ih := fun s => qR_le inp n hi cs s (fun c hc => hw c (List.mem_cons_of_mem _ hc))
    show (if c = 68 ∨ c = 78 then (if qDg inp n s.1 = true then qR inp n cs _ else (false, s)) else if hC inp n s.1 = c then qR inp n cs _ else (false, s)).2.1 ≤ n
    split
    · split
      · rename_i hd
        refine ih _ ?_
        have h1 := (qDg_v hd).2.2
        show (qV inp n s.1 _).2 ≤ n
        unfold qV
        split
        · rename_i h2
          have h3 := (qDg_v (Bool.and_eq_true_iff.mp h2).2).2.2
          show s.1 + 2 ≤ n
          omega
        · show s.1 + 1 ≤ n
          omega
      · exact h
    · split
      · rename_i hc
        refine ih _ ?_
        show s.1 + 1 ≤ n
        unfold hC at hc
        split at hc
        · omega
        · exact absurd hc.symm (hw c List.mem_cons_self)
      · exact h
/-! THE REFERENCE: signs and numbers of the text -/
section MODEL
variable {G : GG} {M : Mm} {h : Nat}
/-- the memory while a text is read: what is told, the place, how many commands -/
def mTx (M : Mm) (h : Nat) (tl : Nat → Int32) (p k : Nat) : Mm := sA (sA M (h + 8) tl) h (va_up (va_up (mi M h) 19 (nI p)) 21 (nI k))
theorem MO.tx (o : MO M h) (tl : Nat → Int32) (p k : Nat) : MO (mTx M h tl p k) h := o.to rfl rfl rfl
theorem mt_19 (M : Mm) (h : Nat) (tl : Nat → Int32) (p k : Nat) : mi (mTx M h tl p k) h 19 = nI p := by
  unfold mTx
  rw [mi_sA_s, va_up_ne _ _ (by decide), va_up_self]
theorem mt_21 (M : Mm) (h : Nat) (tl : Nat → Int32) (p k : Nat) : mi (mTx M h tl p k) h 21 = nI k := by
  unfold mTx
  rw [mi_sA_s, va_up_self]
theorem mt_o (M : Mm) (h : Nat) (tl : Nat → Int32) (p k : Nat) {j : Nat} (h1 : j ≠ 19) (h2 : j ≠ 21) : mi (mTx M h tl p k) h j = mi M h j := by
  unfold mTx
  rw [mi_sA_s, va_up_ne _ _ h2, va_up_ne _ _ h1]
theorem mt_n (M : Mm) (h : Nat) (tl : Nat → Int32) (p k : Nat) {a : Nat} (h1 : a ≠ h) (h8 : a ≠ h + 8) : mi (mTx M h tl p k) a = mi M a := by
  unfold mTx
  rw [mi_sA_n _ _ h1, mi_sA_n _ _ h8]
theorem mt_8 (M : Mm) (h : Nat) (tl : Nat → Int32) (p k : Nat) : mi (mTx M h tl p k) (h + 8) = tl := by
  unfold mTx
  rw [mi_sA_n _ _ (by omega), mi_sA_s]
theorem mt_p (M : Mm) (h : Nat) (tl : Nat → Int32) (p k q : Nat) : sI (mTx M h tl p k) h 19 (nI q) = mTx M h tl q k := by
  unfold mTx
  rw [sI_sA, va_up_co _ _ _ (show 21 ≠ 19 by decide), va_up_up]
theorem mt_k (M : Mm) (h : Nat) (tl : Nat → Int32) (p k q : Nat) : sI (mTx M h tl p k) h 21 (nI q) = mTx M h tl p q := by
  unfold mTx
  rw [sI_sA, va_up_up]
theorem mt_t (M : Mm) (h : Nat) (tl : Nat → Int32) (p k j : Nat) (v : Int32) : sI (mTx M h tl p k) (h + 8) j v = mTx M h (va_up tl j v) p k := by
  unfold mTx
  rw [sA_co _ _ _ (show h + 8 ≠ h by omega), sI_sA, sA_co _ _ _ (show h ≠ h + 8 by omega)]
/-- the text that the reference holds -/
def mIn (M : Mm) (h n : Nat) (inp : Nat → Int32) : Prop := mi M h 14 = nI n ∧ n ≤ 60 ∧ mi M (h + 5) = inp
theorem k_X9_here (o : MO M h) {n : Nat} {inp : Nat → Int32} (t : mIn M h n inp) {tl : Nat → Int32} {p k : Nat} (hp : p ≤ n) : KP G IX9_here [.ref h] (mTx M h tl p k) (hC inp n p) := by
  refine KK.ofW (by decide) (by simp [Value.category]) (Nat.le_of_ble_eq_true rfl) rfl ?_
  show WW _ _ _ 0 [_] [] _ _ _
  obtain ⟨t1, t2, t3⟩ := t
  refine r_aload_n (dk kX9_here 0 rfl) rfl ?_
  refine r_geti (dk kX9_here 1 rfl) fa_X9_167_8 o.k rfl ?_
  refine r_aload_n (dk kX9_here 2 rfl) rfl ?_
  refine r_geti (dk kX9_here 3 rfl) fa_X9_164_8 o.k rfl ?_
  -- at 8
  rw [mt_19, mt_o _ _ _ _ _ (by decide) (by decide), t1]
  by_cases hn : p < n
  · refine r_icmp_ge (tgt := 23) (dk kX9_here 4 rfl) (by decide) (fun c8 => absurd c8 (nI_ge hn (by omega))) (fun c8 => ?_)
    refine r_aload_n (dk kX9_here 5 rfl) rfl ?_
    refine r_getR (dk kX9_here 6 rfl) fa_X9_22_8 o.k rfl o.r13 ?_
    refine r_aload_n (dk kX9_here 7 rfl) rfl ?_
    refine r_geti (dk kX9_here 8 rfl) fa_X9_167_8 o.k rfl ?_
    -- at 19
    rw [mt_19]
    refine r_ial (dk kX9_here 9 rfl) o.k5 o.l5 (j := p) rfl (by omega) (by decide) ?_
    refine r_goto (tgt := 24) (dk kX9_here 10 rfl) (by decide) ?_
    -- at 24
    rw [mt_n _ _ _ _ _ (by omega) (by omega), t3]
    refine r_ireturn (dk kX9_here 12 rfl) rfl rfl ⟨Nat.le_of_ble_eq_true rfl, Nat.le_of_ble_eq_true rfl⟩ ⟨by unfold hC; rw [if_pos hn], rfl⟩
  · refine r_icmp_ge (tgt := 23) (dk kX9_here 4 rfl) (by decide) (fun c8 => ?_) (fun c8 => absurd (nI_le (by omega) (by omega)) c8)
    refine r_iconst (v := (-1)) (dk kX9_here 11 rfl) (by decide) ?_
    refine r_ireturn (dk kX9_here 12 rfl) rfl rfl ⟨Nat.le_of_ble_eq_true rfl, Nat.le_of_ble_eq_true rfl⟩ ⟨by unfold hC; rw [if_neg hn], rfl⟩
theorem k_X9_skips (o : MO M h) {n : Nat} {inp : Nat → Int32} (t : mIn M h n inp) {tl : Nat → Int32} {p k : Nat} (hp : p ≤ n) (c : Int32) : KE G IX9_skips [.ref h, .int c] (mTx M h tl p k) (bI (hC inp n p = c)) (mTx M h tl (if hC inp n p = c then p + 1 else p) k) := by
  refine KK.ofW (by decide) (by simp [Value.category]) (Nat.le_of_ble_eq_true rfl) rfl ?_
  show WW _ _ _ 0 [_, _] [] _ _ _
  refine r_aload_n (dk kX9_skips 0 rfl) rfl ?_
  refine r_callVp (I' := IX9_here) (as := []) (dk kX9_skips 1 rfl) mv_X9_here ml_X9_170 rfl rfl o.k rfl rfl (Nat.le_of_ble_eq_true rfl) ⟨by decide, by decide⟩ ⟨rfl, rfl⟩ ⟨Nat.le_of_ble_eq_true rfl, Nat.le_of_ble_eq_true rfl⟩ (k_X9_here o t hp) ?_
  refine r_iload_n (dk kX9_skips 2 rfl) rfl ?_
  -- at 5
  by_cases hc : hC inp n p = c
  · rw [bI_t hc, if_pos hc]
    refine r_icmp_eq (tgt := 10) (dk kX9_skips 3 rfl) (by decide) (fun c5 => ?_) (fun c5 => absurd hc c5)
    refine r_aload_n (dk kX9_skips 6 rfl) rfl ?_
    refine r_dup (dk kX9_skips 7 rfl) rfl ?_
    refine r_geti (dk kX9_skips 8 rfl) fa_X9_167_8 o.k rfl ?_
    -- at 15
    rw [mt_19]
    refine r_iconst (v := 1) (dk kX9_skips 9 rfl) (by decide) ?_
    refine r_iadd (dk kX9_skips 10 rfl) ?_
    -- at 17
    rw [show nI p + 1 = nI (p + 1) from nI_1 p]
    refine r_puti (dk kX9_skips 11 rfl) fa_X9_167_8 o.k rfl rfl rfl rfl ?_
    -- at 20
    rw [mt_p]
    refine r_iconst (v := 1) (dk kX9_skips 12 rfl) (by decide) ?_
    refine r_ireturn (dk kX9_skips 13 rfl) rfl rfl ⟨Nat.le_of_ble_eq_true rfl, Nat.le_of_ble_eq_true rfl⟩ ⟨rfl, rfl⟩
  · rw [bI_f hc, if_neg hc]
    refine r_icmp_eq (tgt := 10) (dk kX9_skips 3 rfl) (by decide) (fun c5 => absurd c5 hc) (fun c5 => ?_)
    refine r_iconst (v := 0) (dk kX9_skips 4 rfl) (by decide) ?_
    refine r_ireturn (dk kX9_skips 5 rfl) rfl rfl ⟨Nat.le_of_ble_eq_true rfl, Nat.le_of_ble_eq_true rfl⟩ ⟨rfl, rfl⟩
theorem k_X9_isWord (o : MO M h) {n : Nat} {inp : Nat → Int32} (t : mIn M h n inp) {tl : Nat → Int32} {p k i : Nat} (hp : p ≤ n) (hi : i < 20) (h0 : 0 < tx_len.getD i 0) (hk : k < 30) (hw : ∀ j, j < tx_len.getD i 0 → ∀ s, qR inp n ((tx_byt.getD i []).drop j) s = if hC inp n s.1 = tC i j then qR inp n ((tx_byt.getD i []).drop (j + 1)) (s.1 + 1, s.2) else (false, s)) (he : (tx_byt.getD i []).drop (tx_len.getD i 0) = []) (hne : ∀ j, j < tx_len.getD i 0 → tC i j ≠ -1) (m : Nat × (Nat → Nat)) : KE G IX9_isWord [.ref h, .ref (gk G i)] (mTx M h tl p k) (bI ((qR inp n (tx_byt.getD i []) (p, m)).1 = true)) (mTx M h (va_up tl (5 * k) (tC i 0)) (qR inp n (tx_byt.getD i []) (p, m)).2.1 k) := by
  refine KK.ofW (by decide) (by simp [Value.category]) (Nat.le_of_ble_eq_true rfl) rfl ?_
  show WW _ _ _ 0 [_, _, lj] [] _ _ _
  have ht := tx_lt i hi
  refine r_aload_n (dk kX9_isWord 0 rfl) rfl ?_
  refine r_getR (dk kX9_isWord 1 rfl) fa_X9_36_8 o.k rfl o.r20 ?_
  refine r_iconst (v := 5) (dk kX9_isWord 2 rfl) (by decide) ?_
  refine r_aload_n (dk kX9_isWord 3 rfl) rfl ?_
  refine r_geti (dk kX9_isWord 4 rfl) fa_X9_174_8 o.k rfl ?_
  -- at 9
  rw [mt_21]
  refine r_imul (dk kX9_isWord 5 rfl) ?_
  -- at 10
  rw [show (5 : Int32) * nI k = nI (5 * k) from pk_mul 5 k]
  refine r_aload_n (dk kX9_isWord 6 rfl) rfl ?_
  refine r_iconst (v := 0) (dk kX9_isWord 7 rfl) (by decide) ?_
  refine r_callTp (I' := IJ0_charAt_5068e) (as := [_]) (dk kX9_isWord 8 rfl) mv_J0_charAt_5068e ml_X9_177 rfl rfl hi rfl rfl (Nat.le_of_ble_eq_true rfl) ⟨by decide, by decide⟩ ⟨rfl, rfl⟩ ⟨Nat.le_of_ble_eq_true rfl, Nat.le_of_ble_eq_true rfl⟩ (k_J0_charAt (j := 0) hi h0) ?_
  refine r_ias (dk kX9_isWord 9 rfl) o.k8 o.l8 (j := 5 * k) rfl (by omega) (by decide) ?_
  refine r_iconst (v := 0) (dk kX9_isWord 10 rfl) (by decide) ?_
  refine r_istore_n (j := 2) (dk kX9_isWord 11 rfl) rfl (by decide) rfl ?_
  simp only [List.set_cons_succ, List.set_cons_zero]
  -- at 18
  rw [mt_t]
  generalize va_up tl (5 * k) (tC i 0) = tl2
  suffices key : ∀ d j q, j + d = tx_len.getD i 0 → q ≤ n → qR inp n (tx_byt.getD i []) (p, m) = qR inp n ((tx_byt.getD i []).drop j) (q, m) → WW G IX9_isWord (qi (fun y M' => y = bI ((qR inp n (tx_byt.getD i []) (p, m)).1 = true) ∧ M' = mTx M h tl2 (qR inp n (tx_byt.getD i []) (p, m)).2.1 k) nox) 18 [.ref h, .ref (gk G i), .int (nI j)] [] (mTx M h tl2 q k) 0 0 from key _ 0 p (Nat.zero_add _) hp rfl
  intro d
  induction d with
  | zero =>
    intro j q hj hq e
    have hj : j = tx_len.getD i 0 := hj
    rw [e, hj, he]
    refine r_iload_n (dk kX9_isWord 12 rfl) rfl ?_
    refine r_aload_n (dk kX9_isWord 13 rfl) rfl ?_
    refine r_callTp (I' := IJ0_length_8abf5) (as := []) (dk kX9_isWord 14 rfl) mv_J0_length_8abf5 ml_X9_183 rfl rfl hi rfl rfl (Nat.le_of_ble_eq_true rfl) ⟨by decide, by decide⟩ ⟨rfl, rfl⟩ ⟨Nat.le_of_ble_eq_true rfl, Nat.le_of_ble_eq_true rfl⟩ (k_J0_length hi) ?_
    refine r_icmp_ge (tgt := 46) (dk kX9_isWord 15 rfl) (by decide) (fun c23 => ?_) (fun c23 => absurd (Int32.le_refl _) c23)
    refine r_iconst (v := 1) (dk kX9_isWord 26 rfl) (by decide) ?_
    refine r_ireturn (dk kX9_isWord 27 rfl) rfl rfl ⟨Nat.le_of_ble_eq_true rfl, Nat.le_of_ble_eq_true rfl⟩ ⟨rfl, rfl⟩
  | succ d ih =>
    intro j q hj hq e
    rw [hw j (by omega)] at e
    refine r_iload_n (dk kX9_isWord 12 rfl) rfl ?_
    refine r_aload_n (dk kX9_isWord 13 rfl) rfl ?_
    refine r_callTp (I' := IJ0_length_8abf5) (as := []) (dk kX9_isWord 14 rfl) mv_J0_length_8abf5 ml_X9_183 rfl rfl hi rfl rfl (Nat.le_of_ble_eq_true rfl) ⟨by decide, by decide⟩ ⟨rfl, rfl⟩ ⟨Nat.le_of_ble_eq_true rfl, Nat.le_of_ble_eq_true rfl⟩ (k_J0_length hi) ?_
    refine r_icmp_ge (tgt := 46) (dk kX9_isWord 15 rfl) (by decide) (fun c23 => absurd c23 (nI_ge (by omega) (by omega))) (fun c23 => ?_)
    refine r_aload_n (dk kX9_isWord 16 rfl) rfl ?_
    refine r_aload_n (dk kX9_isWord 17 rfl) rfl ?_
    refine r_iload_n (dk kX9_isWord 18 rfl) rfl ?_
    refine r_callTp (I' := IJ0_charAt_5068e) (as := [_]) (dk kX9_isWord 19 rfl) mv_J0_charAt_5068e ml_X9_177 rfl rfl hi rfl rfl (Nat.le_of_ble_eq_true rfl) ⟨by decide, by decide⟩ ⟨rfl, rfl⟩ ⟨Nat.le_of_ble_eq_true rfl, Nat.le_of_ble_eq_true rfl⟩ (k_J0_charAt hi (by omega)) ?_
    refine r_callVp (I' := IX9_skips) (as := [_]) (dk kX9_isWord 20 rfl) mv_X9_skips ml_X9_185 rfl rfl o.k rfl rfl (Nat.le_of_ble_eq_true rfl) ⟨by decide, by decide⟩ ⟨rfl, rfl⟩ ⟨Nat.le_of_ble_eq_true rfl, Nat.le_of_ble_eq_true rfl⟩ (k_X9_skips o t hq _) ?_
    -- at 35
    by_cases hc : hC inp n q = tC i j
    · rw [if_pos hc] at e
      rw [bI_t hc, if_pos hc]
      refine r_if_ne (tgt := 40) (dk kX9_isWord 21 rfl) (by decide) (fun c35 => ?_) (fun c35 => absurd (by decide) c35)
      refine r_iinc (dk kX9_isWord 24 rfl) (by decide) rfl rfl rfl ?_
      simp only [List.set_cons_succ, List.set_cons_zero]
      refine r_goto (tgt := 18) (dk kX9_isWord 25 rfl) (by decide) ?_
      -- at 18
      rw [show nI j + Int32.ofInt 1 = nI (j + 1) from nI_1 j]
      refine ih (j + 1) (q + 1) (by omega) ?_ e
      unfold hC at hc
      split at hc
      · omega
      · exact absurd hc.symm (hne j (by omega))
    · rw [if_neg hc] at e
      rw [bI_f hc, if_neg hc, e]
      refine r_if_ne (tgt := 40) (dk kX9_isWord 21 rfl) (by decide) (fun c35 => absurd c35 (by exact fun z => z rfl)) (fun c35 => ?_)
      refine r_iconst (v := 0) (dk kX9_isWord 22 rfl) (by decide) ?_
      refine r_ireturn (dk kX9_isWord 23 rfl) rfl rfl ⟨Nat.le_of_ble_eq_true rfl, Nat.le_of_ble_eq_true rfl⟩ ⟨rfl, rfl⟩
end MODEL
