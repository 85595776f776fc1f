/-! THE CLASS: one sign of a pattern -/
/-- the command's ints hold the letter and the values of s -/
def CF (f : Nat → Int32) (c : Int32) (s : QS) : Prop := f 0 = c ∧ f 5 = nI s.2.1 ∧ ∀ j, j < s.2.1 → f (1 + j) = nI (s.2.2 j)
section CLASS
variable {G : GG} {M : Mm} {r b d : Nat}
theorem cmd_rd (M : Mm) {r d : Nat} (hd : r ≠ d) (p : Nat) (f : Nat → Int32) : cRd (sA M d f) r p = cCm M r d p f := by
  unfold cCm cRd
  rw [sI_A, mi_sA_n _ _ hd, sA_co _ _ _ (Ne.symm hd), ← sI_A]
theorem LT.sA {n : Nat} {inp f : Nat → Int32} (t : LT M b n inp) (hd : b ≠ d ∧ b + 1 ≠ d) : LT (sA M d f) b n inp := by
  obtain ⟨o, h1, h2, h3, h4⟩ := t
  exact ⟨o, by rw [mi_sA_n _ _ hd.1]; exact h1, h2, fun k hk => by rw [mi_sA_n _ _ hd.2]; exact h3 k hk, h4⟩
theorem k_X7_readPart (kr : kd M r = 7) (kc : kd M d = 1) {n : Nat} {inp f : Nat → Int32} (t : LT M b n inp) (hb : b ≠ r ∧ b + 1 ≠ r) (hd : b ≠ d ∧ b + 1 ≠ d) (hrd : r ≠ d) {s : QS} {L c : Int32} (hp : s.1 ≤ n) (hm : s.2.1 < 4) (hf : CF f L s) (h0 : c ≠ 0) (h1 : c ≠ -1) : KK G IX7_readPart [.ref r, .ref b, .ref d, .int c] (cCm M r d s.1 f) (qi (fun y M' => y = bI ((qR inp n [c] s).1 = true) ∧ ∃ f', M' = cCm M r d (qR inp n [c] s).2.1 f' ∧ CF f' L (qR inp n [c] s).2) nox) := by
  refine KK.ofW (by decide) (by simp [Value.category]) (Nat.le_of_ble_eq_true rfl) rfl ?_
  show WW _ _ _ 0 [_, _, _, _] [] _ _ _
  obtain ⟨p, m, a⟩ := s
  obtain ⟨f0, f5, fa⟩ := hf
  have e : qR inp n [c] (p, m, a) = if c = 68 ∨ c = 78 then (if qDg inp n p = true then (true, ((qV inp n p (decide (c = 78))).2, m + 1, va_up a m (qV inp n p (decide (c = 78))).1)) else (false, (p, m, a))) else if hC inp n p = c then (true, (p + 1, m, a)) else (false, (p, m, a)) := rfl
  have hp : p ≤ n := hp
  have hm : m < 4 := hm
  have val : ∀ two : Bool, two = decide (c = 78) → (c = 68 ∨ c = 78) → WW G IX7_readPart (qi (fun y M' => y = bI ((qR inp n [c] (p, m, a)).1 = true) ∧ ∃ f', M' = cCm M r d (qR inp n [c] (p, m, a)).2.1 f' ∧ CF f' L (qR inp n [c] (p, m, a)).2) nox) 26 [.ref r, .ref b, .ref d, .int c] [.int (bI (two = true)), .ref d, .ref b, .ref r] (cCm M r d p f) 0 0 := by
    intro two htwo hc
    refine r_callVp (I' := IX7_readValue) (as := [_, _, _]) (dk kX7_readPart 15 rfl) mv_X7_readValue ml_X7_66 rfl rfl kr rfl rfl (Nat.le_of_ble_eq_true rfl) ⟨by decide, by decide⟩ ⟨rfl, rfl⟩ ⟨Nat.le_of_ble_eq_true rfl, Nat.le_of_ble_eq_true rfl⟩ (k_X7_readValue kr kc t hb hd hrd hp hm f5 two) ?_
    -- at 29
    rw [e, if_pos hc, ← htwo]
    by_cases hq : qDg inp n p = true
    · rw [if_pos hq, if_pos hq, bI_t hq]
      refine r_ireturn (dk kX7_readPart 16 rfl) rfl rfl ⟨Nat.le_of_ble_eq_true rfl, Nat.le_of_ble_eq_true rfl⟩ ⟨rfl, _, rfl, ?_, ?_, ?_⟩
      · exact (va_up_ne _ _ (by omega)).trans ((va_up_ne _ _ (by omega)).trans f0)
      · exact va_up_self _ _ _
      · intro j hj
        have hj : j < m + 1 := hj
        rw [va_up_ne _ _ (by omega)]
        show va_up f (1 + m) _ (1 + j) = nI (va_up a m _ j)
        by_cases hjm : j = m
        · rw [hjm, va_up_self, va_up_self]
        · rw [va_up_ne _ _ (by omega), va_up_ne _ _ hjm]
          exact fa j (show j < m by omega)
    · rw [if_neg hq, if_neg hq, bI_f hq]
      refine r_ireturn (dk kX7_readPart 16 rfl) rfl rfl ⟨Nat.le_of_ble_eq_true rfl, Nat.le_of_ble_eq_true rfl⟩ ⟨rfl, _, rfl, f0, f5, fa⟩
  by_cases c1 : c = 68
  · have v1 := val false (by rw [c1]; rfl) (Or.inl c1)
    refine r_iload_n (dk kX7_readPart 0 rfl) rfl ?_
    refine r_bipush (v := 68) (dk kX7_readPart 1 rfl) (by decide) ?_
    refine r_icmp_eq (tgt := 12) (dk kX7_readPart 2 rfl) (by decide) (fun c3 => ?_) (fun c3 => absurd c1 c3)
    refine r_aload_n (dk kX7_readPart 6 rfl) rfl ?_
    refine r_aload_n (dk kX7_readPart 7 rfl) rfl ?_
    refine r_aload_n (dk kX7_readPart 8 rfl) rfl ?_
    refine r_iload_n (dk kX7_readPart 9 rfl) rfl ?_
    refine r_bipush (v := 78) (dk kX7_readPart 10 rfl) (by decide) ?_
    refine r_icmp_ne (tgt := 25) (dk kX7_readPart 11 rfl) (by decide) (fun c18 => ?_) (fun c18 => absurd (by rw [c1]; decide) c18)
    refine r_iconst (v := 0) (dk kX7_readPart 14 rfl) (by decide) ?_
    -- at 26
    exact v1
  · by_cases c2 : c = 78
    · have v1 := val true (by rw [c2]; rfl) (Or.inr c2)
      refine r_iload_n (dk kX7_readPart 0 rfl) rfl ?_
      refine r_bipush (v := 68) (dk kX7_readPart 1 rfl) (by decide) ?_
      refine r_icmp_eq (tgt := 12) (dk kX7_readPart 2 rfl) (by decide) (fun c3 => absurd c3 c1) (fun c3 => ?_)
      refine r_iload_n (dk kX7_readPart 3 rfl) rfl ?_
      refine r_bipush (v := 78) (dk kX7_readPart 4 rfl) (by decide) ?_
      refine r_icmp_ne (tgt := 30) (dk kX7_readPart 5 rfl) (by decide) (fun c9 => absurd c9 (fun z => z c2)) (fun c9 => ?_)
      refine r_aload_n (dk kX7_readPart 6 rfl) rfl ?_
      refine r_aload_n (dk kX7_readPart 7 rfl) rfl ?_
      refine r_aload_n (dk kX7_readPart 8 rfl) rfl ?_
      refine r_iload_n (dk kX7_readPart 9 rfl) rfl ?_
      refine r_bipush (v := 78) (dk kX7_readPart 10 rfl) (by decide) ?_
      refine r_icmp_ne (tgt := 25) (dk kX7_readPart 11 rfl) (by decide) (fun c18 => absurd c18 (fun z => z c2)) (fun c18 => ?_)
      refine r_iconst (v := 1) (dk kX7_readPart 12 rfl) (by decide) ?_
      refine r_goto (tgt := 26) (dk kX7_readPart 13 rfl) (by decide) ?_
      -- at 26
      exact v1
    · have hS := k_X7_readSign (G := G) (M := sA M d f) kr (t.sA hd) hb hp c
      rw [cmd_rd M hrd, cmd_rd M hrd] at hS
      have hce := cC_eq (p := p) t.2.2.2.2 h0 h1
      rw [e, if_neg (fun z => z.elim c1 c2)]
      refine r_iload_n (dk kX7_readPart 0 rfl) rfl ?_
      refine r_bipush (v := 68) (dk kX7_readPart 1 rfl) (by decide) ?_
      refine r_icmp_eq (tgt := 12) (dk kX7_readPart 2 rfl) (by decide) (fun c3 => absurd c3 c1) (fun c3 => ?_)
      refine r_iload_n (dk kX7_readPart 3 rfl) rfl ?_
      refine r_bipush (v := 78) (dk kX7_readPart 4 rfl) (by decide) ?_
      refine r_icmp_ne (tgt := 30) (dk kX7_readPart 5 rfl) (by decide) (fun c9 => ?_) (fun c9 => absurd c2 c9)
      refine r_aload_n (dk kX7_readPart 17 rfl) rfl ?_
      refine r_aload_n (dk kX7_readPart 18 rfl) rfl ?_
      refine r_iload_n (dk kX7_readPart 19 rfl) rfl ?_
      refine r_callVp (I' := IX7_readSign) (as := [_, _]) (dk kX7_readPart 20 rfl) mv_X7_readSign ml_X7_34 rfl rfl kr rfl rfl (Nat.le_of_ble_eq_true rfl) ⟨by decide, by decide⟩ ⟨rfl, rfl⟩ ⟨Nat.le_of_ble_eq_true rfl, Nat.le_of_ble_eq_true rfl⟩ hS ?_
      -- at 36
      by_cases hq : hC inp n p = c
      · have hq2 := hce.mpr hq
        rw [if_pos hq, if_pos hq2, bI_t hq2]
        refine r_ireturn (dk kX7_readPart 21 rfl) rfl rfl ⟨Nat.le_of_ble_eq_true rfl, Nat.le_of_ble_eq_true rfl⟩ ⟨rfl, _, rfl, f0, f5, fa⟩
      · have hq2 : ¬ cC inp n p = c := fun z => hq (hce.mp z)
        rw [if_neg hq, if_neg hq2, bI_f hq2]
        refine r_ireturn (dk kX7_readPart 21 rfl) rfl rfl ⟨Nat.le_of_ble_eq_true rfl, Nat.le_of_ble_eq_true rfl⟩ ⟨rfl, _, rfl, f0, f5, fa⟩
end CLASS
