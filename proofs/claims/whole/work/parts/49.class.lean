/-! THE CLASS: one command of a text -/
theorem pI_ch {c : Int32} {i : Nat} (h : pI c = some i) : narrow .char (.int c) = .int c ∧ fits .char (.int c) = true := by
  unfold pI at h
  repeat (split at h; (rename_i hc; rw [hc]; exact ⟨by decide, by decide⟩))
  cases h
theorem pI_cC (inp : Nat → Int32) (n p : Nat) : pI (cC inp n p) = pI (hC inp n p) := by
  unfold cC hC
  split
  · rfl
  · decide
theorem tx_c0 : ∀ i, i < 10 → 0 < tx_len.getD i 0 ∧ tx_len.getD i 0 = (tx_byt.getD i []).length ∧ ∀ j, j < tx_len.getD i 0 → tC i j ≠ 0 ∧ tC i j ≠ -1 ∧ ((tx_byt.getD i []).drop j) = tC i j :: ((tx_byt.getD i []).drop (j + 1)) ∧ ((tx_byt.getD i []).take (j + 1)) = (tx_byt.getD i []).take j ++ [tC i j] ∧ (((tx_byt.getD i []).take j).filter (fun c => c == 68 || c == 78)).length < 4 := by decide +kernel
section CLASS
variable {G : GG} {M : Mm} {r b d : Nat}
theorem cmd_sA (M : Mm) {r d : Nat} (hd : r ≠ d) (p : Nat) (f : Nat → Int32) : sA (cRd M r p) d f = cCm M r d p f := rfl
theorem k_X7_readCommand (kr : kd M r = 7) (kc : kd M d = 1) {n : Nat} {inp : Nat → Int32} (t : LT M b n inp) (hb : b ≠ r ∧ b + 1 ≠ r) (hd : b ≠ d ∧ b + 1 ≠ d) (hrd : r ≠ d) {p : Nat} (hp : p ≤ n) : KK G IX7_readCommand [.ref r, .ref b, .ref d] (cRd M r p) (qi (fun y M' => y = bI ((pC inp n p).1 = true) ∧ ∃ f, M' = cCm M r d (pC inp n p).2.1 f ∧ ((pC inp n p).1 = true → CF f (hC inp n p) (pC inp n p).2)) nox) := by
  refine KK.ofW (by decide) (by simp [Value.category]) (Nat.le_of_ble_eq_true rfl) rfl ?_
  show WW _ _ _ 0 [_, _, _, lj, lj, lj] [] _ _ _
  have h60 := t.2.2.1
  refine r_aload_n (dk kX7_readCommand 0 rfl) rfl ?_
  refine r_aload_n (dk kX7_readCommand 1 rfl) rfl ?_
  -- at 2
  refine r_geti (dk kX7_readCommand 2 rfl) fa_X7_18_6 kr rfl ?_
  -- at 5
  rw [cr_2]
  refine r_callVp (I' := IX3_at) (as := [_]) (dk kX7_readCommand 3 rfl) mv_X3_at ml_X7_38 rfl rfl t.1.1 rfl rfl (Nat.le_of_ble_eq_true rfl) ⟨by decide, by decide⟩ ⟨rfl, rfl⟩ ⟨Nat.le_of_ble_eq_true rfl, Nat.le_of_ble_eq_true rfl⟩ ((t.rd hb).at (by omega)) ?_
  refine r_istore_n (j := 3) (dk kX7_readCommand 4 rfl) rfl (by decide) rfl ?_
  simp only [List.set_cons_succ, List.set_cons_zero]
  refine r_iload_n (dk kX7_readCommand 5 rfl) rfl ?_
  refine r_callS (I' := IX7_patternOf) (as := [_]) (dk kX7_readCommand 6 rfl) ms_X7_patternOf ml_X7_42 rfl rfl rfl (Nat.le_of_ble_eq_true rfl) ⟨by decide, by decide⟩ ⟨Nat.le_of_ble_eq_true rfl, Nat.le_of_ble_eq_true rfl⟩ (k_X7_patternOf _) ?_ ?_
  · exact fun E M' z => z.elim
  rintro v M' ⟨y, rfl, rfl, rfl⟩
  show WW G IX7_readCommand _ 13 [.ref r, .ref b, .ref d, .int (cC inp n p), lj, lj] [.ref (gk G (pJ (cC inp n p)))] (cRd M r p) 0 0
  have e1 := pI_cC inp n p
  cases e : pI (hC inp n p) with
  | none =>
    have e2 : pJ (cC inp n p) = 10 := by unfold pJ; rw [e1, e]
    have e3 : pC inp n p = (false, (p, 0, fun _ => 0)) := by unfold pC; rw [e]
    rw [e2, e3]
    refine r_astore (dk kX7_readCommand 7 rfl) (by decide) rfl ?_
    simp only [List.set_cons_succ, List.set_cons_zero]
    refine r_aload (dk kX7_readCommand 8 rfl) rfl ?_
    refine r_callTp (I' := IJ0_isEmpty_aae02) (as := []) (dk kX7_readCommand 9 rfl) mv_J0_isEmpty_aae02 ml_X7_46 rfl rfl (i := 10) (by decide) rfl rfl (Nat.le_of_ble_eq_true rfl) ⟨by decide, by decide⟩ ⟨rfl, rfl⟩ ⟨Nat.le_of_ble_eq_true rfl, Nat.le_of_ble_eq_true rfl⟩ (k_J0_isEmpty (i := 10) (by decide)) ?_
    refine r_if_eq (tgt := 25) (dk kX7_readCommand 10 rfl) (by decide) (fun c20 => absurd c20 (by decide)) (fun c20 => ?_)
    refine r_iconst (v := 0) (dk kX7_readCommand 11 rfl) (by decide) ?_
    refine r_ireturn (dk kX7_readCommand 12 rfl) rfl rfl ⟨Nat.le_of_ble_eq_true rfl, Nat.le_of_ble_eq_true rfl⟩ ⟨rfl, _, (sA_eq _ d).symm, fun z => by cases z⟩
  | some i =>
    have hi := pI_lt e
    have e2 : pJ (cC inp n p) = i := by unfold pJ; rw [e1, e]
    have e3 : pC inp n p = qR inp n (tx_byt.getD i []) (p, 0, fun _ => 0) := by unfold pC; rw [e]
    obtain ⟨c1, c2, c3⟩ := tx_c0 i hi
    have hch := pI_ch (e1.trans e)
    have ht := tx_lt i (by omega)
    have hL : hC inp n p = cC inp n p := by
      unfold hC cC
      by_cases hpn : p < n
      · rw [if_pos hpn, if_pos hpn]
      · exfalso
        unfold hC at e
        rw [if_neg hpn] at e
        have e9 : pI (-1) = none := by decide
        rw [e9] at e
        cases e
    rw [e2, e3, hL]
    refine r_astore (dk kX7_readCommand 7 rfl) (by decide) rfl ?_
    simp only [List.set_cons_succ, List.set_cons_zero]
    refine r_aload (dk kX7_readCommand 8 rfl) rfl ?_
    refine r_callTp (I' := IJ0_isEmpty_aae02) (as := []) (dk kX7_readCommand 9 rfl) mv_J0_isEmpty_aae02 ml_X7_46 rfl rfl (show i < 20 by omega) rfl rfl (Nat.le_of_ble_eq_true rfl) ⟨by decide, by decide⟩ ⟨rfl, rfl⟩ ⟨Nat.le_of_ble_eq_true rfl, Nat.le_of_ble_eq_true rfl⟩ (k_J0_isEmpty (by omega)) ?_
    refine r_if_eq (tgt := 25) (dk kX7_readCommand 10 rfl) (by decide) (fun c20 => ?_) (fun c20 => absurd (bI_0.mpr (by omega)) c20)
    refine r_aload_n (dk kX7_readCommand 13 rfl) rfl ?_
    refine r_iload_n (dk kX7_readCommand 14 rfl) rfl ?_
    refine r_callVu (I' := IX1_begin) (as := [_]) (dk kX7_readCommand 15 rfl) mv_X1_begin ml_X7_52 rfl rfl kc rfl rfl (Nat.le_of_ble_eq_true rfl) ⟨by decide, by decide⟩ ⟨rfl, rfl⟩ ⟨Nat.le_of_ble_eq_true rfl, Nat.le_of_ble_eq_true rfl⟩ (k_X1_begin (M := cRd M r p) kc hch.1 hch.2) ?_
    refine r_iconst (v := 0) (dk kX7_readCommand 16 rfl) (by decide) ?_
    refine r_istore (dk kX7_readCommand 17 rfl) (by decide) rfl ?_
    simp only [List.set_cons_succ, List.set_cons_zero]
    -- at 33
    rw [sI_A (cRd M r p), sI_sA, cmd_sA M hrd]
    suffices key : ∀ z j (s : QS) (f : Nat → Int32), j + z = tx_len.getD i 0 → s.1 ≤ n → qR inp n ((tx_byt.getD i []).take j) (p, 0, fun _ => 0) = (true, s) → CF f (cC inp n p) s → WW G IX7_readCommand (qi (fun y M' => y = bI ((qR inp n (tx_byt.getD i []) (p, 0, fun _ => 0)).1 = true) ∧ ∃ f, M' = cCm M r d (qR inp n (tx_byt.getD i []) (p, 0, fun _ => 0)).2.1 f ∧ ((qR inp n (tx_byt.getD i []) (p, 0, fun _ => 0)).1 = true → CF f (cC inp n p) (qR inp n (tx_byt.getD i []) (p, 0, fun _ => 0)).2)) nox) 33 [.ref r, .ref b, .ref d, .int (cC inp n p), .ref (gk G i), .int (nI j)] [] (cCm M r d s.1 f) 0 0 by
      refine key _ 0 (p, 0, fun _ => 0) _ (Nat.zero_add _) hp rfl ⟨?_, ?_, fun j hj => absurd hj (Nat.not_lt_zero j)⟩
      · rw [va_up_ne _ _ (by decide), va_up_self]
      · exact va_up_self _ _ _
    intro z
    induction z with
    | zero =>
      intro j s f hj hs hq hf
      have hj : j = tx_len.getD i 0 := hj
      have hq2 : qR inp n (tx_byt.getD i []) (p, 0, fun _ => 0) = (true, s) := by rw [← hq, hj, c2, List.take_length]
      rw [hq2]
      refine r_iload (dk kX7_readCommand 18 rfl) rfl ?_
      refine r_aload (dk kX7_readCommand 19 rfl) rfl ?_
      refine r_callTp (I' := IJ0_length_8abf5) (as := []) (dk kX7_readCommand 20 rfl) mv_J0_length_8abf5 ml_X7_56 rfl rfl (show i < 20 by omega) rfl rfl (Nat.le_of_ble_eq_true rfl) ⟨by decide, by decide⟩ ⟨rfl, rfl⟩ ⟨Nat.le_of_ble_eq_true rfl, Nat.le_of_ble_eq_true rfl⟩ (k_J0_length (by omega)) ?_
      refine r_icmp_ge (tgt := 67) (dk kX7_readCommand 21 rfl) (by decide) (fun c40 => ?_) (fun c40 => absurd (nI_le (by omega) (by omega)) c40)
      refine r_iconst (v := 1) (dk kX7_readCommand 34 rfl) (by decide) ?_
      refine r_ireturn (dk kX7_readCommand 35 rfl) rfl rfl ⟨Nat.le_of_ble_eq_true rfl, Nat.le_of_ble_eq_true rfl⟩ ⟨rfl, _, rfl, fun _ => hf⟩
    | succ z ih =>
      intro j s f hj hs hq hf
      obtain ⟨d0, d1, d2, d3, d4⟩ := c3 j (by omega)
      have hm : s.2.1 < 4 := by
        have h1 := qR_cnt inp n ((tx_byt.getD i []).take j) (p, 0, fun _ => 0) (by rw [hq])
        rw [hq] at h1
        have h1 : s.2.1 = 0 + _ := h1
        omega
      refine r_iload (dk kX7_readCommand 18 rfl) rfl ?_
      refine r_aload (dk kX7_readCommand 19 rfl) rfl ?_
      refine r_callTp (I' := IJ0_length_8abf5) (as := []) (dk kX7_readCommand 20 rfl) mv_J0_length_8abf5 ml_X7_56 rfl rfl (show i < 20 by omega) rfl rfl (Nat.le_of_ble_eq_true rfl) ⟨by decide, by decide⟩ ⟨rfl, rfl⟩ ⟨Nat.le_of_ble_eq_true rfl, Nat.le_of_ble_eq_true rfl⟩ (k_J0_length (by omega)) ?_
      refine r_icmp_ge (tgt := 67) (dk kX7_readCommand 21 rfl) (by decide) (fun c40 => absurd c40 (nI_ge (by omega) (by omega))) (fun c40 => ?_)
      refine r_aload_n (dk kX7_readCommand 22 rfl) rfl ?_
      refine r_aload_n (dk kX7_readCommand 23 rfl) rfl ?_
      refine r_aload_n (dk kX7_readCommand 24 rfl) rfl ?_
      refine r_aload (dk kX7_readCommand 25 rfl) rfl ?_
      refine r_iload (dk kX7_readCommand 26 rfl) rfl ?_
      refine r_callTp (I' := IJ0_charAt_5068e) (as := [_]) (dk kX7_readCommand 27 rfl) mv_J0_charAt_5068e ml_X7_59 rfl rfl (show i < 20 by omega) rfl rfl (Nat.le_of_ble_eq_true rfl) ⟨by decide, by decide⟩ ⟨rfl, rfl⟩ ⟨Nat.le_of_ble_eq_true rfl, Nat.le_of_ble_eq_true rfl⟩ (k_J0_charAt (by omega) (by omega)) ?_
      refine r_callV (I' := IX7_readPart) (as := [_, _, _]) (dk kX7_readCommand 28 rfl) mv_X7_readPart ml_X7_62 rfl rfl kr rfl rfl (Nat.le_of_ble_eq_true rfl) ⟨by decide, by decide⟩ ⟨Nat.le_of_ble_eq_true rfl, Nat.le_of_ble_eq_true rfl⟩ (k_X7_readPart kr kc t hb hd hrd hs hm hf d0 d1) ?_ ?_
      · exact fun E M' z => z.elim
      rintro v M' ⟨y, rfl, hy, f', hM, hf'⟩
      show WW G IX7_readCommand _ 56 [.ref r, .ref b, .ref d, .int (cC inp n p), .ref (gk G i), .int (nI j)] [.int y] M' 0 0
      rw [hy, hM]
      have hq3 : qR inp n ((tx_byt.getD i []).take (j + 1)) (p, 0, fun _ => 0) = qR inp n [tC i j] s := by
        rw [d3, qR_app, hq, if_pos rfl]
      have hle : (qR inp n [tC i j] s).2.1 ≤ n := qR_le inp n (fun _ _ => trivial) _ _ (fun c hc => by rw [List.mem_singleton.mp hc]; exact d1) hs
      by_cases hok : (qR inp n [tC i j] s).1 = true
      · rw [bI_t hok]
        refine r_if_ne (tgt := 61) (dk kX7_readCommand 29 rfl) (by decide) (fun c56 => ?_) (fun c56 => absurd (by decide) c56)
        refine r_iinc (dk kX7_readCommand 32 rfl) (by decide) rfl rfl rfl ?_
        simp only [List.set_cons_succ, List.set_cons_zero]
        refine r_goto (tgt := 33) (dk kX7_readCommand 33 rfl) (by decide) ?_
        -- at 33
        rw [show nI j + Int32.ofInt 1 = nI (j + 1) from nI_1 j]
        exact ih (j + 1) _ f' (by omega) hle (by rw [hq3, ← hok]) hf'
      · have hq4 : qR inp n (tx_byt.getD i []) (p, 0, fun _ => 0) = qR inp n [tC i j] s := by
          rw [← List.take_append_drop j (tx_byt.getD i []), qR_app, hq, if_pos rfl, d2, show tC i j :: (tx_byt.getD i []).drop (j + 1) = [tC i j] ++ (tx_byt.getD i []).drop (j + 1) from rfl, qR_app, if_neg hok]
        rw [hq4, bI_f hok]
        refine r_if_ne (tgt := 61) (dk kX7_readCommand 29 rfl) (by decide) (fun c56 => absurd c56 (by exact fun z => z rfl)) (fun c56 => ?_)
        refine r_iconst (v := 0) (dk kX7_readCommand 30 rfl) (by decide) ?_
        refine r_ireturn (dk kX7_readCommand 31 rfl) rfl rfl ⟨Nat.le_of_ble_eq_true rfl, Nat.le_of_ble_eq_true rfl⟩ ⟨rfl, _, rfl, fun z => absurd z hok⟩
end CLASS
