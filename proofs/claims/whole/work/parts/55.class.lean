/-! THE CLASS: the queue's row: a petition moves to its position, a petition leaves -/
/-- one row's references, all at once -/
def sQ (M : Mm) (a : Nat) (f : Nat → Option Nat) : Mm := (kd M, ln M, mi M, va_up (mr M) a f, mj M, md M, nx M)
theorem mr_sQ_s (M : Mm) (a : Nat) (f : Nat → Option Nat) : mr (sQ M a f) a = f := va_up_self _ _ _
theorem mr_sQ_n (M : Mm) {a b : Nat} (f : Nat → Option Nat) (hb : b ≠ a) : mr (sQ M a f) b = mr M b := va_up_ne _ _ hb
theorem sR_sQ (M : Mm) (a j : Nat) (f : Nat → Option Nat) (v : Option Nat) : sR (sQ M a f) a j v = sQ M a (va_up f j v) := by
  show (kd M, ln M, mi M, va_up (va_up (mr M) a f) a (va_up (va_up (mr M) a f a) j v), mj M, md M, nx M) = _
  rw [va_up_self, va_up_up]
  rfl
theorem sQ_eq (M : Mm) (a : Nat) : sQ M a (mr M a) = M := by
  show (kd M, ln M, mi M, va_up (mr M) a (mr M a), mj M, md M, nx M) = _
  rw [va_up_eq]
  rfl
theorem FR.sQ {M M' : Mm} {a b : Nat} (r : FR M a b M') {c : Nat} (f : Nat → Option Nat) (h : a ≤ c ∧ c ≤ b) : FR M a b (sQ M' c f) := r.tr ⟨_root_.rfl, _root_.rfl, _root_.rfl, _root_.rfl, _root_.rfl, fun d hd => ⟨_root_.rfl, mr_sQ_n _ _ (by omega)⟩⟩
/-- the row of the pending petitions in another order -/
theorem SO.pm {M M' : Mm} {s : Nat} (o : SO M s) (h1 : kd M' = kd M) (h2 : ln M' = ln M) (h3 : mr M' s = mr M s) (h5 : mr M' (s + 5) = mr M (s + 5)) {w : Nat → Nat} (h4 : ∀ j, j < 8 → mr M' (s + 4) j = mr M (s + 4) (w j)) (hb : ∀ j, j < 8 → w j < 8) (hi : ∀ i j, i < j → j < 8 → w i ≠ w j) : SO M' s ∧ ∀ j, j < 8 → pA M' s j = pA M s (w j) := by
  have hp : ∀ j, j < 8 → pA M' s j = pA M s (w j) := fun j hj => by unfold pA; rw [h4 j hj]
  refine ⟨?_, hp⟩
  obtain ⟨a1, a2, a3, a4, a5, a6, a7⟩ := o
  have o' : SO M s := ⟨a1, a2, a3, a4, a5, a6, a7⟩
  unfold SO
  rw [h1, h2, h3, h5]
  refine ⟨a1, a2, a3, a4, a5, fun j hj => ?_, fun x y hxy hy => ?_⟩
  · rw [hp j hj, h4 j hj]
    exact a6 (w j) (hb j hj)
  · rw [hp x (by omega), hp y hy]
    exact o'.ne (hi x y hxy hy) (hb x (by omega)) (hb y hy)
/-- the last, n, moves to p -/
def wI (p n j : Nat) : Nat := if j < p then j else if j = p then n else if j ≤ n then j - 1 else j
/-- that at p becomes the last of n -/
def wD (p n j : Nat) : Nat := if j < p then j else if j + 1 < n then j + 1 else if j + 1 = n then p else j
theorem ahd_pf {M : Mm} {F : Nat} {g : Nat → Int32} (i : GI F g) {a b k l : Nat} (hk : k < gn g 3) (hl : l < gn g 3) (pk : PF (mi M a) g k) (pl : PF (mi M b) g l) : pAhd M a b ↔ gAhd g k l = true := by
  have hF := i.hF
  have h4 := i.f.2
  obtain ⟨k0, k1, -, -, k4, -⟩ := i.pi hk
  obtain ⟨l0, l1, -, -, l4, -⟩ := i.pi hl
  have rk := i.rank k1.2
  have rl := i.rank l1.2
  have a6 : mi M a 6 = nI (gRk g k) := pk.2.2.1.trans rk.1
  have b6 : mi M b 6 = nI (gRk g l) := pl.2.2.1.trans rl.1
  have a9 : mi M a 9 = nI (gUr g k) := pk.2.2.2.2.2.1.trans k4.1
  have b9 : mi M b 9 = nI (gUr g l) := pl.2.2.2.2.2.1.trans l4.1
  have a4 : mi M a 4 = nI (gNum g k) := pk.1.trans k0.1
  have b4 : mi M b 4 = nI (gNum g l) := pl.1.trans l0.1
  have c1 : gRk g k < 10 := rk.2
  have c2 : gRk g l < 10 := rl.2
  have c3 : gUr g k < 10 := k4.2
  have c4 : gUr g l < 10 := l4.2
  have c5 : gNum g k < gn g 4 := k0.2
  have c6 : gNum g l < gn g 4 := l0.2
  unfold pAhd gAhd
  rw [a6, b6, a9, b9, a4, b4, decide_eq_true_eq, nI_ltI (by omega) (by omega), nI_ltI (by omega) (by omega), nI_ltI (by omega) (by omega)]
  by_cases e1 : gRk g k = gRk g l
  · rw [if_pos (by rw [e1])]
    by_cases e2 : gUr g k = gUr g l
    · rw [if_pos (by rw [e2])]
      omega
    · rw [if_neg (fun z => e2 (nI_inj (by omega) (by omega) z))]
      omega
  · rw [if_neg (fun z => e1 (nI_inj (by omega) (by omega) z))]
    omega
section CLASS
variable {G : GG} {M : Mm} {s F : Nat} {g : Nat → Int32} {q : Nat → Nat}
theorem k_X4_comesB {a b : Nat} (ka : kd M a = 4) (kb : kd M b = 4) {w : Bool} (h : pAhd M a b ↔ w = true) : KP G IX4_comesBefore [.ref a, .ref b] M (bI (w = true)) := by
  refine KK.mono (k_X4_comesBefore ka kb) (fun v M' ⟨x, h1, h2, h3⟩ => ⟨x, h1, ?_, h3⟩) (fun _ _ z => z)
  rcases h2 with ⟨rfl, h2⟩ | ⟨rfl, h2⟩
  · exact (bI_t (h.mp h2)).symm
  · exact (bI_f (fun z => h2 (h.mpr z))).symm
theorem k_X6_moveToItsPosition (o : SO M s) {n : Nat} (h7 : mi M s 7 = nI n) (hn : n < 8) {B : Nat → Bool} (hB : ∀ j, j < n → (pAhd M (pA M s n) (pA M s j) ↔ B j = true)) : KK G IX6_moveToItsPosition [.ref s, .ref (pA M s n)] M (qv (fun M' => ∃ p, p ≤ n ∧ (∀ j, p ≤ j → j < n → B j = true) ∧ (∀ z, p = z + 1 → B z = false) ∧ M' = sQ M (s + 4) (fun j => mr M (s + 4) (wI p n j))) nox) := by
  refine KK.ofW (by decide) (by simp [Value.category]) (Nat.le_of_ble_eq_true rfl) rfl ?_
  show WW _ _ _ 0 [_, _, lj] [] _ _ _
  have ka := o.ka hn
  first | refine r_aload_n (dk kX6_moveToItsPosition 0 rfl) rfl ?_ | refine r_aload_nN (dk kX6_moveToItsPosition 0 rfl) rfl ?_
  refine r_geti (dk kX6_moveToItsPosition 1 rfl) fa_X6_45_5 o.k rfl ?_
  -- at 4
  rw [h7]
  refine r_istore_n (j := 2) (dk kX6_moveToItsPosition 2 rfl) rfl (by decide) rfl ?_
  simp only [List.set_cons_succ, List.set_cons_zero]
  -- at 5
  have fin : ∀ p, p ≤ n → (∀ j, p ≤ j → j < n → B j = true) → (∀ z, p = z + 1 → B z = false) → WW G IX6_moveToItsPosition (qv (fun M' => ∃ p, p ≤ n ∧ (∀ j, p ≤ j → j < n → B j = true) ∧ (∀ z, p = z + 1 → B z = false) ∧ M' = sQ M (s + 4) (fun j => mr M (s + 4) (wI p n j))) nox) 44 [.ref s, .ref (pA M s n), .int (nI p)] [] (sQ M (s + 4) (fun j => if j ≤ p then mr M (s + 4) j else if j ≤ n then mr M (s + 4) (j - 1) else mr M (s + 4) j)) 0 0 := by
    intro p hp hb hz
    first | refine r_aload_n (dk kX6_moveToItsPosition 26 rfl) rfl ?_ | refine r_aload_nN (dk kX6_moveToItsPosition 26 rfl) rfl ?_
    refine r_getR (dk kX6_moveToItsPosition 27 rfl) fa_X6_23_5 o.k rfl (by rw [mr_sQ_n _ _ (by omega)]; exact o.r3) ?_
    refine r_iload_n (dk kX6_moveToItsPosition 28 rfl) rfl ?_
    first | refine r_aload_n (dk kX6_moveToItsPosition 29 rfl) rfl ?_ | refine r_aload_nN (dk kX6_moveToItsPosition 29 rfl) rfl ?_
    refine r_aas (dk kX6_moveToItsPosition 30 rfl) o.k4 (by decide) o.l4 rfl (show p < 8 by omega) (by decide) ka ?_
    -- at 51
    rw [sR_sQ]
    refine r_return (dk kX6_moveToItsPosition 31 rfl) rfl ⟨Nat.le_of_ble_eq_true rfl, Nat.le_of_ble_eq_true rfl⟩ ⟨p, hp, hb, hz, ?_⟩
    congr 1
    funext j
    unfold wI
    by_cases e : j = p
    · subst e
      rw [va_up_self, if_neg (Nat.lt_irrefl j), if_pos rfl, o.rp hn]
    · rw [va_up_ne _ _ e]
      by_cases e1 : j < p
      · rw [if_pos (Nat.le_of_lt e1), if_pos e1]
      · rw [if_neg (by omega), if_neg e1, if_neg e]
        by_cases e2 : j ≤ n
        · rw [if_pos e2, if_pos e2]
        · rw [if_neg e2, if_neg e2]
  suffices key : ∀ p, p ≤ n → (∀ j, p ≤ j → j < n → B j = true) → WW G IX6_moveToItsPosition (qv (fun M' => ∃ p, p ≤ n ∧ (∀ j, p ≤ j → j < n → B j = true) ∧ (∀ z, p = z + 1 → B z = false) ∧ M' = sQ M (s + 4) (fun j => mr M (s + 4) (wI p n j))) nox) 5 [.ref s, .ref (pA M s n), .int (nI p)] [] (sQ M (s + 4) (fun j => if j ≤ p then mr M (s + 4) j else if j ≤ n then mr M (s + 4) (j - 1) else mr M (s + 4) j)) 0 0 by
    have h := key n (Nat.le_refl n) (fun j h1 h2 => absurd h2 (by omega))
    rw [show (fun j => if j ≤ n then mr M (s + 4) j else if j ≤ n then mr M (s + 4) (j - 1) else mr M (s + 4) j) = mr M (s + 4) from funext fun j => by
      by_cases e : j ≤ n
      · rw [if_pos e]
      · rw [if_neg e, if_neg e], sQ_eq] at h
    exact h
  intro p
  induction p with
  | zero =>
    intro hp hb
    refine r_iload_n (dk kX6_moveToItsPosition 3 rfl) rfl ?_
    refine r_if_le (tgt := 44) (dk kX6_moveToItsPosition 4 rfl) (by decide) (fun c6 => ?_) (fun c6 => absurd (by decide) c6)
    -- at 44
    exact fin 0 hp hb (fun z hz => by omega)
  | succ p ih =>
    intro hp hb
    refine r_iload_n (dk kX6_moveToItsPosition 3 rfl) rfl ?_
    refine r_if_le (tgt := 44) (dk kX6_moveToItsPosition 4 rfl) (by decide) (fun c6 => absurd c6 (nI_nle (by omega) (by omega))) (fun c6 => ?_)
    first | refine r_aload_n (dk kX6_moveToItsPosition 5 rfl) rfl ?_ | refine r_aload_nN (dk kX6_moveToItsPosition 5 rfl) rfl ?_
    first | refine r_aload_n (dk kX6_moveToItsPosition 6 rfl) rfl ?_ | refine r_aload_nN (dk kX6_moveToItsPosition 6 rfl) rfl ?_
    refine r_getR (dk kX6_moveToItsPosition 7 rfl) fa_X6_23_5 o.k rfl (by rw [mr_sQ_n _ _ (by omega)]; exact o.r3) ?_
    refine r_iload_n (dk kX6_moveToItsPosition 8 rfl) rfl ?_
    refine r_iconst (v := 1) (dk kX6_moveToItsPosition 9 rfl) (by decide) ?_
    refine r_isub (dk kX6_moveToItsPosition 10 rfl) ?_
    -- at 17
    rw [nI_sub1 (by omega), show p + 1 - 1 = p from rfl]
    have e1 : mr (sQ M (s + 4) (fun j => if j ≤ p + 1 then mr M (s + 4) j else if j ≤ n then mr M (s + 4) (j - 1) else mr M (s + 4) j)) (s + 4) p = some (pA M s p) := by
      rw [mr_sQ_s]
      show (if p ≤ p + 1 then mr M (s + 4) p else _) = _
      rw [if_pos (by omega), o.rp (by omega)]
    have hc := k_X4_comesB (G := G) (M := sQ M (s + 4) (fun j => if j ≤ p + 1 then mr M (s + 4) j else if j ≤ n then mr M (s + 4) (j - 1) else mr M (s + 4) j)) ka (o.ka (j := p) (by omega)) (hB p (by omega))
    refine r_aal (dk kX6_moveToItsPosition 11 rfl) o.k4 (by decide) o.l4 rfl (show p < 8 by omega) (by decide) e1 ?_
    refine r_callVp (I' := IX4_comesBefore) (as := [_]) (dk kX6_moveToItsPosition 12 rfl) mv_X4_comesBefore ml_X6_100 rfl rfl ka rfl rfl (Nat.le_of_ble_eq_true rfl) ⟨by decide, by decide⟩ ⟨rfl, rfl⟩ ⟨Nat.le_of_ble_eq_true rfl, Nat.le_of_ble_eq_true rfl⟩ hc ?_
    -- at 21
    by_cases hb1 : B p = true
    · rw [bI_t hb1]
      refine r_if_eq (tgt := 44) (dk kX6_moveToItsPosition 13 rfl) (by decide) (fun c21 => absurd c21 (by decide)) (fun c21 => ?_)
      first | refine r_aload_n (dk kX6_moveToItsPosition 14 rfl) rfl ?_ | refine r_aload_nN (dk kX6_moveToItsPosition 14 rfl) rfl ?_
      refine r_getR (dk kX6_moveToItsPosition 15 rfl) fa_X6_23_5 o.k rfl (by rw [mr_sQ_n _ _ (by omega)]; exact o.r3) ?_
      refine r_iload_n (dk kX6_moveToItsPosition 16 rfl) rfl ?_
      first | refine r_aload_n (dk kX6_moveToItsPosition 17 rfl) rfl ?_ | refine r_aload_nN (dk kX6_moveToItsPosition 17 rfl) rfl ?_
      refine r_getR (dk kX6_moveToItsPosition 18 rfl) fa_X6_23_5 o.k rfl (by rw [mr_sQ_n _ _ (by omega)]; exact o.r3) ?_
      refine r_iload_n (dk kX6_moveToItsPosition 19 rfl) rfl ?_
      refine r_iconst (v := 1) (dk kX6_moveToItsPosition 20 rfl) (by decide) ?_
      refine r_isub (dk kX6_moveToItsPosition 21 rfl) ?_
      -- at 36
      rw [nI_sub1 (by omega), show p + 1 - 1 = p from rfl]
      refine r_aal (dk kX6_moveToItsPosition 22 rfl) o.k4 (by decide) o.l4 rfl (show p < 8 by omega) (by decide) e1 ?_
      refine r_aas (dk kX6_moveToItsPosition 23 rfl) o.k4 (by decide) o.l4 rfl (show p + 1 < 8 by omega) (by decide) (o.ka (j := p) (by omega)) ?_
      -- at 38
      rw [sR_sQ]
      refine r_iinc (dk kX6_moveToItsPosition 24 rfl) (by decide) rfl rfl rfl ?_
      simp only [List.set_cons_succ, List.set_cons_zero]
      refine r_goto (tgt := 5) (dk kX6_moveToItsPosition 25 rfl) (by decide) ?_
      -- at 5
      rw [show nI (p + 1) + Int32.ofInt (-1) = nI p from (by rw [show Int32.ofInt (-1) = -1 by decide]; exact pk_m1 p)]
      rw [show (va_up (fun j => if j ≤ p + 1 then mr M (s + 4) j else if j ≤ n then mr M (s + 4) (j - 1) else mr M (s + 4) j) (p + 1) (some (pA M s p))) = (fun j => if j ≤ p then mr M (s + 4) j else if j ≤ n then mr M (s + 4) (j - 1) else mr M (s + 4) j) from funext fun j => by
        by_cases e : j = p + 1
        · subst e
          rw [va_up_self, if_neg (by omega), if_pos (by omega), show p + 1 - 1 = p from rfl, o.rp (by omega)]
        · rw [va_up_ne _ _ e]
          by_cases e2 : j ≤ p
          · rw [if_pos (by omega), if_pos e2]
          · rw [if_neg (by omega), if_neg e2]]
      exact ih (by omega) (fun j h1 h2 => by
        by_cases e : j = p
        · rw [e]; exact hb1
        · exact hb j (by omega) h2)
    · rw [bI_f hb1]
      refine r_if_eq (tgt := 44) (dk kX6_moveToItsPosition 13 rfl) (by decide) (fun c21 => ?_) (fun c21 => absurd (by decide) c21)
      -- at 44
      exact fin (p + 1) hp hb (fun z hz => by
        have : z = p := by omega
        rw [this]
        exact Bool.not_eq_true _ ▸ hb1)
theorem k_X6_dequeue (o : SO M s) {n j0 : Nat} (h7 : mi M s 7 = nI n) (hn : n < 9) (hj : j0 < n) : KU G IX6_dequeue [.ref s, .ref (pA M s j0)] M (sI (sQ M (s + 4) (fun j => mr M (s + 4) (wD j0 n j))) s 7 (nI (n - 1))) := by
  refine KK.ofW (by decide) (by simp [Value.category]) (Nat.le_of_ble_eq_true rfl) rfl ?_
  show WW _ _ _ 0 [_, _, lj, lj] [] _ _ _
  have ka := o.ka (j := j0) (by omega)
  refine r_iconst (v := 0) (dk kX6_dequeue 0 rfl) (by decide) ?_
  refine r_istore_n (j := 2) (dk kX6_dequeue 1 rfl) rfl (by decide) rfl ?_
  simp only [List.set_cons_succ, List.set_cons_zero]
  refine r_iconst (v := 0) (dk kX6_dequeue 2 rfl) (by decide) ?_
  refine r_istore_n (j := 3) (dk kX6_dequeue 3 rfl) rfl (by decide) rfl ?_
  simp only [List.set_cons_succ, List.set_cons_zero]
  -- at 4
  suffices key : ∀ d i, i + d = n → WW G IX6_dequeue (qv (fun M' => M' = sI (sQ M (s + 4) (fun j => mr M (s + 4) (wD j0 n j))) s 7 (nI (n - 1))) nox) 4 [.ref s, .ref (pA M s j0), .int (nI (if i ≤ j0 then i else i - 1)), .int (nI i)] [] (sQ M (s + 4) (fun j => if j < j0 then mr M (s + 4) j else if j + 1 < i then mr M (s + 4) (j + 1) else mr M (s + 4) j)) 0 0 by
    have h := key n 0 (Nat.zero_add _)
    rw [show (fun j => if j < j0 then mr M (s + 4) j else if j + 1 < 0 then mr M (s + 4) (j + 1) else mr M (s + 4) j) = mr M (s + 4) from funext fun j => by
      by_cases e : j < j0
      · rw [if_pos e]
      · rw [if_neg e, if_neg (Nat.not_lt_zero _)], sQ_eq] at h
    rw [if_pos (Nat.zero_le _)] at h
    exact h
  intro d
  induction d with
  | zero =>
    intro i hi
    have hi : i = n := hi
    subst hi
    rw [if_neg (by omega)]
    refine r_iload_n (dk kX6_dequeue 4 rfl) rfl ?_
    first | refine r_aload_n (dk kX6_dequeue 5 rfl) rfl ?_ | refine r_aload_nN (dk kX6_dequeue 5 rfl) rfl ?_
    refine r_geti (dk kX6_dequeue 6 rfl) fa_X6_45_5 o.k rfl ?_
    -- at 9
    rw [show mi (sQ M (s + 4) (fun j => if j < j0 then mr M (s + 4) j else if j + 1 < i then mr M (s + 4) (j + 1) else mr M (s + 4) j)) s 7 = nI i from h7]
    refine r_icmp_ge (tgt := 43) (dk kX6_dequeue 7 rfl) (by decide) (fun c9 => ?_) (fun c9 => absurd (nI_le (by omega) (by omega)) c9)
    refine r_iload_n (dk kX6_dequeue 25 rfl) rfl ?_
    first | refine r_aload_n (dk kX6_dequeue 26 rfl) rfl ?_ | refine r_aload_nN (dk kX6_dequeue 26 rfl) rfl ?_
    refine r_geti (dk kX6_dequeue 27 rfl) fa_X6_45_5 o.k rfl ?_
    -- at 48
    rw [show mi (sQ M (s + 4) (fun j => if j < j0 then mr M (s + 4) j else if j + 1 < i then mr M (s + 4) (j + 1) else mr M (s + 4) j)) s 7 = nI i from h7]
    refine r_icmp_ge (tgt := 63) (dk kX6_dequeue 28 rfl) (by decide) (fun c48 => absurd c48 (nI_ge (by omega) (by omega))) (fun c48 => ?_)
    first | refine r_aload_n (dk kX6_dequeue 29 rfl) rfl ?_ | refine r_aload_nN (dk kX6_dequeue 29 rfl) rfl ?_
    refine r_getR (dk kX6_dequeue 30 rfl) fa_X6_23_5 o.k rfl (by rw [mr_sQ_n _ _ (by omega)]; exact o.r3) ?_
    refine r_iload_n (dk kX6_dequeue 31 rfl) rfl ?_
    first | refine r_aload_n (dk kX6_dequeue 32 rfl) rfl ?_ | refine r_aload_nN (dk kX6_dequeue 32 rfl) rfl ?_
    refine r_aas (dk kX6_dequeue 33 rfl) o.k4 (by decide) o.l4 rfl (show i - 1 < 8 by omega) (by decide) ka ?_
    -- at 58
    rw [sR_sQ]
    rw [show (va_up (fun j => if j < j0 then mr M (s + 4) j else if j + 1 < i then mr M (s + 4) (j + 1) else mr M (s + 4) j) (i - 1) (some (pA M s j0))) = (fun j => mr M (s + 4) (wD j0 i j)) from funext fun j => by
      unfold wD
      by_cases e : j = i - 1
      · subst e
        rw [va_up_self, if_neg (by omega), if_neg (by omega), if_pos (by omega), o.rp (by omega)]
      · rw [va_up_ne _ _ e]
        by_cases e2 : j < j0
        · rw [if_pos e2, if_pos e2]
        · rw [if_neg e2, if_neg e2]
          by_cases e3 : j + 1 < i
          · rw [if_pos e3, if_pos e3]
          · rw [if_neg e3, if_neg e3, if_neg (by omega)]]
    first | refine r_aload_n (dk kX6_dequeue 34 rfl) rfl ?_ | refine r_aload_nN (dk kX6_dequeue 34 rfl) rfl ?_
    refine r_iload_n (dk kX6_dequeue 35 rfl) rfl ?_
    refine r_puti (dk kX6_dequeue 36 rfl) fa_X6_45_5 o.k rfl rfl rfl rfl ?_
    refine r_return (dk kX6_dequeue 37 rfl) rfl ⟨Nat.le_of_ble_eq_true rfl, Nat.le_of_ble_eq_true rfl⟩ rfl
  | succ d ih =>
    intro i hi
    have h8 : mi (sQ M (s + 4) (fun j => if j < j0 then mr M (s + 4) j else if j + 1 < i then mr M (s + 4) (j + 1) else mr M (s + 4) j)) s 7 = nI n := h7
    have e1 : mr (sQ M (s + 4) (fun j => if j < j0 then mr M (s + 4) j else if j + 1 < i then mr M (s + 4) (j + 1) else mr M (s + 4) j)) (s + 4) i = some (pA M s i) := by
      rw [mr_sQ_s]
      show (if i < j0 then mr M (s + 4) i else if i + 1 < i then mr M (s + 4) (i + 1) else mr M (s + 4) i) = _
      rw [← o.rp (show i < 8 by omega)]
      by_cases e : i < j0
      · rw [if_pos e]
      · rw [if_neg e, if_neg (by omega)]
    refine r_iload_n (dk kX6_dequeue 4 rfl) rfl ?_
    first | refine r_aload_n (dk kX6_dequeue 5 rfl) rfl ?_ | refine r_aload_nN (dk kX6_dequeue 5 rfl) rfl ?_
    refine r_geti (dk kX6_dequeue 6 rfl) fa_X6_45_5 o.k rfl ?_
    -- at 9
    rw [h8]
    refine r_icmp_ge (tgt := 43) (dk kX6_dequeue 7 rfl) (by decide) (fun c9 => absurd c9 (nI_ge (by omega) (by omega))) (fun c9 => ?_)
    first | refine r_aload_n (dk kX6_dequeue 8 rfl) rfl ?_ | refine r_aload_nN (dk kX6_dequeue 8 rfl) rfl ?_
    refine r_getR (dk kX6_dequeue 9 rfl) fa_X6_23_5 o.k rfl (by rw [mr_sQ_n _ _ (by omega)]; exact o.r3) ?_
    refine r_iload_n (dk kX6_dequeue 10 rfl) rfl ?_
    refine r_aal (dk kX6_dequeue 11 rfl) o.k4 (by decide) o.l4 rfl (show i < 8 by omega) (by decide) e1 ?_
    first | refine r_aload_n (dk kX6_dequeue 12 rfl) rfl ?_ | refine r_aload_nN (dk kX6_dequeue 12 rfl) rfl ?_
    -- at 19
    by_cases hij : i = j0
    · have hij2 : pA M s i = pA M s j0 := by rw [hij]
      refine r_acmp_eq (tgt := 37) (dk kX6_dequeue 13 rfl) (by decide) (fun c19 => ?_) (fun c19 => absurd hij2 c19)
      refine r_iinc (dk kX6_dequeue 23 rfl) (by decide) rfl rfl rfl ?_
      simp only [List.set_cons_succ, List.set_cons_zero]
      refine r_goto (tgt := 4) (dk kX6_dequeue 24 rfl) (by decide) ?_
      -- at 4
      rw [show nI i + Int32.ofInt 1 = nI (i + 1) from nI_1 i]
      have h := ih (i + 1) (by omega)
      rw [if_neg (by omega), show i + 1 - 1 = i from rfl] at h
      rw [if_pos (by omega)]
      rw [show (fun j => if j < j0 then mr M (s + 4) j else if j + 1 < i + 1 then mr M (s + 4) (j + 1) else mr M (s + 4) j) = (fun j => if j < j0 then mr M (s + 4) j else if j + 1 < i then mr M (s + 4) (j + 1) else mr M (s + 4) j) from funext fun j => by
        by_cases e : j < j0
        · rw [if_pos e, if_pos e]
        · rw [if_neg e, if_neg e, if_neg (by omega), if_neg (by omega)]] at h
      exact h
    · have hne := o.ne hij (by omega) (by omega)
      have hk : (if i ≤ j0 then i else i - 1) < 8 := by split <;> omega
      refine r_acmp_eq (tgt := 37) (dk kX6_dequeue 13 rfl) (by decide) (fun c19 => absurd c19 hne) (fun c19 => ?_)
      first | refine r_aload_n (dk kX6_dequeue 14 rfl) rfl ?_ | refine r_aload_nN (dk kX6_dequeue 14 rfl) rfl ?_
      refine r_getR (dk kX6_dequeue 15 rfl) fa_X6_23_5 o.k rfl (by rw [mr_sQ_n _ _ (by omega)]; exact o.r3) ?_
      refine r_iload_n (dk kX6_dequeue 16 rfl) rfl ?_
      first | refine r_aload_n (dk kX6_dequeue 17 rfl) rfl ?_ | refine r_aload_nN (dk kX6_dequeue 17 rfl) rfl ?_
      refine r_getR (dk kX6_dequeue 18 rfl) fa_X6_23_5 o.k rfl (by rw [mr_sQ_n _ _ (by omega)]; exact o.r3) ?_
      refine r_iload_n (dk kX6_dequeue 19 rfl) rfl ?_
      refine r_aal (dk kX6_dequeue 20 rfl) o.k4 (by decide) o.l4 rfl (show i < 8 by omega) (by decide) e1 ?_
      refine r_aas (dk kX6_dequeue 21 rfl) o.k4 (by decide) o.l4 rfl hk (by decide) (o.ka (j := i) (by omega)) ?_
      -- at 34
      rw [sR_sQ]
      refine r_iinc (dk kX6_dequeue 22 rfl) (by decide) rfl rfl rfl ?_
      simp only [List.set_cons_succ, List.set_cons_zero]
      refine r_iinc (dk kX6_dequeue 23 rfl) (by decide) rfl rfl rfl ?_
      simp only [List.set_cons_succ, List.set_cons_zero]
      refine r_goto (tgt := 4) (dk kX6_dequeue 24 rfl) (by decide) ?_
      -- at 4
      rw [show nI (if i ≤ j0 then i else i - 1) + Int32.ofInt 1 = nI ((if i ≤ j0 then i else i - 1) + 1) from nI_1 _, show nI i + Int32.ofInt 1 = nI (i + 1) from nI_1 i]
      have h := ih (i + 1) (by omega)
      rw [show (if i ≤ j0 then i else i - 1) + 1 = (if i + 1 ≤ j0 then i + 1 else i + 1 - 1) by split <;> split <;> omega]
      rw [show (va_up (fun j => if j < j0 then mr M (s + 4) j else if j + 1 < i then mr M (s + 4) (j + 1) else mr M (s + 4) j) (if i ≤ j0 then i else i - 1) (some (pA M s i))) = (fun j => if j < j0 then mr M (s + 4) j else if j + 1 < i + 1 then mr M (s + 4) (j + 1) else mr M (s + 4) j) from funext fun j => by
        by_cases e : j = (if i ≤ j0 then i else i - 1)
        · by_cases e0 : i ≤ j0
          · rw [if_pos e0] at e ⊢
            subst e
            rw [va_up_self, if_pos (by omega), o.rp (by omega)]
          · rw [if_neg e0] at e ⊢
            subst e
            rw [va_up_self, if_neg (by omega), if_pos (by omega), show i - 1 + 1 = i by omega, o.rp (by omega)]
        · rw [va_up_ne _ _ e]
          by_cases e2 : j < j0
          · rw [if_pos e2, if_pos e2]
          · rw [if_neg e2, if_neg e2]
            by_cases e3 : j + 1 < i
            · rw [if_pos e3, if_pos (by omega)]
            · rw [if_neg e3, if_neg (by split at e <;> omega)]]
      exact h
end CLASS
