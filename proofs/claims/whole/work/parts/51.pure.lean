/-! PURE: sums, the queue's order, one petition a stone -/
def sm (f : Nat → Nat) : Nat → Nat
  | 0 => 0
  | n + 1 => sm f n + f n
theorem sm_cong {f f' : Nat → Nat} : ∀ {n : Nat}, (∀ k, k < n → f k = f' k) → sm f n = sm f' n
  | 0, _ => rfl
  | n + 1, h => by rw [sm, sm, sm_cong (fun k hk => h k (by omega)), h n (by omega)]
theorem sm_up (f : Nat → Nat) (v : Nat) : ∀ {n t : Nat}, t < n → sm (va_up f t v) n + f t = sm f n + v
  | 0, t, h => absurd h (Nat.not_lt_zero t)
  | n + 1, t, h => by
    show sm (va_up f t v) n + va_up f t v n + f t = sm f n + f n + v
    by_cases e : t = n
    · subst e
      rw [va_up_self, sm_cong (f := va_up f t v) (f' := f) (fun k hk => va_up_ne _ _ (by omega))]
      omega
    · have ih := sm_up f v (n := n) (t := t) (by omega)
      rw [va_up_ne _ _ (Ne.symm e)]
      omega
/-- a sum over a row's order is the sum over its places -/
theorem sm_perm : ∀ (n : Nat) (f q : Nat → Nat), (∀ j, j < n → q j < n) → (∀ i j, i < j → j < n → q i ≠ q j) → sm (fun i => f (q i)) n = sm f n
  | 0, _, _, _, _ => rfl
  | n + 1, f, q, h1, h2 => by
    show sm (fun i => f (q i)) n + f (q n) = sm f n + f n
    by_cases e : q n = n
    · rw [e]
      congr 1
      exact sm_perm n f q (fun j hj => by have a := h1 j (by omega); have b := h2 j n hj (by omega); omega) (fun i j hij hj => h2 i j hij (by omega))
    · have hn := h1 n (by omega)
      have hq : ∀ j, j < n → (if q j = n then q n else q j) < n := fun j hj => by
        have a := h1 j (by omega)
        split <;> omega
      have hi : ∀ i j, i < j → j < n → (if q i = n then q n else q i) ≠ (if q j = n then q n else q j) := fun i j hij hj => by
        have a := h2 i j hij (by omega)
        have b := h2 i n (by omega) (by omega)
        have c := h2 j n (by omega) (by omega)
        split <;> split <;> omega
      have ih := sm_perm n (va_up f (q n) (f n)) _ hq hi
      have e2 : sm (fun i => va_up f (q n) (f n) (if q i = n then q n else q i)) n = sm (fun i => f (q i)) n := sm_cong (fun k hk => by
        show va_up f (q n) (f n) (if q k = n then q n else q k) = f (q k)
        by_cases e3 : q k = n
        · rw [if_pos e3, va_up_self, e3]
        · rw [if_neg e3, va_up_ne _ _ (h2 k n hk (by omega))])
      rw [e2] at ih
      have h3 := sm_up f (f n) (n := n) (t := q n) (by omega)
      omega
theorem ct_sm (p : Nat → Bool) : ∀ n, ct p n = sm (fun k => if p k = true then 1 else 0) n
  | 0 => rfl
  | n + 1 => by
    show ct p n + _ = sm _ n + _
    rw [ct_sm p n]
theorem ct_perm {n : Nat} (p : Nat → Bool) {q : Nat → Nat} (h1 : ∀ j, j < n → q j < n) (h2 : ∀ i j, i < j → j < n → q i ≠ q j) : ct (fun i => p (q i)) n = ct p n := by
  rw [ct_sm, ct_sm]
  exact sm_perm n (fun k => if p k = true then 1 else 0) q h1 h2
theorem ct_0 {p : Nat → Bool} : ∀ {n : Nat}, (∀ k, k < n → p k = false) → ct p n = 0
  | 0, _ => rfl
  | n + 1, h => by
    show ct p n + (if p n = true then 1 else 0) = 0
    rw [ct_0 (fun k hk => h k (by omega)), h n (by omega)]
    rfl
theorem ct_ex {p : Nat → Bool} {n : Nat} (h : 0 < ct p n) : ∃ k, k < n ∧ p k = true := by
  cases e : fx p n with
  | none =>
    rw [ct_0 (fx_none.mp e)] at h
    exact absurd h (Nat.lt_irrefl 0)
  | some k => exact ⟨k, fx_lt e, fx_at e⟩
theorem ct_pos {p : Nat → Bool} : ∀ {n k : Nat}, k < n → p k = true → 0 < ct p n
  | 0, k, h, _ => absurd h (Nat.not_lt_zero k)
  | n + 1, k, h, hp => by
    show 0 < ct p n + (if p n = true then 1 else 0)
    by_cases e : k = n
    · rw [← e, if_pos hp]
      omega
    · have := ct_pos (n := n) (k := k) (by omega) hp
      omega
theorem ct_lt : ∀ n j, j ≤ n → ct (fun i => decide (i < j)) n = j
  | 0, j, h => by
    show 0 = j
    omega
  | n + 1, j, h => by
    show ct (fun i => decide (i < j)) n + (if decide (n < j) = true then 1 else 0) = j
    by_cases e : j = n + 1
    · rw [ct_cong (q := fun i => decide (i < n)) (fun i hi => by rw [decide_eq_true (show i < j by omega), decide_eq_true (show i < n by omega)]), ct_lt n n (Nat.le_refl n), decide_eq_true (show n < j by omega), if_pos rfl]
      omega
    · rw [ct_lt n j (by omega), decide_eq_false (show ¬ n < j by omega)]
      rfl
/-- what reaches every place from below reaches the first one -/
theorem q_sur {n : Nat} {q : Nat → Nat} (h1 : ∀ j, j < n → q j < n) (h2 : ∀ i j, i < j → j < n → q i ≠ q j) {p : Nat} (hp : p < n) : ∃ j, j < n ∧ q j = p := by
  have e := ct_perm (n := n) (fun k => decide (k = p)) h1 h2
  have h3 : 0 < ct (fun k => decide (k = p)) n := ct_pos hp (decide_eq_true rfl)
  rw [← e] at h3
  obtain ⟨j, hj, hq⟩ := ct_ex h3
  exact ⟨j, hj, of_decide_eq_true hq⟩
/-! the order of the queue -/
theorem ahd_irr (g : Nat → Int32) (a : Nat) : gAhd g a a = false := by
  unfold gAhd
  exact decide_eq_false (by omega)
theorem ahd_tr {g : Nat → Int32} {a b c : Nat} (h1 : gAhd g a b = true) (h2 : gAhd g b c = true) : gAhd g a c = true := by
  unfold gAhd at *
  have h1 := of_decide_eq_true h1
  have h2 := of_decide_eq_true h2
  exact decide_eq_true (by omega)
theorem ahd_as {g : Nat → Int32} {a b : Nat} (h1 : gAhd g a b = true) : gAhd g b a = false := by
  cases h : gAhd g b a with
  | false => rfl
  | true =>
    have h3 := ahd_tr h1 h
    rw [ahd_irr] at h3
    cases h3
theorem ahd_tot {F : Nat} {g : Nat → Int32} (i : GI F g) {a b : Nat} (ha : a < gn g 3) (hb : b < gn g 3) (hab : a ≠ b) (h : gAhd g a b = false) : gAhd g b a = true := by
  have hn : gNum g a ≠ gNum g b := by
    rcases Nat.lt_or_gt_of_ne hab with q | q
    · exact Nat.ne_of_lt (i.num q hb)
    · exact Nat.ne_of_gt (i.num q ha)
  unfold gAhd at *
  have h := of_decide_eq_false h
  exact decide_eq_true (by omega)
/-- q j: the place of the petition at position j -/
def QO (g : Nat → Int32) (q : Nat → Nat) : Prop := (∀ j, j < gn g 3 → q j < gn g 3) ∧ ∀ i j, i < j → j < gn g 3 → gAhd g (q i) (q j) = true
theorem QO.inj {g : Nat → Int32} {q : Nat → Nat} (o : QO g q) : ∀ i j, i < j → j < gn g 3 → q i ≠ q j := fun i j hij hj e => by
  have h := o.2 i j hij hj
  rw [e, ahd_irr] at h
  cases h
theorem QO.at {g : Nat → Int32} {q : Nat → Nat} (o : QO g q) {p : Nat} (hp : p < gn g 3) : ∃ j, j < gn g 3 ∧ q j = p := q_sur o.1 o.inj hp
theorem QO.ctP {g : Nat → Int32} {q : Nat → Nat} (o : QO g q) (p : Nat → Bool) : ct (fun i => p (q i)) (gn g 3) = ct p (gn g 3) := ct_perm p o.1 o.inj
theorem QO.smP {g : Nat → Int32} {q : Nat → Nat} (o : QO g q) (f : Nat → Nat) : sm (fun i => f (q i)) (gn g 3) = sm f (gn g 3) := sm_perm _ f q o.1 o.inj
/-- the petition at position j has j before it -/
theorem QO.pos {g : Nat → Int32} {q : Nat → Nat} (o : QO g q) {j : Nat} (hj : j < gn g 3) : gAhead g (q j) = j := by
  unfold gAhead
  rw [← o.ctP (fun k => gAhd g k (q j))]
  rw [ct_cong (q := fun i => decide (i < j)) (fun i hi => ?_)]
  · exact ct_lt _ _ (Nat.le_of_lt hj)
  · by_cases e : i < j
    · rw [decide_eq_true e, o.2 i j e hj]
    · rw [decide_eq_false e]
      by_cases e2 : i = j
      · rw [e2, ahd_irr]
      · exact ahd_as (o.2 j i (by omega) hi)
theorem QO.queued {g : Nat → Int32} {q : Nat → Nat} (o : QO g q) (hn : gn g 3 < 2 ^ 31) {j : Nat} (hj : j < gn g 3) : gQueued g (nI j) = some (q j) := by
  refine fx_some.mpr ⟨o.1 j hj, decide_eq_true (by rw [o.pos hj]), fun k hk => decide_eq_false fun e => ?_⟩
  obtain ⟨i, hi, rfl⟩ := o.at (Nat.lt_trans hk (o.1 j hj))
  rw [o.pos hi] at e
  have := nI_inj (by omega) (by omega) e
  rw [this] at hk
  exact Nat.lt_irrefl _ hk
theorem QO.queuedN {g : Nat → Int32} {q : Nat → Nat} (o : QO g q) (hn : gn g 3 < 2 ^ 30) {x : Int32} (hx : ¬ (0 ≤ x ∧ x < nI (gn g 3))) : gQueued g x = none := by
  refine fx_none.mpr fun k hk => decide_eq_false fun e => hx ?_
  obtain ⟨i, hi, rfl⟩ := o.at hk
  rw [o.pos hi] at e
  rw [← e]
  exact ⟨nI_pos' (by omega), nI_lt hi (by omega)⟩
/-- one petition a stone -/
def GU (g : Nat → Int32) : Prop := ∀ j k, j < k → k < gn g 3 → gn g (35 + 11 * j + 2) ≠ gn g (35 + 11 * k + 2)
theorem gPlace_at {F : Nat} {g : Nat → Int32} (i : GI F g) {p : Nat} (hp : p < gn g 3) : gPlace g (g (35 + 11 * p)) = some p := by
  refine fx_some.mpr ⟨hp, decide_eq_true rfl, fun k hk => decide_eq_false fun e => ?_⟩
  have h := i.num hk hp
  unfold gn at h
  rw [e] at h
  exact Nat.lt_irrefl _ h
theorem gAbout_at {g : Nat → Int32} (u : GU g) {p : Nat} (hp : p < gn g 3) : gAbout g (g (35 + 11 * p + 2)) = some p := by
  refine fx_some.mpr ⟨hp, decide_eq_true rfl, fun k hk => decide_eq_false fun e => ?_⟩
  have h := u k p hk hp
  unfold gn at h
  exact h (by rw [e])
