/-! PURE: numbers, first places, counts -/
/-- the first place below n where p holds -/
def fx (p : Nat → Bool) : Nat → Option Nat
  | 0 => none
  | n + 1 => match fx p n with
    | some k => some k
    | none => if p n = true then some n else none
theorem fx_none {p : Nat → Bool} : ∀ {n : Nat}, fx p n = none ↔ ∀ j, j < n → p j = false
  | 0 => ⟨fun _ j hj => absurd hj (Nat.not_lt_zero j), fun _ => rfl⟩
  | n + 1 => by
    have ih := fx_none (p := p) (n := n)
    unfold fx
    constructor
    · intro h j hj
      cases hf : fx p n with
      | some k => rw [hf] at h; cases h
      | none =>
        rw [hf] at h
        by_cases hp : p n = true
        · simp [hp] at h
        · rcases Nat.lt_succ_iff_lt_or_eq.mp hj with q | q
          · exact ih.mp hf j q
          · rw [q]; simpa using hp
    · intro h
      rw [ih.mpr (fun j hj => h j (Nat.lt_succ_of_lt hj))]
      simp [h n (Nat.lt_succ_self n)]
theorem fx_some {p : Nat → Bool} : ∀ {n k : Nat}, fx p n = some k ↔ k < n ∧ p k = true ∧ ∀ j, j < k → p j = false
  | 0, k => ⟨fun h => (by cases h), fun h => absurd h.1 (Nat.not_lt_zero k)⟩
  | n + 1, k => by
    have ih := fx_some (p := p) (n := n) (k := k)
    have i0 := fx_none (p := p) (n := n)
    unfold fx
    constructor
    · intro h
      cases hf : fx p n with
      | some z =>
        rw [hf] at h
        have h : some z = some k := h
        rw [h] at hf
        obtain ⟨h1, h2, h3⟩ := ih.mp hf
        exact ⟨Nat.lt_succ_of_lt h1, h2, h3⟩
      | none =>
        rw [hf] at h
        by_cases hp : p n = true
        · simp [hp] at h
          subst h
          exact ⟨Nat.lt_succ_self n, hp, i0.mp hf⟩
        · simp [hp] at h
    · intro ⟨h1, h2, h3⟩
      rcases Nat.lt_succ_iff_lt_or_eq.mp h1 with q | q
      · rw [ih.mpr ⟨q, h2, h3⟩]
      · subst q
        rw [i0.mpr h3]
        simp [h2]
theorem fx_lt {p : Nat → Bool} {n k : Nat} (h : fx p n = some k) : k < n := (fx_some.mp h).1
theorem fx_at {p : Nat → Bool} {n k : Nat} (h : fx p n = some k) : p k = true := (fx_some.mp h).2.1
theorem fx_cong {p q : Nat → Bool} {n : Nat} (h : ∀ j, j < n → p j = q j) : fx p n = fx q n := by
  cases hq : fx q n with
  | none => exact fx_none.mpr fun j hj => by rw [h j hj]; exact fx_none.mp hq j hj
  | some k =>
    obtain ⟨h1, h2, h3⟩ := fx_some.mp hq
    exact fx_some.mpr ⟨h1, by rw [h k h1]; exact h2, fun j hj => by rw [h j (by omega)]; exact h3 j hj⟩
/-- a place as the methods tell it -/
def oI : Option Nat → Int32
  | some k => nI k
  | none => -1
theorem oI_neg {r : Option Nat} {n : Nat} (h : ∀ k, r = some k → k < n) (hn : n < 2 ^ 31) : oI r < 0 ↔ r = none := by
  cases r with
  | none => exact ⟨fun _ => rfl, fun _ => by decide⟩
  | some k => exact ⟨fun z => absurd z (nI_pos (Nat.lt_trans (h k rfl) hn)), fun z => by cases z⟩
/-- how many below n -/
def ct (p : Nat → Bool) : Nat → Nat
  | 0 => 0
  | n + 1 => ct p n + (if p n = true then 1 else 0)
theorem ct_le (p : Nat → Bool) : ∀ n, ct p n ≤ n
  | 0 => Nat.le_refl _
  | n + 1 => by
    have h := ct_le p n
    unfold ct
    split <;> omega
theorem ct_cong {p q : Nat → Bool} : ∀ {n : Nat}, (∀ j, j < n → p j = q j) → ct p n = ct q n
  | 0, _ => rfl
  | n + 1, h => by rw [ct, ct, ct_cong (fun j hj => h j (by omega)), h n (by omega)]
abbrev bI (p : Prop) [Decidable p] : Int32 := if p then 1 else 0
theorem bI_t {p : Prop} [Decidable p] (h : p) : bI p = 1 := if_pos h
theorem bI_f {p : Prop} [Decidable p] (h : ¬ p) : bI p = 0 := if_neg h
theorem bI_0 {p : Prop} [Decidable p] : bI p = 0 ↔ ¬ p := by
  by_cases hp : p
  · rw [bI_t hp]; exact ⟨fun z => absurd z (by decide), fun z => absurd hp z⟩
  · rw [bI_f hp]; exact ⟨fun _ => hp, fun _ => rfl⟩
theorem bI_1 {p : Prop} [Decidable p] : bI p ≠ 0 ↔ p := by
  by_cases hp : p
  · rw [bI_t hp]; exact ⟨fun _ => hp, fun _ => by decide⟩
  · rw [bI_f hp]; exact ⟨fun z => absurd rfl z, fun z => absurd z hp⟩
theorem bI_nI (p : Prop) [Decidable p] : bI p = nI (if p then 1 else 0) := by
  by_cases hp : p
  · rw [bI_t hp, if_pos hp]; rfl
  · rw [bI_f hp, if_neg hp]; rfl
theorem bI_cong {p q : Prop} [Decidable p] [Decidable q] (h : p ↔ q) : bI p = bI q := by
  by_cases hp : p
  · rw [bI_t hp, bI_t (h.mp hp)]
  · rw [bI_f hp, bI_f (fun z => hp (h.mpr z))]
theorem nbI (p : Prop) [Decidable p] : narrow .boolean (.int (bI p)) = .int (bI p) := by
  by_cases hp : p
  · rw [bI_t hp]; rfl
  · rw [bI_f hp]; rfl
/-- an int and the natural number that it is -/
abbrev gn (g : Nat → Int32) (i : Nat) : Nat := (g i).toNatClampNeg
theorem ixa {a b : Int32} {a' b' s : Nat} (ha : a = nI a') (hb : b = nI b') : a + b * nI s = nI (a' + b' * s) := by rw [ha, hb, pk_mul, nI_add]
theorem ixb {a b : Int32} {a' b' s w : Nat} (ha : a = nI a') (hb : b = nI b') : a + b * nI s + nI w = nI (a' + b' * s + w) := by rw [ixa ha hb, nI_add]
theorem ixc {a b c : Int32} {a' b' s w : Nat} (ha : a = nI a') (hb : b = nI b') (hc : c = nI w) : a + b * nI s + c = nI (a' + b' * s + w) := by rw [ixa ha hb, hc, nI_add]
theorem ixd {a : Int32} {a' s : Nat} (ha : a = nI a') : a + nI s = nI (a' + s) := by rw [ha, nI_add]
theorem nI_inj {a b : Nat} (ha : a < 2 ^ 31) (hb : b < 2 ^ 31) (h : nI a = nI b) : a = b := (nI_eq ha hb).mp h
theorem nI_lt0 {x : Int32} {n : Nat} (hn : n < 2 ^ 31) : 0 ≤ x ∧ x ≤ nI n - 1 ↔ ∃ k, k < n ∧ x = nI k := by
  constructor
  · intro ⟨h1, h2⟩
    obtain ⟨k, hk, rfl⟩ := nI_of (Int32.not_lt.mpr h1)
    refine ⟨k, ?_, rfl⟩
    cases n with
    | zero =>
      exfalso
      have h3 : nI 0 - 1 = (-1 : Int32) := by decide
      rw [h3] at h2
      have h4 := (Int32.le_iff_toInt_le).mp h2
      rw [nI_toInt hk] at h4
      have h5 : (-1 : Int32).toInt = -1 := by decide
      omega
    | succ n =>
      rw [nI_pred] at h2
      have h3 := (nI_leI hk (by omega)).mp h2
      omega
  · intro ⟨k, hk, hx⟩
    subst hx
    refine ⟨nI_pos' (by omega), ?_⟩
    cases n with
    | zero => exact absurd hk (Nat.not_lt_zero k)
    | succ n => rw [nI_pred]; exact nI_le (by omega) (by omega)
/-! THE STATE in the reference's own row g: counts at 0..8, stones by twos from 9, ranks from 29, petitions by elevens from 35, rulings by sixes from 123 -/
/-- the entry i is a natural number below b -/
def nb (g : Nat → Int32) (i b : Nat) : Prop := g i = nI (gn g i) ∧ gn g i < b
def PI (g : Nat → Int32) (k : Nat) : Prop := nb g (35 + 11 * k) (gn g 4) ∧ nb g (35 + 11 * k + 1) (gn g 1) ∧ nb g (35 + 11 * k + 2) (gn g 0) ∧ nb g (35 + 11 * k + 3) 25 ∧ nb g (35 + 11 * k + 4) 10 ∧ nb g (35 + 11 * k + 5) 64 ∧ nb g (35 + 11 * k + 6) 64 ∧ nb g (35 + 11 * k + 7) 4 ∧ ∀ c, c < gn g (35 + 11 * k + 7) → nb g (35 + 11 * k + 8 + c) (gn g 5)
def RI (g : Nat → Int32) (r : Nat) : Prop := nb g (123 + 6 * r) 2 ∧ nb g (123 + 6 * r + 1) 2 ∧ nb g (123 + 6 * r + 2) 4 ∧ ∀ c, c < gn g (123 + 6 * r + 2) → nb g (123 + 6 * r + 3 + c) r
/-- what holds of every state; F: how many petitions may have been filed -/
def GI (F : Nat) (g : Nat → Int32) : Prop := F < 2 ^ 30 ∧ nb g 0 11 ∧ nb g 1 7 ∧ nb g 2 6 ∧ nb g 3 9 ∧ nb g 4 (F + 1) ∧ nb g 5 17 ∧ (∀ k, k < gn g 0 → nb g (9 + 2 * k) 25) ∧ (∀ k, k < gn g 1 → nb g (29 + k) 10) ∧ (∀ k, k < gn g 3 → PI g k) ∧ (∀ j k, j < k → k < gn g 3 → gn g (35 + 11 * j) < gn g (35 + 11 * k)) ∧ ∀ r, r < gn g 5 → RI g r
section GI
variable {F : Nat} {g : Nat → Int32}
theorem GI.hF (i : GI F g) : F < 2 ^ 30 := i.1
theorem GI.s (i : GI F g) : nb g 0 11 := i.2.1
theorem GI.o (i : GI F g) : nb g 1 7 := i.2.2.1
theorem GI.q (i : GI F g) : nb g 2 6 := i.2.2.2.1
theorem GI.p (i : GI F g) : nb g 3 9 := i.2.2.2.2.1
theorem GI.f (i : GI F g) : nb g 4 (F + 1) := i.2.2.2.2.2.1
theorem GI.r (i : GI F g) : nb g 5 17 := i.2.2.2.2.2.2.1
theorem GI.cell (i : GI F g) {k : Nat} (h : k < gn g 0) : nb g (9 + 2 * k) 25 := i.2.2.2.2.2.2.2.1 k h
theorem GI.rank (i : GI F g) {k : Nat} (h : k < gn g 1) : nb g (29 + k) 10 := i.2.2.2.2.2.2.2.2.1 k h
theorem GI.pi (i : GI F g) {k : Nat} (h : k < gn g 3) : PI g k := i.2.2.2.2.2.2.2.2.2.1 k h
theorem GI.num (i : GI F g) {j k : Nat} (h : j < k) (hk : k < gn g 3) : gn g (35 + 11 * j) < gn g (35 + 11 * k) := i.2.2.2.2.2.2.2.2.2.2.1 j k h hk
theorem GI.ri (i : GI F g) {r : Nat} (h : r < gn g 5) : RI g r := i.2.2.2.2.2.2.2.2.2.2.2 r h
end GI
theorem nb.le {g : Nat → Int32} {i b c : Nat} (h : nb g i b) (hc : b ≤ c) : nb g i c := ⟨h.1, Nat.lt_of_lt_of_le h.2 hc⟩
def gWithin (g : Nat → Int32) (c : Int32) : Option Nat := fx (fun k => decide (g (9 + 2 * k) = c)) (gn g 0)
def gPlace (g : Nat → Int32) (x : Int32) : Option Nat := fx (fun k => decide (g (35 + 11 * k) = x)) (gn g 3)
def gAbout (g : Nat → Int32) (s : Int32) : Option Nat := fx (fun k => decide (g (35 + 11 * k + 2) = s)) (gn g 3)
def bN (m : Nat) : Nat := m % 2 + m / 2 % 2 + m / 4 % 2 + m / 8 % 2 + m / 16 % 2 + m / 32 % 2
theorem bN_le (m : Nat) : bN m ≤ 6 := by unfold bN; omega
/-- votes for, against, all -/
def gFor (g : Nat → Int32) (k : Nat) : Nat := bN (gn g (35 + 11 * k + 5))
def gAg (g : Nat → Int32) (k : Nat) : Nat := bN (gn g (35 + 11 * k + 6))
def gVotes (g : Nat → Int32) (k : Nat) : Nat := gFor g k + gAg g k
/-- the petition at place a comes before that at place b -/
def gRk (g : Nat → Int32) (k : Nat) : Nat := gn g (29 + gn g (35 + 11 * k + 1))
def gUr (g : Nat → Int32) (k : Nat) : Nat := gn g (35 + 11 * k + 4)
def gNum (g : Nat → Int32) (k : Nat) : Nat := gn g (35 + 11 * k)
def gAhd (g : Nat → Int32) (a b : Nat) : Bool := decide (gRk g b < gRk g a ∨ gRk g a = gRk g b ∧ (gUr g b < gUr g a ∨ gUr g a = gUr g b ∧ gNum g a < gNum g b))
def gAhead (g : Nat → Int32) (k : Nat) : Nat := ct (fun j => gAhd g j k) (gn g 3)
def gQueued (g : Nat → Int32) (x : Int32) : Option Nat := fx (fun k => decide (nI (gAhead g k) = x)) (gn g 3)
/-- ruling r names ruling o -/
def gNames (g : Nat → Int32) (r : Nat) (x : Int32) : Bool := (fx (fun c => decide (g (123 + 6 * r + 3 + c) = x)) (gn g (123 + 6 * r + 2))).isSome
theorem sb_eq {a b : Nat} (ha : a < 2 ^ 30) (hb : b < 2 ^ 30) : nI a - nI b = 0 ↔ a = b := by
  rw [← Int32.toInt_inj, pk_sub_toInt ha hb]
  have : (0 : Int32).toInt = 0 := by decide
  omega
theorem sb_gt {a b : Nat} (ha : a < 2 ^ 30) (hb : b < 2 ^ 30) : 0 < nI a - nI b ↔ b < a := by
  rw [Int32.lt_iff_toInt_lt, pk_sub_toInt ha hb]
  have : (0 : Int32).toInt = 0 := by decide
  omega
theorem sb_le {a b : Nat} (ha : a < 2 ^ 30) (hb : b < 2 ^ 30) : nI a - nI b ≤ 0 ↔ a ≤ b := by
  rw [Int32.le_iff_toInt_le, pk_sub_toInt ha hb]
  have : (0 : Int32).toInt = 0 := by decide
  omega
/-- for less against, with the first c cited rulings -/
def gLead (g : Nat → Int32) (k : Nat) : Nat → Int32
  | 0 => nI (gFor g k) - nI (gAg g k)
  | c + 1 => gLead g k c + (if g (123 + 6 * gn g (35 + 11 * k + 8 + c)) = 1 then 1 else -1)
def gWins (g : Nat → Int32) (k : Nat) : Bool := decide (0 < gLead g k (gn g (35 + 11 * k + 7)))
/-- the rulings below n that are r or are based on it, as bits -/
def gBs (g : Nat → Int32) (r : Nat) : Nat → Nat
  | 0 => 0
  | n + 1 => if n < r then 0 else if n = r then 2 ^ r else if (fx (fun o => (gBs g r n).testBit o && gNames g n (nI o)) n).isSome = true then gBs g r n ||| 2 ^ n else gBs g r n
def gBased (g : Nat → Int32) (r k : Nat) : Bool := decide (k ≠ r) && (gBs g r (gn g 5)).testBit k
def gReach (g : Nat → Int32) (r : Nat) : Nat := ct (fun k => gBased g r k) (gn g 5)
theorem gBs_lt (g : Nat → Int32) (r : Nat) : ∀ n, gBs g r n < 2 ^ n
  | 0 => by show (0 : Nat) < 1; decide
  | n + 1 => by
    have ih := gBs_lt g r n
    have h2 : 2 ^ n < 2 ^ (n + 1) := Nat.pow_lt_pow_right (by decide) (by omega)
    unfold gBs
    split
    · exact Nat.lt_of_lt_of_le (by decide) (Nat.one_le_two_pow)
    · split
      · rename_i h; rw [← h]; exact h2
      · split
        · exact Nat.or_lt_two_pow (Nat.lt_trans ih h2) h2
        · exact Nat.lt_trans ih h2
/-- g without the petition at place p -/
def gDrop (g : Nat → Int32) (p : Nat) : Nat → Int32 := fun i =>
  if i = 3 then g 3 - 1 else if 35 + 11 * p ≤ i ∧ i < 35 + 11 * (gn g 3 - 1) then g (i + 11) else if 35 + 11 * (gn g 3 - 1) ≤ i ∧ i < 35 + 11 * (gn g 3 - 1) + 11 then 0 else g i
/-! bits of small masks -/
theorem nI_bv {m : Nat} : (nI m).toBitVec = BitVec.ofNat 32 m := rfl
theorem nI_or (a b : Nat) : nI a ||| nI b = nI (a ||| b) := by
  apply Int32.toBitVec_inj.mp
  show (nI a).toBitVec ||| (nI b).toBitVec = _
  rw [nI_bv, nI_bv, nI_bv, BitVec.ofNat_or]
theorem nI_sh1 : ∀ k, k < 31 → (1 : Int32) <<< (nI k &&& 31) = nI (2 ^ k) := by decide +kernel
theorem nI_shr {m k : Nat} (hm : m < 2 ^ 31) (hk : k < 31) : nI m >>> (nI k &&& 31) = nI (m / 2 ^ k) := by
  have h1 : ∀ k, k < 31 → ((nI k &&& 31).toBitVec.smod 32).toNat = k := by decide +kernel
  exact pk_shrN hm _ k (h1 k hk)
theorem nI_bit {m k : Nat} (hm : m < 2 ^ 31) (hk : k < 31) : (nI m >>> (nI k &&& 31)) &&& 1 = bI (m.testBit k = true) := by
  rw [nI_shr hm hk]
  have h2 : (nI (m / 2 ^ k)) &&& 1 = nI ((m / 2 ^ k) % 2 ^ 1) := pk_andN (Nat.lt_of_le_of_lt (Nat.div_le_self _ _) (by omega)) 1 (by decide)
  rw [h2, bI_nI]
  congr 1
  rw [Nat.testBit_eq_decide_div_mod_eq]
  have : m / 2 ^ k % 2 < 2 := Nat.mod_lt _ (by decide)
  by_cases hb : m / 2 ^ k % 2 = 1
  · simp [hb]
  · simp [hb]; omega
/-! Int32 by its bits (out of kit/laws/BITS.to-paste) -/
def bt (x : Int32) (i : Nat) : Bool := x.toBitVec.getLsbD i
theorem b_ext {x y : Int32} (h : ∀ i, i < 32 → bt x i = bt y i) : x = y := Int32.toBitVec_inj.mp (BitVec.eq_of_getLsbD_eq (fun i hi => h i hi))
theorem b_or (x y : Int32) (i : Nat) : bt (x ||| y) i = (bt x i || bt y i) := by unfold bt; rw [Int32.toBitVec_or, BitVec.getLsbD_or]
theorem b_and (x y : Int32) (i : Nat) : bt (x &&& y) i = (bt x i && bt y i) := by unfold bt; rw [Int32.toBitVec_and, BitVec.getLsbD_and]
theorem b_xor (x y : Int32) (i : Nat) : bt (x ^^^ y) i = (bt x i ^^ bt y i) := by unfold bt; rw [Int32.toBitVec_xor, BitVec.getLsbD_xor]
theorem b_big {x : Int32} {i : Nat} (h : 32 ≤ i) : bt x i = false := BitVec.getLsbD_of_ge _ _ h
theorem b_m1 : ∀ i, i < 32 → bt (-1) i = true := by decide +kernel
theorem b_0 (i : Nat) : bt 0 i = false := BitVec.getLsbD_zero
theorem s_l : ∀ n, n < 32 → ((nI n &&& 31).toBitVec.smod 32).toNat = n := by decide +kernel
theorem b_shl (n : Nat) (hn : n < 32) (x : Int32) {i : Nat} (hi : i < 32) : bt (x <<< (nI n &&& 31)) i = (decide (n ≤ i) && bt x (i - n)) := by
  unfold bt
  rw [Int32.toBitVec_shiftLeft]
  show (x.toBitVec <<< ((nI n &&& 31).toBitVec.smod 32).toNat).getLsbD i = _
  rw [s_l n hn, BitVec.getLsbD_shiftLeft]
  rcases Nat.lt_or_ge i n with h | h
  · simp [h, Nat.not_le.mpr h]
  · simp [hi, h, Nat.not_lt.mpr h]
theorem b_sshr (n : Nat) (hn : n < 32) (x : Int32) {i : Nat} (hi : i < 32) : bt (x >>> (nI n &&& 31)) i = if n + i < 32 then bt x (n + i) else bt x 31 := by
  unfold bt
  rw [Int32.toBitVec_shiftRight]
  show (x.toBitVec.sshiftRight ((nI n &&& 31).toBitVec.smod 32).toNat).getLsbD i = _
  rw [s_l n hn, BitVec.getLsbD_sshiftRight, BitVec.msb_eq_getLsbD_last]
  simp [hi]
theorem bt_nI (m : Nat) {i : Nat} (hi : i < 32) : bt (nI m) i = m.testBit i := by
  show (BitVec.ofNat 32 m).getLsbD i = _
  rw [BitVec.getLsbD_ofNat]
  simp [hi]
theorem bt_1 : ∀ i, i < 32 → bt 1 i = decide (i = 0) := by decide +kernel
theorem bitx (x : Int32) {k : Nat} (hk : k < 32) : (x >>> (nI k &&& 31)) &&& 1 = bI (bt x k = true) := by
  apply b_ext
  intro i hi
  rw [b_and, b_sshr k hk x hi, bt_1 i hi, bI_nI, bt_nI _ hi]
  by_cases h0 : i = 0
  · subst h0
    rw [if_pos (by omega)]
    cases hb : bt x k <;> simp [hb]
  · rw [decide_eq_false h0, Bool.and_false]
    symm
    by_cases hb : bt x k = true
    · rw [if_pos hb, ← bt_nI 1 hi]
      exact (bt_1 i hi).trans (decide_eq_false h0)
    · rw [if_neg hb, Nat.zero_testBit]
/-- the rulings that are based on r, as the reference has them -/
def gBm (g : Nat → Int32) (r : Nat) : Int32 := nI (gBs g r (gn g 5)) &&& ((1 : Int32) <<< (nI r &&& 31) ^^^ (-1))
theorem gBm_bt (g : Nat → Int32) {r k : Nat} (hr : r < 32) (hk : k < 32) : bt (gBm g r) k = gBased g r k := by
  unfold gBm gBased
  rw [b_and, b_xor, b_shl r hr _ hk, bt_nI _ hk, b_m1 k hk, bt_1 _ (by omega), Bool.and_comm]
  congr 1
  by_cases h : k = r
  · subst h
    simp
  · by_cases h2 : r ≤ k
    · rw [decide_eq_true h2, decide_eq_false (show ¬ k - r = 0 by omega), decide_eq_true h]
      rfl
    · rw [decide_eq_false h2, decide_eq_true h]
      rfl
theorem gBs_low (g : Nat → Int32) (r : Nat) : ∀ n i, i < r → (gBs g r n).testBit i = false
  | 0, i, _ => by unfold gBs; exact Nat.zero_testBit i
  | n + 1, i, hi => by
    have ih := gBs_low g r n i hi
    unfold gBs
    split
    · exact Nat.zero_testBit i
    · split
      · rw [Nat.testBit_two_pow_of_ne (by omega)]
      · split
        · rw [Nat.testBit_or, ih, Nat.testBit_two_pow_of_ne (by omega)]
          rfl
        · exact ih
theorem nI_sub1 {n : Nat} (h : 0 < n) : nI n - 1 = nI (n - 1) := by
  obtain ⟨m, rfl⟩ : ∃ m, n = m + 1 := ⟨n - 1, by omega⟩
  rw [nI_pred]
  rfl
theorem fx_succ (p : Nat → Bool) (n : Nat) : (fx p (n + 1)).isSome = ((fx p n).isSome || p n) := by
  show (match fx p n with
    | some k => some k
    | none => if p n = true then some n else none).isSome = _
  cases fx p n with
  | some k => rfl
  | none =>
    by_cases h : p n = true
    · simp [h]
    · simp [h]
theorem gBs_step (g : Nat → Int32) {r n : Nat} (h : r < n) : gBs g r (n + 1) = if (fx (fun o => (gBs g r n).testBit o && gNames g n (nI o)) n).isSome = true then gBs g r n ||| 2 ^ n else gBs g r n := by
  show (if n < r then 0 else if n = r then 2 ^ r else _) = _
  rw [if_neg (by omega), if_neg (by omega)]
theorem gBs_self (g : Nat → Int32) (r : Nat) : gBs g r (r + 1) = 2 ^ r := by
  show (if r < r then 0 else if r = r then 2 ^ r else _) = _
  rw [if_neg (by omega), if_pos rfl]
