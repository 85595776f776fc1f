/-! THE CLASS: bits counted up to 16 -/
theorem nI_and (a b : Nat) : nI a &&& nI b = nI (a &&& b) := by
  apply Int32.toBitVec_inj.mp
  show (nI a).toBitVec &&& (nI b).toBitVec = _
  rw [nI_bv, nI_bv, nI_bv, BitVec.ofNat_and]
theorem us_n {n k : Nat} (hn : n < 2 ^ 32) (s : Int32) (hs : ((s.toUInt32 &&& Int32.toUInt32 31).toBitVec % 32).toNat = k) : us (nI n) s = nI (n / 2 ^ k) := pk_ushrN hn s k hs
/-- the count of bits in numbers -/
def bcN1 (m : Nat) : Nat := m - (m / 2 &&& 1431655765)
def bcN2 (m : Nat) : Nat := (m &&& 858993459) + (m / 4 &&& 858993459)
def bcN3 (m : Nat) : Nat := (m + m / 16) &&& 252645135
def bcN4 (m : Nat) : Nat := m + m / 256
def bcN5 (m : Nat) : Nat := m + m / 65536
def bcN (m : Nat) : Nat := bcN5 (bcN4 (bcN3 (bcN2 (bcN1 m)))) &&& 63
theorem bc_n {m : Nat} (hm : m < 65536) : bcF (nI m) = nI (bcN m) := by
  show bc5 (bc4 (bc3 (bc2 (bc1 (nI m))))) &&& 63 = nI (bcN5 (bcN4 (bcN3 (bcN2 (bcN1 m)))) &&& 63)
  have l1 : bcN1 m ≤ m := Nat.sub_le _ _
  have e1 : bc1 (nI m) = nI (bcN1 m) := by
    unfold bc1 bcN1
    rw [us_n (by omega) 1 (k := 1) (by decide), show (1431655765 : Int32) = nI 1431655765 from rfl, nI_and]
    exact pk_sub (Nat.le_trans Nat.and_le_left (Nat.div_le_self _ _))
  have l2 : bcN2 (bcN1 m) ≤ 2 * m := by
    have h1 := Nat.and_le_left (n := bcN1 m) (m := 858993459)
    have h2 := Nat.and_le_left (n := bcN1 m / 4) (m := 858993459)
    have h3 := Nat.div_le_self (bcN1 m) 4
    unfold bcN2
    omega
  have e2 : bc2 (nI (bcN1 m)) = nI (bcN2 (bcN1 m)) := by
    unfold bc2 bcN2
    rw [us_n (by omega) 2 (k := 2) (by decide), show (858993459 : Int32) = nI 858993459 from rfl, nI_and, nI_and, nI_add]
  rw [e1, e2]
  generalize bcN2 (bcN1 m) = a at *
  have l3 : bcN3 a ≤ 2 * a := by
    have h1 := Nat.and_le_left (n := a + a / 16) (m := 252645135)
    have h3 := Nat.div_le_self a 16
    unfold bcN3
    omega
  have e3 : bc3 (nI a) = nI (bcN3 a) := by
    unfold bc3 bcN3
    rw [us_n (by omega) 4 (k := 4) (by decide), show (252645135 : Int32) = nI 252645135 from rfl, nI_add, nI_and]
  have e4 : ∀ b, b < 2 ^ 32 → bc4 (nI b) = nI (bcN4 b) := fun b hb => by
    unfold bc4 bcN4
    rw [us_n hb 8 (k := 8) (by decide), nI_add]
  have e5 : ∀ b, b < 2 ^ 32 → bc5 (nI b) = nI (bcN5 b) := fun b hb => by
    unfold bc5 bcN5
    rw [us_n hb 16 (k := 16) (by decide), nI_add]
  have h4 : bcN4 (bcN3 a) < 2 ^ 32 := by
    have := Nat.div_le_self (bcN3 a) 256
    unfold bcN4
    omega
  rw [e3, e4 _ (by omega), e5 _ h4, show (63 : Int32) = nI 63 from rfl, nI_and]
def pcN (m : Nat) : Nat := m / 1 % 2 + m / 2 % 2 + m / 4 % 2 + m / 8 % 2 + m / 16 % 2 + m / 32 % 2 + m / 64 % 2 + m / 128 % 2 + m / 256 % 2 + m / 512 % 2 + m / 1024 % 2 + m / 2048 % 2 + m / 4096 % 2 + m / 8192 % 2 + m / 16384 % 2 + m / 32768 % 2
theorem bcN_0 : ∀ a, a < 16 → ∀ b, b < 256 → Nat.beq (bcN (0 + 256 * a + b)) (pcN (0 + 256 * a + b)) = true := by decide +kernel
theorem bcN_1 : ∀ a, a < 16 → ∀ b, b < 256 → Nat.beq (bcN (4096 + 256 * a + b)) (pcN (4096 + 256 * a + b)) = true := by decide +kernel
theorem bcN_2 : ∀ a, a < 16 → ∀ b, b < 256 → Nat.beq (bcN (8192 + 256 * a + b)) (pcN (8192 + 256 * a + b)) = true := by decide +kernel
theorem bcN_3 : ∀ a, a < 16 → ∀ b, b < 256 → Nat.beq (bcN (12288 + 256 * a + b)) (pcN (12288 + 256 * a + b)) = true := by decide +kernel
theorem bcN_4 : ∀ a, a < 16 → ∀ b, b < 256 → Nat.beq (bcN (16384 + 256 * a + b)) (pcN (16384 + 256 * a + b)) = true := by decide +kernel
theorem bcN_5 : ∀ a, a < 16 → ∀ b, b < 256 → Nat.beq (bcN (20480 + 256 * a + b)) (pcN (20480 + 256 * a + b)) = true := by decide +kernel
theorem bcN_6 : ∀ a, a < 16 → ∀ b, b < 256 → Nat.beq (bcN (24576 + 256 * a + b)) (pcN (24576 + 256 * a + b)) = true := by decide +kernel
theorem bcN_7 : ∀ a, a < 16 → ∀ b, b < 256 → Nat.beq (bcN (28672 + 256 * a + b)) (pcN (28672 + 256 * a + b)) = true := by decide +kernel
theorem bcN_8 : ∀ a, a < 16 → ∀ b, b < 256 → Nat.beq (bcN (32768 + 256 * a + b)) (pcN (32768 + 256 * a + b)) = true := by decide +kernel
theorem bcN_9 : ∀ a, a < 16 → ∀ b, b < 256 → Nat.beq (bcN (36864 + 256 * a + b)) (pcN (36864 + 256 * a + b)) = true := by decide +kernel
theorem bcN_10 : ∀ a, a < 16 → ∀ b, b < 256 → Nat.beq (bcN (40960 + 256 * a + b)) (pcN (40960 + 256 * a + b)) = true := by decide +kernel
theorem bcN_11 : ∀ a, a < 16 → ∀ b, b < 256 → Nat.beq (bcN (45056 + 256 * a + b)) (pcN (45056 + 256 * a + b)) = true := by decide +kernel
theorem bcN_12 : ∀ a, a < 16 → ∀ b, b < 256 → Nat.beq (bcN (49152 + 256 * a + b)) (pcN (49152 + 256 * a + b)) = true := by decide +kernel
theorem bcN_13 : ∀ a, a < 16 → ∀ b, b < 256 → Nat.beq (bcN (53248 + 256 * a + b)) (pcN (53248 + 256 * a + b)) = true := by decide +kernel
theorem bcN_14 : ∀ a, a < 16 → ∀ b, b < 256 → Nat.beq (bcN (57344 + 256 * a + b)) (pcN (57344 + 256 * a + b)) = true := by decide +kernel
theorem bcN_15 : ∀ a, a < 16 → ∀ b, b < 256 → Nat.beq (bcN (61440 + 256 * a + b)) (pcN (61440 + 256 * a + b)) = true := by decide +kernel
theorem bcN_pc {m : Nat} (hm : m < 65536) : bcN m = pcN m := by
  have e : m = 4096 * (m / 4096) + 256 * (m / 256 % 16) + m % 256 := by omega
  have h1 : m / 256 % 16 < 16 := Nat.mod_lt _ (by decide)
  have h2 : m % 256 < 256 := Nat.mod_lt _ (by decide)
  have h3 : m / 4096 < 16 := by omega
  apply Nat.eq_of_beq_eq_true
  generalize m / 256 % 16 = a at *
  generalize m % 256 = b at *
  generalize m / 4096 = c at *
  subst e
  by_cases c0 : c = 0
  · subst c0; exact bcN_0 a h1 b h2
  by_cases c1 : c = 1
  · subst c1; exact bcN_1 a h1 b h2
  by_cases c2 : c = 2
  · subst c2; exact bcN_2 a h1 b h2
  by_cases c3 : c = 3
  · subst c3; exact bcN_3 a h1 b h2
  by_cases c4 : c = 4
  · subst c4; exact bcN_4 a h1 b h2
  by_cases c5 : c = 5
  · subst c5; exact bcN_5 a h1 b h2
  by_cases c6 : c = 6
  · subst c6; exact bcN_6 a h1 b h2
  by_cases c7 : c = 7
  · subst c7; exact bcN_7 a h1 b h2
  by_cases c8 : c = 8
  · subst c8; exact bcN_8 a h1 b h2
  by_cases c9 : c = 9
  · subst c9; exact bcN_9 a h1 b h2
  by_cases c10 : c = 10
  · subst c10; exact bcN_10 a h1 b h2
  by_cases c11 : c = 11
  · subst c11; exact bcN_11 a h1 b h2
  by_cases c12 : c = 12
  · subst c12; exact bcN_12 a h1 b h2
  by_cases c13 : c = 13
  · subst c13; exact bcN_13 a h1 b h2
  by_cases c14 : c = 14
  · subst c14; exact bcN_14 a h1 b h2
  by_cases c15 : c = 15
  · subst c15; exact bcN_15 a h1 b h2
  omega
theorem tb_if (m k : Nat) : (if m.testBit k = true then 1 else 0) = m / 2 ^ k % 2 := by
  have h2 := Nat.mod_lt (m / 2 ^ k) (show 2 > 0 by decide)
  have h1 := Nat.testBit_eq_decide_div_mod_eq (x := m) (i := k)
  by_cases h : m / 2 ^ k % 2 = 1
  · rw [decide_eq_true h] at h1
    rw [if_pos h1, h]
  · rw [decide_eq_false h] at h1
    rw [if_neg (by rw [h1]; exact Bool.false_ne_true)]
    omega
theorem ct_pc (m : Nat) : ct (fun k => m.testBit k) 16 = pcN m := by
  unfold pcN
  simp only [ct, tb_if, Nat.reducePow, Nat.zero_add]
theorem bc_16 {m : Nat} (hm : m < 65536) : bcF (nI m) = nI (ct (fun k => m.testBit k) 16) := by
  rw [bc_n hm, ct_pc, bcN_pc hm]
