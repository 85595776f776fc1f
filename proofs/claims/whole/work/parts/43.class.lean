/-! THE CLASS: signs of a text -/
section CLASS
variable {G : GG} {M : Mm} {a : Nat}
theorem k_X7_isDigit (c : Int32) : KP G IX7_isDigit [.int c] M (bI (48 ≤ c ∧ c ≤ 57)) := by
  refine KK.ofW (by decide) (by simp [Value.category]) (Nat.le_of_ble_eq_true rfl) rfl ?_
  show WW _ _ _ 0 [_] [] _ _ _
  by_cases h1 : c < 48
  · rw [bI_f (fun z => absurd h1 (Int32.not_lt.mpr z.1))]
    refine r_iload_n (dk kX7_isDigit 0 rfl) rfl ?_
    refine r_bipush (v := 48) (dk kX7_isDigit 1 rfl) (by decide) ?_
    refine r_icmp_lt (tgt := 16) (dk kX7_isDigit 2 rfl) (by decide) (fun c3 => ?_) (fun c3 => absurd h1 c3)
    refine r_iconst (v := 0) (dk kX7_isDigit 8 rfl) (by decide) ?_
    refine r_ireturn (dk kX7_isDigit 9 rfl) rfl rfl ⟨Nat.le_of_ble_eq_true rfl, Nat.le_of_ble_eq_true rfl⟩ ⟨rfl, rfl⟩
  · by_cases h2 : 57 < c
    · rw [bI_f (fun z => absurd h2 (Int32.not_lt.mpr z.2))]
      refine r_iload_n (dk kX7_isDigit 0 rfl) rfl ?_
      refine r_bipush (v := 48) (dk kX7_isDigit 1 rfl) (by decide) ?_
      refine r_icmp_lt (tgt := 16) (dk kX7_isDigit 2 rfl) (by decide) (fun c3 => absurd c3 h1) (fun c3 => ?_)
      refine r_iload_n (dk kX7_isDigit 3 rfl) rfl ?_
      refine r_bipush (v := 57) (dk kX7_isDigit 4 rfl) (by decide) ?_
      refine r_icmp_gt (tgt := 16) (dk kX7_isDigit 5 rfl) (by decide) (fun c9 => ?_) (fun c9 => absurd h2 c9)
      refine r_iconst (v := 0) (dk kX7_isDigit 8 rfl) (by decide) ?_
      refine r_ireturn (dk kX7_isDigit 9 rfl) rfl rfl ⟨Nat.le_of_ble_eq_true rfl, Nat.le_of_ble_eq_true rfl⟩ ⟨rfl, rfl⟩
    · rw [bI_t ⟨Int32.not_lt.mp h1, Int32.not_lt.mp h2⟩]
      refine r_iload_n (dk kX7_isDigit 0 rfl) rfl ?_
      refine r_bipush (v := 48) (dk kX7_isDigit 1 rfl) (by decide) ?_
      refine r_icmp_lt (tgt := 16) (dk kX7_isDigit 2 rfl) (by decide) (fun c3 => absurd c3 h1) (fun c3 => ?_)
      refine r_iload_n (dk kX7_isDigit 3 rfl) rfl ?_
      refine r_bipush (v := 57) (dk kX7_isDigit 4 rfl) (by decide) ?_
      refine r_icmp_gt (tgt := 16) (dk kX7_isDigit 5 rfl) (by decide) (fun c9 => absurd c9 h2) (fun c9 => ?_)
      refine r_iconst (v := 1) (dk kX7_isDigit 6 rfl) (by decide) ?_
      refine r_goto (tgt := 17) (dk kX7_isDigit 7 rfl) (by decide) ?_
      refine r_ireturn (dk kX7_isDigit 9 rfl) rfl rfl ⟨Nat.le_of_ble_eq_true rfl, Nat.le_of_ble_eq_true rfl⟩ ⟨rfl, rfl⟩
/-- the text in the Line b: inp its first n signs -/
def LT (M : Mm) (b n : Nat) (inp : Nat → Int32) : Prop := LO M b ∧ mi M b 1 = nI n ∧ n ≤ 60 ∧ (∀ k, k < n → mi M (b + 1) k = inp k) ∧ ∀ k, k < n → narrow .char (.int (inp k)) = .int (inp k)
/-- the sign at p as the Line tells it -/
def cC (inp : Nat → Int32) (n p : Nat) : Int32 := if p < n then inp p else 0
theorem LT.at {b n : Nat} {inp : Nat → Int32} (t : LT M b n inp) {p : Nat} (hp : p < 2 ^ 30) : KP G IX3_at [.ref b, .int (nI p)] M (cC inp n p) := by
  obtain ⟨o, h1, h2, h3, h4⟩ := t
  have h := k_X3_at (G := G) o h1 h2 (fun k hk => by rw [h3 k hk]; exact h4 k hk) hp
  rw [show (if p < n then mi M (b + 1) p else 0) = cC inp n p by
    unfold cC
    by_cases hpn : p < n
    · rw [if_pos hpn, if_pos hpn, h3 p hpn]
    · rw [if_neg hpn, if_neg hpn]] at h
  exact h
theorem ch_u (u : UInt32) : ∃ k, k < 65536 ∧ (u % 65536).toInt32 = nI k := by
  refine ⟨u.toNat % 65536, Nat.mod_lt _ (by decide), Int32.toBitVec_inj.mp ?_⟩
  rw [nI_bv]
  apply BitVec.eq_of_toNat_eq
  rw [BitVec.toNat_ofNat]
  have h1 : ((u % 65536).toInt32.toBitVec).toNat = u.toNat % 65536 := rfl
  rw [h1]
  have := Nat.mod_lt u.toNat (show 65536 > 0 by decide)
  omega
/-- a char is a number below 65536 -/
theorem ch_n {x : Int32} (h : narrow .char (.int x) = .int x) : ∃ k, k < 65536 ∧ x = nI k := by
  have h2 : narrow .char (.int x) = .int ((x.toUInt32 % 65536).toInt32) := rfl
  rw [h2] at h
  have h3 : (x.toUInt32 % 65536).toInt32 = x := by injection h
  obtain ⟨k, h4, h5⟩ := ch_u x.toUInt32
  exact ⟨k, h4, h3.symm.trans h5⟩
/-- the two ways to tell a sign agree on every sign but 0 and -1 -/
theorem cC_eq {inp : Nat → Int32} {n p : Nat} (hch : ∀ k, k < n → narrow .char (.int (inp k)) = .int (inp k)) {c : Int32} (h0 : c ≠ 0) (h1 : c ≠ -1) : cC inp n p = c ↔ hC inp n p = c := by
  unfold cC hC
  by_cases hp : p < n
  · rw [if_pos hp, if_pos hp]
  · rw [if_neg hp, if_neg hp]
    exact ⟨fun z => absurd z.symm h0, fun z => absurd z.symm h1⟩
theorem cC_dg (inp : Nat → Int32) (n p : Nat) : (48 ≤ cC inp n p ∧ cC inp n p ≤ 57) ↔ qDg inp n p = true := by
  unfold qDg cC hC
  by_cases hp : p < n
  · rw [if_pos hp, if_pos hp]
    exact ⟨fun z => decide_eq_true z, fun z => of_decide_eq_true z⟩
  · rw [if_neg hp, if_neg hp]
    exact ⟨fun z => absurd z (by decide), fun z => absurd (of_decide_eq_true z) (by decide)⟩
end CLASS
