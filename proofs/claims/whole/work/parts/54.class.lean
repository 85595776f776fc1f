/-! THE CLASS: sets of rulings, what is based on what -/
/-! what is based on what -/
/-- r itself or based on it -/
def gB (g : Nat → Int32) (r k : Nat) : Bool := (gBs g r (gn g 5)).testBit k
theorem gBs_st (g : Nat → Int32) (r : Nat) : ∀ {n k : Nat}, k < n → (gBs g r n).testBit k = (gBs g r (k + 1)).testBit k
  | 0, k, h => absurd h (Nat.not_lt_zero k)
  | n + 1, k, h => by
    by_cases e : k = n
    · rw [e]
    · have ih := gBs_st g r (n := n) (k := k) (by omega)
      rw [← ih]
      by_cases h1 : r < n
      · rw [gBs_step g h1]
        split
        · rw [Nat.testBit_or, Nat.testBit_two_pow_of_ne (by omega), Bool.or_false]
        · rfl
      · rw [gBs_low g r n k (by omega), gBs_low g r (n + 1) k (by omega)]
theorem gB_self {g : Nat → Int32} {r : Nat} (h : r < gn g 5) : gB g r r = true := by
  unfold gB
  rw [gBs_st g r h, gBs_self, Nat.testBit_two_pow_self]
theorem gB_low {g : Nat → Int32} {r k : Nat} (h : k < r) : gB g r k = false := gBs_low g r _ k h
theorem gBs_ex (g : Nat → Int32) (r k : Nat) : (fx (fun o => (gBs g r k).testBit o && gNames g k (nI o)) k).isSome = true ↔ ∃ o, o < k ∧ (gBs g r k).testBit o = true ∧ gNames g k (nI o) = true := by
  constructor
  · intro h
    obtain ⟨o, ho⟩ := Option.isSome_iff_exists.mp h
    obtain ⟨h1, h2⟩ := Bool.and_eq_true_iff.mp (fx_at ho)
    exact ⟨o, fx_lt ho, h1, h2⟩
  · intro ⟨o, h1, h2, h3⟩
    cases e : fx (fun o => (gBs g r k).testBit o && gNames g k (nI o)) k with
    | some z => rfl
    | none =>
      have := fx_none.mp e o h1
      rw [h2, h3] at this
      cases this
theorem gB_step {g : Nat → Int32} {r k : Nat} (h1 : r < k) (h2 : k < gn g 5) : gB g r k = true ↔ ∃ o, o < k ∧ gB g r o = true ∧ gNames g k (nI o) = true := by
  have e : ∀ o, o < k → gB g r o = (gBs g r k).testBit o := fun o ho => by
    unfold gB
    rw [gBs_st g r (show o < gn g 5 by omega), gBs_st g r ho]
  have e2 : gB g r k = (gBs g r (k + 1)).testBit k := gBs_st g r h2
  rw [e2, gBs_step g h1]
  have h3 : (gBs g r k).testBit k = false := Nat.testBit_lt_two_pow (gBs_lt g r k)
  by_cases hx : (fx (fun o => (gBs g r k).testBit o && gNames g k (nI o)) k).isSome = true
  · rw [if_pos hx, Nat.testBit_or, Nat.testBit_two_pow_self, Bool.or_true]
    obtain ⟨o, a, b, c⟩ := (gBs_ex g r k).mp hx
    exact ⟨fun _ => ⟨o, a, (e o a).trans b, c⟩, fun _ => rfl⟩
  · rw [if_neg hx, h3]
    exact ⟨fun z => (by cases z), fun ⟨o, a, b, c⟩ => absurd ((gBs_ex g r k).mpr ⟨o, a, (e o a).symm.trans b, c⟩) hx⟩
/-- the rulings that ruling r cites, as bits -/
def gCs (g : Nat → Int32) (r : Nat) : Nat → Nat
  | 0 => 0
  | c + 1 => gCs g r c ||| 2 ^ gn g (123 + 6 * r + 3 + c)
theorem gCs_bit (g : Nat → Int32) (r o : Nat) : ∀ m, (gCs g r m).testBit o = true ↔ ∃ c, c < m ∧ gn g (123 + 6 * r + 3 + c) = o
  | 0 => by
    show (0 : Nat).testBit o = true ↔ _
    rw [Nat.zero_testBit]
    exact ⟨fun z => (by cases z), fun ⟨c, h, _⟩ => absurd h (Nat.not_lt_zero c)⟩
  | m + 1 => by
    show (gCs g r m ||| 2 ^ gn g (123 + 6 * r + 3 + m)).testBit o = true ↔ _
    rw [Nat.testBit_or, Bool.or_eq_true, gCs_bit g r o m, Nat.testBit_two_pow, decide_eq_true_eq]
    constructor
    · rintro (⟨c, h1, h2⟩ | h)
      · exact ⟨c, by omega, h2⟩
      · exact ⟨m, by omega, h⟩
    · intro ⟨c, h1, h2⟩
      by_cases e : c = m
      · rw [e] at h2; exact Or.inr h2
      · exact Or.inl ⟨c, by omega, h2⟩
def gCt (g : Nat → Int32) (r : Nat) : Nat := gCs g r (gn g (123 + 6 * r + 2))
theorem gCt_names {g : Nat → Int32} {r o : Nat} (i : RI g r) (hr : r < 2 ^ 30) (ho : o < 2 ^ 30) : gNames g r (nI o) = true ↔ (gCt g r).testBit o = true := by
  unfold gCt gNames
  rw [gCs_bit]
  constructor
  · intro h
    obtain ⟨c, hc⟩ := Option.isSome_iff_exists.mp h
    have h1 := of_decide_eq_true (fx_at hc)
    exact ⟨c, fx_lt hc, by unfold gn; rw [h1, nI_clamp (by omega)]⟩
  · intro ⟨c, h1, h2⟩
    cases e : fx (fun c => decide (g (123 + 6 * r + 3 + c) = nI o)) (gn g (123 + 6 * r + 2)) with
    | some z => rfl
    | none =>
      have := of_decide_eq_false (fx_none.mp e c h1)
      rw [(i.2.2.2 c h1).1, h2] at this
      exact absurd rfl this
theorem gCt_lt {g : Nat → Int32} {r o : Nat} (i : RI g r) (h : (gCt g r).testBit o = true) : o < r := by
  obtain ⟨c, h1, h2⟩ := (gCs_bit g r o _).mp h
  have := (i.2.2.2 c h1).2
  omega
theorem tb_lt {m n : Nat} (h : ∀ o, m.testBit o = true → o < n) : m < 2 ^ n := by
  refine Nat.lt_pow_two_of_testBit m fun o ho => ?_
  cases e : m.testBit o with
  | false => rfl
  | true => exact absurd (h o e) (by omega)
theorem gCt_2 {g : Nat → Int32} {r : Nat} (i : RI g r) : gCt g r < 2 ^ r := tb_lt fun _ h => gCt_lt i h
section CLASS
variable {G : GG} {M : Mm} {s F : Nat} {g : Nat → Int32} {q : Nat → Nat}
theorem k_X6_citedSet (o : SO M s) (v : SV M s g q) (i : GI F g) {r : Nat} (hr : r < gn g 5) : KP G IX6_citedSet [.ref s, .int (nI r)] M (nI (gCt g r)) := by
  have hr9 := i.r.2
  have kr := o.kr (j := r) (by omega)
  refine KK.ofW (by decide) (by simp [Value.category]) (Nat.le_of_ble_eq_true rfl) rfl ?_
  show WW _ _ _ 0 [_, _, lj, lj, lj] [] _ _ _
  obtain ⟨-, -, ⟨hS, hS2⟩, hc⟩ := i.ri hr
  obtain ⟨-, -, -, f0, fc⟩ := v.r hr
  refine r_iconst (v := 0) (dk kX6_citedSet 0 rfl) (by decide) ?_
  refine r_istore_n (j := 2) (dk kX6_citedSet 1 rfl) rfl (by decide) rfl ?_
  simp only [List.set_cons_succ, List.set_cons_zero]
  first | refine r_aload_n (dk kX6_citedSet 2 rfl) rfl ?_ | refine r_aload_nN (dk kX6_citedSet 2 rfl) rfl ?_
  refine r_iload_n (dk kX6_citedSet 3 rfl) rfl ?_
  refine r_callVr (I' := IX6_findRuling) (as := [_]) (dk kX6_citedSet 4 rfl) mv_X6_findRuling ml_X6_118 rfl rfl o.k rfl rfl (Nat.le_of_ble_eq_true rfl) ⟨by decide, by decide⟩ ⟨rfl, rfl⟩ ⟨Nat.le_of_ble_eq_true rfl, Nat.le_of_ble_eq_true rfl⟩ (k_X6_findRuling o v i hr) ?_
  refine r_astore_n (j := 3) (dk kX6_citedSet 5 rfl) rfl (by decide) rfl ?_
  simp only [List.set_cons_succ, List.set_cons_zero]
  first | refine r_aload_n (dk kX6_citedSet 6 rfl) rfl ?_ | refine r_aload_nN (dk kX6_citedSet 6 rfl) rfl ?_
  refine r_ifnull (dk kX6_citedSet 7 rfl) ?_
  refine r_iconst (v := 0) (dk kX6_citedSet 8 rfl) (by decide) ?_
  refine r_istore (dk kX6_citedSet 9 rfl) (by decide) rfl ?_
  simp only [List.set_cons_succ, List.set_cons_zero]
  -- at 15
  suffices key : ∀ d j, j + d = gn g (123 + 6 * r + 2) → WW G IX6_citedSet (qi (fun y M' => y = nI (gCt g r) ∧ M' = M) nox) 15 [.ref s, .int (nI r), .int (nI (gCs g r j)), .ref (s + 14 + r), .int (nI j)] [] M 0 0 from key _ 0 (Nat.zero_add _)
  intro d
  induction d with
  | zero =>
    intro j hj
    have hj : j = gn g (123 + 6 * r + 2) := hj
    refine r_iload (dk kX6_citedSet 10 rfl) rfl ?_
    first | refine r_aload_n (dk kX6_citedSet 11 rfl) rfl ?_ | refine r_aload_nN (dk kX6_citedSet 11 rfl) rfl ?_
    refine r_geti (dk kX6_citedSet 12 rfl) fa_X6_169_4 kr rfl ?_
    -- at 21
    rw [f0, hS]
    refine r_icmp_ge (tgt := 41) (dk kX6_citedSet 13 rfl) (by decide) (fun c21 => ?_) (fun c21 => absurd (nI_le (by omega) (by omega)) c21)
    refine r_iload_n (dk kX6_citedSet 24 rfl) rfl ?_
    refine r_ireturn (dk kX6_citedSet 25 rfl) rfl rfl ⟨Nat.le_of_ble_eq_true rfl, Nat.le_of_ble_eq_true rfl⟩ ⟨by rw [hj]; rfl, rfl⟩
  | succ d ih =>
    intro j hj
    have cj := hc j (by omega)
    have cj2 := cj.2
    refine r_iload (dk kX6_citedSet 10 rfl) rfl ?_
    first | refine r_aload_n (dk kX6_citedSet 11 rfl) rfl ?_ | refine r_aload_nN (dk kX6_citedSet 11 rfl) rfl ?_
    refine r_geti (dk kX6_citedSet 12 rfl) fa_X6_169_4 kr rfl ?_
    -- at 21
    rw [f0, hS]
    refine r_icmp_ge (tgt := 41) (dk kX6_citedSet 13 rfl) (by decide) (fun c21 => absurd c21 (nI_ge (by omega) (by omega))) (fun c21 => ?_)
    refine r_iload_n (dk kX6_citedSet 14 rfl) rfl ?_
    refine r_iconst (v := 1) (dk kX6_citedSet 15 rfl) (by decide) ?_
    first | refine r_aload_n (dk kX6_citedSet 16 rfl) rfl ?_ | refine r_aload_nN (dk kX6_citedSet 16 rfl) rfl ?_
    refine r_iload (dk kX6_citedSet 17 rfl) rfl ?_
    refine r_callUp (I' := IX0_citedAt) (as := [_]) (dk kX6_citedSet 18 rfl) mu_X6_170_4 rfl rfl kr rfl rfl (Nat.le_of_ble_eq_true rfl) ⟨by decide, by decide⟩ ⟨rfl, rfl⟩ ⟨Nat.le_of_ble_eq_true rfl, Nat.le_of_ble_eq_true rfl⟩ (k_X0_citedAtR kr (by omega)) ?_
    -- at 32
    rw [fc j (by omega), cj.1]
    refine r_ishl (dk kX6_citedSet 19 rfl) ?_
    -- at 33
    rw [nI_sh1 _ (by omega)]
    refine r_ior (dk kX6_citedSet 20 rfl) ?_
    -- at 34
    rw [nI_or, show gCs g r j ||| 2 ^ gn g (123 + 6 * r + 3 + j) = gCs g r (j + 1) from rfl]
    refine r_istore_n (j := 2) (dk kX6_citedSet 21 rfl) rfl (by decide) rfl ?_
    simp only [List.set_cons_succ, List.set_cons_zero]
    refine r_iinc (dk kX6_citedSet 22 rfl) (by decide) rfl rfl rfl ?_
    simp only [List.set_cons_succ, List.set_cons_zero]
    refine r_goto (tgt := 15) (dk kX6_citedSet 23 rfl) (by decide) ?_
    -- at 15
    rw [show nI j + Int32.ofInt 1 = nI (j + 1) from nI_1 j]
    exact ih (j + 1) (by omega)
theorem k_X6_restsOn (o : SO M s) (v : SV M s g q) (i : GI F g) {k r : Nat} (hk : k < gn g 5) (hr : r < gn g 5) : KP G IX6_restsOn [.ref s, .int (nI k), .int (nI r)] M (bI (gBased g r k = true)) := by
  refine KK.ofW (by decide) (by simp [Value.category]) (Nat.le_of_ble_eq_true rfl) rfl ?_
  show WW _ _ _ 0 [_, _, _, lj, lj] [] _ _ _
  have hr9 := i.r.2
  have last : ∀ m (z : Int32), m < 2 ^ 16 → (m.testBit r = true ↔ gBased g r k = true) → z ≤ nI r → WW G IX6_restsOn (qi (fun y M' => y = bI (gBased g r k = true) ∧ M' = M) nox) 11 [.ref s, .int (nI k), .int (nI r), .int (nI m), .int z] [] M 0 0 := by
    intro m z hm hb hz
    refine r_iload (dk kX6_restsOn 8 rfl) rfl ?_
    refine r_iload_n (dk kX6_restsOn 9 rfl) rfl ?_
    refine r_icmp_le (tgt := 42) (dk kX6_restsOn 10 rfl) (by decide) (fun c14 => ?_) (fun c14 => absurd hz c14)
    refine r_iload_n (dk kX6_restsOn 26 rfl) rfl ?_
    refine r_iload_n (dk kX6_restsOn 27 rfl) rfl ?_
    refine r_ishr (dk kX6_restsOn 28 rfl) ?_
    refine r_iconst (v := 1) (dk kX6_restsOn 29 rfl) (by decide) ?_
    refine r_iand (dk kX6_restsOn 30 rfl) ?_
    -- at 47
    rw [nI_bit (by omega) (by omega)]
    by_cases h : m.testBit r = true
    · rw [bI_t h]
      refine r_iconst (v := 1) (dk kX6_restsOn 31 rfl) (by decide) ?_
      refine r_icmp_ne (tgt := 55) (dk kX6_restsOn 32 rfl) (by decide) (fun c48 => absurd c48 (fun z => z rfl)) (fun c48 => ?_)
      refine r_iconst (v := 1) (dk kX6_restsOn 33 rfl) (by decide) ?_
      refine r_goto (tgt := 56) (dk kX6_restsOn 34 rfl) (by decide) ?_
      refine r_ireturn (dk kX6_restsOn 36 rfl) rfl rfl ⟨Nat.le_of_ble_eq_true rfl, Nat.le_of_ble_eq_true rfl⟩ ⟨(bI_t (hb.mp h)).symm, rfl⟩
    · rw [bI_f h]
      refine r_iconst (v := 1) (dk kX6_restsOn 31 rfl) (by decide) ?_
      refine r_icmp_ne (tgt := 55) (dk kX6_restsOn 32 rfl) (by decide) (fun c48 => ?_) (fun c48 => absurd (by decide) c48)
      refine r_iconst (v := 0) (dk kX6_restsOn 35 rfl) (by decide) ?_
      refine r_ireturn (dk kX6_restsOn 36 rfl) rfl rfl ⟨Nat.le_of_ble_eq_true rfl, Nat.le_of_ble_eq_true rfl⟩ ⟨(bI_f (fun z => h (hb.mpr z))).symm, rfl⟩
  first | refine r_aload_n (dk kX6_restsOn 0 rfl) rfl ?_ | refine r_aload_nN (dk kX6_restsOn 0 rfl) rfl ?_
  refine r_iload_n (dk kX6_restsOn 1 rfl) rfl ?_
  refine r_callVp (I' := IX6_citedSet) (as := [_]) (dk kX6_restsOn 2 rfl) mv_X6_citedSet ml_X6_161 rfl rfl o.k rfl rfl (Nat.le_of_ble_eq_true rfl) ⟨by decide, by decide⟩ ⟨rfl, rfl⟩ ⟨Nat.le_of_ble_eq_true rfl, Nat.le_of_ble_eq_true rfl⟩ (k_X6_citedSet o v i hk) ?_
  refine r_istore_n (j := 3) (dk kX6_restsOn 3 rfl) rfl (by decide) rfl ?_
  simp only [List.set_cons_succ, List.set_cons_zero]
  refine r_iload_n (dk kX6_restsOn 4 rfl) rfl ?_
  refine r_iconst (v := 1) (dk kX6_restsOn 5 rfl) (by decide) ?_
  refine r_isub (dk kX6_restsOn 6 rfl) ?_
  refine r_istore (dk kX6_restsOn 7 rfl) (by decide) rfl ?_
  simp only [List.set_cons_succ, List.set_cons_zero]
  -- at 11
  have c2 := gCt_2 (i.ri hk)
  have c16 : gCt g k < 2 ^ 16 := Nat.lt_of_lt_of_le c2 (Nat.pow_le_pow_right (by decide) (by omega))
  by_cases hkr : k ≤ r
  · refine last _ _ c16 ⟨fun z => ?_, fun z => ?_⟩ ?_
    · have := gCt_lt (i.ri hk) z
      omega
    · unfold gBased at z
      obtain ⟨z1, z2⟩ := Bool.and_eq_true_iff.mp z
      have z1 := of_decide_eq_true z1
      have := gBs_low g r (gn g 5) k (by omega)
      rw [this] at z2
      cases z2
    · by_cases h0 : k = 0
      · rw [h0]
        have h1 : (nI 0 - 1 : Int32) = -1 := by decide
        rw [h1]
        exact Int32.le_trans (by decide : (-1 : Int32) ≤ 0) (nI_pos' (by omega))
      · rw [nI_sub1 (by omega)]
        exact nI_le (by omega) (by omega)
  · have hB : gBased g r k = gB g r k := by
      unfold gBased
      rw [decide_eq_true (show k ≠ r by omega), Bool.true_and]
      rfl
    rw [nI_sub1 (by omega)]
    suffices key : ∀ d i', i' = r + d → i' < gn g 5 → ∀ m, m < 2 ^ 16 → ((∃ z, z ≤ i' ∧ m.testBit z = true ∧ gB g r z = true) ↔ gB g r k = true) → WW G IX6_restsOn (qi (fun y M' => y = bI (gBased g r k = true) ∧ M' = M) nox) 11 [.ref s, .int (nI k), .int (nI r), .int (nI m), .int (nI i')] [] M 0 0 by
      refine key (k - 1 - r) (k - 1) (by omega) (by omega) _ c16 ?_
      rw [gB_step (by omega) hk]
      exact ⟨fun ⟨z, z1, z2, z3⟩ => ⟨z, by omega, z3, (gCt_names (i.ri hk) (by omega) (by omega)).mpr z2⟩, fun ⟨z, z1, z2, z3⟩ => ⟨z, by omega, (gCt_names (i.ri hk) (by omega) (by omega)).mp z3, z2⟩⟩
    intro d
    induction d with
    | zero =>
      intro i' hi hi5 m hm hb
      have hi : i' = r := hi
      subst hi
      refine last m _ hm ?_ (Int32.le_refl _)
      rw [hB, ← hb]
      exact ⟨fun z => ⟨i', Nat.le_refl _, z, gB_self hi5⟩, fun ⟨z, z1, z2, z3⟩ => by
        by_cases e : z = i'
        · rw [← e]; exact z2
        · rw [gB_low (by omega)] at z3
          cases z3⟩
    | succ d ih =>
      intro i' hi hi5 m hm hb
      refine r_iload (dk kX6_restsOn 8 rfl) rfl ?_
      refine r_iload_n (dk kX6_restsOn 9 rfl) rfl ?_
      refine r_icmp_le (tgt := 42) (dk kX6_restsOn 10 rfl) (by decide) (fun c14 => absurd c14 (nI_ge (by omega) (by omega))) (fun c14 => ?_)
      refine r_iload_n (dk kX6_restsOn 11 rfl) rfl ?_
      refine r_iload (dk kX6_restsOn 12 rfl) rfl ?_
      refine r_ishr (dk kX6_restsOn 13 rfl) ?_
      refine r_iconst (v := 1) (dk kX6_restsOn 14 rfl) (by decide) ?_
      refine r_iand (dk kX6_restsOn 15 rfl) ?_
      -- at 23
      rw [nI_bit (by omega) (by omega)]
      by_cases hbit : m.testBit i' = true
      · rw [bI_t hbit]
        have w2 := gCt_2 (i.ri hi5)
        have w16 : gCt g i' < 2 ^ 16 := Nat.lt_of_lt_of_le w2 (Nat.pow_le_pow_right (by decide) (by omega))
        refine r_iconst (v := 1) (dk kX6_restsOn 16 rfl) (by decide) ?_
        refine r_icmp_ne (tgt := 36) (dk kX6_restsOn 17 rfl) (by decide) (fun c24 => absurd c24 (fun z => z rfl)) (fun c24 => ?_)
        refine r_iload_n (dk kX6_restsOn 18 rfl) rfl ?_
        first | refine r_aload_n (dk kX6_restsOn 19 rfl) rfl ?_ | refine r_aload_nN (dk kX6_restsOn 19 rfl) rfl ?_
        refine r_iload (dk kX6_restsOn 20 rfl) rfl ?_
        refine r_callVp (I' := IX6_citedSet) (as := [_]) (dk kX6_restsOn 21 rfl) mv_X6_citedSet ml_X6_161 rfl rfl o.k rfl rfl (Nat.le_of_ble_eq_true rfl) ⟨by decide, by decide⟩ ⟨rfl, rfl⟩ ⟨Nat.le_of_ble_eq_true rfl, Nat.le_of_ble_eq_true rfl⟩ (k_X6_citedSet o v i hi5) ?_
        refine r_ior (dk kX6_restsOn 22 rfl) ?_
        -- at 35
        rw [nI_or]
        refine r_istore_n (j := 3) (dk kX6_restsOn 23 rfl) rfl (by decide) rfl ?_
        simp only [List.set_cons_succ, List.set_cons_zero]
        refine r_iinc (dk kX6_restsOn 24 rfl) (by decide) rfl rfl rfl ?_
        simp only [List.set_cons_succ, List.set_cons_zero]
        refine r_goto (tgt := 11) (dk kX6_restsOn 25 rfl) (by decide) ?_
        -- at 11
        rw [show nI i' + Int32.ofInt (-1) = nI (i' - 1) from (by rw [show Int32.ofInt (-1) = -1 by decide]; obtain ⟨w, rfl⟩ : ∃ w, i' = w + 1 := ⟨i' - 1, by omega⟩; exact pk_m1 w)]
        refine ih (i' - 1) (by omega) (by omega) _ (Nat.or_lt_two_pow hm w16) ?_
        rw [← hb]
        constructor
        · intro ⟨z, z1, z2, z3⟩
          rw [Nat.testBit_or, Bool.or_eq_true] at z2
          rcases z2 with z2 | z2
          · exact ⟨z, by omega, z2, z3⟩
          · exact ⟨i', Nat.le_refl _, hbit, (gB_step (by omega) hi5).mpr ⟨z, by omega, z3, (gCt_names (i.ri hi5) (by omega) (by omega)).mpr z2⟩⟩
        · intro ⟨z, z1, z2, z3⟩
          by_cases e : z = i'
          · rw [e] at z3
            obtain ⟨w, w1, w3, w4⟩ := (gB_step (by omega) hi5).mp z3
            exact ⟨w, by omega, by rw [Nat.testBit_or, (gCt_names (i.ri hi5) (by omega) (by omega)).mp w4, Bool.or_true], w3⟩
          · exact ⟨z, by omega, by rw [Nat.testBit_or, z2]; rfl, z3⟩
      · rw [bI_f hbit]
        refine r_iconst (v := 1) (dk kX6_restsOn 16 rfl) (by decide) ?_
        refine r_icmp_ne (tgt := 36) (dk kX6_restsOn 17 rfl) (by decide) (fun c24 => ?_) (fun c24 => absurd (by decide) c24)
        refine r_iinc (dk kX6_restsOn 24 rfl) (by decide) rfl rfl rfl ?_
        simp only [List.set_cons_succ, List.set_cons_zero]
        refine r_goto (tgt := 11) (dk kX6_restsOn 25 rfl) (by decide) ?_
        -- at 11
        rw [show nI i' + Int32.ofInt (-1) = nI (i' - 1) from (by rw [show Int32.ofInt (-1) = -1 by decide]; obtain ⟨w, rfl⟩ : ∃ w, i' = w + 1 := ⟨i' - 1, by omega⟩; exact pk_m1 w)]
        refine ih (i' - 1) (by omega) (by omega) _ hm ?_
        rw [← hb]
        constructor
        · intro ⟨z, z1, z2, z3⟩
          exact ⟨z, by omega, z2, z3⟩
        · intro ⟨z, z1, z2, z3⟩
          exact ⟨z, by have : z ≠ i' := (fun e => hbit (by rw [← e]; exact z2)); omega, z2, z3⟩
theorem gReach_ct {g : Nat → Int32} {r : Nat} (hr : r < gn g 5) (h17 : gn g 5 < 17) : ct (fun k => (gBs g r (gn g 5)).testBit k) 16 = gReach g r + 1 := by
  have e1 : ∀ n, n ≤ 16 → (∀ k, n ≤ k → k < 16 → (gBs g r (gn g 5)).testBit k = false) → ct (fun k => (gBs g r (gn g 5)).testBit k) 16 = ct (fun k => (gBs g r (gn g 5)).testBit k) n := by
    intro n hn h
    have : ∀ d, n + d ≤ 16 → ct (fun k => (gBs g r (gn g 5)).testBit k) (n + d) = ct (fun k => (gBs g r (gn g 5)).testBit k) n := by
      intro d
      induction d with
      | zero => intro _; rfl
      | succ d ih =>
        intro hd
        show ct (fun k => (gBs g r (gn g 5)).testBit k) (n + d) + (if (gBs g r (gn g 5)).testBit (n + d) = true then 1 else 0) = _
        rw [ih (by omega), h (n + d) (by omega) (by omega)]
        rfl
    have h2 := this (16 - n) (by omega)
    rw [show n + (16 - n) = 16 by omega] at h2
    exact h2
  rw [e1 (gn g 5) (by omega) (fun k hk _ => Nat.testBit_lt_two_pow (Nat.lt_of_lt_of_le (gBs_lt g r (gn g 5)) (Nat.pow_le_pow_right (by decide) hk)))]
  unfold gReach
  have e2 : ∀ n, (r < n → n ≤ gn g 5 → ct (fun k => (gBs g r (gn g 5)).testBit k) n = ct (fun k => gBased g r k) n + 1) ∧ (n ≤ r → ct (fun k => (gBs g r (gn g 5)).testBit k) n = ct (fun k => gBased g r k) n) := by
    intro n
    induction n with
    | zero => exact ⟨fun h => absurd h (Nat.not_lt_zero r), fun _ => rfl⟩
    | succ n ih =>
      have st : ct (fun k => (gBs g r (gn g 5)).testBit k) (n + 1) = ct (fun k => (gBs g r (gn g 5)).testBit k) n + (if (gBs g r (gn g 5)).testBit n = true then 1 else 0) := rfl
      have st2 : ct (fun k => gBased g r k) (n + 1) = ct (fun k => gBased g r k) n + (if gBased g r n = true then 1 else 0) := rfl
      refine ⟨fun h1 h2 => ?_, fun h1 => ?_⟩
      · by_cases e : n = r
        · have hs : (gBs g r (gn g 5)).testBit n = true := by rw [e]; exact gB_self hr
          have hb : gBased g r n = false := by
            unfold gBased
            rw [decide_eq_false (fun z => z e), Bool.false_and]
          rw [st, st2, ih.2 (by omega), hs, hb]
          rfl
        · have hb : gBased g r n = (gBs g r (gn g 5)).testBit n := by
            unfold gBased
            rw [decide_eq_true e, Bool.true_and]
          rw [st, st2, ih.1 (by omega) (by omega), hb]
          omega
      · have hb : gBased g r n = (gBs g r (gn g 5)).testBit n := by
          unfold gBased
          rw [decide_eq_true (show n ≠ r by omega), Bool.true_and]
        rw [st, st2, ih.2 (by omega), hb]
  exact (e2 (gn g 5)).1 hr (Nat.le_refl _)
theorem k_X6_countMarked (o : SO M s) (v : SV M s g q) (i : GI F g) {r : Nat} (hr : r < gn g 5) : KP G IX6_countMarked [.ref s, .int (nI r)] M (nI (gReach g r)) := by
  refine KK.ofW (by decide) (by simp [Value.category]) (Nat.le_of_ble_eq_true rfl) rfl ?_
  show WW _ _ _ 0 [_, _, lj, lj] [] _ _ _
  have hr9 := i.r.2
  refine r_iconst (v := 1) (dk kX6_countMarked 0 rfl) (by decide) ?_
  refine r_iload_n (dk kX6_countMarked 1 rfl) rfl ?_
  refine r_ishl (dk kX6_countMarked 2 rfl) ?_
  -- at 3
  rw [nI_sh1 r (by omega)]
  refine r_istore_n (j := 2) (dk kX6_countMarked 3 rfl) rfl (by decide) rfl ?_
  simp only [List.set_cons_succ, List.set_cons_zero]
  refine r_iload_n (dk kX6_countMarked 4 rfl) rfl ?_
  refine r_iconst (v := 1) (dk kX6_countMarked 5 rfl) (by decide) ?_
  refine r_iadd (dk kX6_countMarked 6 rfl) ?_
  -- at 7
  rw [nI_1, ← gBs_self g r]
  refine r_istore_n (j := 3) (dk kX6_countMarked 7 rfl) rfl (by decide) rfl ?_
  simp only [List.set_cons_succ, List.set_cons_zero]
  -- at 8
  have lt : ∀ n, n ≤ 16 → gBs g r n < 2 ^ 16 := fun n hn => Nat.lt_of_lt_of_le (gBs_lt g r n) (Nat.pow_le_pow_right (by decide) hn)
  suffices key : ∀ d j, j + d = gn g 5 → r < j → WW G IX6_countMarked (qi (fun y M' => y = nI (gReach g r) ∧ M' = M) nox) 8 [.ref s, .int (nI r), .int (nI (gBs g r j)), .int (nI j)] [] M 0 0 from key (gn g 5 - (r + 1)) (r + 1) (by omega) (by omega)
  intro d
  induction d with
  | zero =>
    intro j hj hrj
    have hj : j = gn g 5 := hj
    subst hj
    refine r_iload_n (dk kX6_countMarked 8 rfl) rfl ?_
    first | refine r_aload_n (dk kX6_countMarked 9 rfl) rfl ?_ | refine r_aload_nN (dk kX6_countMarked 9 rfl) rfl ?_
    refine r_geti (dk kX6_countMarked 10 rfl) fa_X6_52_5 o.k rfl ?_
    -- at 13
    rw [v.c5 i]
    refine r_icmp_ge (tgt := 38) (dk kX6_countMarked 11 rfl) (by decide) (fun c13 => ?_) (fun c13 => absurd (nI_le (by omega) (by omega)) c13)
    refine r_iload_n (dk kX6_countMarked 26 rfl) rfl ?_
    refine r_callSp (I' := IJ6_bitCount_0f7a4) (as := [_]) (dk kX6_countMarked 27 rfl) ms_J6_bitCount_0f7a4 ml_X6_164 rfl rfl rfl (Nat.le_of_ble_eq_true rfl) ⟨by decide, by decide⟩ ⟨rfl, rfl⟩ ⟨Nat.le_of_ble_eq_true rfl, Nat.le_of_ble_eq_true rfl⟩ (k_J6_bitCount _) ?_
    -- at 42
    rw [bc_16 (lt _ (by omega)), gReach_ct hr (by omega)]
    refine r_iconst (v := 1) (dk kX6_countMarked 28 rfl) (by decide) ?_
    refine r_isub (dk kX6_countMarked 29 rfl) ?_
    refine r_ireturn (dk kX6_countMarked 30 rfl) rfl rfl ⟨Nat.le_of_ble_eq_true rfl, Nat.le_of_ble_eq_true rfl⟩ ⟨nI_pred _, rfl⟩
  | succ d ih =>
    intro j hj hrj
    refine r_iload_n (dk kX6_countMarked 8 rfl) rfl ?_
    first | refine r_aload_n (dk kX6_countMarked 9 rfl) rfl ?_ | refine r_aload_nN (dk kX6_countMarked 9 rfl) rfl ?_
    refine r_geti (dk kX6_countMarked 10 rfl) fa_X6_52_5 o.k rfl ?_
    -- at 13
    rw [v.c5 i]
    refine r_icmp_ge (tgt := 38) (dk kX6_countMarked 11 rfl) (by decide) (fun c13 => absurd c13 (nI_ge (by omega) (by omega))) (fun c13 => ?_)
    first | refine r_aload_n (dk kX6_countMarked 12 rfl) rfl ?_ | refine r_aload_nN (dk kX6_countMarked 12 rfl) rfl ?_
    refine r_iload_n (dk kX6_countMarked 13 rfl) rfl ?_
    refine r_callVp (I' := IX6_citedSet) (as := [_]) (dk kX6_countMarked 14 rfl) mv_X6_citedSet ml_X6_161 rfl rfl o.k rfl rfl (Nat.le_of_ble_eq_true rfl) ⟨by decide, by decide⟩ ⟨rfl, rfl⟩ ⟨Nat.le_of_ble_eq_true rfl, Nat.le_of_ble_eq_true rfl⟩ (k_X6_citedSet o v i (by omega)) ?_
    refine r_iload_n (dk kX6_countMarked 15 rfl) rfl ?_
    refine r_iand (dk kX6_countMarked 16 rfl) ?_
    -- at 23
    rw [nI_and]
    have st := gBs_step g hrj
    have ex := gBs_ex g r j
    have hlt := lt j (by omega)
    by_cases hx : (fx (fun o => (gBs g r j).testBit o && gNames g j (nI o)) j).isSome = true
    · rw [if_pos hx] at st
      obtain ⟨z, z1, z2, z3⟩ := ex.mp hx
      have hne : gCt g j &&& gBs g r j ≠ 0 := by
        intro e
        have h1 : (gCt g j &&& gBs g r j).testBit z = true := by
          rw [Nat.testBit_and, z2, (gCt_names (i.ri (by omega)) (by omega) (by omega)).mp z3]
          rfl
        rw [e, Nat.zero_testBit] at h1
        cases h1
      have hl : gCt g j &&& gBs g r j < 2 ^ 31 := Nat.lt_of_le_of_lt Nat.and_le_right (by omega)
      refine r_if_eq (tgt := 32) (dk kX6_countMarked 17 rfl) (by decide) (fun c23 => absurd c23 (fun z => hne (nI_inj (b := 0) hl (by decide) z))) (fun c23 => ?_)
      refine r_iload_n (dk kX6_countMarked 18 rfl) rfl ?_
      refine r_iconst (v := 1) (dk kX6_countMarked 19 rfl) (by decide) ?_
      refine r_iload_n (dk kX6_countMarked 20 rfl) rfl ?_
      refine r_ishl (dk kX6_countMarked 21 rfl) ?_
      -- at 30
      rw [nI_sh1 j (by omega)]
      refine r_ior (dk kX6_countMarked 22 rfl) ?_
      -- at 31
      rw [nI_or, ← st]
      refine r_istore_n (j := 2) (dk kX6_countMarked 23 rfl) rfl (by decide) rfl ?_
      simp only [List.set_cons_succ, List.set_cons_zero]
      refine r_iinc (dk kX6_countMarked 24 rfl) (by decide) rfl rfl rfl ?_
      simp only [List.set_cons_succ, List.set_cons_zero]
      refine r_goto (tgt := 8) (dk kX6_countMarked 25 rfl) (by decide) ?_
      -- at 8
      rw [show nI j + Int32.ofInt 1 = nI (j + 1) from nI_1 j]
      exact ih (j + 1) (by omega) (by omega)
    · rw [if_neg hx] at st
      have he : gCt g j &&& gBs g r j = 0 := by
        apply Nat.eq_of_testBit_eq
        intro z
        rw [Nat.zero_testBit, Nat.testBit_and]
        cases h1 : (gCt g j).testBit z with
        | false => rfl
        | true =>
          cases h2 : (gBs g r j).testBit z with
          | false => rfl
          | true =>
            have hz := gCt_lt (i.ri (show j < gn g 5 by omega)) h1
            exact absurd (ex.mpr ⟨z, hz, h2, (gCt_names (i.ri (by omega)) (by omega) (by omega)).mpr h1⟩) hx
      rw [he]
      refine r_if_eq (tgt := 32) (dk kX6_countMarked 17 rfl) (by decide) (fun c23 => ?_) (fun c23 => absurd rfl c23)
      refine r_iinc (dk kX6_countMarked 24 rfl) (by decide) rfl rfl rfl ?_
      simp only [List.set_cons_succ, List.set_cons_zero]
      refine r_goto (tgt := 8) (dk kX6_countMarked 25 rfl) (by decide) ?_
      -- at 8
      rw [← st, show nI j + Int32.ofInt 1 = nI (j + 1) from nI_1 j]
      exact ih (j + 1) (by omega) (by omega)
end CLASS
