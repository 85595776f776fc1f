/-! THE CLASS: a state at s, and what it holds; its questions -/
section ROWS3
variable {G : GG} {I : MI} {Q : QQ} {pc : Nat} {L st : List Value} {M : Mm} {k n : Nat}
/-- what answers the reference b and leaves the memory M1 -/
def KO (G : GG) (I : MI) (as : List Value) (M : Mm) (b : Nat) (M1 : Mm) : Prop := KK G I as M (qr (fun y M' => y = some b ∧ M' = M1) nox)
/-- what answers null -/
def KZ (G : GG) (I : MI) (as : List Value) (M : Mm) (M1 : Mm) : Prop := KK G I as M (qr (fun y M' => y = none ∧ M' = M1) nox)
theorem r_callVr {idx b ci z : Nat} {I' : MI} {as stk : List Value} {M1 : Mm} (hd : decode (mB I) pc = .ok (.invokevirtual idx, 3)) (hw : MVw (mY I') (mB I') (mL I') (mT I') as.length) (hl : Cond.methodLink (mY I).cls idx (mY I') ∈ lwG) (he : (mH I').isEmpty = true) (hh : (mH I).isEmpty = true) (hk : kd M b = ci + 1) (hc : (ac_cls[ci]?.map fun q => q.1) = some (mY I').cls) (hst : stk = as.reverse ++ .ref b :: st) (hcat : (st.map fun v => v.category).sum ≤ 8) (hR : (mR I').frames + 1 ≤ (mR I).frames ∧ 8 + (mL I' + 11) + (mR I').locals ≤ (mR I).locals) (hz : (mR I').cells = 0 ∧ (mR I').slots = 0) (hf : k ≤ (mR I).cells ∧ n ≤ (mR I).slots) (hK : KO G I' (.ref b :: as) M z M1) (h : WW G I Q (pc + 3) L (.ref z :: st) M1 k n) : WW G I Q pc L stk M k n :=
  r_callV hd hw hl he hh hk hc hst hcat hR (by rw [hz.1, hz.2]; exact hf) hK (fun _ _ h => h.elim) (fun v M' ⟨y, h1, h2, h3⟩ => by subst h1; subst h2; subst h3; rw [hz.1, hz.2]; exact h)
theorem r_callVz {idx b ci : Nat} {I' : MI} {as stk : List Value} {M1 : Mm} (hd : decode (mB I) pc = .ok (.invokevirtual idx, 3)) (hw : MVw (mY I') (mB I') (mL I') (mT I') as.length) (hl : Cond.methodLink (mY I).cls idx (mY I') ∈ lwG) (he : (mH I').isEmpty = true) (hh : (mH I).isEmpty = true) (hk : kd M b = ci + 1) (hc : (ac_cls[ci]?.map fun q => q.1) = some (mY I').cls) (hst : stk = as.reverse ++ .ref b :: st) (hcat : (st.map fun v => v.category).sum ≤ 8) (hR : (mR I').frames + 1 ≤ (mR I).frames ∧ 8 + (mL I' + 11) + (mR I').locals ≤ (mR I).locals) (hz : (mR I').cells = 0 ∧ (mR I').slots = 0) (hf : k ≤ (mR I).cells ∧ n ≤ (mR I).slots) (hK : KZ G I' (.ref b :: as) M M1) (h : WW G I Q (pc + 3) L (.null :: st) M1 k n) : WW G I Q pc L stk M k n :=
  r_callV hd hw hl he hh hk hc hst hcat hR (by rw [hz.1, hz.2]; exact hf) hK (fun _ _ h => h.elim) (fun v M' ⟨y, h1, h2, h3⟩ => by subst h1; subst h2; subst h3; rw [hz.1, hz.2]; exact h)
end ROWS3
/-- the petition at position j of the state s -/
def pA (M : Mm) (s j : Nat) : Nat := (mr M (s + 4) j).getD 0
/-- a state at s: its rows s+1 .. s+5, petitions from s+6 on, rulings from s+14 on; the petitions stand in any order -/
def SO (M : Mm) (s : Nat) : Prop := (kd M s = 6 ∧ kd M (s + 1) = 20 ∧ kd M (s + 2) = 20 ∧ kd M (s + 3) = 20 ∧ kd M (s + 4) = 31 ∧ kd M (s + 5) = 32) ∧ (ln M (s + 1) = 10 ∧ ln M (s + 2) = 10 ∧ ln M (s + 3) = 6 ∧ ln M (s + 4) = 8 ∧ ln M (s + 5) = 16) ∧ (mr M s 0 = some (s + 1) ∧ mr M s 1 = some (s + 2) ∧ mr M s 2 = some (s + 3) ∧ mr M s 3 = some (s + 4) ∧ mr M s 4 = some (s + 5)) ∧ (∀ a, s + 6 ≤ a → a < s + 14 → kd M a = 4) ∧ (∀ j, j < 16 → kd M (s + 14 + j) = 5 ∧ mr M (s + 5) j = some (s + 14 + j)) ∧ (∀ j, j < 8 → mr M (s + 4) j = some (pA M s j) ∧ s + 6 ≤ pA M s j ∧ pA M s j < s + 14) ∧ ∀ i j, i < j → j < 8 → pA M s i ≠ pA M s j
section SO
variable {M : Mm} {s : Nat}
theorem SO.k (o : SO M s) : kd M s = 6 := o.1.1
theorem SO.k1 (o : SO M s) : kd M (s + 1) = 20 := o.1.2.1
theorem SO.k2 (o : SO M s) : kd M (s + 2) = 20 := o.1.2.2.1
theorem SO.k3 (o : SO M s) : kd M (s + 3) = 20 := o.1.2.2.2.1
theorem SO.k4 (o : SO M s) : kd M (s + 4) = 30 + 1 := o.1.2.2.2.2.1
theorem SO.k5 (o : SO M s) : kd M (s + 5) = 30 + 2 := o.1.2.2.2.2.2
theorem SO.l1 (o : SO M s) : ln M (s + 1) = 10 := o.2.1.1
theorem SO.l2 (o : SO M s) : ln M (s + 2) = 10 := o.2.1.2.1
theorem SO.l3 (o : SO M s) : ln M (s + 3) = 6 := o.2.1.2.2.1
theorem SO.l4 (o : SO M s) : ln M (s + 4) = 8 := o.2.1.2.2.2.1
theorem SO.l5 (o : SO M s) : ln M (s + 5) = 16 := o.2.1.2.2.2.2
theorem SO.r0 (o : SO M s) : mr M s 0 = some (s + 1) := o.2.2.1.1
theorem SO.r1 (o : SO M s) : mr M s 1 = some (s + 2) := o.2.2.1.2.1
theorem SO.r2 (o : SO M s) : mr M s 2 = some (s + 3) := o.2.2.1.2.2.1
theorem SO.r3 (o : SO M s) : mr M s 3 = some (s + 4) := o.2.2.1.2.2.2.1
theorem SO.r4 (o : SO M s) : mr M s 4 = some (s + 5) := o.2.2.1.2.2.2.2
theorem SO.kp (o : SO M s) {a : Nat} (h1 : s + 6 ≤ a) (h2 : a < s + 14) : kd M a = 4 := o.2.2.2.1 a h1 h2
theorem SO.kr (o : SO M s) {j : Nat} (h : j < 16) : kd M (s + 14 + j) = 5 := (o.2.2.2.2.1 j h).1
theorem SO.rr (o : SO M s) {j : Nat} (h : j < 16) : mr M (s + 5) j = some (s + 14 + j) := (o.2.2.2.2.1 j h).2
theorem SO.rp (o : SO M s) {j : Nat} (h : j < 8) : mr M (s + 4) j = some (pA M s j) := (o.2.2.2.2.2.1 j h).1
theorem SO.pb (o : SO M s) {j : Nat} (h : j < 8) : s + 6 ≤ pA M s j ∧ pA M s j < s + 14 := (o.2.2.2.2.2.1 j h).2
theorem SO.ka (o : SO M s) {j : Nat} (h : j < 8) : kd M (pA M s j) = 4 := o.kp (o.pb h).1 (o.pb h).2
theorem SO.ne (o : SO M s) {i j : Nat} (h : i ≠ j) (hi : i < 8) (hj : j < 8) : pA M s i ≠ pA M s j := by
  rcases Nat.lt_or_gt_of_ne h with q | q
  · exact o.2.2.2.2.2.2 i j q hj
  · exact (o.2.2.2.2.2.2 j i q hi).symm
theorem SO.to {M' : Mm} (o : SO M s) (h1 : kd M' = kd M) (h2 : ln M' = ln M) (h3 : mr M' s = mr M s) (h4 : mr M' (s + 4) = mr M (s + 4)) (h5 : mr M' (s + 5) = mr M (s + 5)) : SO M' s := by
  unfold SO pA at *
  rw [h1, h2, h3, h4, h5]
  exact o
theorem SO.tr {M' : Mm} (o : SO M s) (h1 : kd M' = kd M) (h2 : ln M' = ln M) (h3 : mr M' = mr M) : SO M' s := o.to h1 h2 (by rw [h3]) (by rw [h3]) (by rw [h3])
end SO
/-- the ints of a petition: that at place k -/
def PF (f g : Nat → Int32) (k : Nat) : Prop := f 4 = g (35 + 11 * k) ∧ f 5 = g (35 + 11 * k + 1) ∧ f 6 = g (29 + gn g (35 + 11 * k + 1)) ∧ f 7 = g (35 + 11 * k + 2) ∧ f 8 = g (35 + 11 * k + 3) ∧ f 9 = g (35 + 11 * k + 4) ∧ f 10 = g (35 + 11 * k + 5) ∧ f 11 = g (35 + 11 * k + 6) ∧ f 0 = g (35 + 11 * k + 7) ∧ ∀ c, c < gn g (35 + 11 * k + 7) → f (1 + c) = g (35 + 11 * k + 8 + c)
/-- the ints of a ruling: that with number r -/
def RF (f g : Nat → Int32) (r : Nat) : Prop := f 4 = g (123 + 6 * r) ∧ f 5 = g (123 + 6 * r + 1) ∧ f 6 = nI (gDepth g r) ∧ f 0 = g (123 + 6 * r + 2) ∧ ∀ c, c < gn g (123 + 6 * r + 2) → f (1 + c) = g (123 + 6 * r + 3 + c)
/-- the state at s holds g; q j: the place of the petition at position j -/
def SV (M : Mm) (s : Nat) (g : Nat → Int32) (q : Nat → Nat) : Prop := (mi M s 5 = g 0 ∧ mi M s 6 = g 1 ∧ mi M s 7 = g 3 ∧ mi M s 8 = g 5 ∧ mi M s 9 = g 2 ∧ mi M s 10 = g 4 ∧ mi M s 11 = g 6 ∧ mi M s 12 = g 7 ∧ mi M s 13 = g 8) ∧ (∀ k, k < gn g 0 → mi M (s + 1) k = g (9 + 2 * k) ∧ mi M (s + 2) k = g (9 + 2 * k + 1)) ∧ (∀ k, k < gn g 1 → mi M (s + 3) k = g (29 + k)) ∧ QO g q ∧ (∀ j, j < gn g 3 → PF (mi M (pA M s j)) g (q j)) ∧ ∀ r, r < gn g 5 → RF (mi M (s + 14 + r)) g r
section SV
variable {M : Mm} {s F : Nat} {g : Nat → Int32} {q : Nat → Nat}
theorem SV.c0 (v : SV M s g q) (i : GI F g) : mi M s 5 = nI (gn g 0) := v.1.1.trans i.s.1
theorem SV.c1 (v : SV M s g q) (i : GI F g) : mi M s 6 = nI (gn g 1) := v.1.2.1.trans i.o.1
theorem SV.c3 (v : SV M s g q) (i : GI F g) : mi M s 7 = nI (gn g 3) := v.1.2.2.1.trans i.p.1
theorem SV.c5 (v : SV M s g q) (i : GI F g) : mi M s 8 = nI (gn g 5) := v.1.2.2.2.1.trans i.r.1
theorem SV.c2 (v : SV M s g q) (i : GI F g) : mi M s 9 = nI (gn g 2) := v.1.2.2.2.2.1.trans i.q.1
theorem SV.c4 (v : SV M s g q) (i : GI F g) : mi M s 10 = nI (gn g 4) := v.1.2.2.2.2.2.1.trans i.f.1
theorem SV.c6 (v : SV M s g q) : mi M s 11 = g 6 := v.1.2.2.2.2.2.2.1
theorem SV.c7 (v : SV M s g q) : mi M s 12 = g 7 := v.1.2.2.2.2.2.2.2.1
theorem SV.c8 (v : SV M s g q) : mi M s 13 = g 8 := v.1.2.2.2.2.2.2.2.2
theorem SV.cell (v : SV M s g q) {k : Nat} (h : k < gn g 0) : mi M (s + 1) k = g (9 + 2 * k) := (v.2.1 k h).1
theorem SV.weight (v : SV M s g q) {k : Nat} (h : k < gn g 0) : mi M (s + 2) k = g (9 + 2 * k + 1) := (v.2.1 k h).2
theorem SV.rank (v : SV M s g q) {k : Nat} (h : k < gn g 1) : mi M (s + 3) k = g (29 + k) := v.2.2.1 k h
theorem SV.o (v : SV M s g q) : QO g q := v.2.2.2.1
theorem SV.p (v : SV M s g q) {j : Nat} (h : j < gn g 3) : PF (mi M (pA M s j)) g (q j) := v.2.2.2.2.1 j h
theorem SV.r (v : SV M s g q) {r : Nat} (h : r < gn g 5) : RF (mi M (s + 14 + r)) g r := v.2.2.2.2.2 r h
/-- it depends on what lies from s on alone, the spare rulings apart -/
theorem SV.to {M' : Mm} (v : SV M s g q) (o : SO M s) (i : GI F g) (h : ∀ c, s ≤ c → c < s + 14 + gn g 5 → mi M' c = mi M c) (h4 : mr M' (s + 4) = mr M (s + 4)) : SV M' s g q := by
  have p8 := i.p.2
  have r17 := i.r.2
  obtain ⟨v1, v2, v3, v4, v5, v6⟩ := v
  have hp : ∀ j, pA M' s j = pA M s j := fun j => by unfold pA; rw [h4]
  refine ⟨by rw [h s (by omega) (by omega)]; exact v1, fun k hk => by rw [h (s + 1) (by omega) (by omega), h (s + 2) (by omega) (by omega)]; exact v2 k hk, fun k hk => by rw [h (s + 3) (by omega) (by omega)]; exact v3 k hk, v4, fun j hj => ?_, fun r hr => ?_⟩
  · have hb := o.pb (j := j) (by omega)
    rw [hp, h (pA M s j) (by omega) (by omega)]
    exact v5 j hj
  · rw [h (s + 14 + r) (by omega) (by omega)]
    exact v6 r hr
theorem SO.fr {M' : Mm} {a b : Nat} (o : SO M s) (r : FR M a b M') (h : s + 29 < a ∨ b < s) : SO M' s := o.to r.k r.l (r.r (by omega)) (r.r (by omega)) (r.r (by omega))
theorem SV.fr {M' : Mm} {a b : Nat} (v : SV M s g q) (o : SO M s) (i : GI F g) (r : FR M a b M') (h : s + 29 < a ∨ b < s) : SV M' s g q := v.to o i (fun c h1 h2 => r.i (by have := i.r.2; omega)) (r.r (by omega))
end SV
section CLASS
variable {G : GG} {M : Mm} {s F : Nat} {g : Nat → Int32} {q : Nat → Nat}
theorem k_X6_findStoneIn (o : SO M s) (v : SV M s g q) (i : GI F g) (x : Int32) : KP G IX6_findStoneIn [.ref s, .int x] M (oI (gWithin g x)) := by
  refine KK.ofW (by decide) (by simp [Value.category]) (Nat.le_of_ble_eq_true rfl) rfl ?_
  show WW _ _ _ 0 [_, _, lj] [] _ _ _
  have h11 := i.s.2
  refine r_iconst (v := 0) (dk kX6_findStoneIn 0 rfl) (by decide) ?_
  refine r_istore_n (j := 2) (dk kX6_findStoneIn 1 rfl) rfl (by decide) rfl ?_
  simp only [List.set_cons_succ, List.set_cons_zero]
  -- at 2
  suffices key : ∀ d j, j + d = gn g 0 → (∀ z, z < j → decide (g (9 + 2 * z) = x) = false) → WW G IX6_findStoneIn (qi (fun y M' => y = oI (gWithin g x) ∧ M' = M) nox) 2 [.ref s, .int x, .int (nI j)] [] M 0 0 from key _ 0 (Nat.zero_add _) (fun z hz => absurd hz (Nat.not_lt_zero z))
  intro d
  induction d with
  | zero =>
    intro j hj hn
    refine r_iload_n (dk kX6_findStoneIn 2 rfl) rfl ?_
    first | refine r_aload_n (dk kX6_findStoneIn 3 rfl) rfl ?_ | refine r_aload_nN (dk kX6_findStoneIn 3 rfl) rfl ?_
    refine r_geti (dk kX6_findStoneIn 4 rfl) fa_X6_58_5 o.k rfl ?_
    -- at 7
    rw [v.c0 i]
    refine r_icmp_ge (tgt := 28) (dk kX6_findStoneIn 5 rfl) (by decide) (fun c7 => ?_) (fun c7 => absurd (nI_le (by omega) (by omega)) c7)
    refine r_iconst (v := (-1)) (dk kX6_findStoneIn 16 rfl) (by decide) ?_
    refine r_ireturn (dk kX6_findStoneIn 17 rfl) rfl rfl ⟨Nat.le_of_ble_eq_true rfl, Nat.le_of_ble_eq_true rfl⟩ ⟨by rw [show gWithin g x = none from fx_none.mpr (by rw [← hj]; exact hn)]; rfl, rfl⟩
  | succ d ih =>
    intro j hj hn
    refine r_iload_n (dk kX6_findStoneIn 2 rfl) rfl ?_
    first | refine r_aload_n (dk kX6_findStoneIn 3 rfl) rfl ?_ | refine r_aload_nN (dk kX6_findStoneIn 3 rfl) rfl ?_
    refine r_geti (dk kX6_findStoneIn 4 rfl) fa_X6_58_5 o.k rfl ?_
    -- at 7
    rw [v.c0 i]
    refine r_icmp_ge (tgt := 28) (dk kX6_findStoneIn 5 rfl) (by decide) (fun c7 => absurd c7 (nI_ge (by omega) (by omega))) (fun c7 => ?_)
    first | refine r_aload_n (dk kX6_findStoneIn 6 rfl) rfl ?_ | refine r_aload_nN (dk kX6_findStoneIn 6 rfl) rfl ?_
    refine r_getR (dk kX6_findStoneIn 7 rfl) fa_X6_9_5 o.k rfl o.r0 ?_
    refine r_iload_n (dk kX6_findStoneIn 8 rfl) rfl ?_
    refine r_ial (dk kX6_findStoneIn 9 rfl) o.k1 o.l1 (j := j) rfl (by omega) (by decide) ?_
    -- at 16
    rw [v.cell (by omega)]
    by_cases hc : g (9 + 2 * j) = x
    · refine r_iload_n (dk kX6_findStoneIn 10 rfl) rfl ?_
      refine r_icmp_ne (tgt := 22) (dk kX6_findStoneIn 11 rfl) (by decide) (fun c17 => absurd c17 (fun z => z hc)) (fun c17 => ?_)
      refine r_iload_n (dk kX6_findStoneIn 12 rfl) rfl ?_
      refine r_ireturn (dk kX6_findStoneIn 13 rfl) rfl rfl ⟨Nat.le_of_ble_eq_true rfl, Nat.le_of_ble_eq_true rfl⟩ ⟨by rw [show gWithin g x = some j from fx_some.mpr ⟨by omega, decide_eq_true hc, hn⟩]; rfl, rfl⟩
    · refine r_iload_n (dk kX6_findStoneIn 10 rfl) rfl ?_
      refine r_icmp_ne (tgt := 22) (dk kX6_findStoneIn 11 rfl) (by decide) (fun c17 => ?_) (fun c17 => absurd hc c17)
      refine r_iinc (dk kX6_findStoneIn 14 rfl) (by decide) rfl rfl rfl ?_
      simp only [List.set_cons_succ, List.set_cons_zero]
      refine r_goto (tgt := 2) (dk kX6_findStoneIn 15 rfl) (by decide) ?_
      -- at 2
      rw [show nI j + Int32.ofInt 1 = nI (j + 1) from nI_1 j]
      exact ih (j + 1) (by omega) (fun z hz => by
        rcases Nat.lt_succ_iff_lt_or_eq.mp hz with w | w
        · exact hn z w
        · rw [w]; exact decide_eq_false hc)
theorem k_X6_findPetitionZ (o : SO M s) (v : SV M s g q) (i : GI F g) {x : Int32} (h : gPlace g x = none) : KZ G IX6_findPetition [.ref s, .int x] M M := by
  refine KK.ofW (by decide) (by simp [Value.category]) (Nat.le_of_ble_eq_true rfl) rfl ?_
  show WW _ _ _ 0 [_, _, lj] [] _ _ _
  have h9 := i.p.2
  refine r_iconst (v := 0) (dk kX6_findPetition 0 rfl) (by decide) ?_
  refine r_istore_n (j := 2) (dk kX6_findPetition 1 rfl) rfl (by decide) rfl ?_
  simp only [List.set_cons_succ, List.set_cons_zero]
  -- at 2
  suffices key : ∀ d j, j + d = gn g 3 → WW G IX6_findPetition (qr (fun y M' => y = none ∧ M' = M) nox) 2 [.ref s, .int x, .int (nI j)] [] M 0 0 from key _ 0 (Nat.zero_add _)
  intro d
  induction d with
  | zero =>
    intro j hj
    refine r_iload_n (dk kX6_findPetition 2 rfl) rfl ?_
    first | refine r_aload_n (dk kX6_findPetition 3 rfl) rfl ?_ | refine r_aload_nN (dk kX6_findPetition 3 rfl) rfl ?_
    refine r_geti (dk kX6_findPetition 4 rfl) fa_X6_45_5 o.k rfl ?_
    -- at 7
    rw [v.c3 i]
    refine r_icmp_ge (tgt := 36) (dk kX6_findPetition 5 rfl) (by decide) (fun c7 => ?_) (fun c7 => absurd (nI_le (by omega) (by omega)) c7)
    refine r_null (dk kX6_findPetition 20 rfl) ?_
    -- at 37
    exact r_areturn (r := none) (dk kX6_findPetition 21 rfl) rfl (Or.inl ⟨_, rfl⟩) rfl ⟨Nat.le_of_ble_eq_true rfl, Nat.le_of_ble_eq_true rfl⟩ ⟨rfl, rfl⟩
  | succ d ih =>
    intro j hj
    refine r_iload_n (dk kX6_findPetition 2 rfl) rfl ?_
    first | refine r_aload_n (dk kX6_findPetition 3 rfl) rfl ?_ | refine r_aload_nN (dk kX6_findPetition 3 rfl) rfl ?_
    refine r_geti (dk kX6_findPetition 4 rfl) fa_X6_45_5 o.k rfl ?_
    -- at 7
    rw [v.c3 i]
    refine r_icmp_ge (tgt := 36) (dk kX6_findPetition 5 rfl) (by decide) (fun c7 => absurd c7 (nI_ge (by omega) (by omega))) (fun c7 => ?_)
    first | refine r_aload_n (dk kX6_findPetition 6 rfl) rfl ?_ | refine r_aload_nN (dk kX6_findPetition 6 rfl) rfl ?_
    refine r_getR (dk kX6_findPetition 7 rfl) fa_X6_23_5 o.k rfl o.r3 ?_
    refine r_iload_n (dk kX6_findPetition 8 rfl) rfl ?_
    refine r_aal (dk kX6_findPetition 9 rfl) o.k4 (by decide) o.l4 rfl (show j < 8 by omega) (by decide) (o.rp (by omega)) ?_
    refine r_geti (dk kX6_findPetition 10 rfl) fa_X6_76_3 (o.ka (j := j) (by omega)) rfl ?_
    -- at 19
    have hc : mi M (pA M s j) 4 ≠ x := by
      rw [(v.p (j := j) (by omega)).1]
      exact of_decide_eq_false (fx_none.mp h (q j) (v.o.1 j (by omega)))
    refine r_iload_n (dk kX6_findPetition 11 rfl) rfl ?_
    refine r_icmp_ne (tgt := 30) (dk kX6_findPetition 12 rfl) (by decide) (fun c20 => ?_) (fun c20 => absurd hc c20)
    refine r_iinc (dk kX6_findPetition 18 rfl) (by decide) rfl rfl rfl ?_
    simp only [List.set_cons_succ, List.set_cons_zero]
    refine r_goto (tgt := 2) (dk kX6_findPetition 19 rfl) (by decide) ?_
    -- at 2
    rw [show nI j + Int32.ofInt 1 = nI (j + 1) from nI_1 j]
    exact ih (j + 1) (by omega)
theorem k_X6_findPetition (o : SO M s) (v : SV M s g q) (i : GI F g) {x : Int32} {p : Nat} (hp : p < gn g 3) (h : gPlace g x = some (q p)) : KO G IX6_findPetition [.ref s, .int x] M (pA M s p) M := by
  refine KK.ofW (by decide) (by simp [Value.category]) (Nat.le_of_ble_eq_true rfl) rfl ?_
  show WW _ _ _ 0 [_, _, lj] [] _ _ _
  have h9 := i.p.2
  refine r_iconst (v := 0) (dk kX6_findPetition 0 rfl) (by decide) ?_
  refine r_istore_n (j := 2) (dk kX6_findPetition 1 rfl) rfl (by decide) rfl ?_
  simp only [List.set_cons_succ, List.set_cons_zero]
  -- at 2
  suffices key : ∀ d j, j + d = gn g 3 → (∀ z, z < j → g (35 + 11 * q z) ≠ x) → WW G IX6_findPetition (qr (fun y M' => y = some (pA M s p) ∧ M' = M) nox) 2 [.ref s, .int x, .int (nI j)] [] M 0 0 from key _ 0 (Nat.zero_add _) (fun z hz => absurd hz (Nat.not_lt_zero z))
  have hx := of_decide_eq_true (fx_at h)
  intro d
  induction d with
  | zero =>
    intro j hj hn
    exact absurd hx (hn p (by omega))
  | succ d ih =>
    intro j hj hn
    refine r_iload_n (dk kX6_findPetition 2 rfl) rfl ?_
    first | refine r_aload_n (dk kX6_findPetition 3 rfl) rfl ?_ | refine r_aload_nN (dk kX6_findPetition 3 rfl) rfl ?_
    refine r_geti (dk kX6_findPetition 4 rfl) fa_X6_45_5 o.k rfl ?_
    -- at 7
    rw [v.c3 i]
    refine r_icmp_ge (tgt := 36) (dk kX6_findPetition 5 rfl) (by decide) (fun c7 => absurd c7 (nI_ge (by omega) (by omega))) (fun c7 => ?_)
    first | refine r_aload_n (dk kX6_findPetition 6 rfl) rfl ?_ | refine r_aload_nN (dk kX6_findPetition 6 rfl) rfl ?_
    refine r_getR (dk kX6_findPetition 7 rfl) fa_X6_23_5 o.k rfl o.r3 ?_
    refine r_iload_n (dk kX6_findPetition 8 rfl) rfl ?_
    refine r_aal (dk kX6_findPetition 9 rfl) o.k4 (by decide) o.l4 rfl (show j < 8 by omega) (by decide) (o.rp (by omega)) ?_
    refine r_geti (dk kX6_findPetition 10 rfl) fa_X6_76_3 (o.ka (j := j) (by omega)) rfl ?_
    -- at 19
    rw [(v.p (j := j) (by omega)).1]
    by_cases hc : g (35 + 11 * q j) = x
    · have e1 := gPlace_at i (v.o.1 j (by omega))
      rw [hc, h] at e1
      have e2 : q p = q j := Option.some.inj e1
      have e3 : j = p := by
        rcases Nat.lt_trichotomy j p with w | w | w
        · exact absurd e2.symm (v.o.inj j p w hp)
        · exact w
        · exact absurd e2 (v.o.inj p j w (by omega))
      subst e3
      refine r_iload_n (dk kX6_findPetition 11 rfl) rfl ?_
      refine r_icmp_ne (tgt := 30) (dk kX6_findPetition 12 rfl) (by decide) (fun c20 => absurd c20 (fun z => z hc)) (fun c20 => ?_)
      first | refine r_aload_n (dk kX6_findPetition 13 rfl) rfl ?_ | refine r_aload_nN (dk kX6_findPetition 13 rfl) rfl ?_
      refine r_getR (dk kX6_findPetition 14 rfl) fa_X6_23_5 o.k rfl o.r3 ?_
      refine r_iload_n (dk kX6_findPetition 15 rfl) rfl ?_
      refine r_aal (dk kX6_findPetition 16 rfl) o.k4 (by decide) o.l4 rfl (show j < 8 by omega) (by decide) (o.rp (by omega)) ?_
      -- at 29
      exact r_areturn (r := some (pA M s j)) (dk kX6_findPetition 17 rfl) rfl (Or.inl ⟨_, rfl⟩) rfl ⟨Nat.le_of_ble_eq_true rfl, Nat.le_of_ble_eq_true rfl⟩ ⟨rfl, rfl⟩
    · refine r_iload_n (dk kX6_findPetition 11 rfl) rfl ?_
      refine r_icmp_ne (tgt := 30) (dk kX6_findPetition 12 rfl) (by decide) (fun c20 => ?_) (fun c20 => absurd hc c20)
      refine r_iinc (dk kX6_findPetition 18 rfl) (by decide) rfl rfl rfl ?_
      simp only [List.set_cons_succ, List.set_cons_zero]
      refine r_goto (tgt := 2) (dk kX6_findPetition 19 rfl) (by decide) ?_
      -- at 2
      rw [show nI j + Int32.ofInt 1 = nI (j + 1) from nI_1 j]
      exact ih (j + 1) (by omega) (fun z hz => by
        rcases Nat.lt_succ_iff_lt_or_eq.mp hz with w | w
        · exact hn z w
        · rw [w]; exact hc)
theorem k_X6_findPetitionForZ (o : SO M s) (v : SV M s g q) (i : GI F g) {x : Int32} (h : gAbout g x = none) : KZ G IX6_findPetitionFor [.ref s, .int x] M M := by
  refine KK.ofW (by decide) (by simp [Value.category]) (Nat.le_of_ble_eq_true rfl) rfl ?_
  show WW _ _ _ 0 [_, _, lj] [] _ _ _
  have h9 := i.p.2
  refine r_iconst (v := 0) (dk kX6_findPetitionFor 0 rfl) (by decide) ?_
  refine r_istore_n (j := 2) (dk kX6_findPetitionFor 1 rfl) rfl (by decide) rfl ?_
  simp only [List.set_cons_succ, List.set_cons_zero]
  -- at 2
  suffices key : ∀ d j, j + d = gn g 3 → WW G IX6_findPetitionFor (qr (fun y M' => y = none ∧ M' = M) nox) 2 [.ref s, .int x, .int (nI j)] [] M 0 0 from key _ 0 (Nat.zero_add _)
  intro d
  induction d with
  | zero =>
    intro j hj
    refine r_iload_n (dk kX6_findPetitionFor 2 rfl) rfl ?_
    first | refine r_aload_n (dk kX6_findPetitionFor 3 rfl) rfl ?_ | refine r_aload_nN (dk kX6_findPetitionFor 3 rfl) rfl ?_
    refine r_geti (dk kX6_findPetitionFor 4 rfl) fa_X6_45_5 o.k rfl ?_
    -- at 7
    rw [v.c3 i]
    refine r_icmp_ge (tgt := 36) (dk kX6_findPetitionFor 5 rfl) (by decide) (fun c7 => ?_) (fun c7 => absurd (nI_le (by omega) (by omega)) c7)
    refine r_null (dk kX6_findPetitionFor 20 rfl) ?_
    -- at 37
    exact r_areturn (r := none) (dk kX6_findPetitionFor 21 rfl) rfl (Or.inl ⟨_, rfl⟩) rfl ⟨Nat.le_of_ble_eq_true rfl, Nat.le_of_ble_eq_true rfl⟩ ⟨rfl, rfl⟩
  | succ d ih =>
    intro j hj
    refine r_iload_n (dk kX6_findPetitionFor 2 rfl) rfl ?_
    first | refine r_aload_n (dk kX6_findPetitionFor 3 rfl) rfl ?_ | refine r_aload_nN (dk kX6_findPetitionFor 3 rfl) rfl ?_
    refine r_geti (dk kX6_findPetitionFor 4 rfl) fa_X6_45_5 o.k rfl ?_
    -- at 7
    rw [v.c3 i]
    refine r_icmp_ge (tgt := 36) (dk kX6_findPetitionFor 5 rfl) (by decide) (fun c7 => absurd c7 (nI_ge (by omega) (by omega))) (fun c7 => ?_)
    first | refine r_aload_n (dk kX6_findPetitionFor 6 rfl) rfl ?_ | refine r_aload_nN (dk kX6_findPetitionFor 6 rfl) rfl ?_
    refine r_getR (dk kX6_findPetitionFor 7 rfl) fa_X6_23_5 o.k rfl o.r3 ?_
    refine r_iload_n (dk kX6_findPetitionFor 8 rfl) rfl ?_
    refine r_aal (dk kX6_findPetitionFor 9 rfl) o.k4 (by decide) o.l4 rfl (show j < 8 by omega) (by decide) (o.rp (by omega)) ?_
    refine r_geti (dk kX6_findPetitionFor 10 rfl) fa_X6_79_3 (o.ka (j := j) (by omega)) rfl ?_
    -- at 19
    have hc : mi M (pA M s j) 7 ≠ x := by
      rw [(v.p (j := j) (by omega)).2.2.2.1]
      exact of_decide_eq_false (fx_none.mp h (q j) (v.o.1 j (by omega)))
    refine r_iload_n (dk kX6_findPetitionFor 11 rfl) rfl ?_
    refine r_icmp_ne (tgt := 30) (dk kX6_findPetitionFor 12 rfl) (by decide) (fun c20 => ?_) (fun c20 => absurd hc c20)
    refine r_iinc (dk kX6_findPetitionFor 18 rfl) (by decide) rfl rfl rfl ?_
    simp only [List.set_cons_succ, List.set_cons_zero]
    refine r_goto (tgt := 2) (dk kX6_findPetitionFor 19 rfl) (by decide) ?_
    -- at 2
    rw [show nI j + Int32.ofInt 1 = nI (j + 1) from nI_1 j]
    exact ih (j + 1) (by omega)
theorem k_X6_findPetitionFor (o : SO M s) (v : SV M s g q) (i : GI F g) (u : GU g) {x : Int32} {p : Nat} (hp : p < gn g 3) (h : gAbout g x = some (q p)) : KO G IX6_findPetitionFor [.ref s, .int x] M (pA M s p) M := by
  refine KK.ofW (by decide) (by simp [Value.category]) (Nat.le_of_ble_eq_true rfl) rfl ?_
  show WW _ _ _ 0 [_, _, lj] [] _ _ _
  have h9 := i.p.2
  refine r_iconst (v := 0) (dk kX6_findPetitionFor 0 rfl) (by decide) ?_
  refine r_istore_n (j := 2) (dk kX6_findPetitionFor 1 rfl) rfl (by decide) rfl ?_
  simp only [List.set_cons_succ, List.set_cons_zero]
  -- at 2
  suffices key : ∀ d j, j + d = gn g 3 → (∀ z, z < j → g (35 + 11 * q z + 2) ≠ x) → WW G IX6_findPetitionFor (qr (fun y M' => y = some (pA M s p) ∧ M' = M) nox) 2 [.ref s, .int x, .int (nI j)] [] M 0 0 from key _ 0 (Nat.zero_add _) (fun z hz => absurd hz (Nat.not_lt_zero z))
  have hx := of_decide_eq_true (fx_at h)
  intro d
  induction d with
  | zero =>
    intro j hj hn
    exact absurd hx (hn p (by omega))
  | succ d ih =>
    intro j hj hn
    refine r_iload_n (dk kX6_findPetitionFor 2 rfl) rfl ?_
    first | refine r_aload_n (dk kX6_findPetitionFor 3 rfl) rfl ?_ | refine r_aload_nN (dk kX6_findPetitionFor 3 rfl) rfl ?_
    refine r_geti (dk kX6_findPetitionFor 4 rfl) fa_X6_45_5 o.k rfl ?_
    -- at 7
    rw [v.c3 i]
    refine r_icmp_ge (tgt := 36) (dk kX6_findPetitionFor 5 rfl) (by decide) (fun c7 => absurd c7 (nI_ge (by omega) (by omega))) (fun c7 => ?_)
    first | refine r_aload_n (dk kX6_findPetitionFor 6 rfl) rfl ?_ | refine r_aload_nN (dk kX6_findPetitionFor 6 rfl) rfl ?_
    refine r_getR (dk kX6_findPetitionFor 7 rfl) fa_X6_23_5 o.k rfl o.r3 ?_
    refine r_iload_n (dk kX6_findPetitionFor 8 rfl) rfl ?_
    refine r_aal (dk kX6_findPetitionFor 9 rfl) o.k4 (by decide) o.l4 rfl (show j < 8 by omega) (by decide) (o.rp (by omega)) ?_
    refine r_geti (dk kX6_findPetitionFor 10 rfl) fa_X6_79_3 (o.ka (j := j) (by omega)) rfl ?_
    -- at 19
    rw [(v.p (j := j) (by omega)).2.2.2.1]
    by_cases hc : g (35 + 11 * q j + 2) = x
    · have e1 := gAbout_at u (v.o.1 j (by omega))
      rw [hc, h] at e1
      have e2 : q p = q j := Option.some.inj e1
      have e3 : j = p := by
        rcases Nat.lt_trichotomy j p with w | w | w
        · exact absurd e2.symm (v.o.inj j p w hp)
        · exact w
        · exact absurd e2 (v.o.inj p j w (by omega))
      subst e3
      refine r_iload_n (dk kX6_findPetitionFor 11 rfl) rfl ?_
      refine r_icmp_ne (tgt := 30) (dk kX6_findPetitionFor 12 rfl) (by decide) (fun c20 => absurd c20 (fun z => z hc)) (fun c20 => ?_)
      first | refine r_aload_n (dk kX6_findPetitionFor 13 rfl) rfl ?_ | refine r_aload_nN (dk kX6_findPetitionFor 13 rfl) rfl ?_
      refine r_getR (dk kX6_findPetitionFor 14 rfl) fa_X6_23_5 o.k rfl o.r3 ?_
      refine r_iload_n (dk kX6_findPetitionFor 15 rfl) rfl ?_
      refine r_aal (dk kX6_findPetitionFor 16 rfl) o.k4 (by decide) o.l4 rfl (show j < 8 by omega) (by decide) (o.rp (by omega)) ?_
      -- at 29
      exact r_areturn (r := some (pA M s j)) (dk kX6_findPetitionFor 17 rfl) rfl (Or.inl ⟨_, rfl⟩) rfl ⟨Nat.le_of_ble_eq_true rfl, Nat.le_of_ble_eq_true rfl⟩ ⟨rfl, rfl⟩
    · refine r_iload_n (dk kX6_findPetitionFor 11 rfl) rfl ?_
      refine r_icmp_ne (tgt := 30) (dk kX6_findPetitionFor 12 rfl) (by decide) (fun c20 => ?_) (fun c20 => absurd hc c20)
      refine r_iinc (dk kX6_findPetitionFor 18 rfl) (by decide) rfl rfl rfl ?_
      simp only [List.set_cons_succ, List.set_cons_zero]
      refine r_goto (tgt := 2) (dk kX6_findPetitionFor 19 rfl) (by decide) ?_
      -- at 2
      rw [show nI j + Int32.ofInt 1 = nI (j + 1) from nI_1 j]
      exact ih (j + 1) (by omega) (fun z hz => by
        rcases Nat.lt_succ_iff_lt_or_eq.mp hz with w | w
        · exact hn z w
        · rw [w]; exact hc)
theorem k_X6_findRulingZ (o : SO M s) (v : SV M s g q) (i : GI F g) {x : Int32} (h : ixo (gn g 5) x = none) : KZ G IX6_findRuling [.ref s, .int x] M M := by
  refine KK.ofW (by decide) (by simp [Value.category]) (Nat.le_of_ble_eq_true rfl) rfl ?_
  show WW _ _ _ 0 [_, _] [] _ _ _
  have h17 := i.r.2
  have hx : ¬ (0 ≤ x ∧ x ≤ nI (gn g 5) - 1) := by
    rcases ixo_c (n := gn g 5) (by omega) x with ⟨-, z⟩ | ⟨k, -, -, z, -⟩
    · exact z
    · rw [h] at z; cases z
  by_cases h0 : x < 0
  · refine r_iload_n (dk kX6_findRuling 0 rfl) rfl ?_
    refine r_if_lt (tgt := 12) (dk kX6_findRuling 1 rfl) (by decide) (fun c1 => ?_) (fun c1 => absurd h0 c1)
    refine r_null (dk kX6_findRuling 6 rfl) ?_
    -- at 13
    exact r_areturn (r := none) (dk kX6_findRuling 7 rfl) rfl (Or.inl ⟨_, rfl⟩) rfl ⟨Nat.le_of_ble_eq_true rfl, Nat.le_of_ble_eq_true rfl⟩ ⟨rfl, rfl⟩
  · have h1 : ¬ x < nI (gn g 5) := by
      intro z
      obtain ⟨k, hk, rfl⟩ := nI_of h0
      exact hx ((nI_lt0 (by omega)).mpr ⟨k, (nI_ltI hk (by omega)).mp z, rfl⟩)
    refine r_iload_n (dk kX6_findRuling 0 rfl) rfl ?_
    refine r_if_lt (tgt := 12) (dk kX6_findRuling 1 rfl) (by decide) (fun c1 => absurd c1 h0) (fun c1 => ?_)
    refine r_iload_n (dk kX6_findRuling 2 rfl) rfl ?_
    first | refine r_aload_n (dk kX6_findRuling 3 rfl) rfl ?_ | refine r_aload_nN (dk kX6_findRuling 3 rfl) rfl ?_
    refine r_geti (dk kX6_findRuling 4 rfl) fa_X6_52_5 o.k rfl ?_
    -- at 9
    rw [v.c5 i]
    refine r_icmp_lt (tgt := 14) (dk kX6_findRuling 5 rfl) (by decide) (fun c9 => absurd c9 h1) (fun c9 => ?_)
    refine r_null (dk kX6_findRuling 6 rfl) ?_
    -- at 13
    exact r_areturn (r := none) (dk kX6_findRuling 7 rfl) rfl (Or.inl ⟨_, rfl⟩) rfl ⟨Nat.le_of_ble_eq_true rfl, Nat.le_of_ble_eq_true rfl⟩ ⟨rfl, rfl⟩
theorem k_X6_findRuling (o : SO M s) (v : SV M s g q) (i : GI F g) {k : Nat} (hk : k < gn g 5) : KO G IX6_findRuling [.ref s, .int (nI k)] M (s + 14 + k) M := by
  refine KK.ofW (by decide) (by simp [Value.category]) (Nat.le_of_ble_eq_true rfl) rfl ?_
  show WW _ _ _ 0 [_, _] [] _ _ _
  have h17 := i.r.2
  refine r_iload_n (dk kX6_findRuling 0 rfl) rfl ?_
  refine r_if_lt (tgt := 12) (dk kX6_findRuling 1 rfl) (by decide) (fun c1 => absurd c1 (nI_pos (by omega))) (fun c1 => ?_)
  refine r_iload_n (dk kX6_findRuling 2 rfl) rfl ?_
  first | refine r_aload_n (dk kX6_findRuling 3 rfl) rfl ?_ | refine r_aload_nN (dk kX6_findRuling 3 rfl) rfl ?_
  refine r_geti (dk kX6_findRuling 4 rfl) fa_X6_52_5 o.k rfl ?_
  -- at 9
  rw [v.c5 i]
  refine r_icmp_lt (tgt := 14) (dk kX6_findRuling 5 rfl) (by decide) (fun c9 => ?_) (fun c9 => absurd (nI_lt hk (by omega)) c9)
  first | refine r_aload_n (dk kX6_findRuling 8 rfl) rfl ?_ | refine r_aload_nN (dk kX6_findRuling 8 rfl) rfl ?_
  refine r_getR (dk kX6_findRuling 9 rfl) fa_X6_29_5 o.k rfl o.r4 ?_
  refine r_iload_n (dk kX6_findRuling 10 rfl) rfl ?_
  refine r_aal (dk kX6_findRuling 11 rfl) o.k5 (by decide) o.l5 rfl (show k < 16 by omega) (by decide) (o.rr (by omega)) ?_
  -- at 20
  exact r_areturn (r := some (s + 14 + k)) (dk kX6_findRuling 12 rfl) rfl (Or.inl ⟨_, rfl⟩) rfl ⟨Nat.le_of_ble_eq_true rfl, Nat.le_of_ble_eq_true rfl⟩ ⟨rfl, rfl⟩
end CLASS
