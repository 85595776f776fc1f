/-! THE CLASS: stones and officers are appended; what wins; the level above -/
/-- g' has g's petitions and rulings -/
def GE (g g' : Nat → Int32) : Prop := g' 3 = g 3 ∧ (∀ k, k < gn g 1 → g' (29 + k) = g (29 + k)) ∧ ∀ x, 35 ≤ x → g' x = g x
theorem gDk_cong {g g' : Nat → Int32} {T T' : Nat → Nat} (k : Nat) : ∀ o, (∀ z, z < o → T' z = T z ∧ gNames g' k (nI z) = gNames g k (nI z)) → gDk g' T' k o = gDk g T k o
  | 0, _ => rfl
  | o + 1, h => by
    have ih := gDk_cong k o (fun z hz => h z (by omega))
    obtain ⟨h1, h2⟩ := h o (by omega)
    show (if gNames g' k (nI o) = true ∧ gDk g' T' k o ≤ T' o then T' o + 1 else gDk g' T' k o) = (if gNames g k (nI o) = true ∧ gDk g T k o ≤ T o then T o + 1 else gDk g T k o)
    rw [ih, h1, h2]
theorem gDt_cong {g g' : Nat → Int32} : ∀ n, (∀ r, r < n → ∀ z, gNames g' r (nI z) = gNames g r (nI z)) → ∀ j, gDt g' n j = gDt g n j
  | 0, _, _ => rfl
  | n + 1, h, j => by
    have ih := gDt_cong n (fun r hr => h r (by omega))
    show (if j = n then gDk g' (gDt g' n) n n else gDt g' n j) = (if j = n then gDk g (gDt g n) n n else gDt g n j)
    rw [ih j, gDk_cong n n (fun z _ => ⟨ih z, h n (by omega) z⟩)]
theorem gNames_cong {g g' : Nat → Int32} {r : Nat} (h : ∀ w, w < 6 → g' (123 + 6 * r + w) = g (123 + 6 * r + w)) (h4 : gn g (123 + 6 * r + 2) < 4) (x : Int32) : gNames g' r x = gNames g r x := by
  have e : gn g' (123 + 6 * r + 2) = gn g (123 + 6 * r + 2) := gn_eq (h 2 (by decide))
  unfold gNames
  rw [e]
  congr 1
  exact fx_cong (fun c hc => by
    have := h (3 + c) (by omega)
    rw [← Nat.add_assoc] at this
    show decide (g' (123 + 6 * r + 3 + c) = x) = decide (g (123 + 6 * r + 3 + c) = x)
    rw [this])
theorem gDepth_cong {g g' : Nat → Int32} {r : Nat} (h : ∀ z, z ≤ r → gn g (123 + 6 * z + 2) < 4 ∧ ∀ w, w < 6 → g' (123 + 6 * z + w) = g (123 + 6 * z + w)) : gDepth g' r = gDepth g r :=
  gDt_cong (r + 1) (fun z hz x => gNames_cong (h z (by omega)).2 (h z (by omega)).1 _) r
theorem PF.to {f g g' : Nat → Int32} {k k' : Nat} (h : ∀ w, w < 11 → g' (35 + 11 * k' + w) = g (35 + 11 * k + w)) (h4 : gn g (35 + 11 * k + 7) < 4) (hr : g' (29 + gn g (35 + 11 * k + 1)) = g (29 + gn g (35 + 11 * k + 1))) (p : PF f g k) : PF f g' k' := by
  obtain ⟨p0, p1, p2, p3, p4, p5, p6, p7, p8, p9⟩ := p
  have e1 : gn g' (35 + 11 * k' + 1) = gn g (35 + 11 * k + 1) := gn_eq (h 1 (by decide))
  have e7 : gn g' (35 + 11 * k' + 7) = gn g (35 + 11 * k + 7) := gn_eq (h 7 (by decide))
  refine ⟨p0.trans (h 0 (by decide)).symm, p1.trans (h 1 (by decide)).symm, ?_, p3.trans (h 2 (by decide)).symm, p4.trans (h 3 (by decide)).symm, p5.trans (h 4 (by decide)).symm, p6.trans (h 5 (by decide)).symm, p7.trans (h 6 (by decide)).symm, p8.trans (h 7 (by decide)).symm, fun c hc => ?_⟩
  · rw [e1, hr]
    exact p2
  · rw [e7] at hc
    have := h (8 + c) (by omega)
    rw [← Nat.add_assoc, ← Nat.add_assoc] at this
    rw [this]
    exact p9 c hc
theorem RF.to {f g g' : Nat → Int32} {r : Nat} (h : ∀ w, w < 6 → g' (123 + 6 * r + w) = g (123 + 6 * r + w)) (h4 : gn g (123 + 6 * r + 2) < 4) (hd : gDepth g' r = gDepth g r) (p : RF f g r) : RF f g' r := by
  obtain ⟨p0, p1, p2, p3, p4⟩ := p
  have e2 : gn g' (123 + 6 * r + 2) = gn g (123 + 6 * r + 2) := gn_eq (h 2 (by decide))
  refine ⟨p0.trans (h 0 (by decide)).symm, p1.trans (h 1 (by decide)).symm, by rw [hd]; exact p2, p3.trans (h 2 (by decide)).symm, fun c hc => ?_⟩
  rw [e2] at hc
  have := h (3 + c) (by omega)
  rw [← Nat.add_assoc] at this
  rw [this]
  exact p4 c hc
theorem gAhd_cong {g g' : Nat → Int32} {a b a' b' : Nat} (ra : gRk g' a' = gRk g a) (rb : gRk g' b' = gRk g b) (ua : gUr g' a' = gUr g a) (ub : gUr g' b' = gUr g b) (na : gNum g' a' = gNum g a) (nb : gNum g' b' = gNum g b) : gAhd g' a' b' = gAhd g a b := by
  unfold gAhd
  rw [ra, rb, ua, ub, na, nb]
/-- what the order depends on, for one petition -/
theorem gK_to {g g' : Nat → Int32} {k k' : Nat} (h : ∀ w, w < 5 → g' (35 + 11 * k' + w) = g (35 + 11 * k + w)) (hr : g' (29 + gn g (35 + 11 * k + 1)) = g (29 + gn g (35 + 11 * k + 1))) : gRk g' k' = gRk g k ∧ gUr g' k' = gUr g k ∧ gNum g' k' = gNum g k := by
  have e1 : gn g' (35 + 11 * k' + 1) = gn g (35 + 11 * k + 1) := gn_eq (h 1 (by decide))
  refine ⟨?_, gn_eq (h 4 (by decide)), gn_eq (h 0 (by decide))⟩
  unfold gRk
  rw [e1]
  exact gn_eq hr
section GE
variable {M : Mm} {s F : Nat} {g g' : Nat → Int32} {q : Nat → Nat}
theorem GE.n3 (e : GE g g') : gn g' 3 = gn g 3 := gn_eq e.1
theorem GE.p (e : GE g g') (i : GI F g) {f : Nat → Int32} {k : Nat} (hk : k < gn g 3) (p : PF f g k) : PF f g' k := by
  obtain ⟨-, a1, -, -, -, -, -, a7, -⟩ := i.pi hk
  exact p.to (fun w _ => e.2.2 _ (by omega)) a7.2 (e.2.1 _ a1.2)
theorem GE.r (e : GE g g') (i : GI F g) {f : Nat → Int32} {r : Nat} (hr : r < gn g 5) (p : RF f g r) : RF f g' r :=
  p.to (fun w _ => e.2.2 _ (by omega)) (i.ri hr).2.2.1.2 (gDepth_cong (fun z hz => ⟨(i.ri (show z < gn g 5 by omega)).2.2.1.2, fun w _ => e.2.2 _ (by omega)⟩))
theorem GE.o (e : GE g g') (i : GI F g) (o : QO g q) : QO g' q := by
  have h : ∀ {k}, k < gn g 3 → gRk g' k = gRk g k ∧ gUr g' k = gUr g k ∧ gNum g' k = gNum g k := fun hk => gK_to (fun w _ => e.2.2 _ (by omega)) (e.2.1 _ (i.pi hk).2.1.2)
  refine ⟨fun j hj => by rw [e.n3] at *; exact o.1 j hj, fun a b hab hb => ?_⟩
  rw [e.n3] at hb
  obtain ⟨x1, x2, x3⟩ := h (o.1 a (by omega))
  obtain ⟨y1, y2, y3⟩ := h (o.1 b hb)
  rw [gAhd_cong x1 y1 x2 y2 x3 y3]
  exact o.2 a b hab hb
theorem SV.ge {M' : Mm} (v : SV M s g q) (o : SO M s) (i : GI F g) (e : GE g g') (h : ∀ c, s + 6 ≤ c → c < s + 14 + gn g 5 → mi M' c = mi M c) (h4 : mr M' (s + 4) = mr M (s + 4)) (hc : mi M' s 5 = g' 0 ∧ mi M' s 6 = g' 1 ∧ mi M' s 7 = g' 3 ∧ mi M' s 8 = g' 5 ∧ mi M' s 9 = g' 2 ∧ mi M' s 10 = g' 4 ∧ mi M' s 11 = g' 6 ∧ mi M' s 12 = g' 7 ∧ mi M' s 13 = g' 8) (h5 : g' 5 = g 5) (hs : ∀ k, k < gn g' 0 → mi M' (s + 1) k = g' (9 + 2 * k) ∧ mi M' (s + 2) k = g' (9 + 2 * k + 1)) (hr : ∀ k, k < gn g' 1 → mi M' (s + 3) k = g' (29 + k)) : SV M' s g' q := by
  have p8 := i.p.2
  have hp : ∀ j, pA M' s j = pA M s j := fun j => by unfold pA; rw [h4]
  have e5 : gn g' 5 = gn g 5 := gn_eq h5
  refine ⟨hc, hs, hr, e.o i v.o, fun j hj => ?_, fun r hr => ?_⟩
  · rw [e.n3] at hj
    have hb := o.pb (j := j) (by omega)
    rw [hp, h (pA M s j) (by omega) (by omega)]
    exact e.p i (v.o.1 j hj) (v.p hj)
  · rw [e5] at hr
    rw [h (s + 14 + r) (by omega) (by omega)]
    exact e.r i hr (v.r hr)
end GE
/-- the level above the first c citations of the petition at place k -/
def gLv (g : Nat → Int32) (k : Nat) : Nat → Nat
  | 0 => 0
  | c + 1 => if gLv g k c ≤ gDepth g (gn g (35 + 11 * k + 8 + c)) then gDepth g (gn g (35 + 11 * k + 8 + c)) + 1 else gLv g k c
theorem gDepth_le (g : Nat → Int32) (r : Nat) : gDepth g r ≤ r := gDt_le g _ _
section CLASS
variable {G : GG} {M : Mm} {s F : Nat} {g : Nat → Int32} {q : Nat → Nat}
theorem k_X6_appendStone (o : SO M s) {n : Nat} (h5 : mi M s 5 = nI n) (hn : n < 10) (c w : Int32) : KE G IX6_appendStone [.ref s, .int c, .int w] M (nI n) (sI (sI (sI M (s + 1) n c) (s + 2) n w) s 5 (nI (n + 1))) := by
  refine KK.ofW (by decide) (by simp [Value.category]) (Nat.le_of_ble_eq_true rfl) rfl ?_
  show WW _ _ _ 0 [_, _, _, lj] [] _ _ _
  first | refine r_aload_n (dk kX6_appendStone 0 rfl) rfl ?_ | refine r_aload_nN (dk kX6_appendStone 0 rfl) rfl ?_
  refine r_geti (dk kX6_appendStone 1 rfl) fa_X6_58_5 o.k rfl ?_
  -- at 4
  rw [h5]
  refine r_istore_n (j := 3) (dk kX6_appendStone 2 rfl) rfl (by decide) rfl ?_
  simp only [List.set_cons_succ, List.set_cons_zero]
  first | refine r_aload_n (dk kX6_appendStone 3 rfl) rfl ?_ | refine r_aload_nN (dk kX6_appendStone 3 rfl) rfl ?_
  refine r_getR (dk kX6_appendStone 4 rfl) fa_X6_9_5 o.k rfl o.r0 ?_
  refine r_iload_n (dk kX6_appendStone 5 rfl) rfl ?_
  refine r_iload_n (dk kX6_appendStone 6 rfl) rfl ?_
  refine r_ias (dk kX6_appendStone 7 rfl) o.k1 o.l1 (j := n) rfl hn (by decide) ?_
  first | refine r_aload_n (dk kX6_appendStone 8 rfl) rfl ?_ | refine r_aload_nN (dk kX6_appendStone 8 rfl) rfl ?_
  refine r_getR (dk kX6_appendStone 9 rfl) fa_X6_15_5 o.k rfl o.r1 ?_
  refine r_iload_n (dk kX6_appendStone 10 rfl) rfl ?_
  refine r_iload_n (dk kX6_appendStone 11 rfl) rfl ?_
  refine r_ias (dk kX6_appendStone 12 rfl) o.k2 o.l2 (j := n) rfl hn (by decide) ?_
  first | refine r_aload_n (dk kX6_appendStone 13 rfl) rfl ?_ | refine r_aload_nN (dk kX6_appendStone 13 rfl) rfl ?_
  refine r_dup (dk kX6_appendStone 14 rfl) rfl ?_
  refine r_geti (dk kX6_appendStone 15 rfl) fa_X6_58_5 o.k rfl ?_
  -- at 24
  rw [mi_sI_n _ _ _ (by omega), mi_sI_n _ _ _ (by omega), h5]
  refine r_iconst (v := 1) (dk kX6_appendStone 16 rfl) (by decide) ?_
  refine r_iadd (dk kX6_appendStone 17 rfl) ?_
  -- at 26
  rw [nI_1]
  refine r_puti (dk kX6_appendStone 18 rfl) fa_X6_58_5 o.k rfl rfl rfl rfl ?_
  refine r_iload_n (dk kX6_appendStone 19 rfl) rfl ?_
  refine r_ireturn (dk kX6_appendStone 20 rfl) rfl rfl ⟨Nat.le_of_ble_eq_true rfl, Nat.le_of_ble_eq_true rfl⟩ ⟨rfl, rfl⟩
theorem k_X6_appendOfficer (o : SO M s) {n : Nat} (h6 : mi M s 6 = nI n) (hn : n < 6) (c : Int32) : KE G IX6_appendOfficer [.ref s, .int c] M (nI n) (sI (sI M (s + 3) n c) s 6 (nI (n + 1))) := by
  refine KK.ofW (by decide) (by simp [Value.category]) (Nat.le_of_ble_eq_true rfl) rfl ?_
  show WW _ _ _ 0 [_, _, lj] [] _ _ _
  first | refine r_aload_n (dk kX6_appendOfficer 0 rfl) rfl ?_ | refine r_aload_nN (dk kX6_appendOfficer 0 rfl) rfl ?_
  refine r_geti (dk kX6_appendOfficer 1 rfl) fa_X6_61_5 o.k rfl ?_
  -- at 4
  rw [h6]
  refine r_istore_n (j := 2) (dk kX6_appendOfficer 2 rfl) rfl (by decide) rfl ?_
  simp only [List.set_cons_succ, List.set_cons_zero]
  first | refine r_aload_n (dk kX6_appendOfficer 3 rfl) rfl ?_ | refine r_aload_nN (dk kX6_appendOfficer 3 rfl) rfl ?_
  refine r_getR (dk kX6_appendOfficer 4 rfl) fa_X6_18_5 o.k rfl o.r2 ?_
  refine r_iload_n (dk kX6_appendOfficer 5 rfl) rfl ?_
  refine r_iload_n (dk kX6_appendOfficer 6 rfl) rfl ?_
  refine r_ias (dk kX6_appendOfficer 7 rfl) o.k3 o.l3 (j := n) rfl hn (by decide) ?_
  first | refine r_aload_n (dk kX6_appendOfficer 8 rfl) rfl ?_ | refine r_aload_nN (dk kX6_appendOfficer 8 rfl) rfl ?_
  refine r_dup (dk kX6_appendOfficer 9 rfl) rfl ?_
  refine r_geti (dk kX6_appendOfficer 10 rfl) fa_X6_61_5 o.k rfl ?_
  -- at 17
  rw [mi_sI_n _ _ _ (by omega), h6]
  refine r_iconst (v := 1) (dk kX6_appendOfficer 11 rfl) (by decide) ?_
  refine r_iadd (dk kX6_appendOfficer 12 rfl) ?_
  -- at 19
  rw [nI_1]
  refine r_puti (dk kX6_appendOfficer 13 rfl) fa_X6_61_5 o.k rfl rfl rfl rfl ?_
  refine r_iload_n (dk kX6_appendOfficer 14 rfl) rfl ?_
  refine r_ireturn (dk kX6_appendOfficer 15 rfl) rfl rfl ⟨Nat.le_of_ble_eq_true rfl, Nat.le_of_ble_eq_true rfl⟩ ⟨rfl, rfl⟩
theorem k_X6_moveStone (o : SO M s) {n : Nat} {m : Nat} (h5 : mi M s 5 = nI n) (hn : n < 11) (hm : m < n) (c : Int32) : KU G IX6_moveStone [.ref s, .int (nI m), .int c] M (sI (sI M (s + 1) m c) s 13 (mi M s 13 + mi M (s + 2) m)) := by
  refine KK.ofW (by decide) (by simp [Value.category]) (Nat.le_of_ble_eq_true rfl) rfl ?_
  show WW _ _ _ 0 [_, _, _] [] _ _ _
  first | refine r_aload_n (dk kX6_moveStone 0 rfl) rfl ?_ | refine r_aload_nN (dk kX6_moveStone 0 rfl) rfl ?_
  refine r_iload_n (dk kX6_moveStone 1 rfl) rfl ?_
  refine r_callVp (I' := IX6_hasStone) (as := [_]) (dk kX6_moveStone 2 rfl) mv_X6_hasStone ml_X6_157 rfl rfl o.k rfl rfl (Nat.le_of_ble_eq_true rfl) ⟨by decide, by decide⟩ ⟨rfl, rfl⟩ ⟨Nat.le_of_ble_eq_true rfl, Nat.le_of_ble_eq_true rfl⟩ (k_X6_hasStone o.k _) ?_
  -- at 5
  rw [h5, bI_t ⟨nI_pos' (by omega), nI_lt hm (by omega)⟩]
  refine r_if_eq (tgt := 30) (dk kX6_moveStone 3 rfl) (by decide) (fun c5 => absurd c5 (by decide)) (fun c5 => ?_)
  first | refine r_aload_n (dk kX6_moveStone 4 rfl) rfl ?_ | refine r_aload_nN (dk kX6_moveStone 4 rfl) rfl ?_
  refine r_getR (dk kX6_moveStone 5 rfl) fa_X6_9_5 o.k rfl o.r0 ?_
  refine r_iload_n (dk kX6_moveStone 6 rfl) rfl ?_
  refine r_iload_n (dk kX6_moveStone 7 rfl) rfl ?_
  refine r_ias (dk kX6_moveStone 8 rfl) o.k1 o.l1 (j := m) rfl (by omega) (by decide) ?_
  first | refine r_aload_n (dk kX6_moveStone 9 rfl) rfl ?_ | refine r_aload_nN (dk kX6_moveStone 9 rfl) rfl ?_
  refine r_dup (dk kX6_moveStone 10 rfl) rfl ?_
  refine r_geti (dk kX6_moveStone 11 rfl) fa_X6_73_5 o.k rfl ?_
  -- at 20
  rw [mi_sI_n _ _ _ (by omega)]
  first | refine r_aload_n (dk kX6_moveStone 12 rfl) rfl ?_ | refine r_aload_nN (dk kX6_moveStone 12 rfl) rfl ?_
  refine r_getR (dk kX6_moveStone 13 rfl) fa_X6_15_5 o.k rfl o.r1 ?_
  refine r_iload_n (dk kX6_moveStone 14 rfl) rfl ?_
  refine r_ial (dk kX6_moveStone 15 rfl) o.k2 o.l2 (j := m) rfl (by omega) (by decide) ?_
  -- at 26
  rw [mi_sI_n _ _ _ (by omega)]
  refine r_iadd (dk kX6_moveStone 16 rfl) ?_
  refine r_puti (dk kX6_moveStone 17 rfl) fa_X6_73_5 o.k rfl rfl rfl rfl ?_
  refine r_return (dk kX6_moveStone 18 rfl) rfl ⟨Nat.le_of_ble_eq_true rfl, Nat.le_of_ble_eq_true rfl⟩ rfl
theorem k_X6_isWon (o : SO M s) (v : SV M s g q) (i : GI F g) {p : Nat} (hp : p < gn g 3) : KP G IX6_isWon [.ref s, .ref (pA M s p)] M (bI (gWins g (q p) = true)) := by
  have hp8 := i.p.2
  have hr9 := i.r.2
  have ka := o.ka (j := p) (by omega)
  refine KK.ofW (by decide) (by simp [Value.category]) (Nat.le_of_ble_eq_true rfl) rfl ?_
  show WW _ _ _ 0 [_, _, lj, lj, lj] [] _ _ _
  obtain ⟨-, -, -, -, -, y1, y2, ⟨hS, hS2⟩, hc⟩ := i.pi (v.o.1 p hp)
  obtain ⟨-, -, -, -, -, -, f10, f11, f0, fc⟩ := v.p hp
  generalize hk : q p = k at *
  first | refine r_aload_n (dk kX6_isWon 0 rfl) rfl ?_ | refine r_aload_nN (dk kX6_isWon 0 rfl) rfl ?_
  refine r_callVp (I' := IX4_countFor) (as := []) (dk kX6_isWon 1 rfl) mv_X4_countFor ml_X6_104 rfl rfl ka rfl rfl (Nat.le_of_ble_eq_true rfl) ⟨by decide, by decide⟩ ⟨rfl, rfl⟩ ⟨Nat.le_of_ble_eq_true rfl, Nat.le_of_ble_eq_true rfl⟩ (k_X4_countFor ka y1.2 (f10.trans y1.1)) ?_
  first | refine r_aload_n (dk kX6_isWon 2 rfl) rfl ?_ | refine r_aload_nN (dk kX6_isWon 2 rfl) rfl ?_
  refine r_callVp (I' := IX4_countAgainst) (as := []) (dk kX6_isWon 3 rfl) mv_X4_countAgainst ml_X6_108 rfl rfl ka rfl rfl (Nat.le_of_ble_eq_true rfl) ⟨by decide, by decide⟩ ⟨rfl, rfl⟩ ⟨Nat.le_of_ble_eq_true rfl, Nat.le_of_ble_eq_true rfl⟩ (k_X4_countAgainst ka y2.2 (f11.trans y2.1)) ?_
  refine r_isub (dk kX6_isWon 4 rfl) ?_
  -- at 9
  refine r_istore_n (j := 2) (dk kX6_isWon 5 rfl) rfl (by decide) rfl ?_
  simp only [List.set_cons_succ, List.set_cons_zero]
  refine r_iconst (v := 0) (dk kX6_isWon 6 rfl) (by decide) ?_
  refine r_istore_n (j := 3) (dk kX6_isWon 7 rfl) rfl (by decide) rfl ?_
  simp only [List.set_cons_succ, List.set_cons_zero]
  -- at 12
  suffices key : ∀ d j, j + d = gn g (35 + 11 * k + 7) → ∀ l, WW G IX6_isWon (qi (fun y M' => y = bI (gWins g k = true) ∧ M' = M) nox) 12 [.ref s, .ref (pA M s p), .int (gLead g k j), .int (nI j), l] [] M 0 0 from key _ 0 (Nat.zero_add _) _
  intro d
  induction d with
  | zero =>
    intro j hj l
    have hj : j = gn g (35 + 11 * k + 7) := hj
    refine r_iload_n (dk kX6_isWon 8 rfl) rfl ?_
    first | refine r_aload_n (dk kX6_isWon 9 rfl) rfl ?_ | refine r_aload_nN (dk kX6_isWon 9 rfl) rfl ?_
    refine r_geti (dk kX6_isWon 10 rfl) fa_X6_111_3 ka rfl ?_
    -- at 17
    rw [f0, hS]
    by_cases hw : 0 < gLead g k j
    · refine r_icmp_ge (tgt := 58) (dk kX6_isWon 11 rfl) (by decide) (fun c17 => ?_) (fun c17 => absurd (nI_le (by omega) (by omega)) c17)
      refine r_iload_n (dk kX6_isWon 31 rfl) rfl ?_
      refine r_if_le (tgt := 66) (dk kX6_isWon 32 rfl) (by decide) (fun c59 => absurd c59 (Int32.not_le.mpr hw)) (fun c59 => ?_)
      refine r_iconst (v := 1) (dk kX6_isWon 33 rfl) (by decide) ?_
      refine r_goto (tgt := 67) (dk kX6_isWon 34 rfl) (by decide) ?_
      refine r_ireturn (dk kX6_isWon 36 rfl) rfl rfl ⟨Nat.le_of_ble_eq_true rfl, Nat.le_of_ble_eq_true rfl⟩ ⟨(bI_t (by unfold gWins; rw [← hj]; exact decide_eq_true hw)).symm, rfl⟩
    · refine r_icmp_ge (tgt := 58) (dk kX6_isWon 11 rfl) (by decide) (fun c17 => ?_) (fun c17 => absurd (nI_le (by omega) (by omega)) c17)
      refine r_iload_n (dk kX6_isWon 31 rfl) rfl ?_
      refine r_if_le (tgt := 66) (dk kX6_isWon 32 rfl) (by decide) (fun c59 => ?_) (fun c59 => absurd (Int32.not_lt.mp hw) c59)
      refine r_iconst (v := 0) (dk kX6_isWon 35 rfl) (by decide) ?_
      refine r_ireturn (dk kX6_isWon 36 rfl) rfl rfl ⟨Nat.le_of_ble_eq_true rfl, Nat.le_of_ble_eq_true rfl⟩ ⟨(bI_f (by unfold gWins; rw [← hj]; exact fun z => hw (of_decide_eq_true z))).symm, rfl⟩
  | succ d ih =>
    intro j hj l
    have cj := hc j (by omega)
    obtain ⟨rg, -, -⟩ := i.ri cj.2
    have fr := (v.r cj.2).1
    refine r_iload_n (dk kX6_isWon 8 rfl) rfl ?_
    first | refine r_aload_n (dk kX6_isWon 9 rfl) rfl ?_ | refine r_aload_nN (dk kX6_isWon 9 rfl) rfl ?_
    refine r_geti (dk kX6_isWon 10 rfl) fa_X6_111_3 ka rfl ?_
    -- at 17
    rw [f0, hS]
    refine r_icmp_ge (tgt := 58) (dk kX6_isWon 11 rfl) (by decide) (fun c17 => absurd c17 (nI_ge (by omega) (by omega))) (fun c17 => ?_)
    first | refine r_aload_n (dk kX6_isWon 12 rfl) rfl ?_ | refine r_aload_nN (dk kX6_isWon 12 rfl) rfl ?_
    first | refine r_aload_n (dk kX6_isWon 13 rfl) rfl ?_ | refine r_aload_nN (dk kX6_isWon 13 rfl) rfl ?_
    refine r_iload_n (dk kX6_isWon 14 rfl) rfl ?_
    refine r_callUp (I' := IX0_citedAt) (as := [_]) (dk kX6_isWon 15 rfl) mu_X6_114_3 rfl rfl ka rfl rfl (Nat.le_of_ble_eq_true rfl) ⟨by decide, by decide⟩ ⟨rfl, rfl⟩ ⟨Nat.le_of_ble_eq_true rfl, Nat.le_of_ble_eq_true rfl⟩ (k_X0_citedAtP ka (by omega)) ?_
    -- at 26
    rw [fc j (by omega), cj.1]
    have kr := o.kr (j := gn g (35 + 11 * k + 8 + j)) (by have := cj.2; omega)
    refine r_callVr (I' := IX6_findRuling) (as := [_]) (dk kX6_isWon 16 rfl) mv_X6_findRuling ml_X6_118 rfl rfl o.k rfl rfl (Nat.le_of_ble_eq_true rfl) ⟨by decide, by decide⟩ ⟨rfl, rfl⟩ ⟨Nat.le_of_ble_eq_true rfl, Nat.le_of_ble_eq_true rfl⟩ (k_X6_findRuling o v i cj.2) ?_
    refine r_astore (dk kX6_isWon 17 rfl) (by decide) rfl ?_
    simp only [List.set_cons_succ, List.set_cons_zero]
    refine r_iload_n (dk kX6_isWon 18 rfl) rfl ?_
    first | refine r_aload (dk kX6_isWon 19 rfl) rfl ?_ | refine r_aloadN (dk kX6_isWon 19 rfl) rfl ?_
    refine r_ifnull (dk kX6_isWon 20 rfl) ?_
    first | refine r_aload (dk kX6_isWon 21 rfl) rfl ?_ | refine r_aloadN (dk kX6_isWon 21 rfl) rfl ?_
    refine r_geti (dk kX6_isWon 22 rfl) fa_X6_122_4 kr rfl ?_
    -- at 42
    rw [fr]
    have stp : gLead g k (j + 1) = gLead g k j + (if g (123 + 6 * gn g (35 + 11 * k + 8 + j)) = 1 then 1 else -1) := rfl
    by_cases h1 : g (123 + 6 * gn g (35 + 11 * k + 8 + j)) = 1
    · rw [if_pos h1] at stp
      refine r_if_eq (tgt := 49) (dk kX6_isWon 23 rfl) (by decide) (fun c42 => absurd c42 (by rw [h1]; decide)) (fun c42 => ?_)
      refine r_iconst (v := 1) (dk kX6_isWon 24 rfl) (by decide) ?_
      refine r_goto (tgt := 50) (dk kX6_isWon 25 rfl) (by decide) ?_
      refine r_iadd (dk kX6_isWon 27 rfl) ?_
      refine r_istore_n (j := 2) (dk kX6_isWon 28 rfl) rfl (by decide) rfl ?_
      simp only [List.set_cons_succ, List.set_cons_zero]
      refine r_iinc (dk kX6_isWon 29 rfl) (by decide) rfl rfl rfl ?_
      simp only [List.set_cons_succ, List.set_cons_zero]
      refine r_goto (tgt := 12) (dk kX6_isWon 30 rfl) (by decide) ?_
      -- at 12
      rw [← stp, show nI j + Int32.ofInt 1 = nI (j + 1) from nI_1 j]
      exact ih (j + 1) (by omega) _
    · rw [if_neg h1] at stp
      have h0 : g (123 + 6 * gn g (35 + 11 * k + 8 + j)) = 0 := by
        have := rg.2
        have h3 := rg.1
        by_cases hz : gn g (123 + 6 * gn g (35 + 11 * k + 8 + j)) = 0
        · rw [hz] at h3; exact h3
        · have : gn g (123 + 6 * gn g (35 + 11 * k + 8 + j)) = 1 := by omega
          rw [this] at h3
          exact absurd h3 h1
      refine r_if_eq (tgt := 49) (dk kX6_isWon 23 rfl) (by decide) (fun c42 => ?_) (fun c42 => absurd h0 c42)
      refine r_iconst (v := (-1)) (dk kX6_isWon 26 rfl) (by decide) ?_
      refine r_iadd (dk kX6_isWon 27 rfl) ?_
      refine r_istore_n (j := 2) (dk kX6_isWon 28 rfl) rfl (by decide) rfl ?_
      simp only [List.set_cons_succ, List.set_cons_zero]
      refine r_iinc (dk kX6_isWon 29 rfl) (by decide) rfl rfl rfl ?_
      simp only [List.set_cons_succ, List.set_cons_zero]
      refine r_goto (tgt := 12) (dk kX6_isWon 30 rfl) (by decide) ?_
      -- at 12
      rw [← stp, show nI j + Int32.ofInt 1 = nI (j + 1) from nI_1 j]
      exact ih (j + 1) (by omega) _
theorem k_X6_levelAbove (o : SO M s) (v : SV M s g q) (i : GI F g) {p : Nat} (hp : p < gn g 3) : KP G IX6_levelAbove [.ref s, .ref (pA M s p)] M (nI (gLv g (q p) (gn g (35 + 11 * q p + 7)))) := by
  have hp8 := i.p.2
  have hr9 := i.r.2
  have ka := o.ka (j := p) (by omega)
  refine KK.ofW (by decide) (by simp [Value.category]) (Nat.le_of_ble_eq_true rfl) rfl ?_
  show WW _ _ _ 0 [_, _, lj, lj, lj] [] _ _ _
  obtain ⟨-, -, -, -, -, -, -, ⟨hS, hS2⟩, hc⟩ := i.pi (v.o.1 p hp)
  obtain ⟨-, -, -, -, -, -, -, -, f0, fc⟩ := v.p hp
  generalize hk : q p = k at *
  have lv : ∀ j, j ≤ gn g (35 + 11 * k + 7) → gLv g k j ≤ 16 := by
    intro j
    induction j with
    | zero => exact fun _ => Nat.zero_le _
    | succ j ih =>
      intro hj
      have h1 := gDepth_le g (gn g (35 + 11 * k + 8 + j))
      have h2 := (hc j (by omega)).2
      have h3 := ih (by omega)
      unfold gLv
      split <;> omega
  refine r_iconst (v := 0) (dk kX6_levelAbove 0 rfl) (by decide) ?_
  refine r_istore_n (j := 2) (dk kX6_levelAbove 1 rfl) rfl (by decide) rfl ?_
  simp only [List.set_cons_succ, List.set_cons_zero]
  refine r_iconst (v := 0) (dk kX6_levelAbove 2 rfl) (by decide) ?_
  refine r_istore_n (j := 3) (dk kX6_levelAbove 3 rfl) rfl (by decide) rfl ?_
  simp only [List.set_cons_succ, List.set_cons_zero]
  -- at 4
  suffices key : ∀ d j, j + d = gn g (35 + 11 * k + 7) → ∀ l, WW G IX6_levelAbove (qi (fun y M' => y = nI (gLv g k (gn g (35 + 11 * k + 7))) ∧ M' = M) nox) 4 [.ref s, .ref (pA M s p), .int (nI (gLv g k j)), .int (nI j), l] [] M 0 0 from key _ 0 (Nat.zero_add _) _
  intro d
  induction d with
  | zero =>
    intro j hj l
    have hj : j = gn g (35 + 11 * k + 7) := hj
    refine r_iload_n (dk kX6_levelAbove 4 rfl) rfl ?_
    first | refine r_aload_n (dk kX6_levelAbove 5 rfl) rfl ?_ | refine r_aload_nN (dk kX6_levelAbove 5 rfl) rfl ?_
    refine r_geti (dk kX6_levelAbove 6 rfl) fa_X6_153_3 ka rfl ?_
    -- at 9
    rw [f0, hS]
    refine r_icmp_ge (tgt := 51) (dk kX6_levelAbove 7 rfl) (by decide) (fun c9 => ?_) (fun c9 => absurd (nI_le (by omega) (by omega)) c9)
    refine r_iload_n (dk kX6_levelAbove 27 rfl) rfl ?_
    refine r_ireturn (dk kX6_levelAbove 28 rfl) rfl rfl ⟨Nat.le_of_ble_eq_true rfl, Nat.le_of_ble_eq_true rfl⟩ ⟨by rw [hj], rfl⟩
  | succ d ih =>
    intro j hj l
    have cj := hc j (by omega)
    have fr := (v.r cj.2).2.2.1
    have kr := o.kr (j := gn g (35 + 11 * k + 8 + j)) (by have := cj.2; omega)
    have h1 := gDepth_le g (gn g (35 + 11 * k + 8 + j))
    have h2 := lv j (by omega)
    have cj2 := cj.2
    refine r_iload_n (dk kX6_levelAbove 4 rfl) rfl ?_
    first | refine r_aload_n (dk kX6_levelAbove 5 rfl) rfl ?_ | refine r_aload_nN (dk kX6_levelAbove 5 rfl) rfl ?_
    refine r_geti (dk kX6_levelAbove 6 rfl) fa_X6_153_3 ka rfl ?_
    -- at 9
    rw [f0, hS]
    refine r_icmp_ge (tgt := 51) (dk kX6_levelAbove 7 rfl) (by decide) (fun c9 => absurd c9 (nI_ge (by omega) (by omega))) (fun c9 => ?_)
    first | refine r_aload_n (dk kX6_levelAbove 8 rfl) rfl ?_ | refine r_aload_nN (dk kX6_levelAbove 8 rfl) rfl ?_
    first | refine r_aload_n (dk kX6_levelAbove 9 rfl) rfl ?_ | refine r_aload_nN (dk kX6_levelAbove 9 rfl) rfl ?_
    refine r_iload_n (dk kX6_levelAbove 10 rfl) rfl ?_
    refine r_callUp (I' := IX0_citedAt) (as := [_]) (dk kX6_levelAbove 11 rfl) mu_X6_156_3 rfl rfl ka rfl rfl (Nat.le_of_ble_eq_true rfl) ⟨by decide, by decide⟩ ⟨rfl, rfl⟩ ⟨Nat.le_of_ble_eq_true rfl, Nat.le_of_ble_eq_true rfl⟩ (k_X0_citedAtP ka (by omega)) ?_
    -- at 18
    rw [fc j (by omega), cj.1]
    refine r_callVr (I' := IX6_findRuling) (as := [_]) (dk kX6_levelAbove 12 rfl) mv_X6_findRuling ml_X6_118 rfl rfl o.k rfl rfl (Nat.le_of_ble_eq_true rfl) ⟨by decide, by decide⟩ ⟨rfl, rfl⟩ ⟨Nat.le_of_ble_eq_true rfl, Nat.le_of_ble_eq_true rfl⟩ (k_X6_findRuling o v i cj.2) ?_
    refine r_astore (dk kX6_levelAbove 13 rfl) (by decide) rfl ?_
    simp only [List.set_cons_succ, List.set_cons_zero]
    first | refine r_aload (dk kX6_levelAbove 14 rfl) rfl ?_ | refine r_aloadN (dk kX6_levelAbove 14 rfl) rfl ?_
    refine r_ifnull (dk kX6_levelAbove 15 rfl) ?_
    first | refine r_aload (dk kX6_levelAbove 16 rfl) rfl ?_ | refine r_aloadN (dk kX6_levelAbove 16 rfl) rfl ?_
    refine r_geti (dk kX6_levelAbove 17 rfl) fa_X6_134_4 kr rfl ?_
    refine r_iload_n (dk kX6_levelAbove 18 rfl) rfl ?_
    -- at 34
    rw [fr]
    have stp : gLv g k (j + 1) = if gLv g k j ≤ gDepth g (gn g (35 + 11 * k + 8 + j)) then gDepth g (gn g (35 + 11 * k + 8 + j)) + 1 else gLv g k j := rfl
    by_cases hle : gLv g k j ≤ gDepth g (gn g (35 + 11 * k + 8 + j))
    · rw [if_pos hle] at stp
      refine r_icmp_lt (tgt := 45) (dk kX6_levelAbove 19 rfl) (by decide) (fun c34 => absurd c34 (nI_nlt hle (by omega))) (fun c34 => ?_)
      first | refine r_aload (dk kX6_levelAbove 20 rfl) rfl ?_ | refine r_aloadN (dk kX6_levelAbove 20 rfl) rfl ?_
      refine r_geti (dk kX6_levelAbove 21 rfl) fa_X6_134_4 kr rfl ?_
      -- at 42
      rw [fr]
      refine r_iconst (v := 1) (dk kX6_levelAbove 22 rfl) (by decide) ?_
      refine r_iadd (dk kX6_levelAbove 23 rfl) ?_
      -- at 44
      rw [nI_1, ← stp]
      refine r_istore_n (j := 2) (dk kX6_levelAbove 24 rfl) rfl (by decide) rfl ?_
      simp only [List.set_cons_succ, List.set_cons_zero]
      refine r_iinc (dk kX6_levelAbove 25 rfl) (by decide) rfl rfl rfl ?_
      simp only [List.set_cons_succ, List.set_cons_zero]
      refine r_goto (tgt := 4) (dk kX6_levelAbove 26 rfl) (by decide) ?_
      -- at 4
      rw [show nI j + Int32.ofInt 1 = nI (j + 1) from nI_1 j]
      exact ih (j + 1) (by omega) _
    · rw [if_neg hle] at stp
      refine r_icmp_lt (tgt := 45) (dk kX6_levelAbove 19 rfl) (by decide) (fun c34 => ?_) (fun c34 => absurd (nI_lt (by omega) (by omega)) c34)
      refine r_iinc (dk kX6_levelAbove 25 rfl) (by decide) rfl rfl rfl ?_
      simp only [List.set_cons_succ, List.set_cons_zero]
      refine r_goto (tgt := 4) (dk kX6_levelAbove 26 rfl) (by decide) ?_
      -- at 4
      rw [← stp, show nI j + Int32.ofInt 1 = nI (j + 1) from nI_1 j]
      exact ih (j + 1) (by omega) _
end CLASS
