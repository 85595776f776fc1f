/-! THE CLASS: a petition is filed; a petition leaves, as states -/
/-- the ints of a new petition -/
def fNew (f : Nat → Int32) (num own rk st c u : Int32) : Nat → Int32 := va_up (va_up (va_up (va_up (va_up (va_up (va_up (va_up (va_up f 4 num) 5 own) 6 rk) 7 st) 8 c) 9 u) 10 0) 11 0) 0 0
section PURE
variable {F : Nat} {g : Nat → Int32}
theorem gFile_old (g : Nat → Int32) (a b : Nat) (c u : Int32) {x : Nat} (h3 : x ≠ 3) (h4 : x ≠ 4) (h : x < 35 + 11 * gn g 3 ∨ 35 + 11 * gn g 3 + 11 ≤ x) : gFile g a b c u x = g x := by
  unfold gFile
  rw [if_neg h3, if_neg h4, if_neg (by omega), if_neg (by omega), if_neg (by omega), if_neg (by omega), if_neg (by omega), if_neg (by omega)]
theorem gFile_new (g : Nat → Int32) (a b : Nat) (c u : Int32) : gFile g a b c u (35 + 11 * gn g 3) = g 4 ∧ gFile g a b c u (35 + 11 * gn g 3 + 1) = nI a ∧ gFile g a b c u (35 + 11 * gn g 3 + 2) = nI b ∧ gFile g a b c u (35 + 11 * gn g 3 + 3) = c ∧ gFile g a b c u (35 + 11 * gn g 3 + 4) = u ∧ ∀ w, 5 ≤ w → w < 11 → gFile g a b c u (35 + 11 * gn g 3 + w) = 0 := by
  unfold gFile
  refine ⟨?_, ?_, ?_, ?_, ?_, fun w h1 h2 => ?_⟩
  · rw [if_neg (by omega), if_neg (by omega), if_pos rfl]
  · rw [if_neg (by omega), if_neg (by omega), if_neg (by omega), if_pos rfl]
  · rw [if_neg (by omega), if_neg (by omega), if_neg (by omega), if_neg (by omega), if_pos rfl]
  · rw [if_neg (by omega), if_neg (by omega), if_neg (by omega), if_neg (by omega), if_neg (by omega), if_pos rfl]
  · rw [if_neg (by omega), if_neg (by omega), if_neg (by omega), if_neg (by omega), if_neg (by omega), if_neg (by omega), if_pos rfl]
  · rw [if_neg (by omega), if_neg (by omega), if_neg (by omega), if_neg (by omega), if_neg (by omega), if_neg (by omega), if_neg (by omega), if_pos (by omega)]
theorem gFile_3 (i : GI F g) (a b : Nat) (c u : Int32) : gn (gFile g a b c u) 3 = gn g 3 + 1 := by
  have := i.p.2
  refine gn_v (v := gn g 3 + 1) ?_ (by omega)
  unfold gFile
  rw [if_pos rfl]
theorem PF_new (i : GI F g) {a b : Nat} (ha : a < gn g 1) (c u : Int32) (f : Nat → Int32) : PF (fNew f (g 4) (nI a) (g (29 + a)) (nI b) c u) (gFile g a b c u) (gn g 3) := by
  obtain ⟨e0, e1, e2, e3, e4, e5⟩ := gFile_new g a b c u
  have h7 := i.o.2
  have g1 : gn (gFile g a b c u) (35 + 11 * gn g 3 + 1) = a := gn_v e1 (by omega)
  have g7 : gn (gFile g a b c u) (35 + 11 * gn g 3 + 7) = 0 := gn_v (v := 0) (e5 7 (by decide) (by decide)) (by decide)
  unfold fNew
  refine ⟨?_, ?_, ?_, ?_, ?_, ?_, ?_, ?_, ?_, fun c hc => absurd (g7 ▸ hc) (Nat.not_lt_zero c)⟩
  · rw [e0]; rfl
  · rw [e1]; rfl
  · rw [g1, gFile_old g a b c u (by omega) (by omega) (by omega)]; rfl
  · rw [e2]; rfl
  · rw [e3]; rfl
  · rw [e4]; rfl
  · rw [e5 5 (by decide) (by decide)]; rfl
  · rw [e5 6 (by decide) (by decide)]; rfl
  · rw [e5 7 (by decide) (by decide)]; rfl
/-- the order behind a filing -/
theorem QO_file (i : GI F g) {g' : Nat → Int32} (i' : GI (F + 1) g') (h3 : gn g' 3 = gn g 3 + 1) (hk : ∀ k, k < gn g 3 → gRk g' k = gRk g k ∧ gUr g' k = gUr g k ∧ gNum g' k = gNum g k) {q : Nat → Nat} (o : QO g q) {p : Nat} (hp : p ≤ gn g 3) (h1 : ∀ j, p ≤ j → j < gn g 3 → gAhd g' (gn g 3) (q j) = true) (h2 : ∀ z, p = z + 1 → gAhd g' (gn g 3) (q z) = false) : QO g' (fun j => if j < p then q j else if j = p then gn g 3 else q (j - 1)) := by
  have old : ∀ x y, x < y → y < gn g 3 → gAhd g' (q x) (q y) = true := fun x y hxy hy => by
    obtain ⟨a1, a2, a3⟩ := hk (q x) (o.1 x (by omega))
    obtain ⟨b1, b2, b3⟩ := hk (q y) (o.1 y hy)
    rw [gAhd_cong a1 b1 a2 b2 a3 b3]
    exact o.2 x y hxy hy
  have low : ∀ x, x < p → gAhd g' (q x) (gn g 3) = true := fun x hx => by
    obtain ⟨z, hz⟩ : ∃ z, p = z + 1 := ⟨p - 1, by omega⟩
    have hq := o.1 z (by omega)
    have t := ahd_tot i' (a := gn g 3) (b := q z) (by omega) (by omega) (by omega) (h2 z hz)
    by_cases e : x = z
    · rw [e]; exact t
    · exact ahd_tr (old x z (by omega) (by omega)) t
  refine ⟨fun j hj => ?_, fun x y hxy hy => ?_⟩
  · rw [h3] at hj ⊢
    show (if j < p then q j else if j = p then gn g 3 else q (j - 1)) < _
    split
    · have := o.1 j (by omega); omega
    · split
      · omega
      · have := o.1 (j - 1) (by omega); omega
  · rw [h3] at hy
    show gAhd g' (if x < p then q x else if x = p then gn g 3 else q (x - 1)) (if y < p then q y else if y = p then gn g 3 else q (y - 1)) = true
    by_cases hx : x < p
    · rw [if_pos hx]
      by_cases hy2 : y < p
      · rw [if_pos hy2]
        exact old x y hxy (by omega)
      · rw [if_neg hy2]
        by_cases hy3 : y = p
        · rw [if_pos hy3]
          exact low x hx
        · rw [if_neg hy3]
          exact old x (y - 1) (by omega) (by omega)
    · rw [if_neg hx, if_neg (show ¬ y < p by omega), if_neg (show y ≠ p by omega)]
      by_cases hx3 : x = p
      · rw [if_pos hx3]
        exact h1 (y - 1) (by omega) (by omega)
      · rw [if_neg hx3]
        exact old (x - 1) (y - 1) (by omega) (by omega)
/-- the place behind a leaving -/
def dn (p t : Nat) : Nat := if t < p then t else t - 1
theorem gDrop_at {g : Nat → Int32} {p t w : Nat} (ht : t < gn g 3) (hp : p < gn g 3) (htp : t ≠ p) (hw : w < 11) : gDrop g p (35 + 11 * dn p t + w) = g (35 + 11 * t + w) := by
  unfold gDrop dn
  by_cases h : t < p
  · rw [if_pos h, if_neg (by omega), if_neg (by omega), if_neg (by omega)]
  · rw [if_neg h, if_neg (by omega), if_pos (by omega), show 35 + 11 * (t - 1) + w + 11 = 35 + 11 * t + w by omega]
/-- g' has g's petitions but that at place p -/
def GDr (g : Nat → Int32) (p : Nat) (g' : Nat → Int32) : Prop := g' 3 = nI (gn g 3 - 1) ∧ (∀ k, k < gn g 1 → g' (29 + k) = g (29 + k)) ∧ ∀ x, 35 ≤ x → x < 123 → g' x = gDrop g p x
theorem GDr.at {g' : Nat → Int32} {p t w : Nat} (d : GDr g p g') (n8 : gn g 3 < 9) (ht : t < gn g 3) (hp : p < gn g 3) (htp : t ≠ p) (hw : w < 11) : g' (35 + 11 * dn p t + w) = g (35 + 11 * t + w) := by
  rw [d.2.2 _ (by omega) (by unfold dn; split <;> omega), gDrop_at ht hp htp hw]
theorem GDr.n {g' : Nat → Int32} {p : Nat} (d : GDr g p g') (n8 : gn g 3 < 9) : gn g' 3 = gn g 3 - 1 := gn_v d.1 (by omega)
theorem wD_lt {p n j : Nat} (hp : p < n) (hn : n ≤ 8) (hj : j < 8) : wD p n j < 8 := by
  unfold wD
  split
  · omega
  · split
    · omega
    · split <;> omega
theorem wD_inj {p n : Nat} (hp : p < n) : ∀ i j, i < j → wD p n i ≠ wD p n j := by
  intro i j hij
  unfold wD
  by_cases h1 : i < p
  · rw [if_pos h1]
    split
    · omega
    · split
      · omega
      · split <;> omega
  · rw [if_neg h1, if_neg (show ¬ j < p by omega)]
    split
    · split
      · omega
      · split <;> omega
    · split
      · split
        · omega
        · split <;> omega
      · split
        · omega
        · split <;> omega
theorem wI_lt {p n j : Nat} (hp : p ≤ n) (hn : n < 8) (hj : j < 8) : wI p n j < 8 := by
  unfold wI
  split
  · omega
  · split
    · omega
    · split <;> omega
theorem wI_inj {p n : Nat} (hp : p ≤ n) : ∀ i j, i < j → wI p n i ≠ wI p n j := by
  intro i j hij
  unfold wI
  by_cases h1 : i < p
  · rw [if_pos h1]
    split
    · omega
    · split
      · omega
      · split <;> omega
  · rw [if_neg h1, if_neg (show ¬ j < p by omega)]
    by_cases h2 : i = p
    · rw [if_pos h2, if_neg (show j ≠ p by omega)]
      split <;> omega
    · rw [if_neg h2, if_neg (show j ≠ p by omega)]
      split
      · split <;> omega
      · split <;> omega
/-- the order, and what stands where, behind a leaving: that at position j0 -/
theorem QO_drop (i : GI F g) {g' : Nat → Int32} {q : Nat → Nat} (o : QO g q) {j0 : Nat} (hj : j0 < gn g 3) (d : GDr g (q j0) g') : QO g' (fun j => dn (q j0) (q (wD j0 (gn g 3) j))) := by
  have n8 := i.p.2
  have hp := o.1 j0 hj
  have wlt : ∀ j, j < gn g 3 - 1 → wD j0 (gn g 3) j < gn g 3 ∧ wD j0 (gn g 3) j ≠ j0 := fun j h => by
    unfold wD
    split
    · omega
    · split
      · omega
      · omega
  have qne : ∀ j, j < gn g 3 - 1 → q (wD j0 (gn g 3) j) ≠ q j0 ∧ q (wD j0 (gn g 3) j) < gn g 3 := fun j h => by
    obtain ⟨h1, h2⟩ := wlt j h
    refine ⟨fun e => ?_, o.1 _ h1⟩
    rcases Nat.lt_or_gt_of_ne h2 with w | w
    · exact o.inj _ _ w hj e
    · exact o.inj _ _ w h1 e.symm
  have kk : ∀ t, t < gn g 3 → t ≠ q j0 → gRk g' (dn (q j0) t) = gRk g t ∧ gUr g' (dn (q j0) t) = gUr g t ∧ gNum g' (dn (q j0) t) = gNum g t := fun t ht htp => gK_to (fun w hw => d.at n8 ht hp htp (by omega)) (d.2.1 _ (i.pi ht).2.1.2)
  refine ⟨fun j h => ?_, fun x y hxy hy => ?_⟩
  · rw [d.n n8] at h ⊢
    obtain ⟨h1, h2⟩ := qne j h
    show dn (q j0) (q (wD j0 (gn g 3) j)) < _
    unfold dn
    split <;> omega
  · rw [d.n n8] at hy
    obtain ⟨x1, x2⟩ := qne x (by omega)
    obtain ⟨y1, y2⟩ := qne y hy
    obtain ⟨a1, a2, a3⟩ := kk _ x2 x1
    obtain ⟨b1, b2, b3⟩ := kk _ y2 y1
    rw [gAhd_cong a1 b1 a2 b2 a3 b3]
    refine o.2 _ _ ?_ (wlt y hy).1
    unfold wD
    split
    · split
      · omega
      · split <;> omega
    · rw [if_neg (show ¬ y < j0 by omega), if_pos (by omega), if_pos (by omega)]
      omega
theorem PF_drop (i : GI F g) {g' : Nat → Int32} {q : Nat → Nat} (o : QO g q) {j0 : Nat} (hj : j0 < gn g 3) (d : GDr g (q j0) g') {f : Nat → Int32} {j : Nat} (h : j < gn g 3 - 1) (pf : PF f g (q (wD j0 (gn g 3) j))) : wD j0 (gn g 3) j < gn g 3 ∧ PF f g' (dn (q j0) (q (wD j0 (gn g 3) j))) := by
  have n8 := i.p.2
  have hp := o.1 j0 hj
  have h12 : wD j0 (gn g 3) j < gn g 3 ∧ wD j0 (gn g 3) j ≠ j0 := by
    unfold wD
    split
    · omega
    · split
      · omega
      · omega
  obtain ⟨h1, h2⟩ := h12
  have hne : q (wD j0 (gn g 3) j) ≠ q j0 := fun e => by
    rcases Nat.lt_or_gt_of_ne h2 with w | w
    · exact o.inj _ _ w hj e
    · exact o.inj _ _ w h1 e.symm
  have hlt := o.1 _ h1
  obtain ⟨-, a1, -, -, -, -, -, a7, -⟩ := i.pi hlt
  exact ⟨h1, pf.to (fun w hw => d.at n8 hlt hp hne hw) a7.2 (d.2.1 _ a1.2)⟩
end PURE
section CLASS
variable {G : GG} {M : Mm} {s F : Nat} {g : Nat → Int32} {q : Nat → Nat}
theorem k_X6_enqueue (o : SO M s) (v : SV M s g q) (i : GI F g) (hF : F + 1 < 2 ^ 30) {a b : Nat} {c u : Int32} (ha : a < gn g 1) (hb : b < gn g 0) (hc : 0 ≤ c ∧ c ≤ 24) (hu : 0 ≤ u ∧ u ≤ 9) (h8 : gn g 3 ≠ 8) : KK G IX6_enqueue [.ref s, .int (nI a), .int (nI b), .int c, .int u] M (qi (fun y M' => y = g 4 ∧ FR M s (s + 29) M' ∧ SO M' s ∧ ∃ q', SV M' s (gFile g a b c u) q') nox) := by
  have n8 := i.p.2
  have h7 := i.o.2
  have ka := o.ka (j := gn g 3) (by omega)
  have hpb := o.pb (j := gn g 3) (by omega)
  refine KK.ofW (by decide) (by simp [Value.category]) (Nat.le_of_ble_eq_true rfl) rfl ?_
  show WW _ _ _ 0 [_, _, _, _, _, lj] [] _ _ _
  first | refine r_aload_n (dk kX6_enqueue 0 rfl) rfl ?_ | refine r_aload_nN (dk kX6_enqueue 0 rfl) rfl ?_
  refine r_getR (dk kX6_enqueue 1 rfl) fa_X6_23_5 o.k rfl o.r3 ?_
  first | refine r_aload_n (dk kX6_enqueue 2 rfl) rfl ?_ | refine r_aload_nN (dk kX6_enqueue 2 rfl) rfl ?_
  refine r_geti (dk kX6_enqueue 3 rfl) fa_X6_45_5 o.k rfl ?_
  -- at 8
  rw [v.c3 i]
  refine r_aal (dk kX6_enqueue 4 rfl) o.k4 (by decide) o.l4 rfl (show gn g 3 < 8 by omega) (by decide) (o.rp (by omega)) ?_
  refine r_astore (dk kX6_enqueue 5 rfl) (by decide) rfl ?_
  simp only [List.set_cons_succ, List.set_cons_zero]
  first | refine r_aload (dk kX6_enqueue 6 rfl) rfl ?_ | refine r_aloadN (dk kX6_enqueue 6 rfl) rfl ?_
  first | refine r_aload_n (dk kX6_enqueue 7 rfl) rfl ?_ | refine r_aload_nN (dk kX6_enqueue 7 rfl) rfl ?_
  refine r_geti (dk kX6_enqueue 8 rfl) fa_X6_64_5 o.k rfl ?_
  -- at 17
  rw [v.1.2.2.2.2.2.1]
  refine r_puti (dk kX6_enqueue 9 rfl) fa_X6_76_3 ka rfl rfl rfl rfl ?_
  first | refine r_aload (dk kX6_enqueue 10 rfl) rfl ?_ | refine r_aloadN (dk kX6_enqueue 10 rfl) rfl ?_
  refine r_iload_n (dk kX6_enqueue 11 rfl) rfl ?_
  refine r_puti (dk kX6_enqueue 12 rfl) fa_X6_82_3 ka rfl rfl rfl rfl ?_
  first | refine r_aload (dk kX6_enqueue 13 rfl) rfl ?_ | refine r_aloadN (dk kX6_enqueue 13 rfl) rfl ?_
  first | refine r_aload_n (dk kX6_enqueue 14 rfl) rfl ?_ | refine r_aload_nN (dk kX6_enqueue 14 rfl) rfl ?_
  refine r_getR (dk kX6_enqueue 15 rfl) fa_X6_18_5 o.k rfl o.r2 ?_
  refine r_iload_n (dk kX6_enqueue 16 rfl) rfl ?_
  -- at 33
  rw [sI_A M, sI_sA]
  refine r_ial (dk kX6_enqueue 17 rfl) o.k3 o.l3 (j := a) rfl (by omega) (by decide) ?_
  -- at 34
  rw [mi_sA_n _ _ (by omega), v.rank ha]
  refine r_puti (dk kX6_enqueue 18 rfl) fa_X6_85_3 ka rfl rfl rfl rfl ?_
  -- at 37
  rw [sI_sA]
  first | refine r_aload (dk kX6_enqueue 19 rfl) rfl ?_ | refine r_aloadN (dk kX6_enqueue 19 rfl) rfl ?_
  refine r_iload_n (dk kX6_enqueue 20 rfl) rfl ?_
  refine r_puti (dk kX6_enqueue 21 rfl) fa_X6_79_3 ka rfl rfl rfl rfl ?_
  -- at 43
  rw [sI_sA]
  first | refine r_aload (dk kX6_enqueue 22 rfl) rfl ?_ | refine r_aloadN (dk kX6_enqueue 22 rfl) rfl ?_
  refine r_iload_n (dk kX6_enqueue 23 rfl) rfl ?_
  refine r_puti (dk kX6_enqueue 24 rfl) fa_X6_88_3 ka rfl rfl rfl rfl ?_
  -- at 49
  rw [sI_sA]
  first | refine r_aload (dk kX6_enqueue 25 rfl) rfl ?_ | refine r_aloadN (dk kX6_enqueue 25 rfl) rfl ?_
  refine r_iload (dk kX6_enqueue 26 rfl) rfl ?_
  refine r_puti (dk kX6_enqueue 27 rfl) fa_X6_91_3 ka rfl rfl rfl rfl ?_
  -- at 56
  rw [sI_sA]
  first | refine r_aload (dk kX6_enqueue 28 rfl) rfl ?_ | refine r_aloadN (dk kX6_enqueue 28 rfl) rfl ?_
  refine r_callVu (I' := IX4_forgetVotesAndCitations) (as := []) (dk kX6_enqueue 29 rfl) mv_X4_forgetVotesAndCitations ml_X6_94 rfl rfl ka rfl rfl (Nat.le_of_ble_eq_true rfl) ⟨by decide, by decide⟩ ⟨rfl, rfl⟩ ⟨Nat.le_of_ble_eq_true rfl, Nat.le_of_ble_eq_true rfl⟩ (k_X4_forget ka) ?_
  -- at 61
  rw [sI_sA, sI_sA, sI_sA]
  rw [show va_up (va_up (va_up (va_up (va_up (va_up (va_up (va_up (va_up (mi M (pA M s (gn g 3))) 4 (g 4)) 5 (nI a)) 6 (g (29 + a))) 7 (nI b)) 8 c) 9 u) 10 0) 11 0) 0 0 = fNew (mi M (pA M s (gn g 3))) (g 4) (nI a) (g (29 + a)) (nI b) c u from rfl]
  have i' := GI_file i hF ha hb hc hu h8
  have hpf := PF_new (b := b) i ha c u (mi M (pA M s (gn g 3)))
  have n' := gFile_3 i a b c u
  have hold : ∀ x, x ≠ 3 → x ≠ 4 → x < 35 + 11 * gn g 3 ∨ 35 + 11 * gn g 3 + 11 ≤ x → gFile g a b c u x = g x := fun x h1 h2 h3 => gFile_old g a b c u h1 h2 h3
  have e3 : gFile g a b c u 3 = nI (gn g 3 + 1) := by unfold gFile; rw [if_pos rfl]
  have e4 : gFile g a b c u 4 = nI (gn g 4 + 1) := by unfold gFile; rw [if_neg (by decide), if_pos rfl]
  generalize hf' : fNew (mi M (pA M s (gn g 3))) (g 4) (nI a) (g (29 + a)) (nI b) c u = f' at *
  have f4 : f' 4 = g 4 := by rw [← hf']; rfl
  generalize hg' : gFile g a b c u = g' at *
  have hpold : ∀ k, k < gn g 3 → ∀ f, PF f g k → PF f g' k := fun k hk f pf => by
    obtain ⟨-, a1, -, -, -, -, -, a7, -⟩ := i.pi hk
    have := a1.2
    exact pf.to (fun w hw => hold _ (by omega) (by omega) (by omega)) a7.2 (hold _ (by omega) (by omega) (by omega))
  have hkk : ∀ k, k < gn g 3 → gRk g' k = gRk g k ∧ gUr g' k = gUr g k ∧ gNum g' k = gNum g k := fun k hk => by
    have := (i.pi hk).2.1.2
    exact gK_to (fun w hw => hold _ (by omega) (by omega) (by omega)) (hold _ (by omega) (by omega) (by omega))
  -- the memory with the new petition's ints
  have oN : SO (sA M (pA M s (gn g 3)) f') s := o.tr rfl rfl rfl
  have miN : ∀ z, z ≠ pA M s (gn g 3) → mi (sA M (pA M s (gn g 3)) f') z = mi M z := fun z hz => mi_sA_n _ _ hz
  have miS : mi (sA M (pA M s (gn g 3)) f') (pA M s (gn g 3)) = f' := mi_sA_s _ _ _
  have mrN : mr (sA M (pA M s (gn g 3)) f') = mr M := rfl
  have pAN : ∀ j, pA (sA M (pA M s (gn g 3)) f') s j = pA M s j := fun j => rfl
  have rN : FR M s (s + 29) (sA M (pA M s (gn g 3)) f') := (FR.rfl M s (s + 29)).sA _ (by omega)
  generalize sA M (pA M s (gn g 3)) f' = N at *
  have hB : ∀ j, j < gn g 3 → (pAhd N (pA N s (gn g 3)) (pA N s j) ↔ gAhd g' (gn g 3) (q j) = true) := fun j hj => by
    have hq := v.o.1 j hj
    have hne := o.ne (show j ≠ gn g 3 by omega) (by omega) (by omega)
    rw [pAN, pAN]
    exact ahd_pf i' (by omega) (by omega) (by rw [miS]; exact hpf) (by rw [miN _ hne]; exact hpold _ hq _ (v.p hj))
  have hmv := k_X6_moveToItsPosition (G := G) oN (n := gn g 3) (by rw [miN _ (by omega)]; exact v.c3 i) (by omega) (B := fun j => gAhd g' (gn g 3) (q j)) hB
  rw [pAN] at hmv
  first | refine r_aload_n (dk kX6_enqueue 30 rfl) rfl ?_ | refine r_aload_nN (dk kX6_enqueue 30 rfl) rfl ?_
  first | refine r_aload (dk kX6_enqueue 31 rfl) rfl ?_ | refine r_aloadN (dk kX6_enqueue 31 rfl) rfl ?_
  refine r_callV (I' := IX6_moveToItsPosition) (as := [_]) (dk kX6_enqueue 32 rfl) mv_X6_moveToItsPosition ml_X6_97 rfl rfl oN.k rfl rfl (Nat.le_of_ble_eq_true rfl) ⟨by decide, by decide⟩ ⟨Nat.le_of_ble_eq_true rfl, Nat.le_of_ble_eq_true rfl⟩ hmv ?_ ?_
  · exact fun E M' z => z.elim
  rintro w M' ⟨rfl, p, hp, hp1, hp2, rfl⟩
  show WW G IX6_enqueue _ 67 [.ref s, .int (nI a), .int (nI b), .int c, .int u, .ref (pA M s (gn g 3))] [] _ 0 0
  have miL : mi (sQ N (s + 4) (fun j => mr N (s + 4) (wI p (gn g 3) j))) = mi N := rfl
  have mrL : mr (sQ N (s + 4) (fun j => mr N (s + 4) (wI p (gn g 3) j))) (s + 4) = fun j => mr N (s + 4) (wI p (gn g 3) j) := mr_sQ_s _ _ _
  have mrL2 : ∀ z, z ≠ s + 4 → mr (sQ N (s + 4) (fun j => mr N (s + 4) (wI p (gn g 3) j))) z = mr N z := fun z hz => mr_sQ_n _ _ hz
  have rL : FR M s (s + 29) (sQ N (s + 4) (fun j => mr N (s + 4) (wI p (gn g 3) j))) := rN.sQ _ (by omega)
  have kL : kd (sQ N (s + 4) (fun j => mr N (s + 4) (wI p (gn g 3) j))) = kd N := rfl
  have lL : ln (sQ N (s + 4) (fun j => mr N (s + 4) (wI p (gn g 3) j))) = ln N := rfl
  generalize sQ N (s + 4) (fun j => mr N (s + 4) (wI p (gn g 3) j)) = Z at *
  obtain ⟨oZ, pZ⟩ := oN.pm kL lL (mrL2 _ (by omega)) (mrL2 _ (by omega)) (w := wI p (gn g 3)) (fun j _ => by rw [mrL]) (fun j hj => wI_lt hp (by omega) hj) (fun x y hxy _ => wI_inj hp x y hxy)
  have kaZ : kd Z (pA M s (gn g 3)) = 4 := by rw [kL, ← pAN]; exact oN.ka (by omega)
  first | refine r_aload_n (dk kX6_enqueue 33 rfl) rfl ?_ | refine r_aload_nN (dk kX6_enqueue 33 rfl) rfl ?_
  refine r_dup (dk kX6_enqueue 34 rfl) rfl ?_
  refine r_geti (dk kX6_enqueue 35 rfl) fa_X6_45_5 oZ.k rfl ?_
  -- at 72
  rw [miL, miN _ (by omega), v.c3 i]
  refine r_iconst (v := 1) (dk kX6_enqueue 36 rfl) (by decide) ?_
  refine r_iadd (dk kX6_enqueue 37 rfl) ?_
  -- at 74
  rw [nI_1]
  refine r_puti (dk kX6_enqueue 38 rfl) fa_X6_45_5 oZ.k rfl rfl rfl rfl ?_
  first | refine r_aload_n (dk kX6_enqueue 39 rfl) rfl ?_ | refine r_aload_nN (dk kX6_enqueue 39 rfl) rfl ?_
  refine r_dup (dk kX6_enqueue 40 rfl) rfl ?_
  refine r_geti (dk kX6_enqueue 41 rfl) fa_X6_64_5 oZ.k rfl ?_
  -- at 82
  rw [mi_sI_s, va_up_ne _ _ (by decide), miL, miN s (by omega), v.c4 i]
  refine r_iconst (v := 1) (dk kX6_enqueue 42 rfl) (by decide) ?_
  refine r_iadd (dk kX6_enqueue 43 rfl) ?_
  -- at 84
  rw [nI_1]
  refine r_puti (dk kX6_enqueue 44 rfl) fa_X6_64_5 oZ.k rfl rfl rfl rfl ?_
  first | refine r_aload (dk kX6_enqueue 45 rfl) rfl ?_ | refine r_aloadN (dk kX6_enqueue 45 rfl) rfl ?_
  refine r_geti (dk kX6_enqueue 46 rfl) fa_X6_76_3 kaZ rfl ?_
  -- at 92
  rw [mi_sI_n _ _ _ (by omega), mi_sI_n _ _ _ (by omega), miL, miS, f4]
  have hsi : ∀ z, z ≠ s → mi (sI (sI Z s 7 (nI (gn g 3 + 1))) s 10 (nI (gn g 4 + 1))) z = mi N z := fun z hz => by rw [mi_sI_n _ _ _ hz, mi_sI_n _ _ _ hz, miL]
  have hs0 : ∀ z, z ≠ 7 → z ≠ 10 → mi (sI (sI Z s 7 (nI (gn g 3 + 1))) s 10 (nI (gn g 4 + 1))) s z = mi M s z := fun z h1 h2 => by rw [mi_sI_s, va_up_ne _ _ h2, mi_sI_s, va_up_ne _ _ h1, miL, miN s (by omega)]
  refine r_ireturn (dk kX6_enqueue 47 rfl) rfl rfl ⟨Nat.le_of_ble_eq_true rfl, Nat.le_of_ble_eq_true rfl⟩ ⟨rfl, (rL.sI _ _ (by omega)).sI _ _ (by omega), oZ.tr rfl rfl rfl, fun j => if j < p then q j else if j = p then gn g 3 else q (j - 1), ⟨?_, ?_, ?_, ?_, ?_, ?_, ?_, ?_, ?_⟩, ?_, ?_, QO_file i i' n' hkk v.o hp hp1 hp2, ?_, ?_⟩
  · rw [hs0 5 (by decide) (by decide), hold 0 (by decide) (by decide) (by omega)]; exact v.1.1
  · rw [hs0 6 (by decide) (by decide), hold 1 (by decide) (by decide) (by omega)]; exact v.1.2.1
  · rw [mi_sI_s, va_up_ne _ _ (by decide), mi_sI_s, va_up_self, e3]
  · rw [hs0 8 (by decide) (by decide), hold 5 (by decide) (by decide) (by omega)]; exact v.1.2.2.2.1
  · rw [hs0 9 (by decide) (by decide), hold 2 (by decide) (by decide) (by omega)]; exact v.1.2.2.2.2.1
  · rw [mi_sI_s, va_up_self, e4]
  · rw [hs0 11 (by decide) (by decide), hold 6 (by decide) (by decide) (by omega)]; exact v.c6
  · rw [hs0 12 (by decide) (by decide), hold 7 (by decide) (by decide) (by omega)]; exact v.c7
  · rw [hs0 13 (by decide) (by decide), hold 8 (by decide) (by decide) (by omega)]; exact v.c8
  · intro k hk
    have e0 : gn g' 0 = gn g 0 := gn_eq (hold 0 (by decide) (by decide) (by omega))
    have := i.s.2
    rw [e0] at hk
    rw [hsi _ (by omega), hsi _ (by omega), miN _ (by omega), miN _ (by omega), hold _ (by omega) (by omega) (by omega), hold _ (by omega) (by omega) (by omega)]
    exact v.2.1 k hk
  · intro k hk
    have e1 : gn g' 1 = gn g 1 := gn_eq (hold 1 (by decide) (by decide) (by omega))
    rw [e1] at hk
    rw [hsi _ (by omega), miN _ (by omega), hold _ (by omega) (by omega) (by omega)]
    exact v.rank hk
  · intro j hj
    rw [n'] at hj
    have hpj : pA (sI (sI Z s 7 (nI (gn g 3 + 1))) s 10 (nI (gn g 4 + 1))) s j = pA N s (wI p (gn g 3) j) := pZ j (by omega)
    have hw := wI_lt hp (by omega) (show j < 8 by omega)
    have hwb := o.pb hw
    rw [hpj, pAN, hsi _ (by omega)]
    show PF (mi N (pA M s (wI p (gn g 3) j))) g' (if j < p then q j else if j = p then gn g 3 else q (j - 1))
    unfold wI
    by_cases h1 : j < p
    · rw [if_pos h1, if_pos h1, miN _ (o.ne (by omega) (by omega) (by omega))]
      exact hpold _ (v.o.1 j (by omega)) _ (v.p (by omega))
    · rw [if_neg h1, if_neg h1]
      by_cases h2 : j = p
      · rw [if_pos h2, if_pos h2, miS]
        exact hpf
      · rw [if_neg h2, if_neg h2, if_pos (by omega), miN _ (o.ne (by omega) (by omega) (by omega))]
        exact hpold _ (v.o.1 (j - 1) (by omega)) _ (v.p (by omega))
  · intro r hr
    have e5 : gn g' 5 = gn g 5 := gn_eq (hold 5 (by decide) (by decide) (by omega))
    have := i.r.2
    rw [e5] at hr
    rw [hsi _ (by omega), miN _ (by omega)]
    exact (v.r hr).to (fun w hw => hold _ (by omega) (by omega) (by omega)) (i.ri hr).2.2.1.2 (gDepth_cong fun z hz => ⟨(i.ri (show z < gn g 5 by omega)).2.2.1.2, fun w hw => hold _ (by omega) (by omega) (by omega)⟩)
end CLASS
