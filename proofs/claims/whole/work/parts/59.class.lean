/-! THE CLASS: a state is copied -/
theorem na_arr : Cond.native arraycopyName ∈ lwG := wm 437 (by decide +kernel) (by decide +kernel)
theorem sa_arr : Cond.static arraycopyName ∈ lwG := wm 436 (by decide +kernel) (by decide +kernel)
theorem in_sys : Cond.initialized "java/lang/System" ∈ lwG := wm 82 (by decide +kernel) (by decide +kernel)
theorem up_sA {M : Mm} {a : Nat} {f : Nat → Int32} : ∀ b, b ≠ a → kd M b = kd (sA M a f) b ∧ ln M b = ln (sA M a f) b ∧ mi M b = mi (sA M a f) b ∧ mr M b = mr (sA M a f) b ∧ mj M b = mj (sA M a f) b ∧ md M b = md (sA M a f) b :=
  fun b hb => ⟨rfl, rfl, (mi_sA_n _ _ hb).symm, rfl, rfl, rfl⟩
section COPY
variable {G : GG} {I : MI} {Q : QQ} {pc : Nat} {L st : List Value} {M : Mm} {k n : Nat}
/-- the first N ints of a row into another one -/
theorem r_copyI {idx a0 a N : Nat} {x : Int32} (hd : decode (mB I) pc = .ok (.invokestatic idx, 3)) (hl : Cond.methodLink (mY I).cls idx arraycopyName ∈ lwG) (k0 : kd M a0 = 20) (k1 : kd M a = 20) (hx : x = nI N) (hN : N < 2 ^ 31) (h0 : N ≤ ln M a0) (h1 : N ≤ ln M a) (hR : 1 ≤ (mR I).frames ∧ (st.map fun v => v.category).sum + (nativeFrameWords "java/lang/System" "arraycopy" 5 + 11) ≤ (mR I).locals) (h : WW G I Q (pc + 3) L st (sA M a (va_cpy (mi M a0) (mi M a) 0 0 N)) k n) : WW G I Q pc L (.int x :: .int 0 :: .ref a :: .int 0 :: .ref a0 :: st) M k n := by
  subst hx
  intro p e s m args below meth c H locs ls C Y S V
  have hts := C.2.2.2.2.1
  have hc0 : H[a0]? = some (vp_cell (gy G 0) (ln M a0, .inl (mi M a0))) := Y.1.one (G := G) (a := a0) (by omega) (ent_i (cy := gy G) k0) 0 _ rfl
  have hc1 : H[a]? = some (vp_cell (gy G 0) (ln M a, .inl (mi M a))) := Y.1.one (G := G) (a := a) (by omega) (ent_i (cy := gy G) k1) 0 _ rfl
  obtain ⟨-, x0, hx0, cm0, hkk0⟩ := (Y.2.1.2 0 _ rfl).1 (ln M a0) (fun j => .int (mi M a0 j))
  obtain ⟨-, x1, hx1, cm1, hkk1⟩ := (Y.2.1.2 0 _ rfl).1 (ln M a) (fun j => .int (mi M a j))
  have eN := nI_toInt hN
  have cN := nI_clamp hN
  have z0 : (0 : Int32).toNatClampNeg = 0 := by decide
  have z1 : (0 : Int32).toInt = 0 := by decide
  intro T hT X
  obtain ⟨vm', X', step⟩ := X.arraycopy C.1 C.2.2.2.2.2.1 (hts _ hl) (hts _ na_arr) (hts _ sa_arr) (hts _ in_sys) (src := a0) (dst := a) (cs := vp_cell (gy G 0) (ln M a0, .inl (mi M a0))) (cd := vp_cell (gy G 0) (ln M a, .inl (mi M a))) (srcPos := 0) (destPos := 0) (n := nI N) (by rw [hT]; exact hc0) (by rw [hT]; exact hc1)
    (fun _ h => by cases h) (fun _ h => by cases h) (fun h => by cases h) (fun h => by cases h) hx0 hx1 hkk0 hkk1 (by simp [refKind]) (by decide) (by decide) (nI_pos hN)
    (by rw [z1, eN]; show ¬ _ > ((arrV (gy G 0) (ln M a0) (fun j => .int (mi M a0 j))).slots.size : Int); rw [arrV_size]; omega)
    (by rw [z1, eN]; show ¬ _ > ((arrV (gy G 0) (ln M a) (fun j => .int (mi M a j))).slots.size : Int); rw [arrV_size]; omega)
    (fun vm₁ _ i hi => by
      rw [cN] at hi
      rw [z0]
      have e : (vp_cell (gy G 0) (ln M a0, .inl (mi M a0))).slots.getD (0 + i) .null = .int (mi M a0 (0 + i)) := by
        show (arrV (gy G 0) (ln M a0) (fun j => .int (mi M a0 j))).slots.getD _ _ = _
        rw [Array.getD_eq_getD_getElem?, arrV_read _ _ (by omega)]
        rfl
      refine ⟨?_, ?_⟩
      · rw [e]
        rfl
      · rw [e]
        exact trivial)
    (g := F0 m pc ls (.int (nI N) :: .int 0 :: .ref a :: .int 0 :: .ref a0 :: st)) rfl (by rw [C.2.2.2.1]; exact V.1) (rest := st) rfl (by rw [C.2.1]; exact hd) hR.1 (by show 2 * 0 + _ + _ ≤ _; omega)
  have e1 : copied (vp_cell (gy G 0) (ln M a0, .inl (mi M a0))) (vp_cell (gy G 0) (ln M a, .inl (mi M a))) 0 0 (nI N) = vp_cell (gy G 0) (ln M a, .inl (va_cpy (mi M a0) (mi M a) (0 : Int32).toNatClampNeg (0 : Int32).toNatClampNeg (nI N).toNatClampNeg)) := va_copied (fun z => .int z) (gy G 0) (gy G 0) (mi M a0) (mi M a) (by rw [z0, cN]; omega)
  rw [z0, cN] at e1
  rw [e1] at X' step
  have hl2 : a < H.size := (Array.getElem?_eq_some_iff.mp hc1).1
  have hheap : ((T.setVm vm').setCell a (vp_cell (gy G 0) (ln M a, .inl (va_cpy (mi M a0) (mi M a) 0 0 N)))).heap = H.setIfInBounds a (vp_cell (gy G 0) (ln M a, .inl (va_cpy (mi M a0) (mi M a) 0 0 N))) := by rw [← hT]; rfl
  have oq : ∀ q : Nat, q ≠ a → (H.setIfInBounds a (vp_cell (gy G 0) (ln M a, .inl (va_cpy (mi M a0) (mi M a) 0 0 N))))[q]? = H[q]? := fun q hq => by simp [Array.getElem?_setIfInBounds, Ne.symm hq]
  have hA : gA G a := Y.1.ge (a := a) (by omega)
  have Y' : Wd G (sA M a (va_cpy (mi M a0) (mi M a) 0 0 N)) s (H.setIfInBounds a (vp_cell (gy G 0) (ln M a, .inl (va_cpy (mi M a0) (mi M a) 0 0 N)))) := Y.up (by omega) (by simp) rfl rfl (ent_i k1) up_sA (by
    show (H.setIfInBounds a _)[a]? = some (vp_cell (gy G 0) (ln M a, .inl (mi (sA M a (va_cpy (mi M a0) (mi M a) 0 0 N)) a)))
    rw [mi_sA_s]
    simp [Array.getElem?_setIfInBounds, hl2]) oq
  obtain ⟨t, a1, b1⟩ := h p e s m args below meth c _ _ ls C Y' ⟨by simp; exact S.1, fun q g1 g2 => by
      rw [oq q (fun e => g2 (by rw [e]; exact hA))]
      exact S.2.1 q g1 g2, fun q hq => by
      rcases List.mem_append.mp hq with h | h
      · exact S.2.2 q h
      · obtain ⟨z, -, hz⟩ := List.mem_map.mp h
        rw [← hz]
        exact hA⟩ V _ hheap X'
  exact ⟨t, step t a1, b1⟩
end COPY
theorem va_cpy_0 {f f' : Nat → Int32} {N i : Nat} (hi : i < N) : va_cpy f f' 0 0 N i = f i := by
  rw [pk_cpy_in (Nat.zero_le _) (by omega), Nat.zero_add, Nat.sub_zero]
theorem PF.eq {f f' g : Nat → Int32} {k : Nat} (h4 : gn g (35 + 11 * k + 7) < 4) (h : ∀ w, w < 12 → f' w = f w) (p : PF f g k) : PF f' g k := by
  obtain ⟨p0, p1, p2, p3, p4, p5, p6, p7, p8, p9⟩ := p
  refine ⟨(h 4 (by decide)).trans p0, (h 5 (by decide)).trans p1, (h 6 (by decide)).trans p2, (h 7 (by decide)).trans p3, (h 8 (by decide)).trans p4, (h 9 (by decide)).trans p5, (h 10 (by decide)).trans p6, (h 11 (by decide)).trans p7, (h 0 (by decide)).trans p8, fun c hc => (h (1 + c) (by omega)).trans (p9 c hc)⟩
theorem RF.eq {f f' g : Nat → Int32} {r : Nat} (h4 : gn g (123 + 6 * r + 2) < 4) (h : ∀ w, w < 7 → f' w = f w) (p : RF f g r) : RF f' g r := by
  obtain ⟨p0, p1, p2, p3, p4⟩ := p
  refine ⟨(h 4 (by decide)).trans p0, (h 5 (by decide)).trans p1, (h 6 (by decide)).trans p2, (h 0 (by decide)).trans p3, fun c hc => (h (1 + c) (by omega)).trans (p4 c hc)⟩
/-- how far the copying of b into s is: n petitions, m rulings -/
def CI (M : Mm) (s b n m : Nat) (Y : Mm) : Prop := FR M s (s + 29) Y ∧ mr Y = mr M ∧ (∀ k, k < 10 → mi Y (s + 1) k = mi M (b + 1) k ∧ mi Y (s + 2) k = mi M (b + 2) k) ∧ (∀ k, k < 6 → mi Y (s + 3) k = mi M (b + 3) k) ∧ (∀ j, j < n → ∀ w, w < 12 → mi Y (pA M s j) w = mi M (pA M b j) w) ∧ ∀ r, r < m → ∀ w, w < 7 → mi Y (s + 14 + r) w = mi M (b + 14 + r) w
theorem nb2_bI {g : Nat → Int32} {x : Nat} (h : nb g x 2) : g x = bI (gn g x = 1) := by
  by_cases e : gn g x = 1
  · rw [bI_t e, h.1, e]; rfl
  · have : gn g x = 0 := by have := h.2; omega
    rw [bI_f e, h.1, this]; rfl
section CLASS
variable {G : GG} {M : Mm} {s b F : Nat} {g : Nat → Int32} {q : Nat → Nat}
theorem k_copy_tail (o : SO M s) (ob : SO M b) (v : SV M b g q) (i : GI F g) (hsb : s + 29 < b ∨ b + 29 < s) {Y : Mm} (c : CI M s b (gn g 3) (gn g 5) Y) : WW G IX6_copyFrom (qv (fun M' => FR M s (s + 29) M' ∧ mr M' = mr M ∧ SV M' s g q) nox) 107 [.ref s, .ref b, .int (nI (gn g 5))] [] Y 0 0 := by
  obtain ⟨rY, mY1, c1, c2, c3, c4⟩ := c
  have ks : kd Y s = 6 := by rw [rY.k]; exact o.k
  have kb : kd Y b = 6 := by rw [rY.k]; exact ob.k
  have hbs : b ≠ s := by omega
  have hb : mi Y b = mi M b := rY.i (by omega)
  have p8 := i.p.2
  have r17 := i.r.2
  have s11 := i.s.2
  have o7 := i.o.2
  have key : ∀ f : Nat → Int32, WW G IX6_copyFrom (qv (fun M' => FR M s (s + 29) M' ∧ mr M' = mr M ∧ SV M' s g q) nox) 107 [.ref s, .ref b, .int (nI (gn g 5))] [] (sA Y s f) 0 0 := by
    intro f
    first | refine r_aload_n (dk kX6_copyFrom_p0 58 rfl) rfl ?_ | refine r_aload_nN (dk kX6_copyFrom_p0 58 rfl) rfl ?_
    first | refine r_aload_n (dk kX6_copyFrom_p0 59 rfl) rfl ?_ | refine r_aload_nN (dk kX6_copyFrom_p0 59 rfl) rfl ?_
    refine r_geti (dk kX6_copyFrom_p1 0 rfl) fa_X6_58_5 (by first | exact ks | exact kb) rfl ?_
    -- at 112
    rw [mi_sA_n _ _ hbs, hb]
    refine r_puti (dk kX6_copyFrom_p1 1 rfl) fa_X6_58_5 (by first | exact ks | exact kb) rfl rfl rfl rfl ?_
    -- at 115
    rw [sI_sA]
    first | refine r_aload_n (dk kX6_copyFrom_p1 2 rfl) rfl ?_ | refine r_aload_nN (dk kX6_copyFrom_p1 2 rfl) rfl ?_
    first | refine r_aload_n (dk kX6_copyFrom_p1 3 rfl) rfl ?_ | refine r_aload_nN (dk kX6_copyFrom_p1 3 rfl) rfl ?_
    refine r_geti (dk kX6_copyFrom_p1 4 rfl) fa_X6_61_5 (by first | exact ks | exact kb) rfl ?_
    -- at 120
    rw [mi_sA_n _ _ hbs, hb]
    refine r_puti (dk kX6_copyFrom_p1 5 rfl) fa_X6_61_5 (by first | exact ks | exact kb) rfl rfl rfl rfl ?_
    -- at 123
    rw [sI_sA]
    first | refine r_aload_n (dk kX6_copyFrom_p1 6 rfl) rfl ?_ | refine r_aload_nN (dk kX6_copyFrom_p1 6 rfl) rfl ?_
    first | refine r_aload_n (dk kX6_copyFrom_p1 7 rfl) rfl ?_ | refine r_aload_nN (dk kX6_copyFrom_p1 7 rfl) rfl ?_
    refine r_geti (dk kX6_copyFrom_p1 8 rfl) fa_X6_45_5 (by first | exact ks | exact kb) rfl ?_
    -- at 128
    rw [mi_sA_n _ _ hbs, hb]
    refine r_puti (dk kX6_copyFrom_p1 9 rfl) fa_X6_45_5 (by first | exact ks | exact kb) rfl rfl rfl rfl ?_
    -- at 131
    rw [sI_sA]
    first | refine r_aload_n (dk kX6_copyFrom_p1 10 rfl) rfl ?_ | refine r_aload_nN (dk kX6_copyFrom_p1 10 rfl) rfl ?_
    first | refine r_aload_n (dk kX6_copyFrom_p1 11 rfl) rfl ?_ | refine r_aload_nN (dk kX6_copyFrom_p1 11 rfl) rfl ?_
    refine r_geti (dk kX6_copyFrom_p1 12 rfl) fa_X6_52_5 (by first | exact ks | exact kb) rfl ?_
    -- at 136
    rw [mi_sA_n _ _ hbs, hb]
    refine r_puti (dk kX6_copyFrom_p1 13 rfl) fa_X6_52_5 (by first | exact ks | exact kb) rfl rfl rfl rfl ?_
    -- at 139
    rw [sI_sA]
    first | refine r_aload_n (dk kX6_copyFrom_p1 14 rfl) rfl ?_ | refine r_aload_nN (dk kX6_copyFrom_p1 14 rfl) rfl ?_
    first | refine r_aload_n (dk kX6_copyFrom_p1 15 rfl) rfl ?_ | refine r_aload_nN (dk kX6_copyFrom_p1 15 rfl) rfl ?_
    refine r_geti (dk kX6_copyFrom_p1 16 rfl) fa_X6_35_5 (by first | exact ks | exact kb) rfl ?_
    -- at 144
    rw [mi_sA_n _ _ hbs, hb]
    refine r_puti (dk kX6_copyFrom_p1 17 rfl) fa_X6_35_5 (by first | exact ks | exact kb) rfl rfl rfl rfl ?_
    -- at 147
    rw [sI_sA]
    first | refine r_aload_n (dk kX6_copyFrom_p1 18 rfl) rfl ?_ | refine r_aload_nN (dk kX6_copyFrom_p1 18 rfl) rfl ?_
    first | refine r_aload_n (dk kX6_copyFrom_p1 19 rfl) rfl ?_ | refine r_aload_nN (dk kX6_copyFrom_p1 19 rfl) rfl ?_
    refine r_geti (dk kX6_copyFrom_p1 20 rfl) fa_X6_64_5 (by first | exact ks | exact kb) rfl ?_
    -- at 152
    rw [mi_sA_n _ _ hbs, hb]
    refine r_puti (dk kX6_copyFrom_p1 21 rfl) fa_X6_64_5 (by first | exact ks | exact kb) rfl rfl rfl rfl ?_
    -- at 155
    rw [sI_sA]
    first | refine r_aload_n (dk kX6_copyFrom_p1 22 rfl) rfl ?_ | refine r_aload_nN (dk kX6_copyFrom_p1 22 rfl) rfl ?_
    first | refine r_aload_n (dk kX6_copyFrom_p1 23 rfl) rfl ?_ | refine r_aload_nN (dk kX6_copyFrom_p1 23 rfl) rfl ?_
    refine r_geti (dk kX6_copyFrom_p1 24 rfl) fa_X6_67_5 (by first | exact ks | exact kb) rfl ?_
    -- at 160
    rw [mi_sA_n _ _ hbs, hb]
    refine r_puti (dk kX6_copyFrom_p1 25 rfl) fa_X6_67_5 (by first | exact ks | exact kb) rfl rfl rfl rfl ?_
    -- at 163
    rw [sI_sA]
    first | refine r_aload_n (dk kX6_copyFrom_p1 26 rfl) rfl ?_ | refine r_aload_nN (dk kX6_copyFrom_p1 26 rfl) rfl ?_
    first | refine r_aload_n (dk kX6_copyFrom_p1 27 rfl) rfl ?_ | refine r_aload_nN (dk kX6_copyFrom_p1 27 rfl) rfl ?_
    refine r_geti (dk kX6_copyFrom_p1 28 rfl) fa_X6_70_5 (by first | exact ks | exact kb) rfl ?_
    -- at 168
    rw [mi_sA_n _ _ hbs, hb]
    refine r_puti (dk kX6_copyFrom_p1 29 rfl) fa_X6_70_5 (by first | exact ks | exact kb) rfl rfl rfl rfl ?_
    -- at 171
    rw [sI_sA]
    first | refine r_aload_n (dk kX6_copyFrom_p1 30 rfl) rfl ?_ | refine r_aload_nN (dk kX6_copyFrom_p1 30 rfl) rfl ?_
    first | refine r_aload_n (dk kX6_copyFrom_p1 31 rfl) rfl ?_ | refine r_aload_nN (dk kX6_copyFrom_p1 31 rfl) rfl ?_
    refine r_geti (dk kX6_copyFrom_p1 32 rfl) fa_X6_73_5 (by first | exact ks | exact kb) rfl ?_
    -- at 176
    rw [mi_sA_n _ _ hbs, hb]
    refine r_puti (dk kX6_copyFrom_p1 33 rfl) fa_X6_73_5 (by first | exact ks | exact kb) rfl rfl rfl rfl ?_
    -- at 179
    rw [sI_sA]
    have e : ∀ f z, z ≠ s → mi (sA Y s f) z = mi Y z := fun f z hz => mi_sA_n _ _ hz
    refine r_return (dk kX6_copyFrom_p1 34 rfl) rfl ⟨Nat.le_of_ble_eq_true rfl, Nat.le_of_ble_eq_true rfl⟩ ⟨rY.sA _ (by omega), mY1, ⟨?_, ?_, ?_, ?_, ?_, ?_, ?_, ?_, ?_⟩, ?_, ?_, v.o, ?_, ?_⟩
    · rw [mi_sA_s]; exact v.1.1
    · rw [mi_sA_s]; exact v.1.2.1
    · rw [mi_sA_s]; exact v.1.2.2.1
    · rw [mi_sA_s]; exact v.1.2.2.2.1
    · rw [mi_sA_s]; exact v.1.2.2.2.2.1
    · rw [mi_sA_s]; exact v.1.2.2.2.2.2.1
    · rw [mi_sA_s]; exact v.c6
    · rw [mi_sA_s]; exact v.c7
    · rw [mi_sA_s]; exact v.c8
    · intro k hk
      rw [e _ _ (by omega), e _ _ (by omega), (c1 k (by omega)).1, (c1 k (by omega)).2]
      exact v.2.1 k hk
    · intro k hk
      rw [e _ _ (by omega), c2 k (by omega)]
      exact v.rank hk
    · intro j hj
      have hp : ∀ f, pA (sA Y s f) s j = pA M s j := fun f => by unfold pA; rw [show mr (sA Y s f) = mr M from mY1]
      have pb := o.pb (j := j) (by omega)
      rw [hp, e _ _ (by omega)]
      exact (v.p hj).eq (i.pi (v.o.1 j hj)).2.2.2.2.2.2.2.1.2 (c3 j hj)
    · intro r hr
      rw [e _ _ (by omega)]
      exact (v.r hr).eq (i.ri hr).2.2.1.2 (c4 r hr)
  have h := key (mi Y s)
  rw [sA_eq] at h
  exact h
theorem k_copy_rul (o : SO M s) (ob : SO M b) (v : SV M b g q) (i : GI F g) (hsb : s + 29 < b ∨ b + 29 < s) : ∀ d j, j + d = gn g 5 → ∀ Y, CI M s b (gn g 3) j Y → WW G IX6_copyFrom (qv (fun M' => FR M s (s + 29) M' ∧ mr M' = mr M ∧ SV M' s g q) nox) 78 [.ref s, .ref b, .int (nI j)] [] Y 0 0 := by
  have r17 := i.r.2
  have p8 := i.p.2
  intro d
  induction d with
  | zero =>
    intro j hj Y c
    have hj : j = gn g 5 := hj
    subst hj
    have kb : kd Y b = 6 := by rw [c.1.k]; exact ob.k
    have hb : mi Y b = mi M b := c.1.i (by omega)
    refine r_iload_n (dk kX6_copyFrom_p0 43 rfl) rfl ?_
    first | refine r_aload_n (dk kX6_copyFrom_p0 44 rfl) rfl ?_ | refine r_aload_nN (dk kX6_copyFrom_p0 44 rfl) rfl ?_
    refine r_geti (dk kX6_copyFrom_p0 45 rfl) fa_X6_52_5 kb rfl ?_
    -- at 83
    rw [hb, v.c5 i]
    refine r_icmp_ge (tgt := 107) (dk kX6_copyFrom_p0 46 rfl) (by decide) (fun c83 => ?_) (fun c83 => absurd (nI_le (by omega) (by omega)) c83)
    -- at 107
    exact k_copy_tail o ob v i hsb c
  | succ d ih =>
    intro j hj Y c
    have oY : SO Y s := o.tr c.1.k c.1.l c.2.1
    have obY : SO Y b := ob.tr c.1.k c.1.l c.2.1
    have hb : mi Y b = mi M b := c.1.i (by omega)
    have hr : mi Y (b + 14 + j) = mi M (b + 14 + j) := c.1.i (by omega)
    have f4 : mi Y (b + 14 + j) 4 = bI (gn g (123 + 6 * j) = 1) := by
      rw [hr, (v.r (show j < gn g 5 by omega)).1]
      exact nb2_bI (i.ri (by omega)).1
    have f5 : mi Y (b + 14 + j) 5 = bI (gn g (123 + 6 * j + 1) = 1) := by
      rw [hr, (v.r (show j < gn g 5 by omega)).2.1]
      exact nb2_bI (i.ri (by omega)).2.1
    have k1 := oY.kr (j := j) (by omega)
    have k2 := obY.kr (j := j) (by omega)
    refine r_iload_n (dk kX6_copyFrom_p0 43 rfl) rfl ?_
    first | refine r_aload_n (dk kX6_copyFrom_p0 44 rfl) rfl ?_ | refine r_aload_nN (dk kX6_copyFrom_p0 44 rfl) rfl ?_
    refine r_geti (dk kX6_copyFrom_p0 45 rfl) fa_X6_52_5 (by first | exact oY.k | exact obY.k) rfl ?_
    -- at 83
    rw [hb, v.c5 i]
    refine r_icmp_ge (tgt := 107) (dk kX6_copyFrom_p0 46 rfl) (by decide) (fun c83 => absurd c83 (nI_ge (by omega) (by omega))) (fun c83 => ?_)
    first | refine r_aload_n (dk kX6_copyFrom_p0 47 rfl) rfl ?_ | refine r_aload_nN (dk kX6_copyFrom_p0 47 rfl) rfl ?_
    refine r_getR (dk kX6_copyFrom_p0 48 rfl) fa_X6_29_5 (by first | exact oY.k | exact obY.k) rfl (by first | exact oY.r4 | exact obY.r4) ?_
    refine r_iload_n (dk kX6_copyFrom_p0 49 rfl) rfl ?_
    refine r_aal (dk kX6_copyFrom_p0 50 rfl) oY.k5 (by decide) oY.l5 rfl (show j < 16 by omega) (by decide) (oY.rr (by omega)) ?_
    first | refine r_aload_n (dk kX6_copyFrom_p0 51 rfl) rfl ?_ | refine r_aload_nN (dk kX6_copyFrom_p0 51 rfl) rfl ?_
    refine r_getR (dk kX6_copyFrom_p0 52 rfl) fa_X6_29_5 (by first | exact oY.k | exact obY.k) rfl (by first | exact oY.r4 | exact obY.r4) ?_
    refine r_iload_n (dk kX6_copyFrom_p0 53 rfl) rfl ?_
    refine r_aal (dk kX6_copyFrom_p0 54 rfl) obY.k5 (by decide) obY.l5 rfl (show j < 16 by omega) (by decide) (obY.rr (by omega)) ?_
    refine r_callVu (I' := IX5_copyFrom) (as := [_]) (dk kX6_copyFrom_p0 55 rfl) mv_X5_copyFrom ml_X6_55 rfl rfl k1 rfl rfl (Nat.le_of_ble_eq_true rfl) ⟨by decide, by decide⟩ ⟨rfl, rfl⟩ ⟨Nat.le_of_ble_eq_true rfl, Nat.le_of_ble_eq_true rfl⟩ (k_X5_copyFrom k1 k2 (by omega) f4 f5) ?_
    refine r_iinc (dk kX6_copyFrom_p0 56 rfl) (by decide) rfl rfl rfl ?_
    simp only [List.set_cons_succ, List.set_cons_zero]
    refine r_goto (tgt := 78) (dk kX6_copyFrom_p0 57 rfl) (by decide) ?_
    -- at 78
    rw [show nI j + Int32.ofInt 1 = nI (j + 1) from nI_1 j]
    obtain ⟨rY, mY1, c1, c2, c3, c4⟩ := c
    refine ih (j + 1) (by omega) _ ⟨rY.sA _ (by omega), mY1, fun k hk => ?_, fun k hk => ?_, fun z hz w hw => ?_, fun z hz w hw => ?_⟩
    · rw [mi_sA_n _ _ (by omega), mi_sA_n _ _ (by omega)]
      exact c1 k hk
    · rw [mi_sA_n _ _ (by omega)]
      exact c2 k hk
    · have pb := o.pb (j := z) (by omega)
      rw [mi_sA_n _ _ (by omega)]
      exact c3 z hz w hw
    · by_cases e : z = j
      · rw [e, mi_sA_s]
        unfold cpF
        rw [if_pos hw, hr]
      · rw [mi_sA_n _ _ (by omega)]
        exact c4 z (by omega) w hw
theorem k_copy_pet (o : SO M s) (ob : SO M b) (v : SV M b g q) (i : GI F g) (hsb : s + 29 < b ∨ b + 29 < s) : ∀ d j, j + d = gn g 3 → ∀ Y, CI M s b j 0 Y → WW G IX6_copyFrom (qv (fun M' => FR M s (s + 29) M' ∧ mr M' = mr M ∧ SV M' s g q) nox) 47 [.ref s, .ref b, .int (nI j)] [] Y 0 0 := by
  have p8 := i.p.2
  intro d
  induction d with
  | zero =>
    intro j hj Y c
    have hj : j = gn g 3 := hj
    subst hj
    have kb : kd Y b = 6 := by rw [c.1.k]; exact ob.k
    have hb : mi Y b = mi M b := c.1.i (by omega)
    refine r_iload_n (dk kX6_copyFrom_p0 26 rfl) rfl ?_
    first | refine r_aload_n (dk kX6_copyFrom_p0 27 rfl) rfl ?_ | refine r_aload_nN (dk kX6_copyFrom_p0 27 rfl) rfl ?_
    refine r_geti (dk kX6_copyFrom_p0 28 rfl) fa_X6_45_5 kb rfl ?_
    -- at 52
    rw [hb, v.c3 i]
    refine r_icmp_ge (tgt := 76) (dk kX6_copyFrom_p0 29 rfl) (by decide) (fun c52 => ?_) (fun c52 => absurd (nI_le (by omega) (by omega)) c52)
    refine r_iconst (v := 0) (dk kX6_copyFrom_p0 41 rfl) (by decide) ?_
    refine r_istore_n (j := 2) (dk kX6_copyFrom_p0 42 rfl) rfl (by decide) rfl ?_
    simp only [List.set_cons_succ, List.set_cons_zero]
    -- at 78
    exact k_copy_rul o ob v i hsb _ 0 (Nat.zero_add _) Y c
  | succ d ih =>
    intro j hj Y c
    have oY : SO Y s := o.tr c.1.k c.1.l c.2.1
    have obY : SO Y b := ob.tr c.1.k c.1.l c.2.1
    have e1 : pA Y s j = pA M s j := by unfold pA; rw [c.2.1]
    have e2 : pA Y b j = pA M b j := by unfold pA; rw [c.2.1]
    have pb1 := o.pb (j := j) (by omega)
    have pb2 := ob.pb (j := j) (by omega)
    have hb : mi Y b = mi M b := c.1.i (by omega)
    have hr : mi Y (pA M b j) = mi M (pA M b j) := c.1.i (by omega)
    have k1 := oY.ka (j := j) (by omega)
    have k2 := obY.ka (j := j) (by omega)
    have t1 := oY.rp (j := j) (by omega)
    have t2 := obY.rp (j := j) (by omega)
    rw [e1] at k1 t1
    rw [e2] at k2 t2
    refine r_iload_n (dk kX6_copyFrom_p0 26 rfl) rfl ?_
    first | refine r_aload_n (dk kX6_copyFrom_p0 27 rfl) rfl ?_ | refine r_aload_nN (dk kX6_copyFrom_p0 27 rfl) rfl ?_
    refine r_geti (dk kX6_copyFrom_p0 28 rfl) fa_X6_45_5 (by first | exact oY.k | exact obY.k) rfl ?_
    -- at 52
    rw [hb, v.c3 i]
    refine r_icmp_ge (tgt := 76) (dk kX6_copyFrom_p0 29 rfl) (by decide) (fun c52 => absurd c52 (nI_ge (by omega) (by omega))) (fun c52 => ?_)
    first | refine r_aload_n (dk kX6_copyFrom_p0 30 rfl) rfl ?_ | refine r_aload_nN (dk kX6_copyFrom_p0 30 rfl) rfl ?_
    refine r_getR (dk kX6_copyFrom_p0 31 rfl) fa_X6_23_5 (by first | exact oY.k | exact obY.k) rfl (by first | exact oY.r3 | exact obY.r3) ?_
    refine r_iload_n (dk kX6_copyFrom_p0 32 rfl) rfl ?_
    refine r_aal (dk kX6_copyFrom_p0 33 rfl) oY.k4 (by decide) oY.l4 rfl (show j < 8 by omega) (by decide) t1 ?_
    first | refine r_aload_n (dk kX6_copyFrom_p0 34 rfl) rfl ?_ | refine r_aload_nN (dk kX6_copyFrom_p0 34 rfl) rfl ?_
    refine r_getR (dk kX6_copyFrom_p0 35 rfl) fa_X6_23_5 (by first | exact oY.k | exact obY.k) rfl (by first | exact oY.r3 | exact obY.r3) ?_
    refine r_iload_n (dk kX6_copyFrom_p0 36 rfl) rfl ?_
    refine r_aal (dk kX6_copyFrom_p0 37 rfl) obY.k4 (by decide) obY.l4 rfl (show j < 8 by omega) (by decide) t2 ?_
    refine r_callVu (I' := IX4_copyFrom) (as := [_]) (dk kX6_copyFrom_p0 38 rfl) mv_X4_copyFrom ml_X6_48 rfl rfl k1 rfl rfl (Nat.le_of_ble_eq_true rfl) ⟨by decide, by decide⟩ ⟨rfl, rfl⟩ ⟨Nat.le_of_ble_eq_true rfl, Nat.le_of_ble_eq_true rfl⟩ (k_X4_copyFrom k1 k2 (by omega)) ?_
    refine r_iinc (dk kX6_copyFrom_p0 39 rfl) (by decide) rfl rfl rfl ?_
    simp only [List.set_cons_succ, List.set_cons_zero]
    refine r_goto (tgt := 47) (dk kX6_copyFrom_p0 40 rfl) (by decide) ?_
    -- at 47
    rw [show nI j + Int32.ofInt 1 = nI (j + 1) from nI_1 j]
    obtain ⟨rY, mY1, c1, c2, c3, c4⟩ := c
    refine ih (j + 1) (by omega) _ ⟨rY.sA _ (by omega), mY1, fun k hk => ?_, fun k hk => ?_, fun z hz w hw => ?_, fun z hz w hw => absurd hz (Nat.not_lt_zero z)⟩
    · rw [mi_sA_n _ _ (by omega), mi_sA_n _ _ (by omega)]
      exact c1 k hk
    · rw [mi_sA_n _ _ (by omega)]
      exact c2 k hk
    · by_cases e : z = j
      · rw [e, mi_sA_s]
        unfold cpF
        rw [if_pos hw, hr]
      · rw [mi_sA_n _ _ (o.ne e (by omega) (by omega))]
        exact c3 z (by omega) w hw
theorem k_X6_copyFrom (o : SO M s) (ob : SO M b) (v : SV M b g q) (i : GI F g) (hsb : s + 29 < b ∨ b + 29 < s) : KK G IX6_copyFrom [.ref s, .ref b] M (qv (fun M' => FR M s (s + 29) M' ∧ mr M' = mr M ∧ SV M' s g q) nox) := by
  refine KK.ofW (by decide) (by simp [Value.category]) (Nat.le_of_ble_eq_true rfl) rfl ?_
  show WW _ _ _ 0 [_, _, lj] [] _ _ _
  first | refine r_aload_n (dk kX6_copyFrom_p0 0 rfl) rfl ?_ | refine r_aload_nN (dk kX6_copyFrom_p0 0 rfl) rfl ?_
  refine r_getR (dk kX6_copyFrom_p0 1 rfl) fa_X6_9_5 (by first | exact o.k | exact ob.k) rfl (by first | exact o.r0 | exact ob.r0) ?_
  refine r_iconst (v := 0) (dk kX6_copyFrom_p0 2 rfl) (by decide) ?_
  first | refine r_aload_n (dk kX6_copyFrom_p0 3 rfl) rfl ?_ | refine r_aload_nN (dk kX6_copyFrom_p0 3 rfl) rfl ?_
  refine r_getR (dk kX6_copyFrom_p0 4 rfl) fa_X6_9_5 (by first | exact o.k | exact ob.k) rfl (by first | exact o.r0 | exact ob.r0) ?_
  refine r_iconst (v := 0) (dk kX6_copyFrom_p0 5 rfl) (by decide) ?_
  refine r_bipush (v := 10) (dk kX6_copyFrom_p0 6 rfl) (by decide) ?_
  refine r_copyI (dk kX6_copyFrom_p0 7 rfl) ml_X6_39 ob.k1 o.k1 (N := 10) rfl (by decide) (Nat.le_of_eq ob.l1.symm) (Nat.le_of_eq o.l1.symm) ⟨Nat.le_of_ble_eq_true rfl, Nat.le_of_ble_eq_true rfl⟩ ?_
  -- at 15
  first | refine r_aload_n (dk kX6_copyFrom_p0 8 rfl) rfl ?_ | refine r_aload_nN (dk kX6_copyFrom_p0 8 rfl) rfl ?_
  refine r_getR (dk kX6_copyFrom_p0 9 rfl) fa_X6_15_5 (by first | exact o.k | exact ob.k) rfl (by first | exact o.r1 | exact ob.r1) ?_
  refine r_iconst (v := 0) (dk kX6_copyFrom_p0 10 rfl) (by decide) ?_
  first | refine r_aload_n (dk kX6_copyFrom_p0 11 rfl) rfl ?_ | refine r_aload_nN (dk kX6_copyFrom_p0 11 rfl) rfl ?_
  refine r_getR (dk kX6_copyFrom_p0 12 rfl) fa_X6_15_5 (by first | exact o.k | exact ob.k) rfl (by first | exact o.r1 | exact ob.r1) ?_
  refine r_iconst (v := 0) (dk kX6_copyFrom_p0 13 rfl) (by decide) ?_
  refine r_bipush (v := 10) (dk kX6_copyFrom_p0 14 rfl) (by decide) ?_
  refine r_copyI (dk kX6_copyFrom_p0 15 rfl) ml_X6_39 ob.k2 o.k2 (N := 10) rfl (by decide) (Nat.le_of_eq ob.l2.symm) (Nat.le_of_eq o.l2.symm) ⟨Nat.le_of_ble_eq_true rfl, Nat.le_of_ble_eq_true rfl⟩ ?_
  -- at 30
  rw [mi_sA_n _ _ (show b + 2 ≠ s + 1 by omega), mi_sA_n _ _ (show s + 2 ≠ s + 1 by omega)]
  first | refine r_aload_n (dk kX6_copyFrom_p0 16 rfl) rfl ?_ | refine r_aload_nN (dk kX6_copyFrom_p0 16 rfl) rfl ?_
  refine r_getR (dk kX6_copyFrom_p0 17 rfl) fa_X6_18_5 (by first | exact o.k | exact ob.k) rfl (by first | exact o.r2 | exact ob.r2) ?_
  refine r_iconst (v := 0) (dk kX6_copyFrom_p0 18 rfl) (by decide) ?_
  first | refine r_aload_n (dk kX6_copyFrom_p0 19 rfl) rfl ?_ | refine r_aload_nN (dk kX6_copyFrom_p0 19 rfl) rfl ?_
  refine r_getR (dk kX6_copyFrom_p0 20 rfl) fa_X6_18_5 (by first | exact o.k | exact ob.k) rfl (by first | exact o.r2 | exact ob.r2) ?_
  refine r_iconst (v := 0) (dk kX6_copyFrom_p0 21 rfl) (by decide) ?_
  refine r_bipush (v := 6) (dk kX6_copyFrom_p0 22 rfl) (by decide) ?_
  refine r_copyI (dk kX6_copyFrom_p0 23 rfl) ml_X6_39 ob.k3 o.k3 (N := 6) rfl (by decide) (Nat.le_of_eq ob.l3.symm) (Nat.le_of_eq o.l3.symm) ⟨Nat.le_of_ble_eq_true rfl, Nat.le_of_ble_eq_true rfl⟩ ?_
  refine r_iconst (v := 0) (dk kX6_copyFrom_p0 24 rfl) (by decide) ?_
  refine r_istore_n (j := 2) (dk kX6_copyFrom_p0 25 rfl) rfl (by decide) rfl ?_
  simp only [List.set_cons_succ, List.set_cons_zero]
  -- at 47
  rw [mi_sA_n _ _ (show b + 3 ≠ s + 2 by omega), mi_sA_n _ _ (show b + 3 ≠ s + 1 by omega), mi_sA_n _ _ (show s + 3 ≠ s + 2 by omega), mi_sA_n _ _ (show s + 3 ≠ s + 1 by omega)]
  refine k_copy_pet o ob v i hsb _ 0 (Nat.zero_add _) _ ⟨(((FR.rfl M s (s + 29)).sA _ (by omega)).sA _ (by omega)).sA _ (by omega), rfl, fun k hk => ⟨?_, ?_⟩, fun k hk => ?_, fun z hz w hw => absurd hz (Nat.not_lt_zero z), fun z hz w hw => absurd hz (Nat.not_lt_zero z)⟩
  · rw [mi_sA_n _ _ (by omega), mi_sA_n _ _ (by omega), mi_sA_s, va_cpy_0 hk]
  · rw [mi_sA_n _ _ (by omega), mi_sA_s, va_cpy_0 hk]
  · rw [mi_sA_s, va_cpy_0 hk]
end CLASS
