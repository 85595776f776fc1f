/-! THE CLASS: texts fed, changes undone, snapshots, lines written -/
/-- answers y and leaves the board B', or throws E and leaves it as it was -/
def QOp (F : Nat) (M : Mm) (x : Nat) (B : BS) (ok : Bool) (y : Int32) (B' : BS) (E0 : String) : QQ := qi (fun z M' => ok = true ∧ z = y ∧ FX M x (x + 349) M' ∧ CB F M' x B') (fun E M' => ok = false ∧ E = E0 ∧ ∃ z, M' = sX M z)
def nS : String := "java/lang/IllegalStateException"
def bFeed (B : BS) (c : Int32) : BS := (bg B, (bc B, bH B), bs B, ((btx B).1 + 1, va_up (btx B).2 (btx B).1 c), bl B, bf B, bd B)
def bUndo (B : BS) : BS := (bH B (bc B - 1), (bc B - 1, bH B), bs B, btx B, bl B, bf B, bd B)
def bSave (B : BS) : BS := (bg B, (bc B, bH B), some (bg B), btx B, bl B, bf B, bd B)
def bRest (B : BS) (s : Nat → Int32) : BS := (s, (0, bH B), bs B, btx B, bl B, bf B, bd B)
def bLine (B : BS) (l : LN) : BS := (bg B, (bc B, bH B), bs B, btx B, l, bf B, bd B)
theorem cl_n (M : Mm) (a : Nat) (l : LN) {z : Nat} (h1 : z ≠ a) (h2 : z ≠ a + 1) : mi (cLn M a l) z = mi M z := by
  unfold cLn
  rw [mi_sA_n _ _ h1, mi_sA_n _ _ h2]
theorem cl_clear (M : Mm) (a : Nat) : sI M a 1 0 = cLn M a (mi M (a + 1), 0) := by
  unfold cLn
  rw [sA_eq]
  rfl
section CLASS
variable {G : GG} {M : Mm} {x F : Nat} {B : BS}
theorem CB.feed (cb : CB F M x B) {c : Int32} (hc : narrow .char (.int c) = .int c) (h60 : (btx B).1 < 60) : CB F (cLn M (x + 333) (lPut (mi M (x + 334), (btx B).1) c)) x (bFeed B c) := by
  have ag : ∀ p r, (r < x + 333 ∨ x + 334 < p) → AG M (cLn M (x + 333) (lPut (mi M (x + 334), (btx B).1) c)) p r := fun p r hp => ⟨rfl, rfl, fun z h1 h2 => ⟨cl_n _ _ _ (by omega) (by omega), rfl⟩⟩
  have hx : mi (cLn M (x + 333) (lPut (mi M (x + 334), (btx B).1) c)) x = mi M x := cl_n _ _ _ (by omega) (by omega)
  obtain ⟨c0, i, c1, c2, c3, c4, c5, c6, c7⟩ := cb
  refine ⟨c0.tr rfl rfl rfl, i, c1.ag c0.s i.1.1 (ag _ _ (by omega)), c2.ag c0.n i.2.2.2 (by rw [hx]) (ag _ _ (by omega)), c3.ag c0.h i.2.1 i.2.2.1 (ag _ _ (by omega)), ?_, c5.ag (ag _ _ (by omega)), by rw [hx]; exact c6, ?_⟩
  · obtain ⟨o, h1, h2, h3, h4⟩ := c4
    have key : ∀ k, k < (btx B).1 + 1 → va_up (mi M (x + 334)) (btx B).1 c k = va_up (btx B).2 (btx B).1 c k := fun k hk => by
      by_cases e : k = (btx B).1
      · rw [e, va_up_self, va_up_self]
      · rw [va_up_ne _ _ e, va_up_ne _ _ e]
        exact h3 k (by omega)
    refine ⟨o.to rfl rfl rfl, cl_1 _ _ _, by show (btx B).1 + 1 ≤ 60; omega, fun k hk => ?_, fun k hk => ?_⟩
    · rw [cl_c]
      exact key k hk
    · show narrow .char (.int (va_up (btx B).2 (btx B).1 c k)) = .int (va_up (btx B).2 (btx B).1 c k)
      have hk : k < (btx B).1 + 1 := hk
      by_cases e : k = (btx B).1
      · rw [e, va_up_self]; exact hc
      · rw [va_up_ne _ _ e]
        exact h4 k (by omega)
  · unfold C7
    rw [hx]
    exact c7
theorem k_X8_feed (cb : CB F M x B) {c : Int32} (hc : narrow .char (.int c) = .int c) : KK G IX8_feed [.ref x, .int c] M (QOp F M x B (decide ((btx B).1 < 60)) (nI ((btx B).1 + 1)) (bFeed B c) nS) := by
  refine KK.ofW (by decide) (by simp [Value.category]) (Nat.le_of_ble_eq_true rfl) rfl ?_
  show WW _ _ _ 0 [_, _] [] _ _ _
  have h60 := cb.c4.2.2.1
  have h1 := cb.c4.2.1
  have hc2 : vp_nar .char c = c := by
    have h2 : narrow .char (.int c) = .int (vp_nar .char c) := rfl
    rw [h2] at hc
    injection hc
  refine r_aload_n (dk kX8_feed 0 rfl) rfl ?_
  refine r_getR (dk kX8_feed 1 rfl) fa_X8_29_7 cb.o.k rfl cb.o.r3 ?_
  refine r_geti (dk kX8_feed 2 rfl) fa_X8_243_2 cb.o.t.1 rfl ?_
  -- at 7
  rw [h1]
  by_cases hn : (btx B).1 < 60
  · have hp := k_X3_put (G := G) (M := M) cb.o.t (l := (mi M (x + 333 + 1), (btx B).1)) h60 hc2
    rw [cl_self h1, if_pos hn] at hp
    rw [decide_eq_true hn]
    refine r_bipush (v := 60) (dk kX8_feed 3 rfl) (by decide) ?_
    refine r_icmp_lt (tgt := 22) (dk kX8_feed 4 rfl) (by decide) (fun c9 => ?_) (fun c9 => absurd (nI_lt (a := (btx B).1) (b := 60) hn (by decide)) c9)
    refine r_aload_n (dk kX8_feed 10 rfl) rfl ?_
    refine r_getR (dk kX8_feed 11 rfl) fa_X8_29_7 cb.o.k rfl cb.o.r3 ?_
    refine r_iload_n (dk kX8_feed 12 rfl) rfl ?_
    refine r_callVu (I' := IX3_put) (as := [_]) (dk kX8_feed 13 rfl) mv_X3_put ml_X8_251 rfl rfl cb.o.t.1 rfl rfl (Nat.le_of_ble_eq_true rfl) ⟨by decide, by decide⟩ ⟨rfl, rfl⟩ ⟨Nat.le_of_ble_eq_true rfl, Nat.le_of_ble_eq_true rfl⟩ hp ?_
    refine r_aload_n (dk kX8_feed 14 rfl) rfl ?_
    refine r_getR (dk kX8_feed 15 rfl) fa_X8_29_7 cb.o.k rfl cb.o.r3 ?_
    refine r_geti (dk kX8_feed 16 rfl) fa_X8_243_2 cb.o.t.1 rfl ?_
    -- at 37
    rw [cl_1]
    refine r_ireturn (dk kX8_feed 17 rfl) rfl rfl ⟨Nat.le_of_ble_eq_true rfl, Nat.le_of_ble_eq_true rfl⟩ ⟨rfl, rfl, ⟨rfl, rfl, rfl, rfl, fun z hz => ⟨cl_n _ _ _ (by omega) (by omega), rfl⟩⟩, cb.feed hc hn⟩
  · rw [decide_eq_false hn]
    refine r_bipush (v := 60) (dk kX8_feed 3 rfl) (by decide) ?_
    refine r_icmp_lt (tgt := 22) (dk kX8_feed 4 rfl) (by decide) (fun c9 => absurd c9 (nI_nlt (a := (btx B).1) (b := 60) (by omega) (by omega))) (fun c9 => ?_)
    -- at 12
    refine r_throwS xw_246 (is := 248) (List.mem_of_getElem? (i := 5) rfl) rfl rfl (dk kX8_feed 5 rfl) (dk kX8_feed 6 rfl) (dk kX8_feed 7 rfl) (dk kX8_feed 8 rfl) (dk kX8_feed 9 rfl) ⟨Nat.le_of_ble_eq_true rfl, Nat.le_of_ble_eq_true rfl⟩ ⟨Nat.le_of_ble_eq_true rfl, Nat.le_of_ble_eq_true rfl⟩ (fun z => ?_)
    exact ⟨rfl, rfl, _, rfl⟩
/-- the state and the count of changes alone have changed -/
theorem CB.back (cb : CB F M x B) {M1 M' : Mm} {c : Nat} (hM1 : M1 = sI M (x + 61) 1 (nI c)) (hc : c ≤ bc B) (r : FR M1 (x + 1) (x + 30) M') (hm : mr M' = mr M) {g' : Nat → Int32} (i' : GG2 F g') (v : C1 M' x g') : FX M x (x + 349) M' ∧ CB F M' x (g', (c, bH B), bs B, btx B, bl B, bf B, bd B) := by
  have kk : kd M' = kd M := by rw [r.k, hM1]; rfl
  have ll : ln M' = ln M := by rw [r.l, hM1]; rfl
  have ms : ∀ z, (z < x + 1 ∨ x + 30 < z) → z ≠ x + 61 → mi M' z = mi M z := fun z h1 h2 => by rw [r.i h1, hM1, mi_sI_n _ _ _ h2]
  have m61 : mi M' (x + 61) = va_up (mi M (x + 61)) 1 (nI c) := by rw [r.i (by omega), hM1, mi_sI_s]
  have hx : mi M' x = mi M x := ms x (by omega) (by omega)
  have ag : ∀ p r, x + 30 < p → (r < x + 61 ∨ x + 61 < p) → AG M M' p r := fun p r h1 h2 => ⟨kk, ll, fun z h3 h4 => ⟨ms z (by omega) (by omega), by rw [hm]⟩⟩
  have c8 := cb.i.2.1
  refine ⟨⟨kk, ll, by rw [r.2.2.1, hM1]; rfl, by rw [r.2.2.2.1, hM1]; rfl, fun z hz => ⟨ms z (by omega) (by omega), by rw [hm]⟩⟩, ?_⟩
  obtain ⟨c0, i, c1, c2, c3, c4, c5, c6, c7⟩ := cb
  refine ⟨c0.tr kk ll hm, ⟨i', Nat.le_trans hc c8, fun j hj => i.2.2.1 j (Nat.lt_of_lt_of_le hj hc), i.2.2.2⟩, v, c2.ag c0.n i.2.2.2 (by rw [hx]) (ag _ _ (by omega) (by omega)), ⟨by rw [m61, va_up_self], fun j hj => ?_⟩, c4.ag (ag _ _ (by omega) (by omega)), c5.ag (ag _ _ (by omega) (by omega)), by rw [hx]; exact c6, ?_⟩
  · have hj : j < c := hj
    obtain ⟨q, w⟩ := c3.2 j (by omega)
    have hb := c0.h.b (j := j) (by omega)
    have hp : hA M' (x + 61) j = hA M (x + 61) j := by unfold hA; rw [hm]
    exact ⟨q, by rw [hp]; exact w.ag (c0.h.s (by omega)) (i.2.2.1 j (by omega)).1 (ag _ _ (by omega) (by omega))⟩
  · unfold C7
    rw [hx]
    exact c7
theorem k_X8_undo (cb : CB F M x B) : KK G IX8_undo [.ref x] M (QOp F M x B (decide (bc B ≠ 0)) (nI (bc B - 1)) (bUndo B) nS) := by
  refine KK.ofW (by decide) (by simp [Value.category]) (Nat.le_of_ble_eq_true rfl) rfl ?_
  show WW _ _ _ 0 [_] [] _ _ _
  have h1 := cb.c3.1
  have c8 := cb.i.2.1
  refine r_aload_n (dk kX8_undo 0 rfl) rfl ?_
  refine r_getR (dk kX8_undo 1 rfl) fa_X8_22_7 cb.o.k rfl cb.o.r2 ?_
  refine r_geti (dk kX8_undo 2 rfl) fa_X8_329_1 cb.o.h.k rfl ?_
  -- at 7
  rw [h1]
  by_cases h0 : bc B = 0
  · rw [decide_eq_false (fun z => z h0)]
    refine r_if_ne (tgt := 21) (dk kX8_undo 3 rfl) (by decide) (fun c7 => absurd c7 (by rw [h0]; exact fun z => z rfl)) (fun c7 => ?_)
    -- at 10
    refine r_throwSW xw_246 (is := 330) (List.mem_of_getElem? (i := 11) rfl) rfl rfl (dk kX8_undo 4 rfl) (dk kX8_undo 5 rfl) (dk kX8_undo 6 rfl) (dk kX8_undo 7 rfl) (dk kX8_undo 8 rfl) ⟨Nat.le_of_ble_eq_true rfl, Nat.le_of_ble_eq_true rfl⟩ ⟨Nat.le_of_ble_eq_true rfl, Nat.le_of_ble_eq_true rfl⟩ (fun z => ?_)
    exact ⟨rfl, rfl, _, rfl⟩
  · rw [decide_eq_true h0]
    have i1 := cb.i.2.2.1 (bc B - 1) (by omega)
    obtain ⟨q, v⟩ := cb.c3.2 (bc B - 1) (by omega)
    have hb := k_X2_bringBackLatest (G := G) cb.o.h cb.o.s (by omega) (c := bc B - 1) (by rw [h1]; congr 1; omega) (by omega) v i1.1
    refine r_if_ne (tgt := 21) (dk kX8_undo 3 rfl) (by decide) (fun c7 => ?_) (fun c7 => absurd (nI_ne0 (by omega) (by omega)) c7)
    refine r_aload_n (dk kX8_undo 9 rfl) rfl ?_
    refine r_getR (dk kX8_undo 10 rfl) fa_X8_22_7 cb.o.k rfl cb.o.r2 ?_
    refine r_aload_n (dk kX8_undo 11 rfl) rfl ?_
    refine r_getR (dk kX8_undo 12 rfl) fa_X8_12_7 cb.o.k rfl cb.o.r0 ?_
    refine r_callV (I' := IX2_bringBackLatest) (as := [_]) (dk kX8_undo 13 rfl) mv_X2_bringBackLatest ml_X8_332 rfl rfl cb.o.h.k rfl rfl (Nat.le_of_ble_eq_true rfl) ⟨by decide, by decide⟩ ⟨Nat.le_of_ble_eq_true rfl, Nat.le_of_ble_eq_true rfl⟩ hb ?_ ?_
    · exact fun E M' z => z.elim
    rintro w M' ⟨rfl, r, hm, v'⟩
    show WW G IX8_undo _ 32 [.ref x] [] M' 0 0
    obtain ⟨f1, f2⟩ := cb.back rfl (Nat.sub_le _ _) r hm i1 ⟨q, v'⟩
    refine r_aload_n (dk kX8_undo 14 rfl) rfl ?_
    refine r_getR (dk kX8_undo 15 rfl) fa_X8_22_7 f2.o.k rfl f2.o.r2 ?_
    refine r_geti (dk kX8_undo 16 rfl) fa_X8_329_1 f2.o.h.k rfl ?_
    -- at 39
    rw [f2.c3.1]
    refine r_ireturn (dk kX8_undo 17 rfl) rfl rfl ⟨Nat.le_of_ble_eq_true rfl, Nat.le_of_ble_eq_true rfl⟩ ⟨rfl, rfl, f1, f2⟩
theorem k_X8_saveSnapshot (cb : CB F M x B) : KK G IX8_saveSnapshot [.ref x] M (QOp F M x B true (bg B 3) (bSave B) nS) := by
  refine KK.ofW (by decide) (by simp [Value.category]) (Nat.le_of_ble_eq_true rfl) rfl ?_
  show WW _ _ _ 0 [_] [] _ _ _
  obtain ⟨q, v⟩ := cb.c1
  refine r_aload_n (dk kX8_saveSnapshot 0 rfl) rfl ?_
  refine r_getR (dk kX8_saveSnapshot 1 rfl) fa_X8_16_7 cb.o.k rfl cb.o.r1 ?_
  refine r_aload_n (dk kX8_saveSnapshot 2 rfl) rfl ?_
  refine r_getR (dk kX8_saveSnapshot 3 rfl) fa_X8_12_7 cb.o.k rfl cb.o.r0 ?_
  refine r_callV (I' := IX6_copyFrom) (as := [_]) (dk kX8_saveSnapshot 4 rfl) mv_X6_copyFrom ml_X8_335 rfl rfl cb.o.n.k rfl rfl (Nat.le_of_ble_eq_true rfl) ⟨by decide, by decide⟩ ⟨Nat.le_of_ble_eq_true rfl, Nat.le_of_ble_eq_true rfl⟩ (k_X6_copyFrom cb.o.n cb.o.s v cb.i.1.1 (by omega)) ?_ ?_
  · exact fun E M' z => z.elim
  rintro w M1 ⟨rfl, r, hm, v'⟩
  show WW G IX8_saveSnapshot _ 11 [.ref x] [] M1 0 0
  have oN : BO M1 x := cb.o.tr r.k r.l hm
  have hx : mi M1 x = mi M x := r.i (by omega)
  have agN : ∀ p r2, x < p → (r2 < x + 31 ∨ x + 60 < p) → AG M (sI M1 x 7 1) p r2 := fun p r2 h1 h2 => ⟨r.k, r.l, fun z h3 h4 => ⟨by rw [mi_sI_n _ _ _ (by omega)]; exact r.i (by omega), by show mr M1 z = _; rw [hm]⟩⟩
  have hs : ∀ z, z ≠ 7 → mi (sI M1 x 7 1) x z = mi M x z := fun z hz => by rw [mi_sI_s, va_up_ne _ _ hz, hx]
  refine r_aload_n (dk kX8_saveSnapshot 5 rfl) rfl ?_
  refine r_iconst (v := 1) (dk kX8_saveSnapshot 6 rfl) (by decide) ?_
  refine r_puti (dk kX8_saveSnapshot 7 rfl) fa_X8_338_7 oN.k rfl rfl rfl rfl ?_
  refine r_aload_n (dk kX8_saveSnapshot 8 rfl) rfl ?_
  refine r_getR (dk kX8_saveSnapshot 9 rfl) fa_X8_12_7 oN.k rfl oN.r0 ?_
  refine r_geti (dk kX8_saveSnapshot 10 rfl) fa_X8_110_5 oN.s.k rfl ?_
  -- at 23
  rw [mi_sI_n _ _ _ (by omega), r.i (show x + 1 < x + 31 ∨ _ by omega), show mi M (x + 1) 7 = bg B 3 from v.1.2.2.1]
  obtain ⟨c0, i, c1, c2, c3, c4, c5, c6, c7⟩ := cb
  refine r_ireturn (dk kX8_saveSnapshot 11 rfl) rfl rfl ⟨Nat.le_of_ble_eq_true rfl, Nat.le_of_ble_eq_true rfl⟩ ⟨rfl, rfl, ⟨r.k, r.l, r.2.2.1, r.2.2.2.1, fun z hz => ⟨by rw [mi_sI_n _ _ _ (by omega)]; exact r.i (by omega), by show mr M1 z = _; rw [hm]⟩⟩, oN.tr rfl rfl rfl, ⟨i.1, i.2.1, i.2.2.1, fun s hs => by cases hs; exact i.1⟩, c1.ag c0.s i.1.1 (agN _ _ (by omega) (by omega)), ⟨by rw [mi_sI_s, va_up_self]; rfl, fun s hs => ?_⟩, c3.ag c0.h i.2.1 i.2.2.1 (agN _ _ (by omega) (by omega)), c4.ag (agN _ _ (by omega) (by omega)), c5.ag (agN _ _ (by omega) (by omega)), by rw [hs 8 (by decide)]; exact c6, ?_⟩
  · cases hs
    exact ⟨q, v'.to oN.n i.1.1 (fun z h1 h2 => mi_sI_n _ _ _ (by omega)) rfl⟩
  · unfold C7
    rw [hs 11 (by decide), hs 12 (by decide), hs 13 (by decide), hs 14 (by decide)]
    exact c7
theorem k_X8_restoreSnapshotN (cb : CB F M x B) (hs : bs B = none) (y : Int32) (B' : BS) : KK G IX8_restoreSnapshot [.ref x] M (QOp F M x B false y B' nS) := by
  refine KK.ofW (by decide) (by simp [Value.category]) (Nat.le_of_ble_eq_true rfl) rfl ?_
  show WW _ _ _ 0 [_] [] _ _ _
  have h7 := cb.c2.1
  rw [hs] at h7
  refine r_aload_n (dk kX8_restoreSnapshot 0 rfl) rfl ?_
  refine r_geti (dk kX8_restoreSnapshot 1 rfl) fa_X8_338_7 cb.o.k rfl ?_
  -- at 4
  rw [h7]
  refine r_if_ne (tgt := 18) (dk kX8_restoreSnapshot 2 rfl) (by decide) (fun c4 => absurd c4 (fun z => z rfl)) (fun c4 => ?_)
  -- at 7
  refine r_throwSW xw_246 (is := 341) (List.mem_of_getElem? (i := 12) rfl) rfl rfl (dk kX8_restoreSnapshot 3 rfl) (dk kX8_restoreSnapshot 4 rfl) (dk kX8_restoreSnapshot 5 rfl) (dk kX8_restoreSnapshot 6 rfl) (dk kX8_restoreSnapshot 7 rfl) ⟨Nat.le_of_ble_eq_true rfl, Nat.le_of_ble_eq_true rfl⟩ ⟨Nat.le_of_ble_eq_true rfl, Nat.le_of_ble_eq_true rfl⟩ (fun z => ?_)
  exact ⟨rfl, rfl, _, rfl⟩
theorem k_X8_restoreSnapshot (cb : CB F M x B) {s : Nat → Int32} (hs : bs B = some s) : KK G IX8_restoreSnapshot [.ref x] M (QOp F M x B true (s 3) (bRest B s) nS) := by
  refine KK.ofW (by decide) (by simp [Value.category]) (Nat.le_of_ble_eq_true rfl) rfl ?_
  show WW _ _ _ 0 [_] [] _ _ _
  have h7 := cb.c2.1
  rw [hs] at h7
  obtain ⟨q, v⟩ := cb.c2.2 s hs
  have i1 := cb.i.2.2.2 s hs
  refine r_aload_n (dk kX8_restoreSnapshot 0 rfl) rfl ?_
  refine r_geti (dk kX8_restoreSnapshot 1 rfl) fa_X8_338_7 cb.o.k rfl ?_
  -- at 4
  rw [h7]
  refine r_if_ne (tgt := 18) (dk kX8_restoreSnapshot 2 rfl) (by decide) (fun c4 => ?_) (fun c4 => absurd (show (1 : Int32) ≠ 0 by decide) c4)
  refine r_aload_n (dk kX8_restoreSnapshot 8 rfl) rfl ?_
  refine r_getR (dk kX8_restoreSnapshot 9 rfl) fa_X8_12_7 cb.o.k rfl cb.o.r0 ?_
  refine r_aload_n (dk kX8_restoreSnapshot 10 rfl) rfl ?_
  refine r_getR (dk kX8_restoreSnapshot 11 rfl) fa_X8_16_7 cb.o.k rfl cb.o.r1 ?_
  refine r_callV (I' := IX6_copyFrom) (as := [_]) (dk kX8_restoreSnapshot 12 rfl) mv_X6_copyFrom ml_X8_335 rfl rfl cb.o.s.k rfl rfl (Nat.le_of_ble_eq_true rfl) ⟨by decide, by decide⟩ ⟨Nat.le_of_ble_eq_true rfl, Nat.le_of_ble_eq_true rfl⟩ (k_X6_copyFrom cb.o.s cb.o.n v i1.1 (by omega)) ?_ ?_
  · exact fun E M' z => z.elim
  rintro w M1 ⟨rfl, r, hm, v'⟩
  show WW G IX8_restoreSnapshot _ 29 [.ref x] [] M1 0 0
  have oN : BO M1 x := cb.o.tr r.k r.l hm
  have r2 : FR (sI M (x + 61) 1 (nI 0)) (x + 1) (x + 30) (sI M1 (x + 61) 1 0) := by
    obtain ⟨a1, a2, a3, a4, a5, a6⟩ := r
    refine ⟨a1, a2, a3, a4, a5, fun z hz => ⟨?_, (a6 z hz).2⟩⟩
    by_cases e : z = x + 61
    · rw [e, mi_sI_s, mi_sI_s, (a6 (x + 61) (by omega)).1]
      rfl
    · rw [mi_sI_n _ _ _ e, mi_sI_n _ _ _ e]
      exact (a6 z hz).1
  have v2 : SV (sI M1 (x + 61) 1 0) (x + 1) s q := v'.to oN.s i1.1 (fun z h1 h2 => mi_sI_n _ _ _ (by have := i1.1.r.2; omega)) rfl
  obtain ⟨f1, f2⟩ := cb.back (c := 0) rfl (Nat.zero_le _) r2 hm i1 ⟨q, v2⟩
  refine r_aload_n (dk kX8_restoreSnapshot 13 rfl) rfl ?_
  refine r_getR (dk kX8_restoreSnapshot 14 rfl) fa_X8_22_7 oN.k rfl oN.r2 ?_
  refine r_callVu (I' := IX2_forget) (as := []) (dk kX8_restoreSnapshot 15 rfl) mv_X2_forget ml_X8_343 rfl rfl oN.h.k rfl rfl (Nat.le_of_ble_eq_true rfl) ⟨by decide, by decide⟩ ⟨rfl, rfl⟩ ⟨Nat.le_of_ble_eq_true rfl, Nat.le_of_ble_eq_true rfl⟩ (k_X2_forget oN.h) ?_
  refine r_aload_n (dk kX8_restoreSnapshot 16 rfl) rfl ?_
  refine r_getR (dk kX8_restoreSnapshot 17 rfl) fa_X8_12_7 oN.k rfl oN.r0 ?_
  refine r_geti (dk kX8_restoreSnapshot 18 rfl) fa_X8_110_5 oN.s.k rfl ?_
  -- at 43
  rw [show mi (sI M1 (x + 61) 1 0) (x + 1) 7 = s 3 from v2.1.2.2.1]
  refine r_ireturn (dk kX8_restoreSnapshot 19 rfl) rfl rfl ⟨Nat.le_of_ble_eq_true rfl, Nat.le_of_ble_eq_true rfl⟩ ⟨rfl, rfl, f1, f2⟩
/-- behind a written line -/
theorem CB.line (cb : CB F M x B) {l : LN} (h60 : l.2 ≤ 60) (ok : lOK l) : CB F (cLn M (x + 335) l) x (bLine B l) := by
  have ag : ∀ p r, (r < x + 335 ∨ x + 336 < p) → AG M (cLn M (x + 335) l) p r := fun p r hp => ⟨rfl, rfl, fun z h1 h2 => ⟨cl_n _ _ _ (by omega) (by omega), rfl⟩⟩
  have hx : mi (cLn M (x + 335) l) x = mi M x := cl_n _ _ _ (by omega) (by omega)
  obtain ⟨c0, i, c1, c2, c3, c4, c5, c6, c7⟩ := cb
  refine ⟨c0.tr rfl rfl rfl, i, c1.ag c0.s i.1.1 (ag _ _ (by omega)), c2.ag c0.n i.2.2.2 (by rw [hx]) (ag _ _ (by omega)), c3.ag c0.h i.2.1 i.2.2.1 (ag _ _ (by omega)), c4.ag (ag _ _ (by omega)), ⟨cl_1 _ _ _, h60, fun k _ => by rw [show x + 336 = x + 335 + 1 from rfl, cl_c]; rfl, ok⟩, by rw [hx]; exact c6, ?_⟩
  unfold C7
  rw [hx]
  exact c7
theorem dg_mark (l : LN) (k n : Nat) : l.2 + 1 + dgN 9 n = (lMark l k n).2 := by
  unfold lMark
  rw [lNum_fD]
  rfl
theorem k_X8_writeRow (cb : CB F M x B) (y : Int32) : KK G IX8_writeRow [.ref x, .int y] M (QOp F M x B (decide (0 ≤ y ∧ y < 5)) 5 (bLine B (lRow (bg B) y.toNatClampNeg (mi M (x + 336)) 5)) "java/lang/IndexOutOfBoundsException") := by
  refine KK.ofW (by decide) (by simp [Value.category]) (Nat.le_of_ble_eq_true rfl) rfl ?_
  show WW _ _ _ 0 [_, _, lj, lj] [] _ _ _
  by_cases hy : 0 ≤ y ∧ y < 5
  · obtain ⟨r, hr2, rfl⟩ := nI_of (Int32.not_lt.mpr hy.1)
    have hr : r < 5 := (nI_ltI (b := 5) hr2 (by decide)).mp hy.2
    rw [decide_eq_true hy, nI_clamp hr2]
    obtain ⟨q, v⟩ := cb.c1
    have i := cb.i.1.1
    have s11 := i.s.2
    have oL : ∀ l, BO (cLn M (x + 335) l) x := fun l => cb.o.tr rfl rfl rfl
    have vL : ∀ l, SV (cLn M (x + 335) l) (x + 1) (bg B) q := fun l => v.to cb.o.s i (fun z h1 h2 => cl_n _ _ _ (by have := i.r.2; omega) (by have := i.r.2; omega)) rfl
    refine r_iload_n (dk kX8_writeRow 0 rfl) rfl ?_
    refine r_if_lt (tgt := 9) (dk kX8_writeRow 1 rfl) (by decide) (fun c1 => absurd c1 (Int32.not_lt.mpr hy.1)) (fun c1 => ?_)
    refine r_iload_n (dk kX8_writeRow 2 rfl) rfl ?_
    refine r_iconst (v := 5) (dk kX8_writeRow 3 rfl) (by decide) ?_
    refine r_icmp_lt (tgt := 20) (dk kX8_writeRow 4 rfl) (by decide) (fun c6 => ?_) (fun c6 => absurd hy.2 c6)
    refine r_aload_n (dk kX8_writeRow 10 rfl) rfl ?_
    refine r_getR (dk kX8_writeRow 11 rfl) fa_X8_33_7 cb.o.k rfl cb.o.r4 ?_
    refine r_callVu (I' := IX3_clear) (as := []) (dk kX8_writeRow 12 rfl) mv_X3_clear ml_X8_259 rfl rfl cb.o.l.1 rfl rfl (Nat.le_of_ble_eq_true rfl) ⟨by decide, by decide⟩ ⟨rfl, rfl⟩ ⟨Nat.le_of_ble_eq_true rfl, Nat.le_of_ble_eq_true rfl⟩ (k_X3_clear cb.o.l) ?_
    -- at 27
    rw [cl_clear]
    refine r_iconst (v := 5) (dk kX8_writeRow 13 rfl) (by decide) ?_
    refine r_iload_n (dk kX8_writeRow 14 rfl) rfl ?_
    refine r_imul (dk kX8_writeRow 15 rfl) ?_
    -- at 30
    rw [show (5 : Int32) * nI r = nI (5 * r) from pk_mul 5 r]
    refine r_istore_n (j := 2) (dk kX8_writeRow 16 rfl) rfl (by decide) rfl ?_
    simp only [List.set_cons_succ, List.set_cons_zero]
    -- at 31
    have ok : ∀ j, lOK (lRow (bg B) r (mi M (x + 336)) j) := by
      intro j
      induction j with
      | zero => exact fun z hz => absurd hz (Nat.not_lt_zero z)
      | succ j ih => exact lOK_put ih (by have := lCell_lt i (5 * r + j); omega)
    suffices key : ∀ d j, j + d = 5 → ∀ w, WW G IX8_writeRow (QOp F M x B true 5 (bLine B (lRow (bg B) r (mi M (x + 336)) 5)) "java/lang/IndexOutOfBoundsException") 31 [.ref x, .int (nI r), .int (nI (5 * r + j)), w] [] (cLn M (x + 335) (lRow (bg B) r (mi M (x + 336)) j)) 0 0 from key 5 0 rfl _
    intro d
    induction d with
    | zero =>
      intro j hj w
      have hj : j = 5 := hj
      subst hj
      refine r_iload_n (dk kX8_writeRow 17 rfl) rfl ?_
      refine r_iconst (v := 5) (dk kX8_writeRow 18 rfl) (by decide) ?_
      refine r_iload_n (dk kX8_writeRow 19 rfl) rfl ?_
      refine r_imul (dk kX8_writeRow 20 rfl) ?_
      -- at 35
      rw [show (5 : Int32) * nI r = nI (5 * r) from pk_mul 5 r]
      refine r_iconst (v := 5) (dk kX8_writeRow 21 rfl) (by decide) ?_
      refine r_iadd (dk kX8_writeRow 22 rfl) ?_
      -- at 37
      rw [show nI (5 * r) + 5 = nI (5 * r + 5) from nI_add _ 5]
      refine r_icmp_ge (tgt := 80) (dk kX8_writeRow 23 rfl) (by decide) (fun c37 => ?_) (fun c37 => absurd (nI_le (by omega) (by omega)) c37)
      refine r_aload_n (dk kX8_writeRow 43 rfl) rfl ?_
      refine r_getR (dk kX8_writeRow 44 rfl) fa_X8_33_7 cb.o.k rfl cb.o.r4 ?_
      refine r_geti (dk kX8_writeRow 45 rfl) fa_X8_243_2 cb.o.l.1 rfl ?_
      -- at 87
      rw [cl_1, lRow_len]
      refine r_ireturn (dk kX8_writeRow 46 rfl) rfl rfl ⟨Nat.le_of_ble_eq_true rfl, Nat.le_of_ble_eq_true rfl⟩ ⟨rfl, rfl, ⟨rfl, rfl, rfl, rfl, fun z hz => ⟨cl_n _ _ _ (by omega) (by omega), rfl⟩⟩, cb.line (by rw [lRow_len]; decide) (ok 5)⟩
    | succ d ih =>
      intro j hj w
      refine r_iload_n (dk kX8_writeRow 17 rfl) rfl ?_
      refine r_iconst (v := 5) (dk kX8_writeRow 18 rfl) (by decide) ?_
      refine r_iload_n (dk kX8_writeRow 19 rfl) rfl ?_
      refine r_imul (dk kX8_writeRow 20 rfl) ?_
      -- at 35
      rw [show (5 : Int32) * nI r = nI (5 * r) from pk_mul 5 r]
      refine r_iconst (v := 5) (dk kX8_writeRow 21 rfl) (by decide) ?_
      refine r_iadd (dk kX8_writeRow 22 rfl) ?_
      -- at 37
      rw [show nI (5 * r) + 5 = nI (5 * r + 5) from nI_add _ 5]
      refine r_icmp_ge (tgt := 80) (dk kX8_writeRow 23 rfl) (by decide) (fun c37 => absurd c37 (nI_ge (by omega) (by omega))) (fun c37 => ?_)
      refine r_aload_n (dk kX8_writeRow 24 rfl) rfl ?_
      refine r_getR (dk kX8_writeRow 25 rfl) fa_X8_12_7 cb.o.k rfl cb.o.r0 ?_
      refine r_iload_n (dk kX8_writeRow 26 rfl) rfl ?_
      refine r_callVp (I' := IX6_findStoneIn) (as := [_]) (dk kX8_writeRow 27 rfl) mv_X6_findStoneIn ml_X8_91 rfl rfl cb.o.s.k rfl rfl (Nat.le_of_ble_eq_true rfl) ⟨by decide, by decide⟩ ⟨rfl, rfl⟩ ⟨Nat.le_of_ble_eq_true rfl, Nat.le_of_ble_eq_true rfl⟩ (k_X6_findStoneIn (oL _).s (vL _) i (nI (5 * r + j))) ?_
      -- at 48
      have hl := lRow_len (bg B) r (mi M (x + 336)) j
      have hst : lRow (bg B) r (mi M (x + 336)) (j + 1) = lPut (lRow (bg B) r (mi M (x + 336)) j) (nI (lCell (bg B) (5 * r + j))) := rfl
      cases e : gWithin (bg B) (nI (5 * r + j)) with
      | none =>
        have hc : lCell (bg B) (5 * r + j) = 46 := by unfold lCell; rw [e]
        rw [hc] at hst
        have hp := k_X3_put (G := G) (M := M) cb.o.l (l := lRow (bg B) r (mi M (x + 336)) j) (by omega) (ch_nar 46 (by decide))
        rw [if_pos (by omega), ← hst] at hp
        refine r_istore_n (j := 3) (dk kX8_writeRow 28 rfl) rfl (by decide) rfl ?_
        simp only [List.set_cons_succ, List.set_cons_zero]
        refine r_iload_n (dk kX8_writeRow 29 rfl) rfl ?_
        refine r_iconst (v := (-1)) (dk kX8_writeRow 30 rfl) (by decide) ?_
        refine r_icmp_ne (tgt := 66) (dk kX8_writeRow 31 rfl) (by decide) (fun c51 => absurd c51 (fun z => z rfl)) (fun c51 => ?_)
        refine r_aload_n (dk kX8_writeRow 32 rfl) rfl ?_
        refine r_getR (dk kX8_writeRow 33 rfl) fa_X8_33_7 cb.o.k rfl cb.o.r4 ?_
        refine r_bipush (v := 46) (dk kX8_writeRow 34 rfl) (by decide) ?_
        refine r_callVu (I' := IX3_put) (as := [_]) (dk kX8_writeRow 35 rfl) mv_X3_put ml_X8_251 rfl rfl cb.o.l.1 rfl rfl (Nat.le_of_ble_eq_true rfl) ⟨by decide, by decide⟩ ⟨rfl, rfl⟩ ⟨Nat.le_of_ble_eq_true rfl, Nat.le_of_ble_eq_true rfl⟩ hp ?_
        refine r_goto (tgt := 74) (dk kX8_writeRow 36 rfl) (by decide) ?_
        refine r_iinc (dk kX8_writeRow 41 rfl) (by decide) rfl rfl rfl ?_
        simp only [List.set_cons_succ, List.set_cons_zero]
        refine r_goto (tgt := 31) (dk kX8_writeRow 42 rfl) (by decide) ?_
        -- at 31
        rw [show nI (5 * r + j) + Int32.ofInt 1 = nI (5 * r + (j + 1)) from nI_1 _]
        exact ih (j + 1) (by omega) _
      | some k =>
        have hk := fx_lt e
        have hc : lCell (bg B) (5 * r + j) = 48 + k := by unfold lCell; rw [e]
        rw [hc] at hst
        have hne : nI k ≠ -1 := fun z => by
          have h1 := nI_pos (n := k) (by omega)
          rw [z] at h1
          exact h1 (by decide)
        have hd : dgN 9 k = 1 := by
          show (if 9 < k then dgN 8 (k / 10) + 1 else 1) = 1
          rw [if_neg (by omega)]
        have hp := k_X3_putNumber (G := G) (M := M) cb.o.l (l := lRow (bg B) r (mi M (x + 336)) j) (n := k) (by omega) (by omega)
        rw [show lNum (lRow (bg B) r (mi M (x + 336)) j) 9 k = lRow (bg B) r (mi M (x + 336)) (j + 1) by
          rw [hst]
          show lPut (if 9 < k then _ else lRow (bg B) r (mi M (x + 336)) j) (nI (48 + k % 10)) = _
          rw [if_neg (by omega), Nat.mod_eq_of_lt (by omega)]] at hp
        refine r_istore_n (j := 3) (dk kX8_writeRow 28 rfl) rfl (by decide) rfl ?_
        simp only [List.set_cons_succ, List.set_cons_zero]
        refine r_iload_n (dk kX8_writeRow 29 rfl) rfl ?_
        refine r_iconst (v := (-1)) (dk kX8_writeRow 30 rfl) (by decide) ?_
        refine r_icmp_ne (tgt := 66) (dk kX8_writeRow 31 rfl) (by decide) (fun c51 => ?_) (fun c51 => absurd hne c51)
        refine r_aload_n (dk kX8_writeRow 37 rfl) rfl ?_
        refine r_getR (dk kX8_writeRow 38 rfl) fa_X8_33_7 cb.o.k rfl cb.o.r4 ?_
        refine r_iload_n (dk kX8_writeRow 39 rfl) rfl ?_
        refine r_callVu (I' := IX3_putNumber) (as := [_]) (dk kX8_writeRow 40 rfl) mv_X3_putNumber ml_X8_301 rfl rfl cb.o.l.1 rfl rfl (Nat.le_of_ble_eq_true rfl) ⟨by decide, by decide⟩ ⟨rfl, rfl⟩ ⟨Nat.le_of_ble_eq_true rfl, Nat.le_of_ble_eq_true rfl⟩ hp ?_
        refine r_iinc (dk kX8_writeRow 41 rfl) (by decide) rfl rfl rfl ?_
        simp only [List.set_cons_succ, List.set_cons_zero]
        refine r_goto (tgt := 31) (dk kX8_writeRow 42 rfl) (by decide) ?_
        -- at 31
        rw [show nI (5 * r + j) + Int32.ofInt 1 = nI (5 * r + (j + 1)) from nI_1 _]
        exact ih (j + 1) (by omega) _
  · rw [decide_eq_false hy]
    by_cases h0 : y < 0
    · refine r_iload_n (dk kX8_writeRow 0 rfl) rfl ?_
      refine r_if_lt (tgt := 9) (dk kX8_writeRow 1 rfl) (by decide) (fun c1 => ?_) (fun c1 => absurd h0 c1)
      -- at 9
      refine r_throwSW xw_73 (is := 299) (List.mem_of_getElem? (i := 9) rfl) rfl rfl (dk kX8_writeRow 5 rfl) (dk kX8_writeRow 6 rfl) (dk kX8_writeRow 7 rfl) (dk kX8_writeRow 8 rfl) (dk kX8_writeRow 9 rfl) ⟨Nat.le_of_ble_eq_true rfl, Nat.le_of_ble_eq_true rfl⟩ ⟨Nat.le_of_ble_eq_true rfl, Nat.le_of_ble_eq_true rfl⟩ (fun z => ?_)
      exact ⟨rfl, rfl, _, rfl⟩
    · refine r_iload_n (dk kX8_writeRow 0 rfl) rfl ?_
      refine r_if_lt (tgt := 9) (dk kX8_writeRow 1 rfl) (by decide) (fun c1 => absurd c1 h0) (fun c1 => ?_)
      refine r_iload_n (dk kX8_writeRow 2 rfl) rfl ?_
      refine r_iconst (v := 5) (dk kX8_writeRow 3 rfl) (by decide) ?_
      refine r_icmp_lt (tgt := 20) (dk kX8_writeRow 4 rfl) (by decide) (fun c6 => absurd c6 (fun z => hy ⟨Int32.not_lt.mp h0, z⟩)) (fun c6 => ?_)
      -- at 9
      refine r_throwSW xw_73 (is := 299) (List.mem_of_getElem? (i := 9) rfl) rfl rfl (dk kX8_writeRow 5 rfl) (dk kX8_writeRow 6 rfl) (dk kX8_writeRow 7 rfl) (dk kX8_writeRow 8 rfl) (dk kX8_writeRow 9 rfl) ⟨Nat.le_of_ble_eq_true rfl, Nat.le_of_ble_eq_true rfl⟩ ⟨Nat.le_of_ble_eq_true rfl, Nat.le_of_ble_eq_true rfl⟩ (fun z => ?_)
      exact ⟨rfl, rfl, _, rfl⟩
theorem k_X8_writePetitionN (cb : CB F M x B) {y : Int32} (h : gPlace (bg B) y = none) (z : Int32) (B' : BS) : KK G IX8_writePetition [.ref x, .int y] M (QOp F M x B false z B' nE) := by
  refine KK.ofW (by decide) (by simp [Value.category]) (Nat.le_of_ble_eq_true rfl) rfl ?_
  show WW _ _ _ 0 [_, _, lj, lj] [] _ _ _
  obtain ⟨q, v⟩ := cb.c1
  refine r_aload_n (dk kX8_writePetition_p0 0 rfl) rfl ?_
  refine r_iload_n (dk kX8_writePetition_p0 1 rfl) rfl ?_
  refine r_callV (I' := IX8_requirePetition) (as := [_]) (dk kX8_writePetition_p0 2 rfl) mv_X8_requirePetition ml_X8_144 rfl rfl cb.o.k rfl rfl (Nat.le_of_ble_eq_true rfl) ⟨by decide, by decide⟩ ⟨Nat.le_of_ble_eq_true rfl, Nat.le_of_ble_eq_true rfl⟩ (k_X8_requirePetition cb.o v cb.i.1.1 y) ?_ ?_
  · rintro E M' ⟨h1, h2, h3⟩
    exact ⟨rfl, h2, h3⟩
  rintro w M' ⟨r, rfl, rfl, j, hj, hp, rfl⟩
  rw [h] at hp
  cases hp
theorem k_X8_writePetition (cb : CB F M x B) {y : Int32} {p : Nat} (h : gPlace (bg B) y = some p) : KK G IX8_writePetition [.ref x, .int y] M (QOp F M x B true (nI (lPet (bg B) p (mi M (x + 336))).2) (bLine B (lPet (bg B) p (mi M (x + 336)))) nE) := by
  refine KK.ofW (by decide) (by simp [Value.category]) (Nat.le_of_ble_eq_true rfl) rfl ?_
  show WW _ _ _ 0 [_, _, lj, lj] [] _ _ _
  obtain ⟨q, v⟩ := cb.c1
  have i := cb.i.1.1
  have b3 := i.p.2
  have hF := i.hF
  have h4 := i.f.2
  have s11 := i.s.2
  have o7 := i.o.2
  have r17 := i.r.2
  refine r_aload_n (dk kX8_writePetition_p0 0 rfl) rfl ?_
  refine r_iload_n (dk kX8_writePetition_p0 1 rfl) rfl ?_
  refine r_callV (I' := IX8_requirePetition) (as := [_]) (dk kX8_writePetition_p0 2 rfl) mv_X8_requirePetition ml_X8_144 rfl rfl cb.o.k rfl rfl (Nat.le_of_ble_eq_true rfl) ⟨by decide, by decide⟩ ⟨Nat.le_of_ble_eq_true rfl, Nat.le_of_ble_eq_true rfl⟩ (k_X8_requirePetition cb.o v i y) ?_ ?_
  · rintro E M' ⟨h1, h2, h3⟩
    rw [h] at h1
    cases h1
  rintro w M' ⟨r, rfl, rfl, j, hj, hp, rfl⟩
  show WW G IX8_writePetition _ 5 [.ref x, .int y, lj, lj] [.ref (pA M' (x + 1) j)] M' 1 6
  rw [h] at hp
  have hp : p = q j := Option.some.inj hp
  subst hp
  have ka := cb.o.s.ka (j := j) (by omega)
  have pb := cb.o.s.pb (j := j) (by omega)
  obtain ⟨y0, y1, y2, y3, y4, y5, y6, y7, y8⟩ := i.pi (v.o.1 j hj)
  obtain ⟨p0, p1, p2, p3, p4, p5, p6, p7, p8, pc⟩ := v.p hj
  have y02 := y0.2
  have y12 := y1.2
  have y22 := y2.2
  have y32 := y3.2
  have y42 := y4.2
  generalize hA : pA M' (x + 1) j = A at *
  have mA : ∀ l, mi (cLn M' (x + 335) l) A = mi M' A := fun l => cl_n _ _ _ (by omega) (by omega)
  have kA : ∀ l, kd (cLn M' (x + 335) l) A = 4 := fun l => ka
  refine r_astore_n (j := 2) (dk kX8_writePetition_p0 3 rfl) rfl (by decide) rfl ?_
  simp only [List.set_cons_succ, List.set_cons_zero]
  refine r_aload_n (dk kX8_writePetition_p0 4 rfl) rfl ?_
  refine r_getR (dk kX8_writePetition_p0 5 rfl) fa_X8_33_7 cb.o.k rfl cb.o.r4 ?_
  refine r_callVu (I' := IX3_clear) (as := []) (dk kX8_writePetition_p0 6 rfl) mv_X3_clear ml_X8_259 rfl rfl cb.o.l.1 rfl rfl (Nat.le_of_ble_eq_true rfl) ⟨by decide, by decide⟩ ⟨rfl, rfl⟩ ⟨Nat.le_of_ble_eq_true rfl, Nat.le_of_ble_eq_true rfl⟩ (k_X3_clear cb.o.l) ?_
  -- at 13
  rw [cl_clear]
  have b1 := lMark_le (mi M' (x + 336), 0) (c := 35) (n := gn (bg B) (35 + 11 * q j)) (by omega)
  have b2 := lMark_l2 (lMark (mi M' (x + 336), 0) 35 (gn (bg B) (35 + 11 * q j))) (c := 58) (n := gn (bg B) (35 + 11 * q j + 2)) (by omega)
  have o1 : lOK (lMark (mi M' (x + 336), 0) 35 (gn (bg B) (35 + 11 * q j))) := lOK_mark (fun z hz => absurd hz (Nat.not_lt_zero z)) (by decide) _
  refine r_aload_n (dk kX8_writePetition_p0 7 rfl) rfl ?_
  refine r_getR (dk kX8_writePetition_p0 8 rfl) fa_X8_33_7 cb.o.k rfl cb.o.r4 ?_
  refine r_bipush (v := 35) (dk kX8_writePetition_p0 9 rfl) (by decide) ?_
  refine r_aload_n (dk kX8_writePetition_p0 10 rfl) rfl ?_
  refine r_geti (dk kX8_writePetition_p0 11 rfl) fa_X8_141_3 ka rfl ?_
  -- at 23
  rw [mA, p0, y0.1]
  refine r_callVu (I' := IX3_putMarked) (as := [_, _]) (dk kX8_writePetition_p0 12 rfl) mv_X3_putMarked ml_X8_290 rfl rfl cb.o.l.1 rfl rfl (Nat.le_of_ble_eq_true rfl) ⟨by decide, by decide⟩ ⟨rfl, rfl⟩ ⟨Nat.le_of_ble_eq_true rfl, Nat.le_of_ble_eq_true rfl⟩ (k_X3_putMarked (k := 35) cb.o.l (by decide) (by omega) (by rw [dg_mark _ 35]; exact Nat.le_trans b1 (show 0 + 11 ≤ 60 by decide))) ?_
  refine r_aload_n (dk kX8_writePetition_p0 13 rfl) rfl ?_
  refine r_getR (dk kX8_writePetition_p0 14 rfl) fa_X8_33_7 cb.o.k rfl cb.o.r4 ?_
  refine r_bipush (v := 58) (dk kX8_writePetition_p0 15 rfl) (by decide) ?_
  refine r_aload_n (dk kX8_writePetition_p0 16 rfl) rfl ?_
  refine r_geti (dk kX8_writePetition_p0 17 rfl) fa_X8_152_3 ka rfl ?_
  -- at 36
  rw [mA, p3, y2.1]
  have e0 : ((mi M' (x + 336), 0) : LN).2 = 0 := rfl
  rw [e0] at b1
  have hL0 : lPet0 (bg B) (q j) (mi M' (x + 336)) = lMark (lMark (lMark (lMark (lMark (lMark (lMark (mi M' (x + 336), 0) 35 (gn (bg B) (35 + 11 * q j))) 58 (gn (bg B) (35 + 11 * q j + 2))) 62 (gn (bg B) (35 + 11 * q j + 3))) 64 (gn (bg B) (35 + 11 * q j + 1))) 33 (gn (bg B) (35 + 11 * q j + 4))) 43 (gFor (bg B) (q j))) 45 (gAg (bg B) (q j)) := rfl
  show WW G IX8_writePetition _ _ _ _ (cLn M' (x + 335) (lMark (mi M' (x + 336), 0) 35 (gn (bg B) (35 + 11 * q j)))) _ _
  generalize lMark (mi M' (x + 336), 0) 35 (gn (bg B) (35 + 11 * q j)) = L1 at *
  refine r_callVu (I' := IX3_putMarked) (as := [_, _]) (dk kX8_writePetition_p0 18 rfl) mv_X3_putMarked ml_X8_290 rfl rfl cb.o.l.1 rfl rfl (Nat.le_of_ble_eq_true rfl) ⟨by decide, by decide⟩ ⟨rfl, rfl⟩ ⟨Nat.le_of_ble_eq_true rfl, Nat.le_of_ble_eq_true rfl⟩ (k_X3_putMarked (k := 58) cb.o.l (by decide) (by omega) (by rw [dg_mark _ 58]; omega)) ?_
  refine r_aload_n (dk kX8_writePetition_p0 19 rfl) rfl ?_
  refine r_getR (dk kX8_writePetition_p0 20 rfl) fa_X8_33_7 cb.o.k rfl cb.o.r4 ?_
  refine r_bipush (v := 62) (dk kX8_writePetition_p0 21 rfl) (by decide) ?_
  refine r_aload_n (dk kX8_writePetition_p0 22 rfl) rfl ?_
  refine r_geti (dk kX8_writePetition_p0 23 rfl) fa_X8_155_3 ka rfl ?_
  -- at 49
  rw [mA, p4, y3.1]
  have o2 := lOK_mark o1 (c := 58) (by decide) (gn (bg B) (35 + 11 * q j + 2))
  generalize lMark L1 58 (gn (bg B) (35 + 11 * q j + 2)) = L2 at *
  have b3' := lMark_l2 L2 (c := 62) (n := gn (bg B) (35 + 11 * q j + 3)) (by omega)
  refine r_callVu (I' := IX3_putMarked) (as := [_, _]) (dk kX8_writePetition_p0 24 rfl) mv_X3_putMarked ml_X8_290 rfl rfl cb.o.l.1 rfl rfl (Nat.le_of_ble_eq_true rfl) ⟨by decide, by decide⟩ ⟨rfl, rfl⟩ ⟨Nat.le_of_ble_eq_true rfl, Nat.le_of_ble_eq_true rfl⟩ (k_X3_putMarked (k := 62) cb.o.l (by decide) (by omega) (by rw [dg_mark _ 62]; omega)) ?_
  refine r_aload_n (dk kX8_writePetition_p0 25 rfl) rfl ?_
  refine r_getR (dk kX8_writePetition_p0 26 rfl) fa_X8_33_7 cb.o.k rfl cb.o.r4 ?_
  refine r_bipush (v := 64) (dk kX8_writePetition_p0 27 rfl) (by decide) ?_
  refine r_aload_n (dk kX8_writePetition_p0 28 rfl) rfl ?_
  refine r_geti (dk kX8_writePetition_p0 29 rfl) fa_X8_117_3 ka rfl ?_
  -- at 62
  rw [mA, p1, y1.1]
  have o3 := lOK_mark o2 (c := 62) (by decide) (gn (bg B) (35 + 11 * q j + 3))
  generalize lMark L2 62 (gn (bg B) (35 + 11 * q j + 3)) = L3 at *
  have b4' := lMark_l2 L3 (c := 64) (n := gn (bg B) (35 + 11 * q j + 1)) (by omega)
  refine r_callVu (I' := IX3_putMarked) (as := [_, _]) (dk kX8_writePetition_p0 30 rfl) mv_X3_putMarked ml_X8_290 rfl rfl cb.o.l.1 rfl rfl (Nat.le_of_ble_eq_true rfl) ⟨by decide, by decide⟩ ⟨rfl, rfl⟩ ⟨Nat.le_of_ble_eq_true rfl, Nat.le_of_ble_eq_true rfl⟩ (k_X3_putMarked (k := 64) cb.o.l (by decide) (by omega) (by rw [dg_mark _ 64]; omega)) ?_
  refine r_aload_n (dk kX8_writePetition_p0 31 rfl) rfl ?_
  refine r_getR (dk kX8_writePetition_p0 32 rfl) fa_X8_33_7 cb.o.k rfl cb.o.r4 ?_
  refine r_bipush (v := 33) (dk kX8_writePetition_p0 33 rfl) (by decide) ?_
  refine r_aload_n (dk kX8_writePetition_p0 34 rfl) rfl ?_
  refine r_geti (dk kX8_writePetition_p0 35 rfl) fa_X8_294_3 ka rfl ?_
  -- at 75
  rw [mA, p5, y4.1]
  have o4 := lOK_mark o3 (c := 64) (by decide) (gn (bg B) (35 + 11 * q j + 1))
  generalize lMark L3 64 (gn (bg B) (35 + 11 * q j + 1)) = L4 at *
  have b5' := lMark_l2 L4 (c := 33) (n := gn (bg B) (35 + 11 * q j + 4)) (by omega)
  have o5 := lOK_mark o4 (c := 33) (by decide) (gn (bg B) (35 + 11 * q j + 4))
  refine r_callVu (I' := IX3_putMarked) (as := [_, _]) (dk kX8_writePetition_p0 36 rfl) mv_X3_putMarked ml_X8_290 rfl rfl cb.o.l.1 rfl rfl (Nat.le_of_ble_eq_true rfl) ⟨by decide, by decide⟩ ⟨rfl, rfl⟩ ⟨Nat.le_of_ble_eq_true rfl, Nat.le_of_ble_eq_true rfl⟩ (k_X3_putMarked (k := 33) cb.o.l (by decide) (by omega) (by rw [dg_mark _ 33]; omega)) ?_
  -- at 78
  generalize lMark L4 33 (gn (bg B) (35 + 11 * q j + 4)) = L5 at *
  have f6 : gFor (bg B) (q j) ≤ 6 := bN_le _
  have f7 : gAg (bg B) (q j) ≤ 6 := bN_le _
  have cF := k_X4_countFor (G := G) (M := cLn M' (x + 335) L5) (kA L5) y5.2 (by rw [mA]; exact p6.trans y5.1)
  rw [show nI (bN (gn (bg B) (35 + 11 * q j + 5))) = nI (gFor (bg B) (q j)) from rfl] at cF
  have b6' := lMark_l2 L5 (c := 43) (n := gFor (bg B) (q j)) (by omega)
  have o6 := lOK_mark o5 (c := 43) (by decide) (gFor (bg B) (q j))
  refine r_aload_n (dk kX8_writePetition_p0 37 rfl) rfl ?_
  refine r_getR (dk kX8_writePetition_p0 38 rfl) fa_X8_33_7 cb.o.k rfl cb.o.r4 ?_
  refine r_bipush (v := 43) (dk kX8_writePetition_p0 39 rfl) (by decide) ?_
  refine r_aload_n (dk kX8_writePetition_p0 40 rfl) rfl ?_
  refine r_callVp (I' := IX4_countFor) (as := []) (dk kX8_writePetition_p0 41 rfl) mv_X4_countFor ml_X8_158 rfl rfl ka rfl rfl (Nat.le_of_ble_eq_true rfl) ⟨by decide, by decide⟩ ⟨rfl, rfl⟩ ⟨Nat.le_of_ble_eq_true rfl, Nat.le_of_ble_eq_true rfl⟩ cF ?_
  refine r_callVu (I' := IX3_putMarked) (as := [_, _]) (dk kX8_writePetition_p0 42 rfl) mv_X3_putMarked ml_X8_290 rfl rfl cb.o.l.1 rfl rfl (Nat.le_of_ble_eq_true rfl) ⟨by decide, by decide⟩ ⟨rfl, rfl⟩ ⟨Nat.le_of_ble_eq_true rfl, Nat.le_of_ble_eq_true rfl⟩ (k_X3_putMarked (k := 43) cb.o.l (by decide) (by omega) (by rw [dg_mark _ 43]; omega)) ?_
  -- at 91
  generalize lMark L5 43 (gFor (bg B) (q j)) = L6 at *
  have cA := k_X4_countAgainst (G := G) (M := cLn M' (x + 335) L6) (kA L6) y6.2 (by rw [mA]; exact p7.trans y6.1)
  rw [show nI (bN (gn (bg B) (35 + 11 * q j + 6))) = nI (gAg (bg B) (q j)) from rfl] at cA
  have b7' := lMark_l2 L6 (c := 45) (n := gAg (bg B) (q j)) (by omega)
  have o7' := lOK_mark o6 (c := 45) (by decide) (gAg (bg B) (q j))
  refine r_aload_n (dk kX8_writePetition_p0 43 rfl) rfl ?_
  refine r_getR (dk kX8_writePetition_p0 44 rfl) fa_X8_33_7 cb.o.k rfl cb.o.r4 ?_
  refine r_bipush (v := 45) (dk kX8_writePetition_p0 45 rfl) (by decide) ?_
  refine r_aload_n (dk kX8_writePetition_p0 46 rfl) rfl ?_
  refine r_callVp (I' := IX4_countAgainst) (as := []) (dk kX8_writePetition_p0 47 rfl) mv_X4_countAgainst ml_X8_162 rfl rfl ka rfl rfl (Nat.le_of_ble_eq_true rfl) ⟨by decide, by decide⟩ ⟨rfl, rfl⟩ ⟨Nat.le_of_ble_eq_true rfl, Nat.le_of_ble_eq_true rfl⟩ cA ?_
  refine r_callVu (I' := IX3_putMarked) (as := [_, _]) (dk kX8_writePetition_p0 48 rfl) mv_X3_putMarked ml_X8_290 rfl rfl cb.o.l.1 rfl rfl (Nat.le_of_ble_eq_true rfl) ⟨by decide, by decide⟩ ⟨rfl, rfl⟩ ⟨Nat.le_of_ble_eq_true rfl, Nat.le_of_ble_eq_true rfl⟩ (k_X3_putMarked (k := 45) cb.o.l (by decide) (by omega) (by rw [dg_mark _ 45]; omega)) ?_
  refine r_iconst (v := 0) (dk kX8_writePetition_p0 49 rfl) (by decide) ?_
  refine r_istore_n (j := 3) (dk kX8_writePetition_p0 50 rfl) rfl (by decide) rfl ?_
  simp only [List.set_cons_succ, List.set_cons_zero]
  -- at 106
  rw [← hL0] at b7' o7' ⊢
  have hlp : lPet (bg B) (q j) (mi M' (x + 336)) = lCites (bg B) (q j) (lPet0 (bg B) (q j) (mi M' (x + 336))) (gn (bg B) (35 + 11 * q j + 7)) := rfl
  generalize lPet0 (bg B) (q j) (mi M' (x + 336)) = L7 at *
  rw [hlp]
  have cl : ∀ c, c ≤ gn (bg B) (35 + 11 * q j + 7) → (lCites (bg B) (q j) L7 c).2 ≤ 29 + 3 * c ∧ lOK (lCites (bg B) (q j) L7 c) := by
    intro c
    induction c with
    | zero => exact fun _ => ⟨by show L7.2 ≤ 29 + 3 * 0; omega, o7'⟩
    | succ c ih =>
      intro hc
      obtain ⟨h1, h2⟩ := ih (by omega)
      have h3 := (y8 c (by omega)).2
      have h5 := lMark_l2 (lCites (bg B) (q j) L7 c) (c := 94) (n := gn (bg B) (35 + 11 * q j + 8 + c)) (by omega)
      exact ⟨by show (lMark (lCites (bg B) (q j) L7 c) 94 (gn (bg B) (35 + 11 * q j + 8 + c))).2 ≤ _; omega, lOK_mark h2 (by decide) _⟩
  have y72 := y7.2
  suffices key : ∀ d c, c + d = gn (bg B) (35 + 11 * q j + 7) → WW G IX8_writePetition (QOp F M' x B true (nI (lCites (bg B) (q j) L7 (gn (bg B) (35 + 11 * q j + 7))).2) (bLine B (lCites (bg B) (q j) L7 (gn (bg B) (35 + 11 * q j + 7)))) nE) 106 [.ref x, .int y, .ref A, .int (nI c)] [] (cLn M' (x + 335) (lCites (bg B) (q j) L7 c)) 1 6 from key _ 0 (Nat.zero_add _)
  intro d
  induction d with
  | zero =>
    intro c hc
    have hc : c = gn (bg B) (35 + 11 * q j + 7) := hc
    subst hc
    obtain ⟨h1, h2⟩ := cl _ (Nat.le_refl _)
    refine r_iload_n (dk kX8_writePetition_p0 51 rfl) rfl ?_
    refine r_aload_n (dk kX8_writePetition_p0 52 rfl) rfl ?_
    refine r_geti (dk kX8_writePetition_p0 53 rfl) fa_X8_297_3 ka rfl ?_
    -- at 111
    rw [mA, p8, y7.1]
    refine r_icmp_ge (tgt := 134) (dk kX8_writePetition_p0 54 rfl) (by decide) (fun c111 => ?_) (fun c111 => absurd (Int32.le_refl _) c111)
    refine r_aload_n (dk kX8_writePetition_p1 4 rfl) rfl ?_
    refine r_getR (dk kX8_writePetition_p1 5 rfl) fa_X8_33_7 cb.o.k rfl cb.o.r4 ?_
    refine r_geti (dk kX8_writePetition_p1 6 rfl) fa_X8_243_2 cb.o.l.1 rfl ?_
    -- at 141
    rw [cl_1]
    refine r_ireturn (dk kX8_writePetition_p1 7 rfl) rfl rfl ⟨Nat.le_of_ble_eq_true rfl, Nat.le_of_ble_eq_true rfl⟩ ⟨rfl, rfl, ⟨rfl, rfl, rfl, rfl, fun z hz => ⟨cl_n _ _ _ (by omega) (by omega), rfl⟩⟩, cb.line (by omega) h2⟩
  | succ d ih =>
    intro c hc
    obtain ⟨h1, h2⟩ := cl c (by omega)
    have hk := y8 c (by omega)
    have hk2 := hk.2
    have h5 := lMark_l2 (lCites (bg B) (q j) L7 c) (c := 94) (n := gn (bg B) (35 + 11 * q j + 8 + c)) (by omega)
    refine r_iload_n (dk kX8_writePetition_p0 51 rfl) rfl ?_
    refine r_aload_n (dk kX8_writePetition_p0 52 rfl) rfl ?_
    refine r_geti (dk kX8_writePetition_p0 53 rfl) fa_X8_297_3 ka rfl ?_
    -- at 111
    rw [mA, p8, y7.1]
    refine r_icmp_ge (tgt := 134) (dk kX8_writePetition_p0 54 rfl) (by decide) (fun c111 => absurd c111 (nI_ge (by omega) (by omega))) (fun c111 => ?_)
    refine r_aload_n (dk kX8_writePetition_p0 55 rfl) rfl ?_
    refine r_getR (dk kX8_writePetition_p0 56 rfl) fa_X8_33_7 cb.o.k rfl cb.o.r4 ?_
    refine r_bipush (v := 94) (dk kX8_writePetition_p0 57 rfl) (by decide) ?_
    refine r_aload_n (dk kX8_writePetition_p0 58 rfl) rfl ?_
    refine r_iload_n (dk kX8_writePetition_p0 59 rfl) rfl ?_
    refine r_callUp (I' := IX0_citedAt) (as := [_]) (dk kX8_writePetition_p1 0 rfl) mu_X8_298_3 rfl rfl ka rfl rfl (Nat.le_of_ble_eq_true rfl) ⟨by decide, by decide⟩ ⟨rfl, rfl⟩ ⟨Nat.le_of_ble_eq_true rfl, Nat.le_of_ble_eq_true rfl⟩ (k_X0_citedAtP (kA _) (by omega)) ?_
    -- at 125
    rw [mA, pc c (by omega), hk.1]
    refine r_callVu (I' := IX3_putMarked) (as := [_, _]) (dk kX8_writePetition_p1 1 rfl) mv_X3_putMarked ml_X8_290 rfl rfl cb.o.l.1 rfl rfl (Nat.le_of_ble_eq_true rfl) ⟨by decide, by decide⟩ ⟨rfl, rfl⟩ ⟨Nat.le_of_ble_eq_true rfl, Nat.le_of_ble_eq_true rfl⟩ (k_X3_putMarked (k := 94) cb.o.l (by decide) (by omega) (by rw [dg_mark _ 94]; omega)) ?_
    refine r_iinc (dk kX8_writePetition_p1 2 rfl) (by decide) rfl rfl rfl ?_
    simp only [List.set_cons_succ, List.set_cons_zero]
    refine r_goto (tgt := 106) (dk kX8_writePetition_p1 3 rfl) (by decide) ?_
    -- at 106
    rw [show nI c + Int32.ofInt 1 = nI (c + 1) from nI_1 c]
    exact ih (c + 1) (by omega)
end CLASS
