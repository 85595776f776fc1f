/-! THE REFERENCE: written lines -/
/-- all that is written are signs below 128 -/
def lOK (l : LN) : Prop := ∀ i, i < l.2 → ∃ k, k < 128 ∧ l.1 i = nI k
theorem lOK_put {l : LN} (o : lOK l) {k : Nat} (hk : k < 128) : lOK (lPut l (nI k)) := by
  intro i hi
  by_cases h : i = l.2
  · exact ⟨k, hk, by rw [h]; exact va_up_self _ _ _⟩
  · have hi : i < l.2 + 1 := hi
    obtain ⟨q, h1, h2⟩ := o i (by omega)
    exact ⟨q, h1, (va_up_ne _ _ h).trans h2⟩
theorem lOK_num {l : LN} (o : lOK l) : ∀ z n, lOK (lNum l z n)
  | 0, n => lOK_put o (by omega)
  | z + 1, n => by
    show lOK (lPut (if 9 < n then lNum l z (n / 10) else l) (nI (48 + n % 10)))
    split
    · exact lOK_put (lOK_num o z _) (by omega)
    · exact lOK_put o (by omega)
theorem lOK_mark {l : LN} (o : lOK l) {c : Nat} (hc : c < 128) (n : Nat) : lOK (lMark l c n) := lOK_num (lOK_put o hc) _ _
theorem lNum_len (l : LN) : ∀ z n j, n < 10 ^ (j + 1) → (lNum l z n).2 ≤ l.2 + j + 1
  | 0, n, j, _ => by show l.2 + 1 ≤ _; omega
  | z + 1, n, j, h => by
    show (if 9 < n then lNum l z (n / 10) else l).2 + 1 ≤ _
    split
    · rename_i h9
      cases j with
      | zero => have h : n < 10 := h; omega
      | succ j =>
        have ih := lNum_len l z (n / 10) j (by rw [Nat.div_lt_iff_lt_mul (by decide)]; exact h)
        omega
    · omega
theorem lMark_le (l : LN) {c n : Nat} (h : n < 10 ^ 10) : (lMark l c n).2 ≤ l.2 + 11 := by
  have h1 := lNum_len (lPut l (nI c)) 9 n 9 h
  have e : (lPut l (nI c)).2 = l.2 + 1 := rfl
  unfold lMark
  omega
theorem lMark_l2 (l : LN) {c n : Nat} (h : n < 100) : (lMark l c n).2 ≤ l.2 + 3 := by
  have h1 := lNum_len (lPut l (nI c)) 9 n 1 h
  have e : (lPut l (nI c)).2 = l.2 + 1 := rfl
  unfold lMark
  omega
/-- the cited rulings of the petition at place p, the first c of them -/
def lCites (g : Nat → Int32) (p : Nat) (l : LN) : Nat → LN
  | 0 => l
  | c + 1 => lMark (lCites g p l c) 94 (gn g (35 + 11 * p + 8 + c))
def lPet0 (g : Nat → Int32) (p : Nat) (f : Nat → Int32) : LN := lMark (lMark (lMark (lMark (lMark (lMark (lMark (f, 0) 35 (gn g (35 + 11 * p))) 58 (gn g (35 + 11 * p + 2))) 62 (gn g (35 + 11 * p + 3))) 64 (gn g (35 + 11 * p + 1))) 33 (gn g (35 + 11 * p + 4))) 43 (gFor g p)) 45 (gAg g p)
def lPet (g : Nat → Int32) (p : Nat) (f : Nat → Int32) : LN := lCites g p (lPet0 g p f) (gn g (35 + 11 * p + 7))
def lCell (g : Nat → Int32) (c : Nat) : Nat := match gWithin g (nI c) with
  | none => 46
  | some k => 48 + k
def lRow (g : Nat → Int32) (r : Nat) (f : Nat → Int32) : Nat → LN
  | 0 => (f, 0)
  | j + 1 => lPut (lRow g r f j) (nI (lCell g (5 * r + j)))
theorem lRow_len (g : Nat → Int32) (r : Nat) (f : Nat → Int32) : ∀ j, (lRow g r f j).2 = j
  | 0 => rfl
  | j + 1 => by
    show (lRow g r f j).2 + 1 = _
    rw [lRow_len g r f j]
theorem lCell_lt {F : Nat} {g : Nat → Int32} (gi : GI F g) (c : Nat) : lCell g c < 60 := by
  have hs := gi.s.2
  unfold lCell
  cases e : gWithin g (nI c) with
  | none => decide
  | some k =>
    have := fx_lt e
    show 48 + k < 60
    omega
section MODEL
variable {G : GG} {M : Mm} {h : Nat}
theorem k_X9_writePetitionF (o : MO M h) {F : Nat} (gi : GI F (mi M (h + 1))) {x : Int32} (e : gPlace (mi M (h + 1)) x = none) : KE G IX9_writePetition [.ref h, .int x] M 0 (mFail M h 1) := by
  refine KK.ofW (by decide) (by simp [Value.category]) (Nat.le_of_ble_eq_true rfl) rfl ?_
  show WW _ _ _ 0 [_, _, lj, lj] [] _ _ _
  have e1 : bI (gPlace (mi M (h + 1)) x = none) = 1 := bI_t e
  refine r_aload_n (dk kX9_writePetition_p0 0 rfl) rfl ?_
  refine r_iload_n (dk kX9_writePetition_p0 1 rfl) rfl ?_
  refine r_callVp (I' := IX9_isNone) (as := [_]) (dk kX9_writePetition_p0 2 rfl) mv_X9_isNone ml_X9_133 rfl rfl o.k rfl rfl (Nat.le_of_ble_eq_true rfl) ⟨by decide, by decide⟩ ⟨rfl, rfl⟩ ⟨Nat.le_of_ble_eq_true rfl, Nat.le_of_ble_eq_true rfl⟩ (k_X9_isNone o gi x) ?_
  refine r_if_eq (tgt := 10) (dk kX9_writePetition_p0 3 rfl) (by decide) (fun c5 => absurd c5 (by rw [e1]; decide)) (fun c5 => ?_)
  refine r_iconst (v := 0) (dk kX9_writePetition_p0 4 rfl) (by decide) ?_
  refine r_ireturn (dk kX9_writePetition_p0 5 rfl) rfl rfl ⟨Nat.le_of_ble_eq_true rfl, Nat.le_of_ble_eq_true rfl⟩ ⟨rfl, by rw [e1]⟩
theorem k_X9_writePetitionO (o : MO M h) {F : Nat} (gi : GI F (mi M (h + 1))) {x : Int32} {p : Nat} (e : gPlace (mi M (h + 1)) x = some p) : KE G IX9_writePetition [.ref h, .int x] M (nI (lPet (mi M (h + 1)) p (mi M (h + 6))).2) (mLine (mFail M h 0) h (lPet (mi M (h + 1)) p (mi M (h + 6)))) := by
  refine KK.ofW (by decide) (by simp [Value.category]) (Nat.le_of_ble_eq_true rfl) rfl ?_
  show WW _ _ _ 0 [_, _, lj, lj] [] _ _ _
  have gf : ∀ p, GI F (mi (mFail M h p) (h + 1)) := fun p => by rw [mf1]; exact gi
  have hp := fx_lt e
  have hp8 := gi.p.2
  have hs := gi.s.2
  have ho := gi.o.2
  have hF := gi.hF
  have hf := gi.f.2
  have hr := gi.r.2
  have e1 : bI (gPlace (mi M (h + 1)) x = none) = 0 := bI_f (by rw [e]; exact Option.some_ne_none _)
  have hx : mi M (h + 1) (35 + 11 * p) = x := of_decide_eq_true (fx_at e)
  obtain ⟨⟨y0, y0'⟩, ⟨y1, y1'⟩, ⟨y2, y2'⟩, ⟨y3, y3'⟩, ⟨y4, y4'⟩, ⟨y5, y5'⟩, ⟨y6, y6'⟩, ⟨y7, y7'⟩, y8⟩ := gi.pi hp
  refine r_aload_n (dk kX9_writePetition_p0 0 rfl) rfl ?_
  refine r_iload_n (dk kX9_writePetition_p0 1 rfl) rfl ?_
  refine r_callVp (I' := IX9_isNone) (as := [_]) (dk kX9_writePetition_p0 2 rfl) mv_X9_isNone ml_X9_133 rfl rfl o.k rfl rfl (Nat.le_of_ble_eq_true rfl) ⟨by decide, by decide⟩ ⟨rfl, rfl⟩ ⟨Nat.le_of_ble_eq_true rfl, Nat.le_of_ble_eq_true rfl⟩ (k_X9_isNone o gi x) ?_
  refine r_if_eq (tgt := 10) (dk kX9_writePetition_p0 3 rfl) (by decide) (fun c5 => ?_) (fun c5 => absurd (by rw [e1]) c5)
  refine r_aload_n (dk kX9_writePetition_p0 6 rfl) rfl ?_
  refine r_iload_n (dk kX9_writePetition_p0 7 rfl) rfl ?_
  refine r_callVp (I' := IX9_placeOf) (as := [_]) (dk kX9_writePetition_p0 8 rfl) mv_X9_placeOf ml_X9_110 rfl rfl o.k rfl rfl (Nat.le_of_ble_eq_true rfl) ⟨by decide, by decide⟩ ⟨rfl, rfl⟩ ⟨Nat.le_of_ble_eq_true rfl, Nat.le_of_ble_eq_true rfl⟩ (k_X9_placeOf (o.fl _) (gf _) x) ?_
  -- at 15
  rw [e1, mf1, e]
  have oX := o.fl 0
  have eX : mi (mFail M h 0) (h + 1) = mi M (h + 1) := mf1 M h 0
  have e6 : mi (mFail M h 0) (h + 6) = mi M (h + 6) := mfn M h 0 (by omega)
  generalize mFail M h 0 = X at *
  generalize mi M (h + 1) = g at *
  generalize mi M (h + 6) = f at *
  have eL : ∀ l, mi (mLine X h l) (h + 1) = g := fun l => by rw [ml_n _ _ _ (by omega) (by omega), eX]
  rw [hx] at y0
  generalize hn0 : gn g (35 + 11 * p) = n0 at *
  refine r_istore_n (j := 2) (dk kX9_writePetition_p0 9 rfl) rfl (by decide) rfl ?_
  simp only [List.set_cons_succ, List.set_cons_zero]
  refine r_aload_n (dk kX9_writePetition_p0 10 rfl) rfl ?_
  refine r_iconst (v := 0) (dk kX9_writePetition_p0 11 rfl) (by decide) ?_
  refine r_puti (dk kX9_writePetition_p0 12 rfl) fa_X9_252_8 oX.k rfl rfl rfl rfl ?_
  -- at 21
  rw [show sI X h 17 0 = mLine X h (f, 0) by unfold mLine; rw [← e6, sA_eq]; rfl, y0]
  have t0 := lMark_le (f, 0) (c := 35) (n := n0) (by omega)
  refine r_aload_n (dk kX9_writePetition_p0 13 rfl) rfl ?_
  refine r_bipush (v := 35) (dk kX9_writePetition_p0 14 rfl) (by decide) ?_
  refine r_iload_n (dk kX9_writePetition_p0 15 rfl) rfl ?_
  refine r_callVu (I' := IX9_writesBehind) (as := [_, _]) (dk kX9_writePetition_p0 16 rfl) mv_X9_writesBehind ml_X9_261 rfl rfl oX.k rfl rfl (Nat.le_of_ble_eq_true rfl) ⟨by decide, by decide⟩ ⟨rfl, rfl⟩ ⟨Nat.le_of_ble_eq_true rfl, Nat.le_of_ble_eq_true rfl⟩ (k_X9_writesBehind oX (l := (f, 0)) (k := 35) rfl (by decide) (by omega) (by show 0 < 50; decide)) ?_
  refine r_aload_n (dk kX9_writePetition_p0 17 rfl) rfl ?_
  refine r_bipush (v := 58) (dk kX9_writePetition_p0 18 rfl) (by decide) ?_
  refine r_aload_n (dk kX9_writePetition_p0 19 rfl) rfl ?_
  refine r_iload_n (dk kX9_writePetition_p0 20 rfl) rfl ?_
  refine r_iconst (v := 2) (dk kX9_writePetition_p0 21 rfl) (by decide) ?_
  refine r_callVp (I' := IX9_of) (as := [_, _]) (dk kX9_writePetition_p0 22 rfl) mv_X9_of ml_X9_106 rfl rfl oX.k rfl rfl (Nat.le_of_ble_eq_true rfl) ⟨by decide, by decide⟩ ⟨rfl, rfl⟩ ⟨Nat.le_of_ble_eq_true rfl, Nat.le_of_ble_eq_true rfl⟩ (k_X9_of (oX.line _) (p := p) (w := 2) rfl (by omega) (by decide)) ?_
  -- at 37
  rw [eL, y2]
  generalize hl0 : lMark (f, 0) 35 n0 = l0 at *
  have t1 := lMark_l2 l0 (c := 58) (n := gn g (35 + 11 * p + 2)) (by omega)
  refine r_callVu (I' := IX9_writesBehind) (as := [_, _]) (dk kX9_writePetition_p0 23 rfl) mv_X9_writesBehind ml_X9_261 rfl rfl oX.k rfl rfl (Nat.le_of_ble_eq_true rfl) ⟨by decide, by decide⟩ ⟨rfl, rfl⟩ ⟨Nat.le_of_ble_eq_true rfl, Nat.le_of_ble_eq_true rfl⟩ (k_X9_writesBehind oX (l := l0) (k := 58) rfl (by decide) (by omega) (by omega)) ?_
  refine r_aload_n (dk kX9_writePetition_p0 24 rfl) rfl ?_
  refine r_bipush (v := 62) (dk kX9_writePetition_p0 25 rfl) (by decide) ?_
  refine r_aload_n (dk kX9_writePetition_p0 26 rfl) rfl ?_
  refine r_iload_n (dk kX9_writePetition_p0 27 rfl) rfl ?_
  refine r_iconst (v := 3) (dk kX9_writePetition_p0 28 rfl) (by decide) ?_
  refine r_callVp (I' := IX9_of) (as := [_, _]) (dk kX9_writePetition_p0 29 rfl) mv_X9_of ml_X9_106 rfl rfl oX.k rfl rfl (Nat.le_of_ble_eq_true rfl) ⟨by decide, by decide⟩ ⟨rfl, rfl⟩ ⟨Nat.le_of_ble_eq_true rfl, Nat.le_of_ble_eq_true rfl⟩ (k_X9_of (oX.line _) (p := p) (w := 3) rfl (by omega) (by decide)) ?_
  -- at 49
  rw [eL, y3]
  generalize hl1 : lMark l0 58 (gn g (35 + 11 * p + 2)) = l1 at *
  have t2 := lMark_l2 l1 (c := 62) (n := gn g (35 + 11 * p + 3)) (by omega)
  refine r_callVu (I' := IX9_writesBehind) (as := [_, _]) (dk kX9_writePetition_p0 30 rfl) mv_X9_writesBehind ml_X9_261 rfl rfl oX.k rfl rfl (Nat.le_of_ble_eq_true rfl) ⟨by decide, by decide⟩ ⟨rfl, rfl⟩ ⟨Nat.le_of_ble_eq_true rfl, Nat.le_of_ble_eq_true rfl⟩ (k_X9_writesBehind oX (l := l1) (k := 62) rfl (by decide) (by omega) (by omega)) ?_
  refine r_aload_n (dk kX9_writePetition_p0 31 rfl) rfl ?_
  refine r_bipush (v := 64) (dk kX9_writePetition_p0 32 rfl) (by decide) ?_
  refine r_aload_n (dk kX9_writePetition_p0 33 rfl) rfl ?_
  refine r_iload_n (dk kX9_writePetition_p0 34 rfl) rfl ?_
  refine r_iconst (v := 1) (dk kX9_writePetition_p0 35 rfl) (by decide) ?_
  refine r_callVp (I' := IX9_of) (as := [_, _]) (dk kX9_writePetition_p0 36 rfl) mv_X9_of ml_X9_106 rfl rfl oX.k rfl rfl (Nat.le_of_ble_eq_true rfl) ⟨by decide, by decide⟩ ⟨rfl, rfl⟩ ⟨Nat.le_of_ble_eq_true rfl, Nat.le_of_ble_eq_true rfl⟩ (k_X9_of (oX.line _) (p := p) (w := 1) rfl (by omega) (by decide)) ?_
  -- at 61
  rw [eL, y1]
  generalize hl2 : lMark l1 62 (gn g (35 + 11 * p + 3)) = l2 at *
  have t3 := lMark_l2 l2 (c := 64) (n := gn g (35 + 11 * p + 1)) (by omega)
  refine r_callVu (I' := IX9_writesBehind) (as := [_, _]) (dk kX9_writePetition_p0 37 rfl) mv_X9_writesBehind ml_X9_261 rfl rfl oX.k rfl rfl (Nat.le_of_ble_eq_true rfl) ⟨by decide, by decide⟩ ⟨rfl, rfl⟩ ⟨Nat.le_of_ble_eq_true rfl, Nat.le_of_ble_eq_true rfl⟩ (k_X9_writesBehind oX (l := l2) (k := 64) rfl (by decide) (by omega) (by omega)) ?_
  refine r_aload_n (dk kX9_writePetition_p0 38 rfl) rfl ?_
  refine r_bipush (v := 33) (dk kX9_writePetition_p0 39 rfl) (by decide) ?_
  refine r_aload_n (dk kX9_writePetition_p0 40 rfl) rfl ?_
  refine r_iload_n (dk kX9_writePetition_p0 41 rfl) rfl ?_
  refine r_iconst (v := 4) (dk kX9_writePetition_p0 42 rfl) (by decide) ?_
  refine r_callVp (I' := IX9_of) (as := [_, _]) (dk kX9_writePetition_p0 43 rfl) mv_X9_of ml_X9_106 rfl rfl oX.k rfl rfl (Nat.le_of_ble_eq_true rfl) ⟨by decide, by decide⟩ ⟨rfl, rfl⟩ ⟨Nat.le_of_ble_eq_true rfl, Nat.le_of_ble_eq_true rfl⟩ (k_X9_of (oX.line _) (p := p) (w := 4) rfl (by omega) (by decide)) ?_
  -- at 73
  rw [eL, y4]
  generalize hl3 : lMark l2 64 (gn g (35 + 11 * p + 1)) = l3 at *
  have t4 := lMark_l2 l3 (c := 33) (n := gn g (35 + 11 * p + 4)) (by omega)
  refine r_callVu (I' := IX9_writesBehind) (as := [_, _]) (dk kX9_writePetition_p0 44 rfl) mv_X9_writesBehind ml_X9_261 rfl rfl oX.k rfl rfl (Nat.le_of_ble_eq_true rfl) ⟨by decide, by decide⟩ ⟨rfl, rfl⟩ ⟨Nat.le_of_ble_eq_true rfl, Nat.le_of_ble_eq_true rfl⟩ (k_X9_writesBehind oX (l := l3) (k := 33) rfl (by decide) (by omega) (by omega)) ?_
  refine r_aload_n (dk kX9_writePetition_p0 45 rfl) rfl ?_
  refine r_bipush (v := 43) (dk kX9_writePetition_p0 46 rfl) (by decide) ?_
  refine r_aload_n (dk kX9_writePetition_p0 47 rfl) rfl ?_
  refine r_iload_n (dk kX9_writePetition_p0 48 rfl) rfl ?_
  refine r_iconst (v := 5) (dk kX9_writePetition_p0 49 rfl) (by decide) ?_
  refine r_callVp (I' := IX9_of) (as := [_, _]) (dk kX9_writePetition_p0 50 rfl) mv_X9_of ml_X9_106 rfl rfl oX.k rfl rfl (Nat.le_of_ble_eq_true rfl) ⟨by decide, by decide⟩ ⟨rfl, rfl⟩ ⟨Nat.le_of_ble_eq_true rfl, Nat.le_of_ble_eq_true rfl⟩ (k_X9_of (oX.line _) (p := p) (w := 5) rfl (by omega) (by decide)) ?_
  -- at 85
  rw [eL, y5]
  generalize hl4 : lMark l3 33 (gn g (35 + 11 * p + 4)) = l4 at *
  have b5 := bN_le (gn g (35 + 11 * p + 5))
  have b6 := bN_le (gn g (35 + 11 * p + 6))
  have t5 := lMark_l2 l4 (c := 43) (n := bN (gn g (35 + 11 * p + 5))) (by omega)
  refine r_callSp (I' := IX9_bits) (as := [_]) (dk kX9_writePetition_p0 51 rfl) ms_X9_bits ml_X9_120 rfl rfl rfl (Nat.le_of_ble_eq_true rfl) ⟨by decide, by decide⟩ ⟨rfl, rfl⟩ ⟨Nat.le_of_ble_eq_true rfl, Nat.le_of_ble_eq_true rfl⟩ (k_X9_bits y5') ?_
  refine r_callVu (I' := IX9_writesBehind) (as := [_, _]) (dk kX9_writePetition_p0 52 rfl) mv_X9_writesBehind ml_X9_261 rfl rfl oX.k rfl rfl (Nat.le_of_ble_eq_true rfl) ⟨by decide, by decide⟩ ⟨rfl, rfl⟩ ⟨Nat.le_of_ble_eq_true rfl, Nat.le_of_ble_eq_true rfl⟩ (k_X9_writesBehind oX (l := l4) (k := 43) rfl (by decide) (by omega) (by omega)) ?_
  refine r_aload_n (dk kX9_writePetition_p0 53 rfl) rfl ?_
  refine r_bipush (v := 45) (dk kX9_writePetition_p0 54 rfl) (by decide) ?_
  refine r_aload_n (dk kX9_writePetition_p0 55 rfl) rfl ?_
  refine r_iload_n (dk kX9_writePetition_p0 56 rfl) rfl ?_
  refine r_bipush (v := 6) (dk kX9_writePetition_p0 57 rfl) (by decide) ?_
  refine r_callVp (I' := IX9_of) (as := [_, _]) (dk kX9_writePetition_p0 58 rfl) mv_X9_of ml_X9_106 rfl rfl oX.k rfl rfl (Nat.le_of_ble_eq_true rfl) ⟨by decide, by decide⟩ ⟨rfl, rfl⟩ ⟨Nat.le_of_ble_eq_true rfl, Nat.le_of_ble_eq_true rfl⟩ (k_X9_of (oX.line _) (p := p) (w := 6) rfl (by omega) (by decide)) ?_
  -- at 101
  rw [eL, y6]
  generalize hl5 : lMark l4 43 (bN (gn g (35 + 11 * p + 5))) = l5 at *
  have t6 := lMark_l2 l5 (c := 45) (n := bN (gn g (35 + 11 * p + 6))) (by omega)
  refine r_callSp (I' := IX9_bits) (as := [_]) (dk kX9_writePetition_p0 59 rfl) ms_X9_bits ml_X9_120 rfl rfl rfl (Nat.le_of_ble_eq_true rfl) ⟨by decide, by decide⟩ ⟨rfl, rfl⟩ ⟨Nat.le_of_ble_eq_true rfl, Nat.le_of_ble_eq_true rfl⟩ (k_X9_bits y6') ?_
  refine r_callVu (I' := IX9_writesBehind) (as := [_, _]) (dk kX9_writePetition_p1 0 rfl) mv_X9_writesBehind ml_X9_261 rfl rfl oX.k rfl rfl (Nat.le_of_ble_eq_true rfl) ⟨by decide, by decide⟩ ⟨rfl, rfl⟩ ⟨Nat.le_of_ble_eq_true rfl, Nat.le_of_ble_eq_true rfl⟩ (k_X9_writesBehind oX (l := l5) (k := 45) rfl (by decide) (by omega) (by omega)) ?_
  refine r_iconst (v := 0) (dk kX9_writePetition_p1 1 rfl) (by decide) ?_
  refine r_istore_n (j := 3) (dk kX9_writePetition_p1 2 rfl) rfl (by decide) rfl ?_
  simp only [List.set_cons_succ, List.set_cons_zero]
  -- at 109
  generalize hl6 : lMark l5 45 (bN (gn g (35 + 11 * p + 6))) = l6 at *
  have hl : lPet0 g p f = l6 := by
    rw [← hl6, ← hl5, ← hl4, ← hl3, ← hl2, ← hl1, ← hl0, ← hn0]
    rfl
  have hb : l6.2 ≤ 29 := by
    have : ((f, 0) : LN).2 = 0 := rfl
    omega
  have hc : ∀ c, c ≤ gn g (35 + 11 * p + 7) → (lCites g p l6 c).2 ≤ 29 + 3 * c := by
    intro c
    induction c with
    | zero => intro _; exact hb
    | succ c ih =>
      intro hc
      have h1 := ih (by omega)
      have h2 := (y8 c (by omega)).2
      have h3 := lMark_l2 (lCites g p l6 c) (c := 94) (n := gn g (35 + 11 * p + 8 + c)) (by omega)
      show (lMark (lCites g p l6 c) 94 (gn g (35 + 11 * p + 8 + c))).2 ≤ _
      omega
  unfold lPet
  rw [hl]
  suffices key : ∀ d j, j + d = gn g (35 + 11 * p + 7) → WW G IX9_writePetition (qi (fun y M' => y = nI (lCites g p l6 (gn g (35 + 11 * p + 7))).2 ∧ M' = mLine X h (lCites g p l6 (gn g (35 + 11 * p + 7)))) nox) 109 [.ref h, .int (nI n0), .int (nI p), .int (nI j)] [] (mLine X h (lCites g p l6 j)) 0 0 from key _ 0 (Nat.zero_add _)
  intro d
  induction d with
  | zero =>
    intro j hj
    have hj : j = gn g (35 + 11 * p + 7) := hj
    subst hj
    refine r_iload_n (dk kX9_writePetition_p1 3 rfl) rfl ?_
    refine r_aload_n (dk kX9_writePetition_p1 4 rfl) rfl ?_
    refine r_iload_n (dk kX9_writePetition_p1 5 rfl) rfl ?_
    refine r_bipush (v := 7) (dk kX9_writePetition_p1 6 rfl) (by decide) ?_
    refine r_callVp (I' := IX9_of) (as := [_, _]) (dk kX9_writePetition_p1 7 rfl) mv_X9_of ml_X9_106 rfl rfl oX.k rfl rfl (Nat.le_of_ble_eq_true rfl) ⟨by decide, by decide⟩ ⟨rfl, rfl⟩ ⟨Nat.le_of_ble_eq_true rfl, Nat.le_of_ble_eq_true rfl⟩ (k_X9_of (oX.line _) (p := p) (w := 7) rfl (by omega) (by decide)) ?_
    -- at 117
    rw [eL, y7]
    refine r_icmp_ge (tgt := 141) (dk kX9_writePetition_p1 8 rfl) (by decide) (fun c117 => ?_) (fun c117 => absurd (Int32.le_refl _) c117)
    refine r_aload_n (dk kX9_writePetition_p1 20 rfl) rfl ?_
    refine r_geti (dk kX9_writePetition_p1 21 rfl) fa_X9_252_8 oX.k rfl ?_
    -- at 145
    rw [ml_17]
    refine r_ireturn (dk kX9_writePetition_p1 22 rfl) rfl rfl ⟨Nat.le_of_ble_eq_true rfl, Nat.le_of_ble_eq_true rfl⟩ ⟨rfl, rfl⟩
  | succ d ih =>
    intro j hj
    have h1 := hc j (by omega)
    obtain ⟨z1, z2⟩ := y8 j (by omega)
    refine r_iload_n (dk kX9_writePetition_p1 3 rfl) rfl ?_
    refine r_aload_n (dk kX9_writePetition_p1 4 rfl) rfl ?_
    refine r_iload_n (dk kX9_writePetition_p1 5 rfl) rfl ?_
    refine r_bipush (v := 7) (dk kX9_writePetition_p1 6 rfl) (by decide) ?_
    refine r_callVp (I' := IX9_of) (as := [_, _]) (dk kX9_writePetition_p1 7 rfl) mv_X9_of ml_X9_106 rfl rfl oX.k rfl rfl (Nat.le_of_ble_eq_true rfl) ⟨by decide, by decide⟩ ⟨rfl, rfl⟩ ⟨Nat.le_of_ble_eq_true rfl, Nat.le_of_ble_eq_true rfl⟩ (k_X9_of (oX.line _) (p := p) (w := 7) rfl (by omega) (by decide)) ?_
    -- at 117
    rw [eL, y7]
    refine r_icmp_ge (tgt := 141) (dk kX9_writePetition_p1 8 rfl) (by decide) (fun c117 => absurd c117 (nI_ge (by omega) (by omega))) (fun c117 => ?_)
    refine r_aload_n (dk kX9_writePetition_p1 9 rfl) rfl ?_
    refine r_bipush (v := 94) (dk kX9_writePetition_p1 10 rfl) (by decide) ?_
    refine r_aload_n (dk kX9_writePetition_p1 11 rfl) rfl ?_
    refine r_iload_n (dk kX9_writePetition_p1 12 rfl) rfl ?_
    refine r_bipush (v := 8) (dk kX9_writePetition_p1 13 rfl) (by decide) ?_
    refine r_iload_n (dk kX9_writePetition_p1 14 rfl) rfl ?_
    refine r_iadd (dk kX9_writePetition_p1 15 rfl) ?_
    refine r_callVp (I' := IX9_of) (as := [_, _]) (dk kX9_writePetition_p1 16 rfl) mv_X9_of ml_X9_106 rfl rfl oX.k rfl rfl (Nat.le_of_ble_eq_true rfl) ⟨by decide, by decide⟩ ⟨rfl, rfl⟩ ⟨Nat.le_of_ble_eq_true rfl, Nat.le_of_ble_eq_true rfl⟩ (k_X9_of (oX.line _) (p := p) (w := 8 + j) (ixd rfl) (by omega) (by omega)) ?_
    -- at 132
    rw [eL, ← Nat.add_assoc (35 + 11 * p) 8, z1]
    refine r_callVu (I' := IX9_writesBehind) (as := [_, _]) (dk kX9_writePetition_p1 17 rfl) mv_X9_writesBehind ml_X9_261 rfl rfl oX.k rfl rfl (Nat.le_of_ble_eq_true rfl) ⟨by decide, by decide⟩ ⟨rfl, rfl⟩ ⟨Nat.le_of_ble_eq_true rfl, Nat.le_of_ble_eq_true rfl⟩ (k_X9_writesBehind oX (l := lCites g p l6 j) (k := 94) rfl (by decide) (by omega) (by omega)) ?_
    refine r_iinc (dk kX9_writePetition_p1 18 rfl) (by decide) rfl rfl rfl ?_
    simp only [List.set_cons_succ, List.set_cons_zero]
    refine r_goto (tgt := 109) (dk kX9_writePetition_p1 19 rfl) (by decide) ?_
    -- at 109
    rw [show nI j + Int32.ofInt 1 = nI (j + 1) from nI_1 j]
    exact ih (j + 1) (by omega)
theorem k_X9_writeRowF (o : MO M h) {x : Int32} (hx : ¬ (0 ≤ x ∧ x ≤ 4)) : KE G IX9_writeRow [.ref h, .int x] M 0 (mFail M h 1) := by
  refine KK.ofW (by decide) (by simp [Value.category]) (Nat.le_of_ble_eq_true rfl) rfl ?_
  show WW _ _ _ 0 [_, _, lj] [] _ _ _
  refine r_aload_n (dk kX9_writeRow 0 rfl) rfl ?_
  refine r_iload_n (dk kX9_writeRow 1 rfl) rfl ?_
  refine r_iconst (v := 0) (dk kX9_writeRow 2 rfl) (by decide) ?_
  refine r_iconst (v := 4) (dk kX9_writeRow 3 rfl) (by decide) ?_
  refine r_callSp (I' := IX9_in) (as := [_, _, _]) (dk kX9_writeRow 4 rfl) ms_X9_in ml_X9_68 rfl rfl rfl (Nat.le_of_ble_eq_true rfl) ⟨by decide, by decide⟩ ⟨rfl, rfl⟩ ⟨Nat.le_of_ble_eq_true rfl, Nat.le_of_ble_eq_true rfl⟩ (k_X9_in _ _ _) ?_
  refine r_if_eq (tgt := 14) (dk kX9_writeRow 5 rfl) (by decide) (fun c7 => ?_) (fun c7 => absurd (by rw [bI_f hx]) c7)
  refine r_iconst (v := 1) (dk kX9_writeRow 8 rfl) (by decide) ?_
  refine r_callVp (I' := IX9_fails) (as := [_]) (dk kX9_writeRow 9 rfl) mv_X9_fails ml_X9_80 rfl rfl o.k rfl rfl (Nat.le_of_ble_eq_true rfl) ⟨by decide, by decide⟩ ⟨rfl, rfl⟩ ⟨Nat.le_of_ble_eq_true rfl, Nat.le_of_ble_eq_true rfl⟩ (k_X9_fails o _) ?_
  refine r_if_eq (tgt := 23) (dk kX9_writeRow 10 rfl) (by decide) (fun c18 => absurd c18 (by decide)) (fun c18 => ?_)
  refine r_iconst (v := 0) (dk kX9_writeRow 11 rfl) (by decide) ?_
  refine r_ireturn (dk kX9_writeRow 12 rfl) rfl rfl ⟨Nat.le_of_ble_eq_true rfl, Nat.le_of_ble_eq_true rfl⟩ ⟨rfl, rfl⟩
theorem k_X9_writeRowO (o : MO M h) {F : Nat} (gi : GI F (mi M (h + 1))) {r : Nat} (hr : r < 5) : KE G IX9_writeRow [.ref h, .int (nI r)] M (nI 5) (mLine (mFail M h 0) h (lRow (mi M (h + 1)) r (mi M (h + 6)) 5)) := by
  refine KK.ofW (by decide) (by simp [Value.category]) (Nat.le_of_ble_eq_true rfl) rfl ?_
  show WW _ _ _ 0 [_, _, lj] [] _ _ _
  have hx : 0 ≤ nI r ∧ nI r ≤ 4 := ⟨nI_pos' (by omega), nI_le (b := 4) (by omega) (by decide)⟩
  refine r_aload_n (dk kX9_writeRow 0 rfl) rfl ?_
  refine r_iload_n (dk kX9_writeRow 1 rfl) rfl ?_
  refine r_iconst (v := 0) (dk kX9_writeRow 2 rfl) (by decide) ?_
  refine r_iconst (v := 4) (dk kX9_writeRow 3 rfl) (by decide) ?_
  refine r_callSp (I' := IX9_in) (as := [_, _, _]) (dk kX9_writeRow 4 rfl) ms_X9_in ml_X9_68 rfl rfl rfl (Nat.le_of_ble_eq_true rfl) ⟨by decide, by decide⟩ ⟨rfl, rfl⟩ ⟨Nat.le_of_ble_eq_true rfl, Nat.le_of_ble_eq_true rfl⟩ (k_X9_in _ _ _) ?_
  refine r_if_eq (tgt := 14) (dk kX9_writeRow 5 rfl) (by decide) (fun c7 => absurd c7 (by rw [bI_t hx]; decide)) (fun c7 => ?_)
  refine r_iconst (v := 0) (dk kX9_writeRow 6 rfl) (by decide) ?_
  refine r_goto (tgt := 15) (dk kX9_writeRow 7 rfl) (by decide) ?_
  refine r_callVp (I' := IX9_fails) (as := [_]) (dk kX9_writeRow 9 rfl) mv_X9_fails ml_X9_80 rfl rfl o.k rfl rfl (Nat.le_of_ble_eq_true rfl) ⟨by decide, by decide⟩ ⟨rfl, rfl⟩ ⟨Nat.le_of_ble_eq_true rfl, Nat.le_of_ble_eq_true rfl⟩ (k_X9_fails o _) ?_
  refine r_if_eq (tgt := 23) (dk kX9_writeRow 10 rfl) (by decide) (fun c18 => ?_) (fun c18 => absurd (by decide) c18)
  -- at 23
  have oX := o.fl 0
  have eX : mi (mFail M h 0) (h + 1) = mi M (h + 1) := mf1 M h 0
  have e6 : mi (mFail M h 0) (h + 6) = mi M (h + 6) := mfn M h 0 (by omega)
  generalize mFail M h 0 = X at *
  generalize mi M (h + 1) = g at *
  generalize mi M (h + 6) = f at *
  have eL : ∀ l, mi (mLine X h l) (h + 1) = g := fun l => by rw [ml_n _ _ _ (by omega) (by omega), eX]
  have gL : ∀ l, GI F (mi (mLine X h l) (h + 1)) := fun l => by rw [eL]; exact gi
  have hs := gi.s.2
  refine r_aload_n (dk kX9_writeRow 13 rfl) rfl ?_
  refine r_iconst (v := 0) (dk kX9_writeRow 14 rfl) (by decide) ?_
  refine r_puti (dk kX9_writeRow 15 rfl) fa_X9_252_8 oX.k rfl rfl rfl rfl ?_
  refine r_iconst (v := 5) (dk kX9_writeRow 16 rfl) (by decide) ?_
  refine r_iload_n (dk kX9_writeRow 17 rfl) rfl ?_
  refine r_imul (dk kX9_writeRow 18 rfl) ?_
  -- at 31
  rw [show sI X h 17 0 = mLine X h (f, 0) by unfold mLine; rw [← e6, sA_eq]; rfl, show (5 : Int32) * nI r = nI (5 * r) from pk_mul 5 r]
  refine r_istore_n (j := 2) (dk kX9_writeRow 19 rfl) rfl (by decide) rfl ?_
  simp only [List.set_cons_succ, List.set_cons_zero]
  -- at 32
  suffices key : ∀ d j, j + d = 5 → WW G IX9_writeRow (qi (fun y M' => y = nI 5 ∧ M' = mLine X h (lRow g r f 5)) nox) 32 [.ref h, .int (nI r), .int (nI (5 * r + j))] [] (mLine X h (lRow g r f j)) 0 0 from key 5 0 rfl
  intro d
  induction d with
  | zero =>
    intro j hj
    have hj : j = 5 := hj
    subst hj
    refine r_iload_n (dk kX9_writeRow 20 rfl) rfl ?_
    refine r_iconst (v := 5) (dk kX9_writeRow 21 rfl) (by decide) ?_
    refine r_iload_n (dk kX9_writeRow 22 rfl) rfl ?_
    refine r_imul (dk kX9_writeRow 23 rfl) ?_
    refine r_iconst (v := 5) (dk kX9_writeRow 24 rfl) (by decide) ?_
    refine r_iadd (dk kX9_writeRow 25 rfl) ?_
    -- at 38
    rw [show (5 : Int32) * nI r = nI (5 * r) from pk_mul 5 r, show nI (5 * r) + 5 = nI (5 * r + 5) from ixd rfl]
    refine r_icmp_ge (tgt := 72) (dk kX9_writeRow 26 rfl) (by decide) (fun c38 => ?_) (fun c38 => absurd (Int32.le_refl _) c38)
    refine r_aload_n (dk kX9_writeRow 42 rfl) rfl ?_
    refine r_geti (dk kX9_writeRow 43 rfl) fa_X9_252_8 oX.k rfl ?_
    -- at 76
    rw [ml_17, lRow_len]
    refine r_ireturn (dk kX9_writeRow 44 rfl) rfl rfl ⟨Nat.le_of_ble_eq_true rfl, Nat.le_of_ble_eq_true rfl⟩ ⟨rfl, rfl⟩
  | succ d ih =>
    intro j hj
    have hlen := lRow_len g r f j
    refine r_iload_n (dk kX9_writeRow 20 rfl) rfl ?_
    refine r_iconst (v := 5) (dk kX9_writeRow 21 rfl) (by decide) ?_
    refine r_iload_n (dk kX9_writeRow 22 rfl) rfl ?_
    refine r_imul (dk kX9_writeRow 23 rfl) ?_
    refine r_iconst (v := 5) (dk kX9_writeRow 24 rfl) (by decide) ?_
    refine r_iadd (dk kX9_writeRow 25 rfl) ?_
    -- at 38
    rw [show (5 : Int32) * nI r = nI (5 * r) from pk_mul 5 r, show nI (5 * r) + 5 = nI (5 * r + 5) from ixd rfl]
    refine r_icmp_ge (tgt := 72) (dk kX9_writeRow 26 rfl) (by decide) (fun c38 => absurd c38 (nI_ge (by omega) (by omega))) (fun c38 => ?_)
    refine r_aload_n (dk kX9_writeRow 27 rfl) rfl ?_
    refine r_aload_n (dk kX9_writeRow 28 rfl) rfl ?_
    refine r_iload_n (dk kX9_writeRow 29 rfl) rfl ?_
    refine r_callVp (I' := IX9_within) (as := [_]) (dk kX9_writeRow 30 rfl) mv_X9_within ml_X9_83 rfl rfl oX.k rfl rfl (Nat.le_of_ble_eq_true rfl) ⟨by decide, by decide⟩ ⟨rfl, rfl⟩ ⟨Nat.le_of_ble_eq_true rfl, Nat.le_of_ble_eq_true rfl⟩ (k_X9_within (oX.line _) (gL _) _) ?_
    -- at 47
    rw [eL]
    have fin : ∀ c : Nat, lCell g (5 * r + j) = c → c < 128 → WW G IX9_writeRow (qi (fun y M' => y = nI 5 ∧ M' = mLine X h (lRow g r f 5)) nox) 63 [.ref h, .int (nI r), .int (nI (5 * r + j))] [.int (nI c), .ref h] (mLine X h (lRow g r f j)) 0 0 := by
      intro c hc hc2
      refine r_callVu (I' := IX9_writes) (as := [_]) (dk kX9_writeRow 39 rfl) mv_X9_writes ml_X9_258 rfl rfl oX.k rfl rfl (Nat.le_of_ble_eq_true rfl) ⟨by decide, by decide⟩ ⟨rfl, rfl⟩ ⟨Nat.le_of_ble_eq_true rfl, Nat.le_of_ble_eq_true rfl⟩ (k_X9_writes oX (l := lRow g r f j) (by omega) (k := c) rfl hc2) ?_
      refine r_iinc (dk kX9_writeRow 40 rfl) (by decide) rfl rfl rfl ?_
      simp only [List.set_cons_succ, List.set_cons_zero]
      refine r_goto (tgt := 32) (dk kX9_writeRow 41 rfl) (by decide) ?_
      -- at 32
      rw [show nI (5 * r + j) + Int32.ofInt 1 = nI (5 * r + j + 1) from nI_1 _, ← hc]
      exact ih (j + 1) (by omega)
    cases ew : gWithin g (nI (5 * r + j)) with
    | none =>
      refine r_if_ge (tgt := 55) (dk kX9_writeRow 31 rfl) (by decide) (fun c47 => absurd c47 (by decide)) (fun c47 => ?_)
      refine r_bipush (v := 46) (dk kX9_writeRow 32 rfl) (by decide) ?_
      refine r_goto (tgt := 63) (dk kX9_writeRow 33 rfl) (by decide) ?_
      -- at 63
      exact fin 46 (by unfold lCell; rw [ew]) (by decide)
    | some q =>
      have hq := fx_lt ew
      refine r_if_ge (tgt := 55) (dk kX9_writeRow 31 rfl) (by decide) (fun c47 => ?_) (fun c47 => absurd (nI_pos' (by omega)) c47)
      refine r_bipush (v := 48) (dk kX9_writeRow 34 rfl) (by decide) ?_
      refine r_aload_n (dk kX9_writeRow 35 rfl) rfl ?_
      refine r_iload_n (dk kX9_writeRow 36 rfl) rfl ?_
      refine r_callVp (I' := IX9_within) (as := [_]) (dk kX9_writeRow 37 rfl) mv_X9_within ml_X9_83 rfl rfl oX.k rfl rfl (Nat.le_of_ble_eq_true rfl) ⟨by decide, by decide⟩ ⟨rfl, rfl⟩ ⟨Nat.le_of_ble_eq_true rfl, Nat.le_of_ble_eq_true rfl⟩ (k_X9_within (oX.line _) (gL _) _) ?_
      -- at 62
      rw [eL, ew]
      refine r_iadd (dk kX9_writeRow 38 rfl) ?_
      -- at 63
      rw [show (48 : Int32) + oI (some q) = nI (48 + q) from nI_add 48 q]
      exact fin (48 + q) (by unfold lCell; rw [ew]) (by omega)
end MODEL
