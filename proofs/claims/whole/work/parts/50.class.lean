/-! THE CLASS: frames; a whole text read -/
/-- only what lies from a to b has changed -/
def FR (M : Mm) (a b : Nat) (M' : Mm) : Prop := kd M' = kd M ∧ ln M' = ln M ∧ mj M' = mj M ∧ md M' = md M ∧ nx M' = nx M ∧ ∀ c, (c < a ∨ b < c) → mi M' c = mi M c ∧ mr M' c = mr M c
theorem FR.rfl (M : Mm) (a b : Nat) : FR M a b M := ⟨_root_.rfl, _root_.rfl, _root_.rfl, _root_.rfl, _root_.rfl, fun _ _ => ⟨_root_.rfl, _root_.rfl⟩⟩
section FRAME
variable {M M' M2 : Mm} {a b : Nat}
theorem FR.k (r : FR M a b M') : kd M' = kd M := r.1
theorem FR.l (r : FR M a b M') : ln M' = ln M := r.2.1
theorem FR.x (r : FR M a b M') : nx M' = nx M := r.2.2.2.2.1
theorem FR.i (r : FR M a b M') {c : Nat} (h : c < a ∨ b < c) : mi M' c = mi M c := (r.2.2.2.2.2 c h).1
theorem FR.r (r : FR M a b M') {c : Nat} (h : c < a ∨ b < c) : mr M' c = mr M c := (r.2.2.2.2.2 c h).2
theorem FR.tr (r : FR M a b M') (q : FR M' a b M2) : FR M a b M2 := ⟨q.1.trans r.1, q.2.1.trans r.2.1, q.2.2.1.trans r.2.2.1, q.2.2.2.1.trans r.2.2.2.1, q.2.2.2.2.1.trans r.2.2.2.2.1, fun c h => ⟨(q.i h).trans (r.i h), (q.r h).trans (r.r h)⟩⟩
theorem FR.mo (r : FR M a b M') {a' b' : Nat} (ha : a' ≤ a) (hb : b ≤ b') : FR M a' b' M' := ⟨r.1, r.2.1, r.2.2.1, r.2.2.2.1, r.2.2.2.2.1, fun c h => ⟨r.i (by omega), r.r (by omega)⟩⟩
theorem FR.sA (r : FR M a b M') {c : Nat} (f : Nat → Int32) (h : a ≤ c ∧ c ≤ b) : FR M a b (sA M' c f) := r.tr ⟨_root_.rfl, _root_.rfl, _root_.rfl, _root_.rfl, _root_.rfl, fun d hd => ⟨mi_sA_n _ _ (by omega), _root_.rfl⟩⟩
theorem FR.sI (r : FR M a b M') {c : Nat} (j : Nat) (v : Int32) (h : a ≤ c ∧ c ≤ b) : FR M a b (sI M' c j v) := r.sA _ h
theorem FR.sR (r : FR M a b M') {c : Nat} (j : Nat) (v : Option Nat) (h : a ≤ c ∧ c ≤ b) : FR M a b (sR M' c j v) := r.tr ⟨_root_.rfl, _root_.rfl, _root_.rfl, _root_.rfl, _root_.rfl, fun d hd => ⟨_root_.rfl, u2_n _ _ _ (by omega)⟩⟩
theorem sI_self (M : Mm) {a j : Nat} {v : Int32} (h : mi M a j = v) : sI M a j v = M := by
  rw [sI_A, ← h, va_up_eq, sA_eq]
theorem LO.to {M M' : Mm} {b : Nat} (o : LO M b) (h1 : kd M' = kd M) (h2 : ln M' = ln M) (h3 : mr M' b = mr M b) : LO M' b := by
  unfold LO
  rw [h1, h2, h3]
  exact o
theorem LT.fr {M M' : Mm} {a e b n : Nat} {inp : Nat → Int32} (t : LT M b n inp) (r : FR M a e M') (h : b + 1 < a ∨ e < b) : LT M' b n inp := by
  obtain ⟨o, h1, h2, h3, h4⟩ := t
  exact ⟨o.to r.k r.l (r.r (by omega)), by rw [r.i (by omega)]; exact h1, h2, fun k hk => by rw [r.i (by omega)]; exact h3 k hk, h4⟩
end FRAME
/-- a reader at r: its commands' row r+1, its commands from r+2 on -/
def RO (M : Mm) (r : Nat) : Prop := kd M r = 7 ∧ mr M r 0 = some (r + 1) ∧ kd M (r + 1) = 30 ∧ ln M (r + 1) = 10 ∧ ∀ j, j < 10 → mr M (r + 1) j = some (r + 2 + j) ∧ kd M (r + 2 + j) = 1
theorem RO.to {M M' : Mm} {r : Nat} (o : RO M r) (h1 : kd M' = kd M) (h2 : ln M' = ln M) (h3 : mr M' r = mr M r) (h4 : mr M' (r + 1) = mr M (r + 1)) : RO M' r := by
  unfold RO
  rw [h1, h2, h3, h4]
  exact o
/-- what reading a text leaves -/
def QRd (M : Mm) (r n : Nat) (inp : Nat → Int32) (y : Int32) (M' : Mm) : Prop := FR M r (r + 11) M' ∧ mr M' = mr M ∧ y = bI ((tOK inp n).1 = true) ∧ mi M' r 2 = nI (tOK inp n).2.1 ∧ ((tOK inp n).1 = true → mi M' r 1 = nI (tOK inp n).2.2 ∧ ∀ j, j < (tOK inp n).2.2 → CF (mi M' (r + 2 + j)) (hC inp n (ps inp n j)) (pC inp n (ps inp n j)).2)
theorem tOK_at {inp : Nat → Int32} {n k : Nat} (hk : k < 9) (h : ∀ j, j < k → gd inp n j = true) (hg : gd inp n k = false) : tOK inp n = if (pC inp n (ps inp n k)).1 = true then (decide (pe inp n k = n), (pe inp n k, k + 1)) else (false, (pe inp n k, k)) := by
  have e : fx (fun k => !gd inp n k) 9 = some k := fx_some.mpr ⟨hk, by rw [hg]; rfl, fun j hj => by rw [h j hj]; rfl⟩
  unfold tOK
  rw [e]
section CLASS
variable {G : GG} {M : Mm} {r b : Nat}
theorem k_X7_read (o : RO M r) {n : Nat} {inp : Nat → Int32} (t : LT M b n inp) (hb : b + 1 < r ∨ r + 11 < b) : KK G IX7_read [.ref r, .ref b] M (qi (QRd M r n inp) nox) := by
  refine KK.ofW (by decide) (by simp [Value.category]) (Nat.le_of_ble_eq_true rfl) rfl ?_
  show WW _ _ _ 0 [_, _] [] _ _ _
  have h60 := t.2.2.1
  refine r_aload_n (dk kX7_read 0 rfl) rfl ?_
  refine r_iconst (v := 0) (dk kX7_read 1 rfl) (by decide) ?_
  refine r_puti (dk kX7_read 2 rfl) fa_X7_18_6 o.1 rfl rfl rfl rfl ?_
  refine r_aload_n (dk kX7_read 3 rfl) rfl ?_
  refine r_iconst (v := 0) (dk kX7_read 4 rfl) (by decide) ?_
  refine r_puti (dk kX7_read 5 rfl) fa_X7_22_6 o.1 rfl rfl rfl rfl ?_
  -- at 10
  suffices key : ∀ z k (Y : Mm), k + z = 9 → (∀ j, j < k → gd inp n j = true) → FR M r (r + 11) Y → mr Y = mr M → mi Y r 1 = nI k → mi Y r 2 = nI (ps inp n k) → (∀ j, j < k → CF (mi Y (r + 2 + j)) (hC inp n (ps inp n j)) (pC inp n (ps inp n j)).2) → WW G IX7_read (qi (QRd M r n inp) nox) 10 [.ref r, .ref b] [] Y 0 0 by
    refine key 9 0 _ rfl (fun j hj => absurd hj (Nat.not_lt_zero j)) (((FR.rfl M r (r + 11)).sI _ _ (by omega)).sI _ _ (by omega)) rfl ?_ ?_ (fun j hj => absurd hj (Nat.not_lt_zero j))
    · rw [mi_sI_s, va_up_self]
      rfl
    · rw [mi_sI_s, va_up_ne _ _ (by decide), mi_sI_s, va_up_self]
      rfl
  intro z
  induction z with
  | zero =>
    intro k Y hk hg
    have hk : k = 9 := hk
    subst hk
    obtain ⟨q1, q2⟩ := ps_b hg
    omega
  | succ z ih =>
    intro k Y hk hg rY mY1 f1 f2 hcm
    obtain ⟨o1, o2, o3, o4, o5⟩ := o
    obtain ⟨q1, q2⟩ := ps_b hg
    have c9 : k < 9 := by omega
    have kr : kd Y r = 7 := by rw [rY.k]; exact o1
    have kc : kd Y (r + 2 + k) = 1 := by rw [rY.k]; exact (o5 k (by omega)).2
    have tY := t.fr rY (by omega)
    refine r_aload_n (dk kX7_read 6 rfl) rfl ?_
    refine r_geti (dk kX7_read 7 rfl) fa_X7_22_6 kr rfl ?_
    -- at 14
    rw [f1]
    refine r_bipush (v := 10) (dk kX7_read 8 rfl) (by decide) ?_
    refine r_icmp_ge (tgt := 73) (dk kX7_read 9 rfl) (by decide) (fun c16 => absurd c16 (nI_ge (a := k) (b := 10) (by omega) (by decide))) (fun c16 => ?_)
    refine r_aload_n (dk kX7_read 10 rfl) rfl ?_
    refine r_aload_n (dk kX7_read 11 rfl) rfl ?_
    refine r_aload_n (dk kX7_read 12 rfl) rfl ?_
    refine r_getR (dk kX7_read 13 rfl) fa_X7_11_6 kr rfl (by rw [mY1]; exact o2) ?_
    refine r_aload_n (dk kX7_read 14 rfl) rfl ?_
    refine r_geti (dk kX7_read 15 rfl) fa_X7_22_6 kr rfl ?_
    -- at 29
    rw [f1]
    refine r_aal (dk kX7_read 16 rfl) (t := 0) (show kd Y (r + 1) = 30 by rw [rY.k]; exact o3) (by decide) (show ln Y (r + 1) = 10 by rw [rY.l]; exact o4) rfl (show k < 10 by omega) (by decide) (by rw [mY1]; exact (o5 k (by omega)).1) ?_
    -- at 30
    have hrc := k_X7_readCommand (G := G) (M := Y) kr kc tY (by omega) (by omega) (by omega) q2
    rw [show cRd Y r (ps inp n k) = Y from sI_self Y f2] at hrc
    refine r_callV (I' := IX7_readCommand) (as := [_, _]) (dk kX7_read 17 rfl) mv_X7_readCommand ml_X7_25 rfl rfl kr rfl rfl (Nat.le_of_ble_eq_true rfl) ⟨by decide, by decide⟩ ⟨Nat.le_of_ble_eq_true rfl, Nat.le_of_ble_eq_true rfl⟩ hrc ?_ ?_
    · exact fun E M' z => z.elim
    rintro v M' ⟨y, rfl, hy, f, hM, hf⟩
    show WW G IX7_read _ 33 [.ref r, .ref b] [.int y] M' 0 0
    have rM : FR M r (r + 11) M' := by
      rw [hM]
      exact (rY.sI _ _ (by omega)).sA _ (by omega)
    have mM : mr M' = mr M := by rw [hM]; exact mY1
    have g2 : mi M' r 2 = nI (pe inp n k) := by rw [hM]; exact cm_2 Y (by omega) _ _
    have g1 : mi M' r 1 = nI k := by
      rw [hM]
      unfold cCm cRd
      rw [mi_sA_n _ _ (by omega), mi_sI_s, va_up_ne _ _ (by decide), f1]
    have gk2 : mi M' (r + 2 + k) = f := by rw [hM]; exact cm_d _ _ _ _ _
    have go : ∀ j, j < k → mi M' (r + 2 + j) = mi Y (r + 2 + j) := fun j hj => by
      rw [hM]
      unfold cCm cRd
      rw [mi_sA_n _ _ (by omega), mi_sI_n _ _ _ (by omega)]
    clear hM
    rw [hy]
    have tM := t.fr rM (by omega)
    have kr2 : kd M' r = 7 := by rw [rM.k]; exact o1
    by_cases hok : (pC inp n (ps inp n k)).1 = true
    · rw [bI_t hok]
      refine r_if_ne (tgt := 38) (dk kX7_read 18 rfl) (by decide) (fun c33 => ?_) (fun c33 => absurd (by decide) c33)
      refine r_aload_n (dk kX7_read 21 rfl) rfl ?_
      refine r_dup (dk kX7_read 22 rfl) rfl ?_
      refine r_geti (dk kX7_read 23 rfl) fa_X7_22_6 kr2 rfl ?_
      -- at 43
      rw [g1]
      refine r_iconst (v := 1) (dk kX7_read 24 rfl) (by decide) ?_
      refine r_iadd (dk kX7_read 25 rfl) ?_
      -- at 45
      rw [show nI k + 1 = nI (k + 1) from nI_1 k]
      refine r_puti (dk kX7_read 26 rfl) fa_X7_22_6 kr2 rfl rfl rfl rfl ?_
      -- at 48
      have rN : FR M r (r + 11) (sI M' r 1 (nI (k + 1))) := rM.sI _ _ (by omega)
      have n2 : mi (sI M' r 1 (nI (k + 1))) r 2 = nI (pe inp n k) := by rw [mi_sI_s, va_up_ne _ _ (by decide), g2]
      have n1 : mi (sI M' r 1 (nI (k + 1))) r 1 = nI (k + 1) := by rw [mi_sI_s, va_up_self]
      have nn : mr (sI M' r 1 (nI (k + 1))) = mr M := mM
      have nc : ∀ j, j < k + 1 → CF (mi (sI M' r 1 (nI (k + 1))) (r + 2 + j)) (hC inp n (ps inp n j)) (pC inp n (ps inp n j)).2 := by
        intro j hj
        rw [mi_sI_n _ _ _ (by omega)]
        by_cases hjk : j = k
        · rw [hjk, gk2]
          exact hf hok
        · rw [go j (by omega)]
          exact hcm j (by omega)
      generalize sI M' r 1 (nI (k + 1)) = N at *
      have tN := t.fr rN (by omega)
      have hpe : pe inp n k ≤ n := pC_le q2
      have kr3 : kd N r = 7 := by rw [rN.k]; exact o1
      refine r_aload_n (dk kX7_read 27 rfl) rfl ?_
      refine r_geti (dk kX7_read 28 rfl) fa_X7_18_6 kr3 rfl ?_
      refine r_aload_n (dk kX7_read 29 rfl) rfl ?_
      refine r_geti (dk kX7_read 30 rfl) fa_X7_29_2 tN.1.1 rfl ?_
      -- at 56
      rw [n2, tN.2.1]
      by_cases hn : pe inp n k = n
      · have hgk : gd inp n k = false := by
          unfold gd
          rw [hn]
          have : hC inp n n ≠ 59 := by unfold hC; rw [if_neg (Nat.lt_irrefl n)]; decide
          rw [decide_eq_false this, Bool.and_false]
        have e := tOK_at c9 hg hgk
        rw [if_pos hok, decide_eq_true hn] at e
        refine r_icmp_ne (tgt := 61) (dk kX7_read 31 rfl) (by decide) (fun c56 => absurd c56 (by rw [hn]; exact fun z => z rfl)) (fun c56 => ?_)
        refine r_iconst (v := 1) (dk kX7_read 32 rfl) (by decide) ?_
        refine r_ireturn (dk kX7_read 33 rfl) rfl rfl ⟨Nat.le_of_ble_eq_true rfl, Nat.le_of_ble_eq_true rfl⟩ ⟨rN, nn, ?_, ?_, ?_⟩
        · rw [e, bI_t rfl]
        · rw [e]; exact n2
        · rw [e]; exact fun _ => ⟨n1, nc⟩
      · have hs := k_X7_readSign (G := G) (M := N) kr3 tN (by omega) hpe 59
        rw [show cRd N r (pe inp n k) = N from sI_self N n2] at hs
        refine r_icmp_ne (tgt := 61) (dk kX7_read 31 rfl) (by decide) (fun c56 => ?_) (fun c56 => absurd (fun z => hn (nI_inj (by omega) (by omega) z)) c56)
        refine r_aload_n (dk kX7_read 34 rfl) rfl ?_
        refine r_aload_n (dk kX7_read 35 rfl) rfl ?_
        refine r_bipush (v := 59) (dk kX7_read 36 rfl) (by decide) ?_
        refine r_callVp (I' := IX7_readSign) (as := [_, _]) (dk kX7_read 37 rfl) mv_X7_readSign ml_X7_34 rfl rfl kr3 rfl rfl (Nat.le_of_ble_eq_true rfl) ⟨by decide, by decide⟩ ⟨rfl, rfl⟩ ⟨Nat.le_of_ble_eq_true rfl, Nat.le_of_ble_eq_true rfl⟩ hs ?_
        -- at 68
        have hce := cC_eq (p := pe inp n k) tN.2.2.2.2 (c := 59) (by decide) (by decide)
        by_cases h59 : hC inp n (pe inp n k) = 59
        · have hgk : gd inp n k = true := by
            unfold gd
            rw [hok, decide_eq_true h59]
            rfl
          have h5 := hce.mpr h59
          rw [bI_t h5, if_pos h5]
          refine r_if_ne (tgt := 10) (dk kX7_read 38 rfl) (by decide) (fun c68 => ?_) (fun c68 => absurd (by decide) c68)
          -- at 10
          refine ih (k + 1) _ (by omega) (fun j hj => ?_) (rN.sI _ _ (by omega)) nn ?_ ?_ (fun j hj => ?_)
          · by_cases hjk : j = k
            · rw [hjk]; exact hgk
            · exact hg j (by omega)
          · unfold cRd
            rw [mi_sI_s, va_up_ne _ _ (by decide), n1]
          · rw [cr_2]
            rfl
          · rw [cr_n _ _ _ (by omega)]
            exact nc j hj
        · have hgk : gd inp n k = false := by
            unfold gd
            rw [decide_eq_false h59, Bool.and_false]
          have h5 : ¬ cC inp n (pe inp n k) = 59 := fun z => h59 (hce.mp z)
          have e := tOK_at c9 hg hgk
          rw [if_pos hok, decide_eq_false hn] at e
          rw [bI_f h5, if_neg h5, show cRd N r (pe inp n k) = N from sI_self N n2]
          refine r_if_ne (tgt := 10) (dk kX7_read 38 rfl) (by decide) (fun c68 => absurd c68 (by exact fun z => z rfl)) (fun c68 => ?_)
          refine r_iconst (v := 0) (dk kX7_read 39 rfl) (by decide) ?_
          refine r_ireturn (dk kX7_read 40 rfl) rfl rfl ⟨Nat.le_of_ble_eq_true rfl, Nat.le_of_ble_eq_true rfl⟩ ⟨rN, nn, ?_, ?_, ?_⟩
          · rw [e, bI_f (fun z => by cases z)]
          · rw [e]; exact n2
          · rw [e]; exact fun z => by cases z
    · have hgk : gd inp n k = false := by
        unfold gd
        rw [Bool.not_eq_true] at hok
        rw [hok]
        rfl
      have e := tOK_at c9 hg hgk
      rw [if_neg hok] at e
      rw [bI_f hok]
      refine r_if_ne (tgt := 38) (dk kX7_read 18 rfl) (by decide) (fun c33 => absurd c33 (by exact fun z => z rfl)) (fun c33 => ?_)
      refine r_iconst (v := 0) (dk kX7_read 19 rfl) (by decide) ?_
      refine r_ireturn (dk kX7_read 20 rfl) rfl rfl ⟨Nat.le_of_ble_eq_true rfl, Nat.le_of_ble_eq_true rfl⟩ ⟨rM, mM, ?_, ?_, ?_⟩
      · rw [e, bI_f (fun z => by cases z)]
      · rw [e]; exact g2
      · rw [e]; exact fun z => by cases z
end CLASS
