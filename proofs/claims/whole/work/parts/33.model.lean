/-! THE REFERENCE: execute -/
section MODEL
variable {G : GG} {M : Mm} {h : Nat}
/-- what 'execute' leaves -/
def QE (M : Mm) (h : Nat) (inp : Nat → Int32) (n : Nat) (y : Int32) (M' : Mm) : Prop :=
  MR M h M' ∧ (∀ a, a = h + 3 ∨ a = h + 5 ∨ a = h + 6 → mi M' a = mi M a) ∧ (∀ i, i = 4 ∨ i = 17 → mi M' h i = mi M h i) ∧ mi M' h 6 = 0 ∧ mi M' h 14 = 0 ∧
  ((tOK inp n).1 = false → y = 0 ∧ mi M' h 8 = 1 ∧ mi M' h 15 = nI (tOK inp n).2.1 ∧ mi M' (h + 1) = mi M (h + 1) ∧ mi M' (h + 2) = mi M (h + 2) ∧ ∀ i, i = 5 ∨ 9 ≤ i ∧ i ≤ 12 → mi M' h i = mi M h i) ∧
  ((tOK inp n).1 = true → mi M' h 15 = mi M h 15 ∧
    (fx (fun j => decide ((rC (mi M (h + 1)) inp n j).1 ≠ 0)) (tOK inp n).2.2 = none → y = nI (tOK inp n).2.2 ∧ mi M' h 8 = 0 ∧ mi M' (h + 1) = rG (mi M (h + 1)) inp n (tOK inp n).2.2 ∧ (∃ r, (∀ i, i < 219 → r i = mi M (h + 1) i) ∧ mi M' (h + 2) = mKeepRow (mi M (h + 2)) r (gn (mi M h) 5)) ∧ mi M' h 5 = nI (min (gn (mi M h) 5) 7 + 1) ∧ ∀ i, 9 ≤ i ∧ i ≤ 12 → mi M' h i = mi M h i) ∧
    (∀ j, fx (fun j => decide ((rC (mi M (h + 1)) inp n j).1 ≠ 0)) (tOK inp n).2.2 = some j → y = 0 ∧ mi M' h 8 = 2 ∧ (∀ i, i < 219 → mi M' (h + 1) i = mi M (h + 1) i) ∧ mi M' (h + 2) = mi M (h + 2) ∧ mi M' h 5 = mi M h 5 ∧ mi M' h 9 = 12 ∧ mi M' h 10 = nI j ∧ mi M' h 11 = (if (rC (mi M (h + 1)) inp n j).2.1.1 = 0 then 13 else (rC (mi M (h + 1)) inp n j).2.1.1) ∧ mi M' h 12 = (if (rC (mi M (h + 1)) inp n j).2.1.1 = 0 then 0 else (rC (mi M (h + 1)) inp n j).2.1.2)))
theorem va_cpy_lt {f g : Nat → Int32} {i : Nat} (hi : i < 219) : va_cpy f g 0 0 219 i = f i := by
  unfold va_cpy
  rw [if_pos (by omega)]
  congr 1
  omega
theorem k_ex_ok (o : MO M h) {n : Nat} {inp : Nat → Int32} (hk : nb (mi M h) 5 9) (hok : (tOK inp n).1 = true) {Y : Mm} {v : Int32} (hz : ∀ z, z < (tOK inp n).2.2 → (rC (mi M (h + 1)) inp n z).1 = 0) (rY : MR M h Y) (gY : mi Y (h + 1) = rG (mi M (h + 1)) inp n (tOK inp n).2.2) (bY : ∀ i, i < 219 → mi Y (h + 4) i = mi M (h + 1) i) (aY : ∀ a, a = h + 2 ∨ a = h + 3 ∨ a = h + 5 ∨ a = h + 6 → mi Y a = mi M a) (fY : ∀ i, i ≠ 6 → i ≠ 7 → i ≠ 8 → i ≠ 14 → i ≠ 19 → i ≠ 21 → mi Y h i = mi M h i) (f14 : mi Y h 14 = 0) (f21 : mi Y h 21 = nI (tOK inp n).2.2) (cY : mi Y h 8 = 0) : WW G IX9_execute (qi (QE M h inp n) nox) 98 [.ref h, .int 1, .int (nI (tOK inp n).2.2), .int v] [] Y 0 0 := by
  have oY := o.mr rY
  generalize hV : sI Y h 6 0 = V
  have rV : MR M h V := by rw [← hV]; exact rY.sI _ _ (by omega)
  have nV : ∀ a, a ≠ h → mi V a = mi Y a := fun a ha => by rw [← hV, mi_sI_n _ _ _ ha]
  have fV : ∀ i, i ≠ 6 → mi V h i = mi Y h i := fun i hi => by rw [← hV, mi_sI_s, va_up_ne _ _ hi]
  have fV6 : mi V h 6 = 0 := by rw [← hV, mi_sI_s, va_up_self]
  refine r_aload_n (dk kX9_execute_p0 54 rfl) rfl ?_
  refine r_iconst (v := 0) (dk kX9_execute_p0 55 rfl) (by decide) ?_
  refine r_puti (dk kX9_execute_p0 56 rfl) fa_X9_58_8 oY.k rfl rfl rfl rfl ?_
  -- at 103
  rw [hV]
  clear hV
  have oV := o.mr rV
  refine r_aload_n (dk kX9_execute_p0 57 rfl) rfl ?_
  refine r_geti (dk kX9_execute_p0 58 rfl) fa_X9_39_8 oV.k rfl ?_
  -- at 107
  rw [fV 8 (by decide), cY]
  have q5 : mi V h 5 = mi M h 5 := by rw [fV 5 (by decide), fY 5 (by decide) (by decide) (by decide) (by decide) (by decide) (by decide)]
  refine r_if_le (tgt := 139) (dk kX9_execute_p0 59 rfl) (by decide) (fun c107 => ?_) (fun c107 => absurd (by decide) c107)
  refine r_aload_n (dk kX9_execute_p1 17 rfl) rfl ?_
  refine r_aload_n (dk kX9_execute_p1 18 rfl) rfl ?_
  refine r_getR (dk kX9_execute_p1 19 rfl) fa_X9_19_8 oV.k rfl oV.r3 ?_
  refine r_callVu (I' := IX9_keeps) (as := [_]) (dk kX9_execute_p1 20 rfl) mv_X9_keeps ml_X9_90 rfl rfl oV.k rfl rfl (Nat.le_of_ble_eq_true rfl) ⟨by decide, by decide⟩ ⟨rfl, rfl⟩ ⟨Nat.le_of_ble_eq_true rfl, Nat.le_of_ble_eq_true rfl⟩ (k_X9_keeps (M := V) (a := h + 4) oV ⟨by omega, by omega⟩ oV.k4 oV.l4 (nb_eq q5 hk)) ?_
  -- at 147
  generalize hK : mKeep V h (h + 4) = K
  have eK : K = sA (sA V (h + 2) (mKeepRow (mi M (h + 2)) (mi Y (h + 4)) (gn (mi M h) 5))) h (va_up (va_up (mi V h) 8 0) 5 (nI (min (gn (mi M h) 5) 7 + 1))) := by
    rw [← hK]
    unfold mKeep
    rw [if_pos fV6, gn_eq q5, nV _ (show h + 2 ≠ h by omega), nV _ (show h + 4 ≠ h by omega), aY _ (by omega)]
  clear hK
  have rK : MR M h K := by rw [eK]; exact (rV.sA _ (by omega)).sA _ (by omega)
  have eF : ∀ i, i ≠ 5 → i ≠ 8 → mi K h i = mi V h i := fun i h1 h2 => by rw [eK, mi_sA_s, va_up_ne _ _ h1, va_up_ne _ _ h2]
  have e5 : mi K h 5 = nI (min (gn (mi M h) 5) 7 + 1) := by rw [eK, mi_sA_s, va_up_self]
  have e8 : mi K h 8 = 0 := by rw [eK, mi_sA_s, va_up_ne _ _ (by decide), va_up_self]
  have eN : ∀ a, a ≠ h → a ≠ h + 2 → mi K a = mi V a := fun a h1 h2 => by rw [eK, mi_sA_n _ _ h1, mi_sA_n _ _ h2]
  have e2 : mi K (h + 2) = mKeepRow (mi M (h + 2)) (mi Y (h + 4)) (gn (mi M h) 5) := by rw [eK, mi_sA_n _ _ (by omega), mi_sA_s]
  clear eK
  have oK := o.mr rK
  refine r_aload_n (dk kX9_execute_p1 21 rfl) rfl ?_
  refine r_geti (dk kX9_execute_p1 22 rfl) fa_X9_174_8 oK.k rfl ?_
  -- at 151
  rw [eF 21 (by decide) (by decide), fV 21 (by decide), f21]
  have fM : ∀ i, i ≠ 5 → i ≠ 6 → i ≠ 7 → i ≠ 8 → i ≠ 14 → i ≠ 19 → i ≠ 21 → mi K h i = mi M h i := fun i h0 h1 h2 h3 h4 h5 h6 => by rw [eF i h0 h3, fV i h1, fY i h1 h2 h3 h4 h5 h6]
  have p1 : QE M h inp n (nI (tOK inp n).2.2) K := by
    refine ⟨rK, ?_, ?_, ?_, ?_, (fun z => Bool.noConfusion (hok.symm.trans z)), (fun _ => ⟨?_, (fun _ => ⟨rfl, e8, ?_, ⟨mi Y (h + 4), bY, e2⟩, e5, ?_⟩), (fun q hq => ?_)⟩)⟩
    · intro a ha
      rw [eN a (by omega) (by omega), nV a (by omega), aY a (by omega)]
    · intro i hi
      exact fM i (by omega) (by omega) (by omega) (by omega) (by omega) (by omega) (by omega)
    · rw [eF 6 (by decide) (by decide), fV6]
    · rw [eF 14 (by decide) (by decide), fV 14 (by decide), f14]
    · exact fM 15 (by decide) (by decide) (by decide) (by decide) (by decide) (by decide) (by decide)
    · rw [eN _ (by omega) (by omega), nV _ (by omega), gY]
    · intro i hi
      exact fM i (by omega) (by omega) (by omega) (by omega) (by omega) (by omega) (by omega)
    · exfalso
      obtain ⟨q1, q2, -⟩ := fx_some.mp hq
      exact of_decide_eq_true q2 (hz q q1)
  refine r_ireturn (dk kX9_execute_p1 23 rfl) rfl rfl ⟨Nat.le_of_ble_eq_true rfl, Nat.le_of_ble_eq_true rfl⟩ p1
theorem k_ex_fail (o : MO M h) {n j : Nat} {inp : Nat → Int32} (hok : (tOK inp n).1 = true) {W : Mm} {co : CO} (hco : rC (mi M (h + 1)) inp n j = co) (hfx : fx (fun j => decide ((rC (mi M (h + 1)) inp n j).1 ≠ 0)) (tOK inp n).2.2 = some j) (hpos : 0 < co.1) (rW : MR M h W) (bW : ∀ i, i < 219 → mi W (h + 4) i = mi M (h + 1) i) (aW : ∀ a, a = h + 2 ∨ a = h + 3 ∨ a = h + 5 ∨ a = h + 6 → mi W a = mi M a) (fW : ∀ i, i = 4 ∨ i = 5 ∨ i = 15 ∨ i = 17 → mi W h i = mi M h i) (f14 : mi W h 14 = 0) (cW : mi W h 8 = co.1) (d1 : (if mi W h 7 = 0 then 13 else mi W h 9) = (if co.2.1.1 = 0 then 13 else co.2.1.1)) (d2 : (if mi W h 7 = 0 then 0 else mi W h 10) = (if co.2.1.1 = 0 then 0 else co.2.1.2)) : WW G IX9_execute (qi (QE M h inp n) nox) 98 [.ref h, .int 1, .int (nI j), .int 0] [] W 0 0 := by
  have oW := o.mr rW
  generalize hU : sI W h 6 0 = U
  have rU : MR M h U := by rw [← hU]; exact rW.sI _ _ (by omega)
  have nU : ∀ a, a ≠ h → mi U a = mi W a := fun a ha => by rw [← hU, mi_sI_n _ _ _ ha]
  have fU : ∀ i, i ≠ 6 → mi U h i = mi W h i := fun i hi => by rw [← hU, mi_sI_s, va_up_ne _ _ hi]
  have fU6 : mi U h 6 = 0 := by rw [← hU, mi_sI_s, va_up_self]
  refine r_aload_n (dk kX9_execute_p0 54 rfl) rfl ?_
  refine r_iconst (v := 0) (dk kX9_execute_p0 55 rfl) (by decide) ?_
  refine r_puti (dk kX9_execute_p0 56 rfl) fa_X9_58_8 oW.k rfl rfl rfl rfl ?_
  -- at 103
  rw [hU]
  clear hU
  have oU := o.mr rU
  refine r_aload_n (dk kX9_execute_p0 57 rfl) rfl ?_
  refine r_geti (dk kX9_execute_p0 58 rfl) fa_X9_39_8 oU.k rfl ?_
  -- at 107
  rw [fU 8 (by decide), cW]
  refine r_if_le (tgt := 139) (dk kX9_execute_p0 59 rfl) (by decide) (fun c107 => absurd c107 (by exact Int32.not_le.mpr hpos)) (fun c107 => ?_)
  refine r_aload_n (dk kX9_execute_p1 0 rfl) rfl ?_
  refine r_getR (dk kX9_execute_p1 1 rfl) fa_X9_19_8 oU.k rfl oU.r3 ?_
  refine r_iconst (v := 0) (dk kX9_execute_p1 2 rfl) (by decide) ?_
  refine r_aload_n (dk kX9_execute_p1 3 rfl) rfl ?_
  refine r_getR (dk kX9_execute_p1 4 rfl) fa_X9_7_8 oU.k rfl oU.r0 ?_
  refine r_iconst (v := 0) (dk kX9_execute_p1 5 rfl) (by decide) ?_
  refine r_callSu (I' := IX9_copies) (as := [_, _, _, _]) (dk kX9_execute_p1 6 rfl) ms_X9_copies ml_X9_64 rfl rfl rfl (Nat.le_of_ble_eq_true rfl) ⟨by decide, by decide⟩ ⟨rfl, rfl⟩ ⟨Nat.le_of_ble_eq_true rfl, Nat.le_of_ble_eq_true rfl⟩ (k_X9_copies (M := U) (i0 := 0) (o0 := 0) (by omega) oU.k4 oU.k1 oU.l4 oU.l1 (by decide) (by decide) rfl rfl (by decide) (by decide)) ?_
  -- at 123
  generalize hV : sA U (h + 1) (va_cpy (mi U (h + 4)) (mi U (h + 1)) 0 0 219) = V
  have rV : MR M h V := by rw [← hV]; exact rU.sA _ (by omega)
  have gV : ∀ i, i < 219 → mi V (h + 1) i = mi M (h + 1) i := fun i hi => by rw [← hV, mi_sA_s, va_cpy_lt hi, nU _ (by omega), bW i hi]
  have nV : ∀ a, a ≠ h → a ≠ h + 1 → mi V a = mi W a := fun a h1 h2 => by rw [← hV, mi_sA_n _ _ h2, nU a h1]
  have fV : ∀ i, i ≠ 6 → mi V h i = mi W h i := fun i h1 => by rw [← hV, mi_sA_n _ _ (by omega), fU i h1]
  have fV6 : mi V h 6 = 0 := by rw [← hV, mi_sA_n _ _ (by omega), fU6]
  clear hV
  have oV := o.mr rV
  refine r_aload_n (dk kX9_execute_p1 7 rfl) rfl ?_
  refine r_iload_n (dk kX9_execute_p1 8 rfl) rfl ?_
  refine r_callVp (I' := IX9_deniesText) (as := [_]) (dk kX9_execute_p1 9 rfl) mv_X9_deniesText ml_X9_249 rfl rfl oV.k rfl rfl (Nat.le_of_ble_eq_true rfl) ⟨by decide, by decide⟩ ⟨rfl, rfl⟩ ⟨Nat.le_of_ble_eq_true rfl, Nat.le_of_ble_eq_true rfl⟩ (k_X9_deniesText oV _) ?_
  -- at 128
  rw [fV 7 (by decide), fV 9 (by decide), fV 10 (by decide), d1, d2]
  refine r_iload_n (dk kX9_execute_p1 10 rfl) rfl ?_
  refine r_if_le (tgt := 136) (dk kX9_execute_p1 11 rfl) (by decide) (fun c129 => ?_) (fun c129 => absurd (by decide) c129)
  refine r_iload_n (dk kX9_execute_p1 14 rfl) rfl ?_
  refine r_iadd (dk kX9_execute_p1 15 rfl) ?_
  -- at 138
  generalize hn1 : (if co.2.1.1 = 0 then (13 : Int32) else co.2.1.1) = c1
  generalize hn2 : (if co.2.1.1 = 0 then (0 : Int32) else co.2.1.2) = c2
  have eE : mi (sI (sI (mDeny V h 2 12 (nI j)) h 11 c1) h 12 c2) h = va_up (va_up (va_up (va_up (va_up (va_up (va_up (va_up (mi V h) 8 2) 7 1) 9 12) 10 (nI j)) 11 0) 12 0) 11 c1) 12 c2 := by rw [mi_sI_s, mi_sI_s, mi_sI_s, mi_sI_s, mi_sI_s, mi_sI_s, mi_sI_s, mi_sI_s]
  have nE : ∀ a, a ≠ h → mi (sI (sI (mDeny V h 2 12 (nI j)) h 11 c1) h 12 c2) a = mi V a := fun a ha => by rw [mi_sI_n _ _ _ ha, mi_sI_n _ _ _ ha, mi_sI_n _ _ _ ha, mi_sI_n _ _ _ ha, mi_sI_n _ _ _ ha, mi_sI_n _ _ _ ha, mi_sI_n _ _ _ ha, mi_sI_n _ _ _ ha]
  have rE : MR M h (sI (sI (mDeny V h 2 12 (nI j)) h 11 c1) h 12 c2) := (((((((rV.sI _ _ (by omega)).sI _ _ (by omega)).sI _ _ (by omega)).sI _ _ (by omega)).sI _ _ (by omega)).sI _ _ (by omega)).sI _ _ (by omega)).sI _ _ (by omega)
  generalize sI (sI (mDeny V h 2 12 (nI j)) h 11 c1) h 12 c2 = E at *
  have fE : ∀ i, i < 7 ∨ 12 < i → mi E h i = mi V h i := fun i hi => by rw [eE, va_up_ne _ _ (by omega), va_up_ne _ _ (by omega), va_up_ne _ _ (by omega), va_up_ne _ _ (by omega), va_up_ne _ _ (by omega), va_up_ne _ _ (by omega), va_up_ne _ _ (by omega), va_up_ne _ _ (by omega)]
  have e8 : mi E h 8 = 2 := by rw [eE, va_up_ne _ _ (by decide), va_up_ne _ _ (by decide), va_up_ne _ _ (by decide), va_up_ne _ _ (by decide), va_up_ne _ _ (by decide), va_up_ne _ _ (by decide), va_up_ne _ _ (by decide), va_up_self]
  have e9 : mi E h 9 = 12 := by rw [eE, va_up_ne _ _ (by decide), va_up_ne _ _ (by decide), va_up_ne _ _ (by decide), va_up_ne _ _ (by decide), va_up_ne _ _ (by decide), va_up_self]
  have e10 : mi E h 10 = nI j := by rw [eE, va_up_ne _ _ (by decide), va_up_ne _ _ (by decide), va_up_ne _ _ (by decide), va_up_ne _ _ (by decide), va_up_self]
  have e11 : mi E h 11 = c1 := by rw [eE, va_up_ne _ _ (by decide), va_up_self]
  have e12 : mi E h 12 = c2 := by rw [eE, va_up_self]
  have fEM : ∀ i, i = 4 ∨ i = 5 ∨ i = 15 ∨ i = 17 → mi E h i = mi M h i := fun i hi => by rw [fE i (by omega), fV i (by omega), fW i (by omega)]
  have p1 : QE M h inp n 0 E := by
    refine ⟨rE, ?_, ?_, ?_, ?_, (fun z => Bool.noConfusion (hok.symm.trans z)), (fun _ => ⟨fEM 15 (by omega), (fun z => ?_), (fun q hq => ?_)⟩)⟩
    · intro a ha
      rw [nE a (by omega), nV a (by omega) (by omega), aW a (by omega)]
    · intro i hi
      exact fEM i (by omega)
    · rw [fE 6 (by omega), fV6]
    · rw [fE 14 (by omega), fV 14 (by decide), f14]
    · rw [hfx] at z
      cases z
    · rw [hfx] at hq
      cases hq
      rw [hco]
      refine ⟨rfl, e8, (fun i hi => by rw [nE _ (by omega)]; exact gV i hi), ?_, fEM 5 (by omega), e9, e10, by rw [e11, hn1], by rw [e12, hn2]⟩
      rw [nE _ (by omega), nV _ (by omega) (by omega), aW _ (by omega)]
  refine r_ireturn (dk kX9_execute_p1 16 rfl) rfl rfl ⟨Nat.le_of_ble_eq_true rfl, Nat.le_of_ble_eq_true rfl⟩ p1
end MODEL
