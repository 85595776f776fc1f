/-! CONSTRUCTORS: cells as they come; petitions, rulings, commands, lines, states -/
/-- below a nothing has changed -/
def NB (M : Mm) (a : Nat) (M' : Mm) : Prop := ∀ c, c < a → kd M' c = kd M c ∧ ln M' c = ln M c ∧ mi M' c = mi M c ∧ mr M' c = mr M c ∧ mj M' c = mj M c ∧ md M' c = md M c
theorem NB.rfl (M : Mm) (a : Nat) : NB M a M := fun _ _ => ⟨_root_.rfl, _root_.rfl, _root_.rfl, _root_.rfl, _root_.rfl, _root_.rfl⟩
theorem NB.tr {M M' M2 : Mm} {a b : Nat} (h : NB M a M') (h2 : NB M' b M2) (hab : a ≤ b) : NB M a M2 := fun c hc => by
  obtain ⟨a1, a2, a3, a4, a5, a6⟩ := h c hc
  obtain ⟨b1, b2, b3, b4, b5, b6⟩ := h2 c (by omega)
  exact ⟨b1.trans a1, b2.trans a2, b3.trans a3, b4.trans a4, b5.trans a5, b6.trans a6⟩
theorem NB.le {M M' : Mm} {a b : Nat} (h : NB M a M') (hab : b ≤ a) : NB M b M' := fun c hc => h c (by omega)
theorem NB.sN (M : Mm) (k n : Nat) : NB M (nx M) (sN M k n) := fun c hc => by
  obtain ⟨a1, a2, a3, a4, a5, a6⟩ := up_sN (M := M) (k := k) (n := n) c (by omega)
  exact ⟨a1.symm, a2.symm, a3.symm, a4.symm, a5.symm, a6.symm⟩
theorem NB.sR {M : Mm} {a b : Nat} (j : Nat) (v : Option Nat) (h : b ≤ a) : NB M b (sR M a j v) := fun c hc => ⟨_root_.rfl, _root_.rfl, _root_.rfl, u2_n _ _ _ (by omega), _root_.rfl, _root_.rfl⟩
theorem NB.sI {M : Mm} {a b : Nat} (j : Nat) (v : Int32) (h : b ≤ a) : NB M b (sI M a j v) := fun c hc => ⟨_root_.rfl, _root_.rfl, mi_sI_n _ _ _ (by omega), _root_.rfl, _root_.rfl, _root_.rfl⟩
/-- a cell: kind, length, ints, references -/
def CE (M : Mm) (c k l : Nat) (f : Nat → Int32) (r : Nat → Option Nat) : Prop := kd M c = k ∧ ln M c = l ∧ mi M c = f ∧ mr M c = r
section CE
variable {M M' : Mm} {c k l : Nat} {f : Nat → Int32} {r : Nat → Option Nat}
theorem CE.new (M : Mm) (k n : Nat) : CE (sN M k n) (nx M) k n (fun _ => 0) (fun _ => none) := ⟨(sN_new M k n).1, (sN_new M k n).2.1, (sN_new M k n).2.2.1, (sN_new M k n).2.2.2.1⟩
theorem CE.nb {a : Nat} (e : CE M c k l f r) (h : NB M a M') (hc : c < a) : CE M' c k l f r := by
  obtain ⟨a1, a2, a3, a4, -⟩ := h c hc
  exact ⟨a1.trans e.1, a2.trans e.2.1, a3.trans e.2.2.1, a4.trans e.2.2.2⟩
theorem CE.sN (e : CE M c k l f r) (k' n : Nat) (hc : c < nx M) : CE (sN M k' n) c k l f r := e.nb (NB.sN M k' n) hc
theorem CE.sR_n (e : CE M c k l f r) {a : Nat} (j : Nat) (v : Option Nat) (hc : c ≠ a) : CE (sR M a j v) c k l f r := ⟨e.1, e.2.1, e.2.2.1, (u2_n _ _ _ hc).trans e.2.2.2⟩
theorem CE.sR_s (e : CE M c k l f r) (j : Nat) (v : Option Nat) : CE (sR M c j v) c k l f (va_up r j v) := ⟨e.1, e.2.1, e.2.2.1, by rw [mr_sR, u2_s, e.2.2.2]⟩
theorem CE.sI_n (e : CE M c k l f r) {a : Nat} (j : Nat) (v : Int32) (hc : c ≠ a) : CE (sI M a j v) c k l f r := ⟨e.1, e.2.1, (mi_sI_n _ _ _ hc).trans e.2.2.1, e.2.2.2⟩
theorem CE.sI_s (e : CE M c k l f r) (j : Nat) (v : Int32) : CE (sI M c j v) c k l (va_up f j v) r := ⟨e.1, e.2.1, by rw [mi_sI_s, e.2.2.1], e.2.2.2⟩
end CE
theorem nx_sN (M : Mm) (k n : Nat) : nx (sN M k n) = nx M + 1 := rfl
section ROWS4
variable {G : GG} {I : MI} {Q : QQ} {pc : Nat} {L st : List Value} {M : Mm} {k n : Nat}
/-- a private constructor of a nest mate, without arguments, that makes nothing -/
theorem r_ctorN {idx b : Nat} {I' : MI} {M1 : Mm} (hd : decode (mB I) pc = .ok (.invokespecial idx, 3)) (hw : MIw (mY I') (mB I') (mL I') 0) (ht : mT I' = none) (hl : ((mY I).cls, idx, mY I') ∈ nw_tab) (he : (mH I').isEmpty = true) (hh : (mH I).isEmpty = true) (hcat : (st.map fun v => v.category).sum ≤ 8) (hR : (mR I').frames + 1 ≤ (mR I).frames ∧ 8 + (mL I' + 11) + (mR I').locals ≤ (mR I).locals) (hz : (mR I').cells = 0 ∧ (mR I').slots = 0) (hf : k ≤ (mR I).cells ∧ n ≤ (mR I).slots) (hK : KU G I' [.ref b] M M1) (h : WW G I Q (pc + 3) L st M1 k n) : WW G I Q pc L (.ref b :: st) M k n :=
  r_callIN (as := []) hd hw ht hl he hh rfl hcat hR (by rw [hz.1, hz.2]; exact hf) hK (fun _ _ z => z) (fun v M' ⟨h1, h3⟩ => by subst h1; subst h3; rw [hz.1, hz.2]; exact h)
end ROWS4
theorem nwm_1 : (RX6, 33, yX4_init) ∈ nw_tab := .head _
theorem nwm_2 : (RX4, 1, yX0_init) ∈ nw_tab := .tail _ (.head _)
theorem nwm_3 : (RX6, 34, yX5_init) ∈ nw_tab := .tail _ (.tail _ (.head _))
theorem nwm_4 : (RX5, 1, yX0_init) ∈ nw_tab := .tail _ (.tail _ (.tail _ (.head _)))
theorem nwm_5 : (RX8, 28, yX3_init) ∈ nw_tab := .tail _ (.tail _ (.tail _ (.tail _ (.head _))))
theorem nwm_6 : (RX7, 17, yX1_init) ∈ nw_tab := .tail _ (.tail _ (.tail _ (.tail _ (.tail _ (.head _)))))
section CLASS
variable {G : GG} {M : Mm} {a s : Nat}
theorem k_X0_init : KU G IX0_init [.ref a] M M := by
  refine KK.ofW (by decide) (by simp [Value.category]) (Nat.le_of_ble_eq_true rfl) rfl ?_
  show WW _ _ _ 0 [_] [] _ _ _
  refine r_aload_n (dk kX0_init 0 rfl) rfl ?_
  refine r_obj (dk kX0_init 1 rfl) ml_X0_1 w_objI w_objC (by decide) (Nat.le_of_ble_eq_true rfl) ?_
  refine r_return (dk kX0_init 2 rfl) rfl ⟨Nat.le_of_ble_eq_true rfl, Nat.le_of_ble_eq_true rfl⟩ rfl
theorem k_X1_init : KU G IX1_init [.ref a] M M := by
  refine KK.ofW (by decide) (by simp [Value.category]) (Nat.le_of_ble_eq_true rfl) rfl ?_
  show WW _ _ _ 0 [_] [] _ _ _
  refine r_aload_n (dk kX1_init 0 rfl) rfl ?_
  refine r_obj (dk kX1_init 1 rfl) ml_X1_1 w_objI w_objC (by decide) (Nat.le_of_ble_eq_true rfl) ?_
  refine r_return (dk kX1_init 2 rfl) rfl ⟨Nat.le_of_ble_eq_true rfl, Nat.le_of_ble_eq_true rfl⟩ rfl
theorem k_X4_init : KU G IX4_init [.ref a] M M := by
  refine KK.ofW (by decide) (by simp [Value.category]) (Nat.le_of_ble_eq_true rfl) rfl ?_
  show WW _ _ _ 0 [_] [] _ _ _
  refine r_aload_n (dk kX4_init 0 rfl) rfl ?_
  -- at 1
  refine r_ctorN (I' := IX0_init) (dk kX4_init 1 rfl) mi_X0_init rfl nwm_2 rfl rfl (Nat.le_of_ble_eq_true rfl) ⟨by decide, by decide⟩ ⟨rfl, rfl⟩ ⟨Nat.le_of_ble_eq_true rfl, Nat.le_of_ble_eq_true rfl⟩ k_X0_init ?_
  refine r_return (dk kX4_init 2 rfl) rfl ⟨Nat.le_of_ble_eq_true rfl, Nat.le_of_ble_eq_true rfl⟩ rfl
theorem k_X5_init : KU G IX5_init [.ref a] M M := by
  refine KK.ofW (by decide) (by simp [Value.category]) (Nat.le_of_ble_eq_true rfl) rfl ?_
  show WW _ _ _ 0 [_] [] _ _ _
  refine r_aload_n (dk kX5_init 0 rfl) rfl ?_
  -- at 1
  refine r_ctorN (I' := IX0_init) (dk kX5_init 1 rfl) mi_X0_init rfl nwm_4 rfl rfl (Nat.le_of_ble_eq_true rfl) ⟨by decide, by decide⟩ ⟨rfl, rfl⟩ ⟨Nat.le_of_ble_eq_true rfl, Nat.le_of_ble_eq_true rfl⟩ k_X0_init ?_
  refine r_return (dk kX5_init 2 rfl) rfl ⟨Nat.le_of_ble_eq_true rfl, Nat.le_of_ble_eq_true rfl⟩ rfl
/-- what a new line is -/
theorem k_X3_init (hx : nx M = a + 1) (e0 : CE M a 3 0 (fun _ => 0) (fun _ => none)) : KK G IX3_init [.ref a] M (qv (fun M' => NB M a M' ∧ nx M' = a + 2 ∧ LO M' a ∧ mi M' a 1 = 0) nox) := by
  refine KK.ofW (by decide) (by simp [Value.category]) (Nat.le_of_ble_eq_true rfl) rfl ?_
  show WW _ _ _ 0 [_] [] _ _ _
  refine r_aload_n (dk kX3_init 0 rfl) rfl ?_
  refine r_obj (dk kX3_init 1 rfl) ml_X3_3 w_objI w_objC (by decide) (Nat.le_of_ble_eq_true rfl) ?_
  refine r_aload_n (dk kX3_init 2 rfl) rfl ?_
  refine r_bipush (v := 60) (dk kX3_init 3 rfl) (by decide) ?_
  -- at 7
  refine r_newC (I := IX3_init) (k := 0) (n := 0) (x := 60) (N := 60) (dk kX3_init 4 rfl) w_arr_char (by decide) (by decide) (by decide) ⟨Nat.le_of_ble_eq_true rfl, Nat.le_of_ble_eq_true rfl⟩ ?_
  have hnb := NB.sN M 21 60
  have e1 := CE.new M 21 60
  have e2 := e0.sN 21 60 (by omega)
  have hx2 := nx_sN M 21 60
  rw [hx] at hnb e1 hx2 ⊢
  generalize sN M 21 60 = N at *
  refine r_putF (Cn := "") (dk kX3_init 5 rfl) fa_X3_9_2 e2.1 rfl rfl rfl rfl rfl rfl ?_
  -- at 12
  have e3 := e2.sR_s 0 (some (a + 1))
  have e4 := e1.sR_n (a := a) 0 (some (a + 1)) (by omega)
  refine r_return (dk kX3_init 6 rfl) rfl ⟨Nat.le_of_ble_eq_true rfl, Nat.le_of_ble_eq_true rfl⟩ ⟨(hnb.le (by omega)).tr (NB.sR 0 _ (Nat.le_refl a)) (Nat.le_refl a), hx2, ⟨e3.1, e4.1, e4.2.1, by rw [e3.2.2.2, va_up_self]⟩, by rw [e3.2.2.1]⟩
end CLASS
