/-! TEXTS: the constants' rows, and String's methods on them -/
section TEXTS
variable {G : GG} {I : MI} {Q : QQ} {pc : Nat} {L st : List Value} {M : Mm} {k n : Nat}
theorem r_ldcS {idx i : Nat} {tx : String} (hd : decode (mB I) pc = .ok (.ldc idx, 2)) (hm : ((mY I).cls, idx, tx, i) ∈ tx_tab) (h : WW G I Q (pc + 2) L (.ref (gk G i) :: st) M k n) : WW G I Q pc L st M k n := by
  intro p e s m args below meth c H locs ls C Y S V
  have hS := C.2.2.2.2.2.2.2.2.2.1
  exact va_ldcS C.1 C.2.1 C.2.2.2.2.2.1 (hS.2.1 _ hm) hd (h p e s m args below meth c H locs ls C Y S V)
theorem r_tval {idx i : Nat} (hd : decode (mB I) pc = .ok (.getfield idx, 3)) (hl : Cond.fieldLink (mY I).cls idx "java/lang/String" "value" "[B" ∈ lwG) (hi : i < 20) (h : WW G I Q (pc + 3) L (.ref (gv G i) :: st) M k n) : WW G I Q pc L (.ref (gk G i) :: st) M k n := by
  intro p e s m args below meth c H locs ls C Y S V
  have hE := C.2.2.2.2.2.2.2.2.2.2
  exact vk_getf C.1 C.2.1 (hE.2.2.2.2.2.1.1 i hi).2.2.1 S C.2.2.2.2.2.1 (C.2.2.2.2.1 _ hl) (fun _ h => h) hd (h p e s m args below meth c H locs ls C Y S V)
theorem r_tcod {idx i : Nat} (hd : decode (mB I) pc = .ok (.getfield idx, 3)) (hl : Cond.fieldLink (mY I).cls idx "java/lang/String" "coder" "B" ∈ lwG) (hi : i < 20) (h : WW G I Q (pc + 3) L (.int 0 :: st) M k n) : WW G I Q pc L (.ref (gk G i) :: st) M k n := by
  intro p e s m args below meth c H locs ls C Y S V
  have hE := C.2.2.2.2.2.2.2.2.2.2
  exact vk_getf C.1 C.2.1 (hE.2.2.2.2.2.1.1 i hi).2.1 S C.2.2.2.2.2.1 (C.2.2.2.2.1 _ hl) (fun _ h => h) hd (h p e s m args below meth c H locs ls C Y S V)
theorem r_tlen {i : Nat} (hd : decode (mB I) pc = .ok (.arraylength, 1)) (hi : i < 20) (h : WW G I Q (pc + 1) L (.int (nI (tx_len.getD i 0)) :: st) M k n) : WW G I Q pc L (.ref (gv G i) :: st) M k n := by
  intro p e s m args below meth c H locs ls C Y S V
  have hE := C.2.2.2.2.2.2.2.2.2.2
  exact va_tlen C.1 C.2.1 (hE.2.2.2.2.2.1.1 i hi).2.2.2 S rfl hd (h p e s m args below meth c H locs ls C Y S V)
theorem r_tb {i : Nat} {x : Int32} (hd : decode (mB I) pc = .ok (.baload, 1)) (hi : i < 20) (hx : vp_in x (tx_len.getD i 0)) (h : WW G I Q (pc + 1) L (.int ((tx_byt.getD i []).getD x.toNatClampNeg 0) :: st) M k n) : WW G I Q pc L (.int x :: .ref (gv G i) :: st) M k n := by
  intro p e s m args below meth c H locs ls C Y S V
  have hE := C.2.2.2.2.2.2.2.2.2.2
  exact va_tb C.1 C.2.1 (hE.2.2.2.2.2.1.1 i hi).2.2.2 S hx rfl hd (h p e s m args below meth c H locs ls C Y S V)
theorem r_getsC {idx : Nat} (hd : decode (mB I) pc = .ok (.getstatic idx, 3)) (hl : Cond.fieldLink (mY I).cls idx "java/lang/String" "COMPACT_STRINGS" "Z" ∈ lwG) (h : WW G I Q (pc + 3) L (.int 1 :: st) M k n) : WW G I Q pc L st M k n := by
  intro p e s m args below meth c H locs ls C Y S V
  have hE := C.2.2.2.2.2.2.2.2.2.2
  exact va_gets C.1 C.2.1 hE.2.2.2.2.2.2.1 S C.2.2.2.2.2.1 (C.2.2.2.2.1 _ hl) (fun _ h => h) hd (h p e s m args below meth c H locs ls C Y S V)
theorem r_getsF {idx : Nat} (hd : decode (mB I) pc = .ok (.getstatic idx, 3)) (hl : Cond.fieldLink (mY I).cls idx "jdk/internal/util/Preconditions" "SIOOBE_FORMATTER" "Ljava/util/function/BiFunction;" ∈ lwG) (h : ∀ r : Option Nat, WW G I Q (pc + 3) L (va_rf r :: st) M k n) : WW G I Q pc L st M k n := by
  intro p e s m args below meth c H locs ls C Y S V
  have hE := C.2.2.2.2.2.2.2.2.2.2
  rcases hE.2.2.2.2.2.2.2 with hZ | ⟨t, hZ⟩
  · exact va_gets C.1 C.2.1 hZ S C.2.2.2.2.2.1 (C.2.2.2.2.1 _ hl) (fun _ h => h) hd (h none p e s m args below meth c H locs ls C Y S V)
  · exact va_gets C.1 C.2.1 hZ S C.2.2.2.2.2.1 (C.2.2.2.2.1 _ hl) (fun _ h => h) hd (h (some t) p e s m args below meth c H locs ls C Y S V)
/-- a method of String, on a text -/
theorem r_callT {idx i : Nat} {I' : MI} {as stk : List Value} {Q' : QQ} (hd : decode (mB I) pc = .ok (.invokevirtual idx, 3)) (hw : MVw (mY I') (mB I') (mL I') (mT I') as.length) (hl : Cond.methodLink (mY I).cls idx (mY I') ∈ lwG) (he : (mH I').isEmpty = true) (hh : (mH I).isEmpty = true) (hi : i < 20) (hc : (mY I').cls = "java/lang/String") (hst : stk = as.reverse ++ .ref (gk G i) :: st) (hcat : (st.map fun v => v.category).sum ≤ 8) (hR : (mR I').frames + 1 ≤ (mR I).frames ∧ 8 + (mL I' + 11) + (mR I').locals ≤ (mR I).locals) (hf : k + (mR I').cells ≤ (mR I).cells ∧ n + (mR I').slots ≤ (mR I).slots) (hK : KK G I' (.ref (gk G i) :: as) M Q')
    (hx : ∀ E M', Q'.2 E M' → Q.2 E M') (hn : ∀ v M', Q'.1 v M' → WW G I Q (pc + 3) L (v.toList ++ st) M' (k + (mR I').cells) (n + (mR I').slots)) : WW G I Q pc L stk M k n := by
  subst hst
  intro p e s m args below meth c H locs ls C Y S V
  obtain ⟨w1, w2, w3, w4, w5, w6, w7⟩ := hw
  have hts := C.2.2.2.2.1
  have hE := C.2.2.2.2.2.2.2.2.2.2
  have hrec := vk_recv (i := i) hE.2.2.2.2.2.1 hi S
  rw [← hc] at hrec
  refine ww_run C S V (vx_runV (As := as) (rest := st) ⟨C.1, C.2.1, C.2.2.2.1, C.2.2.2.2.2.1, hts⟩ hK (cwV as.length hts (lwG_sub fun w hw => ?_) (wsI_eq he) rfl rfl ⟨rfl, w5, w6, w7⟩ hR) ⟨blindPc, hrec, fun U hU hW => ⟨rfl, by rw [hU]; exact Y.moved hW.alike, C.2.2.2.2.2.2.2.2.2.1.warm hW⟩⟩ rfl rfl V.1 rfl (lv_room hcat) hd hf) hh hf hn hx
  rcases List.mem_append.mp hw with h | h
  · simp only [List.mem_cons, List.not_mem_nil, or_false] at h
    rcases h with rfl | rfl | rfl | rfl
    · exact hl
    · exact w1
    · exact w2
    · exact w3
  · exact wsI_in he w4 w h
theorem r_callTp {idx i : Nat} {I' : MI} {as stk : List Value} {M1 : Mm} {z : Int32} (hd : decode (mB I) pc = .ok (.invokevirtual idx, 3)) (hw : MVw (mY I') (mB I') (mL I') (mT I') as.length) (hl : Cond.methodLink (mY I).cls idx (mY I') ∈ lwG) (he : (mH I').isEmpty = true) (hh : (mH I).isEmpty = true) (hi : i < 20) (hc : (mY I').cls = "java/lang/String") (hst : stk = as.reverse ++ .ref (gk G i) :: st) (hcat : (st.map fun v => v.category).sum ≤ 8) (hR : (mR I').frames + 1 ≤ (mR I).frames ∧ 8 + (mL I' + 11) + (mR I').locals ≤ (mR I).locals) (hz : (mR I').cells = 0 ∧ (mR I').slots = 0) (hf : k ≤ (mR I).cells ∧ n ≤ (mR I).slots) (hK : KE G I' (.ref (gk G i) :: as) M z M1) (h : WW G I Q (pc + 3) L (.int z :: st) M1 k n) : WW G I Q pc L stk M k n :=
  r_callT hd hw hl he hh hi hc hst hcat hR (by rw [hz.1, hz.2]; exact hf) hK (fun _ _ h => h.elim) (fun v M' ⟨y, h1, h2, h3⟩ => by subst h1; subst h2; subst h3; rw [hz.1, hz.2]; exact h)
end TEXTS
