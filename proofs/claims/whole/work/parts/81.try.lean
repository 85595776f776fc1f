/-! CALLS UNDER A HANDLER, and calls of methods that have handlers -/
section TRY
variable {G : GG} {I : MI} {Q : QQ} {pc : Nat} {L st : List Value} {M : Mm} {k n : Nat}
/-- the handlers of I that stand at pc send E to hp -/
def Hnd (I : MI) (pc : Nat) (E : String) (hp : Nat) : Prop := ∃ (pre suf : List (Nat × Nat × Nat × Nat)) (z : Nat × Nat × Nat × Nat), mH I = pre ++ z :: suf ∧ (∀ y ∈ pre, y.2.2.2 ≠ 0 ∧ ∃ nm : String, Cond.classLink (mY I).cls y.2.2.2 nm ∈ lwG ∧ nm ∈ ex_tab ∧ E ≠ nm) ∧ z.1 ≤ pc ∧ pc < z.2.1 ∧ z.2.2.2 ≠ 0 ∧ Cond.classLink (mY I).cls z.2.2.2 E ∈ lwG ∧ E ∈ ex_tab ∧ z.2.2.1 = hp
/-- behind a call that a handler stands over -/
theorem ww_runH {p : Program} {e : Env} {s : State} {m : MethodId} {args : Array Value} {below : List Frame} {meth : Method} {c : Code} {H : Heap} {locs : List Loc} {ls : Array Slot} {mc ms : Nat} {a : Array Value} {st0 rest : List Value} {Q' : QQ} (C : Cx G I p s m args meth c) (S : va_S (gA G) s.heap H locs) (V : lv_has ls (mL I) (lz 0 L))
    (hr : vx_Run p (gl G) e (mR I) s m args below meth c H locs k n mc ms (F0 m pc ls st0) rest (qN G Q' a) (qX G Q') (gA G))
    (hn : ∀ v M', Q'.1 v M' → WW G I Q (pc + 3) L (v.toList ++ rest) M' (k + mc) (n + ms)) (hx : ∀ E M', Q'.2 E M' → ∃ hp, Hnd I pc E hp ∧ ∀ q, WW G I Q hp L [.ref q] M' (k + mc) (n + ms)) :
    W p (gl G) e (mR I) s m args below meth c H locs k n (vx_MQ below (qN G Q) (qX G Q) args s (mR I).cells (mR I).slots (gA G)) (F0 m pc ls st0) := by
  intro T hT X
  rcases hr T hT X with ⟨v, st₀, t, T', L1, h0, X', hL1, e1, e2, ⟨⟨v', M', hv, hq, hw⟩, hF⟩, st⟩ | ⟨q, st₀, t, T', L1, E, ce, h0, X', hL1, e1, e2, ⟨⟨M', hq, hw⟩, hF⟩, hce, hcv, hcl, st⟩
  · cases hv
    obtain ⟨k1, k2, k3⟩ := vx_keep h0 e1 S (fun _ _ h => h) (fun _ h => h) hL1 hF
    have hal : s.vm.Alike t.vm := by rw [← e2]; exact X'.warmed.alike
    have Y' : Wd G M' s T'.heap := by rw [e1]; exact hw.moved hal.symm
    obtain ⟨t2, a1, b1⟩ := hn v M' hq p e s m args below meth c T'.heap (locs ++ L1) ls C Y' k3 V T' rfl X'
    exact ⟨t2, st t2 a1, b1⟩
  · obtain ⟨k1, k2, k3⟩ := vx_keep h0 e1 S (fun _ _ h => h) (fun _ h => h) hL1 hF
    have hal : s.vm.Alike t.vm := by rw [← e2]; exact X'.warmed.alike
    have Y' : Wd G M' s T'.heap := by rw [e1]; exact hw.moved hal.symm
    obtain ⟨hp, ⟨pre, suf, z, hs, hpre, z1, z2, z3, z4, z5, z6⟩, hg⟩ := hx E M' hq
    have hts := C.2.2.2.2.1
    have hst := C.2.2.2.2.2.2.2.2.2.1
    have w1 : vx_W p (gl G) e (mR I) s m args below meth c T'.heap (locs ++ L1) (k + mc) (n + ms) (vx_MQ below (qN G Q) (qX G Q) args s (mR I).cells (mR I).slots (gA G)) (F0 m pc ls rest) q := by
      refine vx_catch (own := (mY I).cls) (name := E) (E := E) (ce := ce) C.2.2.2.2.2.1 (tableOf pre) ⟨z.1, z.2.1, z.2.2.1, z.2.2.2⟩ (tableOf suf) ?_ (fun y hy => ?_) ?_ z3 (hts _ z4) ((hst.2.2.2.2.2.2.2.2.1 E z5).use rfl) (by rw [e1]; exact hce) hcv hcl ?_
      · rw [C.2.2.2.2.2.2.2.2.1, hs]
        unfold tableOf
        rw [List.map_append, List.map_cons]
      · obtain ⟨y0, hy0, rfl⟩ := List.mem_map.mp hy
        obtain ⟨h1, nm, h2, h3, h4⟩ := hpre y0 hy0
        exact Or.inr ⟨h1, nm, hts _ h2, hst.2.2.2.2.2.2.2.2.2.1 E z5 nm h3 h4⟩
      · show (decide (z.1 ≤ pc) && decide (pc < z.2.1)) = true
        rw [decide_eq_true z1, decide_eq_true z2]
        rfl
      · subst z6
        exact hg q p e s m args below meth c T'.heap (locs ++ L1) ls C Y' k3 V
    obtain ⟨t2, a1, b1⟩ := w1 T' rfl X'
    exact ⟨t2, st.trans a1, b1⟩
/-- a method of a class, called under a handler -/
theorem r_tryV {idx b ci : Nat} {I' : MI} {as stk : List Value} {Q' : QQ} (hd : decode (mB I) pc = .ok (.invokevirtual idx, 3)) (hw : MVw (mY I') (mB I') (mL I') (mT I') as.length) (hl : Cond.methodLink (mY I).cls idx (mY I') ∈ lwG) (he : (mH I').isEmpty = true) (hk : kd M b = ci + 1) (hc : (ac_cls[ci]?.map fun q => q.1) = some (mY I').cls) (hst : stk = as.reverse ++ .ref b :: st) (hcat : (st.map fun v => v.category).sum ≤ 8) (hR : (mR I').frames + 1 ≤ (mR I).frames ∧ 8 + (mL I' + 11) + (mR I').locals ≤ (mR I).locals) (hf : k + (mR I').cells ≤ (mR I).cells ∧ n + (mR I').slots ≤ (mR I).slots) (hK : KK G I' (.ref b :: as) M Q')
    (hx : ∀ E M', Q'.2 E M' → ∃ hp, Hnd I pc E hp ∧ ∀ q, WW G I Q hp L [.ref q] M' (k + (mR I').cells) (n + (mR I').slots)) (hn : ∀ v M', Q'.1 v M' → WW G I Q (pc + 3) L (v.toList ++ st) M' (k + (mR I').cells) (n + (mR I').slots)) : WW G I Q pc L stk M k n := by
  subst hst
  intro p e s m args below meth c H locs ls C Y S V
  obtain ⟨w1, w2, w3, w4, w5, w6, w7⟩ := hw
  have hts := C.2.2.2.2.1
  refine ww_runH C S V (vx_runV (As := as) (rest := st) ⟨C.1, C.2.1, C.2.2.2.1, C.2.2.2.2.2.1, hts⟩ hK (cwV as.length hts (lwG_sub fun w hw => ?_) (wsI_eq he) rfl rfl ⟨rfl, w5, w6, w7⟩ hR) ⟨blindPc, Cx.recv Y hk hc, fun U hU hW => ⟨rfl, by rw [hU]; exact Y.moved hW.alike, C.2.2.2.2.2.2.2.2.2.1.warm hW⟩⟩ rfl rfl V.1 rfl (lv_room hcat) hd hf) hn hx
  rcases List.mem_append.mp hw with h | h
  · simp only [List.mem_cons, List.not_mem_nil, or_false] at h
    rcases h with rfl | rfl | rfl | rfl
    · exact hl
    · exact w1
    · exact w2
    · exact w3
  · exact wsI_in he w4 w h
/-- a static method with handlers -/
def MHw (y : MethodName) (b : ByteArray) (l : Nat) (r : Option FieldType) (hh : List (Nat × Nat × Nat × Nat)) (a : Nat) : Prop := Cond.static y ∈ lwG ∧ Cond.initialized y.cls ∈ lwG ∧ Cond.codeWith y b l r hh ∈ lwG ∧ y.cls ≠ "java/lang/invoke/MethodHandle" ∧ y.cls ≠ "java/lang/invoke/VarHandle" ∧ (parseMethodDescriptor y.desc).map (fun d => d.parameters.length) = some a
theorem wsI_eqH {I : MI} (h : (mH I).isEmpty = false) : wsI I = Cond.codeWith (mY I) (mB I) (mL I) (mT I) (mH I) :: lwG := by
  unfold wsI
  rw [if_neg (by rw [h]; decide)]
theorem r_callSX {idx : Nat} {I' : MI} {as stk : List Value} {Q' : QQ} (hd : decode (mB I) pc = .ok (.invokestatic idx, 3)) (hw : MHw (mY I') (mB I') (mL I') (mT I') (mH I') as.length) (hl : Cond.methodLink (mY I).cls idx (mY I') ∈ lwG) (he : (mH I').isEmpty = false) (hh : (mH I).isEmpty = true) (hst : stk = as.reverse ++ st) (hcat : (st.map fun v => v.category).sum ≤ 8) (hR : (mR I').frames + 1 ≤ (mR I).frames ∧ 8 + (mL I' + 11) + (mR I').locals ≤ (mR I).locals) (hf : k + (mR I').cells ≤ (mR I).cells ∧ n + (mR I').slots ≤ (mR I).slots) (hK : KK G I' as M Q')
    (hx : ∀ E M', Q'.2 E M' → Q.2 E M') (hn : ∀ v M', Q'.1 v M' → WW G I Q (pc + 3) L (v.toList ++ st) M' (k + (mR I').cells) (n + (mR I').slots)) : WW G I Q pc L stk M k n := by
  subst hst
  intro p e s m args below meth c H locs ls C Y S V
  obtain ⟨w1, w3, w4, w5, w6, w7⟩ := hw
  have hts := C.2.2.2.2.1
  refine ww_run C S V (vx_runSX (As := as) (rest := st) ⟨C.1, C.2.1, C.2.2.2.1, C.2.2.2.2.2.1, hts⟩ hK (vx_cwSW as.length hts (lwG_sub fun w hw => ?_) (wsI_eqH he) rfl rfl ⟨w5, w6, w7⟩ hR) ⟨blindPc, fun U hU hW => ⟨rfl, by rw [hU]; exact Y.moved hW.alike, C.2.2.2.2.2.2.2.2.2.1.warm hW⟩⟩ rfl rfl V.1 rfl (lv_room hcat) hd hf) hh hf hn hx
  rcases List.mem_append.mp hw with h | h
  · simp only [List.mem_cons, List.not_mem_nil, or_false] at h
    rcases h with rfl | rfl | rfl
    · exact hl
    · exact w1
    · exact w3
  · rw [wsI_eqH he] at h
    rcases List.mem_cons.mp h with rfl | h
    · exact w4
    · exact h
end TRY
