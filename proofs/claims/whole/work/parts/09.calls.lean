/-! CALLS, NEW THINGS, ENDS, THROWS -/
section CALLS
variable {G : GG} {I : MI} {Q : QQ} {pc : Nat} {L st : List Value} {M : Mm} {k n : Nat}
def qi (P : Int32 → Mm → Prop) (X : String → Mm → Prop) : QQ := (fun v M => ∃ x : Int32, v = some (.int x) ∧ P x M, X)
def qv (P : Mm → Prop) (X : String → Mm → Prop) : QQ := (fun v M => v = none ∧ P M, X)
def qr (P : Option Nat → Mm → Prop) (X : String → Mm → Prop) : QQ := (fun v M => ∃ r : Option Nat, v = some (va_rf r) ∧ P r M, X)
def qd (P : UInt64 → Mm → Prop) (X : String → Mm → Prop) : QQ := (fun v M => ∃ x : UInt64, v = some (.double x) ∧ P x M, X)
def qf (P : UInt32 → Mm → Prop) (X : String → Mm → Prop) : QQ := (fun v M => ∃ x : UInt32, v = some (.float x) ∧ P x M, X)
def nox : String → Mm → Prop := fun _ _ => False
/-- a method called on an object of its own class -/
def MVw (y : MethodName) (b : ByteArray) (l : Nat) (r : Option FieldType) (a : Nat) : Prop := Cond.instanceMethod y ∈ lwG ∧ Cond.selects y.cls y y ∈ lwG ∧ Cond.initialized y.cls ∈ lwG ∧ Cond.code y b l r ∈ lwG ∧ y.cls ≠ "java/lang/invoke/MethodHandle" ∧ y.cls ≠ "java/lang/invoke/VarHandle" ∧ (parseMethodDescriptor y.desc).map (fun d => d.parameters.length) = some a
/-- a static method, without handlers -/
def MSw (y : MethodName) (b : ByteArray) (l : Nat) (r : Option FieldType) (a : Nat) : Prop := Cond.static y ∈ lwG ∧ Cond.initialized y.cls ∈ lwG ∧ Cond.code y b l r ∈ lwG ∧ y.cls ≠ "java/lang/invoke/MethodHandle" ∧ y.cls ≠ "java/lang/invoke/VarHandle" ∧ (parseMethodDescriptor y.desc).map (fun d => d.parameters.length) = some a
/-- a constructor, called plainly -/
def MIw (y : MethodName) (b : ByteArray) (l : Nat) (a : Nat) : Prop := y.name = "<init>" ∧ Cond.instanceMethod y ∈ lwG ∧ Cond.initialized y.cls ∈ lwG ∧ Cond.code y b l none ∈ lwG ∧ y.cls ≠ "java/lang/invoke/MethodHandle" ∧ y.cls ≠ "java/lang/invoke/VarHandle" ∧ (parseMethodDescriptor y.desc).map (fun d => d.parameters.length) = some a
/-- a method y that x names, on an object of the class C, declared by owner -/
def MUw (own : String) (idx : Nat) (C owner : String) (x y : MethodName) (b : ByteArray) (l : Nat) (r : Option FieldType) (a : Nat) : Prop := Cond.methodLink own idx x ∈ lwG ∧ Cond.sameMethod x.cls owner x.name x.desc ∈ lwG ∧ Cond.selects C x y ∈ lwG ∧ Cond.instanceMethod y ∈ lwG ∧ Cond.initialized y.cls ∈ lwG ∧ Cond.code y b l r ∈ lwG ∧ y = ⟨owner, x.name, x.desc⟩ ∧ owner ≠ "java/lang/invoke/MethodHandle" ∧ owner ≠ "java/lang/invoke/VarHandle" ∧ (parseMethodDescriptor x.desc).map (fun d => d.parameters.length) = some a
theorem wsI_eq {I : MI} (h : (mH I).isEmpty = true) : wsI I = Cond.code (mY I) (mB I) (mL I) (mT I) :: lwG := by unfold wsI; rw [if_pos h]
theorem wsI_in {I : MI} (h : (mH I).isEmpty = true) (hc : Cond.code (mY I) (mB I) (mL I) (mT I) ∈ lwG) : ∀ w ∈ wsI I, w ∈ lwG := by
  rw [wsI_eq h]
  intro w hw
  rcases List.mem_cons.mp hw with rfl | hw
  · exact hc
  · exact hw
theorem Cx.tab {p : Program} {s : State} {m : MethodId} {args : Array Value} {meth : Method} {c : Code} (C : Cx G I p s m args meth c) (h : (mH I).isEmpty = true) : ∀ x ∈ c.exceptionTable.toList, False := by
  intro x hx
  rw [C.2.2.2.2.2.2.2.2.1, List.isEmpty_iff.mp h] at hx
  cases hx
/-- behind a call -/
theorem ww_run {p : Program} {e : Env} {s : State} {m : MethodId} {args : Array Value} {below : List Frame} {meth : Method} {c : Code} {H : Heap} {locs : List Loc} {ls : Array Slot} {mc ms : Nat} {a : Array Value} {st0 rest : List Value} {Q' : QQ} (C : Cx G I p s m args meth c) (S : va_S (gA G) s.heap H locs) (V : lv_has ls (mL I) (lz 0 L))
    (hr : vx_Run p (gl G) e (mR I) s m args below meth c H locs k n mc ms (F0 m pc ls st0) rest (qN G Q' a) (qX G Q') (gA G)) (hh : (mH I).isEmpty = true) (hf : k + mc ≤ (mR I).cells ∧ n + ms ≤ (mR I).slots)
    (hn : ∀ v M', Q'.1 v M' → WW G I Q (pc + 3) L (v.toList ++ rest) M' (k + mc) (n + ms)) (hx : ∀ E M', Q'.2 E M' → Q.2 E M') :
    W p (gl G) e (mR I) s m args below meth c H locs k n (vx_MQ below (qN G Q) (qX G Q) args s (mR I).cells (mR I).slots (gA G)) (F0 m pc ls st0) := by
  intro T hT X
  rcases hr T hT X with ⟨v, st₀, t, T', L1, h0, X', hL1, e1, e2, ⟨⟨v', M', hv, hq, hw⟩, hF⟩, st⟩ | ⟨q, st₀, t, T', L1, E, ce, h0, X', hL1, e1, e2, ⟨⟨M', hq, hw⟩, hF⟩, hce, hcv, hcl, st⟩
  · cases hv
    obtain ⟨k1, k2, k3⟩ := vx_keep h0 e1 S (fun _ _ h => h) (fun _ h => h) hL1 hF
    have hal : s.vm.Alike t.vm := by rw [← e2]; exact X'.warmed.alike
    have Y' : Wd G M' s T'.heap := by rw [e1]; exact hw.moved hal.symm
    obtain ⟨t2, a1, b1⟩ := hn v M' hq p e s m args below meth c T'.heap (locs ++ L1) ls C Y' k3 V T' rfl X'
    exact ⟨t2, st t2 a1, b1⟩
  · obtain ⟨k1, k2, k3⟩ := vx_keep h0 e1 S (fun _ _ h => h) (fun _ h => h) hL1 hF
    have hal : s.vm.Alike t.vm := by rw [← e2]; exact X'.warmed.alike
    have Y' : Wd G M' s T'.heap := by rw [e1]; exact hw.moved hal.symm
    have w1 : vx_W p (gl G) e (mR I) s m args below meth c T'.heap (locs ++ L1) (k + mc) (n + ms) (vx_MQ below (qN G Q) (qX G Q) args s (mR I).cells (mR I).slots (gA G)) (F0 m pc ls rest) q := by
      refine vx_out (E := E) (ce := ce) (fun x hx => (C.tab hh x hx).elim) C.2.2.2.2.2.2.1 (by rw [e1]; exact hce) hcv hcl (fun t9 ht9 hal9 => ⟨⟨M', hx E M' hq, ?_⟩, k3.F ht9⟩) (fun z hz => k3.2.2 z hz) hf.1 hf.2
      rw [ht9]
      exact Y'.moved hal9
    obtain ⟨t2, a1, b1⟩ := w1 T' rfl X'
    exact ⟨t2, st.trans a1, b1⟩
/-- a plain call's run, as one that may throw -/
theorem run_x {p : Program} {e : Env} {s : State} {m : MethodId} {args : Array Value} {below : List Frame} {meth : Method} {c : Code} {H : Heap} {locs : List Loc} {mc ms : Nat} {g : JFrame} {rest : List Value} {Qa : State → Outcome → State → Prop} {XC : String → State → State → Prop} {free : Addr → Prop} {l : Launch} {R : Room} (h : va_Run p l e R s m args below meth c H locs k n mc ms g rest Qa free) : vx_Run p l e R s m args below meth c H locs k n mc ms g rest Qa XC free :=
  fun T hT X => Or.inl (h T hT X)
theorem Cx.recv {s : State} {H : Heap} (Y : Wd G M s H) {b ci : Nat} {Cn : String} (hk : kd M b = ci + 1) (hc : (ac_cls[ci]?.map fun q => q.1) = some Cn) : ∃ cell : Cell, H[b]? = some cell ∧ cell.vm.isStatics = false ∧ s.vm.findClass Cn = some cell.cls := by
  cases hq : ac_cls[ci]? with
  | none => rw [hq] at hc; cases hc
  | some q =>
    rw [hq] at hc
    have hc : q.1 = Cn := Option.some.inj hc
    subst hc
    obtain ⟨-, -, -, hci⟩ := ac_ok (C := q.1) (T := q.2.1) (N := q.2.2) hq
    exact va_recv Y.2.1 (Y.1.one (by omega) (ent_o hk hci)) hq (q0 := 0) rfl
theorem r_callV {idx b ci : Nat} {I' : MI} {as stk : List Value} {Q' : QQ} (hd : decode (mB I) pc = .ok (.invokevirtual idx, 3)) (hw : MVw (mY I') (mB I') (mL I') (mT I') as.length) (hl : Cond.methodLink (mY I).cls idx (mY I') ∈ lwG) (he : (mH I').isEmpty = true) (hh : (mH I).isEmpty = true) (hk : kd M b = ci + 1) (hc : (ac_cls[ci]?.map fun q => q.1) = some (mY I').cls) (hst : stk = as.reverse ++ .ref b :: st) (hcat : (st.map fun v => v.category).sum ≤ 8) (hR : (mR I').frames + 1 ≤ (mR I).frames ∧ 8 + (mL I' + 11) + (mR I').locals ≤ (mR I).locals) (hf : k + (mR I').cells ≤ (mR I).cells ∧ n + (mR I').slots ≤ (mR I).slots) (hK : KK G I' (.ref b :: as) M Q')
    (hx : ∀ E M', Q'.2 E M' → Q.2 E M') (hn : ∀ v M', Q'.1 v M' → WW G I Q (pc + 3) L (v.toList ++ st) M' (k + (mR I').cells) (n + (mR I').slots)) : WW G I Q pc L stk M k n := by
  subst hst
  intro p e s m args below meth c H locs ls C Y S V
  obtain ⟨w1, w2, w3, w4, w5, w6, w7⟩ := hw
  have hts := C.2.2.2.2.1
  refine ww_run C S V (vx_runV (As := as) (rest := st) ⟨C.1, C.2.1, C.2.2.2.1, C.2.2.2.2.2.1, hts⟩ hK (cwV as.length hts (lwG_sub fun w hw => ?_) (wsI_eq he) rfl rfl ⟨rfl, w5, w6, w7⟩ hR) ⟨blindPc, Cx.recv Y hk hc, fun U hU hW => ⟨rfl, by rw [hU]; exact Y.moved hW.alike, C.2.2.2.2.2.2.2.2.2.1.warm hW⟩⟩ rfl rfl V.1 rfl (lv_room hcat) hd hf) hh hf hn hx
  rcases List.mem_append.mp hw with h | h
  · simp only [List.mem_cons, List.not_mem_nil, or_false] at h
    rcases h with rfl | rfl | rfl | rfl
    · exact hl
    · exact w1
    · exact w2
    · exact w3
  · exact wsI_in he w4 w h
theorem r_callS {idx : Nat} {I' : MI} {as stk : List Value} {Q' : QQ} (hd : decode (mB I) pc = .ok (.invokestatic idx, 3)) (hw : MSw (mY I') (mB I') (mL I') (mT I') as.length) (hl : Cond.methodLink (mY I).cls idx (mY I') ∈ lwG) (he : (mH I').isEmpty = true) (hh : (mH I).isEmpty = true) (hst : stk = as.reverse ++ st) (hcat : (st.map fun v => v.category).sum ≤ 8) (hR : (mR I').frames + 1 ≤ (mR I).frames ∧ 8 + (mL I' + 11) + (mR I').locals ≤ (mR I).locals) (hf : k + (mR I').cells ≤ (mR I).cells ∧ n + (mR I').slots ≤ (mR I).slots) (hK : KK G I' as M Q')
    (hx : ∀ E M', Q'.2 E M' → Q.2 E M') (hn : ∀ v M', Q'.1 v M' → WW G I Q (pc + 3) L (v.toList ++ st) M' (k + (mR I').cells) (n + (mR I').slots)) : WW G I Q pc L stk M k n := by
  subst hst
  intro p e s m args below meth c H locs ls C Y S V
  obtain ⟨w1, w3, w4, w5, w6, w7⟩ := hw
  have hts := C.2.2.2.2.1
  have cb : CallB (mR I) s args (mY I).cls idx (mY I') (mB I') (mL I') (mT I') (wsI I') (mR I') (mR I').cells (mR I').slots as.length := callB_of as.length hts (lwG_sub (wsI_in he w4)) (wsI_eq he) rfl rfl (hts _ w3) (hts _ hl) ⟨w5, w6, w7⟩ hR
  exact ww_run C S V (vx_runS (As := as) (rest := st) ⟨C.1, C.2.1, C.2.2.2.1, C.2.2.2.2.2.1, hts⟩ hK ⟨cb, hts _ w1⟩ ⟨blindPc, fun U hU hW => ⟨rfl, by rw [hU]; exact Y.moved hW.alike, C.2.2.2.2.2.2.2.2.2.1.warm hW⟩⟩ rfl rfl V.1 rfl (lv_room hcat) hd hf) hh hf hn hx
/-- a constructor of another class, whose place the tables name -/
theorem r_callI {idx b : Nat} {I' : MI} {as stk : List Value} {Q' : QQ} (hd : decode (mB I) pc = .ok (.invokespecial idx, 3)) (hw : MIw (mY I') (mB I') (mL I') as.length) (ht : mT I' = none) (hl : Cond.methodLink (mY I).cls idx (mY I') ∈ lwG) (he : (mH I').isEmpty = true) (hh : (mH I).isEmpty = true) (hst : stk = as.reverse ++ .ref b :: st) (hcat : (st.map fun v => v.category).sum ≤ 8) (hR : (mR I').frames + 1 ≤ (mR I).frames ∧ 8 + (mL I' + 11) + (mR I').locals ≤ (mR I).locals) (hf : k + (mR I').cells ≤ (mR I).cells ∧ n + (mR I').slots ≤ (mR I).slots) (hK : KK G I' (.ref b :: as) M Q') (hno : ∀ E M', ¬ Q'.2 E M')
    (hn : ∀ v M', Q'.1 v M' → WW G I Q (pc + 3) L (v.toList ++ st) M' (k + (mR I').cells) (n + (mR I').slots)) : WW G I Q pc L stk M k n := by
  subst hst
  intro p e s m args below meth c H locs ls C Y S V
  obtain ⟨w0, w1, w3, w4, w5, w6, w7⟩ := hw
  have hts := C.2.2.2.2.1
  have hw9 : wsI I' = Cond.code (mY I') (mB I') (mL I') none :: lwG := by rw [wsI_eq he, ht]
  exact ww_run C S V (run_x (va_runI (As := as) (rest := st) ⟨C.1, C.2.1, C.2.2.2.1, C.2.2.2.2.2.1, hts⟩ (hK.met hno) (cwI as.length hts (lwG_sub (wsI_in he (by rw [ht]; exact w4))) hw9 rfl rfl (hts _ w3) (hts _ hl) (hts _ w1) w0 ⟨w5, w6, w7⟩ hR) ⟨blindPc, fun U hU hW => ⟨rfl, by rw [hU]; exact Y.moved hW.alike, C.2.2.2.2.2.2.2.2.2.1.warm hW⟩⟩ rfl rfl V.1 rfl (lv_room hcat) hd hf)) hh hf hn (fun E M' h => absurd h (hno E M'))
/-- a nest mate's private constructor -/
theorem r_callIN {idx b : Nat} {I' : MI} {as stk : List Value} {Q' : QQ} (hd : decode (mB I) pc = .ok (.invokespecial idx, 3)) (hw : MIw (mY I') (mB I') (mL I') as.length) (ht : mT I' = none) (hl : ((mY I).cls, idx, mY I') ∈ nw_tab) (he : (mH I').isEmpty = true) (hh : (mH I).isEmpty = true) (hst : stk = as.reverse ++ .ref b :: st) (hcat : (st.map fun v => v.category).sum ≤ 8) (hR : (mR I').frames + 1 ≤ (mR I).frames ∧ 8 + (mL I' + 11) + (mR I').locals ≤ (mR I).locals) (hf : k + (mR I').cells ≤ (mR I).cells ∧ n + (mR I').slots ≤ (mR I).slots) (hK : KK G I' (.ref b :: as) M Q') (hno : ∀ E M', ¬ Q'.2 E M')
    (hn : ∀ v M', Q'.1 v M' → WW G I Q (pc + 3) L (v.toList ++ st) M' (k + (mR I').cells) (n + (mR I').slots)) : WW G I Q pc L stk M k n := by
  subst hst
  intro p e s m args below meth c H locs ls C Y S V
  obtain ⟨w0, w1, w3, w4, w5, w6, w7⟩ := hw
  have hts := C.2.2.2.2.1
  have hw9 : wsI I' = Cond.code (mY I') (mB I') (mL I') none :: lwG := by rw [wsI_eq he, ht]
  have hnw := C.2.2.2.2.2.2.2.2.2.1.2.2.2.2.2.2.2.1 _ hl
  exact ww_run C S V (run_x (va_runIN (As := as) (rest := st) ⟨C.1, C.2.1, C.2.2.2.1, C.2.2.2.2.2.1, hts⟩ (hK.met hno) ⟨va_cnB as.length hts (lwG_sub (wsI_in he (by rw [ht]; exact w4))) hw9 rfl rfl hnw (hts _ w3) ⟨w5, w6, w7⟩ hR, w0, hts _ w1⟩ ⟨blindPc, fun U hU hW => ⟨rfl, by rw [hU]; exact Y.moved hW.alike, C.2.2.2.2.2.2.2.2.2.1.warm hW⟩⟩ rfl rfl V.1 rfl (lv_room hcat) hd hf)) hh hf hn (fun E M' h => absurd h (hno E M'))
/-- a method that the object's class inherits -/
theorem r_callU {idx b ci : Nat} {I' : MI} {Cn owner : String} {x : MethodName} {as stk : List Value} {Q' : QQ} (hd : decode (mB I) pc = .ok (.invokevirtual idx, 3)) (hw : MUw (mY I).cls idx Cn owner x (mY I') (mB I') (mL I') (mT I') as.length) (he : (mH I').isEmpty = true) (hh : (mH I).isEmpty = true) (hk : kd M b = ci + 1) (hc : (ac_cls[ci]?.map fun q => q.1) = some Cn) (hst : stk = as.reverse ++ .ref b :: st) (hcat : (st.map fun v => v.category).sum ≤ 8) (hR : (mR I').frames + 1 ≤ (mR I).frames ∧ 8 + (mL I' + 11) + (mR I').locals ≤ (mR I).locals) (hf : k + (mR I').cells ≤ (mR I).cells ∧ n + (mR I').slots ≤ (mR I).slots) (hK : KK G I' (.ref b :: as) M Q') (hno : ∀ E M', ¬ Q'.2 E M')
    (hn : ∀ v M', Q'.1 v M' → WW G I Q (pc + 3) L (v.toList ++ st) M' (k + (mR I').cells) (n + (mR I').slots)) : WW G I Q pc L stk M k n := by
  subst hst
  intro p e s m args below meth c H locs ls C Y S V
  obtain ⟨w1, w2, w3, w4, w5, w6, w7, w8, w9, w10⟩ := hw
  have hts := C.2.2.2.2.1
  refine ww_run C S V (run_x (va_runU (As := as) (rest := st) (C := Cn) ⟨C.1, C.2.1, C.2.2.2.1, C.2.2.2.2.2.1, hts⟩ (hK.met hno) (va_cwU (C := Cn) (owner := owner) (x := x) as.length hts (lwG_sub fun w hw => ?_) (wsI_eq he) rfl rfl w7 ⟨w8, w9, w10⟩ hR) ⟨blindPc, Cx.recv Y hk hc, fun U hU hW => ⟨rfl, by rw [hU]; exact Y.moved hW.alike, C.2.2.2.2.2.2.2.2.2.1.warm hW⟩⟩ rfl rfl V.1 rfl (lv_room hcat) hd hf)) hh hf hn (fun E M' h => absurd h (hno E M'))
  rcases List.mem_append.mp hw with h | h
  · simp only [List.mem_cons, List.not_mem_nil, or_false] at h
    rcases h with rfl | rfl | rfl | rfl | rfl
    · exact w1
    · exact w2
    · exact w3
    · exact w4
    · exact w5
  · exact wsI_in he w6 w h
/-- Object's constructor -/
theorem r_obj {idx a : Nat} (hd : decode (mB I) pc = .ok (.invokespecial idx, 3)) (hl : Cond.methodLink (mY I).cls idx objectInit ∈ lwG) (hi : Cond.instanceMethod objectInit ∈ lwG) (ho : Cond.code objectInit ⟨#[0xb1]⟩ 1 none ∈ lwG) (hf : 1 ≤ (mR I).frames) (hlo : (st.map fun v => v.category).sum + 12 ≤ (mR I).locals) (h : WW G I Q (pc + 3) L st M k n) : WW G I Q pc L (.ref a :: st) M k n := by
  intro p e s m args below meth c H locs ls C Y S V
  have hts := C.2.2.2.2.1
  refine W.objInit C.1 C.2.1 C.2.2.2.2.2.1 (hts _ hl) (hts _ hi) (hts _ ho) rfl (V.1.trans C.2.2.2.1.symm) rfl hd hf ?_ (h p e s m args below meth c H locs ls C Y S V)
  show 2 * 0 + _ + 12 ≤ _
  omega
/-! new things -/
def NW (own : String) (idx ci : Nat) : Prop := ∃ (Cn : String) (T : u_T) (N : Nat), ac_cls[ci]? = some (Cn, T, N) ∧ (∀ w ∈ u_ws Cn T N, w ∈ lwG) ∧ Cond.classLink own idx Cn ∈ lwG ∧ Cond.instantiable Cn N ∈ lwG ∧ Cond.initialized Cn ∈ lwG
theorem Pm.push {H H1 : Heap} {kk ll : Nat} (h : Pm G M H) (hg : gb G ≤ H.size) (hz : H1.size = H.size + 1) (o1 : ∀ q, q < H.size → H1[q]? = H[q]?) (hat : va_at (gD G) ac_cls (H.size, ent (gy G) (sN M kk ll) (nx M)) H1) : Pm G (sN M kk ll) H1 := by
  obtain ⟨hz0, L0, hL, hP, hD⟩ := h
  have hfr : H.size ∉ L0 := va_pl_fresh (X := []) hP (Nat.le_refl _)
  have hP1 : va_P (gD G) ac_cls (va_pl L0 (ent (gy G) M) ++ [(H.size, ent (gy G) (sN M kk ll) (nx M))]) H1 := by
    refine (hP.kept (fun j q hj => o1 q.1 ((hP j q hj).lt))).app (fun j q hj => ?_)
    have hj1 : j < 1 := (List.getElem?_eq_some_iff.mp hj).1
    rw [show j = 0 by omega] at hj
    cases hj
    exact hat
  have hD1 := va_D.push (e := ent (gy G) (sN M kk ll) (nx M)) hD hP rfl (show gA G H.size from hg)
  have h3 : va_pl L0 (ent (gy G) M) ++ [(H.size, ent (gy G) (sN M kk ll) (nx M))] = va_pl (L0 ++ [H.size]) (ent (gy G) (sN M kk ll)) := by
    rw [va_pl_push hfr]
    refine va_pl_congr (ent_up (by rw [hz0]) (fun b hb => up_sN b (by rw [← hz0]; exact hb)))
  rw [h3] at hP1 hD1
  refine ⟨by rw [hz, hz0]; rfl, L0 ++ [H.size], fun b hb => ?_, hP1, hD1⟩
  by_cases hbn : b = nx M
  · rw [hbn, ← hz0]
    exact List.mem_append_right _ List.mem_cons_self
  · refine List.mem_append_left _ (hL b ?_)
    have h5 := (up_sN (M := M) (k := kk) (n := ll) b hbn).1
    rw [h5]
    exact hb
theorem Wd.push {s : State} {H H1 : Heap} {kk ll : Nat} (h : Wd G M s H) (hz : H1.size = H.size + 1) (o1 : ∀ q, q < H.size → H1[q]? = H[q]?) (hat : va_at (gD G) ac_cls (H.size, ent (gy G) (sN M kk ll) (nx M)) H1) : Wd G (sN M kk ll) s H1 :=
  ⟨h.1.push h.2.2.1 hz o1 hat, h.2.1, h.2.2.kept (by omega) (fun q hq _ => o1 q hq)⟩
theorem sN_new (M : Mm) (a b : Nat) : kd (sN M a b) (nx M) = a ∧ ln (sN M a b) (nx M) = b ∧ mi (sN M a b) (nx M) = (fun _ => 0) ∧ mr (sN M a b) (nx M) = (fun _ => none) ∧ mj (sN M a b) (nx M) = (fun _ => 0) ∧ md (sN M a b) (nx M) = (fun _ => 0) :=
  ⟨va_up_self _ _ _, va_up_self _ _ _, va_up_self _ _ _, va_up_self _ _ _, va_up_self _ _ _, va_up_self _ _ _⟩
theorem va_S.push {A : Nat → Prop} {H0 H H1 : Heap} {locs : List Loc} (h : va_S A H0 H locs) (hz : H1.size = H.size + 1) (o1 : ∀ q, q < H.size → H1[q]? = H[q]?) : va_S A H0 H1 locs :=
  ⟨Nat.le_trans h.1 (by omega), fun x h1 h2 => (o1 x (Nat.lt_of_lt_of_le h1 h.1)).trans (h.2.1 x h1 h2), h.2.2⟩
theorem defI : ∀ ci, ci < 9 → ∀ j, j < nF ci → (refT (fTy ci j) = false → defaultValue (fTy ci j) = .int 0) := by decide +kernel
theorem defR {ci j : Nat} (h : refT (fTy ci j) = true) : defaultValue (fTy ci j) = .null := by
  cases hf : fTy ci j <;> rw [hf] at h <;> first | rfl | (exact absurd h (by decide))
theorem r_new {idx ci : Nat} (hd : decode (mB I) pc = .ok (.new idx, 3)) (hw : NW (mY I).cls idx ci) (hf : k + 1 ≤ (mR I).cells ∧ n + nF ci ≤ (mR I).slots) (h : WW G I Q (pc + 3) L (.ref (nx M) :: st) (sN M (ci + 1) 0) (k + 1) (n + nF ci)) : WW G I Q pc L st M k n := by
  intro p e s m args below meth c H locs ls C Y S V
  obtain ⟨Cn, T, N, h1, h2, h3, h4, h5⟩ := hw
  obtain ⟨hty, -, hN, hci⟩ := ac_ok h1
  subst hN
  have hts := C.2.2.2.2.1
  have hKn := Y.2.1.1 ci _ h1
  refine W.newcK C.1 C.2.1 C.2.2.2.2.2.1 (hts _ h3) (hts _ h4) (hts _ h5) rfl hd hf.1 hf.2 hKn.2.1 Y.1.1 fun H1 kC hkC e1 z1 o1 => ?_
  rw [← Y.1.1] at e1 z1 o1
  obtain ⟨s1, s2, s3, s4, -, -⟩ := sN_new M (ci + 1) 0
  refine h p e s m args below meth c H1 locs ls C (Y.push z1 o1 ?_) (S.push z1 o1) V
  rw [ent_o s1 hci]
  refine ⟨_, h1, (u_born (fTy ci) hts h2 hKn hkC e1 hty).to (fun j hj => ?_)⟩
  cases hr : refT (fTy ci j) with
  | false =>
    have h8 := flds_i (M := sN M (ci + 1) 0) (a := nx M) hj hr
    rw [s3] at h8
    show _ = (flds ci (sN M (ci + 1) 0) (nx M)).getD j .null
    rw [List.getD_eq_getElem?_getD, h8]
    exact defI ci hci j hj hr
  | true =>
    have h8 := flds_r (M := sN M (ci + 1) 0) (a := nx M) hj hr
    rw [s4] at h8
    show _ = (flds ci (sN M (ci + 1) 0) (nx M)).getD j .null
    rw [List.getD_eq_getElem?_getD, h8]
    exact defR hr
theorem r_newI {x : Int32} {N : Nat} (hd : decode (mB I) pc = .ok (.newarray .int, 2)) (ha : Cond.arrayClass .int ∈ lwG) (hx : ¬ x < 0) (hN : x.toNatClampNeg = N) (hb : N * 4 ≤ 536870912) (hf : k + 1 ≤ (mR I).cells ∧ n + N ≤ (mR I).slots) (h : WW G I Q (pc + 2) L (.ref (nx M) :: st) (sN M 20 N) (k + 1) (n + N)) : WW G I Q pc L (.int x :: st) M k n := by
  intro p e s m args below meth c H locs ls C Y S V
  refine va_newaK (atype := .int) C.1 C.2.1 (C.2.2.2.2.1 _ ha) rfl hd rfl hx hN hb hf.1 hf.2 Y.1.1 fun H1 cA e1 z1 o1 hAr hNm => ?_
  rw [← Y.1.1] at e1 z1 o1
  obtain ⟨s1, s2, s3, s4, -, -⟩ := sN_new M 20 N
  have hcA : cA = gy G 0 := Option.some.inj (hNm.symm.trans (Y.2.1.2 0 _ rfl).2)
  refine h p e s m args below meth c H1 locs ls C (Y.push z1 o1 ?_) (S.push z1 o1) V
  rw [ent_i s1, s2, s3, ← hcA]
  exact e1
theorem r_newC {x : Int32} {N : Nat} (hd : decode (mB I) pc = .ok (.newarray .char, 2)) (ha : Cond.arrayClass .char ∈ lwG) (hx : ¬ x < 0) (hN : x.toNatClampNeg = N) (hb : N * 2 ≤ 536870912) (hf : k + 1 ≤ (mR I).cells ∧ n + N ≤ (mR I).slots) (h : WW G I Q (pc + 2) L (.ref (nx M) :: st) (sN M 21 N) (k + 1) (n + N)) : WW G I Q pc L (.int x :: st) M k n := by
  intro p e s m args below meth c H locs ls C Y S V
  refine va_newaK (atype := .char) C.1 C.2.1 (C.2.2.2.2.1 _ ha) rfl hd rfl hx hN hb hf.1 hf.2 Y.1.1 fun H1 cA e1 z1 o1 hAr hNm => ?_
  rw [← Y.1.1] at e1 z1 o1
  obtain ⟨s1, s2, s3, s4, -, -⟩ := sN_new M 21 N
  have hcA : cA = gy G 1 := Option.some.inj (hNm.symm.trans (Y.2.1.2 1 _ rfl).2)
  refine h p e s m args below meth c H1 locs ls C (Y.push z1 o1 ?_) (S.push z1 o1) V
  rw [ent_c s1, s2, s3, ← hcA]
  exact e1
theorem r_newJ {x : Int32} {N : Nat} (hd : decode (mB I) pc = .ok (.newarray .long, 2)) (ha : Cond.arrayClass .long ∈ lwG) (hx : ¬ x < 0) (hN : x.toNatClampNeg = N) (hb : N * 8 ≤ 536870912) (hf : k + 1 ≤ (mR I).cells ∧ n + N ≤ (mR I).slots) (h : WW G I Q (pc + 2) L (.ref (nx M) :: st) (sN M 22 N) (k + 1) (n + N)) : WW G I Q pc L (.int x :: st) M k n := by
  intro p e s m args below meth c H locs ls C Y S V
  refine va_newaK (atype := .long) C.1 C.2.1 (C.2.2.2.2.1 _ ha) rfl hd rfl hx hN hb hf.1 hf.2 Y.1.1 fun H1 cA e1 z1 o1 hAr hNm => ?_
  rw [← Y.1.1] at e1 z1 o1
  obtain ⟨s1, s2, s3, s4, s5, -⟩ := sN_new M 22 N
  have hcA : cA = gy G 2 := Option.some.inj (hNm.symm.trans (Y.2.1.2 2 _ rfl).2)
  refine h p e s m args below meth c H1 locs ls C (Y.push z1 o1 ?_) (S.push z1 o1) V
  rw [ent_j s1, s2, s5, ← hcA]
  exact e1
theorem r_newD {x : Int32} {N : Nat} (hd : decode (mB I) pc = .ok (.newarray .double, 2)) (ha : Cond.arrayClass .double ∈ lwG) (hx : ¬ x < 0) (hN : x.toNatClampNeg = N) (hb : N * 8 ≤ 536870912) (hf : k + 1 ≤ (mR I).cells ∧ n + N ≤ (mR I).slots) (h : WW G I Q (pc + 2) L (.ref (nx M) :: st) (sN M 23 N) (k + 1) (n + N)) : WW G I Q pc L (.int x :: st) M k n := by
  intro p e s m args below meth c H locs ls C Y S V
  refine va_newaK (atype := .double) C.1 C.2.1 (C.2.2.2.2.1 _ ha) rfl hd rfl hx hN hb hf.1 hf.2 Y.1.1 fun H1 cA e1 z1 o1 hAr hNm => ?_
  rw [← Y.1.1] at e1 z1 o1
  obtain ⟨s1, s2, s3, s4, -, s6⟩ := sN_new M 23 N
  have hcA : cA = gy G 3 := Option.some.inj (hNm.symm.trans (Y.2.1.2 3 _ rfl).2)
  refine h p e s m args below meth c H1 locs ls C (Y.push z1 o1 ?_) (S.push z1 o1) V
  rw [ent_d s1, s2, s6, ← hcA]
  exact e1
theorem St.ao {U : State} (h : St G U) {t : Nat} (ht : t < 4) : va_AO (rqT t).1 U := by
  match t, ht with
  | 0, _ => exact h.2.2.2.1
  | 1, _ => exact h.2.2.2.2.1
  | 2, _ => exact h.2.2.2.2.2.1
  | 3, _ => exact h.2.2.2.2.2.2.1
theorem r_newQ {x : Int32} {N idx t : Nat} (hd : decode (mB I) pc = .ok (.anewarray idx, 3)) (ht : t < 4) (hl : Cond.classLink (mY I).cls idx (rqT t).1 ∈ lwG) (hx : ¬ x < 0) (hN : x.toNatClampNeg = N) (hb : N * 4 ≤ 536870912) (hf : k + 1 ≤ (mR I).cells ∧ n + N ≤ (mR I).slots) (h : WW G I Q (pc + 3) L (.ref (nx M) :: st) (sN M (30 + t) N) (k + 1) (n + N)) : WW G I Q pc L (.int x :: st) M k n := by
  intro p e s m args below meth c H locs ls C Y S V
  subst hN
  refine W.anew C.1 C.2.1 C.2.2.2.2.2.1 (C.2.2.2.2.1 _ hl) (va_AO.use (C.2.2.2.2.2.2.2.2.2.1.ao ht)) rfl hd rfl hx hb hf.1 hf.2 fun cA kA comp f1 f2 f3 f4 => ?_
  generalize hH1 : H.push ({ cls := cA, slots := Array.replicate x.toNatClampNeg .null, vm := .none } : Cell) = H1
  have z1 : H1.size = H.size + 1 := by rw [← hH1, Array.size_push]
  have e1 : H1[H.size]? = some (arrV cA x.toNatClampNeg (fun _ => .null)) := by rw [← hH1, Array.getElem?_push_size, ← arrV_new]
  have o1 : ∀ q : Nat, q < H.size → H1[q]? = H[q]? := fun q hq => by rw [← hH1, Array.getElem?_push, if_neg (Nat.ne_of_lt hq)]
  obtain ⟨s1, s2, s3, s4, -, -⟩ := sN_new M (30 + t) x.toNatClampNeg
  have hcA : cA = gy G (4 + t) := by
    obtain ⟨kA', comp', g1, g2, g3, g4⟩ := (Y.2.1.2 (4 + t) _ (rq_ty _ ht)).2
    exact Option.some.inj (f1.symm.trans g4)
  have hh := h p e s m args below meth c H1 locs ls C (Y.push z1 o1 (by rw [ent_q s1, s2, s4, ← hcA]; exact e1)) (S.push z1 o1) V
  rw [← Y.1.1] at hh
  exact hh
/-! ends -/
theorem r_ireturn {P : Int32 → Mm → Prop} {X : String → Mm → Prop} {x : Int32} {ty : FieldType} (hd : decode (mB I) pc = .ok (.ireturn, 1)) (ht : mT I = some ty) (hn : narrow ty (.int x) = .int x) (hf : k ≤ (mR I).cells ∧ n ≤ (mR I).slots) (h : P x M) : WW G I (qi P X) pc L [.int x] M k n := by
  intro p e s m args below meth c H locs ls C Y S V
  refine W.widen hf.1 hf.2 (vx_ret (W.zret C.1 C.2.1 (C.2.2.1.trans ht) hn (fun t hT hW => ⟨⟨_, M, rfl, ⟨x, rfl, h⟩, ?_⟩, S.F hT⟩) S.2.2 hd C.2.2.2.2.2.2.1))
  rw [hT]
  exact Y.moved hW.alike
theorem r_return {P : Mm → Prop} {X : String → Mm → Prop} (hd : decode (mB I) pc = .ok (.return_, 1)) (ht : mT I = none) (hf : k ≤ (mR I).cells ∧ n ≤ (mR I).slots) (h : P M) : WW G I (qv P X) pc L [] M k n := by
  intro p e s m args below meth c H locs ls C Y S V
  refine W.widen hf.1 hf.2 (vx_ret (W.vret C.1 C.2.1 (C.2.2.1.trans ht) (fun t hT hW => ⟨⟨_, M, rfl, ⟨rfl, h⟩, ?_⟩, S.F hT⟩) S.2.2 hd C.2.2.2.2.2.2.1))
  rw [hT]
  exact Y.moved hW.alike
theorem r_areturn {P : Option Nat → Mm → Prop} {X : String → Mm → Prop} {r : Option Nat} {v : Value} {rt : FieldType} (hd : decode (mB I) pc = .ok (.areturn, 1)) (ht : mT I = some rt) (hrt : (∃ c, rt = .object c) ∨ ∃ t, rt = .array t) (hv : v = va_rf r) (hf : k ≤ (mR I).cells ∧ n ≤ (mR I).slots) (h : P r M) : WW G I (qr P X) pc L [v] M k n := by
  subst hv
  intro p e s m args below meth c H locs ls C Y S V
  refine W.widen hf.1 hf.2 (vx_ret (W.aret C.1 C.2.1 (C.2.2.1.trans ht) hrt (by cases r; exact Or.inl rfl; exact Or.inr ⟨_, rfl⟩) (fun t hT hW => ⟨⟨_, M, rfl, ⟨r, rfl, h⟩, ?_⟩, S.F hT⟩) S.2.2 hd C.2.2.2.2.2.2.1))
  rw [hT]
  exact Y.moved hW.alike
theorem r_dreturn {P : UInt64 → Mm → Prop} {X : String → Mm → Prop} {x : UInt64} (hd : decode (mB I) pc = .ok (.dreturn, 1)) (ht : mT I = some .double) (hf : k ≤ (mR I).cells ∧ n ≤ (mR I).slots) (h : P x M) : WW G I (qd P X) pc L [.double x] M k n := by
  intro p e s m args below meth c H locs ls C Y S V
  refine W.widen hf.1 hf.2 (vx_ret (W.dret C.1 C.2.1 (C.2.2.1.trans ht) (fun t hT hW => ⟨⟨_, M, rfl, ⟨x, rfl, h⟩, ?_⟩, S.F hT⟩) S.2.2 hd C.2.2.2.2.2.2.1))
  rw [hT]
  exact Y.moved hW.alike
theorem r_freturn {P : UInt32 → Mm → Prop} {X : String → Mm → Prop} {x : UInt32} (hd : decode (mB I) pc = .ok (.freturn, 1)) (ht : mT I = some .float) (hf : k ≤ (mR I).cells ∧ n ≤ (mR I).slots) (h : P x M) : WW G I (qf P X) pc L [.float x] M k n := by
  intro p e s m args below meth c H locs ls C Y S V
  refine W.widen hf.1 hf.2 (vx_ret (W.fret C.1 C.2.1 (C.2.2.1.trans ht) (fun t hT hW => ⟨⟨_, M, rfl, ⟨x, rfl, h⟩, ?_⟩, S.F hT⟩) S.2.2 hd C.2.2.2.2.2.2.1))
  rw [hT]
  exact Y.moved hW.alike
/-! calls by what they answer -/
theorem toL (v : Value) (st : List Value) : (some v).toList ++ st = v :: st := rfl
/-- reads of references that are there -/
theorem r_getR {idx ci j a b : Nat} (hd : decode (mB I) pc = .ok (.getfield idx, 3)) (hf : FA (mY I).cls idx ci j) (hk : kd M a = ci + 1) (ht : refT (fTy ci j) = true) (hb : mr M a j = some b) (h : WW G I Q (pc + 3) L (.ref b :: st) M k n) : WW G I Q pc L (.ref a :: st) M k n := r_getr hd hf hk ht hb h
theorem r_aaldR {a t b : Nat} {i : Int32} (hd : decode (mB I) pc = .ok (.aaload, 1)) (hk : kd M a = 30 + t) (ht : t < 4) (hi : vp_in i (ln M a)) (hb : mr M a i.toNatClampNeg = some b) (h : WW G I Q (pc + 1) L (.ref b :: st) M k n) : WW G I Q pc L (.int i :: .ref a :: st) M k n := r_aald hd hk ht hi hb h
/-- rows of known length, at a known place -/
theorem r_ial {a j N : Nat} {i : Int32} (hd : decode (mB I) pc = .ok (.iaload, 1)) (hk : kd M a = 20) (hl : ln M a = N) (hi : i = nI j) (hj : j < N) (hN : N < 2 ^ 31) (h : WW G I Q (pc + 1) L (.int (mi M a j) :: st) M k n) : WW G I Q pc L (.int i :: .ref a :: st) M k n := by
  subst hi; subst hl
  exact r_iald hd hk (vp_in_nI hj hN) (by rw [nI_clamp (Nat.lt_trans hj hN)]; exact h)
theorem r_cal {a j N : Nat} {i : Int32} (hd : decode (mB I) pc = .ok (.caload, 1)) (hk : kd M a = 21) (hl : ln M a = N) (hi : i = nI j) (hj : j < N) (hN : N < 2 ^ 31) (h : WW G I Q (pc + 1) L (.int (mi M a j) :: st) M k n) : WW G I Q pc L (.int i :: .ref a :: st) M k n := by
  subst hi; subst hl
  exact r_cald hd hk (vp_in_nI hj hN) (by rw [nI_clamp (Nat.lt_trans hj hN)]; exact h)
theorem r_lal {a j N : Nat} {i : Int32} (hd : decode (mB I) pc = .ok (.laload, 1)) (hk : kd M a = 22) (hl : ln M a = N) (hi : i = nI j) (hj : j < N) (hN : N < 2 ^ 31) (h : WW G I Q (pc + 1) L (.long (mj M a j) :: st) M k n) : WW G I Q pc L (.int i :: .ref a :: st) M k n := by
  subst hi; subst hl
  exact r_lald hd hk (vp_in_nI hj hN) (by rw [nI_clamp (Nat.lt_trans hj hN)]; exact h)
theorem r_dal {a j N : Nat} {i : Int32} (hd : decode (mB I) pc = .ok (.daload, 1)) (hk : kd M a = 23) (hl : ln M a = N) (hi : i = nI j) (hj : j < N) (hN : N < 2 ^ 31) (h : WW G I Q (pc + 1) L (.double (md M a j) :: st) M k n) : WW G I Q pc L (.int i :: .ref a :: st) M k n := by
  subst hi; subst hl
  exact r_dald hd hk (vp_in_nI hj hN) (by rw [nI_clamp (Nat.lt_trans hj hN)]; exact h)
theorem r_ias {a j N : Nat} {i x : Int32} (hd : decode (mB I) pc = .ok (.iastore, 1)) (hk : kd M a = 20) (hl : ln M a = N) (hi : i = nI j) (hj : j < N) (hN : N < 2 ^ 31) (h : WW G I Q (pc + 1) L st (sI M a j x) k n) : WW G I Q pc L (.int x :: .int i :: .ref a :: st) M k n := by
  subst hi; subst hl
  exact r_iast hd hk (vp_in_nI hj hN) (by rw [nI_clamp (Nat.lt_trans hj hN)]; exact h)
theorem r_cas {a j N : Nat} {i x : Int32} (hd : decode (mB I) pc = .ok (.castore, 1)) (hk : kd M a = 21) (hl : ln M a = N) (hi : i = nI j) (hj : j < N) (hN : N < 2 ^ 31) (h : WW G I Q (pc + 1) L st (sI M a j (vp_nar .char x)) k n) : WW G I Q pc L (.int x :: .int i :: .ref a :: st) M k n := by
  subst hi; subst hl
  exact r_cast hd hk (vp_in_nI hj hN) (by rw [nI_clamp (Nat.lt_trans hj hN)]; exact h)
theorem r_las {a j N : Nat} {i : Int32} {x : Int64} (hd : decode (mB I) pc = .ok (.lastore, 1)) (hk : kd M a = 22) (hl : ln M a = N) (hi : i = nI j) (hj : j < N) (hN : N < 2 ^ 31) (h : WW G I Q (pc + 1) L st (sJ M a j x) k n) : WW G I Q pc L (.long x :: .int i :: .ref a :: st) M k n := by
  subst hi; subst hl
  exact r_last hd hk (vp_in_nI hj hN) (by rw [nI_clamp (Nat.lt_trans hj hN)]; exact h)
theorem r_das {a j N : Nat} {i : Int32} {x : UInt64} (hd : decode (mB I) pc = .ok (.dastore, 1)) (hk : kd M a = 23) (hl : ln M a = N) (hi : i = nI j) (hj : j < N) (hN : N < 2 ^ 31) (h : WW G I Q (pc + 1) L st (sD M a j x) k n) : WW G I Q pc L (.double x :: .int i :: .ref a :: st) M k n := by
  subst hi; subst hl
  exact r_dast hd hk (vp_in_nI hj hN) (by rw [nI_clamp (Nat.lt_trans hj hN)]; exact h)
theorem r_aal {a t b j N : Nat} {i : Int32} (hd : decode (mB I) pc = .ok (.aaload, 1)) (hk : kd M a = 30 + t) (ht : t < 4) (hl : ln M a = N) (hi : i = nI j) (hj : j < N) (hN : N < 2 ^ 31) (hb : mr M a j = some b) (h : WW G I Q (pc + 1) L (.ref b :: st) M k n) : WW G I Q pc L (.int i :: .ref a :: st) M k n := by
  subst hi; subst hl
  exact r_aaldR hd hk ht (vp_in_nI hj hN) (by rw [nI_clamp (Nat.lt_trans hj hN)]; exact hb) h
theorem r_aas {a t v j N : Nat} {i : Int32} (hd : decode (mB I) pc = .ok (.aastore, 1)) (hk : kd M a = 30 + t) (ht : t < 4) (hl : ln M a = N) (hi : i = nI j) (hj : j < N) (hN : N < 2 ^ 31) (hv : kd M v = (rqT t).2 + 1) (h : WW G I Q (pc + 1) L st (sR M a j (some v)) k n) : WW G I Q pc L (.ref v :: .int i :: .ref a :: st) M k n := by
  subst hi; subst hl
  exact r_aast hd hk ht (vp_in_nI hj hN) hv (by rw [nI_clamp (Nat.lt_trans hj hN)]; exact h)
/-- what answers x and leaves the memory M1, one way only -/
def KE (G : GG) (I : MI) (as : List Value) (M : Mm) (x : Int32) (M1 : Mm) : Prop := KK G I as M (qi (fun y M' => y = x ∧ M' = M1) nox)
/-- what only reads -/
abbrev KP (G : GG) (I : MI) (as : List Value) (M : Mm) (x : Int32) : Prop := KE G I as M x M
/-- what answers nothing and leaves the memory M1 -/
def KU (G : GG) (I : MI) (as : List Value) (M M1 : Mm) : Prop := KK G I as M (qv (fun M' => M' = M1) nox)
theorem r_callVp {idx b ci : Nat} {I' : MI} {as stk : List Value} {M1 : Mm} {z : Int32} (hd : decode (mB I) pc = .ok (.invokevirtual idx, 3)) (hw : MVw (mY I') (mB I') (mL I') (mT I') as.length) (hl : Cond.methodLink (mY I).cls idx (mY I') ∈ lwG) (he : (mH I').isEmpty = true) (hh : (mH I).isEmpty = true) (hk : kd M b = ci + 1) (hc : (ac_cls[ci]?.map fun q => q.1) = some (mY I').cls) (hst : stk = as.reverse ++ .ref b :: st) (hcat : (st.map fun v => v.category).sum ≤ 8) (hR : (mR I').frames + 1 ≤ (mR I).frames ∧ 8 + (mL I' + 11) + (mR I').locals ≤ (mR I).locals) (hz : (mR I').cells = 0 ∧ (mR I').slots = 0) (hf : k ≤ (mR I).cells ∧ n ≤ (mR I).slots) (hK : KE G I' (.ref b :: as) M z M1) (h : WW G I Q (pc + 3) L (.int z :: st) M1 k n) : WW G I Q pc L stk M k n :=
  r_callV hd hw hl he hh hk hc hst hcat hR (by rw [hz.1, hz.2]; exact hf) hK (fun _ _ h => h.elim) (fun v M' ⟨y, h1, h2, h3⟩ => by subst h1; subst h2; subst h3; rw [hz.1, hz.2]; exact h)
theorem r_callVu {idx b ci : Nat} {I' : MI} {as stk : List Value} {M1 : Mm} (hd : decode (mB I) pc = .ok (.invokevirtual idx, 3)) (hw : MVw (mY I') (mB I') (mL I') (mT I') as.length) (hl : Cond.methodLink (mY I).cls idx (mY I') ∈ lwG) (he : (mH I').isEmpty = true) (hh : (mH I).isEmpty = true) (hk : kd M b = ci + 1) (hc : (ac_cls[ci]?.map fun q => q.1) = some (mY I').cls) (hst : stk = as.reverse ++ .ref b :: st) (hcat : (st.map fun v => v.category).sum ≤ 8) (hR : (mR I').frames + 1 ≤ (mR I).frames ∧ 8 + (mL I' + 11) + (mR I').locals ≤ (mR I).locals) (hz : (mR I').cells = 0 ∧ (mR I').slots = 0) (hf : k ≤ (mR I).cells ∧ n ≤ (mR I).slots) (hK : KU G I' (.ref b :: as) M M1) (h : WW G I Q (pc + 3) L st M1 k n) : WW G I Q pc L stk M k n :=
  r_callV hd hw hl he hh hk hc hst hcat hR (by rw [hz.1, hz.2]; exact hf) hK (fun _ _ h => h.elim) (fun v M' ⟨h1, h3⟩ => by subst h1; subst h3; rw [hz.1, hz.2]; exact h)
theorem r_callSp {idx : Nat} {I' : MI} {as stk : List Value} {M1 : Mm} {z : Int32} (hd : decode (mB I) pc = .ok (.invokestatic idx, 3)) (hw : MSw (mY I') (mB I') (mL I') (mT I') as.length) (hl : Cond.methodLink (mY I).cls idx (mY I') ∈ lwG) (he : (mH I').isEmpty = true) (hh : (mH I).isEmpty = true) (hst : stk = as.reverse ++ st) (hcat : (st.map fun v => v.category).sum ≤ 8) (hR : (mR I').frames + 1 ≤ (mR I).frames ∧ 8 + (mL I' + 11) + (mR I').locals ≤ (mR I).locals) (hz : (mR I').cells = 0 ∧ (mR I').slots = 0) (hf : k ≤ (mR I).cells ∧ n ≤ (mR I).slots) (hK : KE G I' (as) M z M1) (h : WW G I Q (pc + 3) L (.int z :: st) M1 k n) : WW G I Q pc L stk M k n :=
  r_callS hd hw hl he hh hst hcat hR (by rw [hz.1, hz.2]; exact hf) hK (fun _ _ h => h.elim) (fun v M' ⟨y, h1, h2, h3⟩ => by subst h1; subst h2; subst h3; rw [hz.1, hz.2]; exact h)
theorem r_callSu {idx : Nat} {I' : MI} {as stk : List Value} {M1 : Mm} (hd : decode (mB I) pc = .ok (.invokestatic idx, 3)) (hw : MSw (mY I') (mB I') (mL I') (mT I') as.length) (hl : Cond.methodLink (mY I).cls idx (mY I') ∈ lwG) (he : (mH I').isEmpty = true) (hh : (mH I).isEmpty = true) (hst : stk = as.reverse ++ st) (hcat : (st.map fun v => v.category).sum ≤ 8) (hR : (mR I').frames + 1 ≤ (mR I).frames ∧ 8 + (mL I' + 11) + (mR I').locals ≤ (mR I).locals) (hz : (mR I').cells = 0 ∧ (mR I').slots = 0) (hf : k ≤ (mR I).cells ∧ n ≤ (mR I).slots) (hK : KU G I' (as) M M1) (h : WW G I Q (pc + 3) L st M1 k n) : WW G I Q pc L stk M k n :=
  r_callS hd hw hl he hh hst hcat hR (by rw [hz.1, hz.2]; exact hf) hK (fun _ _ h => h.elim) (fun v M' ⟨h1, h3⟩ => by subst h1; subst h3; rw [hz.1, hz.2]; exact h)
theorem r_callUp {idx b ci : Nat} {I' : MI} {as stk : List Value} {M1 : Mm} {z : Int32} {Cn owner : String} {x : MethodName} (hd : decode (mB I) pc = .ok (.invokevirtual idx, 3)) (hw : MUw (mY I).cls idx Cn owner x (mY I') (mB I') (mL I') (mT I') as.length) (he : (mH I').isEmpty = true) (hh : (mH I).isEmpty = true) (hk : kd M b = ci + 1) (hc : (ac_cls[ci]?.map fun q => q.1) = some Cn) (hst : stk = as.reverse ++ .ref b :: st) (hcat : (st.map fun v => v.category).sum ≤ 8) (hR : (mR I').frames + 1 ≤ (mR I).frames ∧ 8 + (mL I' + 11) + (mR I').locals ≤ (mR I).locals) (hz : (mR I').cells = 0 ∧ (mR I').slots = 0) (hf : k ≤ (mR I).cells ∧ n ≤ (mR I).slots) (hK : KE G I' (.ref b :: as) M z M1) (h : WW G I Q (pc + 3) L (.int z :: st) M1 k n) : WW G I Q pc L stk M k n :=
  r_callU hd hw he hh hk hc hst hcat hR (by rw [hz.1, hz.2]; exact hf) hK (fun _ _ h => h) (fun v M' ⟨y, h1, h2, h3⟩ => by subst h1; subst h2; subst h3; rw [hz.1, hz.2]; exact h)
theorem r_callUu {idx b ci : Nat} {I' : MI} {as stk : List Value} {M1 : Mm} {Cn owner : String} {x : MethodName} (hd : decode (mB I) pc = .ok (.invokevirtual idx, 3)) (hw : MUw (mY I).cls idx Cn owner x (mY I') (mB I') (mL I') (mT I') as.length) (he : (mH I').isEmpty = true) (hh : (mH I).isEmpty = true) (hk : kd M b = ci + 1) (hc : (ac_cls[ci]?.map fun q => q.1) = some Cn) (hst : stk = as.reverse ++ .ref b :: st) (hcat : (st.map fun v => v.category).sum ≤ 8) (hR : (mR I').frames + 1 ≤ (mR I).frames ∧ 8 + (mL I' + 11) + (mR I').locals ≤ (mR I).locals) (hz : (mR I').cells = 0 ∧ (mR I').slots = 0) (hf : k ≤ (mR I).cells ∧ n ≤ (mR I).slots) (hK : KU G I' (.ref b :: as) M M1) (h : WW G I Q (pc + 3) L st M1 k n) : WW G I Q pc L stk M k n :=
  r_callU hd hw he hh hk hc hst hcat hR (by rw [hz.1, hz.2]; exact hf) hK (fun _ _ h => h) (fun v M' ⟨h1, h3⟩ => by subst h1; subst h3; rw [hz.1, hz.2]; exact h)
end CALLS
