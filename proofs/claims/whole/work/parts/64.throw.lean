/-! THROWS of java.util.NoSuchElementException, whose constructor links its super at 13 -/
section NSE
variable {p : Program} {l : Launch} {e : Env} {R : Room} {s : State} {m : MethodId} {args : Array Value} {below : List Frame} {meth : Method} {c : Code} {H : Heap} {locs : List Loc} {cells slots : Nat}
def nE : String := "java/util/NoSuchElementException"
def nR : String := "java/lang/RuntimeException"
def n13 : ByteArray := ⟨#[0x2a, 0x2b, 0xb7, 0x00, 0x0d, 0xb1]⟩
theorem n13_0 : decode n13 0 = .ok (.aload_n 0, 1) := by decide +kernel
theorem n13_1 : decode n13 1 = .ok (.aload_n 1, 1) := by decide +kernel
theorem n13_2 : decode n13 2 = .ok (.invokespecial 13, 3) := by decide +kernel
theorem n13_5 : decode n13 5 = .ok (.return_, 1) := by decide +kernel
/-- its words: the chain's, and those of the object -/
def nTail (own : String) (ic : Nat) : List Cond := [.methodLink own ic (Bundle.initS nE), .instantiable nE 6, .castable nE nE, .selects nE Bundle.tFill0 Bundle.tFill0, .selects nE Bundle.tFill Bundle.tFill, .lays nE Bundle.tN "cause" "Ljava/lang/Throwable;", .lays nE Bundle.tN "stackTrace" Bundle.steD, .lays nE Bundle.tN "suppressedExceptions" Bundle.listD, .lays nE Bundle.tN "detailMessage" "Ljava/lang/String;", .isRef (.static Bundle.tN "UNASSIGNED_STACK" Bundle.steD), .isRef (.static Bundle.tN "SUPPRESSED_SENTINEL" Bundle.listD), .fieldLink Bundle.tN 198 Bundle.tN "backtrace" "Ljava/lang/Object;", .lays Bundle.tN Bundle.tN "backtrace" "Ljava/lang/Object;", .lays nE Bundle.tN "backtrace" "Ljava/lang/Object;"]
def nWords (own : String) (ic : Nat) : List Cond := Bundle.throwableAtoms ++ (Bundle.throwableSAtoms ++ (Bundle.passSAtoms nE nR 13 n13 ++ (Bundle.chainSAtoms nR ["java/lang/Exception"] ++ nTail own ic)))
def nV (own : String) (ic : Nat) : List Cond := (nWords own ic).filter vx_no
theorem nw1 {own : String} {ic : Nat} : ∀ w ∈ Bundle.throwableAtoms, w ∈ nWords own ic := fun _ h => List.mem_append_left _ h
theorem nw2 {own : String} {ic : Nat} : ∀ w ∈ Bundle.throwableSAtoms, w ∈ nWords own ic := fun _ h => List.mem_append_right _ (List.mem_append_left _ h)
theorem nw3 {own : String} {ic : Nat} : ∀ w ∈ Bundle.passSAtoms nE nR 13 n13, w ∈ nWords own ic := fun _ h => List.mem_append_right _ (List.mem_append_right _ (List.mem_append_left _ h))
theorem nw4 {own : String} {ic : Nat} : ∀ w ∈ Bundle.chainSAtoms nR ["java/lang/Exception"], w ∈ nWords own ic := fun _ h => List.mem_append_right _ (List.mem_append_right _ (List.mem_append_right _ (List.mem_append_left _ h)))
theorem nw5 {own : String} {ic : Nat} : ∀ w ∈ nTail own ic, w ∈ nWords own ic := fun _ h => List.mem_append_right _ (List.mem_append_right _ (List.mem_append_right _ (List.mem_append_right _ h)))
set_option maxHeartbeats 1000000 in
/-- the constructor runs and the throw leaves -/
theorem n_ctor {W : State} (X : Stand p l e R s m args below meth c W locs cells slots) (hexec : p.tables.exec = Jvm.exec) (htr : e.platform.stackTraces = false) {own : String} {ic : Nat} (hown : s.vm.findClass own = some m.cls) (h : ∀ a ∈ nWords own ic, a.before args s = true) (hlocs : ∀ x ∈ locs, ∀ cell, s.heap[x.base]? = some cell → cell.vm.isStatics = false) {a : Addr} {cX : ClassId} {kX : Class} (hfX : s.vm.findClass nE = some cX) (hkX : s.vm.classes[cX]? = some kX) (hcell : W.heap[a]? = some (freshCell cX kX)) (hnew : s.heap.size ≤ a) {msg : Value} (hmsg : msg.isRef = true) {g : JFrame} (hg : g.method = m) (hsize : g.locals.size = c.maxLocals) (hlocked : g.locked = none) (hentered : g.entered = []) {rest : List Value} (hstack : g.stack = msg :: .ref a :: .ref a :: rest) (hd6 : decode c.code g.pc = .ok (.invokespecial ic, 3)) (hd9 : decode c.code (g.pc + 3) = .ok (.athrow, 1)) (hout : ∀ x ∈ c.exceptionTable.toList, covers x (g.pc + 3) = false) (hRf : 5 < R.frames) (hRl : 2 * g.monitorRoom + ((Value.ref a :: rest).map fun v => v.category).sum + 81 ≤ R.locals) (hlocks : meth.locks = false) :
    ∃ U : State, Steps p.tables e below (W.setTop g) U ∧ U.status = .running ∧ Ended U below (.threw a) ∧ s.WarmedH U.vm ∧ s.sameButNew ({ U with vm := s.vm } : State) locs cells slots ∧ ∃ ce, U.heap[a]? = some ce ∧ s.vm.findClass nE = some ce.cls ∧ ce.vm = .none := by
  have hpl : e.platform.magicAccessors = ({} : Platform).magicAccessors := by rw [X.admits.platform]
  have ht : ∀ x, x ∈ nTail own ic → x.holds args s none s [] = true := fun x hx => h x (nw5 x hx)
  obtain ⟨T, Z0, L, -, Y⟩ := ThrowableC.of_atoms (args := args) (by rw [X.admits.platform]) (by rw [X.admits.platform]) hpl (fun x hx => h x (nw1 x hx))
  obtain ⟨Z, M, LZ, LM, hnZ⟩ := Init0T.ofS_atoms (args := args) hpl L Y (fun x hx => h x (nw2 x hx))
  obtain ⟨P0, L0, hm0, hs0⟩ := PassC.ofS_atoms (args := args) (s := s) hpl (X := nE) (Y := nR) (by decide +kernel) ⟨by decide, by decide⟩ n13_0 n13_1 n13_2 n13_5 (fun x hx => h x (nw3 x hx))
  obtain ⟨P1, Ps, hlen, L1, hL, hm1, hlink1, hlink⟩ := Bundle.chainS (args := args) hpl hnZ ["java/lang/Exception"] nR (by decide +kernel) (by decide +kernel) (fun x hx => h x (nw4 x hx))
  have hf0 : s.vm.findClass nE = some P0.m.cls := findClass_of_methodNamed hm0
  cases Option.some.inj (hfX.symm.trans hf0)
  obtain ⟨c1, k1, hc1, hk1, hord, -⟩ := Cond.instantiable_spec (ht (.instantiable nE 6) (by simp [nTail]))
  cases Option.some.inj (hc1.symm.trans hf0)
  cases Option.some.inj (hkX.symm.trans hk1)
  have sel : ∀ y : MethodName, Cond.selects nE y y ∈ nTail own ic → ∀ z, s.methodNamed? y = some z → s.methodFound? y.cls y.name y.desc = some z → selectMethod e.platform s.vm P0.m.cls z = .method z := by
    intro y hy z hz hz2
    obtain ⟨c2, r2, m2, q1, q2, q3, q4, -⟩ := Cond.selects_spec (ht _ hy)
    cases Option.some.inj (q1.symm.trans hf0)
    cases Option.some.inj (q2.symm.trans hz2)
    cases Option.some.inj (q3.symm.trans hz)
    rw [Launch.admits_selectMethod X.admits]
    exact q4
  obtain ⟨cS0, hcS0, hiss⟩ := Y.statics
  obtain ⟨u0, hu0⟩ := Cond.staticRefV Y.unassigned L.unassignedStatic L.statics hcS0 hiss (ht (.isRef (.static Bundle.tN "UNASSIGNED_STACK" Bundle.steD)) (by simp [nTail]))
  obtain ⟨sen, hsen⟩ := Cond.staticRefV Y.sentinel L.sentinelStatic L.statics hcS0 hiss (ht (.isRef (.static Bundle.tN "SUPPRESSED_SENTINEL" Bundle.listD)) (by simp [nTail]))
  obtain ⟨cB, iB, fB, hkB, hgB, haB, hsB, -, hnB, htB, hffB⟩ := Cond.ownField (t := .object "java/lang/Object") Y.found L.cls (by decide +kernel) (ht (.fieldLink Bundle.tN 198 Bundle.tN "backtrace" "Ljava/lang/Object;") (by simp [nTail])) (ht (.lays Bundle.tN Bundle.tN "backtrace" "Ljava/lang/Object;") (by simp [nTail])) e.platform hpl
  obtain ⟨cS, hcS, heS, -, hkeep⟩ := X.same.2.2.2.2.2 T.aS cS0 hcS0
  have hcS : W.heap[T.aS]? = some cS := hcS
  have hno : ∀ i, (⟨T.aS, i⟩ : Loc) ∉ locs := fun i hmem => by
    have := hlocs _ hmem cS0 hcS0
    rw [hiss] at this
    cases this
  have hkn : cS.vm ≠ .unknown := by
    rw [heS]
    intro hu
    rw [show cS0.vm = .unknown from hu] at hiss
    cases hiss
  have hne : T.aS ≠ a := Nat.ne_of_lt (Nat.lt_of_lt_of_le (Array.getElem?_eq_some_iff.mp hcS0).1 hnew)
  obtain ⟨iM, hffM⟩ := Y.msg
  obtain ⟨tyC, dC, hdC, hdnC⟩ := Cond.laysAt hf0 hk1 Y.cause (ht (.lays nE Bundle.tN "cause" "Ljava/lang/Throwable;") (by simp [nTail]))
  obtain ⟨tyS, dS, hdS, hdnS⟩ := Cond.laysAt hf0 hk1 Y.stack (ht (.lays nE Bundle.tN "stackTrace" Bundle.steD) (by simp [nTail]))
  obtain ⟨tyP, dP, hdP, hdnP⟩ := Cond.laysAt hf0 hk1 Y.supp (ht (.lays nE Bundle.tN "suppressedExceptions" Bundle.listD) (by simp [nTail]))
  obtain ⟨tyM, dM, hdM, hdnM⟩ := Cond.laysAt hf0 hk1 hffM (ht (.lays nE Bundle.tN "detailMessage" "Ljava/lang/String;") (by simp [nTail]))
  obtain ⟨tyB, dB, hdB, hdnB⟩ := Cond.laysAt hf0 hk1 hffB (ht (.lays nE Bundle.tN "backtrace" "Ljava/lang/Object;") (by simp [nTail]))
  have bC := Cond.laysApart hdB hdC hdnB hdnC (by rw [hnB, Y.causeName]; decide)
  have bS := Cond.laysApart hdB hdS hdnB hdnS (by rw [hnB, Y.stackName]; decide)
  have bP := Cond.laysApart hdB hdP hdnB hdnP (by rw [hnB, Y.suppName]; decide)
  have hskip : SkipFacts T e.platform s (fun u => u) u0 ((preparedCellV T.toThrowableT (freshCell P0.m.cls kX) a u0 sen).withEntry W.cur) :=
    ⟨{ ci198 := cB, i198 := iB, fBack := fB }, ⟨hkB, hgB, haB, hsB⟩, by
      have := fresh_default (c := P0.m.cls) tyB
      rw [htB] at this
      simpa [preparedCellV, Cell.setSlot, Cell.withEntry, Array.getElem?_setIfInBounds, bC, bS, bP, bC.symm, bS.symm, bP.symm, defaultValue] using this, fun _ _ => rfl⟩
  obtain ⟨tm, mC, cdC, kC, vm₁, hnC, -, -, -, -, -, -, -, hW₁, st1⟩ := Steps.initColdS (tb := p.tables) (e := e) (below := below) (s := s) (U := W) X.here hexec X.warmed hpl hown (t := Bundle.initS nE) rfl rfl ⟨by decide, by decide⟩
    (ht (.methodLink own ic (Bundle.initS nE)) (by simp [nTail])) (h (.instanceMethod (Bundle.initS nE)) (nw3 _ (by simp [Bundle.passSAtoms]))) (bytes := n13) (maxL := 2) (h (.code (Bundle.initS nE) n13 2 none) (nw3 _ (by simp [Bundle.passSAtoms])))
    (f := g) hg (a := a) (msg := msg) (rest := .ref a :: rest) hstack hd6
  cases Option.some.inj (hnC.symm.trans hm0)
  have X₁ := X.noted hW₁
  obtain ⟨vm₂, X₂, st2⟩ := X₁.ctorMessageOffV hexec (g := { g with stack := .ref a :: rest }) hg hsize T L Z LZ M LM (P0 :: P1 :: Ps)
    (fun P hP => by
      rcases List.mem_cons.mp hP with rfl | hP
      · exact L0
      · rcases List.mem_cons.mp hP with rfl | hP
        · exact L1
        · exact hL P hP) ⟨Option.some.inj (hs0.symm.trans hm1), hlink1, hlink⟩ (u0 := u0) (sen := sen) (self := a) hmsg (cell := freshCell P0.m.cls kX) (cellS := cS)
    hcell (fun _ => by simp) (by simp) rfl rfl (sel _ (by simp [nTail]) _ Y.fill0 (State.methodFound?_of_named Y.fill0 (by decide))) (sel _ (by simp [nTail]) _ Y.fill (State.methodFound?_of_named Y.fill (by decide))) hcS hne hkn (by rw [hkeep _ (hno _)]; exact hu0) (by rw [hkeep _ (hno _)]; exact hsen)
    (Takes.of_laid hk1 hord tyC (by rw [Y.causeType]; rfl)) (Takes.of_laid hk1 hord tyS (by rw [Y.stackType]; exact fits_refV_array _ u0)) (Takes.of_laid hk1 hord tyP (by rw [Y.suppType]; exact fits_refV_object _ sen))
    (Takes.of_laid hk1 hord tyM (by rw [Y.msgType]; exact fits_refV_object _ ⟨msg, hmsg⟩)) Y.objLocals hskip htr [] hd6
    (by simp only [List.length_cons, hlen, List.length_nil]; omega) (by simp only [List.length_cons, hlen, List.length_nil]; exact hRl)
  obtain ⟨hwalk, hrun, hended, hWU, hsame⟩ := X₂.athrowLeaves hexec (g := { g with stack := .ref a :: rest, pc := g.pc + 3 }) hg hlocked hentered hout (a := a) (rest := rest) rfl hd9
  have hlt : a < ((W.setVm vm₁).setVm vm₂).heap.size := (Array.getElem?_eq_some_iff.mp hcell).1
  have hU := heapAt_setCell_self (s := (W.setVm vm₁).setVm vm₂) (plainBareV T.toThrowableT (freshCell P0.m.cls kX) a u0 sen msg) hlt
  refine ⟨_, st1 _ (fun acts => ?_), hrun, hended, hWU, hsame.weaken (fun y hy hlt' => ?_) (Nat.le_refl _) (Nat.le_refl _), _, hU, hf0, rfl⟩
  · rw [doInvoke_state]
    exact st2 _ hwalk
  · rcases List.mem_append.mp hy with h1 | h1
    · exact h1
    · exfalso
      have hb : y.base = a := by
        simp only [List.mem_cons, List.not_mem_nil, or_false] at h1
        rcases h1 with rfl | rfl | rfl | rfl | rfl <;> rfl
      rw [hb] at hlt'
      exact Nat.not_lt.mpr hnew hlt'
variable {mc ms : Nat} {free : Addr → Prop} {ls : Array Slot} {rest : List Value} {Qc : Array Value → State → Outcome → State → Prop} {XC : String → State → State → Prop}
theorem n_thrS {cc : ByteArray} {pc : Nat} (hexec : p.tables.exec = Jvm.exec) (hb : c.code = cc) (hl : l.stackTraces = false) {own text : String} {ik is ic sa : Nat} {A : Nat → Prop}
    (hown : s.vm.findClass own = some m.cls) (hk : (Cond.classLink own ik nE).before args s = true) (hini : (Cond.initialized nE).before args s = true) (hstr : vk_R own is text sa s) (hat : ∀ w ∈ nV own ic, w.before args s = true)
    (hgood : ∀ w ∈ Cond.classLink own ik nE :: Cond.initialized nE :: nV own ic, vx_ot w = true)
    (hU : vx_Zq Bundle.tN "UNASSIGNED_STACK" Bundle.steD A s s.heap) (hN : vx_Zq Bundle.tN "SUPPRESSED_SENTINEL" Bundle.listD A s s.heap) (hS : va_S A s.heap H locs) (hsize : ls.size = c.maxLocals)
    (d0 : decode cc pc = .ok (.new ik, 3)) (d3 : decode cc (pc + 3) = .ok (.dup, 1)) (d4 : decode cc (pc + 4) = .ok (.ldc is, 2)) (d6 : decode cc (pc + 6) = .ok (.invokespecial ic, 3)) (d9 : decode cc (pc + 9) = .ok (.athrow, 1))
    (hout : ∀ x ∈ c.exceptionTable.toList, covers x (pc + 9) = false)
    (hRf : 5 < R.frames) (hRl : (rest.map fun v => v.category).sum + 82 ≤ R.locals) (hRcells : cells + 1 ≤ R.cells) (hRslots : slots + 6 ≤ R.slots) (hlocks : meth.locks = false)
    (hx : ∀ t : State, s.vm.Alike t.vm → H.size ≤ t.heap.size → (∀ q : Nat, q < H.size → t.heap[q]? = H[q]?) → XC nE s t)
    (hf : ∀ z ∈ locs, free z.base) (hc : cells + 1 ≤ mc) (hs : slots + 6 ≤ ms) :
    W p l e R s m args below meth c H locs cells slots (vx_MQ below Qc XC args s mc ms free) (F0 m pc ls rest) := by
  intro T hT X
  have htr : e.platform.stackTraces = false := (show e.platform.stackTraces = l.stackTraces by rw [X.admits.platform]).trans hl
  have Y := vx_rebase X (R' := { frames := R.frames, locals := R.locals, cells := 1, slots := 6 }) (Nat.le_refl _) (Nat.le_refl _) hRcells hRslots
  obtain ⟨s', hA⟩ : ∃ z, z = (T.setVm s.vm).setFrames (.invoking m args :: below) := ⟨_, rfl⟩
  rw [← hA] at Y
  have hvm : s'.vm = s.vm := by rw [hA]; rfl
  have hhp : s'.heap = H := by rw [hA]; exact hT
  have hW0 : s.WarmedH s'.vm := by rw [hvm]; exact State.WarmedH.refl s
  have hat' : ∀ w ∈ nV own ic, w.before args s' = true := fun w hw => vx_ot_at hW0 hvm.symm (hgood w (List.mem_cons_of_mem _ (List.mem_cons_of_mem _ hw))) (hat w hw)
  have hk' : (Cond.classLink own ik nE).before args s' = true := vx_ot_at hW0 hvm.symm (hgood _ List.mem_cons_self) hk
  have hini' : (Cond.initialized nE).before args s' = true := vx_ot_at hW0 hvm.symm (hgood _ (List.mem_cons_of_mem _ List.mem_cons_self)) hini
  have hU' : vx_Zq Bundle.tN "UNASSIGNED_STACK" Bundle.steD A s' s'.heap := by rw [hhp]; exact vx_Zq.moved hW0.alike (hU.kept hS.2.1)
  have hN' : vx_Zq Bundle.tN "SUPPRESSED_SENTINEL" Bundle.listD A s' s'.heap := by rw [hhp]; exact vx_Zq.moved hW0.alike (hN.kept hS.2.1)
  have h : ∀ w ∈ nWords own ic, w.before args s' = true := vx_own hat' (vx_isRefq hU'.1) (vx_isRefq hN'.1) hU'.2.word hN'.2.word
  have hown' : s'.vm.findClass own = some m.cls := by rw [hvm]; exact hown
  have hins : (Cond.instantiable nE 6).before args s' = true := h _ (nw5 _ (by simp [nTail]))
  obtain ⟨vm₁, cX, kX, hfX, hkX, -, -, X₁, st1⟩ := Y.newCold hexec (own := own) (C := nE) (index := ik) (n := 6) hown' hk' hins hini'
    (g := F0 m pc ls rest) rfl (by rw [hb]; exact d0) (Nat.le_refl _) (Nat.le_refl _)
  generalize hT1 : (T.setVm vm₁).pushCell { cls := cX, slots := kX.instanceTypes.map defaultValue, vm := .none } = T1 at X₁ st1
  have hcat : (Value.ref T.heap.size).category = 1 := rfl
  have hcellA : T1.heap[T.heap.size]? = some (freshCell cX kX) := by rw [← hT1]; exact State.heap_pushCell_size _ _
  have d3' : decode c.code (pc + 3) = .ok (.dup, 1) := by rw [hb]; exact d3
  have d4' : decode c.code (pc + 4) = .ok (.ldc is, 2) := by rw [hb]; exact d4
  have hstr' : vk_R own is text sa s' := vk_R.warm hW0 hstr
  obtain ⟨U, hsteps, hrun, hend, hW, hsame, ce, hce, hO, hOv⟩ := n_ctor X₁ hexec htr (own := own) (ic := ic) hown' h (fun x hx => nomatch hx) hfX hkX hcellA (by rw [hhp, hT]; exact Nat.le_refl _) (msg := .ref sa) rfl
    (g := { method := m, pc := pc + 6, locals := ls, stack := .ref sa :: .ref T.heap.size :: .ref T.heap.size :: rest, locked := none }) rfl hsize rfl rfl (rest := rest) rfl
    (by rw [hb]; exact d6) (by rw [hb]; exact d9) hout hRf (by simp only [List.map_cons, List.sum_cons, hcat]; show 2 * 0 + _ + _ ≤ _; omega) hlocks
  obtain ⟨f1, f2⟩ := vx_frame hsame
  rw [hhp] at f1 f2
  have hWs : s.WarmedH U.vm := State.WarmedH.trans hW0 hW
  have hcl : s.vm.findClass nE = some ce.cls := by
    rw [hvm] at hO
    exact hO
  have hall : s.sameButNew ({ U with vm := s.vm } : State) locs mc ms := by
    subst hA
    obtain ⟨e1, e2⟩ := hsame
    rw [State.setFrames_setFrames] at e1
    have h2 : (T.setVm s.vm).sameButNew ({ U with vm := s.vm } : State) [] (0 + 1) (0 + 6) := ⟨e1, e2⟩
    have h3 := X.same.trans h2
    rw [List.append_nil] at h3
    exact h3.mono hc hs
  refine ⟨U, ?_, .threw T.heap.size, hrun, hend, Or.inr ⟨T.heap.size, rfl, nE, ce, locs, hx U hWs.alike f1 (fun q hq => f2 q hq (fun z hz => nomatch hz)), hce, hOv, hcl, hWs, hall, hf⟩⟩
  refine st1 _ ?_
  show Steps p.tables e below (T1.setTop { method := m, pc := pc + 3, locals := ls, stack := .ref T.heap.size :: rest, locked := none }) _
  jvm_step X₁.here [X₁.here.top, hexec, d3', Value.category]
  exact X₁.ldcString hexec (own := own) (text := text) (index := is) (a := sa) hown' hstr'.1 hstr'.2
    (g := { method := m, pc := pc + 4, locals := ls, stack := .ref T.heap.size :: .ref T.heap.size :: rest, locked := none }) rfl d4' _ hsteps
theorem n_thrSW {cc : ByteArray} {pc : Nat} (hexec : p.tables.exec = Jvm.exec) (hb : c.code = cc) (hl : l.stackTraces = false) {own text : String} {ik is ic sa : Nat} {A : Nat → Prop}
    (hown : s.vm.findClass own = some m.cls) (hk : (Cond.classLink own ik nE).before args s = true) (hini : (Cond.initialized nE).before args s = true) (hstr : vk_R own is text sa s) (hat : ∀ w ∈ nV own ic, w.before args s = true)
    (hgood : ∀ w ∈ Cond.classLink own ik nE :: Cond.initialized nE :: nV own ic, vx_ot w = true)
    (hU : vx_Zq Bundle.tN "UNASSIGNED_STACK" Bundle.steD A s s.heap) (hN : vx_Zq Bundle.tN "SUPPRESSED_SENTINEL" Bundle.listD A s s.heap) (hS : va_S A s.heap H locs) (hsize : ls.size = c.maxLocals)
    (d0 : decode cc pc = .ok (.new ik, 3)) (d3 : decode cc (pc + 3) = .ok (.dup, 1)) (d4 : decode cc (pc + 4) = .ok (.ldc_w is, 3)) (d6 : decode cc (pc + 7) = .ok (.invokespecial ic, 3)) (d9 : decode cc (pc + 10) = .ok (.athrow, 1))
    (hout : ∀ x ∈ c.exceptionTable.toList, covers x (pc + 10) = false)
    (hRf : 5 < R.frames) (hRl : (rest.map fun v => v.category).sum + 82 ≤ R.locals) (hRcells : cells + 1 ≤ R.cells) (hRslots : slots + 6 ≤ R.slots) (hlocks : meth.locks = false)
    (hx : ∀ t : State, s.vm.Alike t.vm → H.size ≤ t.heap.size → (∀ q : Nat, q < H.size → t.heap[q]? = H[q]?) → XC nE s t)
    (hf : ∀ z ∈ locs, free z.base) (hc : cells + 1 ≤ mc) (hs : slots + 6 ≤ ms) :
    W p l e R s m args below meth c H locs cells slots (vx_MQ below Qc XC args s mc ms free) (F0 m pc ls rest) := by
  intro T hT X
  have htr : e.platform.stackTraces = false := (show e.platform.stackTraces = l.stackTraces by rw [X.admits.platform]).trans hl
  have Y := vx_rebase X (R' := { frames := R.frames, locals := R.locals, cells := 1, slots := 6 }) (Nat.le_refl _) (Nat.le_refl _) hRcells hRslots
  obtain ⟨s', hA⟩ : ∃ z, z = (T.setVm s.vm).setFrames (.invoking m args :: below) := ⟨_, rfl⟩
  rw [← hA] at Y
  have hvm : s'.vm = s.vm := by rw [hA]; rfl
  have hhp : s'.heap = H := by rw [hA]; exact hT
  have hW0 : s.WarmedH s'.vm := by rw [hvm]; exact State.WarmedH.refl s
  have hat' : ∀ w ∈ nV own ic, w.before args s' = true := fun w hw => vx_ot_at hW0 hvm.symm (hgood w (List.mem_cons_of_mem _ (List.mem_cons_of_mem _ hw))) (hat w hw)
  have hk' : (Cond.classLink own ik nE).before args s' = true := vx_ot_at hW0 hvm.symm (hgood _ List.mem_cons_self) hk
  have hini' : (Cond.initialized nE).before args s' = true := vx_ot_at hW0 hvm.symm (hgood _ (List.mem_cons_of_mem _ List.mem_cons_self)) hini
  have hU' : vx_Zq Bundle.tN "UNASSIGNED_STACK" Bundle.steD A s' s'.heap := by rw [hhp]; exact vx_Zq.moved hW0.alike (hU.kept hS.2.1)
  have hN' : vx_Zq Bundle.tN "SUPPRESSED_SENTINEL" Bundle.listD A s' s'.heap := by rw [hhp]; exact vx_Zq.moved hW0.alike (hN.kept hS.2.1)
  have h : ∀ w ∈ nWords own ic, w.before args s' = true := vx_own hat' (vx_isRefq hU'.1) (vx_isRefq hN'.1) hU'.2.word hN'.2.word
  have hown' : s'.vm.findClass own = some m.cls := by rw [hvm]; exact hown
  have hins : (Cond.instantiable nE 6).before args s' = true := h _ (nw5 _ (by simp [nTail]))
  obtain ⟨vm₁, cX, kX, hfX, hkX, -, -, X₁, st1⟩ := Y.newCold hexec (own := own) (C := nE) (index := ik) (n := 6) hown' hk' hins hini'
    (g := F0 m pc ls rest) rfl (by rw [hb]; exact d0) (Nat.le_refl _) (Nat.le_refl _)
  generalize hT1 : (T.setVm vm₁).pushCell { cls := cX, slots := kX.instanceTypes.map defaultValue, vm := .none } = T1 at X₁ st1
  have hcat : (Value.ref T.heap.size).category = 1 := rfl
  have hcellA : T1.heap[T.heap.size]? = some (freshCell cX kX) := by rw [← hT1]; exact State.heap_pushCell_size _ _
  have d3' : decode c.code (pc + 3) = .ok (.dup, 1) := by rw [hb]; exact d3
  have d4' : decode c.code (pc + 4) = .ok (.ldc_w is, 3) := by rw [hb]; exact d4
  have hstr' : vk_R own is text sa s' := vk_R.warm hW0 hstr
  obtain ⟨U, hsteps, hrun, hend, hW, hsame, ce, hce, hO, hOv⟩ := n_ctor X₁ hexec htr (own := own) (ic := ic) hown' h (fun x hx => nomatch hx) hfX hkX hcellA (by rw [hhp, hT]; exact Nat.le_refl _) (msg := .ref sa) rfl
    (g := { method := m, pc := pc + 7, locals := ls, stack := .ref sa :: .ref T.heap.size :: .ref T.heap.size :: rest, locked := none }) rfl hsize rfl rfl (rest := rest) rfl
    (by rw [hb]; exact d6) (by rw [hb]; exact d9) hout hRf (by simp only [List.map_cons, List.sum_cons, hcat]; show 2 * 0 + _ + _ ≤ _; omega) hlocks
  obtain ⟨f1, f2⟩ := vx_frame hsame
  rw [hhp] at f1 f2
  have hWs : s.WarmedH U.vm := State.WarmedH.trans hW0 hW
  have hcl : s.vm.findClass nE = some ce.cls := by
    rw [hvm] at hO
    exact hO
  have hall : s.sameButNew ({ U with vm := s.vm } : State) locs mc ms := by
    subst hA
    obtain ⟨e1, e2⟩ := hsame
    rw [State.setFrames_setFrames] at e1
    have h2 : (T.setVm s.vm).sameButNew ({ U with vm := s.vm } : State) [] (0 + 1) (0 + 6) := ⟨e1, e2⟩
    have h3 := X.same.trans h2
    rw [List.append_nil] at h3
    exact h3.mono hc hs
  refine ⟨U, ?_, .threw T.heap.size, hrun, hend, Or.inr ⟨T.heap.size, rfl, nE, ce, locs, hx U hWs.alike f1 (fun q hq => f2 q hq (fun z hz => nomatch hz)), hce, hOv, hcl, hWs, hall, hf⟩⟩
  refine st1 _ ?_
  show Steps p.tables e below (T1.setTop { method := m, pc := pc + 3, locals := ls, stack := .ref T.heap.size :: rest, locked := none }) _
  jvm_step X₁.here [X₁.here.top, hexec, d3', Value.category]
  exact X₁.ldcStringW hexec (own := own) (text := text) (index := is) (a := sa) hown' hstr'.1 hstr'.2
    (g := { method := m, pc := pc + 4, locals := ls, stack := .ref T.heap.size :: .ref T.heap.size :: rest, locked := none }) rfl d4' _ hsteps
end NSE
set_option maxRecDepth 100000 in
theorem ng_98 : ∀ w ∈ (nV RX8 98).filter goodWord, w ∈ lwG := by decide +kernel
theorem nb_98 : ∀ w ∈ (nV RX8 98).filter (fun w => !goodWord w), w ∈ [Cond.castable nE nE, .declares ⟨"java/lang/RuntimeException", "<init>", "(Ljava/lang/String;)V"⟩, .declares ⟨"java/lang/Exception", "<init>", "(Ljava/lang/String;)V"⟩, .declares ⟨"java/lang/Throwable", "<init>", "(Ljava/lang/String;)V"⟩] := by decide +kernel
theorem nk_94 : Cond.classLink RX8 94 nE ∈ lwG := wm 601 (by decide +kernel) (by decide +kernel)
theorem ni_84 : Cond.initialized nE ∈ lwG := wm 84 (by decide +kernel) (by decide +kernel)
theorem no_98 : ∀ w ∈ Cond.classLink RX8 94 nE :: Cond.initialized nE :: nV RX8 98, vx_ot w = true := by decide +kernel
section THROW
variable {G : GG} {I : MI} {Q : QQ} {pc : Nat} {L st : List Value} {M : Mm} {k n : Nat}
theorem ww_thrN {text : String} {is : Nat} {p : Program} {e : Env} {s : State} {m : MethodId} {args : Array Value} {below : List Frame} {meth : Method} {c : Code} (ht : (is, text) ∈ xs_tab) (C : Cx G I p s m args meth c) (hc : (mY I).cls = RX8) : ∃ sa, vk_R RX8 is text sa s ∧ s.vm.findClass RX8 = some m.cls ∧ (gl G).stackTraces = false ∧ (Cond.classLink RX8 94 nE).before args s = true ∧ (Cond.initialized nE).before args s = true ∧ (∀ w ∈ nV RX8 98, w.before args s = true) := by
  have hS := C.2.2.2.2.2.2.2.2.2.1
  have hts := C.2.2.2.2.1
  obtain ⟨sa, hsa⟩ := hS.2.2.1 _ ht
  refine ⟨sa, hsa, by rw [← hc]; exact C.2.2.2.2.2.1, hS.1, hts _ nk_94, hts _ ni_84, vx_hat (fun w hw => hts w (ng_98 w hw)) nb_98 ?_⟩
  intro w hw
  simp only [List.mem_cons, List.not_mem_nil, or_false] at hw
  rcases hw with rfl | rfl | rfl | rfl
  · exact va_Nw.use rfl (hS.2.2.2.2.2.2.2.2.1 _ (by decide))
  · exact va_Nw.use rfl (hS.2.2.2.2.2.2.2.2.2.2 _ (by simp [de_tab]))
  · exact va_Nw.use rfl (hS.2.2.2.2.2.2.2.2.2.2 _ (by simp [de_tab]))
  · exact va_Nw.use rfl (hS.2.2.2.2.2.2.2.2.2.2 _ (by simp [de_tab]))
theorem r_throwN {text : String} {is : Nat} (ht : (is, text) ∈ xs_tab) (hc : (mY I).cls = RX8) (hh : (mH I).isEmpty = true) (d0 : decode (mB I) pc = .ok (.new 94, 3)) (d3 : decode (mB I) (pc + 3) = .ok (.dup, 1)) (d4 : decode (mB I) (pc + 4) = .ok (.ldc is, 2)) (d6 : decode (mB I) (pc + 6) = .ok (.invokespecial 98, 3)) (d9 : decode (mB I) (pc + 9) = .ok (.athrow, 1)) (hR : 5 < (mR I).frames ∧ (st.map fun v => v.category).sum + 82 ≤ (mR I).locals) (hf : k + 1 ≤ (mR I).cells ∧ n + 6 ≤ (mR I).slots) (h : ∀ z, Q.2 nE (sX M z)) : WW G I Q pc L st M k n := by
  intro p e s m args below meth c H locs ls C Y S V
  obtain ⟨sa, x1, x2, x3, x4, x5, x6⟩ := ww_thrN (below := below) (e := e) ht C hc
  have hE := C.2.2.2.2.2.2.2.2.2.2
  exact n_thrS C.1 C.2.1 x3 (A := gA G) x2 x4 x5 x1 x6 no_98 hE.2.2.2.1 hE.2.2.2.2.1 S (V.1.trans C.2.2.2.1.symm) d0 d3 d4 d6 d9 (fun x hx => (C.tab hh x hx).elim) hR.1 hR.2 hf.1 hf.2 C.2.2.2.2.2.2.1 (fun t hal h1 h2 => ⟨⟨_, h _, Y.end hal h1 h2⟩, Nat.le_trans S.1 h1, fun q hq hA => (h2 q (Nat.lt_of_lt_of_le hq S.1)).trans (S.2.1 q hq hA)⟩) S.2.2 hf.1 hf.2
theorem r_throwNW {text : String} {is : Nat} (ht : (is, text) ∈ xs_tab) (hc : (mY I).cls = RX8) (hh : (mH I).isEmpty = true) (d0 : decode (mB I) pc = .ok (.new 94, 3)) (d3 : decode (mB I) (pc + 3) = .ok (.dup, 1)) (d4 : decode (mB I) (pc + 4) = .ok (.ldc_w is, 3)) (d6 : decode (mB I) (pc + 7) = .ok (.invokespecial 98, 3)) (d9 : decode (mB I) (pc + 10) = .ok (.athrow, 1)) (hR : 5 < (mR I).frames ∧ (st.map fun v => v.category).sum + 82 ≤ (mR I).locals) (hf : k + 1 ≤ (mR I).cells ∧ n + 6 ≤ (mR I).slots) (h : ∀ z, Q.2 nE (sX M z)) : WW G I Q pc L st M k n := by
  intro p e s m args below meth c H locs ls C Y S V
  obtain ⟨sa, x1, x2, x3, x4, x5, x6⟩ := ww_thrN (below := below) (e := e) ht C hc
  have hE := C.2.2.2.2.2.2.2.2.2.2
  exact n_thrSW C.1 C.2.1 x3 (A := gA G) x2 x4 x5 x1 x6 no_98 hE.2.2.2.1 hE.2.2.2.2.1 S (V.1.trans C.2.2.2.1.symm) d0 d3 d4 d6 d9 (fun x hx => (C.tab hh x hx).elim) hR.1 hR.2 hf.1 hf.2 C.2.2.2.2.2.2.1 (fun t hal h1 h2 => ⟨⟨_, h _, Y.end hal h1 h2⟩, Nat.le_trans S.1 h1, fun q hq hA => (h2 q (Nat.lt_of_lt_of_le hq S.1)).trans (S.2.1 q hq hA)⟩) S.2.2 hf.1 hf.2
end THROW
