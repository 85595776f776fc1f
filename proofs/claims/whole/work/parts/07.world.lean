/-! THE WORLD: the memory in a heap, and what else of the heap is known; then the wp over the memory, WW, and its rows -/
/-- the texts that are read: their lengths and bytes -/
def tx_len : List Nat := [9, 9, 8, 12, 7, 6, 8, 8, 10, 6, 0, 5, 7, 6, 4, 3, 2, 4, 4, 8]
def tx_byt : List (List Int32) := [[115, 116, 111, 110, 101, 32, 78, 32, 68], [111, 102, 102, 105, 99, 101, 114, 32, 68], [113, 117, 111, 114, 117, 109, 32, 68], [102, 105, 108, 101, 32, 68, 32, 68, 32, 78, 32, 68], [121, 101, 115, 32, 68, 32, 78], [110, 111, 32, 68, 32, 78], [99, 105, 116, 101, 32, 78, 32, 78], [118, 101, 116, 111, 32, 68, 32, 78], [119, 105, 116, 104, 100, 114, 97, 119, 32, 78], [100, 101, 99, 105, 100, 101], [], [115, 116, 111, 110, 101], [111, 102, 102, 105, 99, 101, 114], [113, 117, 111, 114, 117, 109], [102, 105, 108, 101], [121, 101, 115], [110, 111], [99, 105, 116, 101], [118, 101, 116, 111], [119, 105, 116, 104, 100, 114, 97, 119]]
/-- .. where a class's constant names one: class, place in its pool, text, number -/
def tx_tab : List (String × Nat × String × Nat) := [(RX7, 70, "stone N D", 0), (RX7, 72, "officer D", 1), (RX7, 74, "quorum D", 2), (RX7, 76, "file D D N D", 3), (RX7, 78, "yes D N", 4), (RX7, 80, "no D N", 5), (RX7, 82, "cite N N", 6), (RX7, 84, "veto D N", 7), (RX7, 86, "withdraw N", 8), (RX7, 88, "decide", 9), (RX7, 90, "", 10), (RX9, 188, "stone", 11), (RX9, 197, "officer", 12), (RX9, 199, "quorum", 13), (RX9, 201, "file", 14), (RX9, 203, "yes", 15), (RX9, 205, "no", 16), (RX9, 207, "cite", 17), (RX9, 209, "veto", 18), (RX9, 211, "withdraw", 19), (RX9, 213, "decide", 9)]
/-- the messages of the exceptions -/
def xs_tab : List (Nat × String) := [(105, "no such officer"), (139, "no such position"), (216, "no such rank"), (235, "no petition is pending"), (241, "there are no rulings"), (248, "the text buffer is full"), (267, "the text does not match the grammar"), (279, "a command failed"), (288, "no fault position was kept yet"), (299, "no such row"), (305, "no such index"), (330, "no change can be undone"), (341, "there is no snapshot"), (398, "no such stone, officer or cell"), (400, "a value is out of range"), (402, "no such pending petition or ruling"), (408, "the call is denied"), (436, "no such pending petition"), (438, "no such ruling"), (440, "nothing was denied yet"), (442, "no denial with a cause is the latest"), (75, "no such stone"), (89, "no such cell"), (96, "no stone is in the cell")]
/-- constructors called between nest mates: caller's class, place, constructor -/
def nw_tab : List (String × Nat × MethodName) := [(RX6, 33, yX4_init), (RX4, 1, yX0_init), (RX6, 34, yX5_init), (RX5, 1, yX0_init), (RX8, 28, yX3_init), (RX7, 17, yX1_init)]
/-- the exceptions that the class throws -/
def ex_tab : List String := ["java/lang/IndexOutOfBoundsException", "java/lang/IllegalArgumentException", "java/lang/UnsupportedOperationException", "java/util/NoSuchElementException", "java/lang/ArithmeticException", "java/lang/IllegalStateException"]
def de_tab : List MethodName := [⟨"java/lang/RuntimeException", "<init>", "(Ljava/lang/String;)V"⟩, ⟨"java/lang/Exception", "<init>", "(Ljava/lang/String;)V"⟩, ⟨"java/lang/Throwable", "<init>", "(Ljava/lang/String;)V"⟩]
/-- what of the tables doesn't travel by itself -/
def St (G : GG) (U : State) : Prop := (gl G).stackTraces = false ∧ (∀ q ∈ tx_tab, vk_R q.1 q.2.1 q.2.2.1 (gk G q.2.2.2) U) ∧ (∀ q ∈ xs_tab, ∃ a, vk_R RX8 q.1 q.2 a U) ∧ va_AO RX1 U ∧ va_AO RX4 U ∧ va_AO RX5 U ∧ va_AO RX6 U ∧ (∀ q ∈ nw_tab, va_Nw (.methodLinkNest q.1 q.2.1 q.2.2 "PetitionBoard") U) ∧ (∀ q ∈ ex_tab, va_Nw (.castable q q) U) ∧ (∀ q ∈ ex_tab, ∀ r ∈ ex_tab, q ≠ r → va_Nc q r U) ∧ ∀ q ∈ de_tab, va_Nw (.declares q) U
theorem St.warm {G : GG} {s U : State} (hW : s.WarmedH U.vm) (h : St G s) : St G U := by
  obtain ⟨h1, h2, h3, h4, h5, h6, h7, h8, h9, h10, h11⟩ := h
  refine ⟨h1, fun q hq => (h2 q hq).warm hW, fun q hq => ?_, h4.moved hW.alike, h5.moved hW.alike, h6.moved hW.alike, h7.moved hW.alike, fun q hq => (h8 q hq).warmM hW, fun q hq => (h9 q hq).warmC hW, fun q hq r hr hn => (h10 q hq r hr hn).moved hW.alike, fun q hq => (h11 q hq).warmD hW⟩
  obtain ⟨a, ha⟩ := h3 q hq
  exact ⟨a, ha.warm hW⟩
/-- what of the heap below the law's start is known -/
def Ext (G : GG) (U : State) (H : Heap) : Prop := gb G ≤ H.size ∧ (gs G).1 < gb G ∧ va_X (gs G).1 (gs G).2.1 (gs G).2.2 U H ∧ vx_Zq Bundle.tN "UNASSIGNED_STACK" Bundle.steD (gA G) U H ∧ vx_Zq Bundle.tN "SUPPRESSED_SENTINEL" Bundle.listD (gA G) U H ∧ vk_S 20 tx_len tx_byt (gk G) (gv G) (gA G) U H ∧ va_Z "java/lang/String" "COMPACT_STRINGS" "Z" (.int 1) (gA G) U H ∧ va_Zq "jdk/internal/util/Preconditions" "SIOOBE_FORMATTER" "Ljava/util/function/BiFunction;" (gA G) U H
theorem Ext.moved {G : GG} {u U : State} {H : Heap} (hvm : u.vm.Alike U.vm) (h : Ext G u H) : Ext G U H := by
  obtain ⟨h0, h1, h2, h3, h4, h5, h6, h7⟩ := h
  exact ⟨h0, h1, h2.moved hvm, h3.moved hvm, h4.moved hvm, h5.moved hvm, va_Z.moved hvm h6, va_Zq.moved hvm h7⟩
theorem Ext.kept {G : GG} {U : State} {H H1 : Heap} (h : Ext G U H) (hz : H.size ≤ H1.size) (hq : ∀ a : Nat, a < H.size → ¬ gA G a → H1[a]? = H[a]?) : Ext G U H1 := by
  obtain ⟨h0, h1, h2, h3, h4, h5, h6, h7⟩ := h
  exact ⟨Nat.le_trans h0 hz, h1, h2.kept (hq _ (Nat.lt_of_lt_of_le h1 h0) (Nat.not_le.mpr h1)), h3.kept hq, h4.kept hq, h5.kept hq, va_Z.kept h6 hq, va_Zq.kept h7 hq⟩
/-- the memory in the heap -/
def Pm (G : GG) (M : Mm) (H : Heap) : Prop := H.size = nx M ∧ ∃ L : List Nat, (∀ a, kd M a ≠ 0 → a ∈ L) ∧ va_P (gD G) ac_cls (va_pl L (ent (gy G) M)) H ∧ va_D (gA G) (va_pl L (ent (gy G) M))
abbrev Kw (G : GG) (U : State) : Prop := va_K (gD G) ac_cls (ac_tys (gy G)) U
def Wd (G : GG) (M : Mm) (U : State) (H : Heap) : Prop := Pm G M H ∧ Kw G U ∧ Ext G U H
theorem Wd.moved {G : GG} {M : Mm} {u U : State} {H : Heap} (hvm : u.vm.Alike U.vm) (h : Wd G M u H) : Wd G M U H := ⟨h.1, va_K.moved hvm h.2.1, h.2.2.moved hvm⟩
theorem Pm.lt {G : GG} {M : Mm} {H : Heap} (h : Pm G M H) {a : Nat} (ha : kd M a ≠ 0) : a < nx M := by
  obtain ⟨hz, L, hL, hP, hD⟩ := h
  rw [← hz]
  exact va_pl_lt (X := []) hP (hL a ha)
theorem Pm.ge {G : GG} {M : Mm} {H : Heap} (h : Pm G M H) {a : Nat} (ha : kd M a ≠ 0) : gb G ≤ a := by
  obtain ⟨hz, L, hL, hP, hD⟩ := h
  obtain ⟨k, hk⟩ := va_pl_get (X := []) (f := ent (gy G) M) (hL a ha)
  exact hD.2 k _ hk
/-- a method: name, bytes, locals, what it returns, its room, its handlers -/
abbrev MI : Type := MethodName × ByteArray × Nat × Option FieldType × Room × List (Nat × Nat × Nat × Nat)
abbrev mY (I : MI) : MethodName := I.1
abbrev mB (I : MI) : ByteArray := I.2.1
abbrev mL (I : MI) : Nat := I.2.2.1
abbrev mT (I : MI) : Option FieldType := I.2.2.2.1
abbrev mR (I : MI) : Room := I.2.2.2.2.1
abbrev mH (I : MI) : List (Nat × Nat × Nat × Nat) := I.2.2.2.2.2
/-- the room of depth d, k cells and n slots -/
abbrev rmd (d k n : Nat) : Room := { frames := d + 20, cells := k, slots := n, locals := 40 * d + 200 }
/-- the locals, by their places; a returnAddress stands for 'not known' -/
def lz : Nat → List Value → List (Nat × Value)
  | _, [] => []
  | i, .retAddr _ :: vs => lz (i + 1) vs
  | i, v :: vs => (i, v) :: lz (i + 1) vs
abbrev lj : Value := .retAddr 0
theorem lz_inv : ∀ (vs : List Value) (j : Nat) (q : Nat × Value), q ∈ lz j vs → ∃ i, q.1 = j + i ∧ vs[i]? = some q.2 ∧ ∀ x, q.2 ≠ .retAddr x
  | [], j, q, h => by cases h
  | v :: vs, j, q, h => by
    by_cases hv : ∃ x, v = .retAddr x
    · obtain ⟨x, rfl⟩ := hv
      obtain ⟨i, h1, h2, h3⟩ := lz_inv vs (j + 1) q h
      exact ⟨i + 1, by omega, by simpa using h2, h3⟩
    · have hz : lz j (v :: vs) = (j, v) :: lz (j + 1) vs := by
        cases v <;> first | rfl | exact absurd ⟨_, rfl⟩ hv
      rw [hz] at h
      rcases List.mem_cons.mp h with rfl | h
      · exact ⟨0, rfl, rfl, fun x hx => hv ⟨x, hx⟩⟩
      · obtain ⟨i, h1, h2, h3⟩ := lz_inv vs (j + 1) q h
        exact ⟨i + 1, by omega, by simpa using h2, h3⟩
theorem lz_mem : ∀ (vs : List Value) (j i : Nat) (v : Value), vs[i]? = some v → (∀ x, v ≠ .retAddr x) → (j + i, v) ∈ lz j vs
  | [], j, i, v, h, _ => by simp at h
  | w :: vs, j, i, v, h, hv => by
    cases i with
    | zero =>
      simp at h
      subst h
      have hz : lz j (w :: vs) = (j, w) :: lz (j + 1) vs := by
        cases w <;> first | rfl | exact absurd rfl (hv _)
      rw [hz]
      exact List.mem_cons_self
    | succ i =>
      have h2 : vs[i]? = some v := by simpa using h
      have h3 := lz_mem vs (j + 1) i v h2 hv
      rw [show j + 1 + i = j + (i + 1) by omega] at h3
      by_cases hw : ∃ x, w = .retAddr x
      · obtain ⟨x, rfl⟩ := hw
        exact h3
      · have hz : lz j (w :: vs) = (j, w) :: lz (j + 1) vs := by
          cases w <;> first | rfl | exact absurd ⟨_, rfl⟩ hw
        rw [hz]
        exact List.mem_cons_of_mem _ h3
theorem lz_at {ls : Array Slot} {n : Nat} {L : List Value} (h : lv_has ls n (lz 0 L)) {i : Nat} {v : Value} (hi : L[i]? = some v) (hv : ∀ x, v ≠ .retAddr x) : ls[i]? = some (.val v) := by
  have h1 := lz_mem L 0 i v hi hv
  rw [Nat.zero_add] at h1
  exact h.2.2 _ h1
/-- nothing of two slots ends at place i -/
def okc (L : List Value) : Nat → Bool
  | 0 => true
  | j + 1 => match L[j]? with
    | some w => w.category == 1
    | none => true
theorem lz_st {ls : Array Slot} {n i : Nat} {L : List Value} {v : Value} (hk : okc L i = true) (h : lv_has ls n ((i, v) :: (lz 0 L).filter (fun q => !(q.1 == i) && !(q.1 + 1 == i && q.2.category == 2)))) : lv_has ls n (lz 0 (L.set i v)) := by
  refine ⟨h.1, h.2.1, fun q hq => ?_⟩
  obtain ⟨j, h1, h2, h3⟩ := lz_inv _ _ _ hq
  rw [Nat.zero_add] at h1
  subst h1
  obtain ⟨j, w⟩ := q
  dsimp only at h2 h3 ⊢
  by_cases hj : j = i
  · subst hj
    have hl : j < L.length := by
      have := (List.getElem?_eq_some_iff.mp h2).1
      simpa using this
    rw [List.getElem?_set_self hl] at h2
    cases h2
    exact h.2.2 _ List.mem_cons_self
  · rw [List.getElem?_set_ne (Ne.symm hj)] at h2
    have h4 := lz_mem L 0 j w h2 h3
    rw [Nat.zero_add] at h4
    refine h.2.2 (j, w) (List.mem_cons_of_mem _ (List.mem_filter.mpr ⟨h4, ?_⟩))
    have h5 : (j == i) = false := by simp [hj]
    by_cases h6 : j + 1 = i
    · subst h6
      have hk : (match L[j]? with
        | some w => w.category == 1
        | none => true) = true := hk
      rw [h2] at hk
      have h7 : w.category = 1 := by simpa using hk
      simp [h7]
    · simp [hj, h6]
theorem lz_args : ∀ (vs : List Value) (j n : Nat) (q : Nat × Value), (∀ v ∈ vs, v.category = 1) → q ∈ lz j (vs ++ List.replicate n lj) → q ∈ lv_args j vs
  | [], j, n, q, _, h => by
    obtain ⟨i, h1, h2, h3⟩ := lz_inv _ _ _ h
    rw [List.nil_append, List.getElem?_replicate] at h2
    split at h2
    · exact absurd (Option.some.inj h2).symm (h3 0)
    · cases h2
  | v :: vs, j, n, q, hv, h => by
    have hc := hv v List.mem_cons_self
    have hz : lv_args j (v :: vs) = (j, v) :: lv_args (j + 1) vs := by
      show (j, v) :: lv_args (if v.category = 2 then j + 2 else j + 1) vs = _
      rw [if_neg (by omega)]
    rw [hz]
    by_cases hw : ∃ x, v = .retAddr x
    · obtain ⟨x, rfl⟩ := hw
      exact List.mem_cons_of_mem _ (lz_args vs (j + 1) n q (fun w hw => hv w (List.mem_cons_of_mem _ hw)) h)
    · have hz : lz j (v :: vs ++ List.replicate n lj) = (j, v) :: lz (j + 1) (vs ++ List.replicate n lj) := by
        cases v <;> first | rfl | exact absurd ⟨_, rfl⟩ hw
      rw [hz] at h
      rcases List.mem_cons.mp h with rfl | h
      · exact List.mem_cons_self
      · exact List.mem_cons_of_mem _ (lz_args vs (j + 1) n q (fun w hw => hv w (List.mem_cons_of_mem _ hw)) h)
/-- what a method owes at its end: with a value, or with an exception of this class -/
abbrev QQ : Type := (Option Value → Mm → Prop) × (String → Mm → Prop)
def qN (G : GG) (Q : QQ) : Array Value → State → Outcome → State → Prop := fun _ st o t => (∃ (v : Option Value) (M : Mm), o = .returned v ∧ Q.1 v M ∧ Wd G M t t.heap) ∧ va_F (gA G) st t
def qX (G : GG) (Q : QQ) : String → State → State → Prop := fun E st t => (∃ M : Mm, Q.2 E M ∧ Wd G M t t.heap) ∧ va_F (gA G) st t
/-- what stays through a method's walk -/
def Cx (G : GG) (I : MI) (p : Program) (s : State) (m : MethodId) (args : Array Value) (meth : Method) (c : Code) : Prop :=
  p.tables.exec = Jvm.exec ∧ c.code = mB I ∧ meth.sig.returnType = mT I ∧ c.maxLocals = mL I ∧ (∀ w ∈ lwG, w.before args s = true) ∧ s.vm.findClass (mY I).cls = some m.cls ∧ meth.locks = false ∧ meth.name = (mY I).name ∧ c.exceptionTable.toList = tableOf (mH I) ∧ St G s ∧ Ext G s s.heap
def WW (G : GG) (I : MI) (Q : QQ) (pc : Nat) (L : List Value) (st : List Value) (M : Mm) (k n : Nat) : Prop :=
  ∀ (p : Program) (e : Env) (s : State) (m : MethodId) (args : Array Value) (below : List Frame) (meth : Method) (c : Code) (H : Heap) (locs : List Loc) (ls : Array Slot), Cx G I p s m args meth c → Wd G M s H → va_S (gA G) s.heap H locs → lv_has ls (mL I) (lz 0 L) → W p (gl G) e (mR I) s m args below meth c H locs k n (vx_MQ below (qN G Q) (qX G Q) args s (mR I).cells (mR I).slots (gA G)) (F0 m pc ls st)
/-- the words of a method -/
def wsI (I : MI) : List Cond := (if (mH I).isEmpty = true then Cond.code (mY I) (mB I) (mL I) (mT I) else Cond.codeWith (mY I) (mB I) (mL I) (mT I) (mH I)) :: lwG
/-- THE CONTRACT of a method, at these arguments and this memory -/
def KK (G : GG) (I : MI) (as : List Value) (M : Mm) (Q : QQ) : Prop :=
  vx_Met (gl G) (mY I) (wsI I) (mR I) (va_Pc as (fun U => Wd G M U U.heap ∧ St G U)) (qN G Q) (qX G Q) (mR I).cells (mR I).slots (gA G)
theorem blindPc {G : GG} {as : List Value} {M : Mm} : FrameBlind (va_Pc as (fun U => Wd G M U U.heap ∧ St G U)) := by
  intro a U g mk h
  obtain ⟨h1, h2, h3⟩ := h
  exact ⟨h1, Wd.moved (u := U) (U := U.calling g mk a) (Vm.Alike.refl U.vm) h2, St.warm (s := U) (U := U.calling g mk a) (State.WarmedH.refl U) h3⟩
theorem sl_len : ∀ (as : List Value), (∀ v ∈ as, v.category = 1) → (lg_sl as).length = as.length
  | [], _ => rfl
  | v :: vs, hc => by
    have h1 := hc v List.mem_cons_self
    have h2 := sl_len vs (fun w hw => hc w (List.mem_cons_of_mem _ hw))
    show ((if v.category = 2 then [Slot.val v, Slot.second] else [Slot.val v]) ++ lg_sl vs).length = _
    rw [if_neg (by omega)]
    simp [h2]
theorem KK.ofW {G : GG} {I : MI} {as : List Value} {M : Mm} {Q : QQ} (hy : plainName (mY I).cls = true) (hc : ∀ v ∈ as, v.category = 1) (hn : as.length ≤ mL I) (hh : (mH I).isEmpty = true) (h : WW G I Q 0 (as ++ List.replicate (mL I - as.length) lj) [] M 0 0) : KK G I as M Q := by
  unfold KK
  refine vx_ofW (cc := mB I) (maxL := mL I) (ret := mT I) hy (ws' := lwG) (by unfold wsI; rw [if_pos hh]) ?_
  intro p e s m args below meth c s₁ B hml ht hv
  obtain ⟨rfl, hW, hS⟩ := hv
  have hts := atoms_spec (ws := wsI I) B.pre
  have hsl := sl_len as hc
  have hl := lv_entry as (n := mL I) (by rw [hsl]; exact hn)
  rw [lg_entry_eq]
  have htb : c.exceptionTable.toList = tableOf (mH I) := by
    rw [List.isEmpty_iff.mp hh]
    exact List.eq_nil_iff_forall_not_mem.mpr fun x hx => ht x hx
  exact h p e s m _ below meth c s.heap [] _ ⟨B.exec, B.bytes, B.returns, hml, fun w hw => hts w (List.mem_cons_of_mem _ hw), findClass_of_methodNamed B.named, B.notSynchronized, (name_of_methodNamed B.named B.method).1, htb, hS, hW.2.2⟩ hW va_S.rf ⟨hl.1, hl.2.1, fun q hq => hl.2.2 q (lz_args as 0 _ q hc hq)⟩
theorem KK.ofWH {G : GG} {I : MI} {as : List Value} {M : Mm} {Q : QQ} (hy : plainName (mY I).cls = true) (hc : ∀ v ∈ as, v.category = 1) (hn : as.length ≤ mL I) (hh : (mH I).isEmpty = false) (h : WW G I Q 0 (as ++ List.replicate (mL I - as.length) lj) [] M 0 0) : KK G I as M Q := by
  unfold KK
  refine vx_ofWH (cc := mB I) (maxL := mL I) (ret := mT I) (hh := mH I) hy (ws' := lwG) (by unfold wsI; rw [if_neg (by rw [hh]; decide)]) ?_
  intro p e s m args below meth c s₁ B hml hv
  obtain ⟨rfl, hW, hS⟩ := hv
  have hts := atoms_spec (ws := wsI I) B.pre
  have hsl := sl_len as hc
  have hl := lv_entry as (n := mL I) (by rw [hsl]; exact hn)
  rw [lg_entry_eq]
  have h9 : (Cond.codeWith (mY I) (mB I) (mL I) (mT I) (mH I)).before as.toArray s = true := hts _ (by unfold wsI; rw [if_neg (by rw [hh]; decide)]; exact List.mem_cons_self)
  exact h p e s m _ below meth c s.heap [] _ ⟨B.exec, B.bytes, B.returns, hml, fun w hw => hts w (List.mem_cons_of_mem _ hw), findClass_of_methodNamed B.named, B.notSynchronized, (name_of_methodNamed B.named B.method).1, vx_table (x := mY I) B h9, hS, hW.2.2⟩ hW va_S.rf ⟨hl.1, hl.2.1, fun q hq => hl.2.2 q (lz_args as 0 _ q hc hq)⟩
theorem KK.mono {G : GG} {I : MI} {as : List Value} {M : Mm} {Q Q' : QQ} (h : KK G I as M Q) (h1 : ∀ v M', Q.1 v M' → Q'.1 v M') (h2 : ∀ E M', Q.2 E M' → Q'.2 E M') : KK G I as M Q' := by
  unfold KK at h ⊢
  unfold vx_Met at h ⊢
  refine Jvm.Free.MetFree.mono h (fun _ _ h => h) (fun _ _ _ _ _ h => h) (fun a s o t _ hq => ?_)
  rcases hq with ⟨⟨⟨v, M', e1, e2, e3⟩, hF⟩, hE⟩ | ⟨q, e1, E, ce, L, ⟨⟨M', e2, e3⟩, hF⟩, r⟩
  · exact Or.inl ⟨⟨⟨v, M', e1, h1 _ _ e2, e3⟩, hF⟩, hE⟩
  · exact Or.inr ⟨q, e1, E, ce, L, ⟨⟨M', h2 _ _ e2, e3⟩, hF⟩, r⟩
/-- a contract that throws nothing, in the kit's plain form -/
theorem KK.met {G : GG} {I : MI} {as : List Value} {M : Mm} {Q : QQ} (h : KK G I as M Q) (hx : ∀ E M', ¬ Q.2 E M') : Met (gl G) (mY I) (wsI I) (mR I) (va_Pc as (fun U => Wd G M U U.heap ∧ St G U)) (qN G Q) (mR I).cells (mR I).slots (gA G) := by
  unfold KK at h
  unfold vx_Met at h
  unfold Met
  refine Jvm.Free.MetFree.mono h (fun _ _ h => h) (fun _ _ _ _ _ h => h) (fun a s o t _ hq => ?_)
  rcases hq with h | ⟨q, e1, E, ce, L, ⟨⟨M', e2, e3⟩, hF⟩, r⟩
  · exact h
  · exact absurd e2 (hx _ _)
