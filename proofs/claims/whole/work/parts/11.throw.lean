/-! THROWS of the class: new E("text") -/
def xE : List String := ["java/lang/RuntimeException", "java/lang/Exception"]
/-- a place where the class throws: the class of the exception, its place in the pool, its constructor's -/
def XW (E : String) (ik ic : Nat) : Prop := E ∈ ex_tab ∧ Bundle.fit E = true ∧ Cond.classLink RX8 ik E ∈ lwG ∧ Cond.initialized E ∈ lwG ∧ (∀ w ∈ (vx_atS RX8 ic E xE).filter goodWord, w ∈ lwG) ∧ (∀ w ∈ (vx_atS RX8 ic E xE).filter (fun w => !goodWord w), w ∈ [Cond.castable E E, .declares ⟨"java/lang/RuntimeException", "<init>", "(Ljava/lang/String;)V"⟩, .declares ⟨"java/lang/Exception", "<init>", "(Ljava/lang/String;)V"⟩, .declares ⟨"java/lang/Throwable", "<init>", "(Ljava/lang/String;)V"⟩]) ∧ (∀ w ∈ Cond.classLink RX8 ik E :: Cond.initialized E :: vx_atS RX8 ic E xE, vx_ot w = true)
set_option maxRecDepth 100000 in
theorem xg_77 : ∀ w ∈ (vx_atS RX8 77 "java/lang/IndexOutOfBoundsException" xE).filter goodWord, w ∈ lwG := by decide +kernel
theorem xb_77 : ∀ w ∈ (vx_atS RX8 77 "java/lang/IndexOutOfBoundsException" xE).filter (fun w => !goodWord w), w ∈ [Cond.castable "java/lang/IndexOutOfBoundsException" "java/lang/IndexOutOfBoundsException", .declares ⟨"java/lang/RuntimeException", "<init>", "(Ljava/lang/String;)V"⟩, .declares ⟨"java/lang/Exception", "<init>", "(Ljava/lang/String;)V"⟩, .declares ⟨"java/lang/Throwable", "<init>", "(Ljava/lang/String;)V"⟩] := by decide +kernel
theorem xw_73 : XW "java/lang/IndexOutOfBoundsException" 73 77 := ⟨by decide, by decide +kernel, wm 572 (by decide +kernel) (by decide +kernel), wm 79 (by decide +kernel) (by decide +kernel), xg_77, xb_77, by decide +kernel⟩
set_option maxRecDepth 100000 in
theorem xg_269 : ∀ w ∈ (vx_atS RX8 269 "java/lang/IllegalArgumentException" xE).filter goodWord, w ∈ lwG := by decide +kernel
theorem xb_269 : ∀ w ∈ (vx_atS RX8 269 "java/lang/IllegalArgumentException" xE).filter (fun w => !goodWord w), w ∈ [Cond.castable "java/lang/IllegalArgumentException" "java/lang/IllegalArgumentException", .declares ⟨"java/lang/RuntimeException", "<init>", "(Ljava/lang/String;)V"⟩, .declares ⟨"java/lang/Exception", "<init>", "(Ljava/lang/String;)V"⟩, .declares ⟨"java/lang/Throwable", "<init>", "(Ljava/lang/String;)V"⟩] := by decide +kernel
theorem xw_265 : XW "java/lang/IllegalArgumentException" 265 269 := ⟨by decide, by decide +kernel, wm 585 (by decide +kernel) (by decide +kernel), wm 83 (by decide +kernel) (by decide +kernel), xg_269, xb_269, by decide +kernel⟩
set_option maxRecDepth 100000 in
theorem xg_281 : ∀ w ∈ (vx_atS RX8 281 "java/lang/UnsupportedOperationException" xE).filter goodWord, w ∈ lwG := by decide +kernel
theorem xb_281 : ∀ w ∈ (vx_atS RX8 281 "java/lang/UnsupportedOperationException" xE).filter (fun w => !goodWord w), w ∈ [Cond.castable "java/lang/UnsupportedOperationException" "java/lang/UnsupportedOperationException", .declares ⟨"java/lang/RuntimeException", "<init>", "(Ljava/lang/String;)V"⟩, .declares ⟨"java/lang/Exception", "<init>", "(Ljava/lang/String;)V"⟩, .declares ⟨"java/lang/Throwable", "<init>", "(Ljava/lang/String;)V"⟩] := by decide +kernel
theorem xw_277 : XW "java/lang/UnsupportedOperationException" 277 281 := ⟨by decide, by decide +kernel, wm 621 (by decide +kernel) (by decide +kernel), wm 85 (by decide +kernel) (by decide +kernel), xg_281, xb_281, by decide +kernel⟩
set_option maxRecDepth 100000 in
theorem xg_237 : ∀ w ∈ (vx_atS RX8 237 "java/lang/ArithmeticException" xE).filter goodWord, w ∈ lwG := by decide +kernel
theorem xb_237 : ∀ w ∈ (vx_atS RX8 237 "java/lang/ArithmeticException" xE).filter (fun w => !goodWord w), w ∈ [Cond.castable "java/lang/ArithmeticException" "java/lang/ArithmeticException", .declares ⟨"java/lang/RuntimeException", "<init>", "(Ljava/lang/String;)V"⟩, .declares ⟨"java/lang/Exception", "<init>", "(Ljava/lang/String;)V"⟩, .declares ⟨"java/lang/Throwable", "<init>", "(Ljava/lang/String;)V"⟩] := by decide +kernel
theorem xw_233 : XW "java/lang/ArithmeticException" 233 237 := ⟨by decide, by decide +kernel, wm 1069 (by decide +kernel) (by decide +kernel), wm 87 (by decide +kernel) (by decide +kernel), xg_237, xb_237, by decide +kernel⟩
set_option maxRecDepth 100000 in
theorem xg_250 : ∀ w ∈ (vx_atS RX8 250 "java/lang/IllegalStateException" xE).filter goodWord, w ∈ lwG := by decide +kernel
theorem xb_250 : ∀ w ∈ (vx_atS RX8 250 "java/lang/IllegalStateException" xE).filter (fun w => !goodWord w), w ∈ [Cond.castable "java/lang/IllegalStateException" "java/lang/IllegalStateException", .declares ⟨"java/lang/RuntimeException", "<init>", "(Ljava/lang/String;)V"⟩, .declares ⟨"java/lang/Exception", "<init>", "(Ljava/lang/String;)V"⟩, .declares ⟨"java/lang/Throwable", "<init>", "(Ljava/lang/String;)V"⟩] := by decide +kernel
theorem xw_246 : XW "java/lang/IllegalStateException" 246 250 := ⟨by decide, by decide +kernel, wm 1088 (by decide +kernel) (by decide +kernel), wm 88 (by decide +kernel) (by decide +kernel), xg_250, xb_250, by decide +kernel⟩
section THROW
variable {G : GG} {I : MI} {Q : QQ} {pc : Nat} {L st : List Value} {M : Mm} {k n : Nat}
theorem Wd.end {s t : State} {H : Heap} (Y : Wd G M s H) (hal : s.vm.Alike t.vm) (h1 : H.size ≤ t.heap.size) (h2 : ∀ q : Nat, q < H.size → t.heap[q]? = H[q]?) : Wd G (sX M t.heap.size) t t.heap := by
  obtain ⟨⟨hz, L0, hL, hP, hD⟩, hK, hE⟩ := Y
  have he : ∀ b, ent (gy G) M b = ent (gy G) (sX M t.heap.size) b := fun b => ent_ext rfl rfl rfl rfl rfl rfl
  refine ⟨⟨rfl, L0, hL, ?_, ?_⟩, va_K.moved hal hK, (hE.kept h1 (fun q hq _ => h2 q hq)).moved hal⟩
  · rw [← va_pl_congr he]
    exact hP.kept (fun j q hj => h2 q.1 ((hP j q hj).lt))
  · rw [← va_pl_congr he]
    exact hD
theorem ww_throw {E text : String} {ik ic is : Nat} {p : Program} {e : Env} {s : State} {m : MethodId} {args : Array Value} {below : List Frame} {meth : Method} {c : Code} {H : Heap} {locs : List Loc} {ls : Array Slot} (hw : XW E ik ic) (ht : (is, text) ∈ xs_tab) (C : Cx G I p s m args meth c) (hc : (mY I).cls = RX8) : ∃ sa, vk_R RX8 is text sa s ∧ s.vm.findClass RX8 = some m.cls ∧ (gl G).stackTraces = false ∧ (Cond.classLink RX8 ik E).before args s = true ∧ (Cond.initialized E).before args s = true ∧ (∀ w ∈ vx_atS RX8 ic E xE, w.before args s = true) := by
  have hS := C.2.2.2.2.2.2.2.2.2.1
  have hts := C.2.2.2.2.1
  obtain ⟨h0, h1, h2, h3, h4, h5, h6⟩ := hw
  obtain ⟨sa, hsa⟩ := hS.2.2.1 _ ht
  refine ⟨sa, hsa, by rw [← hc]; exact C.2.2.2.2.2.1, hS.1, hts _ h2, hts _ h3, vx_hat (fun w hw => hts w (h4 w hw)) h5 ?_⟩
  intro w hw
  simp only [List.mem_cons, List.not_mem_nil, or_false] at hw
  rcases hw with rfl | rfl | rfl | rfl
  · exact va_Nw.use rfl (hS.2.2.2.2.2.2.2.2.1 _ h0)
  · exact va_Nw.use rfl (hS.2.2.2.2.2.2.2.2.2.2 _ (by simp [de_tab]))
  · exact va_Nw.use rfl (hS.2.2.2.2.2.2.2.2.2.2 _ (by simp [de_tab]))
  · exact va_Nw.use rfl (hS.2.2.2.2.2.2.2.2.2.2 _ (by simp [de_tab]))
theorem r_throwS {E text : String} {ik ic is : Nat} (hw : XW E ik ic) (ht : (is, text) ∈ xs_tab) (hc : (mY I).cls = RX8) (hh : (mH I).isEmpty = true) (d0 : decode (mB I) pc = .ok (.new ik, 3)) (d3 : decode (mB I) (pc + 3) = .ok (.dup, 1)) (d4 : decode (mB I) (pc + 4) = .ok (.ldc is, 2)) (d6 : decode (mB I) (pc + 6) = .ok (.invokespecial ic, 3)) (d9 : decode (mB I) (pc + 9) = .ok (.athrow, 1)) (hR : 5 < (mR I).frames ∧ (st.map fun v => v.category).sum + 82 ≤ (mR I).locals) (hf : k + 1 ≤ (mR I).cells ∧ n + 6 ≤ (mR I).slots) (h : ∀ z, Q.2 E (sX M z)) : WW G I Q pc L st M k n := by
  intro p e s m args below meth c H locs ls C Y S V
  obtain ⟨sa, x1, x2, x3, x4, x5, x6⟩ := ww_throw (ls := ls) (H := H) (locs := locs) (below := below) (e := e) hw ht C hc
  have hE := C.2.2.2.2.2.2.2.2.2.2
  exact vx_throwS C.1 C.2.1 x3 (names := xE) (A := gA G) x2 hw.2.1 (by decide) x4 x5 x1 x6 hw.2.2.2.2.2.2 hE.2.2.2.1 hE.2.2.2.2.1 S (V.1.trans C.2.2.2.1.symm) d0 d3 d4 d6 d9 (fun x hx => (C.tab hh x hx).elim) hR.1 hR.2 hf.1 hf.2 C.2.2.2.2.2.2.1 (fun t hal h1 h2 => ⟨⟨_, h _, Y.end hal h1 h2⟩, Nat.le_trans S.1 h1, fun q hq hA => (h2 q (Nat.lt_of_lt_of_le hq S.1)).trans (S.2.1 q hq hA)⟩) S.2.2 hf.1 hf.2
theorem r_throwSW {E text : String} {ik ic is : Nat} (hw : XW E ik ic) (ht : (is, text) ∈ xs_tab) (hc : (mY I).cls = RX8) (hh : (mH I).isEmpty = true) (d0 : decode (mB I) pc = .ok (.new ik, 3)) (d3 : decode (mB I) (pc + 3) = .ok (.dup, 1)) (d4 : decode (mB I) (pc + 4) = .ok (.ldc_w is, 3)) (d6 : decode (mB I) (pc + 7) = .ok (.invokespecial ic, 3)) (d9 : decode (mB I) (pc + 10) = .ok (.athrow, 1)) (hR : 5 < (mR I).frames ∧ (st.map fun v => v.category).sum + 82 ≤ (mR I).locals) (hf : k + 1 ≤ (mR I).cells ∧ n + 6 ≤ (mR I).slots) (h : ∀ z, Q.2 E (sX M z)) : WW G I Q pc L st M k n := by
  intro p e s m args below meth c H locs ls C Y S V
  obtain ⟨sa, x1, x2, x3, x4, x5, x6⟩ := ww_throw (ls := ls) (H := H) (locs := locs) (below := below) (e := e) hw ht C hc
  have hE := C.2.2.2.2.2.2.2.2.2.2
  exact vx_throwSW C.1 C.2.1 x3 (names := xE) (A := gA G) x2 hw.2.1 (by decide) x4 x5 x1 x6 hw.2.2.2.2.2.2 hE.2.2.2.1 hE.2.2.2.2.1 S (V.1.trans C.2.2.2.1.symm) d0 d3 d4 d6 d9 (fun x hx => (C.tab hh x hx).elim) hR.1 hR.2 hf.1 hf.2 C.2.2.2.2.2.2.1 (fun t hal h1 h2 => ⟨⟨_, h _, Y.end hal h1 h2⟩, Nat.le_trans S.1 h1, fun q hq hA => (h2 q (Nat.lt_of_lt_of_le hq S.1)).trans (S.2.1 q hq hA)⟩) S.2.2 hf.1 hf.2
end THROW
