/-! WHAT THE TABLES AND THE START SAY OF THE WORLD -/
/-- what is known of the start -/
def lw_K (l : Launch) (s : State) (b L : Nat) (xs : Nat → Int32) : Prop := ∃ G : GG, gl G = l ∧ gb G = s.heap.size ∧ gs G = (b, L, xs) ∧ St G s ∧ Ext G s s.heap ∧ Kw G s
/-- the Statement's own parts -/
abbrev lw_fl : List Cond := flatC (Jvm.Cond.and given_1 narrow_1)
theorem lw_aux {args : Array Value} {s : State} (hts : ∀ w ∈ lw_tbl, w.before args s = true) : va_AO RX1 s ∧ va_AO RX4 s ∧ va_AO RX5 s ∧ va_AO RX6 s ∧ (∀ q ∈ nw_tab, va_Nw (.methodLinkNest q.1 q.2.1 q.2.2 "PetitionBoard") s) ∧ (∀ q ∈ ex_tab, va_Nw (.castable q q) s) ∧ ∀ q ∈ de_tab, va_Nw (.declares q) s := by
  refine ⟨va_AO.of (A := args) (hts _ (by decide +kernel)), va_AO.of (A := args) (hts _ (by decide +kernel)), va_AO.of (A := args) (hts _ (by decide +kernel)), va_AO.of (A := args) (hts _ (by decide +kernel)), ?_, ?_, ?_⟩
  · have hm : ∀ q ∈ nw_tab, Cond.methodLinkNest q.1 q.2.1 q.2.2 "PetitionBoard" ∈ lw_tbl := by decide +kernel
    exact fun q hq => va_Nw.of rfl (hts _ (hm q hq))
  · have hm : ∀ q ∈ ex_tab, Cond.castable q q ∈ lw_tbl := by decide +kernel
    exact fun q hq => va_Nw.of rfl (hts _ (hm q hq))
  · have hm : ∀ q ∈ de_tab, Cond.declares q ∈ lw_tbl := by decide +kernel
    exact fun q hq => va_Nw.of rfl (hts _ (hm q hq))
theorem lw_nc {args : Array Value} {s : State} (hgv : (Jvm.Cond.and given_1 narrow_1).before args s = true) : ∀ q ∈ ex_tab, ∀ r ∈ ex_tab, q ≠ r → va_Nc q r s := by
  have hs := flat_of_before _ hgv
  intro q hq r hr hn
  simp only [ex_tab, List.mem_cons, List.not_mem_nil, or_false] at hq hr
  rcases hq with rfl | rfl | rfl | rfl | rfl | rfl <;> rcases hr with rfl | rfl | rfl | rfl | rfl | rfl <;> first | exact absurd rfl hn | exact va_Nc.of (hs _ (by decide +kernel))
theorem lw_zq {args : Array Value} {s : State} (hts : ∀ w ∈ lw_tbl, w.before args s = true) (hgv : (Jvm.Cond.and given_1 narrow_1).before args s = true) : vx_Zq Bundle.tN "UNASSIGNED_STACK" Bundle.steD (fun q => s.heap.size ≤ q) s s.heap ∧ vx_Zq Bundle.tN "SUPPRESSED_SENTINEL" Bundle.listD (fun q => s.heap.size ≤ q) s s.heap ∧ va_Zq "jdk/internal/util/Preconditions" "SIOOBE_FORMATTER" "Ljava/util/function/BiFunction;" (fun q => s.heap.size ≤ q) s s.heap := by
  have hs := flat_of_before _ hgv
  have hA : ∀ a : Nat, a < s.heap.size → ¬ (s.heap.size ≤ a) := fun a h => Nat.not_le.mpr h
  exact ⟨vx_Zqof (args := args) (hts _ (by decide +kernel)) (hts _ (by decide +kernel)) (hs _ (by decide +kernel)) hA, vx_Zqof (args := args) (hts _ (by decide +kernel)) (hts _ (by decide +kernel)) (hs _ (by decide +kernel)) hA, va_Zqof (args := args) (hts _ (by decide +kernel)) (hts _ (by decide +kernel)) (hs _ (by decide +kernel)) hA⟩
theorem lw_zc {args : Array Value} {s : State} (hts : ∀ w ∈ lw_tbl, w.before args s = true) (hgv : (Jvm.Cond.and given_1 narrow_1).before args s = true) : va_Z "java/lang/String" "COMPACT_STRINGS" "Z" (.int 1) (fun q => s.heap.size ≤ q) s s.heap := by
  have hs := flat_of_before _ hgv
  have hA : ∀ a : Nat, a < s.heap.size → ¬ (s.heap.size ≤ a) := fun a h => Nat.not_le.mpr h
  exact va_Zof (args := args) (hts _ (by decide +kernel)) (hts _ (by decide +kernel)) (va_eqi (hs _ (by decide +kernel))) hA
/-- the class and array ids -/
theorem lw_ai {args : Array Value} {s : State} (h : (Cond.arrayClass .int).before args s = true) : ∃ cA : ClassId, ArrOfT s cA .int ∧ va_RA s cA .int := by
  obtain ⟨cA, kA, comp, h1, h2, h3⟩ := Cond.arrayClass_spec h
  exact ⟨cA, fun n z => ⟨fun k h => (by cases h), kA, h2, comp, h3⟩, h1⟩
theorem lw_ac {args : Array Value} {s : State} (h : (Cond.arrayClass .char).before args s = true) : ∃ cA : ClassId, ArrOfT s cA .char ∧ va_RA s cA .char := by
  obtain ⟨cA, kA, comp, h1, h2, h3⟩ := Cond.arrayClass_spec h
  exact ⟨cA, fun n z => ⟨fun k h => (by cases h), kA, h2, comp, h3⟩, h1⟩
theorem lw_aj {args : Array Value} {s : State} (h : (Cond.arrayClass .long).before args s = true) : ∃ cA : ClassId, ArrOfT s cA .long ∧ va_RA s cA .long := by
  obtain ⟨cA, kA, comp, h1, h2, h3⟩ := Cond.arrayClass_spec h
  exact ⟨cA, fun n z => ⟨fun k h => (by cases h), kA, h2, comp, h3⟩, h1⟩
theorem lw_ad {args : Array Value} {s : State} (h : (Cond.arrayClass .double).before args s = true) : ∃ cA : ClassId, ArrOfT s cA .double ∧ va_RA s cA .double := by
  obtain ⟨cA, kA, comp, h1, h2, h3⟩ := Cond.arrayClass_spec h
  exact ⟨cA, fun n z => ⟨fun k h => (by cases h), kA, h2, comp, h3⟩, h1⟩
theorem lw_ao {C : String} {s : State} (h : va_AO C s) : ∃ cA : ClassId, ArrOfT s cA (.object C) ∧ va_RA s cA (.object C) := by
  obtain ⟨comp, cA, kA, f1, f2, f3, f4, f5⟩ := Cond.arrayOver_spec h
  exact ⟨cA, fun N z => ⟨(fun k h => by cases h), kA, f3, comp, f4⟩, kA, comp, f3, f4, f1, f5⟩
theorem lw_ar {args : Array Value} {s : State} (hts : ∀ w ∈ lwG, w.before args s = true) (h1 : va_AO RX1 s) (h4 : va_AO RX4 s) (h5 : va_AO RX5 s) (h6 : va_AO RX6 s) : ∃ cy : Nat → ClassId, ∀ (k : Nat) (q : ClassId × FieldType), (ac_tys cy)[k]? = some q → ArrOfT s q.1 q.2 ∧ va_RA s q.1 q.2 := by
  obtain ⟨c0, e0⟩ := lw_ai (hts _ w_arr_int)
  obtain ⟨c1, e1⟩ := lw_ac (hts _ w_arr_char)
  obtain ⟨c2, e2⟩ := lw_aj (hts _ w_arr_long)
  obtain ⟨c3, e3⟩ := lw_ad (hts _ w_arr_double)
  obtain ⟨c4, e4⟩ := lw_ao h1
  obtain ⟨c5, e5⟩ := lw_ao h4
  obtain ⟨c6, e6⟩ := lw_ao h5
  obtain ⟨c7, e7⟩ := lw_ao h6
  refine ⟨fun k => match k with
    | 0 => c0
    | 1 => c1
    | 2 => c2
    | 3 => c3
    | 4 => c4
    | 5 => c5
    | 6 => c6
    | _ => c7, fun k q hq => ?_⟩
  match k, hq with
  | 0, hq => cases hq; exact e0
  | 1, hq => cases hq; exact e1
  | 2, hq => cases hq; exact e2
  | 3, hq => cases hq; exact e3
  | 4, hq => cases hq; exact e4
  | 5, hq => cases hq; exact e5
  | 6, hq => cases hq; exact e6
  | 7, hq => cases hq; exact e7
  | k + 8, hq => simp [ac_tys] at hq
theorem lw_c1 {args : Array Value} {s : State} (hts : ∀ w ∈ lwG, w.before args s = true) {k : Nat} {C : String} {T : u_T} {N : Nat} (hk : ac_cls[k]? = some (C, T, N)) (hin : ∀ w ∈ u_ws C T N, w ∈ lwG) (hi : Cond.instantiable C N ∈ lwG) : ∃ d : ClassId × (Nat → Nat), ∀ q : vw_C, ac_cls[k]? = some q → u_Kn s q.1 q.2.1 q.2.2 d.1 d.2 := by
  obtain ⟨cC, iS, hK⟩ := u_known hts hin (hts _ hi)
  refine ⟨(cC, iS), fun q hq => ?_⟩
  cases hk.symm.trans hq
  exact hK
theorem lw_cl {args : Array Value} {s : State} (hts : ∀ w ∈ lwG, w.before args s = true) : ∃ D : va_G, ∀ (k : Nat) (q : vw_C), ac_cls[k]? = some q → u_Kn s q.1 q.2.1 q.2.2 (D.1 k) (D.2 k) := by
  have h : ∀ k : Nat, ∃ d : ClassId × (Nat → Nat), ∀ q : vw_C, ac_cls[k]? = some q → u_Kn s q.1 q.2.1 q.2.2 d.1 d.2 := fun k =>
    match k with
    | 0 => lw_c1 hts rfl lay_X1 w299
    | 1 => lw_c1 hts rfl lay_X2 w259
    | 2 => lw_c1 hts rfl lay_X3 w276
    | 3 => lw_c1 hts rfl lay_X4 w110
    | 4 => lw_c1 hts rfl lay_X5 w176
    | 5 => lw_c1 hts rfl lay_X6 w101
    | 6 => lw_c1 hts rfl lay_X7 w292
    | 7 => lw_c1 hts rfl lay_X8 w93
    | 8 => lw_c1 hts rfl lay_X9 w1340
    | k + 9 => ⟨(0, fun _ => 0), fun q hq => by simp [ac_cls] at hq⟩
  obtain ⟨d, hd⟩ := Classical.axiomOfChoice h
  exact ⟨(fun k => (d k).1, fun k => (d k).2), hd⟩
/-! the texts -/
/-- where a class's constant names text i -/
def tx_ad : List (String × Nat) := [(RX7, 70), (RX7, 72), (RX7, 74), (RX7, 76), (RX7, 78), (RX7, 80), (RX7, 82), (RX7, 84), (RX7, 86), (RX7, 88), (RX7, 90), (RX9, 188), (RX9, 197), (RX9, 199), (RX9, 201), (RX9, 203), (RX9, 205), (RX9, 207), (RX9, 209), (RX9, 211)]
def tx_tm (i : Nat) : Term := .string (tx_ad.getD i (RX7, 70)).1 (tx_ad.getD i (RX7, 70)).2
/-- where the start's words on it begin -/
def tx_at : List Nat := [527, 540, 553, 565, 581, 592, 602, 614, 626, 640, 650, 896, 905, 916, 926, 934, 941, 947, 955, 963]
def tx_ws (i : Nat) : List Cond := [Cond.exactly (tx_tm i) "java/lang/String", Cond.eq (.field (tx_tm i) "java/lang/String" "coder" "B") (.int 0), Cond.arrayOf (.field (tx_tm i) "java/lang/String" "value" "[B") .byte, Cond.eq (.length (.field (tx_tm i) "java/lang/String" "value" "[B")) (.int (Int32.ofNat (tx_len.getD i 0)))] ++ (List.range (tx_len.getD i 0)).map (fun j => Cond.eq (.elem (.field (tx_tm i) "java/lang/String" "value" "[B") (.int (Int32.ofNat j))) (.int ((tx_byt.getD i []).getD j 0)))
theorem tx_ok : ∀ i ∈ List.range 20, (lw_fl.drop (tx_at.getD i 0)).take (4 + tx_len.getD i 0) = tx_ws i := by decide +kernel
theorem tx_in {i : Nat} (hi : i < 20) : ∀ w ∈ tx_ws i, w ∈ lw_fl := fun w hw => by
  rw [← tx_ok i (List.mem_range.mpr hi)] at hw
  exact List.mem_of_mem_drop (List.mem_of_mem_take hw)
/-- what one text's cells hold -/
def tx_O (i a v : Nat) (s : State) : Prop := va_O "java/lang/String" a (fun q => s.heap.size ≤ q) s s.heap ∧ va_OF "java/lang/String" "coder" "B" (.int 0) a (fun q => s.heap.size ≤ q) s s.heap ∧ va_OF "java/lang/String" "value" "[B" (.ref v) a (fun q => s.heap.size ≤ q) s s.heap ∧ va_T .byte v (tx_len.getD i 0) (fun j => .int ((tx_byt.getD i []).getD j 0)) (fun q => s.heap.size ≤ q) s s.heap
theorem tx_small : ∀ i ∈ List.range 20, tx_len.getD i 0 < 2 ^ 31 := by decide +kernel
theorem tx_one {args : Array Value} {s : State} (hs : ∀ w ∈ lw_fl, w.before args s = true) {i : Nat} (hi : i < 20) : ∃ q : Nat × Nat, (tx_tm i).eval args s none [] s = some (.ref q.1) ∧ tx_O i q.1 q.2 s := by
  have hw : ∀ w ∈ tx_ws i, w.before args s = true := fun w h => hs w (tx_in hi w h)
  have hA : ∀ a : Nat, a < s.heap.size → ¬ (s.heap.size ≤ a) := fun a h => Nat.not_le.mpr h
  have z : ∀ {k : Nat}, k < 1 → k = 0 := fun h => by omega
  obtain ⟨aK, aV, h1, h2⟩ := vk_Sof (args := args) (s := s) (N := 1) (tm := fun _ => tx_tm i) (len := [tx_len.getD i 0]) (byt := [tx_byt.getD i []]) (A := fun q => s.heap.size ≤ q)
    (fun k hk => by rw [z hk]; exact tx_small i (List.mem_range.mpr hi)) (fun _ _ => hw _ (by simp [tx_ws])) (fun _ _ => hw _ (by simp [tx_ws])) (fun _ _ => hw _ (by simp [tx_ws])) (fun k hk => by rw [z hk]; exact hw _ (by simp [tx_ws]))
    (fun k hk j hj => by
      rw [z hk] at hj ⊢
      exact hw _ (List.mem_append_right _ (List.mem_map.mpr ⟨j, List.mem_range.mpr hj, rfl⟩)))
    (fun a c ha hc hn => absurd ((z ha).trans (z hc).symm) hn) hA
  exact ⟨(aK 0, aV 0), h2 0 (by omega), h1.1 0 (by omega)⟩
theorem tx_apart : ∀ i ∈ List.range 20, ∀ j ∈ List.range 20, i ≠ j → Int32.ofNat (tx_len.getD i 0) ≠ Int32.ofNat (tx_len.getD j 0) ∨ ∃ k ∈ List.range (tx_len.getD i 0), k < tx_len.getD j 0 ∧ (tx_byt.getD i []).getD k 0 ≠ (tx_byt.getD j []).getD k 0 := by decide +kernel
theorem tx_det {o n d : String} {v w : Nat} {a : Nat} {A : Nat → Prop} {s : State} {H : Heap} (h : va_OF o n d (.ref v) a A s H) (g : va_OF o n d (.ref w) a A s H) : v = w := by
  obtain ⟨cf, k, i, f, cell, h1, -, h3, -, h5, -⟩ := h
  obtain ⟨cf', k', i', f', cell', g1, -, g3, -, g5, -⟩ := g
  cases h1.symm.trans g1
  cases h3.symm.trans g3
  cases h5.symm.trans g5
  rfl
theorem tx_uni {i j a v w : Nat} {s : State} (hi : i < 20) (hj : j < 20) (h : tx_O i a v s) (g : tx_O j a w s) : i = j := by
  have e := tx_det h.2.2.1 g.2.2.1
  subst e
  obtain ⟨cell, h1, -, -, -, h5, h6, -⟩ := h.2.2.2
  obtain ⟨cell', g1, -, -, -, g5, g6, -⟩ := g.2.2.2
  cases h1.symm.trans g1
  by_cases hij : i = j
  · exact hij
  · rcases tx_apart i (List.mem_range.mpr hi) j (List.mem_range.mpr hj) hij with hl | ⟨k, hk, hk2, hne⟩
    · exact absurd (h5.symm.trans g5) hl
    · have e1 := h6 k (List.mem_range.mp hk)
      have e2 := g6 k hk2
      have e3 := Option.some.inj (e1.symm.trans e2)
      injection e3 with e4
      exact absurd e4 hne
theorem lw_tx {args : Array Value} {s : State} (hs : ∀ w ∈ lw_fl, w.before args s = true) : ∃ gk gv : Nat → Nat, vk_S 20 tx_len tx_byt gk gv (fun q => s.heap.size ≤ q) s s.heap ∧ ∀ i : Nat, i < 20 → (tx_tm i).eval args s none [] s = some (.ref (gk i)) := by
  have h : ∀ i : Nat, ∃ q : Nat × Nat, i < 20 → (tx_tm i).eval args s none [] s = some (.ref q.1) ∧ tx_O i q.1 q.2 s := by
    intro i
    by_cases hi : i < 20
    · obtain ⟨q, hq⟩ := tx_one hs hi
      exact ⟨q, fun _ => hq⟩
    · exact ⟨(0, 0), fun h => absurd h hi⟩
  obtain ⟨d, hd⟩ := Classical.axiomOfChoice h
  refine ⟨fun i => (d i).1, fun i => (d i).2, ⟨fun i hi => (hd i hi).2, fun i j hi hj e => ?_⟩, fun i hi => (hd i hi).1⟩
  have e : (d i).1 = (d j).1 := e
  have g := (hd j hj).2
  rw [← e] at g
  exact tx_uni hi hj (hd i hi).2 g
/-- two names of one object -/
theorem tx_same {args : Array Value} {s : State} {t u : Term} {a : Nat} (h : (Cond.eq t u).before args s = true) (ht : t.eval args s none [] s = some (.ref a)) : u.eval args s none [] s = some (.ref a) := by
  cases hu : u.eval args s none [] s with
  | none => simp [Cond.before, Cond.holds, Cond.value, ht, hu] at h
  | some w =>
    simp only [Cond.before, Cond.holds, Cond.value, ht, hu] at h
    cases w <;> simp_all
theorem tx_refs : ∀ q ∈ tx_tab, Cond.stringRef q.1 q.2.1 q.2.2.1 ∈ lw_tbl := by decide +kernel
theorem tx_names : ∀ q ∈ tx_tab, q.2.2.2 < 20 ∧ (tx_ad.getD q.2.2.2 (RX7, 70) = (q.1, q.2.1) ∨ (q.2.2.2 = 9 ∧ q.1 = RX9 ∧ q.2.1 = 213)) := by decide +kernel
theorem tx_two : Cond.eq (tx_tm 9) (.string RX9 213) ∈ lw_fl := by decide +kernel
theorem lw_tr {args : Array Value} {s : State} (hts : ∀ w ∈ lw_tbl, w.before args s = true) (hs : ∀ w ∈ lw_fl, w.before args s = true) {gk : Nat → Nat} (he : ∀ i : Nat, i < 20 → (tx_tm i).eval args s none [] s = some (.ref (gk i))) : ∀ q ∈ tx_tab, vk_R q.1 q.2.1 q.2.2.1 (gk q.2.2.2) s := by
  intro q hq
  obtain ⟨h1, h2⟩ := tx_names q hq
  refine vk_R.of (A := args) (hts _ (tx_refs q hq)) ?_
  rcases h2 with h2 | ⟨h3, h4, h5⟩
  · have h6 := he _ h1
    unfold tx_tm at h6
    rw [h2] at h6
    exact h6
  · have h6 := tx_same (hs _ tx_two) (he 9 (by omega))
    rw [h3, h4, h5]
    exact h6
theorem xs_refs : ∀ q ∈ xs_tab, Cond.stringRef RX8 q.1 q.2 ∈ lw_tbl := by decide +kernel
theorem xs_are : ∀ q ∈ xs_tab, Cond.exactly (.string RX8 q.1) "java/lang/String" ∈ lw_fl := by decide +kernel
theorem lw_xr {args : Array Value} {s : State} (hts : ∀ w ∈ lw_tbl, w.before args s = true) (hs : ∀ w ∈ lw_fl, w.before args s = true) : ∀ q ∈ xs_tab, ∃ a, vk_R RX8 q.1 q.2 a s := by
  intro q hq
  obtain ⟨a, c, cA, kA, q1, -⟩ := Cond.exactly_spec (args := args) (first := s) (o := none) (s := s) (idx := []) (t := .string RX8 q.1) (cls := "java/lang/String") (hs _ (xs_are q hq))
  exact ⟨a, vk_R.of (A := args) (hts _ (xs_refs q hq)) q1⟩
/-- all that is known -/
theorem lw_Gx {args : Array Value} {s : State} {l : Launch} (hflags : l.flags = flags0) {b L : Nat} {xs : Nat → Int32} (hts : ∀ w ∈ lw_tbl, w.before args s = true) (hX : va_X b L xs s s.heap) (hbl : b < s.heap.size) (hgv : (Jvm.Cond.and given_1 narrow_1).before args s = true) : lw_K l s b L xs := by
  have hs : ∀ w ∈ lw_fl, w.before args s = true := flat_of_before _ hgv
  have hw : ∀ w ∈ lwG, w.before args s = true := fun w h => hts w (List.mem_filter.mp h).1
  obtain ⟨a1, a4, a5, a6, n1, n2, n3⟩ := lw_aux hts
  obtain ⟨z1, z2, z3⟩ := lw_zq hts hgv
  obtain ⟨cy, hcy⟩ := lw_ar hw a1 a4 a5 a6
  obtain ⟨D, hD⟩ := lw_cl hw
  obtain ⟨tk, tv, ht, he⟩ := lw_tx hs
  refine ⟨(l, s.heap.size, D, cy, (b, L, xs), tk, tv), rfl, rfl, rfl, ⟨?_, lw_tr hts hs he, lw_xr hts hs, a1, a4, a5, a6, n1, n2, lw_nc hgv, n3⟩, ⟨Nat.le_refl _, hbl, hX, z1, z2, ht, lw_zc hts hgv, z3⟩, hD, hcy⟩
  show l.stackTraces = false
  unfold Launch.stackTraces
  rw [hflags]
  decide +kernel
