/-! MEMORY: what the program's own cells hold, by address: kind (0 none; 1 + the place in ac_cls; 20 int[], 21 char[], 22 long[], 23 double[], 30.. rows of references), length, ints, references, longs, doubles, and the heap's size -/
abbrev Mm : Type := (Nat → Nat) × (Nat → Nat) × (Nat → Nat → Int32) × (Nat → Nat → Option Nat) × (Nat → Nat → Int64) × (Nat → Nat → UInt64) × Nat
def kd (M : Mm) : Nat → Nat := M.1
def ln (M : Mm) : Nat → Nat := M.2.1
def mi (M : Mm) : Nat → Nat → Int32 := M.2.2.1
def mr (M : Mm) : Nat → Nat → Option Nat := M.2.2.2.1
def mj (M : Mm) : Nat → Nat → Int64 := M.2.2.2.2.1
def md (M : Mm) : Nat → Nat → UInt64 := M.2.2.2.2.2.1
def nx (M : Mm) : Nat := M.2.2.2.2.2.2
def u2 {α : Type} (f : Nat → Nat → α) (a j : Nat) (v : α) : Nat → Nat → α := va_up f a (va_up (f a) j v)
theorem u2_s {α : Type} (f : Nat → Nat → α) (a j : Nat) (v : α) : u2 f a j v a = va_up (f a) j v := va_up_self _ _ _
theorem u2_n {α : Type} (f : Nat → Nat → α) {a b : Nat} (j : Nat) (v : α) (h : b ≠ a) : u2 f a j v b = f b := va_up_ne _ _ h
def sI (M : Mm) (a j : Nat) (v : Int32) : Mm := (kd M, ln M, u2 (mi M) a j v, mr M, mj M, md M, nx M)
def sR (M : Mm) (a j : Nat) (v : Option Nat) : Mm := (kd M, ln M, mi M, u2 (mr M) a j v, mj M, md M, nx M)
def sJ (M : Mm) (a j : Nat) (v : Int64) : Mm := (kd M, ln M, mi M, mr M, u2 (mj M) a j v, md M, nx M)
def sD (M : Mm) (a j : Nat) (v : UInt64) : Mm := (kd M, ln M, mi M, mr M, mj M, u2 (md M) a j v, nx M)
/-- a new thing at the heap's end: of kind k, length n, all zero -/
def sN (M : Mm) (k n : Nat) : Mm := (va_up (kd M) (nx M) k, va_up (ln M) (nx M) n, va_up (mi M) (nx M) (fun _ => 0), va_up (mr M) (nx M) (fun _ => none), va_up (mj M) (nx M) (fun _ => 0), va_up (md M) (nx M) (fun _ => 0), nx M + 1)
/-- the heap's end alone moves -/
def sX (M : Mm) (n : Nat) : Mm := (kd M, ln M, mi M, mr M, mj M, md M, n)
theorem kd_sI (M : Mm) (a j : Nat) (v : Int32) : kd (sI M a j v) = kd M := rfl
theorem ln_sI (M : Mm) (a j : Nat) (v : Int32) : ln (sI M a j v) = ln M := rfl
theorem mi_sI (M : Mm) (a j : Nat) (v : Int32) : mi (sI M a j v) = u2 (mi M) a j v := rfl
theorem mr_sI (M : Mm) (a j : Nat) (v : Int32) : mr (sI M a j v) = mr M := rfl
theorem mj_sI (M : Mm) (a j : Nat) (v : Int32) : mj (sI M a j v) = mj M := rfl
theorem md_sI (M : Mm) (a j : Nat) (v : Int32) : md (sI M a j v) = md M := rfl
theorem nx_sI (M : Mm) (a j : Nat) (v : Int32) : nx (sI M a j v) = nx M := rfl
theorem kd_sR (M : Mm) (a j : Nat) (v : Option Nat) : kd (sR M a j v) = kd M := rfl
theorem ln_sR (M : Mm) (a j : Nat) (v : Option Nat) : ln (sR M a j v) = ln M := rfl
theorem mi_sR (M : Mm) (a j : Nat) (v : Option Nat) : mi (sR M a j v) = mi M := rfl
theorem mr_sR (M : Mm) (a j : Nat) (v : Option Nat) : mr (sR M a j v) = u2 (mr M) a j v := rfl
theorem mj_sR (M : Mm) (a j : Nat) (v : Option Nat) : mj (sR M a j v) = mj M := rfl
theorem md_sR (M : Mm) (a j : Nat) (v : Option Nat) : md (sR M a j v) = md M := rfl
theorem nx_sR (M : Mm) (a j : Nat) (v : Option Nat) : nx (sR M a j v) = nx M := rfl
theorem kd_sX (M : Mm) (n : Nat) : kd (sX M n) = kd M := rfl
theorem ln_sX (M : Mm) (n : Nat) : ln (sX M n) = ln M := rfl
theorem mi_sX (M : Mm) (n : Nat) : mi (sX M n) = mi M := rfl
theorem mr_sX (M : Mm) (n : Nat) : mr (sX M n) = mr M := rfl
theorem mj_sX (M : Mm) (n : Nat) : mj (sX M n) = mj M := rfl
theorem md_sX (M : Mm) (n : Nat) : md (sX M n) = md M := rfl
theorem nx_sX (M : Mm) (n : Nat) : nx (sX M n) = n := rfl
/-- the classes whose objects the memory holds -/
abbrev ac_cls : List vw_C := [(RX1, TX1, 6), (RX2, TX2, 2), (RX3, TX3, 2), (RX4, TX4, 12), (RX5, TX5, 7), (RX6, TX6, 14), (RX7, TX7, 3), (RX8, TX8, 15), (RX9, TX9, 22)]
def fTy : Nat → Nat → FieldType := fun ci => match ci with
  | 0 => tyX1
  | 1 => tyX2
  | 2 => tyX3
  | 3 => tyX4
  | 4 => tyX5
  | 5 => tyX6
  | 6 => tyX7
  | 7 => tyX8
  | 8 => tyX9
  | _ => fun _ => .int
def nF : Nat → Nat := fun ci => match ci with
  | 0 => 6
  | 1 => 2
  | 2 => 2
  | 3 => 12
  | 4 => 7
  | 5 => 14
  | 6 => 3
  | 7 => 15
  | 8 => 22
  | _ => 0
def refT : FieldType → Bool := fun t => match t with
  | .object _ => true
  | .array _ => true
  | _ => false
theorem ac_ok {ci N : Nat} {C : String} {T : u_T} (h : ac_cls[ci]? = some (C, T, N)) : (∀ k, k < N → parseFieldDescriptor (T k).2.2.1 = some (fTy ci k)) ∧ (∀ a, a < N → ∀ b, b < N → a ≠ b → (T a).2.1 ≠ (T b).2.1) ∧ N = nF ci ∧ ci < 9 := by
  match ci, h with
  | 0, h => cases h; exact ⟨tyX1_ok, nmX1, rfl, by decide⟩
  | 1, h => cases h; exact ⟨tyX2_ok, nmX2, rfl, by decide⟩
  | 2, h => cases h; exact ⟨tyX3_ok, nmX3, rfl, by decide⟩
  | 3, h => cases h; exact ⟨tyX4_ok, nmX4, rfl, by decide⟩
  | 4, h => cases h; exact ⟨tyX5_ok, nmX5, rfl, by decide⟩
  | 5, h => cases h; exact ⟨tyX6_ok, nmX6, rfl, by decide⟩
  | 6, h => cases h; exact ⟨tyX7_ok, nmX7, rfl, by decide⟩
  | 7, h => cases h; exact ⟨tyX8_ok, nmX8, rfl, by decide⟩
  | 8, h => cases h; exact ⟨tyX9_ok, nmX9, rfl, by decide⟩
  | n + 9, h => simp at h
def flds (ci : Nat) (M : Mm) (a : Nat) : List Value := (List.range (nF ci)).map fun j => if refT (fTy ci j) = true then va_rf (mr M a j) else .int (mi M a j)
def ent (cy : Nat → ClassId) (M : Mm) (a : Nat) : va_E :=
  if kd M a = 20 then .inl (cy 0, (ln M a, .inl (mi M a)))
  else if kd M a = 21 then .inl (cy 1, (ln M a, .inl (mi M a)))
  else if kd M a = 22 then .inl (cy 2, (ln M a, .inr (.inl (mj M a))))
  else if kd M a = 23 then .inl (cy 3, (ln M a, .inr (.inr (.inr (.inl (md M a))))))
  else if 30 ≤ kd M a then .inl (cy (kd M a - 26), (ln M a, .inr (.inr (.inr (.inr (mr M a))))))
  else .inr (kd M a - 1, flds (kd M a - 1) M a)
theorem ent_o {cy : Nat → ClassId} {M : Mm} {a ci : Nat} (h : kd M a = ci + 1) (hc : ci < 9) : ent cy M a = .inr (ci, flds ci M a) := by
  unfold ent
  rw [if_neg (by omega), if_neg (by omega), if_neg (by omega), if_neg (by omega), if_neg (by omega), h]
  rfl
theorem ent_i {cy : Nat → ClassId} {M : Mm} {a : Nat} (h : kd M a = 20) : ent cy M a = .inl (cy 0, (ln M a, .inl (mi M a))) := by
  unfold ent
  rw [if_pos h]
theorem ent_c {cy : Nat → ClassId} {M : Mm} {a : Nat} (h : kd M a = 21) : ent cy M a = .inl (cy 1, (ln M a, .inl (mi M a))) := by
  unfold ent
  rw [if_neg (by omega), if_pos h]
theorem ent_j {cy : Nat → ClassId} {M : Mm} {a : Nat} (h : kd M a = 22) : ent cy M a = .inl (cy 2, (ln M a, .inr (.inl (mj M a)))) := by
  unfold ent
  rw [if_neg (by omega), if_neg (by omega), if_pos h]
theorem ent_d {cy : Nat → ClassId} {M : Mm} {a : Nat} (h : kd M a = 23) : ent cy M a = .inl (cy 3, (ln M a, .inr (.inr (.inr (.inl (md M a)))))) := by
  unfold ent
  rw [if_neg (by omega), if_neg (by omega), if_neg (by omega), if_pos h]
theorem ent_q {cy : Nat → ClassId} {M : Mm} {a t : Nat} (h : kd M a = 30 + t) : ent cy M a = .inl (cy (4 + t), (ln M a, .inr (.inr (.inr (.inr (mr M a)))))) := by
  unfold ent
  rw [if_neg (by omega), if_neg (by omega), if_neg (by omega), if_neg (by omega), if_pos (by omega), h, show 30 + t - 26 = 4 + t by omega]
theorem flds_ext {ci : Nat} {M M' : Mm} {a : Nat} (hi : mi M a = mi M' a) (hr : mr M a = mr M' a) : flds ci M a = flds ci M' a := by
  unfold flds
  rw [hi, hr]
theorem ent_ext {cy : Nat → ClassId} {M M' : Mm} {a : Nat} (hk : kd M a = kd M' a) (hl : ln M a = ln M' a) (hi : mi M a = mi M' a) (hr : mr M a = mr M' a) (hj : mj M a = mj M' a) (hd : md M a = md M' a) : ent cy M a = ent cy M' a := by
  unfold ent
  rw [hk, hl, hi, hr, hj, hd, flds_ext hi hr]
theorem flds_len (ci : Nat) (M : Mm) (a : Nat) : (flds ci M a).length = nF ci := by simp [flds]
theorem flds_i {ci j : Nat} {M : Mm} {a : Nat} (hj : j < nF ci) (ht : refT (fTy ci j) = false) : (flds ci M a)[j]? = some (.int (mi M a j)) := by
  simp [flds, hj, ht]
theorem flds_r {ci j : Nat} {M : Mm} {a : Nat} (hj : j < nF ci) (ht : refT (fTy ci j) = true) : (flds ci M a)[j]? = some (va_rf (mr M a j)) := by
  simp [flds, hj, ht]
theorem flds_si {ci j : Nat} {M : Mm} {a : Nat} {v : Int32} (hj : j < nF ci) (ht : refT (fTy ci j) = false) : (flds ci M a).set j (.int v) = flds ci (sI M a j v) a := by
  apply List.ext_getElem?
  intro k
  by_cases hk : k = j
  · subst hk
    rw [List.getElem?_set_self (by rw [flds_len]; exact hj), flds_i hj ht, mi_sI, u2_s, va_up_self]
  · rw [List.getElem?_set_ne (Ne.symm hk)]
    by_cases hn : k < nF ci
    · cases hr : refT (fTy ci k) with
      | false => rw [flds_i hn hr, flds_i hn hr, mi_sI, u2_s, va_up_ne _ _ hk]
      | true => rw [flds_r hn hr, flds_r hn hr, mr_sI]
    · rw [List.getElem?_eq_none (by rw [flds_len]; omega), List.getElem?_eq_none (by rw [flds_len]; omega)]
theorem flds_sr {ci j : Nat} {M : Mm} {a : Nat} {v : Option Nat} (hj : j < nF ci) (ht : refT (fTy ci j) = true) : (flds ci M a).set j (va_rf v) = flds ci (sR M a j v) a := by
  apply List.ext_getElem?
  intro k
  by_cases hk : k = j
  · subst hk
    rw [List.getElem?_set_self (by rw [flds_len]; exact hj), flds_r hj ht, mr_sR, u2_s, va_up_self]
  · rw [List.getElem?_set_ne (Ne.symm hk)]
    by_cases hn : k < nF ci
    · cases hr : refT (fTy ci k) with
      | false => rw [flds_i hn hr, flds_i hn hr, mi_sR]
      | true => rw [flds_r hn hr, flds_r hn hr, mr_sR, u2_s, va_up_ne _ _ hk]
    · rw [List.getElem?_eq_none (by rw [flds_len]; omega), List.getElem?_eq_none (by rw [flds_len]; omega)]
/-- the memory's picture behind a write -/
theorem ent_up {cy : Nat → ClassId} {M M' : Mm} {a : Nat} {e : va_E} (h : ent cy M' a = e) (ho : ∀ b, b ≠ a → kd M b = kd M' b ∧ ln M b = ln M' b ∧ mi M b = mi M' b ∧ mr M b = mr M' b ∧ mj M b = mj M' b ∧ md M b = md M' b) : ∀ b, va_up (ent cy M) a e b = ent cy M' b := by
  intro b
  by_cases hb : b = a
  · subst hb
    rw [va_up_self, h]
  · rw [va_up_ne _ _ hb]
    obtain ⟨h1, h2, h3, h4, h5, h6⟩ := ho b hb
    exact ent_ext h1 h2 h3 h4 h5 h6
theorem up_sI {M : Mm} {a j : Nat} {v : Int32} : ∀ b, b ≠ a → kd M b = kd (sI M a j v) b ∧ ln M b = ln (sI M a j v) b ∧ mi M b = mi (sI M a j v) b ∧ mr M b = mr (sI M a j v) b ∧ mj M b = mj (sI M a j v) b ∧ md M b = md (sI M a j v) b :=
  fun b hb => ⟨rfl, rfl, (u2_n _ _ _ hb).symm, rfl, rfl, rfl⟩
theorem up_sR {M : Mm} {a j : Nat} {v : Option Nat} : ∀ b, b ≠ a → kd M b = kd (sR M a j v) b ∧ ln M b = ln (sR M a j v) b ∧ mi M b = mi (sR M a j v) b ∧ mr M b = mr (sR M a j v) b ∧ mj M b = mj (sR M a j v) b ∧ md M b = md (sR M a j v) b :=
  fun b hb => ⟨rfl, rfl, rfl, (u2_n _ _ _ hb).symm, rfl, rfl⟩
theorem up_sJ {M : Mm} {a j : Nat} {v : Int64} : ∀ b, b ≠ a → kd M b = kd (sJ M a j v) b ∧ ln M b = ln (sJ M a j v) b ∧ mi M b = mi (sJ M a j v) b ∧ mr M b = mr (sJ M a j v) b ∧ mj M b = mj (sJ M a j v) b ∧ md M b = md (sJ M a j v) b :=
  fun b hb => ⟨rfl, rfl, rfl, rfl, (u2_n _ _ _ hb).symm, rfl⟩
theorem up_sD {M : Mm} {a j : Nat} {v : UInt64} : ∀ b, b ≠ a → kd M b = kd (sD M a j v) b ∧ ln M b = ln (sD M a j v) b ∧ mi M b = mi (sD M a j v) b ∧ mr M b = mr (sD M a j v) b ∧ mj M b = mj (sD M a j v) b ∧ md M b = md (sD M a j v) b :=
  fun b hb => ⟨rfl, rfl, rfl, rfl, rfl, (u2_n _ _ _ hb).symm⟩
theorem up_sN {M : Mm} {k n : Nat} : ∀ b, b ≠ nx M → kd M b = kd (sN M k n) b ∧ ln M b = ln (sN M k n) b ∧ mi M b = mi (sN M k n) b ∧ mr M b = mr (sN M k n) b ∧ mj M b = mj (sN M k n) b ∧ md M b = md (sN M k n) b :=
  fun b hb => ⟨(va_up_ne _ _ hb).symm, (va_up_ne _ _ hb).symm, (va_up_ne _ _ hb).symm, (va_up_ne _ _ hb).symm, (va_up_ne _ _ hb).symm, (va_up_ne _ _ hb).symm⟩
/-- the environment: launch, the heap's size at the law's start, class numbers and slots, array classes, the script (cell, length, ints), the texts' addresses -/
abbrev GG : Type := Launch × Nat × va_G × (Nat → ClassId) × (Nat × Nat × (Nat → Int32)) × (Nat → Nat) × (Nat → Nat)
abbrev gl (G : GG) : Launch := G.1
abbrev gb (G : GG) : Nat := G.2.1
abbrev gD (G : GG) : va_G := G.2.2.1
abbrev gy (G : GG) : Nat → ClassId := G.2.2.2.1
abbrev gs (G : GG) : Nat × Nat × (Nat → Int32) := G.2.2.2.2.1
abbrev gk (G : GG) : Nat → Nat := G.2.2.2.2.2.1
abbrev gv (G : GG) : Nat → Nat := G.2.2.2.2.2.2
def gA (G : GG) : Nat → Prop := fun q => gb G ≤ q
abbrev ac_tys (cy : Nat → ClassId) : List (ClassId × FieldType) := [(cy 0, .int), (cy 1, .char), (cy 2, .long), (cy 3, .double), (cy 4, .object RX1), (cy 5, .object RX4), (cy 6, .object RX5), (cy 7, .object RX6)]
