/-! ROWS OF WW, an instruction each -/
section ROWS
variable {G : GG} {I : MI} {Q : QQ} {pc : Nat} {L st : List Value} {M : Mm} {k n : Nat}
theorem r_iconst {i : Int} {v : Int32} (hd : decode (mB I) pc = .ok (.iconst i, 1)) (hv : Int32.ofInt i = v) (h : WW G I Q (pc + 1) L (.int v :: st) M k n) : WW G I Q pc L (st) M k n := by
  intro p e s m args below meth c H locs ls C Y S V
  exact lv_iconst C.1 C.2.1 hd hv (h p e s m args below meth c H locs ls C Y S V)
theorem r_bipush {i : Int} {v : Int32} (hd : decode (mB I) pc = .ok (.bipush i, 2)) (hv : (Int8.ofInt i).toInt32 = v) (h : WW G I Q (pc + 2) L (.int v :: st) M k n) : WW G I Q pc L (st) M k n := by
  intro p e s m args below meth c H locs ls C Y S V
  exact lv_bipush C.1 C.2.1 hd hv (h p e s m args below meth c H locs ls C Y S V)
theorem r_sipush {i : Int} {v : Int32} (hd : decode (mB I) pc = .ok (.sipush i, 3)) (hv : (Int16.ofInt i).toInt32 = v) (h : WW G I Q (pc + 3) L (.int v :: st) M k n) : WW G I Q pc L (st) M k n := by
  intro p e s m args below meth c H locs ls C Y S V
  exact lv_sipush C.1 C.2.1 hd hv (h p e s m args below meth c H locs ls C Y S V)
theorem r_lconst {i : Fin 2} {v : Int64} (hd : decode (mB I) pc = .ok (.lconst i, 1)) (hv : Int64.ofNat (i : Nat) = v) (h : WW G I Q (pc + 1) L (.long v :: st) M k n) : WW G I Q pc L (st) M k n := by
  intro p e s m args below meth c H locs ls C Y S V
  exact lv_lconst C.1 C.2.1 hd hv (h p e s m args below meth c H locs ls C Y S V)
theorem r_null (hd : decode (mB I) pc = .ok (.aconst_null, 1)) (h : WW G I Q (pc + 1) L (.null :: st) M k n) : WW G I Q pc L (st) M k n := by
  intro p e s m args below meth c H locs ls C Y S V
  exact lv_null C.1 C.2.1 hd  (h p e s m args below meth c H locs ls C Y S V)
theorem r_dconst0 (hd : decode (mB I) pc = .ok (.dconst 0, 1)) (h : WW G I Q (pc + 1) L (.double FP.dconst0 :: st) M k n) : WW G I Q pc L (st) M k n := by
  intro p e s m args below meth c H locs ls C Y S V
  exact lv_dconst0 C.1 C.2.1 hd  (h p e s m args below meth c H locs ls C Y S V)
theorem r_fconst0 (hd : decode (mB I) pc = .ok (.fconst 0, 1)) (h : WW G I Q (pc + 1) L (.float FP.fconst0 :: st) M k n) : WW G I Q pc L (st) M k n := by
  intro p e s m args below meth c H locs ls C Y S V
  exact lv_fconst0 C.1 C.2.1 hd  (h p e s m args below meth c H locs ls C Y S V)
theorem r_iload_n {i : Fin 4} {x : Int32} (hd : decode (mB I) pc = .ok (.iload_n i, 1)) (hl : L[(i : Nat)]? = some (.int x)) (h : WW G I Q (pc + 1) L (.int x :: st) M k n) : WW G I Q pc L (st) M k n := by
  intro p e s m args below meth c H locs ls C Y S V
  exact lv_iload_n C.1 C.2.1 hd rfl (lz_at V hl (fun _ h => by cases h)) (h p e s m args below meth c H locs ls C Y S V)
theorem r_iload {i : Nat} {x : Int32} (hd : decode (mB I) pc = .ok (.iload i, 2)) (hl : L[i]? = some (.int x)) (h : WW G I Q (pc + 2) L (.int x :: st) M k n) : WW G I Q pc L (st) M k n := by
  intro p e s m args below meth c H locs ls C Y S V
  exact lv_iload C.1 C.2.1 hd (lz_at V hl (fun _ h => by cases h)) (h p e s m args below meth c H locs ls C Y S V)
theorem r_aload_n {i : Fin 4} {x : Nat} (hd : decode (mB I) pc = .ok (.aload_n i, 1)) (hl : L[(i : Nat)]? = some (.ref x)) (h : WW G I Q (pc + 1) L (.ref x :: st) M k n) : WW G I Q pc L (st) M k n := by
  intro p e s m args below meth c H locs ls C Y S V
  exact lv_aload_n C.1 C.2.1 hd rfl (lz_at V hl (fun _ h => by cases h)) (h p e s m args below meth c H locs ls C Y S V)
theorem r_aload {i : Nat} {x : Nat} (hd : decode (mB I) pc = .ok (.aload i, 2)) (hl : L[i]? = some (.ref x)) (h : WW G I Q (pc + 2) L (.ref x :: st) M k n) : WW G I Q pc L (st) M k n := by
  intro p e s m args below meth c H locs ls C Y S V
  exact lv_aload C.1 C.2.1 hd (lz_at V hl (fun _ h => by cases h)) (h p e s m args below meth c H locs ls C Y S V)
theorem r_dload_n {i : Fin 4} {x : UInt64} (hd : decode (mB I) pc = .ok (.dload_n i, 1)) (hl : L[(i : Nat)]? = some (.double x)) (h : WW G I Q (pc + 1) L (.double x :: st) M k n) : WW G I Q pc L (st) M k n := by
  intro p e s m args below meth c H locs ls C Y S V
  exact lv_dload_n C.1 C.2.1 hd rfl (lz_at V hl (fun _ h => by cases h)) (h p e s m args below meth c H locs ls C Y S V)
theorem r_dload {i : Nat} {x : UInt64} (hd : decode (mB I) pc = .ok (.dload i, 2)) (hl : L[i]? = some (.double x)) (h : WW G I Q (pc + 2) L (.double x :: st) M k n) : WW G I Q pc L (st) M k n := by
  intro p e s m args below meth c H locs ls C Y S V
  exact lv_dload C.1 C.2.1 hd (lz_at V hl (fun _ h => by cases h)) (h p e s m args below meth c H locs ls C Y S V)
theorem r_fload_n {i : Fin 4} {x : UInt32} (hd : decode (mB I) pc = .ok (.fload_n i, 1)) (hl : L[(i : Nat)]? = some (.float x)) (h : WW G I Q (pc + 1) L (.float x :: st) M k n) : WW G I Q pc L (st) M k n := by
  intro p e s m args below meth c H locs ls C Y S V
  exact lv_fload_n C.1 C.2.1 hd rfl (lz_at V hl (fun _ h => by cases h)) (h p e s m args below meth c H locs ls C Y S V)
theorem r_fload {i : Nat} {x : UInt32} (hd : decode (mB I) pc = .ok (.fload i, 2)) (hl : L[i]? = some (.float x)) (h : WW G I Q (pc + 2) L (.float x :: st) M k n) : WW G I Q pc L (st) M k n := by
  intro p e s m args below meth c H locs ls C Y S V
  exact lv_fload C.1 C.2.1 hd (lz_at V hl (fun _ h => by cases h)) (h p e s m args below meth c H locs ls C Y S V)
theorem r_aload_nN {i : Fin 4} (hd : decode (mB I) pc = .ok (.aload_n i, 1)) (hl : L[(i : Nat)]? = some .null) (h : WW G I Q (pc + 1) L (.null :: st) M k n) : WW G I Q pc L (st) M k n := by
  intro p e s m args below meth c H locs ls C Y S V
  exact lv_aload_nN C.1 C.2.1 hd rfl (lz_at V hl (fun _ h => by cases h)) (h p e s m args below meth c H locs ls C Y S V)
theorem r_aloadN {i : Nat} (hd : decode (mB I) pc = .ok (.aload i, 2)) (hl : L[i]? = some .null) (h : WW G I Q (pc + 2) L (.null :: st) M k n) : WW G I Q pc L (st) M k n := by
  intro p e s m args below meth c H locs ls C Y S V
  exact lv_aloadN C.1 C.2.1 hd (lz_at V hl (fun _ h => by cases h)) (h p e s m args below meth c H locs ls C Y S V)
theorem r_istore_n {i : Fin 4} {j : Nat} {x : Int32} (hd : decode (mB I) pc = .ok (.istore_n i, 1)) (hj : (i : Nat) = j) (hi : j < mL I) (ho : okc L j = true) (h : WW G I Q (pc + 1) (L.set j (.int x)) st M k n) : WW G I Q pc L (.int x :: st) M k n := by
  subst hj
  intro p e s m args below meth c H locs ls C Y S V
  exact lv_istore_n C.1 C.2.1 hd rfl V hi rfl (fun ls' hl' => h p e s m args below meth c H locs ls' C Y S (lz_st ho hl'))
theorem r_istore {i : Nat} {x : Int32} (hd : decode (mB I) pc = .ok (.istore i, 2)) (hi : i < mL I) (ho : okc L i = true) (h : WW G I Q (pc + 2) (L.set i (.int x)) st M k n) : WW G I Q pc L (.int x :: st) M k n := by
  intro p e s m args below meth c H locs ls C Y S V
  exact lv_istore C.1 C.2.1 hd V hi rfl (fun ls' hl' => h p e s m args below meth c H locs ls' C Y S (lz_st ho hl'))
theorem r_astore_n {i : Fin 4} {j : Nat} {x : Nat} (hd : decode (mB I) pc = .ok (.astore_n i, 1)) (hj : (i : Nat) = j) (hi : j < mL I) (ho : okc L j = true) (h : WW G I Q (pc + 1) (L.set j (.ref x)) st M k n) : WW G I Q pc L (.ref x :: st) M k n := by
  subst hj
  intro p e s m args below meth c H locs ls C Y S V
  exact lv_astore_n C.1 C.2.1 hd rfl V hi rfl (fun ls' hl' => h p e s m args below meth c H locs ls' C Y S (lz_st ho hl'))
theorem r_astore {i : Nat} {x : Nat} (hd : decode (mB I) pc = .ok (.astore i, 2)) (hi : i < mL I) (ho : okc L i = true) (h : WW G I Q (pc + 2) (L.set i (.ref x)) st M k n) : WW G I Q pc L (.ref x :: st) M k n := by
  intro p e s m args below meth c H locs ls C Y S V
  exact lv_astore C.1 C.2.1 hd V hi rfl (fun ls' hl' => h p e s m args below meth c H locs ls' C Y S (lz_st ho hl'))
theorem r_astore_nN {i : Fin 4} {j : Nat} (hd : decode (mB I) pc = .ok (.astore_n i, 1)) (hj : (i : Nat) = j) (hi : j < mL I) (ho : okc L j = true) (h : WW G I Q (pc + 1) (L.set j (.null)) st M k n) : WW G I Q pc L (.null :: st) M k n := by
  subst hj
  intro p e s m args below meth c H locs ls C Y S V
  exact lv_astore_nN C.1 C.2.1 hd rfl V hi rfl (fun ls' hl' => h p e s m args below meth c H locs ls' C Y S (lz_st ho hl'))
theorem r_astoreN {i : Nat} (hd : decode (mB I) pc = .ok (.astore i, 2)) (hi : i < mL I) (ho : okc L i = true) (h : WW G I Q (pc + 2) (L.set i (.null)) st M k n) : WW G I Q pc L (.null :: st) M k n := by
  intro p e s m args below meth c H locs ls C Y S V
  exact lv_astoreN C.1 C.2.1 hd V hi rfl (fun ls' hl' => h p e s m args below meth c H locs ls' C Y S (lz_st ho hl'))
theorem r_fstore_n {i : Fin 4} {j : Nat} {x : UInt32} (hd : decode (mB I) pc = .ok (.fstore_n i, 1)) (hj : (i : Nat) = j) (hi : j < mL I) (ho : okc L j = true) (h : WW G I Q (pc + 1) (L.set j (.float x)) st M k n) : WW G I Q pc L (.float x :: st) M k n := by
  subst hj
  intro p e s m args below meth c H locs ls C Y S V
  exact lv_fstore_n C.1 C.2.1 hd rfl V hi rfl (fun ls' hl' => h p e s m args below meth c H locs ls' C Y S (lz_st ho hl'))
theorem r_fstore {i : Nat} {x : UInt32} (hd : decode (mB I) pc = .ok (.fstore i, 2)) (hi : i < mL I) (ho : okc L i = true) (h : WW G I Q (pc + 2) (L.set i (.float x)) st M k n) : WW G I Q pc L (.float x :: st) M k n := by
  intro p e s m args below meth c H locs ls C Y S V
  exact lv_fstore C.1 C.2.1 hd V hi rfl (fun ls' hl' => h p e s m args below meth c H locs ls' C Y S (lz_st ho hl'))
theorem r_iinc {i : Nat} {d : Int} {x v : Int32} (hd : decode (mB I) pc = .ok (.iinc i d, 3)) (hi : i < mL I) (hl : L[i]? = some (.int x)) (hv : x + Int32.ofInt d = v) (ho : okc L i = true) (h : WW G I Q (pc + 3) (L.set i (.int v)) st M k n) : WW G I Q pc L st M k n := by
  intro p e s m args below meth c H locs ls C Y S V
  have hm := lz_mem L 0 i _ hl (fun _ h => by cases h)
  rw [Nat.zero_add] at hm
  obtain ⟨j, hj⟩ := List.getElem?_of_mem hm
  exact lv_iinc C.1 C.2.1 hd V hj hv hi rfl (fun ls' hl' => h p e s m args below meth c H locs ls' C Y S (lz_st ho hl'))
theorem r_iadd {x y : Int32} (hd : decode (mB I) pc = .ok (.iadd, 1)) (h : WW G I Q (pc + 1) L (.int (x + y) :: st) M k n) : WW G I Q pc L (.int y :: .int x :: st) M k n := by
  intro p e s m args below meth c H locs ls C Y S V
  exact lv_iadd C.1 C.2.1 hd  (h p e s m args below meth c H locs ls C Y S V)
theorem r_isub {x y : Int32} (hd : decode (mB I) pc = .ok (.isub, 1)) (h : WW G I Q (pc + 1) L (.int (x - y) :: st) M k n) : WW G I Q pc L (.int y :: .int x :: st) M k n := by
  intro p e s m args below meth c H locs ls C Y S V
  exact lv_isub C.1 C.2.1 hd  (h p e s m args below meth c H locs ls C Y S V)
theorem r_imul {x y : Int32} (hd : decode (mB I) pc = .ok (.imul, 1)) (h : WW G I Q (pc + 1) L (.int (x * y) :: st) M k n) : WW G I Q pc L (.int y :: .int x :: st) M k n := by
  intro p e s m args below meth c H locs ls C Y S V
  exact lv_imul C.1 C.2.1 hd  (h p e s m args below meth c H locs ls C Y S V)
theorem r_iand {x y : Int32} (hd : decode (mB I) pc = .ok (.iand, 1)) (h : WW G I Q (pc + 1) L (.int (x &&& y) :: st) M k n) : WW G I Q pc L (.int y :: .int x :: st) M k n := by
  intro p e s m args below meth c H locs ls C Y S V
  exact lv_iand C.1 C.2.1 hd  (h p e s m args below meth c H locs ls C Y S V)
theorem r_ior {x y : Int32} (hd : decode (mB I) pc = .ok (.ior, 1)) (h : WW G I Q (pc + 1) L (.int (x ||| y) :: st) M k n) : WW G I Q pc L (.int y :: .int x :: st) M k n := by
  intro p e s m args below meth c H locs ls C Y S V
  exact lv_ior C.1 C.2.1 hd  (h p e s m args below meth c H locs ls C Y S V)
theorem r_ixor {x y : Int32} (hd : decode (mB I) pc = .ok (.ixor, 1)) (h : WW G I Q (pc + 1) L (.int (x ^^^ y) :: st) M k n) : WW G I Q pc L (.int y :: .int x :: st) M k n := by
  intro p e s m args below meth c H locs ls C Y S V
  exact lv_ixor C.1 C.2.1 hd  (h p e s m args below meth c H locs ls C Y S V)
theorem r_ishl {x y : Int32} (hd : decode (mB I) pc = .ok (.ishl, 1)) (h : WW G I Q (pc + 1) L (.int (x <<< (y &&& 31)) :: st) M k n) : WW G I Q pc L (.int y :: .int x :: st) M k n := by
  intro p e s m args below meth c H locs ls C Y S V
  exact lv_ishl C.1 C.2.1 hd  (h p e s m args below meth c H locs ls C Y S V)
theorem r_ishr {x y : Int32} (hd : decode (mB I) pc = .ok (.ishr, 1)) (h : WW G I Q (pc + 1) L (.int (x >>> (y &&& 31)) :: st) M k n) : WW G I Q pc L (.int y :: .int x :: st) M k n := by
  intro p e s m args below meth c H locs ls C Y S V
  exact lv_ishr C.1 C.2.1 hd  (h p e s m args below meth c H locs ls C Y S V)
theorem r_idiv {x y : Int32} (hd : decode (mB I) pc = .ok (.idiv, 1)) (hne : ¬ y = 0) (h : WW G I Q (pc + 1) L (.int (x / y) :: st) M k n) : WW G I Q pc L (.int y :: .int x :: st) M k n := by
  intro p e s m args below meth c H locs ls C Y S V
  exact lv_idiv C.1 C.2.1 hd hne (h p e s m args below meth c H locs ls C Y S V)
theorem r_irem {x y : Int32} (hd : decode (mB I) pc = .ok (.irem, 1)) (hne : ¬ y = 0) (h : WW G I Q (pc + 1) L (.int (x - x / y * y) :: st) M k n) : WW G I Q pc L (.int y :: .int x :: st) M k n := by
  intro p e s m args below meth c H locs ls C Y S V
  exact lv_irem C.1 C.2.1 hd hne (h p e s m args below meth c H locs ls C Y S V)
theorem r_ineg {x : Int32} (hd : decode (mB I) pc = .ok (.ineg, 1)) (h : WW G I Q (pc + 1) L (.int (-x) :: st) M k n) : WW G I Q pc L (.int x :: st) M k n := by
  intro p e s m args below meth c H locs ls C Y S V
  exact lv_ineg C.1 C.2.1 hd  (h p e s m args below meth c H locs ls C Y S V)
theorem r_i2l {x : Int32} (hd : decode (mB I) pc = .ok (.i2l, 1)) (h : WW G I Q (pc + 1) L (.long x.toInt64 :: st) M k n) : WW G I Q pc L (.int x :: st) M k n := by
  intro p e s m args below meth c H locs ls C Y S V
  exact lv_i2l C.1 C.2.1 hd rfl (h p e s m args below meth c H locs ls C Y S V)
theorem r_i2c {x : Int32} (hd : decode (mB I) pc = .ok (.i2c, 1)) (h : WW G I Q (pc + 1) L (.int (x.toUInt32 % 65536).toInt32 :: st) M k n) : WW G I Q pc L (.int x :: st) M k n := by
  intro p e s m args below meth c H locs ls C Y S V
  exact lv_i2c C.1 C.2.1 hd rfl (h p e s m args below meth c H locs ls C Y S V)
theorem r_i2d {x : Int32} (hd : decode (mB I) pc = .ok (.i2d, 1)) (h : WW G I Q (pc + 1) L (.double (FP.i2d x) :: st) M k n) : WW G I Q pc L (.int x :: st) M k n := by
  intro p e s m args below meth c H locs ls C Y S V
  exact lv_i2d C.1 C.2.1 hd  (h p e s m args below meth c H locs ls C Y S V)
theorem r_i2f {x : Int32} (hd : decode (mB I) pc = .ok (.i2f, 1)) (h : WW G I Q (pc + 1) L (.float (FP.i2f x) :: st) M k n) : WW G I Q pc L (.int x :: st) M k n := by
  intro p e s m args below meth c H locs ls C Y S V
  exact lv_i2f C.1 C.2.1 hd  (h p e s m args below meth c H locs ls C Y S V)
theorem r_f2d {x : UInt32} (hd : decode (mB I) pc = .ok (.f2d, 1)) (hne : vf_n64 (FP.f2d x)) (h : WW G I Q (pc + 1) L (.double (FP.f2d x) :: st) M k n) : WW G I Q pc L (.float x :: st) M k n := by
  intro p e s m args below meth c H locs ls C Y S V
  exact lv_f2d C.1 C.2.1 hd hne (h p e s m args below meth c H locs ls C Y S V)
theorem r_ddiv {x y : UInt64} (hd : decode (mB I) pc = .ok (.ddiv, 1)) (hne : vf_n64 (FP.ddiv x y)) (h : WW G I Q (pc + 1) L (.double (FP.ddiv x y) :: st) M k n) : WW G I Q pc L (.double y :: .double x :: st) M k n := by
  intro p e s m args below meth c H locs ls C Y S V
  exact lv_ddiv C.1 C.2.1 hd hne (h p e s m args below meth c H locs ls C Y S V)
theorem r_fdiv {x y : UInt32} (hd : decode (mB I) pc = .ok (.fdiv, 1)) (hne : vf_n32 (FP.fdiv x y)) (h : WW G I Q (pc + 1) L (.float (FP.fdiv x y) :: st) M k n) : WW G I Q pc L (.float y :: .float x :: st) M k n := by
  intro p e s m args below meth c H locs ls C Y S V
  exact lv_fdiv C.1 C.2.1 hd hne (h p e s m args below meth c H locs ls C Y S V)
theorem r_lcmp {x y : Int64} (hd : decode (mB I) pc = .ok (.lcmp, 1)) (h : WW G I Q (pc + 1) L (.int (lg_cmp x y) :: st) M k n) : WW G I Q pc L (.long y :: .long x :: st) M k n := by
  intro p e s m args below meth c H locs ls C Y S V
  exact W.lcmp C.1 C.2.1 hd  (h p e s m args below meth c H locs ls C Y S V)
theorem r_dcmp {x y : UInt64} {op : CmpOp} (hd : decode (mB I) pc = .ok (.dcmp op, 1)) (h : WW G I Q (pc + 1) L (.int (Op.cmpValue (FP.dcmp x y) op) :: st) M k n) : WW G I Q pc L (.double y :: .double x :: st) M k n := by
  intro p e s m args below meth c H locs ls C Y S V
  exact lv_dcmp C.1 C.2.1 hd  (h p e s m args below meth c H locs ls C Y S V)
theorem r_fcmp {x y : UInt32} {op : CmpOp} (hd : decode (mB I) pc = .ok (.fcmp op, 1)) (h : WW G I Q (pc + 1) L (.int (Op.cmpValue (FP.fcmp x y) op) :: st) M k n) : WW G I Q pc L (.float y :: .float x :: st) M k n := by
  intro p e s m args below meth c H locs ls C Y S V
  exact lv_fcmp C.1 C.2.1 hd  (h p e s m args below meth c H locs ls C Y S V)
theorem r_dup {v : Value} (hd : decode (mB I) pc = .ok (.dup, 1)) (hv : v.category = 1) (h : WW G I Q (pc + 1) L (v :: v :: st) M k n) : WW G I Q pc L (v :: st) M k n := by
  intro p e s m args below meth c H locs ls C Y S V
  exact lv_dup C.1 C.2.1 hd hv (h p e s m args below meth c H locs ls C Y S V)
theorem r_pop {v : Value} (hd : decode (mB I) pc = .ok (.pop, 1)) (hv : v.category = 1) (h : WW G I Q (pc + 1) L (st) M k n) : WW G I Q pc L (v :: st) M k n := by
  intro p e s m args below meth c H locs ls C Y S V
  exact lv_pop C.1 C.2.1 hd hv (h p e s m args below meth c H locs ls C Y S V)
theorem r_dup2 {v u : Value} (hd : decode (mB I) pc = .ok (.dup2, 1)) (hv : v.category = 1) (hu : u.category = 1) (h : WW G I Q (pc + 1) L (v :: u :: v :: u :: st) M k n) : WW G I Q pc L (v :: u :: st) M k n := by
  intro p e s m args below meth c H locs ls C Y S V
  exact lv_dup2_11 C.1 C.2.1 hd hv hu (h p e s m args below meth c H locs ls C Y S V)
theorem r_if_eq {x : Int32} {off : Int} {tgt : Nat} (hd : decode (mB I) pc = .ok (.ifCond .eq off, 3)) (ht : (pc : Int) + off = (tgt : Int)) (h1 : x = 0 → WW G I Q tgt L st M k n) (h2 : ¬ (x = 0) → WW G I Q (pc + 3) L st M k n) : WW G I Q pc L (.int x :: st) M k n := by
  intro p e s m args below meth c H locs ls C Y S V
  exact lv_if_eq C.1 C.2.1 hd ht (fun z => h1 z p e s m args below meth c H locs ls C Y S V) (fun z => h2 z p e s m args below meth c H locs ls C Y S V)
theorem r_if_ne {x : Int32} {off : Int} {tgt : Nat} (hd : decode (mB I) pc = .ok (.ifCond .ne off, 3)) (ht : (pc : Int) + off = (tgt : Int)) (h1 : x ≠ 0 → WW G I Q tgt L st M k n) (h2 : ¬ (x ≠ 0) → WW G I Q (pc + 3) L st M k n) : WW G I Q pc L (.int x :: st) M k n := by
  intro p e s m args below meth c H locs ls C Y S V
  exact lv_if_ne C.1 C.2.1 hd ht (fun z => h1 z p e s m args below meth c H locs ls C Y S V) (fun z => h2 (fun y => y z) p e s m args below meth c H locs ls C Y S V)
theorem r_if_lt {x : Int32} {off : Int} {tgt : Nat} (hd : decode (mB I) pc = .ok (.ifCond .lt off, 3)) (ht : (pc : Int) + off = (tgt : Int)) (h1 : x < 0 → WW G I Q tgt L st M k n) (h2 : ¬ (x < 0) → WW G I Q (pc + 3) L st M k n) : WW G I Q pc L (.int x :: st) M k n := by
  intro p e s m args below meth c H locs ls C Y S V
  exact lv_if_lt C.1 C.2.1 hd ht (fun z => h1 z p e s m args below meth c H locs ls C Y S V) (fun z => h2 z p e s m args below meth c H locs ls C Y S V)
theorem r_if_ge {x : Int32} {off : Int} {tgt : Nat} (hd : decode (mB I) pc = .ok (.ifCond .ge off, 3)) (ht : (pc : Int) + off = (tgt : Int)) (h1 : 0 ≤ x → WW G I Q tgt L st M k n) (h2 : ¬ (0 ≤ x) → WW G I Q (pc + 3) L st M k n) : WW G I Q pc L (.int x :: st) M k n := by
  intro p e s m args below meth c H locs ls C Y S V
  exact lv_if_ge C.1 C.2.1 hd ht (fun z => h1 z p e s m args below meth c H locs ls C Y S V) (fun z => h2 z p e s m args below meth c H locs ls C Y S V)
theorem r_if_gt {x : Int32} {off : Int} {tgt : Nat} (hd : decode (mB I) pc = .ok (.ifCond .gt off, 3)) (ht : (pc : Int) + off = (tgt : Int)) (h1 : 0 < x → WW G I Q tgt L st M k n) (h2 : ¬ (0 < x) → WW G I Q (pc + 3) L st M k n) : WW G I Q pc L (.int x :: st) M k n := by
  intro p e s m args below meth c H locs ls C Y S V
  exact lv_if_gt C.1 C.2.1 hd ht (fun z => h1 z p e s m args below meth c H locs ls C Y S V) (fun z => h2 z p e s m args below meth c H locs ls C Y S V)
theorem r_if_le {x : Int32} {off : Int} {tgt : Nat} (hd : decode (mB I) pc = .ok (.ifCond .le off, 3)) (ht : (pc : Int) + off = (tgt : Int)) (h1 : x ≤ 0 → WW G I Q tgt L st M k n) (h2 : ¬ (x ≤ 0) → WW G I Q (pc + 3) L st M k n) : WW G I Q pc L (.int x :: st) M k n := by
  intro p e s m args below meth c H locs ls C Y S V
  exact lv_if_le C.1 C.2.1 hd ht (fun z => h1 z p e s m args below meth c H locs ls C Y S V) (fun z => h2 z p e s m args below meth c H locs ls C Y S V)
theorem r_icmp_eq {x y : Int32} {off : Int} {tgt : Nat} (hd : decode (mB I) pc = .ok (.if_icmp .eq off, 3)) (ht : (pc : Int) + off = (tgt : Int)) (h1 : x = y → WW G I Q tgt L st M k n) (h2 : ¬ (x = y) → WW G I Q (pc + 3) L st M k n) : WW G I Q pc L (.int y :: .int x :: st) M k n := by
  intro p e s m args below meth c H locs ls C Y S V
  exact lv_icmp_eq C.1 C.2.1 hd ht (fun z => h1 z p e s m args below meth c H locs ls C Y S V) (fun z => h2 z p e s m args below meth c H locs ls C Y S V)
theorem r_icmp_ne {x y : Int32} {off : Int} {tgt : Nat} (hd : decode (mB I) pc = .ok (.if_icmp .ne off, 3)) (ht : (pc : Int) + off = (tgt : Int)) (h1 : x ≠ y → WW G I Q tgt L st M k n) (h2 : ¬ (x ≠ y) → WW G I Q (pc + 3) L st M k n) : WW G I Q pc L (.int y :: .int x :: st) M k n := by
  intro p e s m args below meth c H locs ls C Y S V
  exact lv_icmp_ne C.1 C.2.1 hd ht (fun z => h1 z p e s m args below meth c H locs ls C Y S V) (fun z => h2 (fun y => y z) p e s m args below meth c H locs ls C Y S V)
theorem r_icmp_lt {x y : Int32} {off : Int} {tgt : Nat} (hd : decode (mB I) pc = .ok (.if_icmp .lt off, 3)) (ht : (pc : Int) + off = (tgt : Int)) (h1 : x < y → WW G I Q tgt L st M k n) (h2 : ¬ (x < y) → WW G I Q (pc + 3) L st M k n) : WW G I Q pc L (.int y :: .int x :: st) M k n := by
  intro p e s m args below meth c H locs ls C Y S V
  exact lv_icmp_lt C.1 C.2.1 hd ht (fun z => h1 z p e s m args below meth c H locs ls C Y S V) (fun z => h2 z p e s m args below meth c H locs ls C Y S V)
theorem r_icmp_ge {x y : Int32} {off : Int} {tgt : Nat} (hd : decode (mB I) pc = .ok (.if_icmp .ge off, 3)) (ht : (pc : Int) + off = (tgt : Int)) (h1 : y ≤ x → WW G I Q tgt L st M k n) (h2 : ¬ (y ≤ x) → WW G I Q (pc + 3) L st M k n) : WW G I Q pc L (.int y :: .int x :: st) M k n := by
  intro p e s m args below meth c H locs ls C Y S V
  exact lv_icmp_ge C.1 C.2.1 hd ht (fun z => h1 z p e s m args below meth c H locs ls C Y S V) (fun z => h2 z p e s m args below meth c H locs ls C Y S V)
theorem r_icmp_gt {x y : Int32} {off : Int} {tgt : Nat} (hd : decode (mB I) pc = .ok (.if_icmp .gt off, 3)) (ht : (pc : Int) + off = (tgt : Int)) (h1 : y < x → WW G I Q tgt L st M k n) (h2 : ¬ (y < x) → WW G I Q (pc + 3) L st M k n) : WW G I Q pc L (.int y :: .int x :: st) M k n := by
  intro p e s m args below meth c H locs ls C Y S V
  exact lv_icmp_gt C.1 C.2.1 hd ht (fun z => h1 z p e s m args below meth c H locs ls C Y S V) (fun z => h2 z p e s m args below meth c H locs ls C Y S V)
theorem r_icmp_le {x y : Int32} {off : Int} {tgt : Nat} (hd : decode (mB I) pc = .ok (.if_icmp .le off, 3)) (ht : (pc : Int) + off = (tgt : Int)) (h1 : x ≤ y → WW G I Q tgt L st M k n) (h2 : ¬ (x ≤ y) → WW G I Q (pc + 3) L st M k n) : WW G I Q pc L (.int y :: .int x :: st) M k n := by
  intro p e s m args below meth c H locs ls C Y S V
  exact lv_icmp_le C.1 C.2.1 hd ht (fun z => h1 z p e s m args below meth c H locs ls C Y S V) (fun z => h2 z p e s m args below meth c H locs ls C Y S V)
theorem r_goto {off : Int} {tgt : Nat} (hd : decode (mB I) pc = .ok (.goto off, 3)) (ht : (pc : Int) + off = (tgt : Int)) (h : WW G I Q tgt L st M k n) : WW G I Q pc L st M k n := by
  intro p e s m args below meth c H locs ls C Y S V
  exact lv_goto C.1 C.2.1 hd ht (h p e s m args below meth c H locs ls C Y S V)
theorem r_ifnull {x : Nat} {off : Int} (hd : decode (mB I) pc = .ok (.ifnull off, 3)) (h : WW G I Q (pc + 3) L st M k n) : WW G I Q pc L (.ref x :: st) M k n := by
  intro p e s m args below meth c H locs ls C Y S V
  exact lv_ifnull C.1 C.2.1 hd (h p e s m args below meth c H locs ls C Y S V)
theorem r_ifnullN {off : Int} {tgt : Nat} (hd : decode (mB I) pc = .ok (.ifnull off, 3)) (ht : (pc : Int) + off = (tgt : Int)) (h : WW G I Q tgt L st M k n) : WW G I Q pc L (.null :: st) M k n := by
  intro p e s m args below meth c H locs ls C Y S V
  exact lv_ifnullN C.1 C.2.1 hd ht (h p e s m args below meth c H locs ls C Y S V)
theorem r_ifnonnull {x : Nat} {off : Int} {tgt : Nat} (hd : decode (mB I) pc = .ok (.ifnonnull off, 3)) (ht : (pc : Int) + off = (tgt : Int)) (h : WW G I Q tgt L st M k n) : WW G I Q pc L (.ref x :: st) M k n := by
  intro p e s m args below meth c H locs ls C Y S V
  exact lv_ifnonnull C.1 C.2.1 hd ht (h p e s m args below meth c H locs ls C Y S V)
theorem r_ifnonnullN {off : Int} (hd : decode (mB I) pc = .ok (.ifnonnull off, 3)) (h : WW G I Q (pc + 3) L st M k n) : WW G I Q pc L (.null :: st) M k n := by
  intro p e s m args below meth c H locs ls C Y S V
  exact lv_ifnonnullN C.1 C.2.1 hd (h p e s m args below meth c H locs ls C Y S V)
theorem r_acmp_eq {x y : Nat} {off : Int} {tgt : Nat} (hd : decode (mB I) pc = .ok (.if_acmp .eq off, 3)) (ht : (pc : Int) + off = (tgt : Int)) (h1 : x = y → WW G I Q tgt L st M k n) (h2 : ¬ x = y → WW G I Q (pc + 3) L st M k n) : WW G I Q pc L (.ref y :: .ref x :: st) M k n := by
  intro p e s m args below meth c H locs ls C Y S V
  exact lv_acmp_eq (rx := some x) (ry := some y) C.1 C.2.1 hd ht (fun z => h1 (Option.some.inj z) p e s m args below meth c H locs ls C Y S V) (fun z => h2 (fun q => z (congrArg some q)) p e s m args below meth c H locs ls C Y S V)
theorem r_switchIn {d lo hi : Int} {offs : Array Int} {len : Nat} {x : Int32} {off : Int} {tgt : Nat} (hd : decode (mB I) pc = .ok (.tableswitch d lo hi offs, len)) (h1 : ¬ x.toInt < lo) (h2 : ¬ hi < x.toInt) (ho : offs[(x.toInt - lo).toNat]? = some off) (ht : (pc : Int) + off = (tgt : Int)) (h : WW G I Q tgt L st M k n) : WW G I Q pc L (.int x :: st) M k n := by
  intro p e s m args below meth c H locs ls C Y S V
  exact lv_tableIn C.1 C.2.1 hd h1 h2 ho ht (h p e s m args below meth c H locs ls C Y S V)
theorem r_switchOut {d lo hi : Int} {offs : Array Int} {len : Nat} {x : Int32} {tgt : Nat} (hd : decode (mB I) pc = .ok (.tableswitch d lo hi offs, len)) (h1 : x.toInt < lo ∨ hi < x.toInt) (ht : (pc : Int) + d = (tgt : Int)) (h : WW G I Q tgt L st M k n) : WW G I Q pc L (.int x :: st) M k n := by
  intro p e s m args below meth c H locs ls C Y S V
  exact lv_tableOut C.1 C.2.1 hd h1 ht (h p e s m args below meth c H locs ls C Y S V)
/-! fields -/
/-- where a class's pool names a field: the class's own name, place, the object's class, the field's place -/
def FA (own : String) (idx ci j : Nat) : Prop := ∃ (C : String) (T : u_T) (N : Nat) (ref : String), ac_cls[ci]? = some (C, T, N) ∧ j < N ∧ (∀ w ∈ u_ws C T N, w ∈ lwG) ∧ Cond.fieldLink own idx ref (T j).2.1 (T j).2.2.1 ∈ lwG ∧ (ref = (T j).1 ∨ Cond.sameField ref (T j).1 (T j).2.1 (T j).2.2.1 ∈ lwG)
def finF (ci j : Nat) : Bool := match ac_cls[ci]? with
  | some q => (q.2.1 j).2.2.2
  | none => false
theorem FA_same {args : Array Value} {s : State} {a b d ref : String} (hts : ∀ w ∈ lwG, w.before args s = true) (h : ref = a ∨ Cond.sameField ref a b d ∈ lwG) : ∀ x, s.fieldFound? a b d = some x → s.fieldFound? ref b d = some x := by
  rcases h with rfl | h
  · exact fun _ h => h
  · exact fun x ho => u_same (hts _ h) x ho
theorem Pm.one {M : Mm} {H : Heap} (h : Pm G M H) {a : Nat} (ha : kd M a ≠ 0) {e : va_E} (he : ent (gy G) M a = e) : va_P (gD G) ac_cls [(a, e)] H := by
  obtain ⟨hz, L0, hL, hP, hD⟩ := h
  obtain ⟨k0, hk0⟩ := va_pl_get (X := []) (f := ent (gy G) M) (hL a ha)
  intro j q hj
  have hz : j < 1 := (List.getElem?_eq_some_iff.mp hj).1
  rw [show j = 0 by omega] at hj
  cases hj
  rw [← he]
  exact hP k0 _ hk0
/-- the memory behind one write -/
theorem Pm.up {M M' : Mm} {H H1 : Heap} {a : Nat} {e : va_E} (h : Pm G M H) (ha : kd M a ≠ 0) (hz : H1.size = H.size) (hn : nx M' = nx M) (hk : kd M' = kd M) (he : ent (gy G) M' a = e) (ho : ∀ b, b ≠ a → kd M b = kd M' b ∧ ln M b = ln M' b ∧ mi M b = mi M' b ∧ mr M b = mr M' b ∧ mj M b = mj M' b ∧ md M b = md M' b) (hat : va_at (gD G) ac_cls (a, e) H1) (oq : ∀ q, q ≠ a → H1[q]? = H[q]?) : Pm G M' H1 := by
  obtain ⟨hz0, L0, hL, hP, hD⟩ := h
  obtain ⟨k0, hk0⟩ := va_pl_get (X := []) (f := ent (gy G) M) (hL a ha)
  have h1 := va_P.set hP hD hk0 hat oq
  have h2 := va_D.set (e := e) hD hk0
  have h3 := va_pl_set (X := []) (e := e) hD (hL a ha) hk0
  have h4 := va_pl_congr (L := L0) (ent_up he ho)
  have h5 : (va_pl L0 (ent (gy G) M)).set k0 (a, e) = va_pl L0 (ent (gy G) M') := Eq.trans h3 h4
  rw [h5] at h1 h2
  exact ⟨hz.trans (hz0.trans hn.symm), L0, fun b hb => hL b (by rw [← hk]; exact hb), h1, h2⟩
theorem Wd.up {M M' : Mm} {s : State} {H H1 : Heap} {a : Nat} {e : va_E} (h : Wd G M s H) (ha : kd M a ≠ 0) (hz : H1.size = H.size) (hn : nx M' = nx M) (hk : kd M' = kd M) (he : ent (gy G) M' a = e) (ho : ∀ b, b ≠ a → kd M b = kd M' b ∧ ln M b = ln M' b ∧ mi M b = mi M' b ∧ mr M b = mr M' b ∧ mj M b = mj M' b ∧ md M b = md M' b) (hat : va_at (gD G) ac_cls (a, e) H1) (oq : ∀ q, q ≠ a → H1[q]? = H[q]?) : Wd G M' s H1 := by
  have hg := h.1.ge ha
  exact ⟨h.1.up ha hz hn hk he ho hat oq, h.2.1, h.2.2.kept (by rw [hz]; exact Nat.le_refl _) (fun q _ hq => oq q (fun z => hq (by rw [z]; exact hg)))⟩
theorem r_geti {idx ci j a : Nat} (hd : decode (mB I) pc = .ok (.getfield idx, 3)) (hf : FA (mY I).cls idx ci j) (hk : kd M a = ci + 1) (ht : refT (fTy ci j) = false) (h : WW G I Q (pc + 3) L (.int (mi M a j) :: st) M k n) : WW G I Q pc L (.ref a :: st) M k n := by
  intro p e s m args below meth c H locs ls C Y S V
  obtain ⟨Cn, T, N, ref, h1, h2, h3, h4, h5⟩ := hf
  obtain ⟨-, -, hN, hci⟩ := ac_ok h1
  exact va_get (ws := [(a, .inr (ci, flds ci M a))]) C.1 C.2.1 C.2.2.2.2.1 h3 C.2.2.2.2.2.1 Y.2.1 (Y.1.one (by omega) (ent_o hk hci)) 0 rfl h1 j h2 (C.2.2.2.2.1 _ h4) (FA_same C.2.2.2.2.1 h5) (flds_i (hN ▸ h2) ht) hd (h p e s m args below meth c H locs ls C Y S V)
theorem r_getr {idx ci j a : Nat} {b : Option Nat} (hd : decode (mB I) pc = .ok (.getfield idx, 3)) (hf : FA (mY I).cls idx ci j) (hk : kd M a = ci + 1) (ht : refT (fTy ci j) = true) (hb : mr M a j = b) (h : WW G I Q (pc + 3) L (va_rf b :: st) M k n) : WW G I Q pc L (.ref a :: st) M k n := by
  subst hb
  intro p e s m args below meth c H locs ls C Y S V
  obtain ⟨Cn, T, N, ref, h1, h2, h3, h4, h5⟩ := hf
  obtain ⟨-, -, hN, hci⟩ := ac_ok h1
  exact va_get (ws := [(a, .inr (ci, flds ci M a))]) C.1 C.2.1 C.2.2.2.2.1 h3 C.2.2.2.2.2.1 Y.2.1 (Y.1.one (by omega) (ent_o hk hci)) 0 rfl h1 j h2 (C.2.2.2.2.1 _ h4) (FA_same C.2.2.2.2.1 h5) (flds_r (hN ▸ h2) ht) hd (h p e s m args below meth c H locs ls C Y S V)
theorem ww_put {idx ci j a : Nat} {v : Value} {M' : Mm} (hd : decode (mB I) pc = .ok (.putfield idx, 3)) (hf : FA (mY I).cls idx ci j) (hk : kd M a = ci + 1) (hfin : finF ci j = false) (hn : narrow (fTy ci j) v = v) (hft : fits (fTy ci j) v = true) (hl : j < nF ci → (flds ci M a).set j v = flds ci M' a) (e1 : nx M' = nx M) (e2 : kd M' = kd M) (ho : ∀ b, b ≠ a → kd M b = kd M' b ∧ ln M b = ln M' b ∧ mi M b = mi M' b ∧ mr M b = mr M' b ∧ mj M b = mj M' b ∧ md M b = md M' b) (h : WW G I Q (pc + 3) L st M' k n) : WW G I Q pc L (v :: .ref a :: st) M k n := by
  intro p e s m args below meth c H locs ls C Y S V
  obtain ⟨Cn, T, N, ref, h1, h2, h3, h4, h5⟩ := hf
  obtain ⟨hty, hnm, hN, hci⟩ := ac_ok h1
  have hts := C.2.2.2.2.1
  have hown := C.2.2.2.2.2.1
  have hK := Y.2.1
  have hP := Y.1.one (G := G) (by omega) (ent_o (cy := gy G) hk hci)
  have hl2 : j < (flds ci M a).length := by rw [flds_len]; exact hN ▸ h2
  have hf2 : (T j).2.2.2 = false := by
    have h := hfin
    unfold finF at h
    rw [h1] at h
    exact h
  have hap := va_apart (own := (mY I).cls) hts h3 (fTy ci) hty hnm hK h1
  obtain ⟨r, g1, cell, q1, q2, q3, q4⟩ := hP 0 _ rfl
  have hr : r = (Cn, T, N) := Option.some.inj (g1.symm.trans h1)
  subst hr
  obtain ⟨hS, hfc, kC, hkC, hkind⟩ := hK.1 ci _ h1
  obtain ⟨cf, kf, fi, f, hi, hsl⟩ := hS j h2
  have hlay := hts _ (h3 _ (u_in_lay h2))
  unfold u_lay at hlay
  rw [if_neg (by rw [hf2]; decide)] at hlay
  have hst := (u_facts hfc hkC (u_lays hts h3 h2) hi).1
  have h6 := u_store hfc hkC hkind hlay hi (hty j h2) hn hft
  refine W.putK C.1 C.2.1 (f := f) ⟨hown, hts _ h4, ⟨_, _, _, FA_same hts h5 _ hi⟩, hst⟩ (by rw [q2]; exact h6) q1 q3 (by rw [hsl]; exact k2_hasslot (q4 j h2)) rfl rfl hd fun H' x1 x2 x3 => ?_
  rw [hsl] at x1 ⊢
  have hat : va_at (gD G) ac_cls (a, .inr (ci, (flds ci M a).set j v)) H' := ⟨_, h1, t_OB.to (V := updV (vp_V (flds ci M a)) j v) ⟨_, x1, q2, q3, t_set q4 hap h2 v⟩ (fun i _ => vp_updV_set hl2 v i)⟩
  rw [hl (hN ▸ h2)] at hat
  exact h p e s m args below meth c H' _ ls C (Y.up (by omega) x2 e1 e2 (ent_o (by rw [e2]; exact hk) hci) ho hat x3) (S.put x2 x3 (show gA G a from Y.1.ge (a := a) (by omega))) V
theorem r_puti {idx ci j a : Nat} {v : Int32} (hd : decode (mB I) pc = .ok (.putfield idx, 3)) (hf : FA (mY I).cls idx ci j) (hk : kd M a = ci + 1) (ht : refT (fTy ci j) = false) (hfin : finF ci j = false) (hn : narrow (fTy ci j) (.int v) = .int v) (hft : fits (fTy ci j) (.int v) = true) (h : WW G I Q (pc + 3) L st (sI M a j v) k n) : WW G I Q pc L (.int v :: .ref a :: st) M k n :=
  ww_put hd hf hk hfin hn hft (fun hj => flds_si hj ht) rfl rfl up_sI h
theorem r_putr {idx ci j a : Nat} {v : Option Nat} (hd : decode (mB I) pc = .ok (.putfield idx, 3)) (hf : FA (mY I).cls idx ci j) (hk : kd M a = ci + 1) (ht : refT (fTy ci j) = true) (hfin : finF ci j = false) (hn : narrow (fTy ci j) (va_rf v) = va_rf v) (hft : fits (fTy ci j) (va_rf v) = true) (h : WW G I Q (pc + 3) L st (sR M a j v) k n) : WW G I Q pc L (va_rf v :: .ref a :: st) M k n :=
  ww_put hd hf hk hfin hn hft (fun hj => flds_sr hj ht) rfl rfl up_sR h
/-- a final field, in the constructor -/
theorem r_putF {idx ci j a b : Nat} {Cn : String} (hd : decode (mB I) pc = .ok (.putfield idx, 3)) (hf : FA (mY I).cls idx ci j) (hk : kd M a = ci + 1) (ht : refT (fTy ci j) = true) (hfin : finF ci j = true) (hin : (mY I).name = "<init>") (hown2 : (ac_cls[ci]?.map fun q => (q.2.1 j).1) = some (mY I).cls) (hn : narrow (fTy ci j) (.ref b) = .ref b) (hft : fits (fTy ci j) (.ref b) = true) (h : WW G I Q (pc + 3) L st (sR M a j (some b)) k n) : WW G I Q pc L (.ref b :: .ref a :: st) M k n := by
  intro p e s m args below meth c H locs ls C Y S V
  obtain ⟨Cn, T, N, ref, h1, h2, h3, h4, h5⟩ := hf
  obtain ⟨hty, hnm, hN, hci⟩ := ac_ok h1
  have hts := C.2.2.2.2.1
  have hown := C.2.2.2.2.2.1
  have hK := Y.2.1
  have hP := Y.1.one (G := G) (by omega) (ent_o (cy := gy G) hk hci)
  have hl2 : j < (flds ci M a).length := by rw [flds_len]; exact hN ▸ h2
  have hf2 : (T j).2.2.2 = true := by
    have h := hfin
    unfold finF at h
    rw [h1] at h
    exact h
  have hdecl : (T j).1 = (mY I).cls := by
    rw [h1] at hown2
    exact Option.some.inj hown2
  have hap := va_apart (own := (mY I).cls) hts h3 (fTy ci) hty hnm hK h1
  obtain ⟨r, g1, cell, q1, q2, q3, q4⟩ := hP 0 _ rfl
  have hr : r = (Cn, T, N) := Option.some.inj (g1.symm.trans h1)
  subst hr
  obtain ⟨hS, hfc, kC, hkC, hkind⟩ := hK.1 ci _ h1
  obtain ⟨cf, kf, fi, f, hi, hsl⟩ := hS j h2
  have hlay := hts _ (h3 _ (u_in_lay h2))
  unfold u_lay at hlay
  rw [if_pos hf2] at hlay
  have hst := (u_facts hfc hkC (u_lays hts h3 h2) hi).1
  have hcf : m.cls = cf := by
    obtain ⟨_, _, c', _, _, _, -, -, hf', -, -, -, hown2, -⟩ := Cond.laysFinal_spec hlay
    have e1 : c' = cf := by have := hi.symm.trans hf'; simp at this; exact this.1.symm
    rw [hdecl] at hown2
    rw [← e1]; exact Option.some.inj (hown.symm.trans hown2)
  have h6 := u_fits hfc hkC hkind (Or.inr hlay) hi (hty j h2) hn hft
  refine W.putFinK C.1 C.2.1 hown (hts _ h4) (FA_same hts h5 _ hi) hst hcf (C.2.2.2.2.2.2.2.1.trans hin) (by rw [q2]; exact h6) q1 q3 (by rw [hsl]; exact k2_hasslot (q4 j h2)) rfl rfl hd fun H' x1 x2 x3 => ?_
  rw [hsl] at x1 ⊢
  have hat : va_at (gD G) ac_cls (a, .inr (ci, (flds ci M a).set j (va_rf (some b)))) H' := ⟨_, h1, t_OB.to (V := updV (vp_V (flds ci M a)) j (.ref b)) ⟨_, x1, q2, q3, t_set q4 hap h2 _⟩ (fun i _ => vp_updV_set hl2 _ i)⟩
  rw [flds_sr (hN ▸ h2) ht] at hat
  exact h p e s m args below meth c H' _ ls C (Y.up (by omega) x2 rfl rfl (ent_o hk hci) up_sR hat x3) (S.put x2 x3 (show gA G a from Y.1.ge (a := a) (by omega))) V
theorem r_iald {a : Nat} {i : Int32} (hd : decode (mB I) pc = .ok (.iaload, 1)) (hk : kd M a = 20) (hi : vp_in i (ln M a)) (h : WW G I Q (pc + 1) L (.int (mi M a i.toNatClampNeg) :: st) M k n) : WW G I Q pc L (.int i :: .ref a :: st) M k n := by
  intro p e s m args below meth c H locs ls C Y S V
  exact va_iald (ws := [(a, _)]) C.1 C.2.1 Y.2.1 (Y.1.one (by omega) (ent_i hk)) 0 0 rfl rfl hi hd (h p e s m args below meth c H locs ls C Y S V)
theorem r_cald {a : Nat} {i : Int32} (hd : decode (mB I) pc = .ok (.caload, 1)) (hk : kd M a = 21) (hi : vp_in i (ln M a)) (h : WW G I Q (pc + 1) L (.int (mi M a i.toNatClampNeg) :: st) M k n) : WW G I Q pc L (.int i :: .ref a :: st) M k n := by
  intro p e s m args below meth c H locs ls C Y S V
  exact va_cald (ws := [(a, _)]) C.1 C.2.1 Y.2.1 (Y.1.one (by omega) (ent_c hk)) 0 1 rfl rfl hi hd (h p e s m args below meth c H locs ls C Y S V)
theorem r_lald {a : Nat} {i : Int32} (hd : decode (mB I) pc = .ok (.laload, 1)) (hk : kd M a = 22) (hi : vp_in i (ln M a)) (h : WW G I Q (pc + 1) L (.long (mj M a i.toNatClampNeg) :: st) M k n) : WW G I Q pc L (.int i :: .ref a :: st) M k n := by
  intro p e s m args below meth c H locs ls C Y S V
  exact va_lald (ws := [(a, _)]) C.1 C.2.1 Y.2.1 (Y.1.one (by omega) (ent_j hk)) 0 2 rfl rfl hi hd (h p e s m args below meth c H locs ls C Y S V)
theorem r_dald {a : Nat} {i : Int32} (hd : decode (mB I) pc = .ok (.daload, 1)) (hk : kd M a = 23) (hi : vp_in i (ln M a)) (h : WW G I Q (pc + 1) L (.double (md M a i.toNatClampNeg) :: st) M k n) : WW G I Q pc L (.int i :: .ref a :: st) M k n := by
  intro p e s m args below meth c H locs ls C Y S V
  exact va_dald (ws := [(a, _)]) C.1 C.2.1 Y.2.1 (Y.1.one (by omega) (ent_d hk)) 0 3 rfl rfl hi hd (h p e s m args below meth c H locs ls C Y S V)
theorem r_iast {a : Nat} {i : Int32} {x : Int32} (hd : decode (mB I) pc = .ok (.iastore, 1)) (hk : kd M a = 20) (hi : vp_in i (ln M a)) (h : WW G I Q (pc + 1) L st (sI M a i.toNatClampNeg (x)) k n) : WW G I Q pc L (.int x :: .int i :: .ref a :: st) M k n := by
  intro p e s m args below meth c H locs ls C Y S V
  have hP := Y.1.one (G := G) (by omega) (ent_i (cy := gy G) hk) 0 _ rfl
  refine W.iast C.1 C.2.1 hP ((Y.2.1.2 0 _ rfl).1 (ln M a) (fun j => .int (mi M a j))) (fun q => by cases q) (by show ¬ (i < 0 ∨ (arrV _ _ _).slots.size ≤ _); rw [arrV_size]; exact hi) rfl rfl hd fun H1 e1 z oq => ?_
  refine h p e s m args below meth c H1 _ ls C (Y.up (by omega) z rfl rfl (ent_i hk) up_sI ?_ oq) (S.put z oq (show gA G a from Y.1.ge (a := a) (by omega))) V
  show H1[a]? = some (vp_cell _ _)
  rw [e1]
  rw [vp_cell_i, vp_cell_i, arrV_store]
  congr 2
  funext q
  show updV (fun j => Value.int (mi M a j)) i.toNatClampNeg _ q = .int ((mi (sI M a i.toNatClampNeg (x))) a q)
  rw [show mi (sI M a i.toNatClampNeg (x)) a = va_up (mi M a) i.toNatClampNeg (x) from u2_s _ _ _ _]
  by_cases hq : q = i.toNatClampNeg
  · subst hq
    simp [updV, va_up, vp_nar]
    try rfl
  · simp [updV, va_up, hq]
theorem r_cast {a : Nat} {i : Int32} {x : Int32} (hd : decode (mB I) pc = .ok (.castore, 1)) (hk : kd M a = 21) (hi : vp_in i (ln M a)) (h : WW G I Q (pc + 1) L st (sI M a i.toNatClampNeg (vp_nar .char x)) k n) : WW G I Q pc L (.int x :: .int i :: .ref a :: st) M k n := by
  intro p e s m args below meth c H locs ls C Y S V
  have hP := Y.1.one (G := G) (by omega) (ent_c (cy := gy G) hk) 0 _ rfl
  refine W.cast C.1 C.2.1 hP ((Y.2.1.2 1 _ rfl).1 (ln M a) (fun j => .int (mi M a j))) (fun q => by cases q) (by show ¬ (i < 0 ∨ (arrV _ _ _).slots.size ≤ _); rw [arrV_size]; exact hi) rfl rfl hd fun H1 e1 z oq => ?_
  refine h p e s m args below meth c H1 _ ls C (Y.up (by omega) z rfl rfl (ent_c hk) up_sI ?_ oq) (S.put z oq (show gA G a from Y.1.ge (a := a) (by omega))) V
  show H1[a]? = some (vp_cell _ _)
  rw [e1]
  rw [vp_cell_i, vp_cell_i, arrV_store]
  congr 2
  funext q
  show updV (fun j => Value.int (mi M a j)) i.toNatClampNeg _ q = .int ((mi (sI M a i.toNatClampNeg (vp_nar .char x))) a q)
  rw [show mi (sI M a i.toNatClampNeg (vp_nar .char x)) a = va_up (mi M a) i.toNatClampNeg (vp_nar .char x) from u2_s _ _ _ _]
  by_cases hq : q = i.toNatClampNeg
  · subst hq
    simp [updV, va_up, vp_nar]
    try rfl
  · simp [updV, va_up, hq]
theorem r_last {a : Nat} {i : Int32} {x : Int64} (hd : decode (mB I) pc = .ok (.lastore, 1)) (hk : kd M a = 22) (hi : vp_in i (ln M a)) (h : WW G I Q (pc + 1) L st (sJ M a i.toNatClampNeg (x)) k n) : WW G I Q pc L (.long x :: .int i :: .ref a :: st) M k n := by
  intro p e s m args below meth c H locs ls C Y S V
  have hP := Y.1.one (G := G) (by omega) (ent_j (cy := gy G) hk) 0 _ rfl
  refine W.last C.1 C.2.1 hP ((Y.2.1.2 2 _ rfl).1 (ln M a) (fun j => .long (mj M a j))) (fun q => by cases q) (by show ¬ (i < 0 ∨ (arrV _ _ _).slots.size ≤ _); rw [arrV_size]; exact hi) rfl rfl hd fun H1 e1 z oq => ?_
  refine h p e s m args below meth c H1 _ ls C (Y.up (by omega) z rfl rfl (ent_j hk) up_sJ ?_ oq) (S.put z oq (show gA G a from Y.1.ge (a := a) (by omega))) V
  show H1[a]? = some (vp_cell _ _)
  rw [e1]
  rw [vp_cell_l, vp_cell_l, arrV_store]
  congr 2
  funext q
  show updV (fun j => Value.long (mj M a j)) i.toNatClampNeg _ q = .long ((mj (sJ M a i.toNatClampNeg (x))) a q)
  rw [show mj (sJ M a i.toNatClampNeg (x)) a = va_up (mj M a) i.toNatClampNeg (x) from u2_s _ _ _ _]
  by_cases hq : q = i.toNatClampNeg
  · subst hq
    simp [updV, va_up, vp_nar]
    try rfl
  · simp [updV, va_up, hq]
theorem r_dast {a : Nat} {i : Int32} {x : UInt64} (hd : decode (mB I) pc = .ok (.dastore, 1)) (hk : kd M a = 23) (hi : vp_in i (ln M a)) (h : WW G I Q (pc + 1) L st (sD M a i.toNatClampNeg (x)) k n) : WW G I Q pc L (.double x :: .int i :: .ref a :: st) M k n := by
  intro p e s m args below meth c H locs ls C Y S V
  have hP := Y.1.one (G := G) (by omega) (ent_d (cy := gy G) hk) 0 _ rfl
  refine W.dast C.1 C.2.1 hP ((Y.2.1.2 3 _ rfl).1 (ln M a) (fun j => .double (md M a j))) (fun q => by cases q) (by show ¬ (i < 0 ∨ (arrV _ _ _).slots.size ≤ _); rw [arrV_size]; exact hi) rfl rfl hd fun H1 e1 z oq => ?_
  refine h p e s m args below meth c H1 _ ls C (Y.up (by omega) z rfl rfl (ent_d hk) up_sD ?_ oq) (S.put z oq (show gA G a from Y.1.ge (a := a) (by omega))) V
  show H1[a]? = some (vp_cell _ _)
  rw [e1]
  rw [vp_cell_d, vp_cell_d, arrV_store]
  congr 2
  funext q
  show updV (fun j => Value.double (md M a j)) i.toNatClampNeg _ q = .double ((md (sD M a i.toNatClampNeg (x))) a q)
  rw [show md (sD M a i.toNatClampNeg (x)) a = va_up (md M a) i.toNatClampNeg (x) from u2_s _ _ _ _]
  by_cases hq : q = i.toNatClampNeg
  · subst hq
    simp [updV, va_up, vp_nar]
    try rfl
  · simp [updV, va_up, hq]
/-- rows of references: which class -/
def rqT : Nat → String × Nat := fun t => match t with
  | 0 => (RX1, 0)
  | 1 => (RX4, 3)
  | 2 => (RX5, 4)
  | _ => (RX6, 5)
theorem rq_ty (cy : Nat → ClassId) {t : Nat} (h : t < 4) : (ac_tys cy)[4 + t]? = some (cy (4 + t), .object (rqT t).1) := by
  match t, h with
  | 0, _ => rfl
  | 1, _ => rfl
  | 2, _ => rfl
  | 3, _ => rfl
theorem rq_cl {t : Nat} (h : t < 4) : ∃ r : vw_C, ac_cls[(rqT t).2]? = some r ∧ r.1 = (rqT t).1 := by
  match t, h with
  | 0, _ => exact ⟨_, rfl, rfl⟩
  | 1, _ => exact ⟨_, rfl, rfl⟩
  | 2, _ => exact ⟨_, rfl, rfl⟩
  | 3, _ => exact ⟨_, rfl, rfl⟩
theorem r_aald {a t : Nat} {i : Int32} {b : Option Nat} (hd : decode (mB I) pc = .ok (.aaload, 1)) (hk : kd M a = 30 + t) (ht : t < 4) (hi : vp_in i (ln M a)) (hb : mr M a i.toNatClampNeg = b) (h : WW G I Q (pc + 1) L (va_rf b :: st) M k n) : WW G I Q pc L (.int i :: .ref a :: st) M k n := by
  subst hb
  intro p e s m args below meth c H locs ls C Y S V
  exact va_aldq (ws := [(a, _)]) C.1 C.2.1 Y.2.1 (Y.1.one (by omega) (ent_q hk)) 0 (4 + t) rfl (rq_ty _ ht) hi hd (h p e s m args below meth c H locs ls C Y S V)
theorem r_aast {a t v : Nat} {i : Int32} (hd : decode (mB I) pc = .ok (.aastore, 1)) (hk : kd M a = 30 + t) (ht : t < 4) (hi : vp_in i (ln M a)) (hv : kd M v = (rqT t).2 + 1) (h : WW G I Q (pc + 1) L st (sR M a i.toNatClampNeg (some v)) k n) : WW G I Q pc L (.ref v :: .int i :: .ref a :: st) M k n := by
  intro p e s m args below meth c H locs ls C Y S V
  have hP := Y.1.one (G := G) (by omega) (ent_q (cy := gy G) hk) 0 _ rfl
  obtain ⟨r, hc, hrn⟩ := rq_cl ht
  obtain ⟨-, -, -, hci⟩ := ac_ok (C := r.1) (T := r.2.1) (N := r.2.2) hc
  obtain ⟨r', hr', cellV, g1, g2, g3, -⟩ := Y.1.one (G := G) (by omega) (ent_o (cy := gy G) hv hci) 0 _ rfl
  have hK := Y.2.1
  have hlt : i.toNatClampNeg < ln M a := Nat.not_le.mp fun q => hi (Or.inr q)
  have h0 : ¬ i < 0 := fun q => hi (Or.inl q)
  have hcls := (hK.1 _ r hc).2
  obtain ⟨kA, comp, k1, k2, k3, -⟩ := (hK.2 (4 + t) _ (rq_ty _ ht)).2
  rw [← hrn] at k3
  have hcomp : comp = (gD G).1 (rqT t).2 := Option.some.inj (k3.symm.trans hcls.1)
  subst hcomp
  obtain ⟨kC, hkC, -⟩ := hcls.2
  refine W.aast C.1 C.2.1 hP (fun q h => by cases h) (fun h => by cases h) k1 k2 rfl hkC ⟨h0, by show _ < (arrV _ _ _).slots.size; rw [arrV_size]; exact hlt⟩ g1 (fun q h => by rw [g3] at h; cases h) (by rw [g2]; exact hkC) (by rw [g2]; exact va_assign hcls) rfl rfl hd fun H1 e1 z oq => ?_
  refine h p e s m args below meth c H1 _ ls C (Y.up (by omega) z rfl rfl (ent_q hk) up_sR ?_ oq) (S.put z oq (show gA G a from Y.1.ge (a := a) (by omega))) V
  show H1[a]? = some (vp_cell _ _)
  rw [e1]
  rw [vp_cell_q, vp_cell_q, arrV_store]
  congr 2
  funext q
  show updV (fun j => va_rf (mr M a j)) i.toNatClampNeg _ q = va_rf ((mr (sR M a i.toNatClampNeg (some v))) a q)
  rw [show mr (sR M a i.toNatClampNeg (some v)) a = va_up (mr M a) i.toNatClampNeg (some v) from u2_s _ _ _ _]
  by_cases hq : q = i.toNatClampNeg
  · subst hq
    simp [updV, va_up, va_rf]
  · simp [updV, va_up, hq]
/-! the script -/
theorem r_slen (hd : decode (mB I) pc = .ok (.arraylength, 1)) (h : WW G I Q (pc + 1) L (.int (nI (gs G).2.1) :: st) M k n) : WW G I Q pc L (.ref (gs G).1 :: st) M k n := by
  intro p e s m args below meth c H locs ls C Y S V
  have hE := C.2.2.2.2.2.2.2.2.2.2
  exact va_slen C.1 C.2.1 hE.2.2.1 (Nat.lt_of_lt_of_le hE.2.1 hE.1) (Nat.not_le.mpr hE.2.1) S hd (h p e s m args below meth c H locs ls C Y S V)
theorem r_sld {i : Int32} (hd : decode (mB I) pc = .ok (.iaload, 1)) (hi : vp_in i (gs G).2.1) (h : WW G I Q (pc + 1) L (.int ((gs G).2.2 i.toNatClampNeg) :: st) M k n) : WW G I Q pc L (.int i :: .ref (gs G).1 :: st) M k n := by
  intro p e s m args below meth c H locs ls C Y S V
  have hE := C.2.2.2.2.2.2.2.2.2.2
  exact va_sld C.1 C.2.1 hE.2.2.1 (Nat.lt_of_lt_of_le hE.2.1 hE.1) (Nat.not_le.mpr hE.2.1) S hi hd (h p e s m args below meth c H locs ls C Y S V)
end ROWS
