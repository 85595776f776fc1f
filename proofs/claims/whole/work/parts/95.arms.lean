/-! THE LAW: its steps: counts -/
section LAW
variable {G : GG} {M : Mm} {x F i k n : Nat} {B : BS}
theorem arm_2 {P : Int32 → Mm → Prop} (lv : LV F M x B) (hF : F + 10 < 2 ^ 30) (hi : i + 5 ≤ (gs G).2.1) (hN : (gs G).2.1 ≤ 2560) (hk : k + 2 ≤ 603072) (hn : n + 12 ≤ 7190633) (l6 l7 l8 : Value) (nx : Nx G (qi P nox) F x i k n) : WW G IL_law (qi P nox) 408 [.ref (gs G).1, .ref x, .ref (x + 350), .ref (x + 359), .ref (x + 360), .int (nI i), l6, l7, l8] [] M k n := by
  obtain ⟨cb, rb, fo, kl, ll, kd2, ll2⟩ := id lv
  obtain ⟨q9, vq⟩ := cb.c1
  refine r_aload_n (dk kL_law_p1 48 rfl) rfl ?_
  -- at 409
  refine r_callVp (I' := IX8_stoneCount) (as := []) (dk kL_law_p1 49 rfl) mv_X8_stoneCount ml_L_184 rfl rfl cb.o.k rfl rfl (Nat.le_of_ble_eq_true rfl) ⟨by decide, by decide⟩ ⟨rfl, rfl⟩ ⟨?_, ?_⟩ (k_X8_stoneCount cb.o vq) ?_
  · show k ≤ 603072
    omega
  · show n ≤ 7190633
    omega
  refine r_aload_n (dk kL_law_p1 50 rfl) rfl ?_
  -- at 413
  refine r_callVp (I' := IX9_stoneCount) (as := []) (dk kL_law_p1 51 rfl) mv_X9_stoneCount ml_L_187 rfl rfl rb.o.1 rfl rfl (Nat.le_of_ble_eq_true rfl) ⟨by decide, by decide⟩ ⟨rfl, rfl⟩ ⟨?_, ?_⟩ (k_X9_stoneCount rb.o) ?_
  · show k ≤ 603072
    omega
  · show n ≤ 7190633
    omega
  refine r_icmp_eq (tgt := 3024) (dk kL_law_p1 52 rfl) (by decide) (fun c416 => ?_) (fun c416 => absurd ((congrFun rb.g 0).symm) c416)
  -- at 3024
  exact nx _ _ _ _ _ _ _ _ (lv.step (FY.rfl M x) cb (mr_s8 M (x + 350) 0) (BE.rfl B) (rb.s8 0) fo) (by omega) (by omega) (by omega)
theorem arm_6 {P : Int32 → Mm → Prop} (lv : LV F M x B) (hF : F + 10 < 2 ^ 30) (hi : i + 5 ≤ (gs G).2.1) (hN : (gs G).2.1 ≤ 2560) (hk : k + 2 ≤ 603072) (hn : n + 12 ≤ 7190633) (l6 l7 l8 : Value) (nx : Nx G (qi P nox) F x i k n) : WW G IL_law (qi P nox) 589 [.ref (gs G).1, .ref x, .ref (x + 350), .ref (x + 359), .ref (x + 360), .int (nI i), l6, l7, l8] [] M k n := by
  obtain ⟨cb, rb, fo, kl, ll, kd2, ll2⟩ := id lv
  obtain ⟨q9, vq⟩ := cb.c1
  refine r_aload_n (dk kL_law_p3 40 rfl) rfl ?_
  -- at 590
  refine r_callVp (I' := IX8_officerCount) (as := []) (dk kL_law_p3 41 rfl) mv_X8_officerCount ml_L_197 rfl rfl cb.o.k rfl rfl (Nat.le_of_ble_eq_true rfl) ⟨by decide, by decide⟩ ⟨rfl, rfl⟩ ⟨?_, ?_⟩ (k_X8_officerCount cb.o vq) ?_
  · show k ≤ 603072
    omega
  · show n ≤ 7190633
    omega
  refine r_aload_n (dk kL_law_p3 42 rfl) rfl ?_
  -- at 594
  refine r_callVp (I' := IX9_officerCount) (as := []) (dk kL_law_p3 43 rfl) mv_X9_officerCount ml_L_200 rfl rfl rb.o.1 rfl rfl (Nat.le_of_ble_eq_true rfl) ⟨by decide, by decide⟩ ⟨rfl, rfl⟩ ⟨?_, ?_⟩ (k_X9_officerCount rb.o) ?_
  · show k ≤ 603072
    omega
  · show n ≤ 7190633
    omega
  refine r_icmp_eq (tgt := 3024) (dk kL_law_p3 44 rfl) (by decide) (fun c597 => ?_) (fun c597 => absurd ((congrFun rb.g 1).symm) c597)
  -- at 3024
  exact nx _ _ _ _ _ _ _ _ (lv.step (FY.rfl M x) cb (mr_s8 M (x + 350) 0) (BE.rfl B) (rb.s8 0) fo) (by omega) (by omega) (by omega)
theorem arm_14 {P : Int32 → Mm → Prop} (lv : LV F M x B) (hF : F + 10 < 2 ^ 30) (hi : i + 5 ≤ (gs G).2.1) (hN : (gs G).2.1 ≤ 2560) (hk : k + 2 ≤ 603072) (hn : n + 12 ≤ 7190633) (l6 l7 l8 : Value) (nx : Nx G (qi P nox) F x i k n) : WW G IL_law (qi P nox) 1094 [.ref (gs G).1, .ref x, .ref (x + 350), .ref (x + 359), .ref (x + 360), .int (nI i), l6, l7, l8] [] M k n := by
  obtain ⟨cb, rb, fo, kl, ll, kd2, ll2⟩ := id lv
  obtain ⟨q9, vq⟩ := cb.c1
  refine r_aload_n (dk kL_law_p9 10 rfl) rfl ?_
  -- at 1095
  refine r_callVp (I' := IX8_pendingCount) (as := []) (dk kL_law_p9 11 rfl) mv_X8_pendingCount ml_L_224 rfl rfl cb.o.k rfl rfl (Nat.le_of_ble_eq_true rfl) ⟨by decide, by decide⟩ ⟨rfl, rfl⟩ ⟨?_, ?_⟩ (k_X8_pendingCount cb.o vq) ?_
  · show k ≤ 603072
    omega
  · show n ≤ 7190633
    omega
  refine r_aload_n (dk kL_law_p9 12 rfl) rfl ?_
  -- at 1099
  refine r_callVp (I' := IX9_pendingCount) (as := []) (dk kL_law_p9 13 rfl) mv_X9_pendingCount ml_L_227 rfl rfl rb.o.1 rfl rfl (Nat.le_of_ble_eq_true rfl) ⟨by decide, by decide⟩ ⟨rfl, rfl⟩ ⟨?_, ?_⟩ (k_X9_pendingCount rb.o) ?_
  · show k ≤ 603072
    omega
  · show n ≤ 7190633
    omega
  refine r_icmp_eq (tgt := 3024) (dk kL_law_p9 14 rfl) (by decide) (fun c1102 => ?_) (fun c1102 => absurd ((congrFun rb.g 3).symm) c1102)
  -- at 3024
  exact nx _ _ _ _ _ _ _ _ (lv.step (FY.rfl M x) cb (mr_s8 M (x + 350) 0) (BE.rfl B) (rb.s8 0) fo) (by omega) (by omega) (by omega)
theorem arm_24 {P : Int32 → Mm → Prop} (lv : LV F M x B) (hF : F + 10 < 2 ^ 30) (hi : i + 5 ≤ (gs G).2.1) (hN : (gs G).2.1 ≤ 2560) (hk : k + 2 ≤ 603072) (hn : n + 12 ≤ 7190633) (l6 l7 l8 : Value) (nx : Nx G (qi P nox) F x i k n) : WW G IL_law (qi P nox) 1606 [.ref (gs G).1, .ref x, .ref (x + 350), .ref (x + 359), .ref (x + 360), .int (nI i), l6, l7, l8] [] M k n := by
  obtain ⟨cb, rb, fo, kl, ll, kd2, ll2⟩ := id lv
  obtain ⟨q9, vq⟩ := cb.c1
  refine r_aload_n (dk kL_law_p14 25 rfl) rfl ?_
  -- at 1607
  refine r_callVp (I' := IX8_quorum) (as := []) (dk kL_law_p14 26 rfl) mv_X8_quorum ml_L_256 rfl rfl cb.o.k rfl rfl (Nat.le_of_ble_eq_true rfl) ⟨by decide, by decide⟩ ⟨rfl, rfl⟩ ⟨?_, ?_⟩ (k_X8_quorum cb.o vq) ?_
  · show k ≤ 603072
    omega
  · show n ≤ 7190633
    omega
  refine r_aload_n (dk kL_law_p14 27 rfl) rfl ?_
  -- at 1611
  refine r_callVp (I' := IX9_quorum) (as := []) (dk kL_law_p14 28 rfl) mv_X9_quorum ml_L_259 rfl rfl rb.o.1 rfl rfl (Nat.le_of_ble_eq_true rfl) ⟨by decide, by decide⟩ ⟨rfl, rfl⟩ ⟨?_, ?_⟩ (k_X9_quorum rb.o) ?_
  · show k ≤ 603072
    omega
  · show n ≤ 7190633
    omega
  refine r_icmp_eq (tgt := 3024) (dk kL_law_p14 29 rfl) (by decide) (fun c1614 => ?_) (fun c1614 => absurd ((congrFun rb.g 2).symm) c1614)
  -- at 3024
  exact nx _ _ _ _ _ _ _ _ (lv.step (FY.rfl M x) cb (mr_s8 M (x + 350) 0) (BE.rfl B) (rb.s8 0) fo) (by omega) (by omega) (by omega)
theorem arm_25 {P : Int32 → Mm → Prop} (lv : LV F M x B) (hF : F + 10 < 2 ^ 30) (hi : i + 5 ≤ (gs G).2.1) (hN : (gs G).2.1 ≤ 2560) (hk : k + 2 ≤ 603072) (hn : n + 12 ≤ 7190633) (l6 l7 l8 : Value) (nx : Nx G (qi P nox) F x i k n) : WW G IL_law (qi P nox) 1619 [.ref (gs G).1, .ref x, .ref (x + 350), .ref (x + 359), .ref (x + 360), .int (nI i), l6, l7, l8] [] M k n := by
  obtain ⟨cb, rb, fo, kl, ll, kd2, ll2⟩ := id lv
  obtain ⟨q9, vq⟩ := cb.c1
  refine r_aload_n (dk kL_law_p14 32 rfl) rfl ?_
  -- at 1620
  refine r_callVp (I' := IX8_rulingCount) (as := []) (dk kL_law_p14 33 rfl) mv_X8_rulingCount ml_L_260 rfl rfl cb.o.k rfl rfl (Nat.le_of_ble_eq_true rfl) ⟨by decide, by decide⟩ ⟨rfl, rfl⟩ ⟨?_, ?_⟩ (k_X8_rulingCount cb.o vq) ?_
  · show k ≤ 603072
    omega
  · show n ≤ 7190633
    omega
  refine r_aload_n (dk kL_law_p14 34 rfl) rfl ?_
  -- at 1624
  refine r_callVp (I' := IX9_rulingCount) (as := []) (dk kL_law_p14 35 rfl) mv_X9_rulingCount ml_L_263 rfl rfl rb.o.1 rfl rfl (Nat.le_of_ble_eq_true rfl) ⟨by decide, by decide⟩ ⟨rfl, rfl⟩ ⟨?_, ?_⟩ (k_X9_rulingCount rb.o) ?_
  · show k ≤ 603072
    omega
  · show n ≤ 7190633
    omega
  refine r_icmp_eq (tgt := 3024) (dk kL_law_p14 36 rfl) (by decide) (fun c1627 => ?_) (fun c1627 => absurd ((congrFun rb.g 5).symm) c1627)
  -- at 3024
  exact nx _ _ _ _ _ _ _ _ (lv.step (FY.rfl M x) cb (mr_s8 M (x + 350) 0) (BE.rfl B) (rb.s8 0) fo) (by omega) (by omega) (by omega)
theorem arm_36 {P : Int32 → Mm → Prop} (lv : LV F M x B) (hF : F + 10 < 2 ^ 30) (hi : i + 5 ≤ (gs G).2.1) (hN : (gs G).2.1 ≤ 2560) (hk : k + 2 ≤ 603072) (hn : n + 12 ≤ 7190633) (l6 l7 l8 : Value) (nx : Nx G (qi P nox) F x i k n) : WW G IL_law (qi P nox) 2237 [.ref (gs G).1, .ref x, .ref (x + 350), .ref (x + 359), .ref (x + 360), .int (nI i), l6, l7, l8] [] M k n := by
  obtain ⟨cb, rb, fo, kl, ll, kd2, ll2⟩ := id lv
  obtain ⟨q9, vq⟩ := cb.c1
  refine r_aload_n (dk kL_law_p20 58 rfl) rfl ?_
  -- at 2238
  refine r_callVp (I' := IX8_filedCount) (as := []) (dk kL_law_p20 59 rfl) mv_X8_filedCount ml_L_294 rfl rfl cb.o.k rfl rfl (Nat.le_of_ble_eq_true rfl) ⟨by decide, by decide⟩ ⟨rfl, rfl⟩ ⟨?_, ?_⟩ (k_X8_filedCount cb.o vq) ?_
  · show k ≤ 603072
    omega
  · show n ≤ 7190633
    omega
  refine r_aload_n (dk kL_law_p21 0 rfl) rfl ?_
  -- at 2242
  refine r_callVp (I' := IX9_filedCount) (as := []) (dk kL_law_p21 1 rfl) mv_X9_filedCount ml_L_297 rfl rfl rb.o.1 rfl rfl (Nat.le_of_ble_eq_true rfl) ⟨by decide, by decide⟩ ⟨rfl, rfl⟩ ⟨?_, ?_⟩ (k_X9_filedCount rb.o) ?_
  · show k ≤ 603072
    omega
  · show n ≤ 7190633
    omega
  refine r_icmp_eq (tgt := 3024) (dk kL_law_p21 2 rfl) (by decide) (fun c2245 => ?_) (fun c2245 => absurd ((congrFun rb.g 4).symm) c2245)
  -- at 3024
  exact nx _ _ _ _ _ _ _ _ (lv.step (FY.rfl M x) cb (mr_s8 M (x + 350) 0) (BE.rfl B) (rb.s8 0) fo) (by omega) (by omega) (by omega)
theorem arm_37 {P : Int32 → Mm → Prop} (lv : LV F M x B) (hF : F + 10 < 2 ^ 30) (hi : i + 5 ≤ (gs G).2.1) (hN : (gs G).2.1 ≤ 2560) (hk : k + 2 ≤ 603072) (hn : n + 12 ≤ 7190633) (l6 l7 l8 : Value) (nx : Nx G (qi P nox) F x i k n) : WW G IL_law (qi P nox) 2250 [.ref (gs G).1, .ref x, .ref (x + 350), .ref (x + 359), .ref (x + 360), .int (nI i), l6, l7, l8] [] M k n := by
  obtain ⟨cb, rb, fo, kl, ll, kd2, ll2⟩ := id lv
  obtain ⟨q9, vq⟩ := cb.c1
  refine r_aload_n (dk kL_law_p21 5 rfl) rfl ?_
  -- at 2251
  refine r_callVp (I' := IX8_vetoes) (as := []) (dk kL_law_p21 6 rfl) mv_X8_vetoes ml_L_298 rfl rfl cb.o.k rfl rfl (Nat.le_of_ble_eq_true rfl) ⟨by decide, by decide⟩ ⟨rfl, rfl⟩ ⟨?_, ?_⟩ (k_X8_vetoes cb.o vq) ?_
  · show k ≤ 603072
    omega
  · show n ≤ 7190633
    omega
  refine r_aload_n (dk kL_law_p21 7 rfl) rfl ?_
  -- at 2255
  refine r_callVp (I' := IX9_vetoes) (as := []) (dk kL_law_p21 8 rfl) mv_X9_vetoes ml_L_301 rfl rfl rb.o.1 rfl rfl (Nat.le_of_ble_eq_true rfl) ⟨by decide, by decide⟩ ⟨rfl, rfl⟩ ⟨?_, ?_⟩ (k_X9_vetoes rb.o) ?_
  · show k ≤ 603072
    omega
  · show n ≤ 7190633
    omega
  refine r_icmp_eq (tgt := 3024) (dk kL_law_p21 9 rfl) (by decide) (fun c2258 => ?_) (fun c2258 => absurd ((congrFun rb.g 6).symm) c2258)
  -- at 3024
  exact nx _ _ _ _ _ _ _ _ (lv.step (FY.rfl M x) cb (mr_s8 M (x + 350) 0) (BE.rfl B) (rb.s8 0) fo) (by omega) (by omega) (by omega)
theorem arm_38 {P : Int32 → Mm → Prop} (lv : LV F M x B) (hF : F + 10 < 2 ^ 30) (hi : i + 5 ≤ (gs G).2.1) (hN : (gs G).2.1 ≤ 2560) (hk : k + 2 ≤ 603072) (hn : n + 12 ≤ 7190633) (l6 l7 l8 : Value) (nx : Nx G (qi P nox) F x i k n) : WW G IL_law (qi P nox) 2263 [.ref (gs G).1, .ref x, .ref (x + 350), .ref (x + 359), .ref (x + 360), .int (nI i), l6, l7, l8] [] M k n := by
  obtain ⟨cb, rb, fo, kl, ll, kd2, ll2⟩ := id lv
  obtain ⟨q9, vq⟩ := cb.c1
  refine r_aload_n (dk kL_law_p21 12 rfl) rfl ?_
  -- at 2264
  refine r_callVp (I' := IX8_withdrawals) (as := []) (dk kL_law_p21 13 rfl) mv_X8_withdrawals ml_L_302 rfl rfl cb.o.k rfl rfl (Nat.le_of_ble_eq_true rfl) ⟨by decide, by decide⟩ ⟨rfl, rfl⟩ ⟨?_, ?_⟩ (k_X8_withdrawals cb.o vq) ?_
  · show k ≤ 603072
    omega
  · show n ≤ 7190633
    omega
  refine r_aload_n (dk kL_law_p21 14 rfl) rfl ?_
  -- at 2268
  refine r_callVp (I' := IX9_withdrawals) (as := []) (dk kL_law_p21 15 rfl) mv_X9_withdrawals ml_L_305 rfl rfl rb.o.1 rfl rfl (Nat.le_of_ble_eq_true rfl) ⟨by decide, by decide⟩ ⟨rfl, rfl⟩ ⟨?_, ?_⟩ (k_X9_withdrawals rb.o) ?_
  · show k ≤ 603072
    omega
  · show n ≤ 7190633
    omega
  refine r_icmp_eq (tgt := 3024) (dk kL_law_p21 16 rfl) (by decide) (fun c2271 => ?_) (fun c2271 => absurd ((congrFun rb.g 7).symm) c2271)
  -- at 3024
  exact nx _ _ _ _ _ _ _ _ (lv.step (FY.rfl M x) cb (mr_s8 M (x + 350) 0) (BE.rfl B) (rb.s8 0) fo) (by omega) (by omega) (by omega)
theorem arm_39 {P : Int32 → Mm → Prop} (lv : LV F M x B) (hF : F + 10 < 2 ^ 30) (hi : i + 5 ≤ (gs G).2.1) (hN : (gs G).2.1 ≤ 2560) (hk : k + 2 ≤ 603072) (hn : n + 12 ≤ 7190633) (l6 l7 l8 : Value) (nx : Nx G (qi P nox) F x i k n) : WW G IL_law (qi P nox) 2276 [.ref (gs G).1, .ref x, .ref (x + 350), .ref (x + 359), .ref (x + 360), .int (nI i), l6, l7, l8] [] M k n := by
  obtain ⟨cb, rb, fo, kl, ll, kd2, ll2⟩ := id lv
  obtain ⟨q9, vq⟩ := cb.c1
  refine r_aload_n (dk kL_law_p21 19 rfl) rfl ?_
  -- at 2277
  refine r_callVp (I' := IX8_movedWeight) (as := []) (dk kL_law_p21 20 rfl) mv_X8_movedWeight ml_L_306 rfl rfl cb.o.k rfl rfl (Nat.le_of_ble_eq_true rfl) ⟨by decide, by decide⟩ ⟨rfl, rfl⟩ ⟨?_, ?_⟩ (k_X8_movedWeight cb.o vq) ?_
  · show k ≤ 603072
    omega
  · show n ≤ 7190633
    omega
  refine r_aload_n (dk kL_law_p21 21 rfl) rfl ?_
  -- at 2281
  refine r_callVp (I' := IX9_movedWeight) (as := []) (dk kL_law_p21 22 rfl) mv_X9_movedWeight ml_L_309 rfl rfl rb.o.1 rfl rfl (Nat.le_of_ble_eq_true rfl) ⟨by decide, by decide⟩ ⟨rfl, rfl⟩ ⟨?_, ?_⟩ (k_X9_movedWeight rb.o) ?_
  · show k ≤ 603072
    omega
  · show n ≤ 7190633
    omega
  refine r_icmp_eq (tgt := 3024) (dk kL_law_p21 23 rfl) (by decide) (fun c2284 => ?_) (fun c2284 => absurd ((congrFun rb.g 8).symm) c2284)
  -- at 3024
  exact nx _ _ _ _ _ _ _ _ (lv.step (FY.rfl M x) cb (mr_s8 M (x + 350) 0) (BE.rfl B) (rb.s8 0) fo) (by omega) (by omega) (by omega)
theorem arm_53 {P : Int32 → Mm → Prop} (lv : LV F M x B) (hF : F + 10 < 2 ^ 30) (hi : i + 5 ≤ (gs G).2.1) (hN : (gs G).2.1 ≤ 2560) (hk : k + 2 ≤ 603072) (hn : n + 12 ≤ 7190633) (l6 l7 l8 : Value) (nx : Nx G (qi P nox) F x i k n) : WW G IL_law (qi P nox) 2954 [.ref (gs G).1, .ref x, .ref (x + 350), .ref (x + 359), .ref (x + 360), .int (nI i), l6, l7, l8] [] M k n := by
  obtain ⟨cb, rb, fo, kl, ll, kd2, ll2⟩ := id lv
  obtain ⟨q9, vq⟩ := cb.c1
  refine r_aload_n (dk kL_law_p27 56 rfl) rfl ?_
  -- at 2955
  refine r_callVp (I' := IX8_undoCount) (as := []) (dk kL_law_p27 57 rfl) mv_X8_undoCount ml_L_351 rfl rfl cb.o.k rfl rfl (Nat.le_of_ble_eq_true rfl) ⟨by decide, by decide⟩ ⟨rfl, rfl⟩ ⟨?_, ?_⟩ (k_X8_undoCount cb.o cb.c3.1) ?_
  · show k ≤ 603072
    omega
  · show n ≤ 7190633
    omega
  refine r_aload_n (dk kL_law_p27 58 rfl) rfl ?_
  -- at 2959
  refine r_callVp (I' := IX9_undoCount) (as := []) (dk kL_law_p27 59 rfl) mv_X9_undoCount ml_L_354 rfl rfl rb.o.1 rfl rfl (Nat.le_of_ble_eq_true rfl) ⟨by decide, by decide⟩ ⟨rfl, rfl⟩ ⟨?_, ?_⟩ (k_X9_undoCount rb.o) ?_
  · show k ≤ 603072
    omega
  · show n ≤ 7190633
    omega
  refine r_icmp_eq (tgt := 3024) (dk kL_law_p28 0 rfl) (by decide) (fun c2962 => ?_) (fun c2962 => absurd (rb.2.2.1.1.symm) c2962)
  -- at 3024
  exact nx _ _ _ _ _ _ _ _ (lv.step (FY.rfl M x) cb (mr_s8 M (x + 350) 0) (BE.rfl B) (rb.s8 0) fo) (by omega) (by omega) (by omega)
theorem arm_54 {P : Int32 → Mm → Prop} (lv : LV F M x B) (hF : F + 10 < 2 ^ 30) (hi : i + 5 ≤ (gs G).2.1) (hN : (gs G).2.1 ≤ 2560) (hk : k + 2 ≤ 603072) (hn : n + 12 ≤ 7190633) (l6 l7 l8 : Value) (nx : Nx G (qi P nox) F x i k n) : WW G IL_law (qi P nox) 2967 [.ref (gs G).1, .ref x, .ref (x + 350), .ref (x + 359), .ref (x + 360), .int (nI i), l6, l7, l8] [] M k n := by
  obtain ⟨cb, rb, fo, kl, ll, kd2, ll2⟩ := id lv
  refine r_aload_n (dk kL_law_p28 3 rfl) rfl ?_
  -- at 2968
  refine r_callV (I' := IX8_saveSnapshot) (as := []) (dk kL_law_p28 4 rfl) mv_X8_saveSnapshot ml_L_355 rfl rfl cb.o.k rfl rfl (Nat.le_of_ble_eq_true rfl) ⟨by decide, by decide⟩ ⟨?_, ?_⟩ (k_X8_saveSnapshot cb) (fun _ _ z => absurd z.1 (by decide)) ?_
  · show k + 0 ≤ 603072
    omega
  · show n + 0 ≤ 7190633
    omega
  rintro v M1 ⟨y, hv, -, hy, fx, cb1⟩
  subst hv
  show WW G IL_law _ 2971 _ [.int y] M1 k n
  have rb1 := rb.fy fx.fy (Nat.le_refl _)
  refine r_aload_n (dk kL_law_p28 5 rfl) rfl ?_
  -- at 2972
  refine r_callV (I' := IX9_saveSnapshot) (as := []) (dk kL_law_p28 6 rfl) mv_X9_saveSnapshot ml_L_358 rfl rfl rb1.o.1 rfl rfl (Nat.le_of_ble_eq_true rfl) ⟨by decide, by decide⟩ ⟨?_, ?_⟩ (m_saveSnapshot rb1) (fun _ _ z => z.elim) ?_
  · show k + 0 ≤ 603072
    omega
  · show n + 0 ≤ 7190633
    omega
  rintro v M2 ⟨z, hv, mr, h8, hz, B2, be, rb2⟩
  subst hv
  show WW G IL_law _ 2975 _ [.int z, .int y] M2 k n
  refine r_icmp_eq (tgt := 3024) (dk kL_law_p28 7 rfl) (by decide) (fun c2975 => ?_) (fun c2975 => absurd (hy.trans (hz rfl).symm) c2975)
  -- at 3024
  exact nx _ _ _ _ _ _ _ _ (lv.step fx.fy cb1 mr be rb2 fo) (by omega) (by omega) (by omega)
end LAW
