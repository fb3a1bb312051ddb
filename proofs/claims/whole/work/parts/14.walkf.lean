set_option maxHeartbeats 4000000 in
set_option maxRecDepth 100000 in
theorem vX8_readsEnd_57 {l : Launch} {D : va_G} {T : Nat → ClassId} {b : Nat} {gr : Bool} {n0 : Nat} (x0 : Nat) (x3 : Int32) (M : zM) (o : Int32 × zM) (h : fX8_readsEnd_57 x0 x3 M = some o) : zV false l RX8 cX8_readsEnd 5 none false 4 0 0 D T b gr n0 (0, o.1, o.2) 0 0 57 [(0, zr b x0), (3, .int x3)] [] M := by
  unfold fX8_readsEnd_57 at h
  refine zV_iload_n (j := 1) dX8_readsEnd_57 rfl rfl ?_
  refine zV_if_ge (tgt := 69) dX8_readsEnd_58 (by decide) (fun c1 => ?_) (fun c1 => ?_)
  · replace h := z_t c1 h
    refine zV_aload_n (j := 0) dX8_readsEnd_69 rfl rfl ?_
    refine zV_iload_n (j := 1) dX8_readsEnd_70 rfl rfl ?_
    refine zV_iconst (v := 0) dX8_readsEnd_71 (by decide) ?_
    obtain ⟨g2, h⟩ := zg_of h
    obtain ⟨r3, M4, q5, h⟩ := zb_of h
    refine zV_callVv (ci := 8) (As := [.int x3, .int 0]) (rest := []) (vX8_closesTo l D T b gr x0 x3 0 M _ _ q5) zm_yX8_closesTo zl_RX8_263 zi_yX8_closesTo ze_yX8_closesTo zcI8 g2 rfl rfl (zcs trivial (Nat.le_of_ble_eq_true rfl)) (by decide) (by decide) (by decide) dX8_readsEnd_72 ?_
    exact zV_vret (x := 0) rfl dX8_readsEnd_75 (by decide) (by decide) (z_ret h)
  · replace h := z_f c1 h
    refine zV_aload_n (j := 0) dX8_readsEnd_61 rfl rfl ?_
    refine zV_iconst (v := 1) dX8_readsEnd_62 (by decide) ?_
    obtain ⟨g6, h⟩ := zg_of h
    obtain ⟨r7, M8, q9, h⟩ := zb_of h
    refine zV_callVv (ci := 8) (As := [.int 1]) (rest := []) (vX8_fails l D T b gr x0 1 M _ _ q9) zm_yX8_fails zl_RX8_225 zi_yX8_fails ze_yX8_fails zcI8 g6 rfl rfl (zcs trivial (Nat.le_of_ble_eq_true rfl)) (by decide) (by decide) (by decide) dX8_readsEnd_63 ?_
    refine zV_goto (tgt := 75) dX8_readsEnd_66 (by decide) ?_
    exact zV_vret (x := 0) rfl dX8_readsEnd_75 (by decide) (by decide) (z_ret h)
set_option maxHeartbeats 4000000 in
set_option maxRecDepth 100000 in
theorem vX8_readsEnd_50 {l : Launch} {D : va_G} {T : Nat → ClassId} {b : Nat} {gr : Bool} {n0 : Nat} (k19 : Nat → Int32 → Int32 → Int32 → Int32 → zM → Option (Int32 × zM)) (hk19 : ∀ (z0 : Nat) (z1 : Int32) (z2 : Int32) (z3 : Int32) (z4 : Int32) (N : zM) (o : Int32 × zM), k19 z0 z1 z2 z3 z4 N = some o → zV false l RX8 cX8_readsEnd 5 none false 4 0 0 D T b gr n0 (0, o.1, o.2) 0 0 19 [(0, zr b z0), (1, .int z1), (2, .int z2), (3, .int z3), (4, .int z4)] [] N) (x0 : Nat) (x1 : Int32) (x2 : Int32) (x4 : Int32) (s0 : Int32) (M : zM) (o : Int32 × zM) (h : fX8_readsEnd_50 k19 x0 x1 x2 x4 s0 M = some o) : zV false l RX8 cX8_readsEnd 5 none false 4 0 0 D T b gr n0 (0, o.1, o.2) 0 0 50 [(0, zr b x0), (1, .int x1), (2, .int x2), (4, .int x4)] [.int s0] M := by
  unfold fX8_readsEnd_50 at h
  refine zV_istore_n [(3, .int s0), (0, zr b x0), (1, .int x1), (2, .int x2), (4, .int x4)] dX8_readsEnd_50 rfl (by decide) rfl ?_
  obtain ⟨u10, e11⟩ : ∃ y : Int32, y = x4 + 1 := ⟨_, rfl⟩
  replace h := zlet_of h e11
  refine zV_iinc (j := 4) (v := u10) [(4, .int u10), (3, .int s0), (0, zr b x0), (1, .int x1), (2, .int x2)] dX8_readsEnd_51 rfl (by rw [e11]; rfl) (by decide) rfl ?_
  refine zV_goto (tgt := 19) dX8_readsEnd_54 (by decide) ?_
  refine zV_pk [2, 3, 4, 1, 0] rfl ?_
  exact hk19 x0 x1 x2 s0 u10 M _ h
set_option maxHeartbeats 4000000 in
set_option maxRecDepth 100000 in
theorem vX8_readsEnd_19 {l : Launch} {D : va_G} {T : Nat → ClassId} {b : Nat} {gr : Bool} {n0 : Nat} : ∀ (n : Nat) (x0 : Nat) (x1 : Int32) (x2 : Int32) (x3 : Int32) (x4 : Int32) (M : zM) (o : Int32 × zM), fX8_readsEnd_19 n x0 x1 x2 x3 x4 M = some o → zV false l RX8 cX8_readsEnd 5 none false 4 0 0 D T b gr n0 (0, o.1, o.2) 0 0 19 [(0, zr b x0), (1, .int x1), (2, .int x2), (3, .int x3), (4, .int x4)] [] M := by
  intro n
  induction n with
  | zero =>
    intro x0 x1 x2 x3 x4 M o h
    rw [fX8_readsEnd_19] at h
    cases h
  | succ n ih =>
    intro x0 x1 x2 x3 x4 M o h
    rw [fX8_readsEnd_19] at h
    refine zV_iload (j := 4) dX8_readsEnd_19 rfl ?_
    refine zV_aload_n (j := 0) dX8_readsEnd_21 rfl rfl ?_
    obtain ⟨g12, h⟩ := zg_of h
    refine zV_getI zf_RX8_190 dX8_readsEnd_22 rfl g12 ?_
    refine zV_icmp_ge (tgt := 57) dX8_readsEnd_25 (by decide) (fun c13 => ?_) (fun c13 => ?_)
    · replace h := z_t c13 h
      refine zV_pk [0, 3] rfl ?_
      exact vX8_readsEnd_57 x0 x3 M _ h
    · replace h := z_f c13 h
      refine zV_iload_n (j := 1) dX8_readsEnd_28 rfl rfl ?_
      refine zV_iconst (v := 1) dX8_readsEnd_29 (by decide) ?_
      refine zV_icmp_ne (tgt := 57) dX8_readsEnd_30 (by decide) (fun c14 => ?_) (fun c14 => ?_)
      · replace h := z_f c14 h
        refine zV_pk [0, 3] rfl ?_
        exact vX8_readsEnd_57 x0 x3 M _ h
      · replace h := z_t c14 h
        refine zV_aload_n (j := 0) dX8_readsEnd_33 rfl rfl ?_
        refine zV_getR zf_RX8_56 dX8_readsEnd_34 rfl g12 ?_
        refine zV_iload (j := 4) dX8_readsEnd_37 rfl ?_
        obtain ⟨g15, h⟩ := zg_of h
        obtain ⟨g16, h⟩ := zg_of h
        refine zV_iald dX8_readsEnd_39 g15 g16 ?_
        refine zV_iload_n (j := 2) dX8_readsEnd_40 rfl rfl ?_
        refine zV_icmp_ne (tgt := 49) dX8_readsEnd_41 (by decide) (fun c17 => ?_) (fun c17 => ?_)
        · replace h := z_f c17 h
          refine zV_iload_n (j := 3) dX8_readsEnd_49 rfl rfl ?_
          refine zV_pk [0, 1, 2, 4] rfl ?_
          exact vX8_readsEnd_50 (fX8_readsEnd_19 n) ih x0 x1 x2 x4 x3 M _ h
        · replace h := z_t c17 h
          refine zV_iload (j := 4) dX8_readsEnd_44 rfl ?_
          refine zV_goto (tgt := 50) dX8_readsEnd_46 (by decide) ?_
          refine zV_pk [0, 1, 2, 4] rfl ?_
          exact vX8_readsEnd_50 (fX8_readsEnd_19 n) ih x0 x1 x2 x4 x4 M _ h
set_option maxHeartbeats 4000000 in
set_option maxRecDepth 100000 in
theorem vX8_readsEnd_15 {l : Launch} {D : va_G} {T : Nat → ClassId} {b : Nat} {gr : Bool} {n0 : Nat} (x0 : Nat) (x1 : Int32) (x2 : Int32) (s0 : Int32) (M : zM) (o : Int32 × zM) (h : fX8_readsEnd_15 x0 x1 x2 s0 M = some o) : zV false l RX8 cX8_readsEnd 5 none false 4 0 0 D T b gr n0 (0, o.1, o.2) 0 0 15 [(0, zr b x0), (1, .int x1), (2, .int x2)] [.int s0] M := by
  unfold fX8_readsEnd_15 at h
  refine zV_istore_n [(3, .int s0), (0, zr b x0), (1, .int x1), (2, .int x2)] dX8_readsEnd_15 rfl (by decide) rfl ?_
  refine zV_iconst (v := 0) dX8_readsEnd_16 (by decide) ?_
  refine zV_istore [(4, .int 0), (3, .int s0), (0, zr b x0), (1, .int x1), (2, .int x2)] dX8_readsEnd_17 (by decide) rfl ?_
  refine zV_pk [2, 3, 4, 1, 0] rfl ?_
  exact vX8_readsEnd_19 10000 x0 x1 x2 s0 0 M _ h
set_option maxHeartbeats 4000000 in
set_option maxRecDepth 100000 in
theorem vX8_readsEnd (l : Launch) (D : va_G) (T : Nat → ClassId) (b : Nat) (gr : Bool) (x0 : Nat) (x1 : Int32) (x2 : Int32) (M : zM) (r : Int32) (M' : zM) (h : fX8_readsEnd x0 x1 x2 M = some (r, M')) : zMet l D T b gr yX8_readsEnd cX8_readsEnd 5 none 4 0 0 [zr b x0, .int x1, .int x2] M (0, r, M') := by
  refine zEntry2 false (fun h9 => nomatch h9) zp_yX8_readsEnd ⟨zr_cat _ _, rfl, rfl, trivial⟩ (Nat.le_of_ble_eq_true rfl) ?_
  obtain ⟨o, ho⟩ : ∃ o : Int32 × zM, o = (r, M') := ⟨_, rfl⟩
  rw [← ho] at h
  rw [show ((0, r, M') : Nat × Int32 × zM) = (0, o.1, o.2) by rw [ho]]
  show zV false l RX8 cX8_readsEnd 5 none false 4 0 0 D T b gr M.2.2.2 (0, o.1, o.2) 0 0 0 [(0, zr b x0), (1, .int x1), (2, .int x2)] [] M
  unfold fX8_readsEnd at h
  refine zV_iload_n (j := 1) dX8_readsEnd_0 rfl rfl ?_
  refine zV_iconst (v := 3) dX8_readsEnd_1 (by decide) ?_
  refine zV_icmp_ne (tgt := 14) dX8_readsEnd_2 (by decide) (fun c18 => ?_) (fun c18 => ?_)
  · replace h := z_f c18 h
    refine zV_iconst (v := (-1)) dX8_readsEnd_14 (by decide) ?_
    exact vX8_readsEnd_15 x0 x1 x2 (-1) M _ h
  · replace h := z_t c18 h
    refine zV_aload_n (j := 0) dX8_readsEnd_5 rfl rfl ?_
    obtain ⟨g19, h⟩ := zg_of h
    refine zV_getI zf_RX8_190 dX8_readsEnd_6 rfl g19 ?_
    refine zV_iconst (v := 1) dX8_readsEnd_9 (by decide) ?_
    refine zV_isub dX8_readsEnd_10 ?_
    refine zV_goto (tgt := 15) dX8_readsEnd_11 (by decide) ?_
    exact vX8_readsEnd_15 x0 x1 x2 ((zI M x0 23) - 1) M _ h
set_option maxHeartbeats 4000000 in
set_option maxRecDepth 100000 in
theorem vX8_readsLine (l : Launch) (D : va_G) (T : Nat → ClassId) (b : Nat) (gr : Bool) (x0 : Nat) (x1 : Int32) (M : zM) (r : Int32) (M' : zM) (h : fX8_readsLine x0 x1 M = some (r, M')) : zMet l D T b gr yX8_readsLine cX8_readsLine 4 none 5 0 0 [zr b x0, .int x1] M (0, r, M') := by
  refine zEntry2 false (fun h9 => nomatch h9) zp_yX8_readsLine ⟨zr_cat _ _, rfl, trivial⟩ (Nat.le_of_ble_eq_true rfl) ?_
  obtain ⟨o, ho⟩ : ∃ o : Int32 × zM, o = (r, M') := ⟨_, rfl⟩
  rw [← ho] at h
  rw [show ((0, r, M') : Nat × Int32 × zM) = (0, o.1, o.2) by rw [ho]]
  show zV false l RX8 cX8_readsLine 4 none false 5 0 0 D T b gr M.2.2.2 (0, o.1, o.2) 0 0 0 [(0, zr b x0), (1, .int x1)] [] M
  unfold fX8_readsLine at h
  refine zV_aload_n (j := 0) dX8_readsLine_0 rfl rfl ?_
  refine zV_iload_n (j := 1) dX8_readsLine_1 rfl rfl ?_
  refine zV_iconst (v := 1) dX8_readsLine_2 (by decide) ?_
  refine zV_isub dX8_readsLine_3 ?_
  obtain ⟨g1, h⟩ := zg_of h
  obtain ⟨r2, M3, q4, h⟩ := zb_of h
  refine zV_callVi (ci := 8) (As := [.int (x1 - 1)]) (rest := []) (vX8_sortAt l D T b gr x0 (x1 - 1) M _ _ q4) zm_yX8_sortAt zl_RX8_266 zi_yX8_sortAt ze_yX8_sortAt zcI8 g1 rfl rfl (zcs trivial (Nat.le_of_ble_eq_true rfl)) (by decide) (by decide) (by decide) dX8_readsLine_4 ?_
  refine zV_istore_n [(2, .int r2), (0, zr b x0), (1, .int x1)] dX8_readsLine_7 rfl (by decide) rfl ?_
  refine zV_aload_n (j := 1) dX8_readsLine_8 rfl rfl ?_
  refine zV_iload_n (j := 2) dX8_readsLine_9 rfl rfl ?_
  refine zV_iconst (v := 1) dX8_readsLine_10 (by decide) ?_
  refine zV_iadd dX8_readsLine_11 ?_
  obtain ⟨g5, h⟩ := zg_of h
  obtain ⟨r6, M7, q8, h⟩ := zb_of h
  refine zV_callVi (ci := 8) (As := [.int (x1 + 1)]) (rest := []) (vX8_sortAt l D T b gr x0 (x1 + 1) M3 _ _ q8) zm_yX8_sortAt zl_RX8_266 zi_yX8_sortAt ze_yX8_sortAt zcI8 g5 rfl rfl (zcs trivial (Nat.le_of_ble_eq_true rfl)) (by decide) (by decide) (by decide) dX8_readsLine_12 ?_
  refine zV_istore_n [(3, .int r6), (2, .int r2), (0, zr b x0), (1, .int x1)] dX8_readsLine_15 rfl (by decide) rfl ?_
  refine zV_iload_n (j := 1) dX8_readsLine_16 rfl rfl ?_
  refine zV_if_eq (tgt := 43) dX8_readsLine_17 (by decide) (fun c9 => ?_) (fun c9 => ?_)
  · replace h := z_t c9 h
    exact zV_vret (x := 0) rfl dX8_readsLine_43 (by decide) (by decide) (z_ret h)
  · replace h := z_f c9 h
    refine zV_iload_n (j := 1) dX8_readsLine_20 rfl rfl ?_
    refine zV_iconst (v := 2) dX8_readsLine_21 (by decide) ?_
    refine zV_icmp_eq (tgt := 43) dX8_readsLine_22 (by decide) (fun c10 => ?_) (fun c10 => ?_)
    · replace h := z_t c10 h
      exact zV_vret (x := 0) rfl dX8_readsLine_43 (by decide) (by decide) (z_ret h)
    · replace h := z_f c10 h
      refine zV_iload_n (j := 0) dX8_readsLine_25 rfl rfl ?_
      refine zV_iconst (v := 1) dX8_readsLine_26 (by decide) ?_
      refine zV_icmp_eq (tgt := 43) dX8_readsLine_27 (by decide) (fun c11 => ?_) (fun c11 => ?_)
      · replace h := z_t c11 h
        exact zV_vret (x := 0) rfl dX8_readsLine_43 (by decide) (by decide) (z_ret h)
      · replace h := z_f c11 h
        refine zV_iload_n (j := 0) dX8_readsLine_30 rfl rfl ?_
        refine zV_iconst (v := 3) dX8_readsLine_31 (by decide) ?_
        refine zV_icmp_eq (tgt := 43) dX8_readsLine_32 (by decide) (fun c12 => ?_) (fun c12 => ?_)
        · replace h := z_t c12 h
          exact zV_vret (x := 0) rfl dX8_readsLine_43 (by decide) (by decide) (z_ret h)
        · replace h := z_f c12 h
          refine zV_aload_n (j := 2) dX8_readsLine_35 rfl rfl ?_
          refine zV_bipush (v := 10) dX8_readsLine_36 (by decide) ?_
          refine zV_bipush (v := 32) dX8_readsLine_38 (by decide) ?_
          obtain ⟨g13, h⟩ := zg_of h
          obtain ⟨r14, M15, q16, h⟩ := zb_of h
          refine zV_callVv (ci := 8) (As := [.int 10, .int 32]) (rest := []) (vX8_readsThing l D T b gr x0 10 32 M7 _ _ q16) zm_yX8_readsThing zl_RX8_256 zi_yX8_readsThing ze_yX8_readsThing zcI8 g13 rfl rfl (zcs trivial (Nat.le_of_ble_eq_true rfl)) (by decide) (by decide) (by decide) dX8_readsLine_40 ?_
          exact zV_vret (x := 0) rfl dX8_readsLine_43 (by decide) (by decide) (z_ret h)
set_option maxHeartbeats 4000000 in
set_option maxRecDepth 100000 in
theorem vX8_readsToken_327 {l : Launch} {D : va_G} {T : Nat → ClassId} {b : Nat} {gr : Bool} {n0 : Nat} (x0 : Nat) (M : zM) (o : Int32 × zM) (h : fX8_readsToken_327 x0 M = some o) : zV false l RX8 cX8_readsToken 5 none false 6 0 0 D T b gr n0 (0, o.1, o.2) 0 0 327 [(0, zr b x0)] [] M := by
  unfold fX8_readsToken_327 at h
  refine zV_aload_n (j := 0) dX8_readsToken_327 rfl rfl ?_
  obtain ⟨g1, h⟩ := zg_of h
  refine zV_getR zf_RX8_92 dX8_readsToken_328 rfl g1 ?_
  refine zV_aload_n (j := 0) dX8_readsToken_331 rfl rfl ?_
  refine zV_getI zf_RX8_246 dX8_readsToken_332 rfl g1 ?_
  refine zV_dup2 dX8_readsToken_335 rfl (zr_cat _ _) ?_
  obtain ⟨g2, h⟩ := zg_of h
  obtain ⟨g3, h⟩ := zg_of h
  refine zV_iald dX8_readsToken_336 g2 g3 ?_
  refine zV_iconst (v := 1) dX8_readsToken_337 (by decide) ?_
  refine zV_iadd dX8_readsToken_338 ?_
  obtain ⟨g4, h⟩ := zg_of h
  refine zV_iast dX8_readsToken_339 g2 g4 ?_
  refine zV_mem (fun M5 e6 => ?_)
  replace h := zlet_of h e6
  exact zV_vret (x := 0) rfl dX8_readsToken_340 (by decide) (by decide) (z_ret h)
set_option maxHeartbeats 4000000 in
set_option maxRecDepth 100000 in
theorem vX8_readsToken_286 {l : Launch} {D : va_G} {T : Nat → ClassId} {b : Nat} {gr : Bool} {n0 : Nat} (x0 : Nat) (x3 : Int32) (M : zM) (o : Int32 × zM) (h : fX8_readsToken_286 x0 x3 M = some o) : zV false l RX8 cX8_readsToken 5 none false 6 0 0 D T b gr n0 (0, o.1, o.2) 0 0 286 [(0, zr b x0), (3, .int x3)] [] M := by
  unfold fX8_readsToken_286 at h
  refine zV_aload_n (j := 0) dX8_readsToken_286 rfl rfl ?_
  refine zV_dup dX8_readsToken_287 (zr_cat _ _) ?_
  obtain ⟨g7, h⟩ := zg_of h
  refine zV_getI zf_RX8_246 dX8_readsToken_288 rfl g7 ?_
  refine zV_iconst (v := 1) dX8_readsToken_291 (by decide) ?_
  refine zV_iadd dX8_readsToken_292 ?_
  refine zV_putI zf_RX8_246 dX8_readsToken_293 rfl rfl g7 ?_
  refine zV_mem (fun M8 e9 => ?_)
  replace h := zlet_of h e9
  refine zV_aload_n (j := 0) dX8_readsToken_296 rfl rfl ?_
  refine zV_getR zf_RX8_89 dX8_readsToken_297 rfl (zkI e9 g7) ?_
  refine zV_aload_n (j := 0) dX8_readsToken_300 rfl rfl ?_
  refine zV_getI zf_RX8_246 dX8_readsToken_301 rfl (zkI e9 g7) ?_
  refine zV_iload_n (j := 1) dX8_readsToken_304 rfl rfl ?_
  obtain ⟨g10, h⟩ := zg_of h
  obtain ⟨g11, h⟩ := zg_of h
  refine zV_iast dX8_readsToken_305 g10 g11 ?_
  refine zV_mem (fun M12 e13 => ?_)
  replace h := zlet_of h e13
  refine zV_aload_n (j := 0) dX8_readsToken_306 rfl rfl ?_
  refine zV_getR zf_RX8_92 dX8_readsToken_307 rfl (zkI e13 (zkI e9 g7)) ?_
  refine zV_aload_n (j := 0) dX8_readsToken_310 rfl rfl ?_
  refine zV_getI zf_RX8_246 dX8_readsToken_311 rfl (zkI e13 (zkI e9 g7)) ?_
  refine zV_iconst (v := 0) dX8_readsToken_314 (by decide) ?_
  obtain ⟨g14, h⟩ := zg_of h
  obtain ⟨g15, h⟩ := zg_of h
  refine zV_iast dX8_readsToken_315 g14 g15 ?_
  refine zV_mem (fun M16 e17 => ?_)
  replace h := zlet_of h e17
  refine zV_aload_n (j := 0) dX8_readsToken_316 rfl rfl ?_
  refine zV_getR zf_RX8_95 dX8_readsToken_317 rfl (zkI e17 (zkI e13 (zkI e9 g7))) ?_
  refine zV_aload_n (j := 0) dX8_readsToken_320 rfl rfl ?_
  refine zV_getI zf_RX8_246 dX8_readsToken_321 rfl (zkI e17 (zkI e13 (zkI e9 g7))) ?_
  refine zV_iconst (v := 0) dX8_readsToken_324 (by decide) ?_
  obtain ⟨g18, h⟩ := zg_of h
  obtain ⟨g19, h⟩ := zg_of h
  refine zV_iast dX8_readsToken_325 g18 g19 ?_
  refine zV_mem (fun M20 e21 => ?_)
  replace h := zlet_of h e21
  exact zV_vret (x := 0) rfl dX8_readsToken_326 (by decide) (by decide) (z_ret h)
set_option maxHeartbeats 4000000 in
set_option maxRecDepth 100000 in
theorem vX8_readsToken_278 {l : Launch} {D : va_G} {T : Nat → ClassId} {b : Nat} {gr : Bool} {n0 : Nat} (x0 : Nat) (M : zM) (o : Int32 × zM) (h : fX8_readsToken_278 x0 M = some o) : zV false l RX8 cX8_readsToken 5 none false 6 0 0 D T b gr n0 (0, o.1, o.2) 0 0 278 [(0, zr b x0)] [] M := by
  unfold fX8_readsToken_278 at h
  refine zV_aload_n (j := 0) dX8_readsToken_278 rfl rfl ?_
  refine zV_iconst (v := 4) dX8_readsToken_279 (by decide) ?_
  obtain ⟨g22, h⟩ := zg_of h
  obtain ⟨r23, M24, q25, h⟩ := zb_of h
  refine zV_callVv (ci := 8) (As := [.int 4]) (rest := []) (vX8_fails l D T b gr x0 4 M _ _ q25) zm_yX8_fails zl_RX8_225 zi_yX8_fails ze_yX8_fails zcI8 g22 rfl rfl (zcs trivial (Nat.le_of_ble_eq_true rfl)) (by decide) (by decide) (by decide) dX8_readsToken_280 ?_
  refine zV_goto (tgt := 327) dX8_readsToken_283 (by decide) ?_
  exact vX8_readsToken_327 x0 M24 _ h
set_option maxHeartbeats 4000000 in
set_option maxRecDepth 100000 in
theorem vX8_readsToken_154 {l : Launch} {D : va_G} {T : Nat → ClassId} {b : Nat} {gr : Bool} {n0 : Nat} (x0 : Nat) (x2 : Int32) (x3 : Int32) (M : zM) (o : Int32 × zM) (h : fX8_readsToken_154 x0 x2 x3 M = some o) : zV false l RX8 cX8_readsToken 5 none false 6 0 0 D T b gr n0 (0, o.1, o.2) 0 0 154 [(0, zr b x0), (2, .int x2), (3, .int x3)] [] M := by
  unfold fX8_readsToken_154 at h
  refine zV_aload_n (j := 0) dX8_readsToken_154 rfl rfl ?_
  refine zV_iload_n (j := 1) dX8_readsToken_155 rfl rfl ?_
  refine zV_iload_n (j := 2) dX8_readsToken_156 rfl rfl ?_
  obtain ⟨g26, h⟩ := zg_of h
  obtain ⟨r27, M28, q29, h⟩ := zb_of h
  refine zV_callVv (ci := 8) (As := [.int x2, .int x3]) (rest := []) (vX8_readsEnd l D T b gr x0 x2 x3 M _ _ q29) zm_yX8_readsEnd zl_RX8_275 zi_yX8_readsEnd ze_yX8_readsEnd zcI8 g26 rfl rfl (zcs trivial (Nat.le_of_ble_eq_true rfl)) (by decide) (by decide) (by decide) dX8_readsToken_157 ?_
  refine zV_goto (tgt := 327) dX8_readsToken_160 (by decide) ?_
  refine zV_pk [0] rfl ?_
  exact vX8_readsToken_327 x0 M28 _ h
set_option maxHeartbeats 4000000 in
set_option maxRecDepth 100000 in
theorem vX8_readsToken_89 {l : Launch} {D : va_G} {T : Nat → ClassId} {b : Nat} {gr : Bool} {n0 : Nat} (x0 : Nat) (x2 : Int32) (x3 : Int32) (M : zM) (o : Int32 × zM) (h : fX8_readsToken_89 x0 x2 x3 M = some o) : zV false l RX8 cX8_readsToken 5 none false 6 0 0 D T b gr n0 (0, o.1, o.2) 0 0 89 [(0, zr b x0), (2, .int x2), (3, .int x3)] [] M := by
  unfold fX8_readsToken_89 at h
  refine zV_aload_n (j := 0) dX8_readsToken_89 rfl rfl ?_
  refine zV_iload_n (j := 1) dX8_readsToken_90 rfl rfl ?_
  refine zV_iload_n (j := 2) dX8_readsToken_91 rfl rfl ?_
  obtain ⟨g30, h⟩ := zg_of h
  obtain ⟨r31, M32, q33, h⟩ := zb_of h
  refine zV_callVv (ci := 8) (As := [.int x2, .int x3]) (rest := []) (vX8_readsPlain l D T b gr x0 x2 x3 M _ _ q33) zm_yX8_readsPlain zl_RX8_272 zi_yX8_readsPlain ze_yX8_readsPlain zcI8 g30 rfl rfl (zcs trivial (Nat.le_of_ble_eq_true rfl)) (by decide) (by decide) (by decide) dX8_readsToken_92 ?_
  refine zV_goto (tgt := 327) dX8_readsToken_95 (by decide) ?_
  refine zV_pk [0] rfl ?_
  exact vX8_readsToken_327 x0 M32 _ h
set_option maxHeartbeats 4000000 in
set_option maxRecDepth 100000 in
theorem vX8_readsToken_72 {l : Launch} {D : va_G} {T : Nat → ClassId} {b : Nat} {gr : Bool} {n0 : Nat} (x0 : Nat) (s0 : Nat) (s1 : Int32) (s2 : Int32) (s3 : Int32) (M : zM) (o : Int32 × zM) (h : fX8_readsToken_72 x0 s0 s1 s2 s3 M = some o) : zV false l RX8 cX8_readsToken 5 none false 6 0 0 D T b gr n0 (0, o.1, o.2) 0 0 72 [(0, zr b x0)] [.int s3, .int s2, .int s1, zr b s0] M := by
  unfold fX8_readsToken_72 at h
  refine zV_isub dX8_readsToken_72 ?_
  obtain ⟨g34, h⟩ := zg_of h
  obtain ⟨g35, h⟩ := zg_of h
  refine zV_iast dX8_readsToken_73 g34 g35 ?_
  refine zV_mem (fun M36 e37 => ?_)
  replace h := zlet_of h e37
  refine zV_goto (tgt := 327) dX8_readsToken_74 (by decide) ?_
  exact vX8_readsToken_327 x0 M36 _ h
set_option maxHeartbeats 4000000 in
set_option maxRecDepth 100000 in
theorem vX8_readsToken_51 {l : Launch} {D : va_G} {T : Nat → ClassId} {b : Nat} {gr : Bool} {n0 : Nat} (x0 : Nat) (x2 : Int32) (M : zM) (o : Int32 × zM) (h : fX8_readsToken_51 x0 x2 M = some o) : zV false l RX8 cX8_readsToken 5 none false 6 0 0 D T b gr n0 (0, o.1, o.2) 0 0 51 [(0, zr b x0), (2, .int x2)] [] M := by
  unfold fX8_readsToken_51 at h
  refine zV_aload_n (j := 0) dX8_readsToken_51 rfl rfl ?_
  obtain ⟨g38, h⟩ := zg_of h
  refine zV_getR zf_RX8_95 dX8_readsToken_52 rfl g38 ?_
  refine zV_aload_n (j := 0) dX8_readsToken_55 rfl rfl ?_
  refine zV_getI zf_RX8_246 dX8_readsToken_56 rfl g38 ?_
  refine zV_dup2 dX8_readsToken_59 rfl (zr_cat _ _) ?_
  obtain ⟨g39, h⟩ := zg_of h
  obtain ⟨g40, h⟩ := zg_of h
  refine zV_iald dX8_readsToken_60 g39 g40 ?_
  refine zV_iload_n (j := 1) dX8_readsToken_61 rfl rfl ?_
  refine zV_bipush (v := 8) dX8_readsToken_62 (by decide) ?_
  refine zV_icmp_ne (tgt := 71) dX8_readsToken_64 (by decide) (fun c41 => ?_) (fun c41 => ?_)
  · replace h := z_f c41 h
    refine zV_iconst (v := 0) dX8_readsToken_71 (by decide) ?_
    refine zV_pk [0] rfl ?_
    exact vX8_readsToken_72 x0 (zR M x0 39) (zI M x0 41) (zI M (zR M x0 39) (zI M x0 41).toNatClampNeg) 0 M _ h
  · replace h := z_t c41 h
    refine zV_iconst (v := 1) dX8_readsToken_67 (by decide) ?_
    refine zV_goto (tgt := 72) dX8_readsToken_68 (by decide) ?_
    refine zV_pk [0] rfl ?_
    exact vX8_readsToken_72 x0 (zR M x0 39) (zI M x0 41) (zI M (zR M x0 39) (zI M x0 41).toNatClampNeg) 1 M _ h
set_option maxHeartbeats 4000000 in
set_option maxRecDepth 100000 in
theorem vX8_readsToken_40 {l : Launch} {D : va_G} {T : Nat → ClassId} {b : Nat} {gr : Bool} {n0 : Nat} (x0 : Nat) (x2 : Int32) (M : zM) (o : Int32 × zM) (h : fX8_readsToken_40 x0 x2 M = some o) : zV false l RX8 cX8_readsToken 5 none false 6 0 0 D T b gr n0 (0, o.1, o.2) 0 0 40 [(0, zr b x0), (2, .int x2)] [] M := by
  unfold fX8_readsToken_40 at h
  refine zV_iload_n (j := 1) dX8_readsToken_40 rfl rfl ?_
  refine zV_bipush (v := 7) dX8_readsToken_41 (by decide) ?_
  refine zV_icmp_ne (tgt := 51) dX8_readsToken_43 (by decide) (fun c42 => ?_) (fun c42 => ?_)
  · replace h := z_f c42 h
    exact vX8_readsToken_51 x0 x2 M _ h
  · replace h := z_t c42 h
    refine zV_aload_n (j := 0) dX8_readsToken_46 rfl rfl ?_
    refine zV_iconst (v := 3) dX8_readsToken_47 (by decide) ?_
    obtain ⟨g43, h⟩ := zg_of h
    obtain ⟨r44, M45, q46, h⟩ := zb_of h
    refine zV_callVv (ci := 8) (As := [.int 3]) (rest := []) (vX8_opensMark l D T b gr x0 3 M _ _ q46) zm_yX8_opensMark zl_RX8_260 zi_yX8_opensMark ze_yX8_opensMark zcI8 g43 rfl rfl (zcs trivial (Nat.le_of_ble_eq_true rfl)) (by decide) (by decide) (by decide) dX8_readsToken_48 ?_
    exact vX8_readsToken_51 x0 x2 M45 _ h
set_option maxHeartbeats 4000000 in
set_option maxRecDepth 100000 in
theorem vX8_readsToken (l : Launch) (D : va_G) (T : Nat → ClassId) (b : Nat) (gr : Bool) (x0 : Nat) (M : zM) (r : Int32) (M' : zM) (h : fX8_readsToken x0 M = some (r, M')) : zMet l D T b gr yX8_readsToken cX8_readsToken 5 none 6 0 0 [zr b x0] M (0, r, M') := by
  refine zEntry2 false (fun h9 => nomatch h9) zp_yX8_readsToken ⟨zr_cat _ _, trivial⟩ (Nat.le_of_ble_eq_true rfl) ?_
  obtain ⟨o, ho⟩ : ∃ o : Int32 × zM, o = (r, M') := ⟨_, rfl⟩
  rw [← ho] at h
  rw [show ((0, r, M') : Nat × Int32 × zM) = (0, o.1, o.2) by rw [ho]]
  show zV false l RX8 cX8_readsToken 5 none false 6 0 0 D T b gr M.2.2.2 (0, o.1, o.2) 0 0 0 [(0, zr b x0)] [] M
  unfold fX8_readsToken at h
  refine zV_aload_n (j := 0) dX8_readsToken_0 rfl rfl ?_
  obtain ⟨g47, h⟩ := zg_of h
  refine zV_getR zf_RX8_92 dX8_readsToken_1 rfl g47 ?_
  refine zV_aload_n (j := 0) dX8_readsToken_4 rfl rfl ?_
  refine zV_getI zf_RX8_246 dX8_readsToken_5 rfl g47 ?_
  obtain ⟨g48, h⟩ := zg_of h
  obtain ⟨g49, h⟩ := zg_of h
  refine zV_iald dX8_readsToken_8 g48 g49 ?_
  refine zV_top (fun u50 e51 => ?_)
  replace h := zlet_of h e51
  refine zV_istore_n [(1, .int u50), (0, zr b x0)] dX8_readsToken_9 rfl (by decide) rfl ?_
  refine zV_aload_n (j := 1) dX8_readsToken_10 rfl rfl ?_
  refine zV_iload_n (j := 0) dX8_readsToken_11 rfl rfl ?_
  obtain ⟨r52, M53, q54, h⟩ := zb_of h
  refine zV_callVi (ci := 8) (As := [.int u50]) (rest := []) (vX8_sortAt l D T b gr x0 u50 M _ _ q54) zm_yX8_sortAt zl_RX8_266 zi_yX8_sortAt ze_yX8_sortAt zcI8 g47 rfl rfl (zcs trivial (Nat.le_of_ble_eq_true rfl)) (by decide) (by decide) (by decide) dX8_readsToken_12 ?_
  refine zV_istore_n [(2, .int r52), (1, .int u50), (0, zr b x0)] dX8_readsToken_15 rfl (by decide) rfl ?_
  refine zV_aload_n (j := 2) dX8_readsToken_16 rfl rfl ?_
  refine zV_iload_n (j := 1) dX8_readsToken_17 rfl rfl ?_
  obtain ⟨g55, h⟩ := zg_of h
  obtain ⟨r56, M57, q58, h⟩ := zb_of h
  refine zV_callVi (ci := 8) (As := [.int u50]) (rest := []) (vX8_valueAt l D T b gr x0 u50 M53 _ _ q58) zm_yX8_valueAt zl_RX8_269 zi_yX8_valueAt ze_yX8_valueAt zcI8 g55 rfl rfl (zcs trivial (Nat.le_of_ble_eq_true rfl)) (by decide) (by decide) (by decide) dX8_readsToken_18 ?_
  refine zV_istore_n [(3, .int r56), (2, .int r52), (1, .int u50), (0, zr b x0)] dX8_readsToken_21 rfl (by decide) rfl ?_
  refine zV_aload_n (j := 3) dX8_readsToken_22 rfl rfl ?_
  obtain ⟨g59, h⟩ := zg_of h
  obtain ⟨r60, M61, q62, h⟩ := zb_of h
  refine zV_callVi (ci := 8) (As := []) (rest := []) (vX8_mode l D T b gr x0 M57 _ _ q62) zm_yX8_mode zl_RX8_253 zi_yX8_mode ze_yX8_mode zcI8 g59 rfl rfl (zcs trivial (Nat.le_of_ble_eq_true rfl)) (by decide) (by decide) (by decide) dX8_readsToken_23 ?_
  refine zV_istore [(4, .int r60), (3, .int r56), (2, .int r52), (1, .int u50), (0, zr b x0)] dX8_readsToken_26 (by decide) rfl ?_
  refine zV_iload (j := 0) dX8_readsToken_28 rfl ?_
  refine zV_iconst (v := 1) dX8_readsToken_30 (by decide) ?_
  refine zV_icmp_eq (tgt := 40) dX8_readsToken_31 (by decide) (fun c63 => ?_) (fun c63 => ?_)
  · replace h := z_t c63 h
    refine zV_pk [4, 2] rfl ?_
    exact vX8_readsToken_40 x0 r52 M61 _ h
  · replace h := z_f c63 h
    refine zV_iload (j := 0) dX8_readsToken_34 rfl ?_
    refine zV_iconst (v := 3) dX8_readsToken_36 (by decide) ?_
    refine zV_icmp_ne (tgt := 77) dX8_readsToken_37 (by decide) (fun c64 => ?_) (fun c64 => ?_)
    · replace h := z_f c64 h
      refine zV_iload (j := 0) dX8_readsToken_77 rfl ?_
      refine zV_iconst (v := 2) dX8_readsToken_79 (by decide) ?_
      refine zV_icmp_eq (tgt := 89) dX8_readsToken_80 (by decide) (fun c65 => ?_) (fun c65 => ?_)
      · replace h := z_t c65 h
        refine zV_pk [4, 2, 1] rfl ?_
        exact vX8_readsToken_89 x0 r52 r56 M61 _ h
      · replace h := z_f c65 h
        refine zV_iload (j := 0) dX8_readsToken_83 rfl ?_
        refine zV_iconst (v := 4) dX8_readsToken_85 (by decide) ?_
        refine zV_icmp_ne (tgt := 98) dX8_readsToken_86 (by decide) (fun c66 => ?_) (fun c66 => ?_)
        · replace h := z_f c66 h
          refine zV_iload_n (j := 2) dX8_readsToken_98 rfl rfl ?_
          refine zV_if_ne (tgt := 111) dX8_readsToken_99 (by decide) (fun c67 => ?_) (fun c67 => ?_)
          · replace h := z_f c67 h
            refine zV_iload_n (j := 2) dX8_readsToken_111 rfl rfl ?_
            refine zV_iconst (v := 2) dX8_readsToken_112 (by decide) ?_
            refine zV_icmp_ne (tgt := 144) dX8_readsToken_113 (by decide) (fun c68 => ?_) (fun c68 => ?_)
            · replace h := z_f c68 h
              refine zV_iload_n (j := 2) dX8_readsToken_144 rfl rfl ?_
              refine zV_iconst (v := 1) dX8_readsToken_145 (by decide) ?_
              refine zV_icmp_eq (tgt := 154) dX8_readsToken_146 (by decide) (fun c69 => ?_) (fun c69 => ?_)
              · replace h := z_t c69 h
                refine zV_pk [4, 2, 1] rfl ?_
                exact vX8_readsToken_154 x0 r52 r56 M61 _ h
              · replace h := z_f c69 h
                refine zV_iload_n (j := 2) dX8_readsToken_149 rfl rfl ?_
                refine zV_iconst (v := 3) dX8_readsToken_150 (by decide) ?_
                refine zV_icmp_ne (tgt := 163) dX8_readsToken_151 (by decide) (fun c70 => ?_) (fun c70 => ?_)
                · replace h := z_f c70 h
                  refine zV_iload_n (j := 2) dX8_readsToken_163 rfl rfl ?_
                  refine zV_iconst (v := 4) dX8_readsToken_164 (by decide) ?_
                  refine zV_icmp_ne (tgt := 178) dX8_readsToken_165 (by decide) (fun c71 => ?_) (fun c71 => ?_)
                  · replace h := z_f c71 h
                    refine zV_iload_n (j := 2) dX8_readsToken_178 rfl rfl ?_
                    refine zV_iconst (v := 5) dX8_readsToken_179 (by decide) ?_
                    refine zV_icmp_ne (tgt := 191) dX8_readsToken_180 (by decide) (fun c72 => ?_) (fun c72 => ?_)
                    · replace h := z_f c72 h
                      refine zV_iload_n (j := 2) dX8_readsToken_191 rfl rfl ?_
                      refine zV_bipush (v := 7) dX8_readsToken_192 (by decide) ?_
                      refine zV_icmp_ne (tgt := 210) dX8_readsToken_194 (by decide) (fun c73 => ?_) (fun c73 => ?_)
                      · replace h := z_f c73 h
                        refine zV_iload_n (j := 2) dX8_readsToken_210 rfl rfl ?_
                        refine zV_bipush (v := 8) dX8_readsToken_211 (by decide) ?_
                        refine zV_icmp_ne (tgt := 252) dX8_readsToken_213 (by decide) (fun c74 => ?_) (fun c74 => ?_)
                        · replace h := z_f c74 h
                          refine zV_aload_n (j := 4) dX8_readsToken_252 rfl rfl ?_
                          obtain ⟨g75, h⟩ := zg_of h
                          refine zV_getI zf_RX8_246 dX8_readsToken_253 rfl g75 ?_
                          refine zV_iconst (v := 2) dX8_readsToken_256 (by decide) ?_
                          refine zV_icmp_eq (tgt := 278) dX8_readsToken_257 (by decide) (fun c76 => ?_) (fun c76 => ?_)
                          · replace h := z_t c76 h
                            refine zV_pk [4] rfl ?_
                            exact vX8_readsToken_278 x0 M61 _ h
                          · replace h := z_f c76 h
                            refine zV_aload_n (j := 4) dX8_readsToken_260 rfl rfl ?_
                            refine zV_getI zf_RX8_246 dX8_readsToken_261 rfl g75 ?_
                            refine zV_iconst (v := 1) dX8_readsToken_264 (by decide) ?_
                            refine zV_icmp_ne (tgt := 286) dX8_readsToken_265 (by decide) (fun c77 => ?_) (fun c77 => ?_)
                            · replace h := z_f c77 h
                              refine zV_pk [4, 1] rfl ?_
                              exact vX8_readsToken_286 x0 r56 M61 _ h
                            · replace h := z_t c77 h
                              refine zV_aload_n (j := 4) dX8_readsToken_268 rfl rfl ?_
                              refine zV_getR zf_RX8_89 dX8_readsToken_269 rfl g75 ?_
                              refine zV_iconst (v := 1) dX8_readsToken_272 (by decide) ?_
                              obtain ⟨g78, h⟩ := zg_of h
                              obtain ⟨g79, h⟩ := zg_of h
                              refine zV_iald dX8_readsToken_273 g78 g79 ?_
                              refine zV_iload_n (j := 1) dX8_readsToken_274 rfl rfl ?_
                              refine zV_icmp_ne (tgt := 286) dX8_readsToken_275 (by decide) (fun c80 => ?_) (fun c80 => ?_)
                              · replace h := z_f c80 h
                                refine zV_pk [4, 1] rfl ?_
                                exact vX8_readsToken_286 x0 r56 M61 _ h
                              · replace h := z_t c80 h
                                refine zV_pk [4] rfl ?_
                                exact vX8_readsToken_278 x0 M61 _ h
                        · replace h := z_t c74 h
                          refine zV_aload_n (j := 4) dX8_readsToken_216 rfl rfl ?_
                          obtain ⟨g81, h⟩ := zg_of h
                          refine zV_getR zf_RX8_95 dX8_readsToken_217 rfl g81 ?_
                          refine zV_aload_n (j := 4) dX8_readsToken_220 rfl rfl ?_
                          refine zV_getI zf_RX8_246 dX8_readsToken_221 rfl g81 ?_
                          obtain ⟨g82, h⟩ := zg_of h
                          obtain ⟨g83, h⟩ := zg_of h
                          refine zV_iald dX8_readsToken_224 g82 g83 ?_
                          refine zV_if_ne (tgt := 236) dX8_readsToken_225 (by decide) (fun c84 => ?_) (fun c84 => ?_)
                          · replace h := z_f c84 h
                            refine zV_aload_n (j := 4) dX8_readsToken_236 rfl rfl ?_
                            refine zV_getR zf_RX8_95 dX8_readsToken_237 rfl g81 ?_
                            refine zV_aload_n (j := 4) dX8_readsToken_240 rfl rfl ?_
                            refine zV_getI zf_RX8_246 dX8_readsToken_241 rfl g81 ?_
                            refine zV_dup2 dX8_readsToken_244 rfl (zr_cat _ _) ?_
                            obtain ⟨g85, h⟩ := zg_of h
                            refine zV_iald dX8_readsToken_245 g82 g85 ?_
                            refine zV_iconst (v := 1) dX8_readsToken_246 (by decide) ?_
                            refine zV_isub dX8_readsToken_247 ?_
                            obtain ⟨g86, h⟩ := zg_of h
                            refine zV_iast dX8_readsToken_248 g82 g86 ?_
                            refine zV_mem (fun M87 e88 => ?_)
                            replace h := zlet_of h e88
                            refine zV_goto (tgt := 327) dX8_readsToken_249 (by decide) ?_
                            refine zV_pk [4] rfl ?_
                            exact vX8_readsToken_327 x0 M87 _ h
                          · replace h := z_t c84 h
                            refine zV_aload_n (j := 4) dX8_readsToken_228 rfl rfl ?_
                            refine zV_iconst (v := 5) dX8_readsToken_229 (by decide) ?_
                            obtain ⟨r89, M90, q91, h⟩ := zb_of h
                            refine zV_callVv (ci := 8) (As := [.int 5]) (rest := []) (vX8_fails l D T b gr x0 5 M61 _ _ q91) zm_yX8_fails zl_RX8_225 zi_yX8_fails ze_yX8_fails zcI8 g81 rfl rfl (zcs trivial (Nat.le_of_ble_eq_true rfl)) (by decide) (by decide) (by decide) dX8_readsToken_230 ?_
                            refine zV_goto (tgt := 327) dX8_readsToken_233 (by decide) ?_
                            refine zV_pk [4] rfl ?_
                            exact vX8_readsToken_327 x0 M90 _ h
                      · replace h := z_t c73 h
                        refine zV_aload_n (j := 4) dX8_readsToken_197 rfl rfl ?_
                        refine zV_aload_n (j := 4) dX8_readsToken_198 rfl rfl ?_
                        obtain ⟨g92, h⟩ := zg_of h
                        refine zV_getR zf_RX8_41 dX8_readsToken_199 rfl g92 ?_
                        refine zV_iload_n (j := 1) dX8_readsToken_202 rfl rfl ?_
                        obtain ⟨g93, h⟩ := zg_of h
                        obtain ⟨g94, h⟩ := zg_of h
                        refine zV_iald dX8_readsToken_203 g93 g94 ?_
                        obtain ⟨r95, M96, q97, h⟩ := zb_of h
                        refine zV_callVv (ci := 8) (As := [.int (zI M61 (zR M61 x0 10) r56.toNatClampNeg)]) (rest := []) (vX8_opensMark l D T b gr x0 (zI M61 (zR M61 x0 10) r56.toNatClampNeg) M61 _ _ q97) zm_yX8_opensMark zl_RX8_260 zi_yX8_opensMark ze_yX8_opensMark zcI8 g92 rfl rfl (zcs trivial (Nat.le_of_ble_eq_true rfl)) (by decide) (by decide) (by decide) dX8_readsToken_204 ?_
                        refine zV_goto (tgt := 327) dX8_readsToken_207 (by decide) ?_
                        refine zV_pk [4] rfl ?_
                        exact vX8_readsToken_327 x0 M96 _ h
                    · replace h := z_t c72 h
                      refine zV_aload_n (j := 4) dX8_readsToken_183 rfl rfl ?_
                      refine zV_iload_n (j := 3) dX8_readsToken_184 rfl rfl ?_
                      obtain ⟨g98, h⟩ := zg_of h
                      obtain ⟨r99, M100, q101, h⟩ := zb_of h
                      refine zV_callVv (ci := 8) (As := [.int u50]) (rest := []) (vX8_readsLine l D T b gr x0 u50 M61 _ _ q101) zm_yX8_readsLine zl_RX8_278 zi_yX8_readsLine ze_yX8_readsLine zcI8 g98 rfl rfl (zcs trivial (Nat.le_of_ble_eq_true rfl)) (by decide) (by decide) (by decide) dX8_readsToken_185 ?_
                      refine zV_goto (tgt := 327) dX8_readsToken_188 (by decide) ?_
                      refine zV_pk [4] rfl ?_
                      exact vX8_readsToken_327 x0 M100 _ h
                  · replace h := z_t c71 h
                    refine zV_aload_n (j := 4) dX8_readsToken_168 rfl rfl ?_
                    refine zV_bipush (v := 10) dX8_readsToken_169 (by decide) ?_
                    refine zV_iload_n (j := 1) dX8_readsToken_171 rfl rfl ?_
                    obtain ⟨g102, h⟩ := zg_of h
                    obtain ⟨r103, M104, q105, h⟩ := zb_of h
                    refine zV_callVv (ci := 8) (As := [.int 10, .int r56]) (rest := []) (vX8_readsThing l D T b gr x0 10 r56 M61 _ _ q105) zm_yX8_readsThing zl_RX8_256 zi_yX8_readsThing ze_yX8_readsThing zcI8 g102 rfl rfl (zcs trivial (Nat.le_of_ble_eq_true rfl)) (by decide) (by decide) (by decide) dX8_readsToken_172 ?_
                    refine zV_goto (tgt := 327) dX8_readsToken_175 (by decide) ?_
                    refine zV_pk [4] rfl ?_
                    exact vX8_readsToken_327 x0 M104 _ h
                · replace h := z_t c70 h
                  refine zV_pk [4, 2, 1] rfl ?_
                  exact vX8_readsToken_154 x0 r52 r56 M61 _ h
            · replace h := z_t c68 h
              refine zV_aload_n (j := 4) dX8_readsToken_116 rfl rfl ?_
              obtain ⟨g106, h⟩ := zg_of h
              refine zV_getI zf_RX8_204 dX8_readsToken_117 rfl g106 ?_
              refine zV_iconst (v := (-1)) dX8_readsToken_120 (by decide) ?_
              refine zV_icmp_ne (tgt := 132) dX8_readsToken_121 (by decide) (fun c107 => ?_) (fun c107 => ?_)
              · replace h := z_f c107 h
                refine zV_aload_n (j := 4) dX8_readsToken_132 rfl rfl ?_
                refine zV_aload_n (j := 4) dX8_readsToken_133 rfl rfl ?_
                refine zV_getI zf_RX8_204 dX8_readsToken_134 rfl g106 ?_
                refine zV_iconst (v := 0) dX8_readsToken_137 (by decide) ?_
                obtain ⟨r108, M109, q110, h⟩ := zb_of h
                refine zV_callVv (ci := 8) (As := [.int (zI M61 x0 24), .int 0]) (rest := []) (vX8_readsThing l D T b gr x0 (zI M61 x0 24) 0 M61 _ _ q110) zm_yX8_readsThing zl_RX8_256 zi_yX8_readsThing ze_yX8_readsThing zcI8 g106 rfl rfl (zcs trivial (Nat.le_of_ble_eq_true rfl)) (by decide) (by decide) (by decide) dX8_readsToken_138 ?_
                refine zV_goto (tgt := 327) dX8_readsToken_141 (by decide) ?_
                refine zV_pk [4] rfl ?_
                exact vX8_readsToken_327 x0 M109 _ h
              · replace h := z_t c107 h
                refine zV_aload_n (j := 4) dX8_readsToken_124 rfl rfl ?_
                refine zV_iconst (v := 1) dX8_readsToken_125 (by decide) ?_
                obtain ⟨r111, M112, q113, h⟩ := zb_of h
                refine zV_callVv (ci := 8) (As := [.int 1]) (rest := []) (vX8_fails l D T b gr x0 1 M61 _ _ q113) zm_yX8_fails zl_RX8_225 zi_yX8_fails ze_yX8_fails zcI8 g106 rfl rfl (zcs trivial (Nat.le_of_ble_eq_true rfl)) (by decide) (by decide) (by decide) dX8_readsToken_126 ?_
                refine zV_goto (tgt := 327) dX8_readsToken_129 (by decide) ?_
                refine zV_pk [4] rfl ?_
                exact vX8_readsToken_327 x0 M112 _ h
          · replace h := z_t c67 h
            refine zV_aload_n (j := 4) dX8_readsToken_102 rfl rfl ?_
            refine zV_iload_n (j := 1) dX8_readsToken_103 rfl rfl ?_
            refine zV_iconst (v := 0) dX8_readsToken_104 (by decide) ?_
            obtain ⟨g114, h⟩ := zg_of h
            obtain ⟨r115, M116, q117, h⟩ := zb_of h
            refine zV_callVv (ci := 8) (As := [.int r56, .int 0]) (rest := []) (vX8_readsThing l D T b gr x0 r56 0 M61 _ _ q117) zm_yX8_readsThing zl_RX8_256 zi_yX8_readsThing ze_yX8_readsThing zcI8 g114 rfl rfl (zcs trivial (Nat.le_of_ble_eq_true rfl)) (by decide) (by decide) (by decide) dX8_readsToken_105 ?_
            refine zV_goto (tgt := 327) dX8_readsToken_108 (by decide) ?_
            refine zV_pk [4] rfl ?_
            exact vX8_readsToken_327 x0 M116 _ h
        · replace h := z_t c66 h
          refine zV_pk [4, 2, 1] rfl ?_
          exact vX8_readsToken_89 x0 r52 r56 M61 _ h
    · replace h := z_t c64 h
      refine zV_pk [4, 2] rfl ?_
      exact vX8_readsToken_40 x0 r52 M61 _ h
set_option maxHeartbeats 4000000 in
set_option maxRecDepth 100000 in
theorem vX8_readsRow_184 {l : Launch} {D : va_G} {T : Nat → ClassId} {b : Nat} {gr : Bool} {n0 : Nat} (x0 : Nat) (M : zM) (o : Int32 × zM) (h : fX8_readsRow_184 x0 M = some o) : zV false l RX8 cX8_readsRow 2 none false 7 0 0 D T b gr n0 (0, o.1, o.2) 0 0 184 [(0, zr b x0)] [] M := by
  unfold fX8_readsRow_184 at h
  refine zV_aload_n (j := 0) dX8_readsRow_184 rfl rfl ?_
  refine zV_iconst (v := 0) dX8_readsRow_185 (by decide) ?_
  refine zV_iconst (v := 1) dX8_readsRow_186 (by decide) ?_
  obtain ⟨g1, h⟩ := zg_of h
  obtain ⟨r2, M3, q4, h⟩ := zb_of h
  refine zV_callVv (ci := 8) (As := [.int 0, .int 1]) (rest := []) (vX8_closesTo l D T b gr x0 0 1 M _ _ q4) zm_yX8_closesTo zl_RX8_263 zi_yX8_closesTo ze_yX8_closesTo zcI8 g1 rfl rfl (zcs trivial (Nat.le_of_ble_eq_true rfl)) (by decide) (by decide) (by decide) dX8_readsRow_187 ?_
  exact zV_vret (x := 0) rfl dX8_readsRow_190 (by decide) (by decide) (z_ret h)
set_option maxHeartbeats 4000000 in
set_option maxRecDepth 100000 in
theorem vX8_readsRow_163 {l : Launch} {D : va_G} {T : Nat → ClassId} {b : Nat} {gr : Bool} {n0 : Nat} : ∀ (n : Nat) (x0 : Nat) (x1 : Int32) (M : zM) (o : Int32 × zM), fX8_readsRow_163 n x0 x1 M = some o → zV false l RX8 cX8_readsRow 2 none false 7 0 0 D T b gr n0 (0, o.1, o.2) 0 0 163 [(0, zr b x0), (1, .int x1)] [] M := by
  intro n
  induction n with
  | zero =>
    intro x0 x1 M o h
    rw [fX8_readsRow_163] at h
    cases h
  | succ n ih =>
    intro x0 x1 M o h
    rw [fX8_readsRow_163] at h
    refine zV_iload_n (j := 1) dX8_readsRow_163 rfl rfl ?_
    refine zV_aload_n (j := 0) dX8_readsRow_164 rfl rfl ?_
    obtain ⟨g5, h⟩ := zg_of h
    refine zV_getR zf_RX8_95 dX8_readsRow_165 rfl g5 ?_
    refine zV_iconst (v := 0) dX8_readsRow_168 (by decide) ?_
    obtain ⟨g6, h⟩ := zg_of h
    obtain ⟨g7, h⟩ := zg_of h
    refine zV_iald dX8_readsRow_169 g6 g7 ?_
    refine zV_icmp_ge (tgt := 184) dX8_readsRow_170 (by decide) (fun c8 => ?_) (fun c8 => ?_)
    · replace h := z_t c8 h
      refine zV_pk [0] rfl ?_
      exact vX8_readsRow_184 x0 M _ h
    · replace h := z_f c8 h
      refine zV_aload_n (j := 0) dX8_readsRow_173 rfl rfl ?_
      refine zV_iconst (v := 5) dX8_readsRow_174 (by decide) ?_
      obtain ⟨r9, M10, q11, h⟩ := zb_of h
      refine zV_callVv (ci := 8) (As := [.int 5]) (rest := []) (vX8_fails l D T b gr x0 5 M _ _ q11) zm_yX8_fails zl_RX8_225 zi_yX8_fails ze_yX8_fails zcI8 g5 rfl rfl (zcs trivial (Nat.le_of_ble_eq_true rfl)) (by decide) (by decide) (by decide) dX8_readsRow_175 ?_
      obtain ⟨u12, e13⟩ : ∃ y : Int32, y = x1 + 1 := ⟨_, rfl⟩
      replace h := zlet_of h e13
      refine zV_iinc (j := 1) (v := u12) [(1, .int u12), (0, zr b x0)] dX8_readsRow_178 rfl (by rw [e13]; rfl) (by decide) rfl ?_
      refine zV_goto (tgt := 163) dX8_readsRow_181 (by decide) ?_
      refine zV_pk [1, 0] rfl ?_
      exact ih x0 u12 M10 _ h
set_option maxHeartbeats 4000000 in
set_option maxRecDepth 100000 in
theorem vX8_readsRow_161 {l : Launch} {D : va_G} {T : Nat → ClassId} {b : Nat} {gr : Bool} {n0 : Nat} (x0 : Nat) (M : zM) (o : Int32 × zM) (h : fX8_readsRow_161 x0 M = some o) : zV false l RX8 cX8_readsRow 2 none false 7 0 0 D T b gr n0 (0, o.1, o.2) 0 0 161 [(0, zr b x0)] [] M := by
  unfold fX8_readsRow_161 at h
  refine zV_iconst (v := 0) dX8_readsRow_161 (by decide) ?_
  refine zV_istore_n [(1, .int 0), (0, zr b x0)] dX8_readsRow_162 rfl (by decide) rfl ?_
  refine zV_pk [1, 0] rfl ?_
  exact vX8_readsRow_163 10000 x0 0 M _ h
set_option maxHeartbeats 4000000 in
set_option maxRecDepth 100000 in
theorem vX8_readsRow_154 {l : Launch} {D : va_G} {T : Nat → ClassId} {b : Nat} {gr : Bool} {n0 : Nat} (k58 : Nat → zM → Option (Int32 × zM)) (hk58 : ∀ (z0 : Nat) (N : zM) (o : Int32 × zM), k58 z0 N = some o → zV false l RX8 cX8_readsRow 2 none false 7 0 0 D T b gr n0 (0, o.1, o.2) 0 0 58 [(0, zr b z0)] [] N) (x0 : Nat) (M : zM) (o : Int32 × zM) (h : fX8_readsRow_154 k58 x0 M = some o) : zV false l RX8 cX8_readsRow 2 none false 7 0 0 D T b gr n0 (0, o.1, o.2) 0 0 154 [(0, zr b x0)] [] M := by
  unfold fX8_readsRow_154 at h
  refine zV_aload_n (j := 0) dX8_readsRow_154 rfl rfl ?_
  obtain ⟨g14, h⟩ := zg_of h
  obtain ⟨r15, M16, q17, h⟩ := zb_of h
  refine zV_callVv (ci := 8) (As := []) (rest := []) (vX8_keepsState l D T b gr x0 M _ _ q17) zm_yX8_keepsState zl_RX8_284 zi_yX8_keepsState ze_yX8_keepsState zcI8 g14 rfl rfl (zcs trivial (Nat.le_of_ble_eq_true rfl)) (by decide) (by decide) (by decide) dX8_readsRow_155 ?_
  refine zV_goto (tgt := 58) dX8_readsRow_158 (by decide) ?_
  exact hk58 x0 M16 _ h
set_option maxHeartbeats 4000000 in
set_option maxRecDepth 100000 in
theorem vX8_readsRow_124 {l : Launch} {D : va_G} {T : Nat → ClassId} {b : Nat} {gr : Bool} {n0 : Nat} (k58 : Nat → zM → Option (Int32 × zM)) (hk58 : ∀ (z0 : Nat) (N : zM) (o : Int32 × zM), k58 z0 N = some o → zV false l RX8 cX8_readsRow 2 none false 7 0 0 D T b gr n0 (0, o.1, o.2) 0 0 58 [(0, zr b z0)] [] N) (x0 : Nat) (M : zM) (o : Int32 × zM) (h : fX8_readsRow_124 k58 x0 M = some o) : zV false l RX8 cX8_readsRow 2 none false 7 0 0 D T b gr n0 (0, o.1, o.2) 0 0 124 [(0, zr b x0)] [] M := by
  unfold fX8_readsRow_124 at h
  refine zV_aload_n (j := 0) dX8_readsRow_124 rfl rfl ?_
  refine zV_dup dX8_readsRow_125 (zr_cat _ _) ?_
  obtain ⟨g18, h⟩ := zg_of h
  refine zV_getI zf_RX8_246 dX8_readsRow_126 rfl g18 ?_
  refine zV_iconst (v := 1) dX8_readsRow_129 (by decide) ?_
  refine zV_isub dX8_readsRow_130 ?_
  refine zV_putI zf_RX8_246 dX8_readsRow_131 rfl rfl g18 ?_
  refine zV_mem (fun M19 e20 => ?_)
  replace h := zlet_of h e20
  refine zV_aload_n (j := 0) dX8_readsRow_134 rfl rfl ?_
  refine zV_getR zf_RX8_92 dX8_readsRow_135 rfl (zkI e20 g18) ?_
  refine zV_aload_n (j := 0) dX8_readsRow_138 rfl rfl ?_
  refine zV_getI zf_RX8_246 dX8_readsRow_139 rfl (zkI e20 g18) ?_
  refine zV_dup2 dX8_readsRow_142 rfl (zr_cat _ _) ?_
  obtain ⟨g21, h⟩ := zg_of h
  obtain ⟨g22, h⟩ := zg_of h
  refine zV_iald dX8_readsRow_143 g21 g22 ?_
  refine zV_iconst (v := 1) dX8_readsRow_144 (by decide) ?_
  refine zV_iadd dX8_readsRow_145 ?_
  obtain ⟨g23, h⟩ := zg_of h
  refine zV_iast dX8_readsRow_146 g21 g23 ?_
  refine zV_mem (fun M24 e25 => ?_)
  replace h := zlet_of h e25
  refine zV_goto (tgt := 154) dX8_readsRow_147 (by decide) ?_
  exact vX8_readsRow_154 k58 hk58 x0 M24 _ h
set_option maxHeartbeats 4000000 in
set_option maxRecDepth 100000 in
theorem vX8_readsRow_100 {l : Launch} {D : va_G} {T : Nat → ClassId} {b : Nat} {gr : Bool} {n0 : Nat} (k58 : Nat → zM → Option (Int32 × zM)) (hk58 : ∀ (z0 : Nat) (N : zM) (o : Int32 × zM), k58 z0 N = some o → zV false l RX8 cX8_readsRow 2 none false 7 0 0 D T b gr n0 (0, o.1, o.2) 0 0 58 [(0, zr b z0)] [] N) : ∀ (n : Nat) (x0 : Nat) (x1 : Int32) (M : zM) (o : Int32 × zM), fX8_readsRow_100 k58 n x0 x1 M = some o → zV false l RX8 cX8_readsRow 2 none false 7 0 0 D T b gr n0 (0, o.1, o.2) 0 0 100 [(0, zr b x0), (1, .int x1)] [] M := by
  intro n
  induction n with
  | zero =>
    intro x0 x1 M o h
    rw [fX8_readsRow_100] at h
    cases h
  | succ n ih =>
    intro x0 x1 M o h
    rw [fX8_readsRow_100] at h
    refine zV_iload_n (j := 1) dX8_readsRow_100 rfl rfl ?_
    refine zV_aload_n (j := 0) dX8_readsRow_101 rfl rfl ?_
    obtain ⟨g26, h⟩ := zg_of h
    refine zV_getR zf_RX8_95 dX8_readsRow_102 rfl g26 ?_
    refine zV_aload_n (j := 0) dX8_readsRow_105 rfl rfl ?_
    refine zV_getI zf_RX8_246 dX8_readsRow_106 rfl g26 ?_
    obtain ⟨g27, h⟩ := zg_of h
    obtain ⟨g28, h⟩ := zg_of h
    refine zV_iald dX8_readsRow_109 g27 g28 ?_
    refine zV_icmp_ge (tgt := 124) dX8_readsRow_110 (by decide) (fun c29 => ?_) (fun c29 => ?_)
    · replace h := z_t c29 h
      refine zV_pk [0] rfl ?_
      exact vX8_readsRow_124 k58 hk58 x0 M _ h
    · replace h := z_f c29 h
      refine zV_aload_n (j := 0) dX8_readsRow_113 rfl rfl ?_
      refine zV_iconst (v := 5) dX8_readsRow_114 (by decide) ?_
      obtain ⟨r30, M31, q32, h⟩ := zb_of h
      refine zV_callVv (ci := 8) (As := [.int 5]) (rest := []) (vX8_fails l D T b gr x0 5 M _ _ q32) zm_yX8_fails zl_RX8_225 zi_yX8_fails ze_yX8_fails zcI8 g26 rfl rfl (zcs trivial (Nat.le_of_ble_eq_true rfl)) (by decide) (by decide) (by decide) dX8_readsRow_115 ?_
      obtain ⟨u33, e34⟩ : ∃ y : Int32, y = x1 + 1 := ⟨_, rfl⟩
      replace h := zlet_of h e34
      refine zV_iinc (j := 1) (v := u33) [(1, .int u33), (0, zr b x0)] dX8_readsRow_118 rfl (by rw [e34]; rfl) (by decide) rfl ?_
      refine zV_goto (tgt := 100) dX8_readsRow_121 (by decide) ?_
      refine zV_pk [1, 0] rfl ?_
      exact ih x0 u33 M31 _ h
set_option maxHeartbeats 4000000 in
set_option maxRecDepth 100000 in
theorem vX8_readsRow_78 {l : Launch} {D : va_G} {T : Nat → ClassId} {b : Nat} {gr : Bool} {n0 : Nat} (k58 : Nat → zM → Option (Int32 × zM)) (hk58 : ∀ (z0 : Nat) (N : zM) (o : Int32 × zM), k58 z0 N = some o → zV false l RX8 cX8_readsRow 2 none false 7 0 0 D T b gr n0 (0, o.1, o.2) 0 0 58 [(0, zr b z0)] [] N) (x0 : Nat) (M : zM) (o : Int32 × zM) (h : fX8_readsRow_78 k58 x0 M = some o) : zV false l RX8 cX8_readsRow 2 none false 7 0 0 D T b gr n0 (0, o.1, o.2) 0 0 78 [(0, zr b x0)] [] M := by
  unfold fX8_readsRow_78 at h
  refine zV_aload_n (j := 0) dX8_readsRow_78 rfl rfl ?_
  obtain ⟨g35, h⟩ := zg_of h
  refine zV_getR zf_RX8_92 dX8_readsRow_79 rfl g35 ?_
  refine zV_aload_n (j := 0) dX8_readsRow_82 rfl rfl ?_
  refine zV_getI zf_RX8_246 dX8_readsRow_83 rfl g35 ?_
  obtain ⟨g36, h⟩ := zg_of h
  obtain ⟨g37, h⟩ := zg_of h
  refine zV_iald dX8_readsRow_86 g36 g37 ?_
  refine zV_aload_n (j := 0) dX8_readsRow_87 rfl rfl ?_
  refine zV_aload_n (j := 0) dX8_readsRow_88 rfl rfl ?_
  refine zV_getI zf_RX8_246 dX8_readsRow_89 rfl g35 ?_
  obtain ⟨r38, M39, q40, h⟩ := zb_of h
  refine zV_callVi (ci := 8) (As := [.int (zI M x0 41)]) (rest := [.int (zI M (zR M x0 38) (zI M x0 41).toNatClampNeg)]) (vX8_levelLength l D T b gr x0 (zI M x0 41) M _ _ q40) zm_yX8_levelLength zl_RX8_249 zi_yX8_levelLength ze_yX8_levelLength zcI8 g35 rfl rfl (zcs ⟨rfl, trivial⟩ (Nat.le_of_ble_eq_true rfl)) (by decide) (by decide) (by decide) dX8_readsRow_92 ?_
  refine zV_icmp_ne (tgt := 150) dX8_readsRow_95 (by decide) (fun c41 => ?_) (fun c41 => ?_)
  · replace h := z_f c41 h
    refine zV_aload_n (j := 0) dX8_readsRow_150 rfl rfl ?_
    obtain ⟨g42, h⟩ := zg_of h
    obtain ⟨r43, M44, q45, h⟩ := zb_of h
    refine zV_callVv (ci := 8) (As := []) (rest := []) (vX8_readsToken l D T b gr x0 M39 _ _ q45) zm_yX8_readsToken zl_RX8_287 zi_yX8_readsToken ze_yX8_readsToken zcI8 g42 rfl rfl (zcs trivial (Nat.le_of_ble_eq_true rfl)) (by decide) (by decide) (by decide) dX8_readsRow_151 ?_
    exact vX8_readsRow_154 k58 hk58 x0 M44 _ h
  · replace h := z_t c41 h
    refine zV_iconst (v := 0) dX8_readsRow_98 (by decide) ?_
    refine zV_istore_n [(1, .int 0), (0, zr b x0)] dX8_readsRow_99 rfl (by decide) rfl ?_
    refine zV_pk [1, 0] rfl ?_
    exact vX8_readsRow_100 k58 hk58 10000 x0 0 M39 _ h
set_option maxHeartbeats 4000000 in
set_option maxRecDepth 100000 in
theorem vX8_readsRow_58 {l : Launch} {D : va_G} {T : Nat → ClassId} {b : Nat} {gr : Bool} {n0 : Nat} : ∀ (n : Nat) (x0 : Nat) (M : zM) (o : Int32 × zM), fX8_readsRow_58 n x0 M = some o → zV false l RX8 cX8_readsRow 2 none false 7 0 0 D T b gr n0 (0, o.1, o.2) 0 0 58 [(0, zr b x0)] [] M := by
  intro n
  induction n with
  | zero =>
    intro x0 M o h
    rw [fX8_readsRow_58] at h
    cases h
  | succ n ih =>
    intro x0 M o h
    rw [fX8_readsRow_58] at h
    refine zV_aload_n (j := 0) dX8_readsRow_58 rfl rfl ?_
    obtain ⟨g46, h⟩ := zg_of h
    refine zV_getI zf_RX8_246 dX8_readsRow_59 rfl g46 ?_
    refine zV_if_gt (tgt := 78) dX8_readsRow_62 (by decide) (fun c47 => ?_) (fun c47 => ?_)
    · replace h := z_t c47 h
      exact vX8_readsRow_78 (fX8_readsRow_58 n) ih x0 M _ h
    · replace h := z_f c47 h
      refine zV_aload_n (j := 0) dX8_readsRow_65 rfl rfl ?_
      refine zV_getR zf_RX8_92 dX8_readsRow_66 rfl g46 ?_
      refine zV_iconst (v := 0) dX8_readsRow_69 (by decide) ?_
      obtain ⟨g48, h⟩ := zg_of h
      obtain ⟨g49, h⟩ := zg_of h
      refine zV_iald dX8_readsRow_70 g48 g49 ?_
      refine zV_aload_n (j := 0) dX8_readsRow_71 rfl rfl ?_
      refine zV_getI zf_RX8_243 dX8_readsRow_72 rfl g46 ?_
      refine zV_icmp_ge (tgt := 161) dX8_readsRow_75 (by decide) (fun c50 => ?_) (fun c50 => ?_)
      · replace h := z_t c50 h
        exact vX8_readsRow_161 x0 M _ h
      · replace h := z_f c50 h
        exact vX8_readsRow_78 (fX8_readsRow_58 n) ih x0 M _ h
set_option maxHeartbeats 4000000 in
set_option maxRecDepth 100000 in
theorem vX8_readsRow (l : Launch) (D : va_G) (T : Nat → ClassId) (b : Nat) (gr : Bool) (x0 : Nat) (M : zM) (r : Int32) (M' : zM) (h : fX8_readsRow x0 M = some (r, M')) : zMet l D T b gr yX8_readsRow cX8_readsRow 2 none 7 0 0 [zr b x0] M (0, r, M') := by
  refine zEntry2 false (fun h9 => nomatch h9) zp_yX8_readsRow ⟨zr_cat _ _, trivial⟩ (Nat.le_of_ble_eq_true rfl) ?_
  obtain ⟨o, ho⟩ : ∃ o : Int32 × zM, o = (r, M') := ⟨_, rfl⟩
  rw [← ho] at h
  rw [show ((0, r, M') : Nat × Int32 × zM) = (0, o.1, o.2) by rw [ho]]
  show zV false l RX8 cX8_readsRow 2 none false 7 0 0 D T b gr M.2.2.2 (0, o.1, o.2) 0 0 0 [(0, zr b x0)] [] M
  unfold fX8_readsRow at h
  refine zV_aload_n (j := 0) dX8_readsRow_0 rfl rfl ?_
  refine zV_iconst (v := 0) dX8_readsRow_1 (by decide) ?_
  obtain ⟨g51, h⟩ := zg_of h
  refine zV_putI zf_RX8_190 dX8_readsRow_2 rfl rfl g51 ?_
  refine zV_mem (fun M52 e53 => ?_)
  replace h := zlet_of h e53
  refine zV_aload_n (j := 0) dX8_readsRow_5 rfl rfl ?_
  refine zV_iconst (v := (-1)) dX8_readsRow_6 (by decide) ?_
  refine zV_putI zf_RX8_204 dX8_readsRow_7 rfl rfl (zkI e53 g51) ?_
  refine zV_mem (fun M54 e55 => ?_)
  replace h := zlet_of h e55
  refine zV_aload_n (j := 0) dX8_readsRow_10 rfl rfl ?_
  refine zV_iconst (v := 0) dX8_readsRow_11 (by decide) ?_
  refine zV_putZ zf_RX8_200 dX8_readsRow_12 rfl rfl (Or.inl rfl) (zkI e55 (zkI e53 g51)) ?_
  refine zV_mem (fun M56 e57 => ?_)
  replace h := zlet_of h e57
  refine zV_aload_n (j := 0) dX8_readsRow_15 rfl rfl ?_
  refine zV_iconst (v := 0) dX8_readsRow_16 (by decide) ?_
  refine zV_putI zf_RX8_187 dX8_readsRow_17 rfl rfl (zkI e57 (zkI e55 (zkI e53 g51))) ?_
  refine zV_mem (fun M58 e59 => ?_)
  replace h := zlet_of h e59
  refine zV_aload_n (j := 0) dX8_readsRow_20 rfl rfl ?_
  refine zV_iconst (v := 0) dX8_readsRow_21 (by decide) ?_
  refine zV_putI zf_RX8_240 dX8_readsRow_22 rfl rfl (zkI e59 (zkI e57 (zkI e55 (zkI e53 g51)))) ?_
  refine zV_mem (fun M60 e61 => ?_)
  replace h := zlet_of h e61
  refine zV_aload_n (j := 0) dX8_readsRow_25 rfl rfl ?_
  refine zV_iconst (v := 0) dX8_readsRow_26 (by decide) ?_
  refine zV_putI zf_RX8_197 dX8_readsRow_27 rfl rfl (zkI e61 (zkI e59 (zkI e57 (zkI e55 (zkI e53 g51))))) ?_
  refine zV_mem (fun M62 e63 => ?_)
  replace h := zlet_of h e63
  refine zV_aload_n (j := 0) dX8_readsRow_30 rfl rfl ?_
  refine zV_iconst (v := 0) dX8_readsRow_31 (by decide) ?_
  refine zV_putI zf_RX8_184 dX8_readsRow_32 rfl rfl (zkI e63 (zkI e61 (zkI e59 (zkI e57 (zkI e55 (zkI e53 g51)))))) ?_
  refine zV_mem (fun M64 e65 => ?_)
  replace h := zlet_of h e65
  refine zV_aload_n (j := 0) dX8_readsRow_35 rfl rfl ?_
  refine zV_iconst (v := 0) dX8_readsRow_36 (by decide) ?_
  refine zV_putI zf_RX8_246 dX8_readsRow_37 rfl rfl (zkI e65 (zkI e63 (zkI e61 (zkI e59 (zkI e57 (zkI e55 (zkI e53 g51))))))) ?_
  refine zV_mem (fun M66 e67 => ?_)
  replace h := zlet_of h e67
  refine zV_aload_n (j := 0) dX8_readsRow_40 rfl rfl ?_
  refine zV_getR zf_RX8_92 dX8_readsRow_41 rfl (zkI e67 (zkI e65 (zkI e63 (zkI e61 (zkI e59 (zkI e57 (zkI e55 (zkI e53 g51)))))))) ?_
  refine zV_iconst (v := 0) dX8_readsRow_44 (by decide) ?_
  refine zV_iconst (v := 0) dX8_readsRow_45 (by decide) ?_
  obtain ⟨g68, h⟩ := zg_of h
  obtain ⟨g69, h⟩ := zg_of h
  refine zV_iast dX8_readsRow_46 g68 g69 ?_
  refine zV_mem (fun M70 e71 => ?_)
  replace h := zlet_of h e71
  refine zV_aload_n (j := 0) dX8_readsRow_47 rfl rfl ?_
  refine zV_getR zf_RX8_95 dX8_readsRow_48 rfl (zkI e71 (zkI e67 (zkI e65 (zkI e63 (zkI e61 (zkI e59 (zkI e57 (zkI e55 (zkI e53 g51))))))))) ?_
  refine zV_iconst (v := 0) dX8_readsRow_51 (by decide) ?_
  refine zV_iconst (v := 0) dX8_readsRow_52 (by decide) ?_
  obtain ⟨g72, h⟩ := zg_of h
  obtain ⟨g73, h⟩ := zg_of h
  refine zV_iast dX8_readsRow_53 g72 g73 ?_
  refine zV_mem (fun M74 e75 => ?_)
  replace h := zlet_of h e75
  refine zV_aload_n (j := 0) dX8_readsRow_54 rfl rfl ?_
  obtain ⟨r76, M77, q78, h⟩ := zb_of h
  refine zV_callVv (ci := 8) (As := []) (rest := []) (vX8_keepsState l D T b gr x0 M74 _ _ q78) zm_yX8_keepsState zl_RX8_284 zi_yX8_keepsState ze_yX8_keepsState zcI8 (zkI e75 (zkI e71 (zkI e67 (zkI e65 (zkI e63 (zkI e61 (zkI e59 (zkI e57 (zkI e55 (zkI e53 g51)))))))))) rfl rfl (zcs trivial (Nat.le_of_ble_eq_true rfl)) (by decide) (by decide) (by decide) dX8_readsRow_55 ?_
  exact vX8_readsRow_58 10000 x0 M77 _ h
set_option maxHeartbeats 4000000 in
set_option maxRecDepth 100000 in
theorem vX8_readsText_48 {l : Launch} {D : va_G} {T : Nat → ClassId} {b : Nat} {gr : Bool} {n0 : Nat} (x0 : Nat) (M : zM) (o : Int32 × zM) (h : fX8_readsText_48 x0 M = some o) : zV false l RX8 cX8_readsText 2 none false 8 0 0 D T b gr n0 (0, o.1, o.2) 0 0 48 [(0, zr b x0)] [] M := by
  unfold fX8_readsText_48 at h
  refine zV_aload_n (j := 0) dX8_readsText_48 rfl rfl ?_
  refine zV_iconst (v := 1) dX8_readsText_49 (by decide) ?_
  obtain ⟨g1, h⟩ := zg_of h
  refine zV_putZ zf_RX8_281 dX8_readsText_50 rfl rfl (Or.inr rfl) g1 ?_
  refine zV_mem (fun M2 e3 => ?_)
  replace h := zlet_of h e3
  refine zV_aload_n (j := 0) dX8_readsText_53 rfl rfl ?_
  obtain ⟨r4, M5, q6, h⟩ := zb_of h
  refine zV_callVv (ci := 8) (As := []) (rest := []) (vX8_readsRow l D T b gr x0 M2 _ _ q6) zm_yX8_readsRow zl_RX8_290 zi_yX8_readsRow ze_yX8_readsRow zcI8 (zkI e3 g1) rfl rfl (zcs trivial (Nat.le_of_ble_eq_true rfl)) (by decide) (by decide) (by decide) dX8_readsText_54 ?_
  refine zV_aload_n (j := 0) dX8_readsText_57 rfl rfl ?_
  refine zV_iconst (v := 0) dX8_readsText_58 (by decide) ?_
  obtain ⟨g7, h⟩ := zg_of h
  refine zV_putZ zf_RX8_281 dX8_readsText_59 rfl rfl (Or.inl rfl) g7 ?_
  refine zV_mem (fun M8 e9 => ?_)
  replace h := zlet_of h e9
  exact zV_vret (x := 0) rfl dX8_readsText_62 (by decide) (by decide) (z_ret h)
set_option maxHeartbeats 4000000 in
set_option maxRecDepth 100000 in
theorem vX8_readsText_10 {l : Launch} {D : va_G} {T : Nat → ClassId} {b : Nat} {gr : Bool} {n0 : Nat} : ∀ (n : Nat) (x0 : Nat) (x1 : Int32) (M : zM) (o : Int32 × zM), fX8_readsText_10 n x0 x1 M = some o → zV false l RX8 cX8_readsText 2 none false 8 0 0 D T b gr n0 (0, o.1, o.2) 0 0 10 [(0, zr b x0), (1, .int x1)] [] M := by
  intro n
  induction n with
  | zero =>
    intro x0 x1 M o h
    rw [fX8_readsText_10] at h
    cases h
  | succ n ih =>
    intro x0 x1 M o h
    rw [fX8_readsText_10] at h
    refine zV_iload_n (j := 1) dX8_readsText_10 rfl rfl ?_
    refine zV_aload_n (j := 0) dX8_readsText_11 rfl rfl ?_
    obtain ⟨g10, h⟩ := zg_of h
    refine zV_getI zf_RX8_174 dX8_readsText_12 rfl g10 ?_
    refine zV_icmp_ge (tgt := 48) dX8_readsText_15 (by decide) (fun c11 => ?_) (fun c11 => ?_)
    · replace h := z_t c11 h
      refine zV_pk [0] rfl ?_
      exact vX8_readsText_48 x0 M _ h
    · replace h := z_f c11 h
      refine zV_aload_n (j := 0) dX8_readsText_18 rfl rfl ?_
      refine zV_getR zf_RX8_50 dX8_readsText_19 rfl g10 ?_
      refine zV_iload_n (j := 1) dX8_readsText_22 rfl rfl ?_
      refine zV_aload_n (j := 0) dX8_readsText_23 rfl rfl ?_
      refine zV_getR zf_RX8_44 dX8_readsText_24 rfl g10 ?_
      refine zV_iload_n (j := 1) dX8_readsText_27 rfl rfl ?_
      obtain ⟨g12, h⟩ := zg_of h
      obtain ⟨g13, h⟩ := zg_of h
      refine zV_iald dX8_readsText_28 g12 g13 ?_
      obtain ⟨g14, h⟩ := zg_of h
      obtain ⟨g15, h⟩ := zg_of h
      refine zV_iast dX8_readsText_29 g14 g15 ?_
      refine zV_mem (fun M16 e17 => ?_)
      replace h := zlet_of h e17
      refine zV_aload_n (j := 0) dX8_readsText_30 rfl rfl ?_
      refine zV_getR zf_RX8_53 dX8_readsText_31 rfl (zkI e17 g10) ?_
      refine zV_iload_n (j := 1) dX8_readsText_34 rfl rfl ?_
      refine zV_aload_n (j := 0) dX8_readsText_35 rfl rfl ?_
      refine zV_getR zf_RX8_47 dX8_readsText_36 rfl (zkI e17 g10) ?_
      refine zV_iload_n (j := 1) dX8_readsText_39 rfl rfl ?_
      obtain ⟨g18, h⟩ := zg_of h
      obtain ⟨g19, h⟩ := zg_of h
      refine zV_iald dX8_readsText_40 g18 g19 ?_
      obtain ⟨g20, h⟩ := zg_of h
      obtain ⟨g21, h⟩ := zg_of h
      refine zV_iast dX8_readsText_41 g20 g21 ?_
      refine zV_mem (fun M22 e23 => ?_)
      replace h := zlet_of h e23
      obtain ⟨u24, e25⟩ : ∃ y : Int32, y = x1 + 1 := ⟨_, rfl⟩
      replace h := zlet_of h e25
      refine zV_iinc (j := 1) (v := u24) [(1, .int u24), (0, zr b x0)] dX8_readsText_42 rfl (by rw [e25]; rfl) (by decide) rfl ?_
      refine zV_goto (tgt := 10) dX8_readsText_45 (by decide) ?_
      refine zV_pk [1, 0] rfl ?_
      exact ih x0 u24 M22 _ h
set_option maxHeartbeats 4000000 in
set_option maxRecDepth 100000 in
theorem vX8_readsText (l : Launch) (D : va_G) (T : Nat → ClassId) (b : Nat) (gr : Bool) (x0 : Nat) (M : zM) (r : Int32) (M' : zM) (h : fX8_readsText x0 M = some (r, M')) : zMet l D T b gr yX8_readsText cX8_readsText 2 none 8 0 0 [zr b x0] M (0, r, M') := by
  refine zEntry2 false (fun h9 => nomatch h9) zp_yX8_readsText ⟨zr_cat _ _, trivial⟩ (Nat.le_of_ble_eq_true rfl) ?_
  obtain ⟨o, ho⟩ : ∃ o : Int32 × zM, o = (r, M') := ⟨_, rfl⟩
  rw [← ho] at h
  rw [show ((0, r, M') : Nat × Int32 × zM) = (0, o.1, o.2) by rw [ho]]
  show zV false l RX8 cX8_readsText 2 none false 8 0 0 D T b gr M.2.2.2 (0, o.1, o.2) 0 0 0 [(0, zr b x0)] [] M
  unfold fX8_readsText at h
  refine zV_aload_n (j := 0) dX8_readsText_0 rfl rfl ?_
  refine zV_aload_n (j := 0) dX8_readsText_1 rfl rfl ?_
  obtain ⟨g26, h⟩ := zg_of h
  refine zV_getI zf_RX8_174 dX8_readsText_2 rfl g26 ?_
  refine zV_putI zf_RX8_243 dX8_readsText_5 rfl rfl g26 ?_
  refine zV_mem (fun M27 e28 => ?_)
  replace h := zlet_of h e28
  refine zV_iconst (v := 0) dX8_readsText_8 (by decide) ?_
  refine zV_istore_n [(1, .int 0), (0, zr b x0)] dX8_readsText_9 rfl (by decide) rfl ?_
  refine zV_pk [1, 0] rfl ?_
  exact vX8_readsText_10 10000 x0 0 M27 _ h
set_option maxHeartbeats 4000000 in
set_option maxRecDepth 100000 in
theorem vX8_init (l : Launch) (D : va_G) (T : Nat → ClassId) (b : Nat) (gr : Bool) (hgr : gr = true) (x0 : Nat) (M : zM) (r : Int32) (M' : zM) (h : fX8_init x0 M = some (r, M')) : zMet l D T b gr yX8_init cX8_init 1 none 9 43 22007 [zr b x0] M (0, r, M') := by
  refine zEntry2 true (fun _ => rfl) zp_yX8_init ⟨zr_cat _ _, trivial⟩ (Nat.le_of_ble_eq_true rfl) ?_
  obtain ⟨o, ho⟩ : ∃ o : Int32 × zM, o = (r, M') := ⟨_, rfl⟩
  rw [← ho] at h
  rw [show ((0, r, M') : Nat × Int32 × zM) = (0, o.1, o.2) by rw [ho]]
  show zV false l RX8 cX8_init 1 none true 9 43 22007 D T b gr M.2.2.2 (0, o.1, o.2) 0 0 0 [(0, zr b x0)] [] M
  unfold fX8_init at h
  refine zV_aload_n (j := 0) dX8_init_0 rfl rfl ?_
  obtain ⟨g1, h⟩ := zg_of h
  refine zV_objInit zl_RX8_1 zi_obj zm_obj (by decide) g1 (zcs trivial (Nat.le_of_ble_eq_true rfl)) dX8_init_1 ?_
  refine zV_aload_n (j := 0) dX8_init_4 rfl rfl ?_
  refine zV_bipush (v := 60) dX8_init_5 (by decide) ?_
  refine zV_newa_int (n := 60) hgr zar_int (by decide) (by decide) (by decide) (Nat.le_of_ble_eq_true rfl) (Nat.le_of_ble_eq_true rfl) dX8_init_7 ?_
  refine zV_mem (fun M4 e5 => ?_)
  replace h := zlet_of h e5
  refine zV_topr (fun u2 e3 => ?_)
  replace h := zlet_of h e3
  obtain ⟨g6, h⟩ := zg_of h
  refine zV_putRF zf_RX8_7 dX8_init_9 rfl rfl rfl zfl_RX8_7 rfl g6 ?_
  refine zV_mem (fun M7 e8 => ?_)
  replace h := zlet_of h e8
  refine zV_aload_n (j := 0) dX8_init_12 rfl rfl ?_
  refine zV_bipush (v := 60) dX8_init_13 (by decide) ?_
  refine zV_newa_int (n := 60) hgr zar_int (by decide) (by decide) (by decide) (Nat.le_of_ble_eq_true rfl) (Nat.le_of_ble_eq_true rfl) dX8_init_15 ?_
  refine zV_mem (fun M11 e12 => ?_)
  replace h := zlet_of h e12
  refine zV_topr (fun u9 e10 => ?_)
  replace h := zlet_of h e10
  refine zV_putRF zf_RX8_13 dX8_init_17 rfl rfl rfl zfl_RX8_13 rfl (zkN e12 (zkR e8 g6)) ?_
  refine zV_mem (fun M13 e14 => ?_)
  replace h := zlet_of h e14
  refine zV_aload_n (j := 0) dX8_init_20 rfl rfl ?_
  refine zV_bipush (v := 10) dX8_init_21 (by decide) ?_
  refine zV_newa_int (n := 10) hgr zar_int (by decide) (by decide) (by decide) (Nat.le_of_ble_eq_true rfl) (Nat.le_of_ble_eq_true rfl) dX8_init_23 ?_
  refine zV_mem (fun M17 e18 => ?_)
  replace h := zlet_of h e18
  refine zV_topr (fun u15 e16 => ?_)
  replace h := zlet_of h e16
  refine zV_putRF zf_RX8_16 dX8_init_25 rfl rfl rfl zfl_RX8_16 rfl (zkN e18 (zkR e14 (zkN e12 (zkR e8 g6)))) ?_
  refine zV_mem (fun M19 e20 => ?_)
  replace h := zlet_of h e20
  refine zV_aload_n (j := 0) dX8_init_28 rfl rfl ?_
  refine zV_bipush (v := 10) dX8_init_29 (by decide) ?_
  refine zV_newa_int (n := 10) hgr zar_int (by decide) (by decide) (by decide) (Nat.le_of_ble_eq_true rfl) (Nat.le_of_ble_eq_true rfl) dX8_init_31 ?_
  refine zV_mem (fun M23 e24 => ?_)
  replace h := zlet_of h e24
  refine zV_topr (fun u21 e22 => ?_)
  replace h := zlet_of h e22
  refine zV_putRF zf_RX8_19 dX8_init_33 rfl rfl rfl zfl_RX8_19 rfl (zkN e24 (zkR e20 (zkN e18 (zkR e14 (zkN e12 (zkR e8 g6)))))) ?_
  refine zV_mem (fun M25 e26 => ?_)
  replace h := zlet_of h e26
  refine zV_aload_n (j := 0) dX8_init_36 rfl rfl ?_
  refine zV_bipush (v := 10) dX8_init_37 (by decide) ?_
  refine zV_newa_int (n := 10) hgr zar_int (by decide) (by decide) (by decide) (Nat.le_of_ble_eq_true rfl) (Nat.le_of_ble_eq_true rfl) dX8_init_39 ?_
  refine zV_mem (fun M29 e30 => ?_)
  replace h := zlet_of h e30
  refine zV_topr (fun u27 e28 => ?_)
  replace h := zlet_of h e28
  refine zV_putRF zf_RX8_22 dX8_init_41 rfl rfl rfl zfl_RX8_22 rfl (zkN e30 (zkR e26 (zkN e24 (zkR e20 (zkN e18 (zkR e14 (zkN e12 (zkR e8 g6)))))))) ?_
  refine zV_mem (fun M31 e32 => ?_)
  replace h := zlet_of h e32
  refine zV_aload_n (j := 0) dX8_init_44 rfl rfl ?_
  refine zV_bipush (v := 10) dX8_init_45 (by decide) ?_
  refine zV_newa_bool (n := 10) hgr zar_boolean (by decide) (by decide) (by decide) (Nat.le_of_ble_eq_true rfl) (Nat.le_of_ble_eq_true rfl) dX8_init_47 ?_
  refine zV_mem (fun M35 e36 => ?_)
  replace h := zlet_of h e36
  refine zV_topr (fun u33 e34 => ?_)
  replace h := zlet_of h e34
  refine zV_putRF zf_RX8_25 dX8_init_49 rfl rfl rfl zfl_RX8_25 rfl (zkN e36 (zkR e32 (zkN e30 (zkR e26 (zkN e24 (zkR e20 (zkN e18 (zkR e14 (zkN e12 (zkR e8 g6)))))))))) ?_
  refine zV_mem (fun M37 e38 => ?_)
  replace h := zlet_of h e38
  refine zV_aload_n (j := 0) dX8_init_52 rfl rfl ?_
  refine zV_bipush (v := 10) dX8_init_53 (by decide) ?_
  refine zV_newa_bool (n := 10) hgr zar_boolean (by decide) (by decide) (by decide) (Nat.le_of_ble_eq_true rfl) (Nat.le_of_ble_eq_true rfl) dX8_init_55 ?_
  refine zV_mem (fun M41 e42 => ?_)
  replace h := zlet_of h e42
  refine zV_topr (fun u39 e40 => ?_)
  replace h := zlet_of h e40
  refine zV_putRF zf_RX8_29 dX8_init_57 rfl rfl rfl zfl_RX8_29 rfl (zkN e42 (zkR e38 (zkN e36 (zkR e32 (zkN e30 (zkR e26 (zkN e24 (zkR e20 (zkN e18 (zkR e14 (zkN e12 (zkR e8 g6)))))))))))) ?_
  refine zV_mem (fun M43 e44 => ?_)
  replace h := zlet_of h e44
  refine zV_aload_n (j := 0) dX8_init_60 rfl rfl ?_
  refine zV_bipush (v := 36) dX8_init_61 (by decide) ?_
  refine zV_newa_int (n := 36) hgr zar_int (by decide) (by decide) (by decide) (Nat.le_of_ble_eq_true rfl) (Nat.le_of_ble_eq_true rfl) dX8_init_63 ?_
  refine zV_mem (fun M47 e48 => ?_)
  replace h := zlet_of h e48
  refine zV_topr (fun u45 e46 => ?_)
  replace h := zlet_of h e46
  refine zV_putRF zf_RX8_32 dX8_init_65 rfl rfl rfl zfl_RX8_32 rfl (zkN e48 (zkR e44 (zkN e42 (zkR e38 (zkN e36 (zkR e32 (zkN e30 (zkR e26 (zkN e24 (zkR e20 (zkN e18 (zkR e14 (zkN e12 (zkR e8 g6)))))))))))))) ?_
  refine zV_mem (fun M49 e50 => ?_)
  replace h := zlet_of h e50
  refine zV_aload_n (j := 0) dX8_init_68 rfl rfl ?_
  refine zV_bipush (v := 36) dX8_init_69 (by decide) ?_
  refine zV_newa_int (n := 36) hgr zar_int (by decide) (by decide) (by decide) (Nat.le_of_ble_eq_true rfl) (Nat.le_of_ble_eq_true rfl) dX8_init_71 ?_
  refine zV_mem (fun M53 e54 => ?_)
  replace h := zlet_of h e54
  refine zV_topr (fun u51 e52 => ?_)
  replace h := zlet_of h e52
  refine zV_putRF zf_RX8_35 dX8_init_73 rfl rfl rfl zfl_RX8_35 rfl (zkN e54 (zkR e50 (zkN e48 (zkR e44 (zkN e42 (zkR e38 (zkN e36 (zkR e32 (zkN e30 (zkR e26 (zkN e24 (zkR e20 (zkN e18 (zkR e14 (zkN e12 (zkR e8 g6)))))))))))))))) ?_
  refine zV_mem (fun M55 e56 => ?_)
  replace h := zlet_of h e56
  refine zV_aload_n (j := 0) dX8_init_76 rfl rfl ?_
  refine zV_bipush (v := 6) dX8_init_77 (by decide) ?_
  refine zV_newa_int (n := 6) hgr zar_int (by decide) (by decide) (by decide) (Nat.le_of_ble_eq_true rfl) (Nat.le_of_ble_eq_true rfl) dX8_init_79 ?_
  refine zV_mem (fun M59 e60 => ?_)
  replace h := zlet_of h e60
  refine zV_topr (fun u57 e58 => ?_)
  replace h := zlet_of h e58
  refine zV_putRF zf_RX8_38 dX8_init_81 rfl rfl rfl zfl_RX8_38 rfl (zkN e60 (zkR e56 (zkN e54 (zkR e50 (zkN e48 (zkR e44 (zkN e42 (zkR e38 (zkN e36 (zkR e32 (zkN e30 (zkR e26 (zkN e24 (zkR e20 (zkN e18 (zkR e14 (zkN e12 (zkR e8 g6)))))))))))))))))) ?_
  refine zV_mem (fun M61 e62 => ?_)
  replace h := zlet_of h e62
  refine zV_aload_n (j := 0) dX8_init_84 rfl rfl ?_
  refine zV_iconst (v := 4) dX8_init_85 (by decide) ?_
  refine zV_newa_int (n := 4) hgr zar_int (by decide) (by decide) (by decide) (Nat.le_of_ble_eq_true rfl) (Nat.le_of_ble_eq_true rfl) dX8_init_86 ?_
  refine zV_mem (fun M65 e66 => ?_)
  replace h := zlet_of h e66
  refine zV_topr (fun u63 e64 => ?_)
  replace h := zlet_of h e64
  refine zV_putRF zf_RX8_41 dX8_init_88 rfl rfl rfl zfl_RX8_41 rfl (zkN e66 (zkR e62 (zkN e60 (zkR e56 (zkN e54 (zkR e50 (zkN e48 (zkR e44 (zkN e42 (zkR e38 (zkN e36 (zkR e32 (zkN e30 (zkR e26 (zkN e24 (zkR e20 (zkN e18 (zkR e14 (zkN e12 (zkR e8 g6)))))))))))))))))))) ?_
  refine zV_mem (fun M67 e68 => ?_)
  replace h := zlet_of h e68
  refine zV_aload_n (j := 0) dX8_init_91 rfl rfl ?_
  refine zV_bipush (v := 60) dX8_init_92 (by decide) ?_
  refine zV_newa_int (n := 60) hgr zar_int (by decide) (by decide) (by decide) (Nat.le_of_ble_eq_true rfl) (Nat.le_of_ble_eq_true rfl) dX8_init_94 ?_
  refine zV_mem (fun M71 e72 => ?_)
  replace h := zlet_of h e72
  refine zV_topr (fun u69 e70 => ?_)
  replace h := zlet_of h e70
  refine zV_putRF zf_RX8_44 dX8_init_96 rfl rfl rfl zfl_RX8_44 rfl (zkN e72 (zkR e68 (zkN e66 (zkR e62 (zkN e60 (zkR e56 (zkN e54 (zkR e50 (zkN e48 (zkR e44 (zkN e42 (zkR e38 (zkN e36 (zkR e32 (zkN e30 (zkR e26 (zkN e24 (zkR e20 (zkN e18 (zkR e14 (zkN e12 (zkR e8 g6)))))))))))))))))))))) ?_
  refine zV_mem (fun M73 e74 => ?_)
  replace h := zlet_of h e74
  refine zV_aload_n (j := 0) dX8_init_99 rfl rfl ?_
  refine zV_bipush (v := 60) dX8_init_100 (by decide) ?_
  refine zV_newa_int (n := 60) hgr zar_int (by decide) (by decide) (by decide) (Nat.le_of_ble_eq_true rfl) (Nat.le_of_ble_eq_true rfl) dX8_init_102 ?_
  refine zV_mem (fun M77 e78 => ?_)
  replace h := zlet_of h e78
  refine zV_topr (fun u75 e76 => ?_)
  replace h := zlet_of h e76
  refine zV_putRF zf_RX8_47 dX8_init_104 rfl rfl rfl zfl_RX8_47 rfl (zkN e78 (zkR e74 (zkN e72 (zkR e68 (zkN e66 (zkR e62 (zkN e60 (zkR e56 (zkN e54 (zkR e50 (zkN e48 (zkR e44 (zkN e42 (zkR e38 (zkN e36 (zkR e32 (zkN e30 (zkR e26 (zkN e24 (zkR e20 (zkN e18 (zkR e14 (zkN e12 (zkR e8 g6)))))))))))))))))))))))) ?_
  refine zV_mem (fun M79 e80 => ?_)
  replace h := zlet_of h e80
  refine zV_aload_n (j := 0) dX8_init_107 rfl rfl ?_
  refine zV_sipush (v := 620) dX8_init_108 (by decide) ?_
  refine zV_newa_int (n := 620) hgr zar_int (by decide) (by decide) (by decide) (Nat.le_of_ble_eq_true rfl) (Nat.le_of_ble_eq_true rfl) dX8_init_111 ?_
  refine zV_mem (fun M83 e84 => ?_)
  replace h := zlet_of h e84
  refine zV_topr (fun u81 e82 => ?_)
  replace h := zlet_of h e82
  refine zV_putRF zf_RX8_50 dX8_init_113 rfl rfl rfl zfl_RX8_50 rfl (zkN e84 (zkR e80 (zkN e78 (zkR e74 (zkN e72 (zkR e68 (zkN e66 (zkR e62 (zkN e60 (zkR e56 (zkN e54 (zkR e50 (zkN e48 (zkR e44 (zkN e42 (zkR e38 (zkN e36 (zkR e32 (zkN e30 (zkR e26 (zkN e24 (zkR e20 (zkN e18 (zkR e14 (zkN e12 (zkR e8 g6)))))))))))))))))))))))))) ?_
  refine zV_mem (fun M85 e86 => ?_)
  replace h := zlet_of h e86
  refine zV_aload_n (j := 0) dX8_init_116 rfl rfl ?_
  refine zV_sipush (v := 620) dX8_init_117 (by decide) ?_
  refine zV_newa_int (n := 620) hgr zar_int (by decide) (by decide) (by decide) (Nat.le_of_ble_eq_true rfl) (Nat.le_of_ble_eq_true rfl) dX8_init_120 ?_
  refine zV_mem (fun M89 e90 => ?_)
  replace h := zlet_of h e90
  refine zV_topr (fun u87 e88 => ?_)
  replace h := zlet_of h e88
  refine zV_putRF zf_RX8_53 dX8_init_122 rfl rfl rfl zfl_RX8_53 rfl (zkN e90 (zkR e86 (zkN e84 (zkR e80 (zkN e78 (zkR e74 (zkN e72 (zkR e68 (zkN e66 (zkR e62 (zkN e60 (zkR e56 (zkN e54 (zkR e50 (zkN e48 (zkR e44 (zkN e42 (zkR e38 (zkN e36 (zkR e32 (zkN e30 (zkR e26 (zkN e24 (zkR e20 (zkN e18 (zkR e14 (zkN e12 (zkR e8 g6)))))))))))))))))))))))))))) ?_
  refine zV_mem (fun M91 e92 => ?_)
  replace h := zlet_of h e92
  refine zV_aload_n (j := 0) dX8_init_125 rfl rfl ?_
  refine zV_bipush (v := 20) dX8_init_126 (by decide) ?_
  refine zV_newa_int (n := 20) hgr zar_int (by decide) (by decide) (by decide) (Nat.le_of_ble_eq_true rfl) (Nat.le_of_ble_eq_true rfl) dX8_init_128 ?_
  refine zV_mem (fun M95 e96 => ?_)
  replace h := zlet_of h e96
  refine zV_topr (fun u93 e94 => ?_)
  replace h := zlet_of h e94
  refine zV_putRF zf_RX8_56 dX8_init_130 rfl rfl rfl zfl_RX8_56 rfl (zkN e96 (zkR e92 (zkN e90 (zkR e86 (zkN e84 (zkR e80 (zkN e78 (zkR e74 (zkN e72 (zkR e68 (zkN e66 (zkR e62 (zkN e60 (zkR e56 (zkN e54 (zkR e50 (zkN e48 (zkR e44 (zkN e42 (zkR e38 (zkN e36 (zkR e32 (zkN e30 (zkR e26 (zkN e24 (zkR e20 (zkN e18 (zkR e14 (zkN e12 (zkR e8 g6)))))))))))))))))))))))))))))) ?_
  refine zV_mem (fun M97 e98 => ?_)
  replace h := zlet_of h e98
  refine zV_aload_n (j := 0) dX8_init_133 rfl rfl ?_
  refine zV_bipush (v := 20) dX8_init_134 (by decide) ?_
  refine zV_newa_int (n := 20) hgr zar_int (by decide) (by decide) (by decide) (Nat.le_of_ble_eq_true rfl) (Nat.le_of_ble_eq_true rfl) dX8_init_136 ?_
  refine zV_mem (fun M101 e102 => ?_)
  replace h := zlet_of h e102
  refine zV_topr (fun u99 e100 => ?_)
  replace h := zlet_of h e100
  refine zV_putRF zf_RX8_59 dX8_init_138 rfl rfl rfl zfl_RX8_59 rfl (zkN e102 (zkR e98 (zkN e96 (zkR e92 (zkN e90 (zkR e86 (zkN e84 (zkR e80 (zkN e78 (zkR e74 (zkN e72 (zkR e68 (zkN e66 (zkR e62 (zkN e60 (zkR e56 (zkN e54 (zkR e50 (zkN e48 (zkR e44 (zkN e42 (zkR e38 (zkN e36 (zkR e32 (zkN e30 (zkR e26 (zkN e24 (zkR e20 (zkN e18 (zkR e14 (zkN e12 (zkR e8 g6)))))))))))))))))))))))))))))))) ?_
  refine zV_mem (fun M103 e104 => ?_)
  replace h := zlet_of h e104
  refine zV_aload_n (j := 0) dX8_init_141 rfl rfl ?_
  refine zV_bipush (v := 20) dX8_init_142 (by decide) ?_
  refine zV_newa_bool (n := 20) hgr zar_boolean (by decide) (by decide) (by decide) (Nat.le_of_ble_eq_true rfl) (Nat.le_of_ble_eq_true rfl) dX8_init_144 ?_
  refine zV_mem (fun M107 e108 => ?_)
  replace h := zlet_of h e108
  refine zV_topr (fun u105 e106 => ?_)
  replace h := zlet_of h e106
  refine zV_putRF zf_RX8_62 dX8_init_146 rfl rfl rfl zfl_RX8_62 rfl (zkN e108 (zkR e104 (zkN e102 (zkR e98 (zkN e96 (zkR e92 (zkN e90 (zkR e86 (zkN e84 (zkR e80 (zkN e78 (zkR e74 (zkN e72 (zkR e68 (zkN e66 (zkR e62 (zkN e60 (zkR e56 (zkN e54 (zkR e50 (zkN e48 (zkR e44 (zkN e42 (zkR e38 (zkN e36 (zkR e32 (zkN e30 (zkR e26 (zkN e24 (zkR e20 (zkN e18 (zkR e14 (zkN e12 (zkR e8 g6)))))))))))))))))))))))))))))))))) ?_
  refine zV_mem (fun M109 e110 => ?_)
  replace h := zlet_of h e110
  refine zV_aload_n (j := 0) dX8_init_149 rfl rfl ?_
  refine zV_bipush (v := 20) dX8_init_150 (by decide) ?_
  refine zV_newa_int (n := 20) hgr zar_int (by decide) (by decide) (by decide) (Nat.le_of_ble_eq_true rfl) (Nat.le_of_ble_eq_true rfl) dX8_init_152 ?_
  refine zV_mem (fun M113 e114 => ?_)
  replace h := zlet_of h e114
  refine zV_topr (fun u111 e112 => ?_)
  replace h := zlet_of h e112
  refine zV_putRF zf_RX8_65 dX8_init_154 rfl rfl rfl zfl_RX8_65 rfl (zkN e114 (zkR e110 (zkN e108 (zkR e104 (zkN e102 (zkR e98 (zkN e96 (zkR e92 (zkN e90 (zkR e86 (zkN e84 (zkR e80 (zkN e78 (zkR e74 (zkN e72 (zkR e68 (zkN e66 (zkR e62 (zkN e60 (zkR e56 (zkN e54 (zkR e50 (zkN e48 (zkR e44 (zkN e42 (zkR e38 (zkN e36 (zkR e32 (zkN e30 (zkR e26 (zkN e24 (zkR e20 (zkN e18 (zkR e14 (zkN e12 (zkR e8 g6)))))))))))))))))))))))))))))))))))) ?_
  refine zV_mem (fun M115 e116 => ?_)
  replace h := zlet_of h e116
  refine zV_aload_n (j := 0) dX8_init_157 rfl rfl ?_
  refine zV_sipush (v := 300) dX8_init_158 (by decide) ?_
  refine zV_newa_int (n := 300) hgr zar_int (by decide) (by decide) (by decide) (Nat.le_of_ble_eq_true rfl) (Nat.le_of_ble_eq_true rfl) dX8_init_161 ?_
  refine zV_mem (fun M119 e120 => ?_)
  replace h := zlet_of h e120
  refine zV_topr (fun u117 e118 => ?_)
  replace h := zlet_of h e118
  refine zV_putRF zf_RX8_68 dX8_init_163 rfl rfl rfl zfl_RX8_68 rfl (zkN e120 (zkR e116 (zkN e114 (zkR e110 (zkN e108 (zkR e104 (zkN e102 (zkR e98 (zkN e96 (zkR e92 (zkN e90 (zkR e86 (zkN e84 (zkR e80 (zkN e78 (zkR e74 (zkN e72 (zkR e68 (zkN e66 (zkR e62 (zkN e60 (zkR e56 (zkN e54 (zkR e50 (zkN e48 (zkR e44 (zkN e42 (zkR e38 (zkN e36 (zkR e32 (zkN e30 (zkR e26 (zkN e24 (zkR e20 (zkN e18 (zkR e14 (zkN e12 (zkR e8 g6)))))))))))))))))))))))))))))))))))))) ?_
  refine zV_mem (fun M121 e122 => ?_)
  replace h := zlet_of h e122
  refine zV_aload_n (j := 0) dX8_init_166 rfl rfl ?_
  refine zV_sipush (v := 300) dX8_init_167 (by decide) ?_
  refine zV_newa_int (n := 300) hgr zar_int (by decide) (by decide) (by decide) (Nat.le_of_ble_eq_true rfl) (Nat.le_of_ble_eq_true rfl) dX8_init_170 ?_
  refine zV_mem (fun M125 e126 => ?_)
  replace h := zlet_of h e126
  refine zV_topr (fun u123 e124 => ?_)
  replace h := zlet_of h e124
  refine zV_putRF zf_RX8_71 dX8_init_172 rfl rfl rfl zfl_RX8_71 rfl (zkN e126 (zkR e122 (zkN e120 (zkR e116 (zkN e114 (zkR e110 (zkN e108 (zkR e104 (zkN e102 (zkR e98 (zkN e96 (zkR e92 (zkN e90 (zkR e86 (zkN e84 (zkR e80 (zkN e78 (zkR e74 (zkN e72 (zkR e68 (zkN e66 (zkR e62 (zkN e60 (zkR e56 (zkN e54 (zkR e50 (zkN e48 (zkR e44 (zkN e42 (zkR e38 (zkN e36 (zkR e32 (zkN e30 (zkR e26 (zkN e24 (zkR e20 (zkN e18 (zkR e14 (zkN e12 (zkR e8 g6)))))))))))))))))))))))))))))))))))))))) ?_
  refine zV_mem (fun M127 e128 => ?_)
  replace h := zlet_of h e128
  refine zV_aload_n (j := 0) dX8_init_175 rfl rfl ?_
  refine zV_sipush (v := 300) dX8_init_176 (by decide) ?_
  refine zV_newa_int (n := 300) hgr zar_int (by decide) (by decide) (by decide) (Nat.le_of_ble_eq_true rfl) (Nat.le_of_ble_eq_true rfl) dX8_init_179 ?_
  refine zV_mem (fun M131 e132 => ?_)
  replace h := zlet_of h e132
  refine zV_topr (fun u129 e130 => ?_)
  replace h := zlet_of h e130
  refine zV_putRF zf_RX8_74 dX8_init_181 rfl rfl rfl zfl_RX8_74 rfl (zkN e132 (zkR e128 (zkN e126 (zkR e122 (zkN e120 (zkR e116 (zkN e114 (zkR e110 (zkN e108 (zkR e104 (zkN e102 (zkR e98 (zkN e96 (zkR e92 (zkN e90 (zkR e86 (zkN e84 (zkR e80 (zkN e78 (zkR e74 (zkN e72 (zkR e68 (zkN e66 (zkR e62 (zkN e60 (zkR e56 (zkN e54 (zkR e50 (zkN e48 (zkR e44 (zkN e42 (zkR e38 (zkN e36 (zkR e32 (zkN e30 (zkR e26 (zkN e24 (zkR e20 (zkN e18 (zkR e14 (zkN e12 (zkR e8 g6)))))))))))))))))))))))))))))))))))))))))) ?_
  refine zV_mem (fun M133 e134 => ?_)
  replace h := zlet_of h e134
  refine zV_aload_n (j := 0) dX8_init_184 rfl rfl ?_
  refine zV_sipush (v := 300) dX8_init_185 (by decide) ?_
  refine zV_newa_int (n := 300) hgr zar_int (by decide) (by decide) (by decide) (Nat.le_of_ble_eq_true rfl) (Nat.le_of_ble_eq_true rfl) dX8_init_188 ?_
  refine zV_mem (fun M137 e138 => ?_)
  replace h := zlet_of h e138
  refine zV_topr (fun u135 e136 => ?_)
  replace h := zlet_of h e136
  refine zV_putRF zf_RX8_77 dX8_init_190 rfl rfl rfl zfl_RX8_77 rfl (zkN e138 (zkR e134 (zkN e132 (zkR e128 (zkN e126 (zkR e122 (zkN e120 (zkR e116 (zkN e114 (zkR e110 (zkN e108 (zkR e104 (zkN e102 (zkR e98 (zkN e96 (zkR e92 (zkN e90 (zkR e86 (zkN e84 (zkR e80 (zkN e78 (zkR e74 (zkN e72 (zkR e68 (zkN e66 (zkR e62 (zkN e60 (zkR e56 (zkN e54 (zkR e50 (zkN e48 (zkR e44 (zkN e42 (zkR e38 (zkN e36 (zkR e32 (zkN e30 (zkR e26 (zkN e24 (zkR e20 (zkN e18 (zkR e14 (zkN e12 (zkR e8 g6)))))))))))))))))))))))))))))))))))))))))))) ?_
  refine zV_mem (fun M139 e140 => ?_)
  replace h := zlet_of h e140
  refine zV_aload_n (j := 0) dX8_init_193 rfl rfl ?_
  refine zV_sipush (v := 300) dX8_init_194 (by decide) ?_
  refine zV_newa_bool (n := 300) hgr zar_boolean (by decide) (by decide) (by decide) (Nat.le_of_ble_eq_true rfl) (Nat.le_of_ble_eq_true rfl) dX8_init_197 ?_
  refine zV_mem (fun M143 e144 => ?_)
  replace h := zlet_of h e144
  refine zV_topr (fun u141 e142 => ?_)
  replace h := zlet_of h e142
  refine zV_putRF zf_RX8_80 dX8_init_199 rfl rfl rfl zfl_RX8_80 rfl (zkN e144 (zkR e140 (zkN e138 (zkR e134 (zkN e132 (zkR e128 (zkN e126 (zkR e122 (zkN e120 (zkR e116 (zkN e114 (zkR e110 (zkN e108 (zkR e104 (zkN e102 (zkR e98 (zkN e96 (zkR e92 (zkN e90 (zkR e86 (zkN e84 (zkR e80 (zkN e78 (zkR e74 (zkN e72 (zkR e68 (zkN e66 (zkR e62 (zkN e60 (zkR e56 (zkN e54 (zkR e50 (zkN e48 (zkR e44 (zkN e42 (zkR e38 (zkN e36 (zkR e32 (zkN e30 (zkR e26 (zkN e24 (zkR e20 (zkN e18 (zkR e14 (zkN e12 (zkR e8 g6)))))))))))))))))))))))))))))))))))))))))))))) ?_
  refine zV_mem (fun M145 e146 => ?_)
  replace h := zlet_of h e146
  refine zV_aload_n (j := 0) dX8_init_202 rfl rfl ?_
  refine zV_sipush (v := 6000) dX8_init_203 (by decide) ?_
  refine zV_newa_int (n := 6000) hgr zar_int (by decide) (by decide) (by decide) (Nat.le_of_ble_eq_true rfl) (Nat.le_of_ble_eq_true rfl) dX8_init_206 ?_
  refine zV_mem (fun M149 e150 => ?_)
  replace h := zlet_of h e150
  refine zV_topr (fun u147 e148 => ?_)
  replace h := zlet_of h e148
  refine zV_putRF zf_RX8_83 dX8_init_208 rfl rfl rfl zfl_RX8_83 rfl (zkN e150 (zkR e146 (zkN e144 (zkR e140 (zkN e138 (zkR e134 (zkN e132 (zkR e128 (zkN e126 (zkR e122 (zkN e120 (zkR e116 (zkN e114 (zkR e110 (zkN e108 (zkR e104 (zkN e102 (zkR e98 (zkN e96 (zkR e92 (zkN e90 (zkR e86 (zkN e84 (zkR e80 (zkN e78 (zkR e74 (zkN e72 (zkR e68 (zkN e66 (zkR e62 (zkN e60 (zkR e56 (zkN e54 (zkR e50 (zkN e48 (zkR e44 (zkN e42 (zkR e38 (zkN e36 (zkR e32 (zkN e30 (zkR e26 (zkN e24 (zkR e20 (zkN e18 (zkR e14 (zkN e12 (zkR e8 g6)))))))))))))))))))))))))))))))))))))))))))))))) ?_
  refine zV_mem (fun M151 e152 => ?_)
  replace h := zlet_of h e152
  refine zV_aload_n (j := 0) dX8_init_211 rfl rfl ?_
  refine zV_sipush (v := 6000) dX8_init_212 (by decide) ?_
  refine zV_newa_int (n := 6000) hgr zar_int (by decide) (by decide) (by decide) (Nat.le_of_ble_eq_true rfl) (Nat.le_of_ble_eq_true rfl) dX8_init_215 ?_
  refine zV_mem (fun M155 e156 => ?_)
  replace h := zlet_of h e156
  refine zV_topr (fun u153 e154 => ?_)
  replace h := zlet_of h e154
  refine zV_putRF zf_RX8_86 dX8_init_217 rfl rfl rfl zfl_RX8_86 rfl (zkN e156 (zkR e152 (zkN e150 (zkR e146 (zkN e144 (zkR e140 (zkN e138 (zkR e134 (zkN e132 (zkR e128 (zkN e126 (zkR e122 (zkN e120 (zkR e116 (zkN e114 (zkR e110 (zkN e108 (zkR e104 (zkN e102 (zkR e98 (zkN e96 (zkR e92 (zkN e90 (zkR e86 (zkN e84 (zkR e80 (zkN e78 (zkR e74 (zkN e72 (zkR e68 (zkN e66 (zkR e62 (zkN e60 (zkR e56 (zkN e54 (zkR e50 (zkN e48 (zkR e44 (zkN e42 (zkR e38 (zkN e36 (zkR e32 (zkN e30 (zkR e26 (zkN e24 (zkR e20 (zkN e18 (zkR e14 (zkN e12 (zkR e8 g6)))))))))))))))))))))))))))))))))))))))))))))))))) ?_
  refine zV_mem (fun M157 e158 => ?_)
  replace h := zlet_of h e158
  refine zV_aload_n (j := 0) dX8_init_220 rfl rfl ?_
  refine zV_iconst (v := 3) dX8_init_221 (by decide) ?_
  refine zV_newa_int (n := 3) hgr zar_int (by decide) (by decide) (by decide) (Nat.le_of_ble_eq_true rfl) (Nat.le_of_ble_eq_true rfl) dX8_init_222 ?_
  refine zV_mem (fun M161 e162 => ?_)
  replace h := zlet_of h e162
  refine zV_topr (fun u159 e160 => ?_)
  replace h := zlet_of h e160
  refine zV_putRF zf_RX8_89 dX8_init_224 rfl rfl rfl zfl_RX8_89 rfl (zkN e162 (zkR e158 (zkN e156 (zkR e152 (zkN e150 (zkR e146 (zkN e144 (zkR e140 (zkN e138 (zkR e134 (zkN e132 (zkR e128 (zkN e126 (zkR e122 (zkN e120 (zkR e116 (zkN e114 (zkR e110 (zkN e108 (zkR e104 (zkN e102 (zkR e98 (zkN e96 (zkR e92 (zkN e90 (zkR e86 (zkN e84 (zkR e80 (zkN e78 (zkR e74 (zkN e72 (zkR e68 (zkN e66 (zkR e62 (zkN e60 (zkR e56 (zkN e54 (zkR e50 (zkN e48 (zkR e44 (zkN e42 (zkR e38 (zkN e36 (zkR e32 (zkN e30 (zkR e26 (zkN e24 (zkR e20 (zkN e18 (zkR e14 (zkN e12 (zkR e8 g6)))))))))))))))))))))))))))))))))))))))))))))))))))) ?_
  refine zV_mem (fun M163 e164 => ?_)
  replace h := zlet_of h e164
  refine zV_aload_n (j := 0) dX8_init_227 rfl rfl ?_
  refine zV_iconst (v := 3) dX8_init_228 (by decide) ?_
  refine zV_newa_int (n := 3) hgr zar_int (by decide) (by decide) (by decide) (Nat.le_of_ble_eq_true rfl) (Nat.le_of_ble_eq_true rfl) dX8_init_229 ?_
  refine zV_mem (fun M167 e168 => ?_)
  replace h := zlet_of h e168
  refine zV_topr (fun u165 e166 => ?_)
  replace h := zlet_of h e166
  refine zV_putRF zf_RX8_92 dX8_init_231 rfl rfl rfl zfl_RX8_92 rfl (zkN e168 (zkR e164 (zkN e162 (zkR e158 (zkN e156 (zkR e152 (zkN e150 (zkR e146 (zkN e144 (zkR e140 (zkN e138 (zkR e134 (zkN e132 (zkR e128 (zkN e126 (zkR e122 (zkN e120 (zkR e116 (zkN e114 (zkR e110 (zkN e108 (zkR e104 (zkN e102 (zkR e98 (zkN e96 (zkR e92 (zkN e90 (zkR e86 (zkN e84 (zkR e80 (zkN e78 (zkR e74 (zkN e72 (zkR e68 (zkN e66 (zkR e62 (zkN e60 (zkR e56 (zkN e54 (zkR e50 (zkN e48 (zkR e44 (zkN e42 (zkR e38 (zkN e36 (zkR e32 (zkN e30 (zkR e26 (zkN e24 (zkR e20 (zkN e18 (zkR e14 (zkN e12 (zkR e8 g6)))))))))))))))))))))))))))))))))))))))))))))))))))))) ?_
  refine zV_mem (fun M169 e170 => ?_)
  replace h := zlet_of h e170
  refine zV_aload_n (j := 0) dX8_init_234 rfl rfl ?_
  refine zV_iconst (v := 3) dX8_init_235 (by decide) ?_
  refine zV_newa_int (n := 3) hgr zar_int (by decide) (by decide) (by decide) (Nat.le_of_ble_eq_true rfl) (Nat.le_of_ble_eq_true rfl) dX8_init_236 ?_
  refine zV_mem (fun M173 e174 => ?_)
  replace h := zlet_of h e174
  refine zV_topr (fun u171 e172 => ?_)
  replace h := zlet_of h e172
  refine zV_putRF zf_RX8_95 dX8_init_238 rfl rfl rfl zfl_RX8_95 rfl (zkN e174 (zkR e170 (zkN e168 (zkR e164 (zkN e162 (zkR e158 (zkN e156 (zkR e152 (zkN e150 (zkR e146 (zkN e144 (zkR e140 (zkN e138 (zkR e134 (zkN e132 (zkR e128 (zkN e126 (zkR e122 (zkN e120 (zkR e116 (zkN e114 (zkR e110 (zkN e108 (zkR e104 (zkN e102 (zkR e98 (zkN e96 (zkR e92 (zkN e90 (zkR e86 (zkN e84 (zkR e80 (zkN e78 (zkR e74 (zkN e72 (zkR e68 (zkN e66 (zkR e62 (zkN e60 (zkR e56 (zkN e54 (zkR e50 (zkN e48 (zkR e44 (zkN e42 (zkR e38 (zkN e36 (zkR e32 (zkN e30 (zkR e26 (zkN e24 (zkR e20 (zkN e18 (zkR e14 (zkN e12 (zkR e8 g6)))))))))))))))))))))))))))))))))))))))))))))))))))))))) ?_
  refine zV_mem (fun M175 e176 => ?_)
  replace h := zlet_of h e176
  refine zV_aload_n (j := 0) dX8_init_241 rfl rfl ?_
  refine zV_sipush (v := 1860) dX8_init_242 (by decide) ?_
  refine zV_newa_int (n := 1860) hgr zar_int (by decide) (by decide) (by decide) (Nat.le_of_ble_eq_true rfl) (Nat.le_of_ble_eq_true rfl) dX8_init_245 ?_
  refine zV_mem (fun M179 e180 => ?_)
  replace h := zlet_of h e180
  refine zV_topr (fun u177 e178 => ?_)
  replace h := zlet_of h e178
  refine zV_putRF zf_RX8_98 dX8_init_247 rfl rfl rfl zfl_RX8_98 rfl (zkN e180 (zkR e176 (zkN e174 (zkR e170 (zkN e168 (zkR e164 (zkN e162 (zkR e158 (zkN e156 (zkR e152 (zkN e150 (zkR e146 (zkN e144 (zkR e140 (zkN e138 (zkR e134 (zkN e132 (zkR e128 (zkN e126 (zkR e122 (zkN e120 (zkR e116 (zkN e114 (zkR e110 (zkN e108 (zkR e104 (zkN e102 (zkR e98 (zkN e96 (zkR e92 (zkN e90 (zkR e86 (zkN e84 (zkR e80 (zkN e78 (zkR e74 (zkN e72 (zkR e68 (zkN e66 (zkR e62 (zkN e60 (zkR e56 (zkN e54 (zkR e50 (zkN e48 (zkR e44 (zkN e42 (zkR e38 (zkN e36 (zkR e32 (zkN e30 (zkR e26 (zkN e24 (zkR e20 (zkN e18 (zkR e14 (zkN e12 (zkR e8 g6)))))))))))))))))))))))))))))))))))))))))))))))))))))))))) ?_
  refine zV_mem (fun M181 e182 => ?_)
  replace h := zlet_of h e182
  refine zV_aload_n (j := 0) dX8_init_250 rfl rfl ?_
  refine zV_bipush (v := 61) dX8_init_251 (by decide) ?_
  refine zV_newa_int (n := 61) hgr zar_int (by decide) (by decide) (by decide) (Nat.le_of_ble_eq_true rfl) (Nat.le_of_ble_eq_true rfl) dX8_init_253 ?_
  refine zV_mem (fun M185 e186 => ?_)
  replace h := zlet_of h e186
  refine zV_topr (fun u183 e184 => ?_)
  replace h := zlet_of h e184
  refine zV_putRF zf_RX8_101 dX8_init_255 rfl rfl rfl zfl_RX8_101 rfl (zkN e186 (zkR e182 (zkN e180 (zkR e176 (zkN e174 (zkR e170 (zkN e168 (zkR e164 (zkN e162 (zkR e158 (zkN e156 (zkR e152 (zkN e150 (zkR e146 (zkN e144 (zkR e140 (zkN e138 (zkR e134 (zkN e132 (zkR e128 (zkN e126 (zkR e122 (zkN e120 (zkR e116 (zkN e114 (zkR e110 (zkN e108 (zkR e104 (zkN e102 (zkR e98 (zkN e96 (zkR e92 (zkN e90 (zkR e86 (zkN e84 (zkR e80 (zkN e78 (zkR e74 (zkN e72 (zkR e68 (zkN e66 (zkR e62 (zkN e60 (zkR e56 (zkN e54 (zkR e50 (zkN e48 (zkR e44 (zkN e42 (zkR e38 (zkN e36 (zkR e32 (zkN e30 (zkR e26 (zkN e24 (zkR e20 (zkN e18 (zkR e14 (zkN e12 (zkR e8 g6)))))))))))))))))))))))))))))))))))))))))))))))))))))))))))) ?_
  refine zV_mem (fun M187 e188 => ?_)
  replace h := zlet_of h e188
  refine zV_aload_n (j := 0) dX8_init_258 rfl rfl ?_
  refine zV_sipush (v := 1220) dX8_init_259 (by decide) ?_
  refine zV_newa_int (n := 1220) hgr zar_int (by decide) (by decide) (by decide) (Nat.le_of_ble_eq_true rfl) (Nat.le_of_ble_eq_true rfl) dX8_init_262 ?_
  refine zV_mem (fun M191 e192 => ?_)
  replace h := zlet_of h e192
  refine zV_topr (fun u189 e190 => ?_)
  replace h := zlet_of h e190
  refine zV_putRF zf_RX8_104 dX8_init_264 rfl rfl rfl zfl_RX8_104 rfl (zkN e192 (zkR e188 (zkN e186 (zkR e182 (zkN e180 (zkR e176 (zkN e174 (zkR e170 (zkN e168 (zkR e164 (zkN e162 (zkR e158 (zkN e156 (zkR e152 (zkN e150 (zkR e146 (zkN e144 (zkR e140 (zkN e138 (zkR e134 (zkN e132 (zkR e128 (zkN e126 (zkR e122 (zkN e120 (zkR e116 (zkN e114 (zkR e110 (zkN e108 (zkR e104 (zkN e102 (zkR e98 (zkN e96 (zkR e92 (zkN e90 (zkR e86 (zkN e84 (zkR e80 (zkN e78 (zkR e74 (zkN e72 (zkR e68 (zkN e66 (zkR e62 (zkN e60 (zkR e56 (zkN e54 (zkR e50 (zkN e48 (zkR e44 (zkN e42 (zkR e38 (zkN e36 (zkR e32 (zkN e30 (zkR e26 (zkN e24 (zkR e20 (zkN e18 (zkR e14 (zkN e12 (zkR e8 g6)))))))))))))))))))))))))))))))))))))))))))))))))))))))))))))) ?_
  refine zV_mem (fun M193 e194 => ?_)
  replace h := zlet_of h e194
  refine zV_aload_n (j := 0) dX8_init_267 rfl rfl ?_
  refine zV_bipush (v := 61) dX8_init_268 (by decide) ?_
  refine zV_newa_int (n := 61) hgr zar_int (by decide) (by decide) (by decide) (Nat.le_of_ble_eq_true rfl) (Nat.le_of_ble_eq_true rfl) dX8_init_270 ?_
  refine zV_mem (fun M197 e198 => ?_)
  replace h := zlet_of h e198
  refine zV_topr (fun u195 e196 => ?_)
  replace h := zlet_of h e196
  refine zV_putRF zf_RX8_107 dX8_init_272 rfl rfl rfl zfl_RX8_107 rfl (zkN e198 (zkR e194 (zkN e192 (zkR e188 (zkN e186 (zkR e182 (zkN e180 (zkR e176 (zkN e174 (zkR e170 (zkN e168 (zkR e164 (zkN e162 (zkR e158 (zkN e156 (zkR e152 (zkN e150 (zkR e146 (zkN e144 (zkR e140 (zkN e138 (zkR e134 (zkN e132 (zkR e128 (zkN e126 (zkR e122 (zkN e120 (zkR e116 (zkN e114 (zkR e110 (zkN e108 (zkR e104 (zkN e102 (zkR e98 (zkN e96 (zkR e92 (zkN e90 (zkR e86 (zkN e84 (zkR e80 (zkN e78 (zkR e74 (zkN e72 (zkR e68 (zkN e66 (zkR e62 (zkN e60 (zkR e56 (zkN e54 (zkR e50 (zkN e48 (zkR e44 (zkN e42 (zkR e38 (zkN e36 (zkR e32 (zkN e30 (zkR e26 (zkN e24 (zkR e20 (zkN e18 (zkR e14 (zkN e12 (zkR e8 g6)))))))))))))))))))))))))))))))))))))))))))))))))))))))))))))))) ?_
  refine zV_mem (fun M199 e200 => ?_)
  replace h := zlet_of h e200
  refine zV_aload_n (j := 0) dX8_init_275 rfl rfl ?_
  refine zV_bipush (v := 61) dX8_init_276 (by decide) ?_
  refine zV_newa_int (n := 61) hgr zar_int (by decide) (by decide) (by decide) (Nat.le_of_ble_eq_true rfl) (Nat.le_of_ble_eq_true rfl) dX8_init_278 ?_
  refine zV_mem (fun M203 e204 => ?_)
  replace h := zlet_of h e204
  refine zV_topr (fun u201 e202 => ?_)
  replace h := zlet_of h e202
  refine zV_putRF zf_RX8_110 dX8_init_280 rfl rfl rfl zfl_RX8_110 rfl (zkN e204 (zkR e200 (zkN e198 (zkR e194 (zkN e192 (zkR e188 (zkN e186 (zkR e182 (zkN e180 (zkR e176 (zkN e174 (zkR e170 (zkN e168 (zkR e164 (zkN e162 (zkR e158 (zkN e156 (zkR e152 (zkN e150 (zkR e146 (zkN e144 (zkR e140 (zkN e138 (zkR e134 (zkN e132 (zkR e128 (zkN e126 (zkR e122 (zkN e120 (zkR e116 (zkN e114 (zkR e110 (zkN e108 (zkR e104 (zkN e102 (zkR e98 (zkN e96 (zkR e92 (zkN e90 (zkR e86 (zkN e84 (zkR e80 (zkN e78 (zkR e74 (zkN e72 (zkR e68 (zkN e66 (zkR e62 (zkN e60 (zkR e56 (zkN e54 (zkR e50 (zkN e48 (zkR e44 (zkN e42 (zkR e38 (zkN e36 (zkR e32 (zkN e30 (zkR e26 (zkN e24 (zkR e20 (zkN e18 (zkR e14 (zkN e12 (zkR e8 g6)))))))))))))))))))))))))))))))))))))))))))))))))))))))))))))))))) ?_
  refine zV_mem (fun M205 e206 => ?_)
  replace h := zlet_of h e206
  refine zV_aload_n (j := 0) dX8_init_283 rfl rfl ?_
  refine zV_bipush (v := 61) dX8_init_284 (by decide) ?_
  refine zV_newa_int (n := 61) hgr zar_int (by decide) (by decide) (by decide) (Nat.le_of_ble_eq_true rfl) (Nat.le_of_ble_eq_true rfl) dX8_init_286 ?_
  refine zV_mem (fun M209 e210 => ?_)
  replace h := zlet_of h e210
  refine zV_topr (fun u207 e208 => ?_)
  replace h := zlet_of h e208
  refine zV_putRF zf_RX8_113 dX8_init_288 rfl rfl rfl zfl_RX8_113 rfl (zkN e210 (zkR e206 (zkN e204 (zkR e200 (zkN e198 (zkR e194 (zkN e192 (zkR e188 (zkN e186 (zkR e182 (zkN e180 (zkR e176 (zkN e174 (zkR e170 (zkN e168 (zkR e164 (zkN e162 (zkR e158 (zkN e156 (zkR e152 (zkN e150 (zkR e146 (zkN e144 (zkR e140 (zkN e138 (zkR e134 (zkN e132 (zkR e128 (zkN e126 (zkR e122 (zkN e120 (zkR e116 (zkN e114 (zkR e110 (zkN e108 (zkR e104 (zkN e102 (zkR e98 (zkN e96 (zkR e92 (zkN e90 (zkR e86 (zkN e84 (zkR e80 (zkN e78 (zkR e74 (zkN e72 (zkR e68 (zkN e66 (zkR e62 (zkN e60 (zkR e56 (zkN e54 (zkR e50 (zkN e48 (zkR e44 (zkN e42 (zkR e38 (zkN e36 (zkR e32 (zkN e30 (zkR e26 (zkN e24 (zkR e20 (zkN e18 (zkR e14 (zkN e12 (zkR e8 g6)))))))))))))))))))))))))))))))))))))))))))))))))))))))))))))))))))) ?_
  refine zV_mem (fun M211 e212 => ?_)
  replace h := zlet_of h e212
  refine zV_aload_n (j := 0) dX8_init_291 rfl rfl ?_
  refine zV_sipush (v := 1220) dX8_init_292 (by decide) ?_
  refine zV_newa_int (n := 1220) hgr zar_int (by decide) (by decide) (by decide) (Nat.le_of_ble_eq_true rfl) (Nat.le_of_ble_eq_true rfl) dX8_init_295 ?_
  refine zV_mem (fun M215 e216 => ?_)
  replace h := zlet_of h e216
  refine zV_topr (fun u213 e214 => ?_)
  replace h := zlet_of h e214
  refine zV_putRF zf_RX8_116 dX8_init_297 rfl rfl rfl zfl_RX8_116 rfl (zkN e216 (zkR e212 (zkN e210 (zkR e206 (zkN e204 (zkR e200 (zkN e198 (zkR e194 (zkN e192 (zkR e188 (zkN e186 (zkR e182 (zkN e180 (zkR e176 (zkN e174 (zkR e170 (zkN e168 (zkR e164 (zkN e162 (zkR e158 (zkN e156 (zkR e152 (zkN e150 (zkR e146 (zkN e144 (zkR e140 (zkN e138 (zkR e134 (zkN e132 (zkR e128 (zkN e126 (zkR e122 (zkN e120 (zkR e116 (zkN e114 (zkR e110 (zkN e108 (zkR e104 (zkN e102 (zkR e98 (zkN e96 (zkR e92 (zkN e90 (zkR e86 (zkN e84 (zkR e80 (zkN e78 (zkR e74 (zkN e72 (zkR e68 (zkN e66 (zkR e62 (zkN e60 (zkR e56 (zkN e54 (zkR e50 (zkN e48 (zkR e44 (zkN e42 (zkR e38 (zkN e36 (zkR e32 (zkN e30 (zkR e26 (zkN e24 (zkR e20 (zkN e18 (zkR e14 (zkN e12 (zkR e8 g6)))))))))))))))))))))))))))))))))))))))))))))))))))))))))))))))))))))) ?_
  refine zV_mem (fun M217 e218 => ?_)
  replace h := zlet_of h e218
  refine zV_aload_n (j := 0) dX8_init_300 rfl rfl ?_
  refine zV_bipush (v := 61) dX8_init_301 (by decide) ?_
  refine zV_newa_int (n := 61) hgr zar_int (by decide) (by decide) (by decide) (Nat.le_of_ble_eq_true rfl) (Nat.le_of_ble_eq_true rfl) dX8_init_303 ?_
  refine zV_mem (fun M221 e222 => ?_)
  replace h := zlet_of h e222
  refine zV_topr (fun u219 e220 => ?_)
  replace h := zlet_of h e220
  refine zV_putRF zf_RX8_119 dX8_init_305 rfl rfl rfl zfl_RX8_119 rfl (zkN e222 (zkR e218 (zkN e216 (zkR e212 (zkN e210 (zkR e206 (zkN e204 (zkR e200 (zkN e198 (zkR e194 (zkN e192 (zkR e188 (zkN e186 (zkR e182 (zkN e180 (zkR e176 (zkN e174 (zkR e170 (zkN e168 (zkR e164 (zkN e162 (zkR e158 (zkN e156 (zkR e152 (zkN e150 (zkR e146 (zkN e144 (zkR e140 (zkN e138 (zkR e134 (zkN e132 (zkR e128 (zkN e126 (zkR e122 (zkN e120 (zkR e116 (zkN e114 (zkR e110 (zkN e108 (zkR e104 (zkN e102 (zkR e98 (zkN e96 (zkR e92 (zkN e90 (zkR e86 (zkN e84 (zkR e80 (zkN e78 (zkR e74 (zkN e72 (zkR e68 (zkN e66 (zkR e62 (zkN e60 (zkR e56 (zkN e54 (zkR e50 (zkN e48 (zkR e44 (zkN e42 (zkR e38 (zkN e36 (zkR e32 (zkN e30 (zkR e26 (zkN e24 (zkR e20 (zkN e18 (zkR e14 (zkN e12 (zkR e8 g6)))))))))))))))))))))))))))))))))))))))))))))))))))))))))))))))))))))))) ?_
  refine zV_mem (fun M223 e224 => ?_)
  replace h := zlet_of h e224
  refine zV_aload_n (j := 0) dX8_init_308 rfl rfl ?_
  refine zV_bipush (v := 61) dX8_init_309 (by decide) ?_
  refine zV_newa_int (n := 61) hgr zar_int (by decide) (by decide) (by decide) (Nat.le_of_ble_eq_true rfl) (Nat.le_of_ble_eq_true rfl) dX8_init_311 ?_
  refine zV_mem (fun M227 e228 => ?_)
  replace h := zlet_of h e228
  refine zV_topr (fun u225 e226 => ?_)
  replace h := zlet_of h e226
  refine zV_putRF zf_RX8_122 dX8_init_313 rfl rfl rfl zfl_RX8_122 rfl (zkN e228 (zkR e224 (zkN e222 (zkR e218 (zkN e216 (zkR e212 (zkN e210 (zkR e206 (zkN e204 (zkR e200 (zkN e198 (zkR e194 (zkN e192 (zkR e188 (zkN e186 (zkR e182 (zkN e180 (zkR e176 (zkN e174 (zkR e170 (zkN e168 (zkR e164 (zkN e162 (zkR e158 (zkN e156 (zkR e152 (zkN e150 (zkR e146 (zkN e144 (zkR e140 (zkN e138 (zkR e134 (zkN e132 (zkR e128 (zkN e126 (zkR e122 (zkN e120 (zkR e116 (zkN e114 (zkR e110 (zkN e108 (zkR e104 (zkN e102 (zkR e98 (zkN e96 (zkR e92 (zkN e90 (zkR e86 (zkN e84 (zkR e80 (zkN e78 (zkR e74 (zkN e72 (zkR e68 (zkN e66 (zkR e62 (zkN e60 (zkR e56 (zkN e54 (zkR e50 (zkN e48 (zkR e44 (zkN e42 (zkR e38 (zkN e36 (zkR e32 (zkN e30 (zkR e26 (zkN e24 (zkR e20 (zkN e18 (zkR e14 (zkN e12 (zkR e8 g6)))))))))))))))))))))))))))))))))))))))))))))))))))))))))))))))))))))))))) ?_
  refine zV_mem (fun M229 e230 => ?_)
  replace h := zlet_of h e230
  refine zV_aload_n (j := 0) dX8_init_316 rfl rfl ?_
  refine zV_sipush (v := 620) dX8_init_317 (by decide) ?_
  refine zV_newa_int (n := 620) hgr zar_int (by decide) (by decide) (by decide) (Nat.le_of_ble_eq_true rfl) (Nat.le_of_ble_eq_true rfl) dX8_init_320 ?_
  refine zV_mem (fun M233 e234 => ?_)
  replace h := zlet_of h e234
  refine zV_topr (fun u231 e232 => ?_)
  replace h := zlet_of h e232
  refine zV_putRF zf_RX8_125 dX8_init_322 rfl rfl rfl zfl_RX8_125 rfl (zkN e234 (zkR e230 (zkN e228 (zkR e224 (zkN e222 (zkR e218 (zkN e216 (zkR e212 (zkN e210 (zkR e206 (zkN e204 (zkR e200 (zkN e198 (zkR e194 (zkN e192 (zkR e188 (zkN e186 (zkR e182 (zkN e180 (zkR e176 (zkN e174 (zkR e170 (zkN e168 (zkR e164 (zkN e162 (zkR e158 (zkN e156 (zkR e152 (zkN e150 (zkR e146 (zkN e144 (zkR e140 (zkN e138 (zkR e134 (zkN e132 (zkR e128 (zkN e126 (zkR e122 (zkN e120 (zkR e116 (zkN e114 (zkR e110 (zkN e108 (zkR e104 (zkN e102 (zkR e98 (zkN e96 (zkR e92 (zkN e90 (zkR e86 (zkN e84 (zkR e80 (zkN e78 (zkR e74 (zkN e72 (zkR e68 (zkN e66 (zkR e62 (zkN e60 (zkR e56 (zkN e54 (zkR e50 (zkN e48 (zkR e44 (zkN e42 (zkR e38 (zkN e36 (zkR e32 (zkN e30 (zkR e26 (zkN e24 (zkR e20 (zkN e18 (zkR e14 (zkN e12 (zkR e8 g6)))))))))))))))))))))))))))))))))))))))))))))))))))))))))))))))))))))))))))) ?_
  refine zV_mem (fun M235 e236 => ?_)
  replace h := zlet_of h e236
  refine zV_aload_n (j := 0) dX8_init_325 rfl rfl ?_
  refine zV_sipush (v := 620) dX8_init_326 (by decide) ?_
  refine zV_newa_int (n := 620) hgr zar_int (by decide) (by decide) (by decide) (Nat.le_of_ble_eq_true rfl) (Nat.le_of_ble_eq_true rfl) dX8_init_329 ?_
  refine zV_mem (fun M239 e240 => ?_)
  replace h := zlet_of h e240
  refine zV_topr (fun u237 e238 => ?_)
  replace h := zlet_of h e238
  refine zV_putRF zf_RX8_128 dX8_init_331 rfl rfl rfl zfl_RX8_128 rfl (zkN e240 (zkR e236 (zkN e234 (zkR e230 (zkN e228 (zkR e224 (zkN e222 (zkR e218 (zkN e216 (zkR e212 (zkN e210 (zkR e206 (zkN e204 (zkR e200 (zkN e198 (zkR e194 (zkN e192 (zkR e188 (zkN e186 (zkR e182 (zkN e180 (zkR e176 (zkN e174 (zkR e170 (zkN e168 (zkR e164 (zkN e162 (zkR e158 (zkN e156 (zkR e152 (zkN e150 (zkR e146 (zkN e144 (zkR e140 (zkN e138 (zkR e134 (zkN e132 (zkR e128 (zkN e126 (zkR e122 (zkN e120 (zkR e116 (zkN e114 (zkR e110 (zkN e108 (zkR e104 (zkN e102 (zkR e98 (zkN e96 (zkR e92 (zkN e90 (zkR e86 (zkN e84 (zkR e80 (zkN e78 (zkR e74 (zkN e72 (zkR e68 (zkN e66 (zkR e62 (zkN e60 (zkR e56 (zkN e54 (zkR e50 (zkN e48 (zkR e44 (zkN e42 (zkR e38 (zkN e36 (zkR e32 (zkN e30 (zkR e26 (zkN e24 (zkR e20 (zkN e18 (zkR e14 (zkN e12 (zkR e8 g6)))))))))))))))))))))))))))))))))))))))))))))))))))))))))))))))))))))))))))))) ?_
  refine zV_mem (fun M241 e242 => ?_)
  replace h := zlet_of h e242
  refine zV_aload_n (j := 0) dX8_init_334 rfl rfl ?_
  refine zV_sipush (v := 300) dX8_init_335 (by decide) ?_
  refine zV_newa_int (n := 300) hgr zar_int (by decide) (by decide) (by decide) (Nat.le_of_ble_eq_true rfl) (Nat.le_of_ble_eq_true rfl) dX8_init_338 ?_
  refine zV_mem (fun M245 e246 => ?_)
  replace h := zlet_of h e246
  refine zV_topr (fun u243 e244 => ?_)
  replace h := zlet_of h e244
  refine zV_putRF zf_RX8_131 dX8_init_340 rfl rfl rfl zfl_RX8_131 rfl (zkN e246 (zkR e242 (zkN e240 (zkR e236 (zkN e234 (zkR e230 (zkN e228 (zkR e224 (zkN e222 (zkR e218 (zkN e216 (zkR e212 (zkN e210 (zkR e206 (zkN e204 (zkR e200 (zkN e198 (zkR e194 (zkN e192 (zkR e188 (zkN e186 (zkR e182 (zkN e180 (zkR e176 (zkN e174 (zkR e170 (zkN e168 (zkR e164 (zkN e162 (zkR e158 (zkN e156 (zkR e152 (zkN e150 (zkR e146 (zkN e144 (zkR e140 (zkN e138 (zkR e134 (zkN e132 (zkR e128 (zkN e126 (zkR e122 (zkN e120 (zkR e116 (zkN e114 (zkR e110 (zkN e108 (zkR e104 (zkN e102 (zkR e98 (zkN e96 (zkR e92 (zkN e90 (zkR e86 (zkN e84 (zkR e80 (zkN e78 (zkR e74 (zkN e72 (zkR e68 (zkN e66 (zkR e62 (zkN e60 (zkR e56 (zkN e54 (zkR e50 (zkN e48 (zkR e44 (zkN e42 (zkR e38 (zkN e36 (zkR e32 (zkN e30 (zkR e26 (zkN e24 (zkR e20 (zkN e18 (zkR e14 (zkN e12 (zkR e8 g6)))))))))))))))))))))))))))))))))))))))))))))))))))))))))))))))))))))))))))))))) ?_
  refine zV_mem (fun M247 e248 => ?_)
  replace h := zlet_of h e248
  refine zV_aload_n (j := 0) dX8_init_343 rfl rfl ?_
  refine zV_sipush (v := 300) dX8_init_344 (by decide) ?_
  refine zV_newa_int (n := 300) hgr zar_int (by decide) (by decide) (by decide) (Nat.le_of_ble_eq_true rfl) (Nat.le_of_ble_eq_true rfl) dX8_init_347 ?_
  refine zV_mem (fun M251 e252 => ?_)
  replace h := zlet_of h e252
  refine zV_topr (fun u249 e250 => ?_)
  replace h := zlet_of h e250
  refine zV_putRF zf_RX8_134 dX8_init_349 rfl rfl rfl zfl_RX8_134 rfl (zkN e252 (zkR e248 (zkN e246 (zkR e242 (zkN e240 (zkR e236 (zkN e234 (zkR e230 (zkN e228 (zkR e224 (zkN e222 (zkR e218 (zkN e216 (zkR e212 (zkN e210 (zkR e206 (zkN e204 (zkR e200 (zkN e198 (zkR e194 (zkN e192 (zkR e188 (zkN e186 (zkR e182 (zkN e180 (zkR e176 (zkN e174 (zkR e170 (zkN e168 (zkR e164 (zkN e162 (zkR e158 (zkN e156 (zkR e152 (zkN e150 (zkR e146 (zkN e144 (zkR e140 (zkN e138 (zkR e134 (zkN e132 (zkR e128 (zkN e126 (zkR e122 (zkN e120 (zkR e116 (zkN e114 (zkR e110 (zkN e108 (zkR e104 (zkN e102 (zkR e98 (zkN e96 (zkR e92 (zkN e90 (zkR e86 (zkN e84 (zkR e80 (zkN e78 (zkR e74 (zkN e72 (zkR e68 (zkN e66 (zkR e62 (zkN e60 (zkR e56 (zkN e54 (zkR e50 (zkN e48 (zkR e44 (zkN e42 (zkR e38 (zkN e36 (zkR e32 (zkN e30 (zkR e26 (zkN e24 (zkR e20 (zkN e18 (zkR e14 (zkN e12 (zkR e8 g6)))))))))))))))))))))))))))))))))))))))))))))))))))))))))))))))))))))))))))))))))) ?_
  refine zV_mem (fun M253 e254 => ?_)
  replace h := zlet_of h e254
  refine zV_aload_n (j := 0) dX8_init_352 rfl rfl ?_
  refine zV_sipush (v := 300) dX8_init_353 (by decide) ?_
  refine zV_newa_int (n := 300) hgr zar_int (by decide) (by decide) (by decide) (Nat.le_of_ble_eq_true rfl) (Nat.le_of_ble_eq_true rfl) dX8_init_356 ?_
  refine zV_mem (fun M257 e258 => ?_)
  replace h := zlet_of h e258
  refine zV_topr (fun u255 e256 => ?_)
  replace h := zlet_of h e256
  refine zV_putRF zf_RX8_137 dX8_init_358 rfl rfl rfl zfl_RX8_137 rfl (zkN e258 (zkR e254 (zkN e252 (zkR e248 (zkN e246 (zkR e242 (zkN e240 (zkR e236 (zkN e234 (zkR e230 (zkN e228 (zkR e224 (zkN e222 (zkR e218 (zkN e216 (zkR e212 (zkN e210 (zkR e206 (zkN e204 (zkR e200 (zkN e198 (zkR e194 (zkN e192 (zkR e188 (zkN e186 (zkR e182 (zkN e180 (zkR e176 (zkN e174 (zkR e170 (zkN e168 (zkR e164 (zkN e162 (zkR e158 (zkN e156 (zkR e152 (zkN e150 (zkR e146 (zkN e144 (zkR e140 (zkN e138 (zkR e134 (zkN e132 (zkR e128 (zkN e126 (zkR e122 (zkN e120 (zkR e116 (zkN e114 (zkR e110 (zkN e108 (zkR e104 (zkN e102 (zkR e98 (zkN e96 (zkR e92 (zkN e90 (zkR e86 (zkN e84 (zkR e80 (zkN e78 (zkR e74 (zkN e72 (zkR e68 (zkN e66 (zkR e62 (zkN e60 (zkR e56 (zkN e54 (zkR e50 (zkN e48 (zkR e44 (zkN e42 (zkR e38 (zkN e36 (zkR e32 (zkN e30 (zkR e26 (zkN e24 (zkR e20 (zkN e18 (zkR e14 (zkN e12 (zkR e8 g6)))))))))))))))))))))))))))))))))))))))))))))))))))))))))))))))))))))))))))))))))))) ?_
  refine zV_mem (fun M259 e260 => ?_)
  replace h := zlet_of h e260
  refine zV_aload_n (j := 0) dX8_init_361 rfl rfl ?_
  obtain ⟨r261, M262, q263, h⟩ := zb_of h
  refine zV_callVv (ci := 8) (As := []) (rest := []) (vX8_readsText l D T b gr x0 M259 _ _ q263) zm_yX8_readsText zl_RX8_140 zi_yX8_readsText ze_yX8_readsText zcI8 (zkR e260 (zkN e258 (zkR e254 (zkN e252 (zkR e248 (zkN e246 (zkR e242 (zkN e240 (zkR e236 (zkN e234 (zkR e230 (zkN e228 (zkR e224 (zkN e222 (zkR e218 (zkN e216 (zkR e212 (zkN e210 (zkR e206 (zkN e204 (zkR e200 (zkN e198 (zkR e194 (zkN e192 (zkR e188 (zkN e186 (zkR e182 (zkN e180 (zkR e176 (zkN e174 (zkR e170 (zkN e168 (zkR e164 (zkN e162 (zkR e158 (zkN e156 (zkR e152 (zkN e150 (zkR e146 (zkN e144 (zkR e140 (zkN e138 (zkR e134 (zkN e132 (zkR e128 (zkN e126 (zkR e122 (zkN e120 (zkR e116 (zkN e114 (zkR e110 (zkN e108 (zkR e104 (zkN e102 (zkR e98 (zkN e96 (zkR e92 (zkN e90 (zkR e86 (zkN e84 (zkR e80 (zkN e78 (zkR e74 (zkN e72 (zkR e68 (zkN e66 (zkR e62 (zkN e60 (zkR e56 (zkN e54 (zkR e50 (zkN e48 (zkR e44 (zkN e42 (zkR e38 (zkN e36 (zkR e32 (zkN e30 (zkR e26 (zkN e24 (zkR e20 (zkN e18 (zkR e14 (zkN e12 (zkR e8 g6))))))))))))))))))))))))))))))))))))))))))))))))))))))))))))))))))))))))))))))))))))) rfl rfl (zcs trivial (Nat.le_of_ble_eq_true rfl)) (by decide) (Nat.le_of_ble_eq_true rfl) (Nat.le_of_ble_eq_true rfl) dX8_init_362 ?_
  exact zV_vret (x := 0) rfl dX8_init_365 (Nat.le_of_ble_eq_true rfl) (Nat.le_of_ble_eq_true rfl) (z_ret h)
set_option maxHeartbeats 4000000 in
set_option maxRecDepth 100000 in
theorem vX8_thrown (l : Launch) (D : va_G) (T : Nat → ClassId) (b : Nat) (gr : Bool) (x0 : Nat) (M : zM) (r : Int32) (M' : zM) (h : fX8_thrown x0 M = some (r, M')) : zMet l D T b gr yX8_thrown cX8_thrown 1 (some .int) 0 0 0 [zr b x0] M (0, r, M') := by
  refine zEntry2 false (fun h9 => nomatch h9) zp_yX8_thrown ⟨zr_cat _ _, trivial⟩ (Nat.le_of_ble_eq_true rfl) ?_
  obtain ⟨o, ho⟩ : ∃ o : Int32 × zM, o = (r, M') := ⟨_, rfl⟩
  rw [← ho] at h
  rw [show ((0, r, M') : Nat × Int32 × zM) = (0, o.1, o.2) by rw [ho]]
  show zV false l RX8 cX8_thrown 1 (some .int) false 0 0 0 D T b gr M.2.2.2 (0, o.1, o.2) 0 0 0 [(0, zr b x0)] [] M
  unfold fX8_thrown at h
  refine zV_aload_n (j := 0) dX8_thrown_0 rfl rfl ?_
  obtain ⟨g1, h⟩ := zg_of h
  refine zV_getI zf_RX8_143 dX8_thrown_1 rfl g1 ?_
  exact zV_iret rfl dX8_thrown_4 (by decide) (by decide) (z_ret h)
set_option maxHeartbeats 4000000 in
set_option maxRecDepth 100000 in
theorem vX8_goes_26 {l : Launch} {D : va_G} {T : Nat → ClassId} {b : Nat} {gr : Bool} {n0 : Nat} (x0 : Nat) (s0 : Nat) (s1 : Int32) (M : zM) (o : Int32 × zM) (h : fX8_goes_26 x0 s0 s1 M = some o) : zV false l RX8 cX8_goes 4 (some .boolean) false 0 0 0 D T b gr n0 (0, o.1, o.2) 0 0 26 [(0, zr b x0)] [.int s1, zr b s0] M := by
  unfold fX8_goes_26 at h
  obtain ⟨g1, h⟩ := zg_of h
  refine zV_putI zf_RX8_143 dX8_goes_26 rfl rfl g1 ?_
  refine zV_mem (fun M2 e3 => ?_)
  replace h := zlet_of h e3
  refine zV_aload_n (j := 0) dX8_goes_29 rfl rfl ?_
  obtain ⟨g4, h⟩ := zg_of h
  refine zV_getI zf_RX8_143 dX8_goes_30 rfl g4 ?_
  refine zV_if_ne (tgt := 40) dX8_goes_33 (by decide) (fun c5 => ?_) (fun c5 => ?_)
  · replace h := z_f c5 h
    refine zV_iconst (v := 0) dX8_goes_40 (by decide) ?_
    exact zV_zret rfl dX8_goes_41 (by decide) (by decide) (Or.inl rfl) (z_ret h)
  · replace h := z_t c5 h
    refine zV_iconst (v := 1) dX8_goes_36 (by decide) ?_
    refine zV_goto (tgt := 41) dX8_goes_37 (by decide) ?_
    exact zV_zret rfl dX8_goes_41 (by decide) (by decide) (Or.inr rfl) (z_ret h)
set_option maxHeartbeats 4000000 in
set_option maxRecDepth 100000 in
theorem vX8_goes (l : Launch) (D : va_G) (T : Nat → ClassId) (b : Nat) (gr : Bool) (x0 : Nat) (x1 : Int32) (x2 : Int32) (x3 : Int32) (M : zM) (r : Int32) (M' : zM) (h : fX8_goes x0 x1 x2 x3 M = some (r, M')) : zMet l D T b gr yX8_goes cX8_goes 4 (some .boolean) 0 0 0 [zr b x0, .int x1, .int x2, .int x3] M (0, r, M') := by
  refine zEntry2 false (fun h9 => nomatch h9) zp_yX8_goes ⟨zr_cat _ _, rfl, rfl, rfl, trivial⟩ (Nat.le_of_ble_eq_true rfl) ?_
  obtain ⟨o, ho⟩ : ∃ o : Int32 × zM, o = (r, M') := ⟨_, rfl⟩
  rw [← ho] at h
  rw [show ((0, r, M') : Nat × Int32 × zM) = (0, o.1, o.2) by rw [ho]]
  show zV false l RX8 cX8_goes 4 (some .boolean) false 0 0 0 D T b gr M.2.2.2 (0, o.1, o.2) 0 0 0 [(0, zr b x0), (1, .int x1), (2, .int x2), (3, .int x3)] [] M
  unfold fX8_goes at h
  refine zV_aload_n (j := 0) dX8_goes_0 rfl rfl ?_
  refine zV_iload_n (j := 1) dX8_goes_1 rfl rfl ?_
  refine zV_if_ne (tgt := 9) dX8_goes_2 (by decide) (fun c6 => ?_) (fun c6 => ?_)
  · replace h := z_f c6 h
    refine zV_iload_n (j := 2) dX8_goes_9 rfl rfl ?_
    refine zV_if_ne (tgt := 17) dX8_goes_10 (by decide) (fun c7 => ?_) (fun c7 => ?_)
    · replace h := z_f c7 h
      refine zV_iload_n (j := 3) dX8_goes_17 rfl rfl ?_
      refine zV_if_eq (tgt := 25) dX8_goes_18 (by decide) (fun c8 => ?_) (fun c8 => ?_)
      · replace h := z_t c8 h
        refine zV_iconst (v := 3) dX8_goes_25 (by decide) ?_
        refine zV_pk [0] rfl ?_
        exact vX8_goes_26 x0 x0 3 M _ h
      · replace h := z_f c8 h
        refine zV_iconst (v := 0) dX8_goes_21 (by decide) ?_
        refine zV_goto (tgt := 26) dX8_goes_22 (by decide) ?_
        refine zV_pk [0] rfl ?_
        exact vX8_goes_26 x0 x0 0 M _ h
    · replace h := z_t c7 h
      refine zV_iconst (v := 2) dX8_goes_13 (by decide) ?_
      refine zV_goto (tgt := 26) dX8_goes_14 (by decide) ?_
      refine zV_pk [0] rfl ?_
      exact vX8_goes_26 x0 x0 2 M _ h
  · replace h := z_t c6 h
    refine zV_iconst (v := 1) dX8_goes_5 (by decide) ?_
    refine zV_goto (tgt := 26) dX8_goes_6 (by decide) ?_
    refine zV_pk [0] rfl ?_
    exact vX8_goes_26 x0 x0 1 M _ h
set_option maxHeartbeats 4000000 in
set_option maxRecDepth 100000 in
theorem vX8_isDouble_84 {l : Launch} {D : va_G} {T : Nat → ClassId} {b : Nat} {gr : Bool} {n0 : Nat} (x6 : Int32) (M : zM) (o : Int32 × zM) (h : fX8_isDouble_84 x6 M = some o) : zV false l RX8 cX8_isDouble 9 (some .boolean) false 1 0 0 D T b gr n0 (0, o.1, o.2) 0 0 84 [(6, .int x6)] [] M := by
  unfold fX8_isDouble_84 at h
  refine zV_iload (j := 0) dX8_isDouble_84 rfl ?_
  refine zV_iconst (v := 1) dX8_isDouble_86 (by decide) ?_
  refine zV_icmp_le (tgt := 94) dX8_isDouble_87 (by decide) (fun c1 => ?_) (fun c1 => ?_)
  · replace h := z_t c1 h
    refine zV_iconst (v := 0) dX8_isDouble_94 (by decide) ?_
    exact zV_zret rfl dX8_isDouble_95 (by decide) (by decide) (Or.inl rfl) (z_ret h)
  · replace h := z_f c1 h
    refine zV_iconst (v := 1) dX8_isDouble_90 (by decide) ?_
    refine zV_goto (tgt := 95) dX8_isDouble_91 (by decide) ?_
    exact zV_zret rfl dX8_isDouble_95 (by decide) (by decide) (Or.inr rfl) (z_ret h)
set_option maxHeartbeats 4000000 in
set_option maxRecDepth 100000 in
theorem vX8_isDouble_63 {l : Launch} {D : va_G} {T : Nat → ClassId} {b : Nat} {gr : Bool} {n0 : Nat} (x6 : Int32) (M : zM) (o : Int32 × zM) (h : fX8_isDouble_63 x6 M = some o) : zV false l RX8 cX8_isDouble 9 (some .boolean) false 1 0 0 D T b gr n0 (0, o.1, o.2) 0 0 63 [(6, .int x6)] [] M := by
  unfold fX8_isDouble_63 at h
  refine zV_iload (j := 0) dX8_isDouble_63 rfl ?_
  refine zV_iconst (v := 1) dX8_isDouble_65 (by decide) ?_
  refine zV_icmp_le (tgt := 73) dX8_isDouble_66 (by decide) (fun c2 => ?_) (fun c2 => ?_)
  · replace h := z_t c2 h
    refine zV_iconst (v := 0) dX8_isDouble_73 (by decide) ?_
    exact zV_zret rfl dX8_isDouble_74 (by decide) (by decide) (Or.inl rfl) (z_ret h)
  · replace h := z_f c2 h
    refine zV_iconst (v := 1) dX8_isDouble_69 (by decide) ?_
    refine zV_goto (tgt := 74) dX8_isDouble_70 (by decide) ?_
    exact zV_zret rfl dX8_isDouble_74 (by decide) (by decide) (Or.inr rfl) (z_ret h)
set_option maxHeartbeats 4000000 in
set_option maxRecDepth 100000 in
theorem vX8_isDouble_49 {l : Launch} {D : va_G} {T : Nat → ClassId} {b : Nat} {gr : Bool} {n0 : Nat} (k9 : Nat → Int32 → Int32 → Int32 → Int32 → Int32 → zM → Option (Int32 × zM)) (hk9 : ∀ (z0 : Nat) (z1 : Int32) (z4 : Int32) (z5 : Int32) (z6 : Int32) (z7 : Int32) (N : zM) (o : Int32 × zM), k9 z0 z1 z4 z5 z6 z7 N = some o → zV false l RX8 cX8_isDouble 9 (some .boolean) false 1 0 0 D T b gr n0 (0, o.1, o.2) 0 0 9 [(0, zr b z0), (1, .int z1), (4, .int z4), (5, .int z5), (6, .int z6), (7, .int z7)] [] N) (x0 : Nat) (x1 : Int32) (x4 : Int32) (x5 : Int32) (x7 : Int32) (x8 : Int32) (s0 : Int32) (s1 : Int32) (M : zM) (o : Int32 × zM) (h : fX8_isDouble_49 k9 x0 x1 x4 x5 x7 x8 s0 s1 M = some o) : zV false l RX8 cX8_isDouble 9 (some .boolean) false 1 0 0 D T b gr n0 (0, o.1, o.2) 0 0 49 [(0, zr b x0), (1, .int x1), (4, .int x4), (5, .int x5), (7, .int x7), (8, .int x8)] [.int s1, .int s0] M := by
  unfold fX8_isDouble_49 at h
  refine zV_iadd dX8_isDouble_49 ?_
  refine zV_top (fun u3 e4 => ?_)
  replace h := zlet_of h e4
  refine zV_istore [(6, .int u3), (0, zr b x0), (1, .int x1), (4, .int x4), (5, .int x5), (7, .int x7), (8, .int x8)] dX8_isDouble_50 (by decide) rfl ?_
  refine zV_aload_n (j := 1) dX8_isDouble_52 rfl rfl ?_
  refine zV_iload (j := 6) dX8_isDouble_53 rfl ?_
  refine zV_iload (j := 4) dX8_isDouble_55 rfl ?_
  obtain ⟨g5, h⟩ := zg_of h
  obtain ⟨r6, M7, q8, h⟩ := zb_of h
  refine zV_callVi (ci := 8) (As := [.int x8, .int x5]) (rest := []) (vX8_hasEnough l D T b gr x0 x8 x5 M _ _ q8) zm_yX8_hasEnough zl_RX8_151 zi_yX8_hasEnough ze_yX8_hasEnough zcI8 g5 rfl rfl (zcs trivial (Nat.le_of_ble_eq_true rfl)) (by decide) (by decide) (by decide) dX8_isDouble_57 ?_
  refine zV_if_ne (tgt := 75) dX8_isDouble_60 (by decide) (fun c9 => ?_) (fun c9 => ?_)
  · replace h := z_f c9 h
    refine zV_iconst (v := 0) dX8_isDouble_75 (by decide) ?_
    refine zV_istore [(5, .int 0), (6, .int u3), (0, zr b x0), (1, .int x1), (4, .int x4), (7, .int x7), (8, .int x8)] dX8_isDouble_76 (by decide) rfl ?_
    obtain ⟨u10, e11⟩ : ∃ y : Int32, y = x7 + 1 := ⟨_, rfl⟩
    replace h := zlet_of h e11
    refine zV_iinc (j := 5) (v := u10) [(7, .int u10), (5, .int 0), (6, .int u3), (0, zr b x0), (1, .int x1), (4, .int x4), (8, .int x8)] dX8_isDouble_78 rfl (by rw [e11]; rfl) (by decide) rfl ?_
    refine zV_goto (tgt := 9) dX8_isDouble_81 (by decide) ?_
    refine zV_pk [3, 4, 5, 1, 2, 0] rfl ?_
    exact hk9 x0 x1 x4 0 u3 u10 M7 _ h
  · replace h := z_t c9 h
    refine zV_pk [0] rfl ?_
    exact vX8_isDouble_63 u3 M7 _ h
set_option maxHeartbeats 4000000 in
set_option maxRecDepth 100000 in
theorem vX8_isDouble_9 {l : Launch} {D : va_G} {T : Nat → ClassId} {b : Nat} {gr : Bool} {n0 : Nat} : ∀ (n : Nat) (x0 : Nat) (x1 : Int32) (x4 : Int32) (x5 : Int32) (x6 : Int32) (x7 : Int32) (M : zM) (o : Int32 × zM), fX8_isDouble_9 n x0 x1 x4 x5 x6 x7 M = some o → zV false l RX8 cX8_isDouble 9 (some .boolean) false 1 0 0 D T b gr n0 (0, o.1, o.2) 0 0 9 [(0, zr b x0), (1, .int x1), (4, .int x4), (5, .int x5), (6, .int x6), (7, .int x7)] [] M := by
  intro n
  induction n with
  | zero =>
    intro x0 x1 x4 x5 x6 x7 M o h
    rw [fX8_isDouble_9] at h
    cases h
  | succ n ih =>
    intro x0 x1 x4 x5 x6 x7 M o h
    rw [fX8_isDouble_9] at h
    refine zV_iload (j := 5) dX8_isDouble_9 rfl ?_
    refine zV_aload_n (j := 0) dX8_isDouble_11 rfl rfl ?_
    obtain ⟨g12, h⟩ := zg_of h
    refine zV_getR zf_RX8_16 dX8_isDouble_12 rfl g12 ?_
    refine zV_iload_n (j := 1) dX8_isDouble_15 rfl rfl ?_
    obtain ⟨g13, h⟩ := zg_of h
    obtain ⟨g14, h⟩ := zg_of h
    refine zV_iald dX8_isDouble_16 g13 g14 ?_
    refine zV_icmp_ge (tgt := 84) dX8_isDouble_17 (by decide) (fun c15 => ?_) (fun c15 => ?_)
    · replace h := z_t c15 h
      refine zV_pk [4] rfl ?_
      exact vX8_isDouble_84 x6 M _ h
    · replace h := z_f c15 h
      refine zV_bipush (v := 6) dX8_isDouble_20 (by decide) ?_
      refine zV_iload_n (j := 1) dX8_isDouble_22 rfl rfl ?_
      refine zV_imul dX8_isDouble_23 ?_
      refine zV_iload (j := 5) dX8_isDouble_24 rfl ?_
      refine zV_iadd dX8_isDouble_26 ?_
      refine zV_top (fun u16 e17 => ?_)
      replace h := zlet_of h e17
      refine zV_istore [(8, .int u16), (0, zr b x0), (1, .int x1), (4, .int x4), (5, .int x5), (6, .int x6), (7, .int x7)] dX8_isDouble_27 (by decide) rfl ?_
      refine zV_iload (j := 5) dX8_isDouble_29 rfl ?_
      refine zV_aload_n (j := 1) dX8_isDouble_31 rfl rfl ?_
      refine zV_iload (j := 0) dX8_isDouble_32 rfl ?_
      refine zV_iload (j := 3) dX8_isDouble_34 rfl ?_
      refine zV_iload (j := 4) dX8_isDouble_36 rfl ?_
      obtain ⟨r18, M19, q20, h⟩ := zb_of h
      refine zV_callVi (ci := 8) (As := [.int u16, .int x4, .int x5]) (rest := [.int x6]) (vX8_hasThing l D T b gr x0 u16 x4 x5 M _ _ q20) zm_yX8_hasThing zl_RX8_147 zi_yX8_hasThing ze_yX8_hasThing zcI8 g12 rfl rfl (zcs ⟨rfl, trivial⟩ (Nat.le_of_ble_eq_true rfl)) (by decide) (by decide) (by decide) dX8_isDouble_38 ?_
      refine zV_if_eq (tgt := 48) dX8_isDouble_41 (by decide) (fun c21 => ?_) (fun c21 => ?_)
      · replace h := z_t c21 h
        refine zV_iconst (v := 0) dX8_isDouble_48 (by decide) ?_
        refine zV_pk [1, 2, 3, 4, 6, 0] rfl ?_
        exact vX8_isDouble_49 (fX8_isDouble_9 n) ih x0 x1 x4 x5 x7 u16 x6 0 M19 _ h
      · replace h := z_f c21 h
        refine zV_iconst (v := 1) dX8_isDouble_44 (by decide) ?_
        refine zV_goto (tgt := 49) dX8_isDouble_45 (by decide) ?_
        refine zV_pk [1, 2, 3, 4, 6, 0] rfl ?_
        exact vX8_isDouble_49 (fX8_isDouble_9 n) ih x0 x1 x4 x5 x7 u16 x6 1 M19 _ h
set_option maxHeartbeats 4000000 in
set_option maxRecDepth 100000 in
theorem vX8_isDouble (l : Launch) (D : va_G) (T : Nat → ClassId) (b : Nat) (gr : Bool) (x0 : Nat) (x1 : Int32) (x2 : Int32) (x3 : Int32) (x4 : Int32) (M : zM) (r : Int32) (M' : zM) (h : fX8_isDouble x0 x1 x2 x3 x4 M = some (r, M')) : zMet l D T b gr yX8_isDouble cX8_isDouble 9 (some .boolean) 1 0 0 [zr b x0, .int x1, .int x2, .int x3, .int x4] M (0, r, M') := by
  refine zEntry2 false (fun h9 => nomatch h9) zp_yX8_isDouble ⟨zr_cat _ _, rfl, rfl, rfl, rfl, trivial⟩ (Nat.le_of_ble_eq_true rfl) ?_
  obtain ⟨o, ho⟩ : ∃ o : Int32 × zM, o = (r, M') := ⟨_, rfl⟩
  rw [← ho] at h
  rw [show ((0, r, M') : Nat × Int32 × zM) = (0, o.1, o.2) by rw [ho]]
  show zV false l RX8 cX8_isDouble 9 (some .boolean) false 1 0 0 D T b gr M.2.2.2 (0, o.1, o.2) 0 0 0 [(0, zr b x0), (1, .int x1), (2, .int x2), (3, .int x3), (4, .int x4)] [] M
  unfold fX8_isDouble at h
  refine zV_iload_n (j := 3) dX8_isDouble_0 rfl rfl ?_
  refine zV_istore [(5, .int x3), (0, zr b x0), (1, .int x1), (2, .int x2), (3, .int x3), (4, .int x4)] dX8_isDouble_1 (by decide) rfl ?_
  refine zV_iconst (v := 0) dX8_isDouble_3 (by decide) ?_
  refine zV_istore [(6, .int 0), (5, .int x3), (0, zr b x0), (1, .int x1), (2, .int x2), (3, .int x3), (4, .int x4)] dX8_isDouble_4 (by decide) rfl ?_
  refine zV_iload_n (j := 4) dX8_isDouble_6 rfl rfl ?_
  refine zV_istore [(7, .int x2), (6, .int 0), (5, .int x3), (0, zr b x0), (1, .int x1), (2, .int x2), (3, .int x3), (4, .int x4)] dX8_isDouble_7 (by decide) rfl ?_
  refine zV_pk [3, 4, 7, 2, 1, 0] rfl ?_
  exact vX8_isDouble_9 10000 x0 x1 x4 x3 0 x2 M _ h
set_option maxHeartbeats 4000000 in
set_option maxRecDepth 100000 in
theorem vX8_allAnew (l : Launch) (D : va_G) (T : Nat → ClassId) (b : Nat) (gr : Bool) (x0 : Nat) (M : zM) (r : Int32) (M' : zM) (h : fX8_allAnew x0 M = some (r, M')) : zMet l D T b gr yX8_allAnew cX8_allAnew 1 none 9 0 0 [zr b x0] M (0, r, M') := by
  refine zEntry2 false (fun h9 => nomatch h9) zp_yX8_allAnew ⟨zr_cat _ _, trivial⟩ (Nat.le_of_ble_eq_true rfl) ?_
  obtain ⟨o, ho⟩ : ∃ o : Int32 × zM, o = (r, M') := ⟨_, rfl⟩
  rw [← ho] at h
  rw [show ((0, r, M') : Nat × Int32 × zM) = (0, o.1, o.2) by rw [ho]]
  show zV false l RX8 cX8_allAnew 1 none false 9 0 0 D T b gr M.2.2.2 (0, o.1, o.2) 0 0 0 [(0, zr b x0)] [] M
  unfold fX8_allAnew at h
  refine zV_aload_n (j := 0) dX8_allAnew_0 rfl rfl ?_
  obtain ⟨g1, h⟩ := zg_of h
  obtain ⟨r2, M3, q4, h⟩ := zb_of h
  refine zV_callVv (ci := 8) (As := []) (rest := []) (vX8_readsText l D T b gr x0 M _ _ q4) zm_yX8_readsText zl_RX8_140 zi_yX8_readsText ze_yX8_readsText zcI8 g1 rfl rfl (zcs trivial (Nat.le_of_ble_eq_true rfl)) (by decide) (by decide) (by decide) dX8_allAnew_1 ?_
  refine zV_aload_n (j := 0) dX8_allAnew_4 rfl rfl ?_
  refine zV_aload_n (j := 0) dX8_allAnew_5 rfl rfl ?_
  obtain ⟨g5, h⟩ := zg_of h
  refine zV_getI zf_RX8_174 dX8_allAnew_6 rfl g5 ?_
  refine zV_putI zf_RX8_177 dX8_allAnew_9 rfl rfl g5 ?_
  refine zV_mem (fun M6 e7 => ?_)
  replace h := zlet_of h e7
  exact zV_vret (x := 0) rfl dX8_allAnew_12 (by decide) (by decide) (z_ret h)
set_option maxHeartbeats 4000000 in
set_option maxRecDepth 100000 in
theorem vX8_slot_211 {l : Launch} {D : va_G} {T : Nat → ClassId} {b : Nat} {gr : Bool} {n0 : Nat} (x0 : Nat) (M : zM) (o : Int32 × zM) (h : fX8_slot_211 x0 M = some o) : zV false l RX8 cX8_slot 9 (some .int) false 10 0 0 D T b gr n0 (0, o.1, o.2) 0 0 211 [(0, zr b x0)] [] M := by
  unfold fX8_slot_211 at h
  refine zV_aload_n (j := 0) dX8_slot_211 rfl rfl ?_
  obtain ⟨g1, h⟩ := zg_of h
  obtain ⟨r2, M3, q4, h⟩ := zb_of h
  refine zV_callVv (ci := 8) (As := []) (rest := []) (vX8_allAnew l D T b gr x0 M _ _ q4) zm_yX8_allAnew zl_RX8_171 zi_yX8_allAnew ze_yX8_allAnew zcI8 g1 rfl rfl (zcs trivial (Nat.le_of_ble_eq_true rfl)) (by decide) (by decide) (by decide) dX8_slot_212 ?_
  refine zV_iconst (v := (-1)) dX8_slot_215 (by decide) ?_
  exact zV_iret rfl dX8_slot_216 (by decide) (by decide) (z_ret h)
set_option maxHeartbeats 4000000 in
set_option maxRecDepth 100000 in
theorem vX8_slot_205 {l : Launch} {D : va_G} {T : Nat → ClassId} {b : Nat} {gr : Bool} {n0 : Nat} (k139 : Nat → Int32 → Int32 → zM → Option (Int32 × zM)) (hk139 : ∀ (z0 : Nat) (z1 : Int32) (z7 : Int32) (N : zM) (o : Int32 × zM), k139 z0 z1 z7 N = some o → zV false l RX8 cX8_slot 9 (some .int) false 10 0 0 D T b gr n0 (0, o.1, o.2) 0 0 139 [(0, zr b z0), (1, .int z1), (7, .int z7)] [] N) (x0 : Nat) (x1 : Int32) (x7 : Int32) (M : zM) (o : Int32 × zM) (h : fX8_slot_205 k139 x0 x1 x7 M = some o) : zV false l RX8 cX8_slot 9 (some .int) false 10 0 0 D T b gr n0 (0, o.1, o.2) 0 0 205 [(0, zr b x0), (1, .int x1), (7, .int x7)] [] M := by
  unfold fX8_slot_205 at h
  obtain ⟨u5, e6⟩ : ∃ y : Int32, y = x7 + 1 := ⟨_, rfl⟩
  replace h := zlet_of h e6
  refine zV_iinc (j := 2) (v := u5) [(7, .int u5), (0, zr b x0), (1, .int x1)] dX8_slot_205 rfl (by rw [e6]; rfl) (by decide) rfl ?_
  refine zV_goto (tgt := 139) dX8_slot_208 (by decide) ?_
  refine zV_pk [1, 2, 0] rfl ?_
  exact hk139 x0 x1 u5 M _ h
set_option maxHeartbeats 4000000 in
set_option maxRecDepth 100000 in
theorem vX8_slot_186 {l : Launch} {D : va_G} {T : Nat → ClassId} {b : Nat} {gr : Bool} {n0 : Nat} (x0 : Nat) (x1 : Int32) (x7 : Int32) (M : zM) (o : Int32 × zM) (h : fX8_slot_186 x0 x1 x7 M = some o) : zV false l RX8 cX8_slot 9 (some .int) false 10 0 0 D T b gr n0 (0, o.1, o.2) 0 0 186 [(0, zr b x0), (1, .int x1), (7, .int x7)] [] M := by
  unfold fX8_slot_186 at h
  refine zV_aload_n (j := 0) dX8_slot_186 rfl rfl ?_
  obtain ⟨g7, h⟩ := zg_of h
  refine zV_getR zf_RX8_16 dX8_slot_187 rfl g7 ?_
  refine zV_iload_n (j := 1) dX8_slot_190 rfl rfl ?_
  refine zV_dup2 dX8_slot_191 rfl (zr_cat _ _) ?_
  obtain ⟨g8, h⟩ := zg_of h
  obtain ⟨g9, h⟩ := zg_of h
  refine zV_iald dX8_slot_192 g8 g9 ?_
  refine zV_iconst (v := 1) dX8_slot_193 (by decide) ?_
  refine zV_isub dX8_slot_194 ?_
  obtain ⟨g10, h⟩ := zg_of h
  refine zV_iast dX8_slot_195 g8 g10 ?_
  refine zV_mem (fun M11 e12 => ?_)
  replace h := zlet_of h e12
  refine zV_iload (j := 2) dX8_slot_196 rfl ?_
  exact zV_iret rfl dX8_slot_198 (by decide) (by decide) (z_ret h)
set_option maxHeartbeats 4000000 in
set_option maxRecDepth 100000 in
theorem vX8_slot_149 {l : Launch} {D : va_G} {T : Nat → ClassId} {b : Nat} {gr : Bool} {n0 : Nat} (k139 : Nat → Int32 → Int32 → zM → Option (Int32 × zM)) (hk139 : ∀ (z0 : Nat) (z1 : Int32) (z7 : Int32) (N : zM) (o : Int32 × zM), k139 z0 z1 z7 N = some o → zV false l RX8 cX8_slot 9 (some .int) false 10 0 0 D T b gr n0 (0, o.1, o.2) 0 0 139 [(0, zr b z0), (1, .int z1), (7, .int z7)] [] N) : ∀ (n : Nat) (x0 : Nat) (x1 : Int32) (x7 : Int32) (x8 : Int32) (M : zM) (o : Int32 × zM), fX8_slot_149 k139 n x0 x1 x7 x8 M = some o → zV false l RX8 cX8_slot 9 (some .int) false 10 0 0 D T b gr n0 (0, o.1, o.2) 0 0 149 [(0, zr b x0), (1, .int x1), (7, .int x7), (8, .int x8)] [] M := by
  intro n
  induction n with
  | zero =>
    intro x0 x1 x7 x8 M o h
    rw [fX8_slot_149] at h
    cases h
  | succ n ih =>
    intro x0 x1 x7 x8 M o h
    rw [fX8_slot_149] at h
    refine zV_iload (j := 3) dX8_slot_149 rfl ?_
    refine zV_aload_n (j := 0) dX8_slot_151 rfl rfl ?_
    obtain ⟨g13, h⟩ := zg_of h
    refine zV_getR zf_RX8_16 dX8_slot_152 rfl g13 ?_
    refine zV_iload_n (j := 1) dX8_slot_155 rfl rfl ?_
    obtain ⟨g14, h⟩ := zg_of h
    obtain ⟨g15, h⟩ := zg_of h
    refine zV_iald dX8_slot_156 g14 g15 ?_
    refine zV_icmp_ge (tgt := 205) dX8_slot_157 (by decide) (fun c16 => ?_) (fun c16 => ?_)
    · replace h := z_t c16 h
      refine zV_pk [0, 1, 2] rfl ?_
      exact vX8_slot_205 k139 hk139 x0 x1 x7 M _ h
    · replace h := z_f c16 h
      refine zV_aload_n (j := 0) dX8_slot_160 rfl rfl ?_
      refine zV_iload_n (j := 1) dX8_slot_161 rfl rfl ?_
      refine zV_iload (j := 3) dX8_slot_162 rfl ?_
      refine zV_iconst (v := 0) dX8_slot_164 (by decide) ?_
      refine zV_iload (j := 2) dX8_slot_165 rfl ?_
      obtain ⟨r17, M18, q19, h⟩ := zb_of h
      refine zV_callVi (ci := 8) (As := [.int x1, .int x8, .int 0, .int x7]) (rest := []) (vX8_isDouble l D T b gr x0 x1 x8 0 x7 M _ _ q19) zm_yX8_isDouble zl_RX8_167 zi_yX8_isDouble ze_yX8_isDouble zcI8 g13 rfl rfl (zcs trivial (Nat.le_of_ble_eq_true rfl)) (by decide) (by decide) (by decide) dX8_slot_167 ?_
      refine zV_if_ne (tgt := 186) dX8_slot_170 (by decide) (fun c20 => ?_) (fun c20 => ?_)
      · replace h := z_f c20 h
        refine zV_pk [0, 1, 2] rfl ?_
        exact vX8_slot_186 x0 x1 x7 M18 _ h
      · replace h := z_t c20 h
        refine zV_aload_n (j := 0) dX8_slot_173 rfl rfl ?_
        refine zV_iload_n (j := 1) dX8_slot_174 rfl rfl ?_
        refine zV_iload (j := 3) dX8_slot_175 rfl ?_
        refine zV_iconst (v := 1) dX8_slot_177 (by decide) ?_
        refine zV_iload (j := 2) dX8_slot_178 rfl ?_
        obtain ⟨g21, h⟩ := zg_of h
        obtain ⟨r22, M23, q24, h⟩ := zb_of h
        refine zV_callVi (ci := 8) (As := [.int x1, .int x8, .int 1, .int x7]) (rest := []) (vX8_isDouble l D T b gr x0 x1 x8 1 x7 M18 _ _ q24) zm_yX8_isDouble zl_RX8_167 zi_yX8_isDouble ze_yX8_isDouble zcI8 g21 rfl rfl (zcs trivial (Nat.le_of_ble_eq_true rfl)) (by decide) (by decide) (by decide) dX8_slot_180 ?_
        refine zV_if_eq (tgt := 199) dX8_slot_183 (by decide) (fun c25 => ?_) (fun c25 => ?_)
        · replace h := z_t c25 h
          obtain ⟨u26, e27⟩ : ∃ y : Int32, y = x8 + 1 := ⟨_, rfl⟩
          replace h := zlet_of h e27
          refine zV_iinc (j := 3) (v := u26) [(8, .int u26), (0, zr b x0), (1, .int x1), (7, .int x7)] dX8_slot_199 rfl (by rw [e27]; rfl) (by decide) rfl ?_
          refine zV_goto (tgt := 149) dX8_slot_202 (by decide) ?_
          refine zV_pk [1, 2, 3, 0] rfl ?_
          exact ih x0 x1 x7 u26 M23 _ h
        · replace h := z_f c25 h
          refine zV_pk [0, 1, 2] rfl ?_
          exact vX8_slot_186 x0 x1 x7 M23 _ h
set_option maxHeartbeats 4000000 in
set_option maxRecDepth 100000 in
theorem vX8_slot_139 {l : Launch} {D : va_G} {T : Nat → ClassId} {b : Nat} {gr : Bool} {n0 : Nat} : ∀ (n : Nat) (x0 : Nat) (x1 : Int32) (x7 : Int32) (M : zM) (o : Int32 × zM), fX8_slot_139 n x0 x1 x7 M = some o → zV false l RX8 cX8_slot 9 (some .int) false 10 0 0 D T b gr n0 (0, o.1, o.2) 0 0 139 [(0, zr b x0), (1, .int x1), (7, .int x7)] [] M := by
  intro n
  induction n with
  | zero =>
    intro x0 x1 x7 M o h
    rw [fX8_slot_139] at h
    cases h
  | succ n ih =>
    intro x0 x1 x7 M o h
    rw [fX8_slot_139] at h
    refine zV_iload (j := 2) dX8_slot_139 rfl ?_
    refine zV_bipush (v := 10) dX8_slot_141 (by decide) ?_
    refine zV_icmp_gt (tgt := 211) dX8_slot_143 (by decide) (fun c28 => ?_) (fun c28 => ?_)
    · replace h := z_t c28 h
      refine zV_pk [0] rfl ?_
      exact vX8_slot_211 x0 M _ h
    · replace h := z_f c28 h
      refine zV_iconst (v := 0) dX8_slot_146 (by decide) ?_
      refine zV_istore [(8, .int 0), (0, zr b x0), (1, .int x1), (7, .int x7)] dX8_slot_147 (by decide) rfl ?_
      refine zV_pk [1, 2, 3, 0] rfl ?_
      exact vX8_slot_149 (fX8_slot_139 n) ih 10000 x0 x1 x7 0 M _ h
set_option maxHeartbeats 4000000 in
set_option maxRecDepth 100000 in
theorem vX8_slot_106 {l : Launch} {D : va_G} {T : Nat → ClassId} {b : Nat} {gr : Bool} {n0 : Nat} (x0 : Nat) (x1 : Int32) (x4 : Int32) (s0 : Nat) (s1 : Int32) (s2 : Int32) (s3 : Int32) (M : zM) (o : Int32 × zM) (h : fX8_slot_106 x0 x1 x4 s0 s1 s2 s3 M = some o) : zV false l RX8 cX8_slot 9 (some .int) false 10 0 0 D T b gr n0 (0, o.1, o.2) 0 0 106 [(0, zr b x0), (1, .int x1), (4, .int x4)] [.int s3, .int s2, .int s1, zr b s0] M := by
  unfold fX8_slot_106 at h
  refine zV_ior dX8_slot_106 ?_
  obtain ⟨g29, h⟩ := zg_of h
  obtain ⟨g30, h⟩ := zg_of h
  refine zV_iast dX8_slot_107 g29 g30 ?_
  refine zV_mem (fun M31 e32 => ?_)
  replace h := zlet_of h e32
  refine zV_aload_n (j := 0) dX8_slot_108 rfl rfl ?_
  obtain ⟨g33, h⟩ := zg_of h
  refine zV_getR zf_RX8_13 dX8_slot_109 rfl g33 ?_
  refine zV_bipush (v := 6) dX8_slot_112 (by decide) ?_
  refine zV_iload_n (j := 1) dX8_slot_114 rfl rfl ?_
  refine zV_imul dX8_slot_115 ?_
  refine zV_aload_n (j := 0) dX8_slot_116 rfl rfl ?_
  refine zV_getR zf_RX8_16 dX8_slot_117 rfl g33 ?_
  refine zV_iload_n (j := 1) dX8_slot_120 rfl rfl ?_
  obtain ⟨g34, h⟩ := zg_of h
  obtain ⟨g35, h⟩ := zg_of h
  refine zV_iald dX8_slot_121 g34 g35 ?_
  refine zV_iadd dX8_slot_122 ?_
  refine zV_iload (j := 2) dX8_slot_123 rfl ?_
  obtain ⟨g36, h⟩ := zg_of h
  obtain ⟨g37, h⟩ := zg_of h
  refine zV_iast dX8_slot_125 g36 g37 ?_
  refine zV_mem (fun M38 e39 => ?_)
  replace h := zlet_of h e39
  refine zV_aload_n (j := 0) dX8_slot_126 rfl rfl ?_
  refine zV_getR zf_RX8_16 dX8_slot_127 rfl (zkI e39 g33) ?_
  refine zV_iload_n (j := 1) dX8_slot_130 rfl rfl ?_
  refine zV_dup2 dX8_slot_131 rfl (zr_cat _ _) ?_
  obtain ⟨g40, h⟩ := zg_of h
  obtain ⟨g41, h⟩ := zg_of h
  refine zV_iald dX8_slot_132 g40 g41 ?_
  refine zV_iconst (v := 1) dX8_slot_133 (by decide) ?_
  refine zV_iadd dX8_slot_134 ?_
  obtain ⟨g42, h⟩ := zg_of h
  refine zV_iast dX8_slot_135 g40 g42 ?_
  refine zV_mem (fun M43 e44 => ?_)
  replace h := zlet_of h e44
  refine zV_iconst (v := 0) dX8_slot_136 (by decide) ?_
  refine zV_istore [(7, .int 0), (0, zr b x0), (1, .int x1), (4, .int x4)] dX8_slot_137 (by decide) rfl ?_
  refine zV_pk [1, 2, 0] rfl ?_
  exact vX8_slot_139 10000 x0 x1 0 M43 _ h
set_option maxHeartbeats 4000000 in
set_option maxRecDepth 100000 in
theorem vX8_slot_71 {l : Launch} {D : va_G} {T : Nat → ClassId} {b : Nat} {gr : Bool} {n0 : Nat} (x0 : Nat) (x1 : Int32) (x2 : Int32) (x3 : Int32) (x4 : Int32) (s0 : Nat) (s1 : Int32) (s2 : Int32) (s3 : Int32) (M : zM) (o : Int32 × zM) (h : fX8_slot_71 x0 x1 x2 x3 x4 s0 s1 s2 s3 M = some o) : zV false l RX8 cX8_slot 9 (some .int) false 10 0 0 D T b gr n0 (0, o.1, o.2) 0 0 71 [(0, zr b x0), (1, .int x1), (2, .int x2), (3, .int x3), (4, .int x4)] [.int s3, .int s2, .int s1, zr b s0] M := by
  unfold fX8_slot_71 at h
  obtain ⟨g45, h⟩ := zg_of h
  obtain ⟨r46, M47, q48, h⟩ := zb_of h
  refine zV_callVi (ci := 8) (As := [.int s1, .int s2, .int s3]) (rest := []) (vX8_goes l D T b gr s0 s1 s2 s3 M _ _ q48) zm_yX8_goes zl_RX8_163 zi_yX8_goes ze_yX8_goes zcI8 g45 rfl rfl (zcs trivial (Nat.le_of_ble_eq_true rfl)) (by decide) (by decide) (by decide) dX8_slot_71 ?_
  refine zV_if_ne (tgt := 79) dX8_slot_74 (by decide) (fun c49 => ?_) (fun c49 => ?_)
  · replace h := z_f c49 h
    refine zV_aload_n (j := 0) dX8_slot_79 rfl rfl ?_
    obtain ⟨g50, h⟩ := zg_of h
    refine zV_getR zf_RX8_7 dX8_slot_80 rfl g50 ?_
    refine zV_bipush (v := 6) dX8_slot_83 (by decide) ?_
    refine zV_iload_n (j := 1) dX8_slot_85 rfl rfl ?_
    refine zV_imul dX8_slot_86 ?_
    refine zV_aload_n (j := 0) dX8_slot_87 rfl rfl ?_
    refine zV_getR zf_RX8_16 dX8_slot_88 rfl g50 ?_
    refine zV_iload_n (j := 1) dX8_slot_91 rfl rfl ?_
    obtain ⟨g51, h⟩ := zg_of h
    obtain ⟨g52, h⟩ := zg_of h
    refine zV_iald dX8_slot_92 g51 g52 ?_
    refine zV_iadd dX8_slot_93 ?_
    refine zV_iload_n (j := 2) dX8_slot_94 rfl rfl ?_
    refine zV_iload_n (j := 3) dX8_slot_95 rfl rfl ?_
    refine zV_if_eq (tgt := 105) dX8_slot_96 (by decide) (fun c53 => ?_) (fun c53 => ?_)
    · replace h := z_t c53 h
      refine zV_iconst (v := 0) dX8_slot_105 (by decide) ?_
      refine zV_pk [0, 1, 4] rfl ?_
      exact vX8_slot_106 x0 x1 x4 (zR M47 x0 0) ((6 * x1) + (zI M47 (zR M47 x0 2) x1.toNatClampNeg)) x2 0 M47 _ h
    · replace h := z_f c53 h
      refine zV_sipush (v := 1024) dX8_slot_99 (by decide) ?_
      refine zV_goto (tgt := 106) dX8_slot_102 (by decide) ?_
      refine zV_pk [0, 1, 4] rfl ?_
      exact vX8_slot_106 x0 x1 x4 (zR M47 x0 0) ((6 * x1) + (zI M47 (zR M47 x0 2) x1.toNatClampNeg)) x2 1024 M47 _ h
  · replace h := z_t c49 h
    refine zV_iconst (v := 0) dX8_slot_77 (by decide) ?_
    exact zV_iret rfl dX8_slot_78 (by decide) (by decide) (z_ret h)
set_option maxHeartbeats 4000000 in
set_option maxRecDepth 100000 in
theorem vX8_slot_70 {l : Launch} {D : va_G} {T : Nat → ClassId} {b : Nat} {gr : Bool} {n0 : Nat} (x0 : Nat) (x1 : Int32) (x2 : Int32) (x3 : Int32) (x4 : Int32) (s0 : Nat) (s1 : Int32) (s2 : Int32) (M : zM) (o : Int32 × zM) (h : fX8_slot_70 x0 x1 x2 x3 x4 s0 s1 s2 M = some o) : zV false l RX8 cX8_slot 9 (some .int) false 10 0 0 D T b gr n0 (0, o.1, o.2) 0 0 70 [(0, zr b x0), (1, .int x1), (2, .int x2), (3, .int x3), (4, .int x4)] [.int s2, .int s1, zr b s0] M := by
  unfold fX8_slot_70 at h
  refine zV_iconst (v := 0) dX8_slot_70 (by decide) ?_
  exact vX8_slot_71 x0 x1 x2 x3 x4 s0 s1 s2 0 M _ h
set_option maxHeartbeats 4000000 in
set_option maxRecDepth 100000 in
theorem vX8_slot_43 {l : Launch} {D : va_G} {T : Nat → ClassId} {b : Nat} {gr : Bool} {n0 : Nat} (x0 : Nat) (x1 : Int32) (x2 : Int32) (x3 : Int32) (x4 : Int32) (x5 : Int32) (s0 : Int32) (M : zM) (o : Int32 × zM) (h : fX8_slot_43 x0 x1 x2 x3 x4 x5 s0 M = some o) : zV false l RX8 cX8_slot 9 (some .int) false 10 0 0 D T b gr n0 (0, o.1, o.2) 0 0 43 [(0, zr b x0), (1, .int x1), (2, .int x2), (3, .int x3), (4, .int x4), (5, .int x5)] [.int s0] M := by
  unfold fX8_slot_43 at h
  refine zV_istore [(6, .int s0), (0, zr b x0), (1, .int x1), (2, .int x2), (3, .int x3), (4, .int x4), (5, .int x5)] dX8_slot_43 (by decide) rfl ?_
  refine zV_aload_n (j := 1) dX8_slot_45 rfl rfl ?_
  refine zV_iload (j := 6) dX8_slot_46 rfl ?_
  refine zV_iload (j := 0) dX8_slot_48 rfl ?_
  refine zV_iload (j := 6) dX8_slot_50 rfl ?_
  refine zV_if_eq (tgt := 70) dX8_slot_52 (by decide) (fun c54 => ?_) (fun c54 => ?_)
  · replace h := z_t c54 h
    refine zV_pk [1, 2, 3, 4, 5] rfl ?_
    exact vX8_slot_70 x0 x1 x2 x3 x4 x0 x5 s0 M _ h
  · replace h := z_f c54 h
    refine zV_aload_n (j := 1) dX8_slot_55 rfl rfl ?_
    obtain ⟨g55, h⟩ := zg_of h
    refine zV_getR zf_RX8_16 dX8_slot_56 rfl g55 ?_
    refine zV_iload_n (j := 2) dX8_slot_59 rfl rfl ?_
    obtain ⟨g56, h⟩ := zg_of h
    obtain ⟨g57, h⟩ := zg_of h
    refine zV_iald dX8_slot_60 g56 g57 ?_
    refine zV_bipush (v := 6) dX8_slot_61 (by decide) ?_
    refine zV_icmp_ge (tgt := 70) dX8_slot_63 (by decide) (fun c58 => ?_) (fun c58 => ?_)
    · replace h := z_t c58 h
      refine zV_pk [1, 2, 3, 4, 5] rfl ?_
      exact vX8_slot_70 x0 x1 x2 x3 x4 x0 x5 s0 M _ h
    · replace h := z_f c58 h
      refine zV_iconst (v := 1) dX8_slot_66 (by decide) ?_
      refine zV_goto (tgt := 71) dX8_slot_67 (by decide) ?_
      refine zV_pk [1, 2, 3, 4, 5] rfl ?_
      exact vX8_slot_71 x0 x1 x2 x3 x4 x0 x5 s0 1 M _ h
set_option maxHeartbeats 4000000 in
set_option maxRecDepth 100000 in
theorem vX8_slot_42 {l : Launch} {D : va_G} {T : Nat → ClassId} {b : Nat} {gr : Bool} {n0 : Nat} (x0 : Nat) (x1 : Int32) (x2 : Int32) (x3 : Int32) (x4 : Int32) (x5 : Int32) (M : zM) (o : Int32 × zM) (h : fX8_slot_42 x0 x1 x2 x3 x4 x5 M = some o) : zV false l RX8 cX8_slot 9 (some .int) false 10 0 0 D T b gr n0 (0, o.1, o.2) 0 0 42 [(0, zr b x0), (1, .int x1), (2, .int x2), (3, .int x3), (4, .int x4), (5, .int x5)] [] M := by
  unfold fX8_slot_42 at h
  refine zV_iconst (v := 0) dX8_slot_42 (by decide) ?_
  exact vX8_slot_43 x0 x1 x2 x3 x4 x5 0 M _ h
set_option maxHeartbeats 4000000 in
set_option maxRecDepth 100000 in
theorem vX8_slot_38 {l : Launch} {D : va_G} {T : Nat → ClassId} {b : Nat} {gr : Bool} {n0 : Nat} (x0 : Nat) (x1 : Int32) (x2 : Int32) (x3 : Int32) (x4 : Int32) (x5 : Int32) (M : zM) (o : Int32 × zM) (h : fX8_slot_38 x0 x1 x2 x3 x4 x5 M = some o) : zV false l RX8 cX8_slot 9 (some .int) false 10 0 0 D T b gr n0 (0, o.1, o.2) 0 0 38 [(0, zr b x0), (1, .int x1), (2, .int x2), (3, .int x3), (4, .int x4), (5, .int x5)] [] M := by
  unfold fX8_slot_38 at h
  refine zV_iconst (v := 1) dX8_slot_38 (by decide) ?_
  refine zV_goto (tgt := 43) dX8_slot_39 (by decide) ?_
  exact vX8_slot_43 x0 x1 x2 x3 x4 x5 1 M _ h
set_option maxHeartbeats 4000000 in
set_option maxRecDepth 100000 in
theorem vX8_slot (l : Launch) (D : va_G) (T : Nat → ClassId) (b : Nat) (gr : Bool) (x0 : Nat) (x1 : Int32) (x2 : Int32) (x3 : Int32) (x4 : Int32) (M : zM) (r : Int32) (M' : zM) (h : fX8_slot x0 x1 x2 x3 x4 M = some (r, M')) : zMet l D T b gr yX8_slot cX8_slot 9 (some .int) 10 0 0 [zr b x0, .int x1, .int x2, .int x3, .int x4] M (0, r, M') := by
  refine zEntry2 false (fun h9 => nomatch h9) zp_yX8_slot ⟨zr_cat _ _, rfl, rfl, rfl, rfl, trivial⟩ (Nat.le_of_ble_eq_true rfl) ?_
  obtain ⟨o, ho⟩ : ∃ o : Int32 × zM, o = (r, M') := ⟨_, rfl⟩
  rw [← ho] at h
  rw [show ((0, r, M') : Nat × Int32 × zM) = (0, o.1, o.2) by rw [ho]]
  show zV false l RX8 cX8_slot 9 (some .int) false 10 0 0 D T b gr M.2.2.2 (0, o.1, o.2) 0 0 0 [(0, zr b x0), (1, .int x1), (2, .int x2), (3, .int x3), (4, .int x4)] [] M
  unfold fX8_slot at h
  refine zV_iload_n (j := 1) dX8_slot_0 rfl rfl ?_
  refine zV_iconst (v := 0) dX8_slot_1 (by decide) ?_
  refine zV_bipush (v := 9) dX8_slot_2 (by decide) ?_
  obtain ⟨r59, M60, q61, h⟩ := zb_of h
  refine zV_callSi (As := [.int x1, .int 0, .int 9]) (rest := []) (vX8_in l D T b gr x1 0 9 M _ _ q61) zm_yX8_in zl_RX8_159 zs_yX8_in rfl rfl (zcs trivial (Nat.le_of_ble_eq_true rfl)) (by decide) (by decide) (by decide) dX8_slot_4 ?_
  refine zV_istore [(5, .int r59), (0, zr b x0), (1, .int x1), (2, .int x2), (3, .int x3), (4, .int x4)] dX8_slot_7 (by decide) rfl ?_
  refine zV_iload_n (j := 3) dX8_slot_9 rfl rfl ?_
  refine zV_iconst (v := 0) dX8_slot_10 (by decide) ?_
  refine zV_sipush (v := 1023) dX8_slot_11 (by decide) ?_
  obtain ⟨r62, M63, q64, h⟩ := zb_of h
  refine zV_callSi (As := [.int x2, .int 0, .int 1023]) (rest := []) (vX8_in l D T b gr x2 0 1023 M60 _ _ q64) zm_yX8_in zl_RX8_159 zs_yX8_in rfl rfl (zcs trivial (Nat.le_of_ble_eq_true rfl)) (by decide) (by decide) (by decide) dX8_slot_14 ?_
  refine zV_if_eq (tgt := 42) dX8_slot_17 (by decide) (fun c65 => ?_) (fun c65 => ?_)
  · replace h := z_t c65 h
    refine zV_pk [1, 2, 3, 4, 5, 0] rfl ?_
    exact vX8_slot_42 x0 x1 x2 x3 x4 r59 M63 _ h
  · replace h := z_f c65 h
    refine zV_iload (j := 5) dX8_slot_20 rfl ?_
    refine zV_iconst (v := 0) dX8_slot_22 (by decide) ?_
    refine zV_iconst (v := 3) dX8_slot_23 (by decide) ?_
    obtain ⟨r66, M67, q68, h⟩ := zb_of h
    refine zV_callSi (As := [.int x4, .int 0, .int 3]) (rest := []) (vX8_in l D T b gr x4 0 3 M63 _ _ q68) zm_yX8_in zl_RX8_159 zs_yX8_in rfl rfl (zcs trivial (Nat.le_of_ble_eq_true rfl)) (by decide) (by decide) (by decide) dX8_slot_24 ?_
    refine zV_if_eq (tgt := 42) dX8_slot_27 (by decide) (fun c69 => ?_) (fun c69 => ?_)
    · replace h := z_t c69 h
      refine zV_pk [1, 2, 3, 4, 5, 0] rfl ?_
      exact vX8_slot_42 x0 x1 x2 x3 x4 r59 M67 _ h
    · replace h := z_f c69 h
      refine zV_iload_n (j := 3) dX8_slot_30 rfl rfl ?_
      refine zV_if_gt (tgt := 38) dX8_slot_31 (by decide) (fun c70 => ?_) (fun c70 => ?_)
      · replace h := z_t c70 h
        refine zV_pk [1, 2, 3, 4, 5, 0] rfl ?_
        exact vX8_slot_38 x0 x1 x2 x3 x4 r59 M67 _ h
      · replace h := z_f c70 h
        refine zV_iload_n (j := 4) dX8_slot_34 rfl rfl ?_
        refine zV_if_eq (tgt := 42) dX8_slot_35 (by decide) (fun c71 => ?_) (fun c71 => ?_)
        · replace h := z_t c71 h
          refine zV_pk [1, 2, 3, 4, 5, 0] rfl ?_
          exact vX8_slot_42 x0 x1 x2 x3 x4 r59 M67 _ h
        · replace h := z_f c71 h
          refine zV_pk [1, 2, 3, 4, 5, 0] rfl ?_
          exact vX8_slot_38 x0 x1 x2 x3 x4 r59 M67 _ h
