set_option maxHeartbeats 4000000 in
set_option maxRecDepth 100000 in
theorem vX8_empty (l : Launch) (D : va_G) (T : Nat → ClassId) (b : Nat) (gr : Bool) (x0 : Nat) (x1 : Int32) (M : zM) (r : Int32) (M' : zM) (h : fX8_empty x0 x1 M = some (r, M')) : zMet l D T b gr yX8_empty cX8_empty 3 (some .int) 10 0 0 [zr b x0, .int x1] M (0, r, M') := by
  refine zEntry2 false (fun h9 => nomatch h9) zp_yX8_empty ⟨zr_cat _ _, rfl, trivial⟩ (Nat.le_of_ble_eq_true rfl) ?_
  obtain ⟨o, ho⟩ : ∃ o : Int32 × zM, o = (r, M') := ⟨_, rfl⟩
  rw [← ho] at h
  rw [show ((0, r, M') : Nat × Int32 × zM) = (0, o.1, o.2) by rw [ho]]
  show zV false l RX8 cX8_empty 3 (some .int) false 10 0 0 D T b gr M.2.2.2 (0, o.1, o.2) 0 0 0 [(0, zr b x0), (1, .int x1)] [] M
  unfold fX8_empty at h
  refine zV_aload_n (j := 0) dX8_empty_0 rfl rfl ?_
  refine zV_iload_n (j := 1) dX8_empty_1 rfl rfl ?_
  refine zV_iconst (v := 0) dX8_empty_2 (by decide) ?_
  refine zV_bipush (v := 9) dX8_empty_3 (by decide) ?_
  obtain ⟨r1, M2, q3, h⟩ := zb_of h
  refine zV_callSi (As := [.int x1, .int 0, .int 9]) (rest := [zr b x0]) (vX8_in l D T b gr x1 0 9 M _ _ q3) zm_yX8_in zl_RX8_159 zs_yX8_in rfl rfl (zcs ⟨zr_cat _ _, trivial⟩ (Nat.le_of_ble_eq_true rfl)) (by decide) (by decide) (by decide) dX8_empty_5 ?_
  refine zV_iconst (v := 1) dX8_empty_8 (by decide) ?_
  refine zV_iconst (v := 1) dX8_empty_9 (by decide) ?_
  obtain ⟨g4, h⟩ := zg_of h
  obtain ⟨r5, M6, q7, h⟩ := zb_of h
  refine zV_callVi (ci := 8) (As := [.int r1, .int 1, .int 1]) (rest := []) (vX8_goes l D T b gr x0 r1 1 1 M2 _ _ q7) zm_yX8_goes zl_RX8_163 zi_yX8_goes ze_yX8_goes zcI8 g4 rfl rfl (zcs trivial (Nat.le_of_ble_eq_true rfl)) (by decide) (by decide) (by decide) dX8_empty_10 ?_
  refine zV_if_ne (tgt := 18) dX8_empty_13 (by decide) (fun c8 => ?_) (fun c8 => ?_)
  · replace h := z_f c8 h
    refine zV_aload_n (j := 0) dX8_empty_18 rfl rfl ?_
    obtain ⟨g9, h⟩ := zg_of h
    refine zV_getR zf_RX8_16 dX8_empty_19 rfl g9 ?_
    refine zV_iload_n (j := 1) dX8_empty_22 rfl rfl ?_
    obtain ⟨g10, h⟩ := zg_of h
    obtain ⟨g11, h⟩ := zg_of h
    refine zV_iald dX8_empty_23 g10 g11 ?_
    refine zV_top (fun u12 e13 => ?_)
    replace h := zlet_of h e13
    refine zV_istore_n [(2, .int u12), (0, zr b x0), (1, .int x1)] dX8_empty_24 rfl (by decide) rfl ?_
    refine zV_aload_n (j := 1) dX8_empty_25 rfl rfl ?_
    refine zV_getR zf_RX8_16 dX8_empty_26 rfl g9 ?_
    refine zV_iload_n (j := 2) dX8_empty_29 rfl rfl ?_
    refine zV_iconst (v := 0) dX8_empty_30 (by decide) ?_
    obtain ⟨g14, h⟩ := zg_of h
    refine zV_iast dX8_empty_31 g10 g14 ?_
    refine zV_mem (fun M15 e16 => ?_)
    replace h := zlet_of h e16
    refine zV_aload_n (j := 1) dX8_empty_32 rfl rfl ?_
    obtain ⟨r17, M18, q19, h⟩ := zb_of h
    refine zV_callVv (ci := 8) (As := []) (rest := []) (vX8_allAnew l D T b gr x0 M15 _ _ q19) zm_yX8_allAnew zl_RX8_171 zi_yX8_allAnew ze_yX8_allAnew zcI8 (zkI e16 g9) rfl rfl (zcs trivial (Nat.le_of_ble_eq_true rfl)) (by decide) (by decide) (by decide) dX8_empty_33 ?_
    refine zV_iload_n (j := 0) dX8_empty_36 rfl rfl ?_
    exact zV_iret rfl dX8_empty_37 (by decide) (by decide) (z_ret h)
  · replace h := z_t c8 h
    refine zV_iconst (v := 0) dX8_empty_16 (by decide) ?_
    exact zV_iret rfl dX8_empty_17 (by decide) (by decide) (z_ret h)
set_option maxHeartbeats 4000000 in
set_option maxRecDepth 100000 in
theorem vX8_except_35 {l : Launch} {D : va_G} {T : Nat → ClassId} {b : Nat} {gr : Bool} {n0 : Nat} (x0 : Nat) (x1 : Int32) (x2 : Int32) (x3 : Int32) (s0 : Nat) (s1 : Int32) (s2 : Int32) (M : zM) (o : Int32 × zM) (h : fX8_except_35 x0 x1 x2 x3 s0 s1 s2 M = some o) : zV false l RX8 cX8_except 4 none false 10 0 0 D T b gr n0 (0, o.1, o.2) 0 0 35 [(0, zr b x0), (1, .int x1), (2, .int x2), (3, .int x3)] [.int s2, .int s1, zr b s0] M := by
  unfold fX8_except_35 at h
  refine zV_iconst (v := 1) dX8_except_35 (by decide) ?_
  obtain ⟨g1, h⟩ := zg_of h
  obtain ⟨r2, M3, q4, h⟩ := zb_of h
  refine zV_callVi (ci := 8) (As := [.int s1, .int s2, .int 1]) (rest := []) (vX8_goes l D T b gr s0 s1 s2 1 M _ _ q4) zm_yX8_goes zl_RX8_163 zi_yX8_goes ze_yX8_goes zcI8 g1 rfl rfl (zcs trivial (Nat.le_of_ble_eq_true rfl)) (by decide) (by decide) (by decide) dX8_except_36 ?_
  refine zV_if_eq (tgt := 60) dX8_except_39 (by decide) (fun c5 => ?_) (fun c5 => ?_)
  · replace h := z_t c5 h
    exact zV_vret (x := 0) rfl dX8_except_60 (by decide) (by decide) (z_ret h)
  · replace h := z_f c5 h
    refine zV_aload_n (j := 0) dX8_except_42 rfl rfl ?_
    obtain ⟨g6, h⟩ := zg_of h
    refine zV_getR zf_RX8_19 dX8_except_43 rfl g6 ?_
    refine zV_iload_n (j := 1) dX8_except_46 rfl rfl ?_
    refine zV_iload_n (j := 2) dX8_except_47 rfl rfl ?_
    obtain ⟨g7, h⟩ := zg_of h
    obtain ⟨g8, h⟩ := zg_of h
    refine zV_iast dX8_except_48 g7 g8 ?_
    refine zV_mem (fun M9 e10 => ?_)
    replace h := zlet_of h e10
    refine zV_aload_n (j := 0) dX8_except_49 rfl rfl ?_
    refine zV_getR zf_RX8_22 dX8_except_50 rfl (zkI e10 g6) ?_
    refine zV_iload_n (j := 1) dX8_except_53 rfl rfl ?_
    refine zV_iload_n (j := 3) dX8_except_54 rfl rfl ?_
    obtain ⟨g11, h⟩ := zg_of h
    obtain ⟨g12, h⟩ := zg_of h
    refine zV_iast dX8_except_55 g11 g12 ?_
    refine zV_mem (fun M13 e14 => ?_)
    replace h := zlet_of h e14
    refine zV_aload_n (j := 0) dX8_except_56 rfl rfl ?_
    obtain ⟨r15, M16, q17, h⟩ := zb_of h
    refine zV_callVv (ci := 8) (As := []) (rest := []) (vX8_allAnew l D T b gr x0 M13 _ _ q17) zm_yX8_allAnew zl_RX8_171 zi_yX8_allAnew ze_yX8_allAnew zcI8 (zkI e14 (zkI e10 g6)) rfl rfl (zcs trivial (Nat.le_of_ble_eq_true rfl)) (by decide) (by decide) (by decide) dX8_except_57 ?_
    exact zV_vret (x := 0) rfl dX8_except_60 (by decide) (by decide) (z_ret h)
set_option maxHeartbeats 4000000 in
set_option maxRecDepth 100000 in
theorem vX8_except_34 {l : Launch} {D : va_G} {T : Nat → ClassId} {b : Nat} {gr : Bool} {n0 : Nat} (x0 : Nat) (x1 : Int32) (x2 : Int32) (x3 : Int32) (s0 : Nat) (s1 : Int32) (M : zM) (o : Int32 × zM) (h : fX8_except_34 x0 x1 x2 x3 s0 s1 M = some o) : zV false l RX8 cX8_except 4 none false 10 0 0 D T b gr n0 (0, o.1, o.2) 0 0 34 [(0, zr b x0), (1, .int x1), (2, .int x2), (3, .int x3)] [.int s1, zr b s0] M := by
  unfold fX8_except_34 at h
  refine zV_iconst (v := 0) dX8_except_34 (by decide) ?_
  exact vX8_except_35 x0 x1 x2 x3 s0 s1 0 M _ h
set_option maxHeartbeats 4000000 in
set_option maxRecDepth 100000 in
theorem vX8_except (l : Launch) (D : va_G) (T : Nat → ClassId) (b : Nat) (gr : Bool) (x0 : Nat) (x1 : Int32) (x2 : Int32) (x3 : Int32) (M : zM) (r : Int32) (M' : zM) (h : fX8_except x0 x1 x2 x3 M = some (r, M')) : zMet l D T b gr yX8_except cX8_except 4 none 10 0 0 [zr b x0, .int x1, .int x2, .int x3] M (0, r, M') := by
  refine zEntry2 false (fun h9 => nomatch h9) zp_yX8_except ⟨zr_cat _ _, rfl, rfl, rfl, trivial⟩ (Nat.le_of_ble_eq_true rfl) ?_
  obtain ⟨o, ho⟩ : ∃ o : Int32 × zM, o = (r, M') := ⟨_, rfl⟩
  rw [← ho] at h
  rw [show ((0, r, M') : Nat × Int32 × zM) = (0, o.1, o.2) by rw [ho]]
  show zV false l RX8 cX8_except 4 none false 10 0 0 D T b gr M.2.2.2 (0, o.1, o.2) 0 0 0 [(0, zr b x0), (1, .int x1), (2, .int x2), (3, .int x3)] [] M
  unfold fX8_except at h
  refine zV_aload_n (j := 0) dX8_except_0 rfl rfl ?_
  refine zV_iload_n (j := 1) dX8_except_1 rfl rfl ?_
  refine zV_iconst (v := 0) dX8_except_2 (by decide) ?_
  refine zV_bipush (v := 9) dX8_except_3 (by decide) ?_
  obtain ⟨r18, M19, q20, h⟩ := zb_of h
  refine zV_callSi (As := [.int x1, .int 0, .int 9]) (rest := [zr b x0]) (vX8_in l D T b gr x1 0 9 M _ _ q20) zm_yX8_in zl_RX8_159 zs_yX8_in rfl rfl (zcs ⟨zr_cat _ _, trivial⟩ (Nat.le_of_ble_eq_true rfl)) (by decide) (by decide) (by decide) dX8_except_5 ?_
  refine zV_iload_n (j := 2) dX8_except_8 rfl rfl ?_
  refine zV_iconst (v := 0) dX8_except_9 (by decide) ?_
  refine zV_sipush (v := 1023) dX8_except_10 (by decide) ?_
  obtain ⟨r21, M22, q23, h⟩ := zb_of h
  refine zV_callSi (As := [.int x2, .int 0, .int 1023]) (rest := [.int r18, zr b x0]) (vX8_in l D T b gr x2 0 1023 M19 _ _ q23) zm_yX8_in zl_RX8_159 zs_yX8_in rfl rfl (zcs ⟨rfl, zr_cat _ _, trivial⟩ (Nat.le_of_ble_eq_true rfl)) (by decide) (by decide) (by decide) dX8_except_13 ?_
  refine zV_if_eq (tgt := 34) dX8_except_16 (by decide) (fun c24 => ?_) (fun c24 => ?_)
  · replace h := z_t c24 h
    exact vX8_except_34 x0 x1 x2 x3 x0 r18 M22 _ h
  · replace h := z_f c24 h
    refine zV_iload_n (j := 3) dX8_except_19 rfl rfl ?_
    refine zV_iconst (v := 0) dX8_except_20 (by decide) ?_
    refine zV_sipush (v := 1023) dX8_except_21 (by decide) ?_
    obtain ⟨r25, M26, q27, h⟩ := zb_of h
    refine zV_callSi (As := [.int x3, .int 0, .int 1023]) (rest := [.int r18, zr b x0]) (vX8_in l D T b gr x3 0 1023 M22 _ _ q27) zm_yX8_in zl_RX8_159 zs_yX8_in rfl rfl (zcs ⟨rfl, zr_cat _ _, trivial⟩ (Nat.le_of_ble_eq_true rfl)) (by decide) (by decide) (by decide) dX8_except_24 ?_
    refine zV_if_eq (tgt := 34) dX8_except_27 (by decide) (fun c28 => ?_) (fun c28 => ?_)
    · replace h := z_t c28 h
      exact vX8_except_34 x0 x1 x2 x3 x0 r18 M26 _ h
    · replace h := z_f c28 h
      refine zV_iconst (v := 1) dX8_except_30 (by decide) ?_
      refine zV_goto (tgt := 35) dX8_except_31 (by decide) ?_
      exact vX8_except_35 x0 x1 x2 x3 x0 r18 1 M26 _ h
set_option maxHeartbeats 4000000 in
set_option maxRecDepth 100000 in
theorem vX8_omit (l : Launch) (D : va_G) (T : Nat → ClassId) (b : Nat) (gr : Bool) (x0 : Nat) (x1 : Int32) (x2 : Int32) (x3 : Int32) (M : zM) (r : Int32) (M' : zM) (h : fX8_omit x0 x1 x2 x3 M = some (r, M')) : zMet l D T b gr yX8_omit cX8_omit 4 none 10 0 0 [zr b x0, .int x1, .int x2, .int x3] M (0, r, M') := by
  refine zEntry2 false (fun h9 => nomatch h9) zp_yX8_omit ⟨zr_cat _ _, rfl, rfl, rfl, trivial⟩ (Nat.le_of_ble_eq_true rfl) ?_
  obtain ⟨o, ho⟩ : ∃ o : Int32 × zM, o = (r, M') := ⟨_, rfl⟩
  rw [← ho] at h
  rw [show ((0, r, M') : Nat × Int32 × zM) = (0, o.1, o.2) by rw [ho]]
  show zV false l RX8 cX8_omit 4 none false 10 0 0 D T b gr M.2.2.2 (0, o.1, o.2) 0 0 0 [(0, zr b x0), (1, .int x1), (2, .int x2), (3, .int x3)] [] M
  unfold fX8_omit at h
  refine zV_aload_n (j := 0) dX8_omit_0 rfl rfl ?_
  refine zV_iload_n (j := 1) dX8_omit_1 rfl rfl ?_
  refine zV_iconst (v := 0) dX8_omit_2 (by decide) ?_
  refine zV_bipush (v := 9) dX8_omit_3 (by decide) ?_
  obtain ⟨r1, M2, q3, h⟩ := zb_of h
  refine zV_callSi (As := [.int x1, .int 0, .int 9]) (rest := [zr b x0]) (vX8_in l D T b gr x1 0 9 M _ _ q3) zm_yX8_in zl_RX8_159 zs_yX8_in rfl rfl (zcs ⟨zr_cat _ _, trivial⟩ (Nat.le_of_ble_eq_true rfl)) (by decide) (by decide) (by decide) dX8_omit_5 ?_
  refine zV_iconst (v := 1) dX8_omit_8 (by decide) ?_
  refine zV_iconst (v := 1) dX8_omit_9 (by decide) ?_
  obtain ⟨g4, h⟩ := zg_of h
  obtain ⟨r5, M6, q7, h⟩ := zb_of h
  refine zV_callVi (ci := 8) (As := [.int r1, .int 1, .int 1]) (rest := []) (vX8_goes l D T b gr x0 r1 1 1 M2 _ _ q7) zm_yX8_goes zl_RX8_163 zi_yX8_goes ze_yX8_goes zcI8 g4 rfl rfl (zcs trivial (Nat.le_of_ble_eq_true rfl)) (by decide) (by decide) (by decide) dX8_omit_10 ?_
  refine zV_if_eq (tgt := 34) dX8_omit_13 (by decide) (fun c8 => ?_) (fun c8 => ?_)
  · replace h := z_t c8 h
    exact zV_vret (x := 0) rfl dX8_omit_34 (by decide) (by decide) (z_ret h)
  · replace h := z_f c8 h
    refine zV_aload_n (j := 0) dX8_omit_16 rfl rfl ?_
    obtain ⟨g9, h⟩ := zg_of h
    refine zV_getR zf_RX8_25 dX8_omit_17 rfl g9 ?_
    refine zV_iload_n (j := 1) dX8_omit_20 rfl rfl ?_
    refine zV_iload_n (j := 2) dX8_omit_21 rfl rfl ?_
    obtain ⟨g10, h⟩ := zg_of h
    obtain ⟨g11, h⟩ := zg_of h
    obtain ⟨g12, h⟩ := zg_of h
    refine zV_zast dX8_omit_22 g10 g11 g12 ?_
    refine zV_mem (fun M13 e14 => ?_)
    replace h := zlet_of h e14
    refine zV_aload_n (j := 0) dX8_omit_23 rfl rfl ?_
    refine zV_getR zf_RX8_29 dX8_omit_24 rfl (zkI e14 g9) ?_
    refine zV_iload_n (j := 1) dX8_omit_27 rfl rfl ?_
    refine zV_iload_n (j := 3) dX8_omit_28 rfl rfl ?_
    obtain ⟨g15, h⟩ := zg_of h
    obtain ⟨g16, h⟩ := zg_of h
    obtain ⟨g17, h⟩ := zg_of h
    refine zV_zast dX8_omit_29 g15 g16 g17 ?_
    refine zV_mem (fun M18 e19 => ?_)
    replace h := zlet_of h e19
    refine zV_aload_n (j := 0) dX8_omit_30 rfl rfl ?_
    obtain ⟨r20, M21, q22, h⟩ := zb_of h
    refine zV_callVv (ci := 8) (As := []) (rest := []) (vX8_allAnew l D T b gr x0 M18 _ _ q22) zm_yX8_allAnew zl_RX8_171 zi_yX8_allAnew ze_yX8_allAnew zcI8 (zkI e19 (zkI e14 g9)) rfl rfl (zcs trivial (Nat.le_of_ble_eq_true rfl)) (by decide) (by decide) (by decide) dX8_omit_31 ?_
    exact zV_vret (x := 0) rfl dX8_omit_34 (by decide) (by decide) (z_ret h)
set_option maxHeartbeats 4000000 in
set_option maxRecDepth 100000 in
theorem vX8_isToken_9 {l : Launch} {D : va_G} {T : Nat → ClassId} {b : Nat} {gr : Bool} {n0 : Nat} (x1 : Int32) (M : zM) (o : Int32 × zM) (h : fX8_isToken_9 x1 M = some o) : zV false l RX8 cX8_isToken 2 (some .boolean) false 1 0 0 D T b gr n0 (0, o.1, o.2) 0 0 9 [(1, .int x1)] [] M := by
  unfold fX8_isToken_9 at h
  refine zV_iload_n (j := 0) dX8_isToken_9 rfl rfl ?_
  refine zV_iconst (v := 0) dX8_isToken_10 (by decide) ?_
  refine zV_bipush (v := 9) dX8_isToken_11 (by decide) ?_
  obtain ⟨r1, M2, q3, h⟩ := zb_of h
  refine zV_callSi (As := [.int x1, .int 0, .int 9]) (rest := []) (vX8_in l D T b gr x1 0 9 M _ _ q3) zm_yX8_in zl_RX8_159 zs_yX8_in rfl rfl (zcs trivial (Nat.le_of_ble_eq_true rfl)) (by decide) (by decide) (by decide) dX8_isToken_13 ?_
  refine zV_goto (tgt := 72) dX8_isToken_16 (by decide) ?_
  obtain ⟨g4, h⟩ := zg_of h
  exact zV_zret rfl dX8_isToken_72 (by decide) (by decide) g4 (z_ret h)
set_option maxHeartbeats 4000000 in
set_option maxRecDepth 100000 in
theorem vX8_isToken (l : Launch) (D : va_G) (T : Nat → ClassId) (b : Nat) (gr : Bool) (x0 : Int32) (x1 : Int32) (M : zM) (r : Int32) (M' : zM) (h : fX8_isToken x0 x1 M = some (r, M')) : zMet l D T b gr yX8_isToken cX8_isToken 2 (some .boolean) 1 0 0 [.int x0, .int x1] M (0, r, M') := by
  refine zEntry2 false (fun h9 => nomatch h9) zp_yX8_isToken ⟨rfl, rfl, trivial⟩ (Nat.le_of_ble_eq_true rfl) ?_
  obtain ⟨o, ho⟩ : ∃ o : Int32 × zM, o = (r, M') := ⟨_, rfl⟩
  rw [← ho] at h
  rw [show ((0, r, M') : Nat × Int32 × zM) = (0, o.1, o.2) by rw [ho]]
  show zV false l RX8 cX8_isToken 2 (some .boolean) false 1 0 0 D T b gr M.2.2.2 (0, o.1, o.2) 0 0 0 [(0, .int x0), (1, .int x1)] [] M
  unfold fX8_isToken at h
  refine zV_iload_n (j := 0) dX8_isToken_0 rfl rfl ?_
  refine zV_if_eq (tgt := 9) dX8_isToken_1 (by decide) (fun c5 => ?_) (fun c5 => ?_)
  · replace h := z_t c5 h
    refine zV_pk [1] rfl ?_
    exact vX8_isToken_9 x1 M _ h
  · replace h := z_f c5 h
    refine zV_iload_n (j := 0) dX8_isToken_4 rfl rfl ?_
    refine zV_iconst (v := 1) dX8_isToken_5 (by decide) ?_
    refine zV_icmp_ne (tgt := 19) dX8_isToken_6 (by decide) (fun c6 => ?_) (fun c6 => ?_)
    · replace h := z_f c6 h
      refine zV_iload_n (j := 0) dX8_isToken_19 rfl rfl ?_
      refine zV_iconst (v := 4) dX8_isToken_20 (by decide) ?_
      refine zV_icmp_ne (tgt := 35) dX8_isToken_21 (by decide) (fun c7 => ?_) (fun c7 => ?_)
      · replace h := z_f c7 h
        refine zV_iload_n (j := 0) dX8_isToken_35 rfl rfl ?_
        refine zV_bipush (v := 6) dX8_isToken_36 (by decide) ?_
        refine zV_icmp_ne (tgt := 50) dX8_isToken_38 (by decide) (fun c8 => ?_) (fun c8 => ?_)
        · replace h := z_f c8 h
          refine zV_iload_n (j := 0) dX8_isToken_50 rfl rfl ?_
          refine zV_bipush (v := 7) dX8_isToken_51 (by decide) ?_
          refine zV_icmp_ne (tgt := 65) dX8_isToken_53 (by decide) (fun c9 => ?_) (fun c9 => ?_)
          · replace h := z_f c9 h
            refine zV_iload_n (j := 0) dX8_isToken_65 rfl rfl ?_
            refine zV_iconst (v := 0) dX8_isToken_66 (by decide) ?_
            refine zV_bipush (v := 8) dX8_isToken_67 (by decide) ?_
            obtain ⟨r10, M11, q12, h⟩ := zb_of h
            refine zV_callSi (As := [.int x0, .int 0, .int 8]) (rest := []) (vX8_in l D T b gr x0 0 8 M _ _ q12) zm_yX8_in zl_RX8_159 zs_yX8_in rfl rfl (zcs trivial (Nat.le_of_ble_eq_true rfl)) (by decide) (by decide) (by decide) dX8_isToken_69 ?_
            obtain ⟨g13, h⟩ := zg_of h
            exact zV_zret rfl dX8_isToken_72 (by decide) (by decide) g13 (z_ret h)
          · replace h := z_t c9 h
            refine zV_iload_n (j := 1) dX8_isToken_56 rfl rfl ?_
            refine zV_iconst (v := 0) dX8_isToken_57 (by decide) ?_
            refine zV_iconst (v := 3) dX8_isToken_58 (by decide) ?_
            obtain ⟨r14, M15, q16, h⟩ := zb_of h
            refine zV_callSi (As := [.int x1, .int 0, .int 3]) (rest := []) (vX8_in l D T b gr x1 0 3 M _ _ q16) zm_yX8_in zl_RX8_159 zs_yX8_in rfl rfl (zcs trivial (Nat.le_of_ble_eq_true rfl)) (by decide) (by decide) (by decide) dX8_isToken_59 ?_
            refine zV_goto (tgt := 72) dX8_isToken_62 (by decide) ?_
            obtain ⟨g17, h⟩ := zg_of h
            exact zV_zret rfl dX8_isToken_72 (by decide) (by decide) g17 (z_ret h)
        · replace h := z_t c8 h
          refine zV_iload_n (j := 1) dX8_isToken_41 rfl rfl ?_
          refine zV_iconst (v := 0) dX8_isToken_42 (by decide) ?_
          refine zV_iconst (v := 5) dX8_isToken_43 (by decide) ?_
          obtain ⟨r18, M19, q20, h⟩ := zb_of h
          refine zV_callSi (As := [.int x1, .int 0, .int 5]) (rest := []) (vX8_in l D T b gr x1 0 5 M _ _ q20) zm_yX8_in zl_RX8_159 zs_yX8_in rfl rfl (zcs trivial (Nat.le_of_ble_eq_true rfl)) (by decide) (by decide) (by decide) dX8_isToken_44 ?_
          refine zV_goto (tgt := 72) dX8_isToken_47 (by decide) ?_
          obtain ⟨g21, h⟩ := zg_of h
          exact zV_zret rfl dX8_isToken_72 (by decide) (by decide) g21 (z_ret h)
      · replace h := z_t c7 h
        refine zV_iload_n (j := 1) dX8_isToken_24 rfl rfl ?_
        refine zV_bipush (v := 32) dX8_isToken_25 (by decide) ?_
        refine zV_bipush (v := 126) dX8_isToken_27 (by decide) ?_
        obtain ⟨r22, M23, q24, h⟩ := zb_of h
        refine zV_callSi (As := [.int x1, .int 32, .int 126]) (rest := []) (vX8_in l D T b gr x1 32 126 M _ _ q24) zm_yX8_in zl_RX8_159 zs_yX8_in rfl rfl (zcs trivial (Nat.le_of_ble_eq_true rfl)) (by decide) (by decide) (by decide) dX8_isToken_29 ?_
        refine zV_goto (tgt := 72) dX8_isToken_32 (by decide) ?_
        obtain ⟨g25, h⟩ := zg_of h
        exact zV_zret rfl dX8_isToken_72 (by decide) (by decide) g25 (z_ret h)
    · replace h := z_t c6 h
      refine zV_pk [1] rfl ?_
      exact vX8_isToken_9 x1 M _ h
set_option maxHeartbeats 4000000 in
set_option maxRecDepth 100000 in
theorem vX8_entity_37 {l : Launch} {D : va_G} {T : Nat → ClassId} {b : Nat} {gr : Bool} {n0 : Nat} (x0 : Nat) (x1 : Int32) (x2 : Int32) (x3 : Int32) (s0 : Nat) (s1 : Int32) (s2 : Int32) (s3 : Int32) (M : zM) (o : Int32 × zM) (h : fX8_entity_37 x0 x1 x2 x3 s0 s1 s2 s3 M = some o) : zV false l RX8 cX8_entity 5 (some .int) false 10 0 0 D T b gr n0 (0, o.1, o.2) 0 0 37 [(0, zr b x0), (1, .int x1), (2, .int x2), (3, .int x3)] [.int s3, .int s2, .int s1, zr b s0] M := by
  unfold fX8_entity_37 at h
  obtain ⟨g1, h⟩ := zg_of h
  obtain ⟨r2, M3, q4, h⟩ := zb_of h
  refine zV_callVi (ci := 8) (As := [.int s1, .int s2, .int s3]) (rest := []) (vX8_goes l D T b gr s0 s1 s2 s3 M _ _ q4) zm_yX8_goes zl_RX8_163 zi_yX8_goes ze_yX8_goes zcI8 g1 rfl rfl (zcs trivial (Nat.le_of_ble_eq_true rfl)) (by decide) (by decide) (by decide) dX8_entity_37 ?_
  refine zV_if_ne (tgt := 45) dX8_entity_40 (by decide) (fun c5 => ?_) (fun c5 => ?_)
  · replace h := z_f c5 h
    refine zV_aload_n (j := 0) dX8_entity_45 rfl rfl ?_
    obtain ⟨g6, h⟩ := zg_of h
    refine zV_getR zf_RX8_32 dX8_entity_46 rfl g6 ?_
    refine zV_bipush (v := 6) dX8_entity_49 (by decide) ?_
    refine zV_iload_n (j := 1) dX8_entity_51 rfl rfl ?_
    refine zV_imul dX8_entity_52 ?_
    refine zV_aload_n (j := 0) dX8_entity_53 rfl rfl ?_
    refine zV_getR zf_RX8_38 dX8_entity_54 rfl g6 ?_
    refine zV_iload_n (j := 1) dX8_entity_57 rfl rfl ?_
    obtain ⟨g7, h⟩ := zg_of h
    obtain ⟨g8, h⟩ := zg_of h
    refine zV_iald dX8_entity_58 g7 g8 ?_
    refine zV_iadd dX8_entity_59 ?_
    refine zV_iload_n (j := 2) dX8_entity_60 rfl rfl ?_
    obtain ⟨g9, h⟩ := zg_of h
    obtain ⟨g10, h⟩ := zg_of h
    refine zV_iast dX8_entity_61 g9 g10 ?_
    refine zV_mem (fun M11 e12 => ?_)
    replace h := zlet_of h e12
    refine zV_aload_n (j := 0) dX8_entity_62 rfl rfl ?_
    refine zV_getR zf_RX8_35 dX8_entity_63 rfl (zkI e12 g6) ?_
    refine zV_bipush (v := 6) dX8_entity_66 (by decide) ?_
    refine zV_iload_n (j := 1) dX8_entity_68 rfl rfl ?_
    refine zV_imul dX8_entity_69 ?_
    refine zV_aload_n (j := 0) dX8_entity_70 rfl rfl ?_
    refine zV_getR zf_RX8_38 dX8_entity_71 rfl (zkI e12 g6) ?_
    refine zV_iload_n (j := 1) dX8_entity_74 rfl rfl ?_
    obtain ⟨g13, h⟩ := zg_of h
    obtain ⟨g14, h⟩ := zg_of h
    refine zV_iald dX8_entity_75 g13 g14 ?_
    refine zV_iadd dX8_entity_76 ?_
    refine zV_iload_n (j := 3) dX8_entity_77 rfl rfl ?_
    obtain ⟨g15, h⟩ := zg_of h
    obtain ⟨g16, h⟩ := zg_of h
    refine zV_iast dX8_entity_78 g15 g16 ?_
    refine zV_mem (fun M17 e18 => ?_)
    replace h := zlet_of h e18
    refine zV_aload_n (j := 0) dX8_entity_79 rfl rfl ?_
    refine zV_getR zf_RX8_38 dX8_entity_80 rfl (zkI e18 (zkI e12 g6)) ?_
    refine zV_iload_n (j := 1) dX8_entity_83 rfl rfl ?_
    refine zV_dup2 dX8_entity_84 rfl (zr_cat _ _) ?_
    obtain ⟨g19, h⟩ := zg_of h
    obtain ⟨g20, h⟩ := zg_of h
    refine zV_iald dX8_entity_85 g19 g20 ?_
    refine zV_iconst (v := 1) dX8_entity_86 (by decide) ?_
    refine zV_iadd dX8_entity_87 ?_
    obtain ⟨g21, h⟩ := zg_of h
    refine zV_iast dX8_entity_88 g19 g21 ?_
    refine zV_mem (fun M22 e23 => ?_)
    replace h := zlet_of h e23
    refine zV_aload_n (j := 0) dX8_entity_89 rfl rfl ?_
    obtain ⟨r24, M25, q26, h⟩ := zb_of h
    refine zV_callVv (ci := 8) (As := []) (rest := []) (vX8_allAnew l D T b gr x0 M22 _ _ q26) zm_yX8_allAnew zl_RX8_171 zi_yX8_allAnew ze_yX8_allAnew zcI8 (zkI e23 (zkI e18 (zkI e12 g6))) rfl rfl (zcs trivial (Nat.le_of_ble_eq_true rfl)) (by decide) (by decide) (by decide) dX8_entity_90 ?_
    refine zV_aload_n (j := 0) dX8_entity_93 rfl rfl ?_
    obtain ⟨g27, h⟩ := zg_of h
    refine zV_getR zf_RX8_38 dX8_entity_94 rfl g27 ?_
    refine zV_iload_n (j := 1) dX8_entity_97 rfl rfl ?_
    obtain ⟨g28, h⟩ := zg_of h
    obtain ⟨g29, h⟩ := zg_of h
    refine zV_iald dX8_entity_98 g28 g29 ?_
    exact zV_iret rfl dX8_entity_99 (by decide) (by decide) (z_ret h)
  · replace h := z_t c5 h
    refine zV_iconst (v := 0) dX8_entity_43 (by decide) ?_
    exact zV_iret rfl dX8_entity_44 (by decide) (by decide) (z_ret h)
set_option maxHeartbeats 4000000 in
set_option maxRecDepth 100000 in
theorem vX8_entity_36 {l : Launch} {D : va_G} {T : Nat → ClassId} {b : Nat} {gr : Bool} {n0 : Nat} (x0 : Nat) (x1 : Int32) (x2 : Int32) (x3 : Int32) (s0 : Nat) (s1 : Int32) (s2 : Int32) (M : zM) (o : Int32 × zM) (h : fX8_entity_36 x0 x1 x2 x3 s0 s1 s2 M = some o) : zV false l RX8 cX8_entity 5 (some .int) false 10 0 0 D T b gr n0 (0, o.1, o.2) 0 0 36 [(0, zr b x0), (1, .int x1), (2, .int x2), (3, .int x3)] [.int s2, .int s1, zr b s0] M := by
  unfold fX8_entity_36 at h
  refine zV_iconst (v := 0) dX8_entity_36 (by decide) ?_
  exact vX8_entity_37 x0 x1 x2 x3 s0 s1 s2 0 M _ h
set_option maxHeartbeats 4000000 in
set_option maxRecDepth 100000 in
theorem vX8_entity (l : Launch) (D : va_G) (T : Nat → ClassId) (b : Nat) (gr : Bool) (x0 : Nat) (x1 : Int32) (x2 : Int32) (x3 : Int32) (M : zM) (r : Int32) (M' : zM) (h : fX8_entity x0 x1 x2 x3 M = some (r, M')) : zMet l D T b gr yX8_entity cX8_entity 5 (some .int) 10 0 0 [zr b x0, .int x1, .int x2, .int x3] M (0, r, M') := by
  refine zEntry2 false (fun h9 => nomatch h9) zp_yX8_entity ⟨zr_cat _ _, rfl, rfl, rfl, trivial⟩ (Nat.le_of_ble_eq_true rfl) ?_
  obtain ⟨o, ho⟩ : ∃ o : Int32 × zM, o = (r, M') := ⟨_, rfl⟩
  rw [← ho] at h
  rw [show ((0, r, M') : Nat × Int32 × zM) = (0, o.1, o.2) by rw [ho]]
  show zV false l RX8 cX8_entity 5 (some .int) false 10 0 0 D T b gr M.2.2.2 (0, o.1, o.2) 0 0 0 [(0, zr b x0), (1, .int x1), (2, .int x2), (3, .int x3)] [] M
  unfold fX8_entity at h
  refine zV_iload_n (j := 1) dX8_entity_0 rfl rfl ?_
  refine zV_iconst (v := 0) dX8_entity_1 (by decide) ?_
  refine zV_iconst (v := 5) dX8_entity_2 (by decide) ?_
  obtain ⟨r30, M31, q32, h⟩ := zb_of h
  refine zV_callSi (As := [.int x1, .int 0, .int 5]) (rest := []) (vX8_in l D T b gr x1 0 5 M _ _ q32) zm_yX8_in zl_RX8_159 zs_yX8_in rfl rfl (zcs trivial (Nat.le_of_ble_eq_true rfl)) (by decide) (by decide) (by decide) dX8_entity_3 ?_
  refine zV_istore [(4, .int r30), (0, zr b x0), (1, .int x1), (2, .int x2), (3, .int x3)] dX8_entity_6 (by decide) rfl ?_
  refine zV_aload_n (j := 1) dX8_entity_8 rfl rfl ?_
  refine zV_iload (j := 0) dX8_entity_9 rfl ?_
  refine zV_iload_n (j := 3) dX8_entity_11 rfl rfl ?_
  refine zV_iload_n (j := 4) dX8_entity_12 rfl rfl ?_
  obtain ⟨r33, M34, q35, h⟩ := zb_of h
  refine zV_callSi (As := [.int x2, .int x3]) (rest := [.int r30, zr b x0]) (vX8_isToken l D T b gr x2 x3 M31 _ _ q35) zm_yX8_isToken zl_RX8_180 zs_yX8_isToken rfl rfl (zcs ⟨rfl, zr_cat _ _, trivial⟩ (Nat.le_of_ble_eq_true rfl)) (by decide) (by decide) (by decide) dX8_entity_13 ?_
  refine zV_iload (j := 0) dX8_entity_16 rfl ?_
  refine zV_if_eq (tgt := 36) dX8_entity_18 (by decide) (fun c36 => ?_) (fun c36 => ?_)
  · replace h := z_t c36 h
    refine zV_pk [1, 2, 3, 4] rfl ?_
    exact vX8_entity_36 x0 x1 x2 x3 x0 r30 r33 M34 _ h
  · replace h := z_f c36 h
    refine zV_aload_n (j := 1) dX8_entity_21 rfl rfl ?_
    obtain ⟨g37, h⟩ := zg_of h
    refine zV_getR zf_RX8_38 dX8_entity_22 rfl g37 ?_
    refine zV_iload_n (j := 2) dX8_entity_25 rfl rfl ?_
    obtain ⟨g38, h⟩ := zg_of h
    obtain ⟨g39, h⟩ := zg_of h
    refine zV_iald dX8_entity_26 g38 g39 ?_
    refine zV_bipush (v := 6) dX8_entity_27 (by decide) ?_
    refine zV_icmp_ge (tgt := 36) dX8_entity_29 (by decide) (fun c40 => ?_) (fun c40 => ?_)
    · replace h := z_t c40 h
      refine zV_pk [1, 2, 3, 4] rfl ?_
      exact vX8_entity_36 x0 x1 x2 x3 x0 r30 r33 M34 _ h
    · replace h := z_f c40 h
      refine zV_iconst (v := 1) dX8_entity_32 (by decide) ?_
      refine zV_goto (tgt := 37) dX8_entity_33 (by decide) ?_
      refine zV_pk [1, 2, 3, 4] rfl ?_
      exact vX8_entity_37 x0 x1 x2 x3 x0 r30 r33 1 M34 _ h
set_option maxHeartbeats 4000000 in
set_option maxRecDepth 100000 in
theorem vX8_clear (l : Launch) (D : va_G) (T : Nat → ClassId) (b : Nat) (gr : Bool) (x0 : Nat) (x1 : Int32) (M : zM) (r : Int32) (M' : zM) (h : fX8_clear x0 x1 M = some (r, M')) : zMet l D T b gr yX8_clear cX8_clear 3 (some .int) 10 0 0 [zr b x0, .int x1] M (0, r, M') := by
  refine zEntry2 false (fun h9 => nomatch h9) zp_yX8_clear ⟨zr_cat _ _, rfl, trivial⟩ (Nat.le_of_ble_eq_true rfl) ?_
  obtain ⟨o, ho⟩ : ∃ o : Int32 × zM, o = (r, M') := ⟨_, rfl⟩
  rw [← ho] at h
  rw [show ((0, r, M') : Nat × Int32 × zM) = (0, o.1, o.2) by rw [ho]]
  show zV false l RX8 cX8_clear 3 (some .int) false 10 0 0 D T b gr M.2.2.2 (0, o.1, o.2) 0 0 0 [(0, zr b x0), (1, .int x1)] [] M
  unfold fX8_clear at h
  refine zV_aload_n (j := 0) dX8_clear_0 rfl rfl ?_
  refine zV_iload_n (j := 1) dX8_clear_1 rfl rfl ?_
  refine zV_iconst (v := 0) dX8_clear_2 (by decide) ?_
  refine zV_iconst (v := 5) dX8_clear_3 (by decide) ?_
  obtain ⟨r1, M2, q3, h⟩ := zb_of h
  refine zV_callSi (As := [.int x1, .int 0, .int 5]) (rest := [zr b x0]) (vX8_in l D T b gr x1 0 5 M _ _ q3) zm_yX8_in zl_RX8_159 zs_yX8_in rfl rfl (zcs ⟨zr_cat _ _, trivial⟩ (Nat.le_of_ble_eq_true rfl)) (by decide) (by decide) (by decide) dX8_clear_4 ?_
  refine zV_iconst (v := 1) dX8_clear_7 (by decide) ?_
  refine zV_iconst (v := 1) dX8_clear_8 (by decide) ?_
  obtain ⟨g4, h⟩ := zg_of h
  obtain ⟨r5, M6, q7, h⟩ := zb_of h
  refine zV_callVi (ci := 8) (As := [.int r1, .int 1, .int 1]) (rest := []) (vX8_goes l D T b gr x0 r1 1 1 M2 _ _ q7) zm_yX8_goes zl_RX8_163 zi_yX8_goes ze_yX8_goes zcI8 g4 rfl rfl (zcs trivial (Nat.le_of_ble_eq_true rfl)) (by decide) (by decide) (by decide) dX8_clear_9 ?_
  refine zV_if_ne (tgt := 17) dX8_clear_12 (by decide) (fun c8 => ?_) (fun c8 => ?_)
  · replace h := z_f c8 h
    refine zV_aload_n (j := 0) dX8_clear_17 rfl rfl ?_
    obtain ⟨g9, h⟩ := zg_of h
    refine zV_getR zf_RX8_38 dX8_clear_18 rfl g9 ?_
    refine zV_iload_n (j := 1) dX8_clear_21 rfl rfl ?_
    obtain ⟨g10, h⟩ := zg_of h
    obtain ⟨g11, h⟩ := zg_of h
    refine zV_iald dX8_clear_22 g10 g11 ?_
    refine zV_top (fun u12 e13 => ?_)
    replace h := zlet_of h e13
    refine zV_istore_n [(2, .int u12), (0, zr b x0), (1, .int x1)] dX8_clear_23 rfl (by decide) rfl ?_
    refine zV_aload_n (j := 1) dX8_clear_24 rfl rfl ?_
    refine zV_getR zf_RX8_38 dX8_clear_25 rfl g9 ?_
    refine zV_iload_n (j := 2) dX8_clear_28 rfl rfl ?_
    refine zV_iconst (v := 0) dX8_clear_29 (by decide) ?_
    obtain ⟨g14, h⟩ := zg_of h
    refine zV_iast dX8_clear_30 g10 g14 ?_
    refine zV_mem (fun M15 e16 => ?_)
    replace h := zlet_of h e16
    refine zV_aload_n (j := 1) dX8_clear_31 rfl rfl ?_
    obtain ⟨r17, M18, q19, h⟩ := zb_of h
    refine zV_callVv (ci := 8) (As := []) (rest := []) (vX8_allAnew l D T b gr x0 M15 _ _ q19) zm_yX8_allAnew zl_RX8_171 zi_yX8_allAnew ze_yX8_allAnew zcI8 (zkI e16 g9) rfl rfl (zcs trivial (Nat.le_of_ble_eq_true rfl)) (by decide) (by decide) (by decide) dX8_clear_32 ?_
    refine zV_iload_n (j := 0) dX8_clear_35 rfl rfl ?_
    exact zV_iret rfl dX8_clear_36 (by decide) (by decide) (z_ret h)
  · replace h := z_t c8 h
    refine zV_iconst (v := 0) dX8_clear_15 (by decide) ?_
    exact zV_iret rfl dX8_clear_16 (by decide) (by decide) (z_ret h)
set_option maxHeartbeats 4000000 in
set_option maxRecDepth 100000 in
theorem vX8_flip (l : Launch) (D : va_G) (T : Nat → ClassId) (b : Nat) (gr : Bool) (x0 : Nat) (x1 : Int32) (x2 : Int32) (M : zM) (r : Int32) (M' : zM) (h : fX8_flip x0 x1 x2 M = some (r, M')) : zMet l D T b gr yX8_flip cX8_flip 4 (some .int) 10 0 0 [zr b x0, .int x1, .int x2] M (0, r, M') := by
  refine zEntry2 false (fun h9 => nomatch h9) zp_yX8_flip ⟨zr_cat _ _, rfl, rfl, trivial⟩ (Nat.le_of_ble_eq_true rfl) ?_
  obtain ⟨o, ho⟩ : ∃ o : Int32 × zM, o = (r, M') := ⟨_, rfl⟩
  rw [← ho] at h
  rw [show ((0, r, M') : Nat × Int32 × zM) = (0, o.1, o.2) by rw [ho]]
  show zV false l RX8 cX8_flip 4 (some .int) false 10 0 0 D T b gr M.2.2.2 (0, o.1, o.2) 0 0 0 [(0, zr b x0), (1, .int x1), (2, .int x2)] [] M
  unfold fX8_flip at h
  refine zV_aload_n (j := 0) dX8_flip_0 rfl rfl ?_
  refine zV_iload_n (j := 1) dX8_flip_1 rfl rfl ?_
  refine zV_iconst (v := 0) dX8_flip_2 (by decide) ?_
  refine zV_iconst (v := 3) dX8_flip_3 (by decide) ?_
  obtain ⟨r1, M2, q3, h⟩ := zb_of h
  refine zV_callSi (As := [.int x1, .int 0, .int 3]) (rest := [zr b x0]) (vX8_in l D T b gr x1 0 3 M _ _ q3) zm_yX8_in zl_RX8_159 zs_yX8_in rfl rfl (zcs ⟨zr_cat _ _, trivial⟩ (Nat.le_of_ble_eq_true rfl)) (by decide) (by decide) (by decide) dX8_flip_4 ?_
  refine zV_iload_n (j := 2) dX8_flip_7 rfl rfl ?_
  refine zV_iconst (v := 0) dX8_flip_8 (by decide) ?_
  refine zV_iconst (v := 2) dX8_flip_9 (by decide) ?_
  obtain ⟨r4, M5, q6, h⟩ := zb_of h
  refine zV_callSi (As := [.int x2, .int 0, .int 2]) (rest := [.int r1, zr b x0]) (vX8_in l D T b gr x2 0 2 M2 _ _ q6) zm_yX8_in zl_RX8_159 zs_yX8_in rfl rfl (zcs ⟨rfl, zr_cat _ _, trivial⟩ (Nat.le_of_ble_eq_true rfl)) (by decide) (by decide) (by decide) dX8_flip_10 ?_
  refine zV_iconst (v := 1) dX8_flip_13 (by decide) ?_
  obtain ⟨g7, h⟩ := zg_of h
  obtain ⟨r8, M9, q10, h⟩ := zb_of h
  refine zV_callVi (ci := 8) (As := [.int r1, .int r4, .int 1]) (rest := []) (vX8_goes l D T b gr x0 r1 r4 1 M5 _ _ q10) zm_yX8_goes zl_RX8_163 zi_yX8_goes ze_yX8_goes zcI8 g7 rfl rfl (zcs trivial (Nat.le_of_ble_eq_true rfl)) (by decide) (by decide) (by decide) dX8_flip_14 ?_
  refine zV_if_ne (tgt := 22) dX8_flip_17 (by decide) (fun c11 => ?_) (fun c11 => ?_)
  · replace h := z_f c11 h
    refine zV_aload_n (j := 0) dX8_flip_22 rfl rfl ?_
    obtain ⟨g12, h⟩ := zg_of h
    refine zV_getR zf_RX8_41 dX8_flip_23 rfl g12 ?_
    refine zV_iload_n (j := 1) dX8_flip_26 rfl rfl ?_
    obtain ⟨g13, h⟩ := zg_of h
    obtain ⟨g14, h⟩ := zg_of h
    refine zV_iald dX8_flip_27 g13 g14 ?_
    refine zV_top (fun u15 e16 => ?_)
    replace h := zlet_of h e16
    refine zV_istore_n [(3, .int u15), (0, zr b x0), (1, .int x1), (2, .int x2)] dX8_flip_28 rfl (by decide) rfl ?_
    refine zV_aload_n (j := 1) dX8_flip_29 rfl rfl ?_
    refine zV_getR zf_RX8_41 dX8_flip_30 rfl g12 ?_
    refine zV_iload_n (j := 2) dX8_flip_33 rfl rfl ?_
    refine zV_iload_n (j := 3) dX8_flip_34 rfl rfl ?_
    obtain ⟨g17, h⟩ := zg_of h
    refine zV_iast dX8_flip_35 g13 g17 ?_
    refine zV_mem (fun M18 e19 => ?_)
    replace h := zlet_of h e19
    refine zV_aload_n (j := 1) dX8_flip_36 rfl rfl ?_
    obtain ⟨r20, M21, q22, h⟩ := zb_of h
    refine zV_callVv (ci := 8) (As := []) (rest := []) (vX8_allAnew l D T b gr x0 M18 _ _ q22) zm_yX8_allAnew zl_RX8_171 zi_yX8_allAnew ze_yX8_allAnew zcI8 (zkI e19 g12) rfl rfl (zcs trivial (Nat.le_of_ble_eq_true rfl)) (by decide) (by decide) (by decide) dX8_flip_37 ?_
    refine zV_iload_n (j := 0) dX8_flip_40 rfl rfl ?_
    exact zV_iret rfl dX8_flip_41 (by decide) (by decide) (z_ret h)
  · replace h := z_t c11 h
    refine zV_iconst (v := 0) dX8_flip_20 (by decide) ?_
    exact zV_iret rfl dX8_flip_21 (by decide) (by decide) (z_ret h)
set_option maxHeartbeats 4000000 in
set_option maxRecDepth 100000 in
theorem vX8_keepsOld_86 {l : Launch} {D : va_G} {T : Nat → ClassId} {b : Nat} {gr : Bool} {n0 : Nat} (k2 : Nat → Int32 → zM → Option (Int32 × zM)) (hk2 : ∀ (z0 : Nat) (z1 : Int32) (N : zM) (o : Int32 × zM), k2 z0 z1 N = some o → zV false l RX8 cX8_keepsOld 3 none false 0 0 0 D T b gr n0 (0, o.1, o.2) 0 0 2 [(0, zr b z0), (1, .int z1)] [] N) (x0 : Nat) (x1 : Int32) (M : zM) (o : Int32 × zM) (h : fX8_keepsOld_86 k2 x0 x1 M = some o) : zV false l RX8 cX8_keepsOld 3 none false 0 0 0 D T b gr n0 (0, o.1, o.2) 0 0 86 [(0, zr b x0), (1, .int x1)] [] M := by
  unfold fX8_keepsOld_86 at h
  obtain ⟨u1, e2⟩ : ∃ y : Int32, y = x1 + 1 := ⟨_, rfl⟩
  replace h := zlet_of h e2
  refine zV_iinc (j := 1) (v := u1) [(1, .int u1), (0, zr b x0)] dX8_keepsOld_86 rfl (by rw [e2]; rfl) (by decide) rfl ?_
  refine zV_goto (tgt := 2) dX8_keepsOld_89 (by decide) ?_
  refine zV_pk [1, 0] rfl ?_
  exact hk2 x0 u1 M _ h
set_option maxHeartbeats 4000000 in
set_option maxRecDepth 100000 in
theorem vX8_keepsOld_48 {l : Launch} {D : va_G} {T : Nat → ClassId} {b : Nat} {gr : Bool} {n0 : Nat} (k2 : Nat → Int32 → zM → Option (Int32 × zM)) (hk2 : ∀ (z0 : Nat) (z1 : Int32) (N : zM) (o : Int32 × zM), k2 z0 z1 N = some o → zV false l RX8 cX8_keepsOld 3 none false 0 0 0 D T b gr n0 (0, o.1, o.2) 0 0 2 [(0, zr b z0), (1, .int z1)] [] N) : ∀ (n : Nat) (x0 : Nat) (x1 : Int32) (x2 : Int32) (M : zM) (o : Int32 × zM), fX8_keepsOld_48 k2 n x0 x1 x2 M = some o → zV false l RX8 cX8_keepsOld 3 none false 0 0 0 D T b gr n0 (0, o.1, o.2) 0 0 48 [(0, zr b x0), (1, .int x1), (2, .int x2)] [] M := by
  intro n
  induction n with
  | zero =>
    intro x0 x1 x2 M o h
    rw [fX8_keepsOld_48] at h
    cases h
  | succ n ih =>
    intro x0 x1 x2 M o h
    rw [fX8_keepsOld_48] at h
    refine zV_iload_n (j := 2) dX8_keepsOld_48 rfl rfl ?_
    refine zV_aload_n (j := 0) dX8_keepsOld_49 rfl rfl ?_
    obtain ⟨g3, h⟩ := zg_of h
    refine zV_getR zf_RX8_101 dX8_keepsOld_50 rfl g3 ?_
    refine zV_iload_n (j := 1) dX8_keepsOld_53 rfl rfl ?_
    obtain ⟨g4, h⟩ := zg_of h
    obtain ⟨g5, h⟩ := zg_of h
    refine zV_iald dX8_keepsOld_54 g4 g5 ?_
    refine zV_icmp_ge (tgt := 86) dX8_keepsOld_55 (by decide) (fun c6 => ?_) (fun c6 => ?_)
    · replace h := z_t c6 h
      refine zV_pk [0, 1] rfl ?_
      exact vX8_keepsOld_86 k2 hk2 x0 x1 M _ h
    · replace h := z_f c6 h
      refine zV_aload_n (j := 0) dX8_keepsOld_58 rfl rfl ?_
      refine zV_getR zf_RX8_116 dX8_keepsOld_59 rfl g3 ?_
      refine zV_bipush (v := 20) dX8_keepsOld_62 (by decide) ?_
      refine zV_iload_n (j := 1) dX8_keepsOld_64 rfl rfl ?_
      refine zV_imul dX8_keepsOld_65 ?_
      refine zV_iload_n (j := 2) dX8_keepsOld_66 rfl rfl ?_
      refine zV_iadd dX8_keepsOld_67 ?_
      refine zV_aload_n (j := 0) dX8_keepsOld_68 rfl rfl ?_
      refine zV_getR zf_RX8_104 dX8_keepsOld_69 rfl g3 ?_
      refine zV_bipush (v := 20) dX8_keepsOld_72 (by decide) ?_
      refine zV_iload_n (j := 1) dX8_keepsOld_74 rfl rfl ?_
      refine zV_imul dX8_keepsOld_75 ?_
      refine zV_iload_n (j := 2) dX8_keepsOld_76 rfl rfl ?_
      refine zV_iadd dX8_keepsOld_77 ?_
      obtain ⟨g7, h⟩ := zg_of h
      obtain ⟨g8, h⟩ := zg_of h
      refine zV_iald dX8_keepsOld_78 g7 g8 ?_
      obtain ⟨g9, h⟩ := zg_of h
      obtain ⟨g10, h⟩ := zg_of h
      refine zV_iast dX8_keepsOld_79 g9 g10 ?_
      refine zV_mem (fun M11 e12 => ?_)
      replace h := zlet_of h e12
      obtain ⟨u13, e14⟩ : ∃ y : Int32, y = x2 + 1 := ⟨_, rfl⟩
      replace h := zlet_of h e14
      refine zV_iinc (j := 2) (v := u13) [(2, .int u13), (0, zr b x0), (1, .int x1)] dX8_keepsOld_80 rfl (by rw [e14]; rfl) (by decide) rfl ?_
      refine zV_goto (tgt := 48) dX8_keepsOld_83 (by decide) ?_
      refine zV_pk [1, 2, 0] rfl ?_
      exact ih x0 x1 u13 M11 _ h
set_option maxHeartbeats 4000000 in
set_option maxRecDepth 100000 in
theorem vX8_keepsOld_2 {l : Launch} {D : va_G} {T : Nat → ClassId} {b : Nat} {gr : Bool} {n0 : Nat} : ∀ (n : Nat) (x0 : Nat) (x1 : Int32) (M : zM) (o : Int32 × zM), fX8_keepsOld_2 n x0 x1 M = some o → zV false l RX8 cX8_keepsOld 3 none false 0 0 0 D T b gr n0 (0, o.1, o.2) 0 0 2 [(0, zr b x0), (1, .int x1)] [] M := by
  intro n
  induction n with
  | zero =>
    intro x0 x1 M o h
    rw [fX8_keepsOld_2] at h
    cases h
  | succ n ih =>
    intro x0 x1 M o h
    rw [fX8_keepsOld_2] at h
    refine zV_iload_n (j := 1) dX8_keepsOld_2 rfl rfl ?_
    refine zV_aload_n (j := 0) dX8_keepsOld_3 rfl rfl ?_
    obtain ⟨g15, h⟩ := zg_of h
    refine zV_getI zf_RX8_174 dX8_keepsOld_4 rfl g15 ?_
    refine zV_icmp_gt (tgt := 92) dX8_keepsOld_7 (by decide) (fun c16 => ?_) (fun c16 => ?_)
    · replace h := z_t c16 h
      exact zV_vret (x := 0) rfl dX8_keepsOld_92 (by decide) (by decide) (z_ret h)
    · replace h := z_f c16 h
      refine zV_aload_n (j := 0) dX8_keepsOld_10 rfl rfl ?_
      refine zV_getR zf_RX8_113 dX8_keepsOld_11 rfl g15 ?_
      refine zV_iload_n (j := 1) dX8_keepsOld_14 rfl rfl ?_
      refine zV_aload_n (j := 0) dX8_keepsOld_15 rfl rfl ?_
      refine zV_getR zf_RX8_101 dX8_keepsOld_16 rfl g15 ?_
      refine zV_iload_n (j := 1) dX8_keepsOld_19 rfl rfl ?_
      obtain ⟨g17, h⟩ := zg_of h
      obtain ⟨g18, h⟩ := zg_of h
      refine zV_iald dX8_keepsOld_20 g17 g18 ?_
      obtain ⟨g19, h⟩ := zg_of h
      obtain ⟨g20, h⟩ := zg_of h
      refine zV_iast dX8_keepsOld_21 g19 g20 ?_
      refine zV_mem (fun M21 e22 => ?_)
      replace h := zlet_of h e22
      refine zV_aload_n (j := 0) dX8_keepsOld_22 rfl rfl ?_
      refine zV_getR zf_RX8_119 dX8_keepsOld_23 rfl (zkI e22 g15) ?_
      refine zV_iload_n (j := 1) dX8_keepsOld_26 rfl rfl ?_
      refine zV_aload_n (j := 0) dX8_keepsOld_27 rfl rfl ?_
      refine zV_getR zf_RX8_107 dX8_keepsOld_28 rfl (zkI e22 g15) ?_
      refine zV_iload_n (j := 1) dX8_keepsOld_31 rfl rfl ?_
      obtain ⟨g23, h⟩ := zg_of h
      obtain ⟨g24, h⟩ := zg_of h
      refine zV_iald dX8_keepsOld_32 g23 g24 ?_
      obtain ⟨g25, h⟩ := zg_of h
      obtain ⟨g26, h⟩ := zg_of h
      refine zV_iast dX8_keepsOld_33 g25 g26 ?_
      refine zV_mem (fun M27 e28 => ?_)
      replace h := zlet_of h e28
      refine zV_aload_n (j := 0) dX8_keepsOld_34 rfl rfl ?_
      refine zV_getR zf_RX8_122 dX8_keepsOld_35 rfl (zkI e28 (zkI e22 g15)) ?_
      refine zV_iload_n (j := 1) dX8_keepsOld_38 rfl rfl ?_
      refine zV_aload_n (j := 0) dX8_keepsOld_39 rfl rfl ?_
      refine zV_getR zf_RX8_110 dX8_keepsOld_40 rfl (zkI e28 (zkI e22 g15)) ?_
      refine zV_iload_n (j := 1) dX8_keepsOld_43 rfl rfl ?_
      obtain ⟨g29, h⟩ := zg_of h
      obtain ⟨g30, h⟩ := zg_of h
      refine zV_iald dX8_keepsOld_44 g29 g30 ?_
      obtain ⟨g31, h⟩ := zg_of h
      obtain ⟨g32, h⟩ := zg_of h
      refine zV_iast dX8_keepsOld_45 g31 g32 ?_
      refine zV_mem (fun M33 e34 => ?_)
      replace h := zlet_of h e34
      refine zV_iconst (v := 0) dX8_keepsOld_46 (by decide) ?_
      refine zV_istore_n [(2, .int 0), (0, zr b x0), (1, .int x1)] dX8_keepsOld_47 rfl (by decide) rfl ?_
      refine zV_pk [1, 2, 0] rfl ?_
      exact vX8_keepsOld_48 (fX8_keepsOld_2 n) ih 10000 x0 x1 0 M33 _ h
set_option maxHeartbeats 4000000 in
set_option maxRecDepth 100000 in
theorem vX8_keepsOld (l : Launch) (D : va_G) (T : Nat → ClassId) (b : Nat) (gr : Bool) (x0 : Nat) (M : zM) (r : Int32) (M' : zM) (h : fX8_keepsOld x0 M = some (r, M')) : zMet l D T b gr yX8_keepsOld cX8_keepsOld 3 none 0 0 0 [zr b x0] M (0, r, M') := by
  refine zEntry2 false (fun h9 => nomatch h9) zp_yX8_keepsOld ⟨zr_cat _ _, trivial⟩ (Nat.le_of_ble_eq_true rfl) ?_
  obtain ⟨o, ho⟩ : ∃ o : Int32 × zM, o = (r, M') := ⟨_, rfl⟩
  rw [← ho] at h
  rw [show ((0, r, M') : Nat × Int32 × zM) = (0, o.1, o.2) by rw [ho]]
  show zV false l RX8 cX8_keepsOld 3 none false 0 0 0 D T b gr M.2.2.2 (0, o.1, o.2) 0 0 0 [(0, zr b x0)] [] M
  unfold fX8_keepsOld at h
  refine zV_iconst (v := 0) dX8_keepsOld_0 (by decide) ?_
  refine zV_istore_n [(1, .int 0), (0, zr b x0)] dX8_keepsOld_1 rfl (by decide) rfl ?_
  refine zV_pk [1, 0] rfl ?_
  exact vX8_keepsOld_2 10000 x0 0 M _ h
set_option maxHeartbeats 4000000 in
set_option maxRecDepth 100000 in
theorem vX8_isAsBefore_104 {l : Launch} {D : va_G} {T : Nat → ClassId} {b : Nat} {gr : Bool} {n0 : Nat} (k57 : Nat → Int32 → Int32 → Int32 → Int32 → zM → Option (Int32 × zM)) (hk57 : ∀ (z0 : Nat) (z1 : Int32) (z2 : Int32) (z3 : Int32) (z4 : Int32) (N : zM) (o : Int32 × zM), k57 z0 z1 z2 z3 z4 N = some o → zV false l RX8 cX8_isAsBefore 5 (some .boolean) false 0 0 0 D T b gr n0 (0, o.1, o.2) 0 0 57 [(0, zr b z0), (1, .int z1), (2, .int z2), (3, .int z3), (4, .int z4)] [] N) (x0 : Nat) (x1 : Int32) (x2 : Int32) (x4 : Int32) (s0 : Int32) (M : zM) (o : Int32 × zM) (h : fX8_isAsBefore_104 k57 x0 x1 x2 x4 s0 M = some o) : zV false l RX8 cX8_isAsBefore 5 (some .boolean) false 0 0 0 D T b gr n0 (0, o.1, o.2) 0 0 104 [(0, zr b x0), (1, .int x1), (2, .int x2), (4, .int x4)] [.int s0] M := by
  unfold fX8_isAsBefore_104 at h
  refine zV_istore_n [(3, .int s0), (0, zr b x0), (1, .int x1), (2, .int x2), (4, .int x4)] dX8_isAsBefore_104 rfl (by decide) rfl ?_
  obtain ⟨u1, e2⟩ : ∃ y : Int32, y = x4 + 1 := ⟨_, rfl⟩
  replace h := zlet_of h e2
  refine zV_iinc (j := 4) (v := u1) [(4, .int u1), (3, .int s0), (0, zr b x0), (1, .int x1), (2, .int x2)] dX8_isAsBefore_105 rfl (by rw [e2]; rfl) (by decide) rfl ?_
  refine zV_goto (tgt := 57) dX8_isAsBefore_108 (by decide) ?_
  refine zV_pk [2, 3, 4, 1, 0] rfl ?_
  exact hk57 x0 x1 x2 s0 u1 M _ h
set_option maxHeartbeats 4000000 in
set_option maxRecDepth 100000 in
theorem vX8_isAsBefore_57 {l : Launch} {D : va_G} {T : Nat → ClassId} {b : Nat} {gr : Bool} {n0 : Nat} : ∀ (n : Nat) (x0 : Nat) (x1 : Int32) (x2 : Int32) (x3 : Int32) (x4 : Int32) (M : zM) (o : Int32 × zM), fX8_isAsBefore_57 n x0 x1 x2 x3 x4 M = some o → zV false l RX8 cX8_isAsBefore 5 (some .boolean) false 0 0 0 D T b gr n0 (0, o.1, o.2) 0 0 57 [(0, zr b x0), (1, .int x1), (2, .int x2), (3, .int x3), (4, .int x4)] [] M := by
  intro n
  induction n with
  | zero =>
    intro x0 x1 x2 x3 x4 M o h
    rw [fX8_isAsBefore_57] at h
    cases h
  | succ n ih =>
    intro x0 x1 x2 x3 x4 M o h
    rw [fX8_isAsBefore_57] at h
    refine zV_iload_n (j := 3) dX8_isAsBefore_57 rfl rfl ?_
    refine zV_if_eq (tgt := 111) dX8_isAsBefore_58 (by decide) (fun c3 => ?_) (fun c3 => ?_)
    · replace h := z_t c3 h
      refine zV_iload_n (j := 3) dX8_isAsBefore_111 rfl rfl ?_
      obtain ⟨g4, h⟩ := zg_of h
      exact zV_zret rfl dX8_isAsBefore_112 (by decide) (by decide) g4 (z_ret h)
    · replace h := z_f c3 h
      refine zV_iload (j := 4) dX8_isAsBefore_61 rfl ?_
      refine zV_aload_n (j := 0) dX8_isAsBefore_63 rfl rfl ?_
      obtain ⟨g5, h⟩ := zg_of h
      refine zV_getR zf_RX8_101 dX8_isAsBefore_64 rfl g5 ?_
      refine zV_iload_n (j := 1) dX8_isAsBefore_67 rfl rfl ?_
      obtain ⟨g6, h⟩ := zg_of h
      obtain ⟨g7, h⟩ := zg_of h
      refine zV_iald dX8_isAsBefore_68 g6 g7 ?_
      refine zV_icmp_ge (tgt := 111) dX8_isAsBefore_69 (by decide) (fun c8 => ?_) (fun c8 => ?_)
      · replace h := z_t c8 h
        refine zV_iload_n (j := 3) dX8_isAsBefore_111 rfl rfl ?_
        obtain ⟨g9, h⟩ := zg_of h
        exact zV_zret rfl dX8_isAsBefore_112 (by decide) (by decide) g9 (z_ret h)
      · replace h := z_f c8 h
        refine zV_aload_n (j := 0) dX8_isAsBefore_72 rfl rfl ?_
        refine zV_getR zf_RX8_104 dX8_isAsBefore_73 rfl g5 ?_
        refine zV_bipush (v := 20) dX8_isAsBefore_76 (by decide) ?_
        refine zV_iload_n (j := 1) dX8_isAsBefore_78 rfl rfl ?_
        refine zV_imul dX8_isAsBefore_79 ?_
        refine zV_iload (j := 4) dX8_isAsBefore_80 rfl ?_
        refine zV_iadd dX8_isAsBefore_82 ?_
        obtain ⟨g10, h⟩ := zg_of h
        obtain ⟨g11, h⟩ := zg_of h
        refine zV_iald dX8_isAsBefore_83 g10 g11 ?_
        refine zV_aload_n (j := 0) dX8_isAsBefore_84 rfl rfl ?_
        refine zV_getR zf_RX8_116 dX8_isAsBefore_85 rfl g5 ?_
        refine zV_bipush (v := 20) dX8_isAsBefore_88 (by decide) ?_
        refine zV_iload_n (j := 2) dX8_isAsBefore_90 rfl rfl ?_
        refine zV_imul dX8_isAsBefore_91 ?_
        refine zV_iload (j := 4) dX8_isAsBefore_92 rfl ?_
        refine zV_iadd dX8_isAsBefore_94 ?_
        obtain ⟨g12, h⟩ := zg_of h
        obtain ⟨g13, h⟩ := zg_of h
        refine zV_iald dX8_isAsBefore_95 g12 g13 ?_
        refine zV_icmp_ne (tgt := 103) dX8_isAsBefore_96 (by decide) (fun c14 => ?_) (fun c14 => ?_)
        · replace h := z_f c14 h
          refine zV_iconst (v := 0) dX8_isAsBefore_103 (by decide) ?_
          refine zV_pk [0, 1, 2, 4] rfl ?_
          exact vX8_isAsBefore_104 (fX8_isAsBefore_57 n) ih x0 x1 x2 x4 0 M _ h
        · replace h := z_t c14 h
          refine zV_iconst (v := 1) dX8_isAsBefore_99 (by decide) ?_
          refine zV_goto (tgt := 104) dX8_isAsBefore_100 (by decide) ?_
          refine zV_pk [0, 1, 2, 4] rfl ?_
          exact vX8_isAsBefore_104 (fX8_isAsBefore_57 n) ih x0 x1 x2 x4 1 M _ h
set_option maxHeartbeats 4000000 in
set_option maxRecDepth 100000 in
theorem vX8_isAsBefore_53 {l : Launch} {D : va_G} {T : Nat → ClassId} {b : Nat} {gr : Bool} {n0 : Nat} (x0 : Nat) (x1 : Int32) (x2 : Int32) (s0 : Int32) (M : zM) (o : Int32 × zM) (h : fX8_isAsBefore_53 x0 x1 x2 s0 M = some o) : zV false l RX8 cX8_isAsBefore 5 (some .boolean) false 0 0 0 D T b gr n0 (0, o.1, o.2) 0 0 53 [(0, zr b x0), (1, .int x1), (2, .int x2)] [.int s0] M := by
  unfold fX8_isAsBefore_53 at h
  refine zV_istore_n [(3, .int s0), (0, zr b x0), (1, .int x1), (2, .int x2)] dX8_isAsBefore_53 rfl (by decide) rfl ?_
  refine zV_iconst (v := 0) dX8_isAsBefore_54 (by decide) ?_
  refine zV_istore [(4, .int 0), (3, .int s0), (0, zr b x0), (1, .int x1), (2, .int x2)] dX8_isAsBefore_55 (by decide) rfl ?_
  refine zV_pk [2, 3, 4, 1, 0] rfl ?_
  exact vX8_isAsBefore_57 10000 x0 x1 x2 s0 0 M _ h
set_option maxHeartbeats 4000000 in
set_option maxRecDepth 100000 in
theorem vX8_isAsBefore_52 {l : Launch} {D : va_G} {T : Nat → ClassId} {b : Nat} {gr : Bool} {n0 : Nat} (x0 : Nat) (x1 : Int32) (x2 : Int32) (M : zM) (o : Int32 × zM) (h : fX8_isAsBefore_52 x0 x1 x2 M = some o) : zV false l RX8 cX8_isAsBefore 5 (some .boolean) false 0 0 0 D T b gr n0 (0, o.1, o.2) 0 0 52 [(0, zr b x0), (1, .int x1), (2, .int x2)] [] M := by
  unfold fX8_isAsBefore_52 at h
  refine zV_iconst (v := 0) dX8_isAsBefore_52 (by decide) ?_
  exact vX8_isAsBefore_53 x0 x1 x2 0 M _ h
set_option maxHeartbeats 4000000 in
set_option maxRecDepth 100000 in
theorem vX8_isAsBefore (l : Launch) (D : va_G) (T : Nat → ClassId) (b : Nat) (gr : Bool) (x0 : Nat) (x1 : Int32) (x2 : Int32) (M : zM) (r : Int32) (M' : zM) (h : fX8_isAsBefore x0 x1 x2 M = some (r, M')) : zMet l D T b gr yX8_isAsBefore cX8_isAsBefore 5 (some .boolean) 0 0 0 [zr b x0, .int x1, .int x2] M (0, r, M') := by
  refine zEntry2 false (fun h9 => nomatch h9) zp_yX8_isAsBefore ⟨zr_cat _ _, rfl, rfl, trivial⟩ (Nat.le_of_ble_eq_true rfl) ?_
  obtain ⟨o, ho⟩ : ∃ o : Int32 × zM, o = (r, M') := ⟨_, rfl⟩
  rw [← ho] at h
  rw [show ((0, r, M') : Nat × Int32 × zM) = (0, o.1, o.2) by rw [ho]]
  show zV false l RX8 cX8_isAsBefore 5 (some .boolean) false 0 0 0 D T b gr M.2.2.2 (0, o.1, o.2) 0 0 0 [(0, zr b x0), (1, .int x1), (2, .int x2)] [] M
  unfold fX8_isAsBefore at h
  refine zV_aload_n (j := 0) dX8_isAsBefore_0 rfl rfl ?_
  obtain ⟨g15, h⟩ := zg_of h
  refine zV_getR zf_RX8_110 dX8_isAsBefore_1 rfl g15 ?_
  refine zV_iload_n (j := 1) dX8_isAsBefore_4 rfl rfl ?_
  obtain ⟨g16, h⟩ := zg_of h
  obtain ⟨g17, h⟩ := zg_of h
  refine zV_iald dX8_isAsBefore_5 g16 g17 ?_
  refine zV_if_ne (tgt := 52) dX8_isAsBefore_6 (by decide) (fun c18 => ?_) (fun c18 => ?_)
  · replace h := z_f c18 h
    exact vX8_isAsBefore_52 x0 x1 x2 M _ h
  · replace h := z_t c18 h
    refine zV_aload_n (j := 0) dX8_isAsBefore_9 rfl rfl ?_
    refine zV_getR zf_RX8_122 dX8_isAsBefore_10 rfl g15 ?_
    refine zV_iload_n (j := 2) dX8_isAsBefore_13 rfl rfl ?_
    obtain ⟨g19, h⟩ := zg_of h
    obtain ⟨g20, h⟩ := zg_of h
    refine zV_iald dX8_isAsBefore_14 g19 g20 ?_
    refine zV_if_ne (tgt := 52) dX8_isAsBefore_15 (by decide) (fun c21 => ?_) (fun c21 => ?_)
    · replace h := z_f c21 h
      exact vX8_isAsBefore_52 x0 x1 x2 M _ h
    · replace h := z_t c21 h
      refine zV_aload_n (j := 0) dX8_isAsBefore_18 rfl rfl ?_
      refine zV_getR zf_RX8_101 dX8_isAsBefore_19 rfl g15 ?_
      refine zV_iload_n (j := 1) dX8_isAsBefore_22 rfl rfl ?_
      obtain ⟨g22, h⟩ := zg_of h
      obtain ⟨g23, h⟩ := zg_of h
      refine zV_iald dX8_isAsBefore_23 g22 g23 ?_
      refine zV_aload_n (j := 0) dX8_isAsBefore_24 rfl rfl ?_
      refine zV_getR zf_RX8_113 dX8_isAsBefore_25 rfl g15 ?_
      refine zV_iload_n (j := 2) dX8_isAsBefore_28 rfl rfl ?_
      obtain ⟨g24, h⟩ := zg_of h
      obtain ⟨g25, h⟩ := zg_of h
      refine zV_iald dX8_isAsBefore_29 g24 g25 ?_
      refine zV_icmp_ne (tgt := 52) dX8_isAsBefore_30 (by decide) (fun c26 => ?_) (fun c26 => ?_)
      · replace h := z_f c26 h
        exact vX8_isAsBefore_52 x0 x1 x2 M _ h
      · replace h := z_t c26 h
        refine zV_aload_n (j := 0) dX8_isAsBefore_33 rfl rfl ?_
        refine zV_getR zf_RX8_107 dX8_isAsBefore_34 rfl g15 ?_
        refine zV_iload_n (j := 1) dX8_isAsBefore_37 rfl rfl ?_
        obtain ⟨g27, h⟩ := zg_of h
        obtain ⟨g28, h⟩ := zg_of h
        refine zV_iald dX8_isAsBefore_38 g27 g28 ?_
        refine zV_aload_n (j := 0) dX8_isAsBefore_39 rfl rfl ?_
        refine zV_getR zf_RX8_119 dX8_isAsBefore_40 rfl g15 ?_
        refine zV_iload_n (j := 2) dX8_isAsBefore_43 rfl rfl ?_
        obtain ⟨g29, h⟩ := zg_of h
        obtain ⟨g30, h⟩ := zg_of h
        refine zV_iald dX8_isAsBefore_44 g29 g30 ?_
        refine zV_icmp_ne (tgt := 52) dX8_isAsBefore_45 (by decide) (fun c31 => ?_) (fun c31 => ?_)
        · replace h := z_f c31 h
          exact vX8_isAsBefore_52 x0 x1 x2 M _ h
        · replace h := z_t c31 h
          refine zV_iconst (v := 1) dX8_isAsBefore_48 (by decide) ?_
          refine zV_goto (tgt := 53) dX8_isAsBefore_49 (by decide) ?_
          exact vX8_isAsBefore_53 x0 x1 x2 1 M _ h
set_option maxHeartbeats 4000000 in
set_option maxRecDepth 100000 in
theorem vX8_tells_96 {l : Launch} {D : va_G} {T : Nat → ClassId} {b : Nat} {gr : Bool} {n0 : Nat} (x0 : Nat) (x3 : Int32) (x5 : Int32) (M : zM) (o : Int32 × zM) (h : fX8_tells_96 x0 x3 x5 M = some o) : zV false l RX8 cX8_tells 6 none false 1 0 0 D T b gr n0 (0, o.1, o.2) 0 0 96 [(0, zr b x0), (3, .int x3), (5, .int x5)] [] M := by
  unfold fX8_tells_96 at h
  refine zV_aload_n (j := 0) dX8_tells_96 rfl rfl ?_
  refine zV_iload (j := 2) dX8_tells_97 rfl ?_
  refine zV_iload_n (j := 1) dX8_tells_99 rfl rfl ?_
  refine zV_isub dX8_tells_100 ?_
  obtain ⟨g1, h⟩ := zg_of h
  refine zV_putI zf_RX8_177 dX8_tells_101 rfl rfl g1 ?_
  refine zV_mem (fun M2 e3 => ?_)
  replace h := zlet_of h e3
  exact zV_vret (x := 0) rfl dX8_tells_104 (by decide) (by decide) (z_ret h)
set_option maxHeartbeats 4000000 in
set_option maxRecDepth 100000 in
theorem vX8_tells_68 {l : Launch} {D : va_G} {T : Nat → ClassId} {b : Nat} {gr : Bool} {n0 : Nat} : ∀ (n : Nat) (x0 : Nat) (x2 : Int32) (x3 : Int32) (x5 : Int32) (M : zM) (o : Int32 × zM), fX8_tells_68 n x0 x2 x3 x5 M = some o → zV false l RX8 cX8_tells 6 none false 1 0 0 D T b gr n0 (0, o.1, o.2) 0 0 68 [(0, zr b x0), (2, .int x2), (3, .int x3), (5, .int x5)] [] M := by
  intro n
  induction n with
  | zero =>
    intro x0 x2 x3 x5 M o h
    rw [fX8_tells_68] at h
    cases h
  | succ n ih =>
    intro x0 x2 x3 x5 M o h
    rw [fX8_tells_68] at h
    refine zV_iload (j := 3) dX8_tells_68 rfl ?_
    refine zV_aload_n (j := 0) dX8_tells_70 rfl rfl ?_
    obtain ⟨g4, h⟩ := zg_of h
    refine zV_getI zf_RX8_174 dX8_tells_71 rfl g4 ?_
    refine zV_icmp_ge (tgt := 96) dX8_tells_74 (by decide) (fun c5 => ?_) (fun c5 => ?_)
    · replace h := z_t c5 h
      refine zV_pk [0, 2, 3] rfl ?_
      exact vX8_tells_96 x0 x3 x5 M _ h
    · replace h := z_f c5 h
      refine zV_aload_n (j := 0) dX8_tells_77 rfl rfl ?_
      refine zV_iload (j := 3) dX8_tells_78 rfl ?_
      refine zV_iload (j := 3) dX8_tells_80 rfl ?_
      refine zV_iload_n (j := 1) dX8_tells_82 rfl rfl ?_
      refine zV_isub dX8_tells_83 ?_
      obtain ⟨r6, M7, q8, h⟩ := zb_of h
      refine zV_callVi (ci := 8) (As := [.int x5, .int (x5 - x2)]) (rest := []) (vX8_isAsBefore l D T b gr x0 x5 (x5 - x2) M _ _ q8) zm_yX8_isAsBefore zl_RX8_293 zi_yX8_isAsBefore ze_yX8_isAsBefore zcI8 g4 rfl rfl (zcs trivial (Nat.le_of_ble_eq_true rfl)) (by decide) (by decide) (by decide) dX8_tells_84 ?_
      refine zV_if_ne (tgt := 96) dX8_tells_87 (by decide) (fun c9 => ?_) (fun c9 => ?_)
      · replace h := z_f c9 h
        refine zV_pk [0, 2, 3] rfl ?_
        exact vX8_tells_96 x0 x3 x5 M7 _ h
      · replace h := z_t c9 h
        obtain ⟨u10, e11⟩ : ∃ y : Int32, y = x5 + 1 := ⟨_, rfl⟩
        replace h := zlet_of h e11
        refine zV_iinc (j := 3) (v := u10) [(5, .int u10), (0, zr b x0), (2, .int x2), (3, .int x3)] dX8_tells_90 rfl (by rw [e11]; rfl) (by decide) rfl ?_
        refine zV_goto (tgt := 68) dX8_tells_93 (by decide) ?_
        refine zV_pk [1, 2, 3, 0] rfl ?_
        exact ih x0 x2 x3 u10 M7 _ h
set_option maxHeartbeats 4000000 in
set_option maxRecDepth 100000 in
theorem vX8_tells_66 {l : Launch} {D : va_G} {T : Nat → ClassId} {b : Nat} {gr : Bool} {n0 : Nat} (x0 : Nat) (x2 : Int32) (x3 : Int32) (s0 : Int32) (M : zM) (o : Int32 × zM) (h : fX8_tells_66 x0 x2 x3 s0 M = some o) : zV false l RX8 cX8_tells 6 none false 1 0 0 D T b gr n0 (0, o.1, o.2) 0 0 66 [(0, zr b x0), (2, .int x2), (3, .int x3)] [.int s0] M := by
  unfold fX8_tells_66 at h
  refine zV_istore [(5, .int s0), (0, zr b x0), (2, .int x2), (3, .int x3)] dX8_tells_66 (by decide) rfl ?_
  refine zV_pk [1, 2, 3, 0] rfl ?_
  exact vX8_tells_68 10000 x0 x2 x3 s0 M _ h
set_option maxHeartbeats 4000000 in
set_option maxRecDepth 100000 in
theorem vX8_tells_64 {l : Launch} {D : va_G} {T : Nat → ClassId} {b : Nat} {gr : Bool} {n0 : Nat} (x0 : Nat) (x2 : Int32) (x3 : Int32) (x4 : Int32) (M : zM) (o : Int32 × zM) (h : fX8_tells_64 x0 x2 x3 x4 M = some o) : zV false l RX8 cX8_tells 6 none false 1 0 0 D T b gr n0 (0, o.1, o.2) 0 0 64 [(0, zr b x0), (2, .int x2), (3, .int x3), (4, .int x4)] [] M := by
  unfold fX8_tells_64 at h
  refine zV_iload (j := 3) dX8_tells_64 rfl ?_
  refine zV_pk [0, 1, 2] rfl ?_
  exact vX8_tells_66 x0 x2 x3 x4 M _ h
set_option maxHeartbeats 4000000 in
set_option maxRecDepth 100000 in
theorem vX8_tells_35 {l : Launch} {D : va_G} {T : Nat → ClassId} {b : Nat} {gr : Bool} {n0 : Nat} (x0 : Nat) (x2 : Int32) (x3 : Int32) (s0 : Int32) (M : zM) (o : Int32 × zM) (h : fX8_tells_35 x0 x2 x3 s0 M = some o) : zV false l RX8 cX8_tells 6 none false 1 0 0 D T b gr n0 (0, o.1, o.2) 0 0 35 [(0, zr b x0), (2, .int x2), (3, .int x3)] [.int s0] M := by
  unfold fX8_tells_35 at h
  refine zV_istore [(4, .int s0), (0, zr b x0), (2, .int x2), (3, .int x3)] dX8_tells_35 (by decide) rfl ?_
  refine zV_iload (j := 0) dX8_tells_37 rfl ?_
  refine zV_aload_n (j := 1) dX8_tells_39 rfl rfl ?_
  obtain ⟨g12, h⟩ := zg_of h
  refine zV_getI zf_RX8_174 dX8_tells_40 rfl g12 ?_
  refine zV_icmp_ge (tgt := 64) dX8_tells_43 (by decide) (fun c13 => ?_) (fun c13 => ?_)
  · replace h := z_t c13 h
    refine zV_pk [1, 2, 3, 0] rfl ?_
    exact vX8_tells_64 x0 x2 x3 s0 M _ h
  · replace h := z_f c13 h
    refine zV_aload_n (j := 1) dX8_tells_46 rfl rfl ?_
    refine zV_getR zf_RX8_44 dX8_tells_47 rfl g12 ?_
    refine zV_iload (j := 0) dX8_tells_50 rfl ?_
    obtain ⟨g14, h⟩ := zg_of h
    obtain ⟨g15, h⟩ := zg_of h
    refine zV_iald dX8_tells_52 g14 g15 ?_
    refine zV_iconst (v := 5) dX8_tells_53 (by decide) ?_
    refine zV_icmp_ne (tgt := 64) dX8_tells_54 (by decide) (fun c16 => ?_) (fun c16 => ?_)
    · replace h := z_f c16 h
      refine zV_pk [1, 2, 3, 0] rfl ?_
      exact vX8_tells_64 x0 x2 x3 s0 M _ h
    · replace h := z_t c16 h
      refine zV_iload (j := 0) dX8_tells_57 rfl ?_
      refine zV_iconst (v := 1) dX8_tells_59 (by decide) ?_
      refine zV_iadd dX8_tells_60 ?_
      refine zV_goto (tgt := 66) dX8_tells_61 (by decide) ?_
      refine zV_pk [1, 2, 3] rfl ?_
      exact vX8_tells_66 x0 x2 x3 (s0 + 1) M _ h
set_option maxHeartbeats 4000000 in
set_option maxRecDepth 100000 in
theorem vX8_tells_23 {l : Launch} {D : va_G} {T : Nat → ClassId} {b : Nat} {gr : Bool} {n0 : Nat} (x0 : Nat) (x1 : Int32) (x2 : Int32) (s0 : Int32) (M : zM) (o : Int32 × zM) (h : fX8_tells_23 x0 x1 x2 s0 M = some o) : zV false l RX8 cX8_tells 6 none false 1 0 0 D T b gr n0 (0, o.1, o.2) 0 0 23 [(0, zr b x0), (1, .int x1), (2, .int x2)] [.int s0] M := by
  unfold fX8_tells_23 at h
  refine zV_istore_n [(3, .int s0), (0, zr b x0), (1, .int x1), (2, .int x2)] dX8_tells_23 rfl (by decide) rfl ?_
  refine zV_iload_n (j := 3) dX8_tells_24 rfl rfl ?_
  refine zV_if_le (tgt := 34) dX8_tells_25 (by decide) (fun c17 => ?_) (fun c17 => ?_)
  · replace h := z_t c17 h
    refine zV_iload_n (j := 2) dX8_tells_34 rfl rfl ?_
    refine zV_pk [1, 3, 0] rfl ?_
    exact vX8_tells_35 x0 x2 s0 x1 M _ h
  · replace h := z_f c17 h
    refine zV_iload_n (j := 2) dX8_tells_28 rfl rfl ?_
    refine zV_iconst (v := 1) dX8_tells_29 (by decide) ?_
    refine zV_iadd dX8_tells_30 ?_
    refine zV_goto (tgt := 35) dX8_tells_31 (by decide) ?_
    refine zV_pk [1, 3, 0] rfl ?_
    exact vX8_tells_35 x0 x2 s0 (x1 + 1) M _ h
set_option maxHeartbeats 4000000 in
set_option maxRecDepth 100000 in
theorem vX8_tells_22 {l : Launch} {D : va_G} {T : Nat → ClassId} {b : Nat} {gr : Bool} {n0 : Nat} (x0 : Nat) (x1 : Int32) (x2 : Int32) (M : zM) (o : Int32 × zM) (h : fX8_tells_22 x0 x1 x2 M = some o) : zV false l RX8 cX8_tells 6 none false 1 0 0 D T b gr n0 (0, o.1, o.2) 0 0 22 [(0, zr b x0), (1, .int x1), (2, .int x2)] [] M := by
  unfold fX8_tells_22 at h
  refine zV_iload_n (j := 1) dX8_tells_22 rfl rfl ?_
  exact vX8_tells_23 x0 x1 x2 x1 M _ h
set_option maxHeartbeats 4000000 in
set_option maxRecDepth 100000 in
theorem vX8_tells (l : Launch) (D : va_G) (T : Nat → ClassId) (b : Nat) (gr : Bool) (x0 : Nat) (x1 : Int32) (x2 : Int32) (M : zM) (r : Int32) (M' : zM) (h : fX8_tells x0 x1 x2 M = some (r, M')) : zMet l D T b gr yX8_tells cX8_tells 6 none 1 0 0 [zr b x0, .int x1, .int x2] M (0, r, M') := by
  refine zEntry2 false (fun h9 => nomatch h9) zp_yX8_tells ⟨zr_cat _ _, rfl, rfl, trivial⟩ (Nat.le_of_ble_eq_true rfl) ?_
  obtain ⟨o, ho⟩ : ∃ o : Int32 × zM, o = (r, M') := ⟨_, rfl⟩
  rw [← ho] at h
  rw [show ((0, r, M') : Nat × Int32 × zM) = (0, o.1, o.2) by rw [ho]]
  show zV false l RX8 cX8_tells 6 none false 1 0 0 D T b gr M.2.2.2 (0, o.1, o.2) 0 0 0 [(0, zr b x0), (1, .int x1), (2, .int x2)] [] M
  unfold fX8_tells at h
  refine zV_iload_n (j := 1) dX8_tells_0 rfl rfl ?_
  refine zV_if_le (tgt := 22) dX8_tells_1 (by decide) (fun c18 => ?_) (fun c18 => ?_)
  · replace h := z_t c18 h
    exact vX8_tells_22 x0 x1 x2 M _ h
  · replace h := z_f c18 h
    refine zV_aload_n (j := 0) dX8_tells_4 rfl rfl ?_
    obtain ⟨g19, h⟩ := zg_of h
    refine zV_getR zf_RX8_44 dX8_tells_5 rfl g19 ?_
    refine zV_iload_n (j := 1) dX8_tells_8 rfl rfl ?_
    refine zV_iconst (v := 1) dX8_tells_9 (by decide) ?_
    refine zV_isub dX8_tells_10 ?_
    obtain ⟨g20, h⟩ := zg_of h
    obtain ⟨g21, h⟩ := zg_of h
    refine zV_iald dX8_tells_11 g20 g21 ?_
    refine zV_iconst (v := 5) dX8_tells_12 (by decide) ?_
    refine zV_icmp_ne (tgt := 22) dX8_tells_13 (by decide) (fun c22 => ?_) (fun c22 => ?_)
    · replace h := z_f c22 h
      exact vX8_tells_22 x0 x1 x2 M _ h
    · replace h := z_t c22 h
      refine zV_iload_n (j := 1) dX8_tells_16 rfl rfl ?_
      refine zV_iconst (v := 1) dX8_tells_17 (by decide) ?_
      refine zV_isub dX8_tells_18 ?_
      refine zV_goto (tgt := 23) dX8_tells_19 (by decide) ?_
      exact vX8_tells_23 x0 x1 x2 (x1 - 1) M _ h
set_option maxHeartbeats 4000000 in
set_option maxRecDepth 100000 in
theorem vX8_insert_91 {l : Launch} {D : va_G} {T : Nat → ClassId} {b : Nat} {gr : Bool} {n0 : Nat} (x0 : Nat) (x1 : Int32) (x2 : Int32) (x3 : Int32) (M : zM) (o : Int32 × zM) (h : fX8_insert_91 x0 x1 x2 x3 M = some o) : zV false l RX8 cX8_insert 5 (some .int) false 9 0 0 D T b gr n0 (0, o.1, o.2) 0 0 91 [(0, zr b x0), (1, .int x1), (2, .int x2), (3, .int x3)] [] M := by
  unfold fX8_insert_91 at h
  refine zV_aload_n (j := 0) dX8_insert_91 rfl rfl ?_
  obtain ⟨g1, h⟩ := zg_of h
  refine zV_getR zf_RX8_44 dX8_insert_92 rfl g1 ?_
  refine zV_iload_n (j := 1) dX8_insert_95 rfl rfl ?_
  refine zV_iload_n (j := 2) dX8_insert_96 rfl rfl ?_
  obtain ⟨g2, h⟩ := zg_of h
  obtain ⟨g3, h⟩ := zg_of h
  refine zV_iast dX8_insert_97 g2 g3 ?_
  refine zV_mem (fun M4 e5 => ?_)
  replace h := zlet_of h e5
  refine zV_aload_n (j := 0) dX8_insert_98 rfl rfl ?_
  refine zV_getR zf_RX8_47 dX8_insert_99 rfl (zkI e5 g1) ?_
  refine zV_iload_n (j := 1) dX8_insert_102 rfl rfl ?_
  refine zV_iload_n (j := 3) dX8_insert_103 rfl rfl ?_
  obtain ⟨g6, h⟩ := zg_of h
  obtain ⟨g7, h⟩ := zg_of h
  refine zV_iast dX8_insert_104 g6 g7 ?_
  refine zV_mem (fun M8 e9 => ?_)
  replace h := zlet_of h e9
  refine zV_aload_n (j := 0) dX8_insert_105 rfl rfl ?_
  refine zV_dup dX8_insert_106 (zr_cat _ _) ?_
  refine zV_getI zf_RX8_174 dX8_insert_107 rfl (zkI e9 (zkI e5 g1)) ?_
  refine zV_iconst (v := 1) dX8_insert_110 (by decide) ?_
  refine zV_iadd dX8_insert_111 ?_
  refine zV_putI zf_RX8_174 dX8_insert_112 rfl rfl (zkI e9 (zkI e5 g1)) ?_
  refine zV_mem (fun M10 e11 => ?_)
  replace h := zlet_of h e11
  refine zV_aload_n (j := 0) dX8_insert_115 rfl rfl ?_
  obtain ⟨r12, M13, q14, h⟩ := zb_of h
  refine zV_callVv (ci := 8) (As := []) (rest := []) (vX8_readsText l D T b gr x0 M10 _ _ q14) zm_yX8_readsText zl_RX8_140 zi_yX8_readsText ze_yX8_readsText zcI8 (zkI e11 (zkI e9 (zkI e5 g1))) rfl rfl (zcs trivial (Nat.le_of_ble_eq_true rfl)) (by decide) (by decide) (by decide) dX8_insert_116 ?_
  refine zV_aload_n (j := 0) dX8_insert_119 rfl rfl ?_
  refine zV_iload_n (j := 1) dX8_insert_120 rfl rfl ?_
  refine zV_iconst (v := 1) dX8_insert_121 (by decide) ?_
  obtain ⟨g15, h⟩ := zg_of h
  obtain ⟨r16, M17, q18, h⟩ := zb_of h
  refine zV_callVv (ci := 8) (As := [.int x1, .int 1]) (rest := []) (vX8_tells l D T b gr x0 x1 1 M13 _ _ q18) zm_yX8_tells zl_RX8_299 zi_yX8_tells ze_yX8_tells zcI8 g15 rfl rfl (zcs trivial (Nat.le_of_ble_eq_true rfl)) (by decide) (by decide) (by decide) dX8_insert_122 ?_
  refine zV_aload_n (j := 0) dX8_insert_125 rfl rfl ?_
  obtain ⟨g19, h⟩ := zg_of h
  refine zV_getI zf_RX8_174 dX8_insert_126 rfl g19 ?_
  exact zV_iret rfl dX8_insert_129 (by decide) (by decide) (z_ret h)
set_option maxHeartbeats 4000000 in
set_option maxRecDepth 100000 in
theorem vX8_insert_47 {l : Launch} {D : va_G} {T : Nat → ClassId} {b : Nat} {gr : Bool} {n0 : Nat} : ∀ (n : Nat) (x0 : Nat) (x1 : Int32) (x2 : Int32) (x3 : Int32) (x4 : Int32) (M : zM) (o : Int32 × zM), fX8_insert_47 n x0 x1 x2 x3 x4 M = some o → zV false l RX8 cX8_insert 5 (some .int) false 9 0 0 D T b gr n0 (0, o.1, o.2) 0 0 47 [(0, zr b x0), (1, .int x1), (2, .int x2), (3, .int x3), (4, .int x4)] [] M := by
  intro n
  induction n with
  | zero =>
    intro x0 x1 x2 x3 x4 M o h
    rw [fX8_insert_47] at h
    cases h
  | succ n ih =>
    intro x0 x1 x2 x3 x4 M o h
    rw [fX8_insert_47] at h
    refine zV_iload (j := 4) dX8_insert_47 rfl ?_
    refine zV_iload_n (j := 1) dX8_insert_49 rfl rfl ?_
    refine zV_icmp_le (tgt := 91) dX8_insert_50 (by decide) (fun c20 => ?_) (fun c20 => ?_)
    · replace h := z_t c20 h
      refine zV_pk [0, 1, 2, 3] rfl ?_
      exact vX8_insert_91 x0 x1 x2 x3 M _ h
    · replace h := z_f c20 h
      refine zV_aload_n (j := 0) dX8_insert_53 rfl rfl ?_
      obtain ⟨g21, h⟩ := zg_of h
      refine zV_getR zf_RX8_44 dX8_insert_54 rfl g21 ?_
      refine zV_iload (j := 4) dX8_insert_57 rfl ?_
      refine zV_aload_n (j := 0) dX8_insert_59 rfl rfl ?_
      refine zV_getR zf_RX8_44 dX8_insert_60 rfl g21 ?_
      refine zV_iload (j := 4) dX8_insert_63 rfl ?_
      refine zV_iconst (v := 1) dX8_insert_65 (by decide) ?_
      refine zV_isub dX8_insert_66 ?_
      obtain ⟨g22, h⟩ := zg_of h
      obtain ⟨g23, h⟩ := zg_of h
      refine zV_iald dX8_insert_67 g22 g23 ?_
      obtain ⟨g24, h⟩ := zg_of h
      refine zV_iast dX8_insert_68 g22 g24 ?_
      refine zV_mem (fun M25 e26 => ?_)
      replace h := zlet_of h e26
      refine zV_aload_n (j := 0) dX8_insert_69 rfl rfl ?_
      refine zV_getR zf_RX8_47 dX8_insert_70 rfl (zkI e26 g21) ?_
      refine zV_iload (j := 4) dX8_insert_73 rfl ?_
      refine zV_aload_n (j := 0) dX8_insert_75 rfl rfl ?_
      refine zV_getR zf_RX8_47 dX8_insert_76 rfl (zkI e26 g21) ?_
      refine zV_iload (j := 4) dX8_insert_79 rfl ?_
      refine zV_iconst (v := 1) dX8_insert_81 (by decide) ?_
      refine zV_isub dX8_insert_82 ?_
      obtain ⟨g27, h⟩ := zg_of h
      obtain ⟨g28, h⟩ := zg_of h
      refine zV_iald dX8_insert_83 g27 g28 ?_
      obtain ⟨g29, h⟩ := zg_of h
      refine zV_iast dX8_insert_84 g27 g29 ?_
      refine zV_mem (fun M30 e31 => ?_)
      replace h := zlet_of h e31
      obtain ⟨u32, e33⟩ : ∃ y : Int32, y = x4 + (-1) := ⟨_, rfl⟩
      replace h := zlet_of h e33
      refine zV_iinc (j := 4) (v := u32) [(4, .int u32), (0, zr b x0), (1, .int x1), (2, .int x2), (3, .int x3)] dX8_insert_85 rfl (by rw [e33]; rfl) (by decide) rfl ?_
      refine zV_goto (tgt := 47) dX8_insert_88 (by decide) ?_
      refine zV_pk [1, 2, 3, 4, 0] rfl ?_
      exact ih x0 x1 x2 x3 u32 M30 _ h
set_option maxHeartbeats 4000000 in
set_option maxRecDepth 100000 in
theorem vX8_insert_29 {l : Launch} {D : va_G} {T : Nat → ClassId} {b : Nat} {gr : Bool} {n0 : Nat} (x0 : Nat) (x1 : Int32) (x2 : Int32) (x3 : Int32) (s0 : Nat) (s1 : Int32) (s2 : Int32) (s3 : Int32) (M : zM) (o : Int32 × zM) (h : fX8_insert_29 x0 x1 x2 x3 s0 s1 s2 s3 M = some o) : zV false l RX8 cX8_insert 5 (some .int) false 9 0 0 D T b gr n0 (0, o.1, o.2) 0 0 29 [(0, zr b x0), (1, .int x1), (2, .int x2), (3, .int x3)] [.int s3, .int s2, .int s1, zr b s0] M := by
  unfold fX8_insert_29 at h
  obtain ⟨g34, h⟩ := zg_of h
  obtain ⟨r35, M36, q37, h⟩ := zb_of h
  refine zV_callVi (ci := 8) (As := [.int s1, .int s2, .int s3]) (rest := []) (vX8_goes l D T b gr s0 s1 s2 s3 M _ _ q37) zm_yX8_goes zl_RX8_163 zi_yX8_goes ze_yX8_goes zcI8 g34 rfl rfl (zcs trivial (Nat.le_of_ble_eq_true rfl)) (by decide) (by decide) (by decide) dX8_insert_29 ?_
  refine zV_if_ne (tgt := 37) dX8_insert_32 (by decide) (fun c38 => ?_) (fun c38 => ?_)
  · replace h := z_f c38 h
    refine zV_aload_n (j := 0) dX8_insert_37 rfl rfl ?_
    obtain ⟨g39, h⟩ := zg_of h
    obtain ⟨r40, M41, q42, h⟩ := zb_of h
    refine zV_callVv (ci := 8) (As := []) (rest := []) (vX8_keepsOld l D T b gr x0 M36 _ _ q42) zm_yX8_keepsOld zl_RX8_296 zi_yX8_keepsOld ze_yX8_keepsOld zcI8 g39 rfl rfl (zcs trivial (Nat.le_of_ble_eq_true rfl)) (by decide) (by decide) (by decide) dX8_insert_38 ?_
    refine zV_aload_n (j := 0) dX8_insert_41 rfl rfl ?_
    obtain ⟨g43, h⟩ := zg_of h
    refine zV_getI zf_RX8_174 dX8_insert_42 rfl g43 ?_
    refine zV_top (fun u44 e45 => ?_)
    replace h := zlet_of h e45
    refine zV_istore [(4, .int u44), (0, zr b x0), (1, .int x1), (2, .int x2), (3, .int x3)] dX8_insert_45 (by decide) rfl ?_
    refine zV_pk [1, 2, 3, 4, 0] rfl ?_
    exact vX8_insert_47 10000 x0 x1 x2 x3 u44 M41 _ h
  · replace h := z_t c38 h
    refine zV_iconst (v := 0) dX8_insert_35 (by decide) ?_
    exact zV_iret rfl dX8_insert_36 (by decide) (by decide) (z_ret h)
set_option maxHeartbeats 4000000 in
set_option maxRecDepth 100000 in
theorem vX8_insert (l : Launch) (D : va_G) (T : Nat → ClassId) (b : Nat) (gr : Bool) (x0 : Nat) (x1 : Int32) (x2 : Int32) (x3 : Int32) (M : zM) (r : Int32) (M' : zM) (h : fX8_insert x0 x1 x2 x3 M = some (r, M')) : zMet l D T b gr yX8_insert cX8_insert 5 (some .int) 9 0 0 [zr b x0, .int x1, .int x2, .int x3] M (0, r, M') := by
  refine zEntry2 false (fun h9 => nomatch h9) zp_yX8_insert ⟨zr_cat _ _, rfl, rfl, rfl, trivial⟩ (Nat.le_of_ble_eq_true rfl) ?_
  obtain ⟨o, ho⟩ : ∃ o : Int32 × zM, o = (r, M') := ⟨_, rfl⟩
  rw [← ho] at h
  rw [show ((0, r, M') : Nat × Int32 × zM) = (0, o.1, o.2) by rw [ho]]
  show zV false l RX8 cX8_insert 5 (some .int) false 9 0 0 D T b gr M.2.2.2 (0, o.1, o.2) 0 0 0 [(0, zr b x0), (1, .int x1), (2, .int x2), (3, .int x3)] [] M
  unfold fX8_insert at h
  refine zV_aload_n (j := 0) dX8_insert_0 rfl rfl ?_
  refine zV_iload_n (j := 1) dX8_insert_1 rfl rfl ?_
  refine zV_iconst (v := 0) dX8_insert_2 (by decide) ?_
  refine zV_aload_n (j := 0) dX8_insert_3 rfl rfl ?_
  obtain ⟨g46, h⟩ := zg_of h
  refine zV_getI zf_RX8_174 dX8_insert_4 rfl g46 ?_
  obtain ⟨r47, M48, q49, h⟩ := zb_of h
  refine zV_callSi (As := [.int x1, .int 0, .int (zI M x0 13)]) (rest := [zr b x0]) (vX8_in l D T b gr x1 0 (zI M x0 13) M _ _ q49) zm_yX8_in zl_RX8_159 zs_yX8_in rfl rfl (zcs ⟨zr_cat _ _, trivial⟩ (Nat.le_of_ble_eq_true rfl)) (by decide) (by decide) (by decide) dX8_insert_7 ?_
  refine zV_iload_n (j := 2) dX8_insert_10 rfl rfl ?_
  refine zV_iload_n (j := 3) dX8_insert_11 rfl rfl ?_
  obtain ⟨r50, M51, q52, h⟩ := zb_of h
  refine zV_callSi (As := [.int x2, .int x3]) (rest := [.int r47, zr b x0]) (vX8_isToken l D T b gr x2 x3 M48 _ _ q52) zm_yX8_isToken zl_RX8_180 zs_yX8_isToken rfl rfl (zcs ⟨rfl, zr_cat _ _, trivial⟩ (Nat.le_of_ble_eq_true rfl)) (by decide) (by decide) (by decide) dX8_insert_12 ?_
  refine zV_aload_n (j := 0) dX8_insert_15 rfl rfl ?_
  obtain ⟨g53, h⟩ := zg_of h
  refine zV_getI zf_RX8_174 dX8_insert_16 rfl g53 ?_
  refine zV_bipush (v := 60) dX8_insert_19 (by decide) ?_
  refine zV_icmp_ge (tgt := 28) dX8_insert_21 (by decide) (fun c54 => ?_) (fun c54 => ?_)
  · replace h := z_t c54 h
    refine zV_iconst (v := 0) dX8_insert_28 (by decide) ?_
    exact vX8_insert_29 x0 x1 x2 x3 x0 r47 r50 0 M51 _ h
  · replace h := z_f c54 h
    refine zV_iconst (v := 1) dX8_insert_24 (by decide) ?_
    refine zV_goto (tgt := 29) dX8_insert_25 (by decide) ?_
    exact vX8_insert_29 x0 x1 x2 x3 x0 r47 r50 1 M51 _ h
set_option maxHeartbeats 4000000 in
set_option maxRecDepth 100000 in
theorem vX8_erase_72 {l : Launch} {D : va_G} {T : Nat → ClassId} {b : Nat} {gr : Bool} {n0 : Nat} (x0 : Nat) (x1 : Int32) (M : zM) (o : Int32 × zM) (h : fX8_erase_72 x0 x1 M = some o) : zV false l RX8 cX8_erase 3 (some .int) false 9 0 0 D T b gr n0 (0, o.1, o.2) 0 0 72 [(0, zr b x0), (1, .int x1)] [] M := by
  unfold fX8_erase_72 at h
  refine zV_aload_n (j := 0) dX8_erase_72 rfl rfl ?_
  refine zV_dup dX8_erase_73 (zr_cat _ _) ?_
  obtain ⟨g1, h⟩ := zg_of h
  refine zV_getI zf_RX8_174 dX8_erase_74 rfl g1 ?_
  refine zV_iconst (v := 1) dX8_erase_77 (by decide) ?_
  refine zV_isub dX8_erase_78 ?_
  refine zV_putI zf_RX8_174 dX8_erase_79 rfl rfl g1 ?_
  refine zV_mem (fun M2 e3 => ?_)
  replace h := zlet_of h e3
  refine zV_aload_n (j := 0) dX8_erase_82 rfl rfl ?_
  obtain ⟨r4, M5, q6, h⟩ := zb_of h
  refine zV_callVv (ci := 8) (As := []) (rest := []) (vX8_readsText l D T b gr x0 M2 _ _ q6) zm_yX8_readsText zl_RX8_140 zi_yX8_readsText ze_yX8_readsText zcI8 (zkI e3 g1) rfl rfl (zcs trivial (Nat.le_of_ble_eq_true rfl)) (by decide) (by decide) (by decide) dX8_erase_83 ?_
  refine zV_aload_n (j := 0) dX8_erase_86 rfl rfl ?_
  refine zV_iload_n (j := 1) dX8_erase_87 rfl rfl ?_
  refine zV_iconst (v := (-1)) dX8_erase_88 (by decide) ?_
  obtain ⟨g7, h⟩ := zg_of h
  obtain ⟨r8, M9, q10, h⟩ := zb_of h
  refine zV_callVv (ci := 8) (As := [.int x1, .int (-1)]) (rest := []) (vX8_tells l D T b gr x0 x1 (-1) M5 _ _ q10) zm_yX8_tells zl_RX8_299 zi_yX8_tells ze_yX8_tells zcI8 g7 rfl rfl (zcs trivial (Nat.le_of_ble_eq_true rfl)) (by decide) (by decide) (by decide) dX8_erase_89 ?_
  refine zV_aload_n (j := 0) dX8_erase_92 rfl rfl ?_
  obtain ⟨g11, h⟩ := zg_of h
  refine zV_getI zf_RX8_174 dX8_erase_93 rfl g11 ?_
  exact zV_iret rfl dX8_erase_96 (by decide) (by decide) (z_ret h)
set_option maxHeartbeats 4000000 in
set_option maxRecDepth 100000 in
theorem vX8_erase_28 {l : Launch} {D : va_G} {T : Nat → ClassId} {b : Nat} {gr : Bool} {n0 : Nat} : ∀ (n : Nat) (x0 : Nat) (x1 : Int32) (x2 : Int32) (M : zM) (o : Int32 × zM), fX8_erase_28 n x0 x1 x2 M = some o → zV false l RX8 cX8_erase 3 (some .int) false 9 0 0 D T b gr n0 (0, o.1, o.2) 0 0 28 [(0, zr b x0), (1, .int x1), (2, .int x2)] [] M := by
  intro n
  induction n with
  | zero =>
    intro x0 x1 x2 M o h
    rw [fX8_erase_28] at h
    cases h
  | succ n ih =>
    intro x0 x1 x2 M o h
    rw [fX8_erase_28] at h
    refine zV_iload_n (j := 2) dX8_erase_28 rfl rfl ?_
    refine zV_iconst (v := 1) dX8_erase_29 (by decide) ?_
    refine zV_iadd dX8_erase_30 ?_
    refine zV_aload_n (j := 0) dX8_erase_31 rfl rfl ?_
    obtain ⟨g12, h⟩ := zg_of h
    refine zV_getI zf_RX8_174 dX8_erase_32 rfl g12 ?_
    refine zV_icmp_ge (tgt := 72) dX8_erase_35 (by decide) (fun c13 => ?_) (fun c13 => ?_)
    · replace h := z_t c13 h
      refine zV_pk [0, 1] rfl ?_
      exact vX8_erase_72 x0 x1 M _ h
    · replace h := z_f c13 h
      refine zV_aload_n (j := 0) dX8_erase_38 rfl rfl ?_
      refine zV_getR zf_RX8_44 dX8_erase_39 rfl g12 ?_
      refine zV_iload_n (j := 2) dX8_erase_42 rfl rfl ?_
      refine zV_aload_n (j := 0) dX8_erase_43 rfl rfl ?_
      refine zV_getR zf_RX8_44 dX8_erase_44 rfl g12 ?_
      refine zV_iload_n (j := 2) dX8_erase_47 rfl rfl ?_
      refine zV_iconst (v := 1) dX8_erase_48 (by decide) ?_
      refine zV_iadd dX8_erase_49 ?_
      obtain ⟨g14, h⟩ := zg_of h
      obtain ⟨g15, h⟩ := zg_of h
      refine zV_iald dX8_erase_50 g14 g15 ?_
      obtain ⟨g16, h⟩ := zg_of h
      refine zV_iast dX8_erase_51 g14 g16 ?_
      refine zV_mem (fun M17 e18 => ?_)
      replace h := zlet_of h e18
      refine zV_aload_n (j := 0) dX8_erase_52 rfl rfl ?_
      refine zV_getR zf_RX8_47 dX8_erase_53 rfl (zkI e18 g12) ?_
      refine zV_iload_n (j := 2) dX8_erase_56 rfl rfl ?_
      refine zV_aload_n (j := 0) dX8_erase_57 rfl rfl ?_
      refine zV_getR zf_RX8_47 dX8_erase_58 rfl (zkI e18 g12) ?_
      refine zV_iload_n (j := 2) dX8_erase_61 rfl rfl ?_
      refine zV_iconst (v := 1) dX8_erase_62 (by decide) ?_
      refine zV_iadd dX8_erase_63 ?_
      obtain ⟨g19, h⟩ := zg_of h
      obtain ⟨g20, h⟩ := zg_of h
      refine zV_iald dX8_erase_64 g19 g20 ?_
      obtain ⟨g21, h⟩ := zg_of h
      refine zV_iast dX8_erase_65 g19 g21 ?_
      refine zV_mem (fun M22 e23 => ?_)
      replace h := zlet_of h e23
      obtain ⟨u24, e25⟩ : ∃ y : Int32, y = x2 + 1 := ⟨_, rfl⟩
      replace h := zlet_of h e25
      refine zV_iinc (j := 2) (v := u24) [(2, .int u24), (0, zr b x0), (1, .int x1)] dX8_erase_66 rfl (by rw [e25]; rfl) (by decide) rfl ?_
      refine zV_goto (tgt := 28) dX8_erase_69 (by decide) ?_
      refine zV_pk [1, 2, 0] rfl ?_
      exact ih x0 x1 u24 M22 _ h
set_option maxHeartbeats 4000000 in
set_option maxRecDepth 100000 in
theorem vX8_erase (l : Launch) (D : va_G) (T : Nat → ClassId) (b : Nat) (gr : Bool) (x0 : Nat) (x1 : Int32) (M : zM) (r : Int32) (M' : zM) (h : fX8_erase x0 x1 M = some (r, M')) : zMet l D T b gr yX8_erase cX8_erase 3 (some .int) 9 0 0 [zr b x0, .int x1] M (0, r, M') := by
  refine zEntry2 false (fun h9 => nomatch h9) zp_yX8_erase ⟨zr_cat _ _, rfl, trivial⟩ (Nat.le_of_ble_eq_true rfl) ?_
  obtain ⟨o, ho⟩ : ∃ o : Int32 × zM, o = (r, M') := ⟨_, rfl⟩
  rw [← ho] at h
  rw [show ((0, r, M') : Nat × Int32 × zM) = (0, o.1, o.2) by rw [ho]]
  show zV false l RX8 cX8_erase 3 (some .int) false 9 0 0 D T b gr M.2.2.2 (0, o.1, o.2) 0 0 0 [(0, zr b x0), (1, .int x1)] [] M
  unfold fX8_erase at h
  refine zV_aload_n (j := 0) dX8_erase_0 rfl rfl ?_
  refine zV_iload_n (j := 1) dX8_erase_1 rfl rfl ?_
  refine zV_iconst (v := 0) dX8_erase_2 (by decide) ?_
  refine zV_aload_n (j := 0) dX8_erase_3 rfl rfl ?_
  obtain ⟨g26, h⟩ := zg_of h
  refine zV_getI zf_RX8_174 dX8_erase_4 rfl g26 ?_
  refine zV_iconst (v := 1) dX8_erase_7 (by decide) ?_
  refine zV_isub dX8_erase_8 ?_
  obtain ⟨r27, M28, q29, h⟩ := zb_of h
  refine zV_callSi (As := [.int x1, .int 0, .int ((zI M x0 13) - 1)]) (rest := [zr b x0]) (vX8_in l D T b gr x1 0 ((zI M x0 13) - 1) M _ _ q29) zm_yX8_in zl_RX8_159 zs_yX8_in rfl rfl (zcs ⟨zr_cat _ _, trivial⟩ (Nat.le_of_ble_eq_true rfl)) (by decide) (by decide) (by decide) dX8_erase_9 ?_
  refine zV_iconst (v := 1) dX8_erase_12 (by decide) ?_
  refine zV_iconst (v := 1) dX8_erase_13 (by decide) ?_
  obtain ⟨g30, h⟩ := zg_of h
  obtain ⟨r31, M32, q33, h⟩ := zb_of h
  refine zV_callVi (ci := 8) (As := [.int r27, .int 1, .int 1]) (rest := []) (vX8_goes l D T b gr x0 r27 1 1 M28 _ _ q33) zm_yX8_goes zl_RX8_163 zi_yX8_goes ze_yX8_goes zcI8 g30 rfl rfl (zcs trivial (Nat.le_of_ble_eq_true rfl)) (by decide) (by decide) (by decide) dX8_erase_14 ?_
  refine zV_if_ne (tgt := 22) dX8_erase_17 (by decide) (fun c34 => ?_) (fun c34 => ?_)
  · replace h := z_f c34 h
    refine zV_aload_n (j := 0) dX8_erase_22 rfl rfl ?_
    obtain ⟨g35, h⟩ := zg_of h
    obtain ⟨r36, M37, q38, h⟩ := zb_of h
    refine zV_callVv (ci := 8) (As := []) (rest := []) (vX8_keepsOld l D T b gr x0 M32 _ _ q38) zm_yX8_keepsOld zl_RX8_296 zi_yX8_keepsOld ze_yX8_keepsOld zcI8 g35 rfl rfl (zcs trivial (Nat.le_of_ble_eq_true rfl)) (by decide) (by decide) (by decide) dX8_erase_23 ?_
    refine zV_iload_n (j := 1) dX8_erase_26 rfl rfl ?_
    refine zV_istore_n [(2, .int x1), (0, zr b x0), (1, .int x1)] dX8_erase_27 rfl (by decide) rfl ?_
    refine zV_pk [1, 2, 0] rfl ?_
    exact vX8_erase_28 10000 x0 x1 x1 M37 _ h
  · replace h := z_t c34 h
    refine zV_iconst (v := 0) dX8_erase_20 (by decide) ?_
    exact zV_iret rfl dX8_erase_21 (by decide) (by decide) (z_ret h)
set_option maxHeartbeats 4000000 in
set_option maxRecDepth 100000 in
theorem vX8_writes (l : Launch) (D : va_G) (T : Nat → ClassId) (b : Nat) (gr : Bool) (x0 : Nat) (x1 : Int32) (x2 : Int32) (M : zM) (r : Int32) (M' : zM) (h : fX8_writes x0 x1 x2 M = some (r, M')) : zMet l D T b gr yX8_writes cX8_writes 3 none 0 0 0 [zr b x0, .int x1, .int x2] M (0, r, M') := by
  refine zEntry2 false (fun h9 => nomatch h9) zp_yX8_writes ⟨zr_cat _ _, rfl, rfl, trivial⟩ (Nat.le_of_ble_eq_true rfl) ?_
  obtain ⟨o, ho⟩ : ∃ o : Int32 × zM, o = (r, M') := ⟨_, rfl⟩
  rw [← ho] at h
  rw [show ((0, r, M') : Nat × Int32 × zM) = (0, o.1, o.2) by rw [ho]]
  show zV false l RX8 cX8_writes 3 none false 0 0 0 D T b gr M.2.2.2 (0, o.1, o.2) 0 0 0 [(0, zr b x0), (1, .int x1), (2, .int x2)] [] M
  unfold fX8_writes at h
  refine zV_aload_n (j := 0) dX8_writes_0 rfl rfl ?_
  obtain ⟨g1, h⟩ := zg_of h
  refine zV_getR zf_RX8_125 dX8_writes_1 rfl g1 ?_
  refine zV_aload_n (j := 0) dX8_writes_4 rfl rfl ?_
  refine zV_getI zf_RX8_302 dX8_writes_5 rfl g1 ?_
  refine zV_iload_n (j := 1) dX8_writes_8 rfl rfl ?_
  obtain ⟨g2, h⟩ := zg_of h
  obtain ⟨g3, h⟩ := zg_of h
  refine zV_iast dX8_writes_9 g2 g3 ?_
  refine zV_mem (fun M4 e5 => ?_)
  replace h := zlet_of h e5
  refine zV_aload_n (j := 0) dX8_writes_10 rfl rfl ?_
  refine zV_getR zf_RX8_128 dX8_writes_11 rfl (zkI e5 g1) ?_
  refine zV_aload_n (j := 0) dX8_writes_14 rfl rfl ?_
  refine zV_getI zf_RX8_302 dX8_writes_15 rfl (zkI e5 g1) ?_
  refine zV_iload_n (j := 2) dX8_writes_18 rfl rfl ?_
  obtain ⟨g6, h⟩ := zg_of h
  obtain ⟨g7, h⟩ := zg_of h
  refine zV_iast dX8_writes_19 g6 g7 ?_
  refine zV_mem (fun M8 e9 => ?_)
  replace h := zlet_of h e9
  refine zV_aload_n (j := 0) dX8_writes_20 rfl rfl ?_
  refine zV_dup dX8_writes_21 (zr_cat _ _) ?_
  refine zV_getI zf_RX8_302 dX8_writes_22 rfl (zkI e9 (zkI e5 g1)) ?_
  refine zV_iconst (v := 1) dX8_writes_25 (by decide) ?_
  refine zV_iadd dX8_writes_26 ?_
  refine zV_putI zf_RX8_302 dX8_writes_27 rfl rfl (zkI e9 (zkI e5 g1)) ?_
  refine zV_mem (fun M10 e11 => ?_)
  replace h := zlet_of h e11
  exact zV_vret (x := 0) rfl dX8_writes_30 (by decide) (by decide) (z_ret h)
set_option maxHeartbeats 4000000 in
set_option maxRecDepth 100000 in
theorem vX8_forms_139 {l : Launch} {D : va_G} {T : Nat → ClassId} {b : Nat} {gr : Bool} {n0 : Nat} (k9 : Nat → Int32 → Int32 → zM → Option (Int32 × zM)) (hk9 : ∀ (z0 : Nat) (z1 : Int32) (z2 : Int32) (N : zM) (o : Int32 × zM), k9 z0 z1 z2 N = some o → zV false l RX8 cX8_forms 4 none false 1 0 0 D T b gr n0 (0, o.1, o.2) 0 0 9 [(0, zr b z0), (1, .int z1), (2, .int z2)] [] N) (x0 : Nat) (x1 : Int32) (x2 : Int32) (M : zM) (o : Int32 × zM) (h : fX8_forms_139 k9 x0 x1 x2 M = some o) : zV false l RX8 cX8_forms 4 none false 1 0 0 D T b gr n0 (0, o.1, o.2) 0 0 139 [(0, zr b x0), (1, .int x1), (2, .int x2)] [] M := by
  unfold fX8_forms_139 at h
  obtain ⟨u1, e2⟩ : ∃ y : Int32, y = x2 + 1 := ⟨_, rfl⟩
  replace h := zlet_of h e2
  refine zV_iinc (j := 2) (v := u1) [(2, .int u1), (0, zr b x0), (1, .int x1)] dX8_forms_139 rfl (by rw [e2]; rfl) (by decide) rfl ?_
  refine zV_goto (tgt := 9) dX8_forms_142 (by decide) ?_
  refine zV_pk [1, 2, 0] rfl ?_
  exact hk9 x0 x1 u1 M _ h
set_option maxHeartbeats 4000000 in
set_option maxRecDepth 100000 in
theorem vX8_forms_138 {l : Launch} {D : va_G} {T : Nat → ClassId} {b : Nat} {gr : Bool} {n0 : Nat} (k9 : Nat → Int32 → Int32 → zM → Option (Int32 × zM)) (hk9 : ∀ (z0 : Nat) (z1 : Int32) (z2 : Int32) (N : zM) (o : Int32 × zM), k9 z0 z1 z2 N = some o → zV false l RX8 cX8_forms 4 none false 1 0 0 D T b gr n0 (0, o.1, o.2) 0 0 9 [(0, zr b z0), (1, .int z1), (2, .int z2)] [] N) (x0 : Nat) (x2 : Int32) (s0 : Int32) (M : zM) (o : Int32 × zM) (h : fX8_forms_138 k9 x0 x2 s0 M = some o) : zV false l RX8 cX8_forms 4 none false 1 0 0 D T b gr n0 (0, o.1, o.2) 0 0 138 [(0, zr b x0), (2, .int x2)] [.int s0] M := by
  unfold fX8_forms_138 at h
  refine zV_istore_n [(1, .int s0), (0, zr b x0), (2, .int x2)] dX8_forms_138 rfl (by decide) rfl ?_
  refine zV_pk [1, 0, 2] rfl ?_
  exact vX8_forms_139 k9 hk9 x0 s0 x2 M _ h
set_option maxHeartbeats 4000000 in
set_option maxRecDepth 100000 in
theorem vX8_forms_100 {l : Launch} {D : va_G} {T : Nat → ClassId} {b : Nat} {gr : Bool} {n0 : Nat} (k9 : Nat → Int32 → Int32 → zM → Option (Int32 × zM)) (hk9 : ∀ (z0 : Nat) (z1 : Int32) (z2 : Int32) (N : zM) (o : Int32 × zM), k9 z0 z1 z2 N = some o → zV false l RX8 cX8_forms 4 none false 1 0 0 D T b gr n0 (0, o.1, o.2) 0 0 9 [(0, zr b z0), (1, .int z1), (2, .int z2)] [] N) (x0 : Nat) (x1 : Int32) (x2 : Int32) (M : zM) (o : Int32 × zM) (h : fX8_forms_100 k9 x0 x1 x2 M = some o) : zV false l RX8 cX8_forms 4 none false 1 0 0 D T b gr n0 (0, o.1, o.2) 0 0 100 [(0, zr b x0), (1, .int x1), (2, .int x2)] [] M := by
  unfold fX8_forms_100 at h
  refine zV_iload_n (j := 2) dX8_forms_100 rfl rfl ?_
  refine zV_aload_n (j := 0) dX8_forms_101 rfl rfl ?_
  obtain ⟨g3, h⟩ := zg_of h
  refine zV_getI zf_RX8_187 dX8_forms_102 rfl g3 ?_
  refine zV_icmp_ge (tgt := 139) dX8_forms_105 (by decide) (fun c4 => ?_) (fun c4 => ?_)
  · replace h := z_t c4 h
    exact vX8_forms_139 k9 hk9 x0 x1 x2 M _ h
  · replace h := z_f c4 h
    refine zV_aload_n (j := 0) dX8_forms_108 rfl rfl ?_
    refine zV_iconst (v := 0) dX8_forms_109 (by decide) ?_
    refine zV_aload_n (j := 0) dX8_forms_110 rfl rfl ?_
    refine zV_getR zf_RX8_68 dX8_forms_111 rfl g3 ?_
    refine zV_iload_n (j := 2) dX8_forms_114 rfl rfl ?_
    obtain ⟨g5, h⟩ := zg_of h
    obtain ⟨g6, h⟩ := zg_of h
    refine zV_iald dX8_forms_115 g5 g6 ?_
    obtain ⟨r7, M8, q9, h⟩ := zb_of h
    refine zV_callVv (ci := 8) (As := [.int 0, .int (zI M (zR M x0 26) x2.toNatClampNeg)]) (rest := []) (vX8_writes l D T b gr x0 0 (zI M (zR M x0 26) x2.toNatClampNeg) M _ _ q9) zm_yX8_writes zl_RX8_305 zi_yX8_writes ze_yX8_writes zcI8 g3 rfl rfl (zcs trivial (Nat.le_of_ble_eq_true rfl)) (by decide) (by decide) (by decide) dX8_forms_116 ?_
    refine zV_aload_n (j := 0) dX8_forms_119 rfl rfl ?_
    obtain ⟨g10, h⟩ := zg_of h
    refine zV_getR zf_RX8_16 dX8_forms_120 rfl g10 ?_
    refine zV_aload_n (j := 0) dX8_forms_123 rfl rfl ?_
    refine zV_getR zf_RX8_68 dX8_forms_124 rfl g10 ?_
    refine zV_iload_n (j := 2) dX8_forms_127 rfl rfl ?_
    obtain ⟨g11, h⟩ := zg_of h
    obtain ⟨g12, h⟩ := zg_of h
    refine zV_iald dX8_forms_128 g11 g12 ?_
    obtain ⟨g13, h⟩ := zg_of h
    obtain ⟨g14, h⟩ := zg_of h
    refine zV_iald dX8_forms_129 g13 g14 ?_
    refine zV_if_le (tgt := 137) dX8_forms_130 (by decide) (fun c15 => ?_) (fun c15 => ?_)
    · replace h := z_t c15 h
      refine zV_iload_n (j := 1) dX8_forms_137 rfl rfl ?_
      refine zV_pk [0, 2] rfl ?_
      exact vX8_forms_138 k9 hk9 x0 x2 x1 M8 _ h
    · replace h := z_f c15 h
      refine zV_iload_n (j := 2) dX8_forms_133 rfl rfl ?_
      refine zV_goto (tgt := 138) dX8_forms_134 (by decide) ?_
      refine zV_pk [0, 2] rfl ?_
      exact vX8_forms_138 k9 hk9 x0 x2 x2 M8 _ h
set_option maxHeartbeats 4000000 in
set_option maxRecDepth 100000 in
theorem vX8_forms_67 {l : Launch} {D : va_G} {T : Nat → ClassId} {b : Nat} {gr : Bool} {n0 : Nat} (k9 : Nat → Int32 → Int32 → zM → Option (Int32 × zM)) (hk9 : ∀ (z0 : Nat) (z1 : Int32) (z2 : Int32) (N : zM) (o : Int32 × zM), k9 z0 z1 z2 N = some o → zV false l RX8 cX8_forms 4 none false 1 0 0 D T b gr n0 (0, o.1, o.2) 0 0 9 [(0, zr b z0), (1, .int z1), (2, .int z2)] [] N) (x0 : Nat) (x1 : Int32) (x2 : Int32) (M : zM) (o : Int32 × zM) (h : fX8_forms_67 k9 x0 x1 x2 M = some o) : zV false l RX8 cX8_forms 4 none false 1 0 0 D T b gr n0 (0, o.1, o.2) 0 0 67 [(0, zr b x0), (1, .int x1), (2, .int x2)] [] M := by
  unfold fX8_forms_67 at h
  refine zV_iload_n (j := 2) dX8_forms_67 rfl rfl ?_
  refine zV_aload_n (j := 0) dX8_forms_68 rfl rfl ?_
  obtain ⟨g16, h⟩ := zg_of h
  refine zV_getI zf_RX8_187 dX8_forms_69 rfl g16 ?_
  refine zV_icmp_ge (tgt := 100) dX8_forms_72 (by decide) (fun c17 => ?_) (fun c17 => ?_)
  · replace h := z_t c17 h
    exact vX8_forms_100 k9 hk9 x0 x1 x2 M _ h
  · replace h := z_f c17 h
    refine zV_aload_n (j := 0) dX8_forms_75 rfl rfl ?_
    refine zV_getR zf_RX8_68 dX8_forms_76 rfl g16 ?_
    refine zV_iload_n (j := 2) dX8_forms_79 rfl rfl ?_
    obtain ⟨g18, h⟩ := zg_of h
    obtain ⟨g19, h⟩ := zg_of h
    refine zV_iald dX8_forms_80 g18 g19 ?_
    refine zV_bipush (v := 10) dX8_forms_81 (by decide) ?_
    refine zV_icmp_ne (tgt := 100) dX8_forms_83 (by decide) (fun c20 => ?_) (fun c20 => ?_)
    · replace h := z_f c20 h
      exact vX8_forms_100 k9 hk9 x0 x1 x2 M _ h
    · replace h := z_t c20 h
      refine zV_aload_n (j := 0) dX8_forms_86 rfl rfl ?_
      refine zV_iconst (v := 4) dX8_forms_87 (by decide) ?_
      refine zV_aload_n (j := 0) dX8_forms_88 rfl rfl ?_
      refine zV_getR zf_RX8_74 dX8_forms_89 rfl g16 ?_
      refine zV_iload_n (j := 2) dX8_forms_92 rfl rfl ?_
      obtain ⟨g21, h⟩ := zg_of h
      obtain ⟨g22, h⟩ := zg_of h
      refine zV_iald dX8_forms_93 g21 g22 ?_
      obtain ⟨r23, M24, q25, h⟩ := zb_of h
      refine zV_callVv (ci := 8) (As := [.int 4, .int (zI M (zR M x0 28) x2.toNatClampNeg)]) (rest := []) (vX8_writes l D T b gr x0 4 (zI M (zR M x0 28) x2.toNatClampNeg) M _ _ q25) zm_yX8_writes zl_RX8_305 zi_yX8_writes ze_yX8_writes zcI8 g16 rfl rfl (zcs trivial (Nat.le_of_ble_eq_true rfl)) (by decide) (by decide) (by decide) dX8_forms_94 ?_
      refine zV_goto (tgt := 139) dX8_forms_97 (by decide) ?_
      exact vX8_forms_139 k9 hk9 x0 x1 x2 M24 _ h
set_option maxHeartbeats 4000000 in
set_option maxRecDepth 100000 in
theorem vX8_forms_36 {l : Launch} {D : va_G} {T : Nat → ClassId} {b : Nat} {gr : Bool} {n0 : Nat} (k9 : Nat → Int32 → Int32 → zM → Option (Int32 × zM)) (hk9 : ∀ (z0 : Nat) (z1 : Int32) (z2 : Int32) (N : zM) (o : Int32 × zM), k9 z0 z1 z2 N = some o → zV false l RX8 cX8_forms 4 none false 1 0 0 D T b gr n0 (0, o.1, o.2) 0 0 9 [(0, zr b z0), (1, .int z1), (2, .int z2)] [] N) : ∀ (n : Nat) (x0 : Nat) (x1 : Int32) (x2 : Int32) (x3 : Int32) (M : zM) (o : Int32 × zM), fX8_forms_36 k9 n x0 x1 x2 x3 M = some o → zV false l RX8 cX8_forms 4 none false 1 0 0 D T b gr n0 (0, o.1, o.2) 0 0 36 [(0, zr b x0), (1, .int x1), (2, .int x2), (3, .int x3)] [] M := by
  intro n
  induction n with
  | zero =>
    intro x0 x1 x2 x3 M o h
    rw [fX8_forms_36] at h
    cases h
  | succ n ih =>
    intro x0 x1 x2 x3 M o h
    rw [fX8_forms_36] at h
    refine zV_iload_n (j := 1) dX8_forms_36 rfl rfl ?_
    refine zV_iconst (v := (-1)) dX8_forms_37 (by decide) ?_
    refine zV_icmp_eq (tgt := 67) dX8_forms_38 (by decide) (fun c26 => ?_) (fun c26 => ?_)
    · replace h := z_t c26 h
      refine zV_pk [0, 1, 2] rfl ?_
      exact vX8_forms_67 k9 hk9 x0 x1 x2 M _ h
    · replace h := z_f c26 h
      refine zV_iload_n (j := 1) dX8_forms_41 rfl rfl ?_
      refine zV_iload_n (j := 3) dX8_forms_42 rfl rfl ?_
      refine zV_icmp_eq (tgt := 67) dX8_forms_43 (by decide) (fun c27 => ?_) (fun c27 => ?_)
      · replace h := z_t c27 h
        refine zV_pk [0, 1, 2] rfl ?_
        exact vX8_forms_67 k9 hk9 x0 x1 x2 M _ h
      · replace h := z_f c27 h
        refine zV_aload_n (j := 0) dX8_forms_46 rfl rfl ?_
        refine zV_iconst (v := 1) dX8_forms_47 (by decide) ?_
        refine zV_aload_n (j := 0) dX8_forms_48 rfl rfl ?_
        obtain ⟨g28, h⟩ := zg_of h
        refine zV_getR zf_RX8_68 dX8_forms_49 rfl g28 ?_
        refine zV_iload_n (j := 1) dX8_forms_52 rfl rfl ?_
        obtain ⟨g29, h⟩ := zg_of h
        obtain ⟨g30, h⟩ := zg_of h
        refine zV_iald dX8_forms_53 g29 g30 ?_
        obtain ⟨r31, M32, q33, h⟩ := zb_of h
        refine zV_callVv (ci := 8) (As := [.int 1, .int (zI M (zR M x0 26) x1.toNatClampNeg)]) (rest := []) (vX8_writes l D T b gr x0 1 (zI M (zR M x0 26) x1.toNatClampNeg) M _ _ q33) zm_yX8_writes zl_RX8_305 zi_yX8_writes ze_yX8_writes zcI8 g28 rfl rfl (zcs trivial (Nat.le_of_ble_eq_true rfl)) (by decide) (by decide) (by decide) dX8_forms_54 ?_
        refine zV_aload_n (j := 0) dX8_forms_57 rfl rfl ?_
        obtain ⟨g34, h⟩ := zg_of h
        refine zV_getR zf_RX8_71 dX8_forms_58 rfl g34 ?_
        refine zV_iload_n (j := 1) dX8_forms_61 rfl rfl ?_
        obtain ⟨g35, h⟩ := zg_of h
        obtain ⟨g36, h⟩ := zg_of h
        refine zV_iald dX8_forms_62 g35 g36 ?_
        refine zV_top (fun u37 e38 => ?_)
        replace h := zlet_of h e38
        refine zV_istore_n [(1, .int u37), (0, zr b x0), (2, .int x2), (3, .int x3)] dX8_forms_63 rfl (by decide) rfl ?_
        refine zV_goto (tgt := 36) dX8_forms_64 (by decide) ?_
        refine zV_pk [1, 0, 2, 3] rfl ?_
        exact ih x0 u37 x2 x3 M32 _ h
set_option maxHeartbeats 4000000 in
set_option maxRecDepth 100000 in
theorem vX8_forms_35 {l : Launch} {D : va_G} {T : Nat → ClassId} {b : Nat} {gr : Bool} {n0 : Nat} (k9 : Nat → Int32 → Int32 → zM → Option (Int32 × zM)) (hk9 : ∀ (z0 : Nat) (z1 : Int32) (z2 : Int32) (N : zM) (o : Int32 × zM), k9 z0 z1 z2 N = some o → zV false l RX8 cX8_forms 4 none false 1 0 0 D T b gr n0 (0, o.1, o.2) 0 0 9 [(0, zr b z0), (1, .int z1), (2, .int z2)] [] N) (x0 : Nat) (x1 : Int32) (x2 : Int32) (s0 : Int32) (M : zM) (o : Int32 × zM) (h : fX8_forms_35 k9 x0 x1 x2 s0 M = some o) : zV false l RX8 cX8_forms 4 none false 1 0 0 D T b gr n0 (0, o.1, o.2) 0 0 35 [(0, zr b x0), (1, .int x1), (2, .int x2)] [.int s0] M := by
  unfold fX8_forms_35 at h
  refine zV_istore_n [(3, .int s0), (0, zr b x0), (1, .int x1), (2, .int x2)] dX8_forms_35 rfl (by decide) rfl ?_
  refine zV_pk [1, 2, 3, 0] rfl ?_
  exact vX8_forms_36 k9 hk9 10000 x0 x1 x2 s0 M _ h
set_option maxHeartbeats 4000000 in
set_option maxRecDepth 100000 in
theorem vX8_forms_9 {l : Launch} {D : va_G} {T : Nat → ClassId} {b : Nat} {gr : Bool} {n0 : Nat} : ∀ (n : Nat) (x0 : Nat) (x1 : Int32) (x2 : Int32) (M : zM) (o : Int32 × zM), fX8_forms_9 n x0 x1 x2 M = some o → zV false l RX8 cX8_forms 4 none false 1 0 0 D T b gr n0 (0, o.1, o.2) 0 0 9 [(0, zr b x0), (1, .int x1), (2, .int x2)] [] M := by
  intro n
  induction n with
  | zero =>
    intro x0 x1 x2 M o h
    rw [fX8_forms_9] at h
    cases h
  | succ n ih =>
    intro x0 x1 x2 M o h
    rw [fX8_forms_9] at h
    refine zV_iload_n (j := 2) dX8_forms_9 rfl rfl ?_
    refine zV_aload_n (j := 0) dX8_forms_10 rfl rfl ?_
    obtain ⟨g39, h⟩ := zg_of h
    refine zV_getI zf_RX8_187 dX8_forms_11 rfl g39 ?_
    refine zV_icmp_gt (tgt := 145) dX8_forms_14 (by decide) (fun c40 => ?_) (fun c40 => ?_)
    · replace h := z_t c40 h
      exact zV_vret (x := 0) rfl dX8_forms_145 (by decide) (by decide) (z_ret h)
    · replace h := z_f c40 h
      refine zV_iload_n (j := 2) dX8_forms_17 rfl rfl ?_
      refine zV_aload_n (j := 0) dX8_forms_18 rfl rfl ?_
      refine zV_getI zf_RX8_187 dX8_forms_19 rfl g39 ?_
      refine zV_icmp_ge (tgt := 34) dX8_forms_22 (by decide) (fun c41 => ?_) (fun c41 => ?_)
      · replace h := z_t c41 h
        refine zV_iconst (v := (-1)) dX8_forms_34 (by decide) ?_
        exact vX8_forms_35 (fX8_forms_9 n) ih x0 x1 x2 (-1) M _ h
      · replace h := z_f c41 h
        refine zV_aload_n (j := 0) dX8_forms_25 rfl rfl ?_
        refine zV_getR zf_RX8_71 dX8_forms_26 rfl g39 ?_
        refine zV_iload_n (j := 2) dX8_forms_29 rfl rfl ?_
        obtain ⟨g42, h⟩ := zg_of h
        obtain ⟨g43, h⟩ := zg_of h
        refine zV_iald dX8_forms_30 g42 g43 ?_
        refine zV_goto (tgt := 35) dX8_forms_31 (by decide) ?_
        exact vX8_forms_35 (fX8_forms_9 n) ih x0 x1 x2 (zI M (zR M x0 27) x2.toNatClampNeg) M _ h
set_option maxHeartbeats 4000000 in
set_option maxRecDepth 100000 in
theorem vX8_forms (l : Launch) (D : va_G) (T : Nat → ClassId) (b : Nat) (gr : Bool) (x0 : Nat) (M : zM) (r : Int32) (M' : zM) (h : fX8_forms x0 M = some (r, M')) : zMet l D T b gr yX8_forms cX8_forms 4 none 1 0 0 [zr b x0] M (0, r, M') := by
  refine zEntry2 false (fun h9 => nomatch h9) zp_yX8_forms ⟨zr_cat _ _, trivial⟩ (Nat.le_of_ble_eq_true rfl) ?_
  obtain ⟨o, ho⟩ : ∃ o : Int32 × zM, o = (r, M') := ⟨_, rfl⟩
  rw [← ho] at h
  rw [show ((0, r, M') : Nat × Int32 × zM) = (0, o.1, o.2) by rw [ho]]
  show zV false l RX8 cX8_forms 4 none false 1 0 0 D T b gr M.2.2.2 (0, o.1, o.2) 0 0 0 [(0, zr b x0)] [] M
  unfold fX8_forms at h
  refine zV_aload_n (j := 0) dX8_forms_0 rfl rfl ?_
  refine zV_iconst (v := 0) dX8_forms_1 (by decide) ?_
  obtain ⟨g44, h⟩ := zg_of h
  refine zV_putI zf_RX8_302 dX8_forms_2 rfl rfl g44 ?_
  refine zV_mem (fun M45 e46 => ?_)
  replace h := zlet_of h e46
  refine zV_iconst (v := (-1)) dX8_forms_5 (by decide) ?_
  refine zV_istore_n [(1, .int (-1)), (0, zr b x0)] dX8_forms_6 rfl (by decide) rfl ?_
  refine zV_iconst (v := 0) dX8_forms_7 (by decide) ?_
  refine zV_istore_n [(2, .int 0), (1, .int (-1)), (0, zr b x0)] dX8_forms_8 rfl (by decide) rfl ?_
  refine zV_pk [2, 1, 0] rfl ?_
  exact vX8_forms_9 10000 x0 (-1) 0 M45 _ h
set_option maxHeartbeats 4000000 in
set_option maxRecDepth 100000 in
theorem vX8_normalize_77 {l : Launch} {D : va_G} {T : Nat → ClassId} {b : Nat} {gr : Bool} {n0 : Nat} (x0 : Nat) (M : zM) (o : Int32 × zM) (h : fX8_normalize_77 x0 M = some o) : zV false l RX8 cX8_normalize 2 (some .int) false 10 0 0 D T b gr n0 (0, o.1, o.2) 0 0 77 [(0, zr b x0)] [] M := by
  unfold fX8_normalize_77 at h
  refine zV_aload_n (j := 0) dX8_normalize_77 rfl rfl ?_
  obtain ⟨g1, h⟩ := zg_of h
  obtain ⟨r2, M3, q4, h⟩ := zb_of h
  refine zV_callVv (ci := 8) (As := []) (rest := []) (vX8_allAnew l D T b gr x0 M _ _ q4) zm_yX8_allAnew zl_RX8_171 zi_yX8_allAnew ze_yX8_allAnew zcI8 g1 rfl rfl (zcs trivial (Nat.le_of_ble_eq_true rfl)) (by decide) (by decide) (by decide) dX8_normalize_78 ?_
  refine zV_aload_n (j := 0) dX8_normalize_81 rfl rfl ?_
  obtain ⟨g5, h⟩ := zg_of h
  refine zV_getI zf_RX8_174 dX8_normalize_82 rfl g5 ?_
  exact zV_iret rfl dX8_normalize_85 (by decide) (by decide) (z_ret h)
set_option maxHeartbeats 4000000 in
set_option maxRecDepth 100000 in
theorem vX8_normalize_39 {l : Launch} {D : va_G} {T : Nat → ClassId} {b : Nat} {gr : Bool} {n0 : Nat} : ∀ (n : Nat) (x0 : Nat) (x1 : Int32) (M : zM) (o : Int32 × zM), fX8_normalize_39 n x0 x1 M = some o → zV false l RX8 cX8_normalize 2 (some .int) false 10 0 0 D T b gr n0 (0, o.1, o.2) 0 0 39 [(0, zr b x0), (1, .int x1)] [] M := by
  intro n
  induction n with
  | zero =>
    intro x0 x1 M o h
    rw [fX8_normalize_39] at h
    cases h
  | succ n ih =>
    intro x0 x1 M o h
    rw [fX8_normalize_39] at h
    refine zV_iload_n (j := 1) dX8_normalize_39 rfl rfl ?_
    refine zV_aload_n (j := 0) dX8_normalize_40 rfl rfl ?_
    obtain ⟨g6, h⟩ := zg_of h
    refine zV_getI zf_RX8_174 dX8_normalize_41 rfl g6 ?_
    refine zV_icmp_ge (tgt := 77) dX8_normalize_44 (by decide) (fun c7 => ?_) (fun c7 => ?_)
    · replace h := z_t c7 h
      refine zV_pk [0] rfl ?_
      exact vX8_normalize_77 x0 M _ h
    · replace h := z_f c7 h
      refine zV_aload_n (j := 0) dX8_normalize_47 rfl rfl ?_
      refine zV_getR zf_RX8_44 dX8_normalize_48 rfl g6 ?_
      refine zV_iload_n (j := 1) dX8_normalize_51 rfl rfl ?_
      refine zV_aload_n (j := 0) dX8_normalize_52 rfl rfl ?_
      refine zV_getR zf_RX8_125 dX8_normalize_53 rfl g6 ?_
      refine zV_iload_n (j := 1) dX8_normalize_56 rfl rfl ?_
      obtain ⟨g8, h⟩ := zg_of h
      obtain ⟨g9, h⟩ := zg_of h
      refine zV_iald dX8_normalize_57 g8 g9 ?_
      obtain ⟨g10, h⟩ := zg_of h
      obtain ⟨g11, h⟩ := zg_of h
      refine zV_iast dX8_normalize_58 g10 g11 ?_
      refine zV_mem (fun M12 e13 => ?_)
      replace h := zlet_of h e13
      refine zV_aload_n (j := 0) dX8_normalize_59 rfl rfl ?_
      refine zV_getR zf_RX8_47 dX8_normalize_60 rfl (zkI e13 g6) ?_
      refine zV_iload_n (j := 1) dX8_normalize_63 rfl rfl ?_
      refine zV_aload_n (j := 0) dX8_normalize_64 rfl rfl ?_
      refine zV_getR zf_RX8_128 dX8_normalize_65 rfl (zkI e13 g6) ?_
      refine zV_iload_n (j := 1) dX8_normalize_68 rfl rfl ?_
      obtain ⟨g14, h⟩ := zg_of h
      obtain ⟨g15, h⟩ := zg_of h
      refine zV_iald dX8_normalize_69 g14 g15 ?_
      obtain ⟨g16, h⟩ := zg_of h
      obtain ⟨g17, h⟩ := zg_of h
      refine zV_iast dX8_normalize_70 g16 g17 ?_
      refine zV_mem (fun M18 e19 => ?_)
      replace h := zlet_of h e19
      obtain ⟨u20, e21⟩ : ∃ y : Int32, y = x1 + 1 := ⟨_, rfl⟩
      replace h := zlet_of h e21
      refine zV_iinc (j := 1) (v := u20) [(1, .int u20), (0, zr b x0)] dX8_normalize_71 rfl (by rw [e21]; rfl) (by decide) rfl ?_
      refine zV_goto (tgt := 39) dX8_normalize_74 (by decide) ?_
      refine zV_pk [1, 0] rfl ?_
      exact ih x0 u20 M18 _ h
set_option maxHeartbeats 4000000 in
set_option maxRecDepth 100000 in
theorem vX8_normalize_19 {l : Launch} {D : va_G} {T : Nat → ClassId} {b : Nat} {gr : Bool} {n0 : Nat} (x0 : Nat) (s0 : Nat) (s1 : Int32) (M : zM) (o : Int32 × zM) (h : fX8_normalize_19 x0 s0 s1 M = some o) : zV false l RX8 cX8_normalize 2 (some .int) false 10 0 0 D T b gr n0 (0, o.1, o.2) 0 0 19 [(0, zr b x0)] [.int s1, zr b s0] M := by
  unfold fX8_normalize_19 at h
  refine zV_iconst (v := 1) dX8_normalize_19 (by decide) ?_
  refine zV_iconst (v := 1) dX8_normalize_20 (by decide) ?_
  obtain ⟨g22, h⟩ := zg_of h
  obtain ⟨r23, M24, q25, h⟩ := zb_of h
  refine zV_callVi (ci := 8) (As := [.int s1, .int 1, .int 1]) (rest := []) (vX8_goes l D T b gr s0 s1 1 1 M _ _ q25) zm_yX8_goes zl_RX8_163 zi_yX8_goes ze_yX8_goes zcI8 g22 rfl rfl (zcs trivial (Nat.le_of_ble_eq_true rfl)) (by decide) (by decide) (by decide) dX8_normalize_21 ?_
  refine zV_if_ne (tgt := 29) dX8_normalize_24 (by decide) (fun c26 => ?_) (fun c26 => ?_)
  · replace h := z_f c26 h
    refine zV_aload_n (j := 0) dX8_normalize_29 rfl rfl ?_
    refine zV_aload_n (j := 0) dX8_normalize_30 rfl rfl ?_
    obtain ⟨g27, h⟩ := zg_of h
    refine zV_getI zf_RX8_302 dX8_normalize_31 rfl g27 ?_
    refine zV_putI zf_RX8_174 dX8_normalize_34 rfl rfl g27 ?_
    refine zV_mem (fun M28 e29 => ?_)
    replace h := zlet_of h e29
    refine zV_iconst (v := 0) dX8_normalize_37 (by decide) ?_
    refine zV_istore_n [(1, .int 0), (0, zr b x0)] dX8_normalize_38 rfl (by decide) rfl ?_
    refine zV_pk [1, 0] rfl ?_
    exact vX8_normalize_39 10000 x0 0 M28 _ h
  · replace h := z_t c26 h
    refine zV_iconst (v := 0) dX8_normalize_27 (by decide) ?_
    exact zV_iret rfl dX8_normalize_28 (by decide) (by decide) (z_ret h)
set_option maxHeartbeats 4000000 in
set_option maxRecDepth 100000 in
theorem vX8_normalize (l : Launch) (D : va_G) (T : Nat → ClassId) (b : Nat) (gr : Bool) (x0 : Nat) (M : zM) (r : Int32) (M' : zM) (h : fX8_normalize x0 M = some (r, M')) : zMet l D T b gr yX8_normalize cX8_normalize 2 (some .int) 10 0 0 [zr b x0] M (0, r, M') := by
  refine zEntry2 false (fun h9 => nomatch h9) zp_yX8_normalize ⟨zr_cat _ _, trivial⟩ (Nat.le_of_ble_eq_true rfl) ?_
  obtain ⟨o, ho⟩ : ∃ o : Int32 × zM, o = (r, M') := ⟨_, rfl⟩
  rw [← ho] at h
  rw [show ((0, r, M') : Nat × Int32 × zM) = (0, o.1, o.2) by rw [ho]]
  show zV false l RX8 cX8_normalize 2 (some .int) false 10 0 0 D T b gr M.2.2.2 (0, o.1, o.2) 0 0 0 [(0, zr b x0)] [] M
  unfold fX8_normalize at h
  refine zV_aload_n (j := 0) dX8_normalize_0 rfl rfl ?_
  obtain ⟨g30, h⟩ := zg_of h
  obtain ⟨r31, M32, q33, h⟩ := zb_of h
  refine zV_callVv (ci := 8) (As := []) (rest := []) (vX8_forms l D T b gr x0 M _ _ q33) zm_yX8_forms zl_RX8_308 zi_yX8_forms ze_yX8_forms zcI8 g30 rfl rfl (zcs trivial (Nat.le_of_ble_eq_true rfl)) (by decide) (by decide) (by decide) dX8_normalize_1 ?_
  refine zV_aload_n (j := 0) dX8_normalize_4 rfl rfl ?_
  refine zV_aload_n (j := 0) dX8_normalize_5 rfl rfl ?_
  obtain ⟨g34, h⟩ := zg_of h
  refine zV_getI zf_RX8_302 dX8_normalize_6 rfl g34 ?_
  refine zV_bipush (v := 60) dX8_normalize_9 (by decide) ?_
  refine zV_icmp_gt (tgt := 18) dX8_normalize_11 (by decide) (fun c35 => ?_) (fun c35 => ?_)
  · replace h := z_t c35 h
    refine zV_iconst (v := 0) dX8_normalize_18 (by decide) ?_
    exact vX8_normalize_19 x0 x0 0 M32 _ h
  · replace h := z_f c35 h
    refine zV_iconst (v := 1) dX8_normalize_14 (by decide) ?_
    refine zV_goto (tgt := 19) dX8_normalize_15 (by decide) ?_
    exact vX8_normalize_19 x0 x0 1 M32 _ h
