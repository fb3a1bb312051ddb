set_option maxHeartbeats 4000000 in
set_option maxRecDepth 100000 in
theorem vX8_length (l : Launch) (D : va_G) (T : Nat → ClassId) (b : Nat) (gr : Bool) (x0 : Nat) (M : zM) (r : Int32) (M' : zM) (h : fX8_length x0 M = some (r, M')) : zMet l D T b gr yX8_length cX8_length 1 (some .int) 0 0 0 [zr b x0] M (0, r, M') := by
  refine zEntry2 false (fun h9 => nomatch h9) zp_yX8_length ⟨zr_cat _ _, trivial⟩ (Nat.le_of_ble_eq_true rfl) ?_
  obtain ⟨o, ho⟩ : ∃ o : Int32 × zM, o = (r, M') := ⟨_, rfl⟩
  rw [← ho] at h
  rw [show ((0, r, M') : Nat × Int32 × zM) = (0, o.1, o.2) by rw [ho]]
  show zV false l RX8 cX8_length 1 (some .int) false 0 0 0 D T b gr M.2.2.2 (0, o.1, o.2) 0 0 0 [(0, zr b x0)] [] M
  unfold fX8_length at h
  refine zV_aload_n (j := 0) dX8_length_0 rfl rfl ?_
  refine zV_iconst (v := 0) dX8_length_1 (by decide) ?_
  obtain ⟨g1, h⟩ := zg_of h
  refine zV_putI zf_RX8_143 dX8_length_2 rfl rfl g1 ?_
  refine zV_mem (fun M2 e3 => ?_)
  replace h := zlet_of h e3
  refine zV_aload_n (j := 0) dX8_length_5 rfl rfl ?_
  refine zV_getI zf_RX8_174 dX8_length_6 rfl (zkI e3 g1) ?_
  exact zV_iret rfl dX8_length_9 (by decide) (by decide) (z_ret h)
set_option maxHeartbeats 4000000 in
set_option maxRecDepth 100000 in
theorem vX8_anew (l : Launch) (D : va_G) (T : Nat → ClassId) (b : Nat) (gr : Bool) (x0 : Nat) (M : zM) (r : Int32) (M' : zM) (h : fX8_anew x0 M = some (r, M')) : zMet l D T b gr yX8_anew cX8_anew 1 (some .int) 0 0 0 [zr b x0] M (0, r, M') := by
  refine zEntry2 false (fun h9 => nomatch h9) zp_yX8_anew ⟨zr_cat _ _, trivial⟩ (Nat.le_of_ble_eq_true rfl) ?_
  obtain ⟨o, ho⟩ : ∃ o : Int32 × zM, o = (r, M') := ⟨_, rfl⟩
  rw [← ho] at h
  rw [show ((0, r, M') : Nat × Int32 × zM) = (0, o.1, o.2) by rw [ho]]
  show zV false l RX8 cX8_anew 1 (some .int) false 0 0 0 D T b gr M.2.2.2 (0, o.1, o.2) 0 0 0 [(0, zr b x0)] [] M
  unfold fX8_anew at h
  refine zV_aload_n (j := 0) dX8_anew_0 rfl rfl ?_
  refine zV_iconst (v := 0) dX8_anew_1 (by decide) ?_
  obtain ⟨g1, h⟩ := zg_of h
  refine zV_putI zf_RX8_143 dX8_anew_2 rfl rfl g1 ?_
  refine zV_mem (fun M2 e3 => ?_)
  replace h := zlet_of h e3
  refine zV_aload_n (j := 0) dX8_anew_5 rfl rfl ?_
  refine zV_getI zf_RX8_177 dX8_anew_6 rfl (zkI e3 g1) ?_
  exact zV_iret rfl dX8_anew_9 (by decide) (by decide) (z_ret h)
set_option maxHeartbeats 4000000 in
set_option maxRecDepth 100000 in
theorem vX8_open (l : Launch) (D : va_G) (T : Nat → ClassId) (b : Nat) (gr : Bool) (x0 : Nat) (x1 : Int32) (M : zM) (r : Int32) (M' : zM) (h : fX8_open x0 x1 M = some (r, M')) : zMet l D T b gr yX8_open cX8_open 2 (some .int) 1 0 0 [zr b x0, .int x1] M (0, r, M') := by
  refine zEntry2 false (fun h9 => nomatch h9) zp_yX8_open ⟨zr_cat _ _, rfl, trivial⟩ (Nat.le_of_ble_eq_true rfl) ?_
  obtain ⟨o, ho⟩ : ∃ o : Int32 × zM, o = (r, M') := ⟨_, rfl⟩
  rw [← ho] at h
  rw [show ((0, r, M') : Nat × Int32 × zM) = (0, o.1, o.2) by rw [ho]]
  show zV false l RX8 cX8_open 2 (some .int) false 1 0 0 D T b gr M.2.2.2 (0, o.1, o.2) 0 0 0 [(0, zr b x0), (1, .int x1)] [] M
  unfold fX8_open at h
  refine zV_aload_n (j := 0) dX8_open_0 rfl rfl ?_
  refine zV_iload_n (j := 1) dX8_open_1 rfl rfl ?_
  refine zV_iconst (v := 0) dX8_open_2 (by decide) ?_
  refine zV_aload_n (j := 0) dX8_open_3 rfl rfl ?_
  obtain ⟨g1, h⟩ := zg_of h
  refine zV_getI zf_RX8_174 dX8_open_4 rfl g1 ?_
  obtain ⟨r2, M3, q4, h⟩ := zb_of h
  refine zV_callSi (As := [.int x1, .int 0, .int (zI M x0 13)]) (rest := [zr b x0]) (vX8_in l D T b gr x1 0 (zI M x0 13) M _ _ q4) zm_yX8_in zl_RX8_159 zs_yX8_in rfl rfl (zcs ⟨zr_cat _ _, trivial⟩ (Nat.le_of_ble_eq_true rfl)) (by decide) (by decide) (by decide) dX8_open_7 ?_
  refine zV_iconst (v := 1) dX8_open_10 (by decide) ?_
  refine zV_iconst (v := 1) dX8_open_11 (by decide) ?_
  obtain ⟨g5, h⟩ := zg_of h
  obtain ⟨r6, M7, q8, h⟩ := zb_of h
  refine zV_callVi (ci := 8) (As := [.int r2, .int 1, .int 1]) (rest := []) (vX8_goes l D T b gr x0 r2 1 1 M3 _ _ q8) zm_yX8_goes zl_RX8_163 zi_yX8_goes ze_yX8_goes zcI8 g5 rfl rfl (zcs trivial (Nat.le_of_ble_eq_true rfl)) (by decide) (by decide) (by decide) dX8_open_12 ?_
  refine zV_if_eq (tgt := 27) dX8_open_15 (by decide) (fun c9 => ?_) (fun c9 => ?_)
  · replace h := z_t c9 h
    refine zV_iconst (v := 0) dX8_open_27 (by decide) ?_
    exact zV_iret rfl dX8_open_28 (by decide) (by decide) (z_ret h)
  · replace h := z_f c9 h
    refine zV_aload_n (j := 0) dX8_open_18 rfl rfl ?_
    obtain ⟨g10, h⟩ := zg_of h
    refine zV_getR zf_RX8_101 dX8_open_19 rfl g10 ?_
    refine zV_iload_n (j := 1) dX8_open_22 rfl rfl ?_
    obtain ⟨g11, h⟩ := zg_of h
    obtain ⟨g12, h⟩ := zg_of h
    refine zV_iald dX8_open_23 g11 g12 ?_
    refine zV_goto (tgt := 28) dX8_open_24 (by decide) ?_
    exact zV_iret rfl dX8_open_28 (by decide) (by decide) (z_ret h)
set_option maxHeartbeats 4000000 in
set_option maxRecDepth 100000 in
theorem vX8_codeAt (l : Launch) (D : va_G) (T : Nat → ClassId) (b : Nat) (gr : Bool) (x0 : Nat) (x1 : Int32) (M : zM) (r : Int32) (M' : zM) (h : fX8_codeAt x0 x1 M = some (r, M')) : zMet l D T b gr yX8_codeAt cX8_codeAt 2 (some .int) 0 0 0 [zr b x0, .int x1] M (0, r, M') := by
  refine zEntry2 false (fun h9 => nomatch h9) zp_yX8_codeAt ⟨zr_cat _ _, rfl, trivial⟩ (Nat.le_of_ble_eq_true rfl) ?_
  obtain ⟨o, ho⟩ : ∃ o : Int32 × zM, o = (r, M') := ⟨_, rfl⟩
  rw [← ho] at h
  rw [show ((0, r, M') : Nat × Int32 × zM) = (0, o.1, o.2) by rw [ho]]
  show zV false l RX8 cX8_codeAt 2 (some .int) false 0 0 0 D T b gr M.2.2.2 (0, o.1, o.2) 0 0 0 [(0, zr b x0), (1, .int x1)] [] M
  unfold fX8_codeAt at h
  refine zV_aload_n (j := 0) dX8_codeAt_0 rfl rfl ?_
  obtain ⟨g1, h⟩ := zg_of h
  refine zV_getR zf_RX8_101 dX8_codeAt_1 rfl g1 ?_
  refine zV_iload_n (j := 1) dX8_codeAt_4 rfl rfl ?_
  obtain ⟨g2, h⟩ := zg_of h
  obtain ⟨g3, h⟩ := zg_of h
  refine zV_iald dX8_codeAt_5 g2 g3 ?_
  refine zV_if_ne (tgt := 13) dX8_codeAt_6 (by decide) (fun c4 => ?_) (fun c4 => ?_)
  · replace h := z_f c4 h
    refine zV_aload_n (j := 0) dX8_codeAt_13 rfl rfl ?_
    refine zV_getR zf_RX8_104 dX8_codeAt_14 rfl g1 ?_
    refine zV_bipush (v := 20) dX8_codeAt_17 (by decide) ?_
    refine zV_iload_n (j := 1) dX8_codeAt_19 rfl rfl ?_
    refine zV_imul dX8_codeAt_20 ?_
    refine zV_aload_n (j := 0) dX8_codeAt_21 rfl rfl ?_
    refine zV_getR zf_RX8_101 dX8_codeAt_22 rfl g1 ?_
    refine zV_iload_n (j := 1) dX8_codeAt_25 rfl rfl ?_
    obtain ⟨g5, h⟩ := zg_of h
    refine zV_iald dX8_codeAt_26 g2 g5 ?_
    refine zV_iadd dX8_codeAt_27 ?_
    refine zV_iconst (v := 1) dX8_codeAt_28 (by decide) ?_
    refine zV_isub dX8_codeAt_29 ?_
    obtain ⟨g6, h⟩ := zg_of h
    obtain ⟨g7, h⟩ := zg_of h
    refine zV_iald dX8_codeAt_30 g6 g7 ?_
    exact zV_iret rfl dX8_codeAt_31 (by decide) (by decide) (z_ret h)
  · replace h := z_t c4 h
    refine zV_iconst (v := (-1)) dX8_codeAt_9 (by decide) ?_
    refine zV_goto (tgt := 31) dX8_codeAt_10 (by decide) ?_
    exact zV_iret rfl dX8_codeAt_31 (by decide) (by decide) (z_ret h)
set_option maxHeartbeats 4000000 in
set_option maxRecDepth 100000 in
theorem vX8_current (l : Launch) (D : va_G) (T : Nat → ClassId) (b : Nat) (gr : Bool) (x0 : Nat) (x1 : Int32) (M : zM) (r : Int32) (M' : zM) (h : fX8_current x0 x1 M = some (r, M')) : zMet l D T b gr yX8_current cX8_current 2 (some .int) 1 0 0 [zr b x0, .int x1] M (0, r, M') := by
  refine zEntry2 false (fun h9 => nomatch h9) zp_yX8_current ⟨zr_cat _ _, rfl, trivial⟩ (Nat.le_of_ble_eq_true rfl) ?_
  obtain ⟨o, ho⟩ : ∃ o : Int32 × zM, o = (r, M') := ⟨_, rfl⟩
  rw [← ho] at h
  rw [show ((0, r, M') : Nat × Int32 × zM) = (0, o.1, o.2) by rw [ho]]
  show zV false l RX8 cX8_current 2 (some .int) false 1 0 0 D T b gr M.2.2.2 (0, o.1, o.2) 0 0 0 [(0, zr b x0), (1, .int x1)] [] M
  unfold fX8_current at h
  refine zV_aload_n (j := 0) dX8_current_0 rfl rfl ?_
  refine zV_iload_n (j := 1) dX8_current_1 rfl rfl ?_
  refine zV_iconst (v := 0) dX8_current_2 (by decide) ?_
  refine zV_aload_n (j := 0) dX8_current_3 rfl rfl ?_
  obtain ⟨g1, h⟩ := zg_of h
  refine zV_getI zf_RX8_174 dX8_current_4 rfl g1 ?_
  obtain ⟨r2, M3, q4, h⟩ := zb_of h
  refine zV_callSi (As := [.int x1, .int 0, .int (zI M x0 13)]) (rest := [zr b x0]) (vX8_in l D T b gr x1 0 (zI M x0 13) M _ _ q4) zm_yX8_in zl_RX8_159 zs_yX8_in rfl rfl (zcs ⟨zr_cat _ _, trivial⟩ (Nat.le_of_ble_eq_true rfl)) (by decide) (by decide) (by decide) dX8_current_7 ?_
  refine zV_iconst (v := 1) dX8_current_10 (by decide) ?_
  refine zV_iconst (v := 1) dX8_current_11 (by decide) ?_
  obtain ⟨g5, h⟩ := zg_of h
  obtain ⟨r6, M7, q8, h⟩ := zb_of h
  refine zV_callVi (ci := 8) (As := [.int r2, .int 1, .int 1]) (rest := []) (vX8_goes l D T b gr x0 r2 1 1 M3 _ _ q8) zm_yX8_goes zl_RX8_163 zi_yX8_goes ze_yX8_goes zcI8 g5 rfl rfl (zcs trivial (Nat.le_of_ble_eq_true rfl)) (by decide) (by decide) (by decide) dX8_current_12 ?_
  refine zV_if_ne (tgt := 20) dX8_current_15 (by decide) (fun c9 => ?_) (fun c9 => ?_)
  · replace h := z_f c9 h
    refine zV_aload_n (j := 0) dX8_current_20 rfl rfl ?_
    refine zV_iload_n (j := 1) dX8_current_21 rfl rfl ?_
    obtain ⟨g10, h⟩ := zg_of h
    obtain ⟨r11, M12, q13, h⟩ := zb_of h
    refine zV_callVi (ci := 8) (As := [.int x1]) (rest := []) (vX8_codeAt l D T b gr x0 x1 M7 _ _ q13) zm_yX8_codeAt zl_RX8_311 zi_yX8_codeAt ze_yX8_codeAt zcI8 g10 rfl rfl (zcs trivial (Nat.le_of_ble_eq_true rfl)) (by decide) (by decide) (by decide) dX8_current_22 ?_
    refine zV_iconst (v := (-1)) dX8_current_25 (by decide) ?_
    refine zV_icmp_ne (tgt := 33) dX8_current_26 (by decide) (fun c14 => ?_) (fun c14 => ?_)
    · replace h := z_f c14 h
      refine zV_aload_n (j := 0) dX8_current_33 rfl rfl ?_
      refine zV_iload_n (j := 1) dX8_current_34 rfl rfl ?_
      obtain ⟨g15, h⟩ := zg_of h
      obtain ⟨r16, M17, q18, h⟩ := zb_of h
      refine zV_callVi (ci := 8) (As := [.int x1]) (rest := []) (vX8_codeAt l D T b gr x0 x1 M12 _ _ q18) zm_yX8_codeAt zl_RX8_311 zi_yX8_codeAt ze_yX8_codeAt zcI8 g15 rfl rfl (zcs trivial (Nat.le_of_ble_eq_true rfl)) (by decide) (by decide) (by decide) dX8_current_35 ?_
      refine zV_bipush (v := 16) dX8_current_38 (by decide) ?_
      refine zV_idiv dX8_current_40 (by decide) ?_
      exact zV_iret rfl dX8_current_41 (by decide) (by decide) (z_ret h)
    · replace h := z_t c14 h
      refine zV_iconst (v := (-1)) dX8_current_29 (by decide) ?_
      refine zV_goto (tgt := 41) dX8_current_30 (by decide) ?_
      exact zV_iret rfl dX8_current_41 (by decide) (by decide) (z_ret h)
  · replace h := z_t c9 h
    refine zV_iconst (v := 0) dX8_current_18 (by decide) ?_
    exact zV_iret rfl dX8_current_19 (by decide) (by decide) (z_ret h)
set_option maxHeartbeats 4000000 in
set_option maxRecDepth 100000 in
theorem vX8_next_58 {l : Launch} {D : va_G} {T : Nat → ClassId} {b : Nat} {gr : Bool} {n0 : Nat} (s0 : Nat) (s1 : Int32) (s2 : Int32) (s3 : Int32) (M : zM) (o : Int32 × zM) (h : fX8_next_58 s0 s1 s2 s3 M = some o) : zV false l RX8 cX8_next 3 (some .int) false 3 0 0 D T b gr n0 (0, o.1, o.2) 0 0 58 [] [.int s3, .int s2, .int s1, zr b s0] M := by
  unfold fX8_next_58 at h
  obtain ⟨g1, h⟩ := zg_of h
  obtain ⟨r2, M3, q4, h⟩ := zb_of h
  refine zV_callVi (ci := 8) (As := [.int s1, .int s2, .int s3]) (rest := []) (vX8_goesOn l D T b gr s0 s1 s2 s3 M _ _ q4) zm_yX8_goesOn zl_RX8_221 zi_yX8_goesOn ze_yX8_goesOn zcI8 g1 rfl rfl (zcs trivial (Nat.le_of_ble_eq_true rfl)) (by decide) (by decide) (by decide) dX8_next_58 ?_
  exact zV_iret rfl dX8_next_61 (by decide) (by decide) (z_ret h)
set_option maxHeartbeats 4000000 in
set_option maxRecDepth 100000 in
theorem vX8_next (l : Launch) (D : va_G) (T : Nat → ClassId) (b : Nat) (gr : Bool) (x0 : Nat) (x1 : Int32) (M : zM) (r : Int32) (M' : zM) (h : fX8_next x0 x1 M = some (r, M')) : zMet l D T b gr yX8_next cX8_next 3 (some .int) 3 0 0 [zr b x0, .int x1] M (0, r, M') := by
  refine zEntry2 false (fun h9 => nomatch h9) zp_yX8_next ⟨zr_cat _ _, rfl, trivial⟩ (Nat.le_of_ble_eq_true rfl) ?_
  obtain ⟨o, ho⟩ : ∃ o : Int32 × zM, o = (r, M') := ⟨_, rfl⟩
  rw [← ho] at h
  rw [show ((0, r, M') : Nat × Int32 × zM) = (0, o.1, o.2) by rw [ho]]
  show zV false l RX8 cX8_next 3 (some .int) false 3 0 0 D T b gr M.2.2.2 (0, o.1, o.2) 0 0 0 [(0, zr b x0), (1, .int x1)] [] M
  unfold fX8_next at h
  refine zV_aload_n (j := 0) dX8_next_0 rfl rfl ?_
  refine zV_iload_n (j := 1) dX8_next_1 rfl rfl ?_
  refine zV_iconst (v := 0) dX8_next_2 (by decide) ?_
  refine zV_aload_n (j := 0) dX8_next_3 rfl rfl ?_
  obtain ⟨g5, h⟩ := zg_of h
  refine zV_getI zf_RX8_174 dX8_next_4 rfl g5 ?_
  obtain ⟨r6, M7, q8, h⟩ := zb_of h
  refine zV_callSi (As := [.int x1, .int 0, .int (zI M x0 13)]) (rest := [zr b x0]) (vX8_in l D T b gr x1 0 (zI M x0 13) M _ _ q8) zm_yX8_in zl_RX8_159 zs_yX8_in rfl rfl (zcs ⟨zr_cat _ _, trivial⟩ (Nat.le_of_ble_eq_true rfl)) (by decide) (by decide) (by decide) dX8_next_7 ?_
  refine zV_iconst (v := 1) dX8_next_10 (by decide) ?_
  refine zV_iconst (v := 1) dX8_next_11 (by decide) ?_
  obtain ⟨g9, h⟩ := zg_of h
  obtain ⟨r10, M11, q12, h⟩ := zb_of h
  refine zV_callVi (ci := 8) (As := [.int r6, .int 1, .int 1]) (rest := []) (vX8_goes l D T b gr x0 r6 1 1 M7 _ _ q12) zm_yX8_goes zl_RX8_163 zi_yX8_goes ze_yX8_goes zcI8 g9 rfl rfl (zcs trivial (Nat.le_of_ble_eq_true rfl)) (by decide) (by decide) (by decide) dX8_next_12 ?_
  refine zV_if_ne (tgt := 20) dX8_next_15 (by decide) (fun c13 => ?_) (fun c13 => ?_)
  · replace h := z_f c13 h
    refine zV_aload_n (j := 0) dX8_next_20 rfl rfl ?_
    refine zV_iload_n (j := 1) dX8_next_21 rfl rfl ?_
    obtain ⟨g14, h⟩ := zg_of h
    obtain ⟨r15, M16, q17, h⟩ := zb_of h
    refine zV_callVi (ci := 8) (As := [.int x1]) (rest := []) (vX8_codeAt l D T b gr x0 x1 M11 _ _ q17) zm_yX8_codeAt zl_RX8_311 zi_yX8_codeAt ze_yX8_codeAt zcI8 g14 rfl rfl (zcs trivial (Nat.le_of_ble_eq_true rfl)) (by decide) (by decide) (by decide) dX8_next_22 ?_
    refine zV_istore_n [(2, .int r15), (0, zr b x0), (1, .int x1)] dX8_next_25 rfl (by decide) rfl ?_
    refine zV_iload_n (j := 0) dX8_next_26 rfl rfl ?_
    refine zV_iconst (v := (-1)) dX8_next_27 (by decide) ?_
    refine zV_icmp_ne (tgt := 35) dX8_next_28 (by decide) (fun c18 => ?_) (fun c18 => ?_)
    · replace h := z_f c18 h
      refine zV_aload_n (j := 1) dX8_next_35 rfl rfl ?_
      refine zV_iload_n (j := 0) dX8_next_36 rfl rfl ?_
      refine zV_bipush (v := 16) dX8_next_37 (by decide) ?_
      refine zV_idiv dX8_next_39 (by decide) ?_
      refine zV_iload_n (j := 0) dX8_next_40 rfl rfl ?_
      refine zV_iconst (v := 2) dX8_next_41 (by decide) ?_
      refine zV_idiv dX8_next_42 (by decide) ?_
      refine zV_bipush (v := 8) dX8_next_43 (by decide) ?_
      refine zV_irem dX8_next_45 (by decide) ?_
      refine zV_iload_n (j := 0) dX8_next_46 rfl rfl ?_
      refine zV_iconst (v := 2) dX8_next_47 (by decide) ?_
      refine zV_irem dX8_next_48 (by decide) ?_
      refine zV_iconst (v := 1) dX8_next_49 (by decide) ?_
      refine zV_icmp_ne (tgt := 57) dX8_next_50 (by decide) (fun c19 => ?_) (fun c19 => ?_)
      · replace h := z_f c19 h
        refine zV_iconst (v := 0) dX8_next_57 (by decide) ?_
        refine zV_pk [] rfl ?_
        exact vX8_next_58 x0 (r15 / 16) ((r15 / 2) - (r15 / 2) / 8 * 8) 0 M16 _ h
      · replace h := z_t c19 h
        refine zV_iconst (v := 1) dX8_next_53 (by decide) ?_
        refine zV_goto (tgt := 58) dX8_next_54 (by decide) ?_
        refine zV_pk [] rfl ?_
        exact vX8_next_58 x0 (r15 / 16) ((r15 / 2) - (r15 / 2) / 8 * 8) 1 M16 _ h
    · replace h := z_t c18 h
      refine zV_iconst (v := 0) dX8_next_31 (by decide) ?_
      refine zV_goto (tgt := 61) dX8_next_32 (by decide) ?_
      exact zV_iret rfl dX8_next_61 (by decide) (by decide) (z_ret h)
  · replace h := z_t c13 h
    refine zV_iconst (v := 0) dX8_next_18 (by decide) ?_
    exact zV_iret rfl dX8_next_19 (by decide) (by decide) (z_ret h)
set_option maxHeartbeats 4000000 in
set_option maxRecDepth 100000 in
theorem vX8_isThing (l : Launch) (D : va_G) (T : Nat → ClassId) (b : Nat) (gr : Bool) (x0 : Nat) (x1 : Int32) (M : zM) (r : Int32) (M' : zM) (h : fX8_isThing x0 x1 M = some (r, M')) : zMet l D T b gr yX8_isThing cX8_isThing 2 (some .boolean) 1 0 0 [zr b x0, .int x1] M (0, r, M') := by
  refine zEntry2 false (fun h9 => nomatch h9) zp_yX8_isThing ⟨zr_cat _ _, rfl, trivial⟩ (Nat.le_of_ble_eq_true rfl) ?_
  obtain ⟨o, ho⟩ : ∃ o : Int32 × zM, o = (r, M') := ⟨_, rfl⟩
  rw [← ho] at h
  rw [show ((0, r, M') : Nat × Int32 × zM) = (0, o.1, o.2) by rw [ho]]
  show zV false l RX8 cX8_isThing 2 (some .boolean) false 1 0 0 D T b gr M.2.2.2 (0, o.1, o.2) 0 0 0 [(0, zr b x0), (1, .int x1)] [] M
  unfold fX8_isThing at h
  refine zV_aload_n (j := 0) dX8_isThing_0 rfl rfl ?_
  refine zV_iload_n (j := 1) dX8_isThing_1 rfl rfl ?_
  refine zV_iconst (v := 0) dX8_isThing_2 (by decide) ?_
  refine zV_aload_n (j := 0) dX8_isThing_3 rfl rfl ?_
  obtain ⟨g1, h⟩ := zg_of h
  refine zV_getI zf_RX8_187 dX8_isThing_4 rfl g1 ?_
  refine zV_iconst (v := 1) dX8_isThing_7 (by decide) ?_
  refine zV_isub dX8_isThing_8 ?_
  obtain ⟨r2, M3, q4, h⟩ := zb_of h
  refine zV_callSi (As := [.int x1, .int 0, .int ((zI M x0 31) - 1)]) (rest := [zr b x0]) (vX8_in l D T b gr x1 0 ((zI M x0 31) - 1) M _ _ q4) zm_yX8_in zl_RX8_159 zs_yX8_in rfl rfl (zcs ⟨zr_cat _ _, trivial⟩ (Nat.le_of_ble_eq_true rfl)) (by decide) (by decide) (by decide) dX8_isThing_9 ?_
  refine zV_iconst (v := 1) dX8_isThing_12 (by decide) ?_
  refine zV_iconst (v := 1) dX8_isThing_13 (by decide) ?_
  obtain ⟨g5, h⟩ := zg_of h
  obtain ⟨r6, M7, q8, h⟩ := zb_of h
  refine zV_callVi (ci := 8) (As := [.int r2, .int 1, .int 1]) (rest := []) (vX8_goes l D T b gr x0 r2 1 1 M3 _ _ q8) zm_yX8_goes zl_RX8_163 zi_yX8_goes ze_yX8_goes zcI8 g5 rfl rfl (zcs trivial (Nat.le_of_ble_eq_true rfl)) (by decide) (by decide) (by decide) dX8_isThing_14 ?_
  obtain ⟨g9, h⟩ := zg_of h
  exact zV_zret rfl dX8_isThing_17 (by decide) (by decide) g9 (z_ret h)
set_option maxHeartbeats 4000000 in
set_option maxRecDepth 100000 in
theorem vX8_things (l : Launch) (D : va_G) (T : Nat → ClassId) (b : Nat) (gr : Bool) (x0 : Nat) (M : zM) (r : Int32) (M' : zM) (h : fX8_things x0 M = some (r, M')) : zMet l D T b gr yX8_things cX8_things 1 (some .int) 0 0 0 [zr b x0] M (0, r, M') := by
  refine zEntry2 false (fun h9 => nomatch h9) zp_yX8_things ⟨zr_cat _ _, trivial⟩ (Nat.le_of_ble_eq_true rfl) ?_
  obtain ⟨o, ho⟩ : ∃ o : Int32 × zM, o = (r, M') := ⟨_, rfl⟩
  rw [← ho] at h
  rw [show ((0, r, M') : Nat × Int32 × zM) = (0, o.1, o.2) by rw [ho]]
  show zV false l RX8 cX8_things 1 (some .int) false 0 0 0 D T b gr M.2.2.2 (0, o.1, o.2) 0 0 0 [(0, zr b x0)] [] M
  unfold fX8_things at h
  refine zV_aload_n (j := 0) dX8_things_0 rfl rfl ?_
  refine zV_iconst (v := 0) dX8_things_1 (by decide) ?_
  obtain ⟨g1, h⟩ := zg_of h
  refine zV_putI zf_RX8_143 dX8_things_2 rfl rfl g1 ?_
  refine zV_mem (fun M2 e3 => ?_)
  replace h := zlet_of h e3
  refine zV_aload_n (j := 0) dX8_things_5 rfl rfl ?_
  refine zV_getI zf_RX8_187 dX8_things_6 rfl (zkI e3 g1) ?_
  exact zV_iret rfl dX8_things_9 (by decide) (by decide) (z_ret h)
set_option maxHeartbeats 4000000 in
set_option maxRecDepth 100000 in
theorem vX8_kind (l : Launch) (D : va_G) (T : Nat → ClassId) (b : Nat) (gr : Bool) (x0 : Nat) (x1 : Int32) (M : zM) (r : Int32) (M' : zM) (h : fX8_kind x0 x1 M = some (r, M')) : zMet l D T b gr yX8_kind cX8_kind 2 (some .int) 2 0 0 [zr b x0, .int x1] M (0, r, M') := by
  refine zEntry2 false (fun h9 => nomatch h9) zp_yX8_kind ⟨zr_cat _ _, rfl, trivial⟩ (Nat.le_of_ble_eq_true rfl) ?_
  obtain ⟨o, ho⟩ : ∃ o : Int32 × zM, o = (r, M') := ⟨_, rfl⟩
  rw [← ho] at h
  rw [show ((0, r, M') : Nat × Int32 × zM) = (0, o.1, o.2) by rw [ho]]
  show zV false l RX8 cX8_kind 2 (some .int) false 2 0 0 D T b gr M.2.2.2 (0, o.1, o.2) 0 0 0 [(0, zr b x0), (1, .int x1)] [] M
  unfold fX8_kind at h
  refine zV_aload_n (j := 0) dX8_kind_0 rfl rfl ?_
  refine zV_iload_n (j := 1) dX8_kind_1 rfl rfl ?_
  obtain ⟨g1, h⟩ := zg_of h
  obtain ⟨r2, M3, q4, h⟩ := zb_of h
  refine zV_callVi (ci := 8) (As := [.int x1]) (rest := []) (vX8_isThing l D T b gr x0 x1 M _ _ q4) zm_yX8_isThing zl_RX8_314 zi_yX8_isThing ze_yX8_isThing zcI8 g1 rfl rfl (zcs trivial (Nat.le_of_ble_eq_true rfl)) (by decide) (by decide) (by decide) dX8_kind_2 ?_
  refine zV_if_eq (tgt := 17) dX8_kind_5 (by decide) (fun c5 => ?_) (fun c5 => ?_)
  · replace h := z_t c5 h
    refine zV_iconst (v := 0) dX8_kind_17 (by decide) ?_
    exact zV_iret rfl dX8_kind_18 (by decide) (by decide) (z_ret h)
  · replace h := z_f c5 h
    refine zV_aload_n (j := 0) dX8_kind_8 rfl rfl ?_
    obtain ⟨g6, h⟩ := zg_of h
    refine zV_getR zf_RX8_68 dX8_kind_9 rfl g6 ?_
    refine zV_iload_n (j := 1) dX8_kind_12 rfl rfl ?_
    obtain ⟨g7, h⟩ := zg_of h
    obtain ⟨g8, h⟩ := zg_of h
    refine zV_iald dX8_kind_13 g7 g8 ?_
    refine zV_goto (tgt := 18) dX8_kind_14 (by decide) ?_
    exact zV_iret rfl dX8_kind_18 (by decide) (by decide) (z_ret h)
set_option maxHeartbeats 4000000 in
set_option maxRecDepth 100000 in
theorem vX8_parent (l : Launch) (D : va_G) (T : Nat → ClassId) (b : Nat) (gr : Bool) (x0 : Nat) (x1 : Int32) (M : zM) (r : Int32) (M' : zM) (h : fX8_parent x0 x1 M = some (r, M')) : zMet l D T b gr yX8_parent cX8_parent 2 (some .int) 2 0 0 [zr b x0, .int x1] M (0, r, M') := by
  refine zEntry2 false (fun h9 => nomatch h9) zp_yX8_parent ⟨zr_cat _ _, rfl, trivial⟩ (Nat.le_of_ble_eq_true rfl) ?_
  obtain ⟨o, ho⟩ : ∃ o : Int32 × zM, o = (r, M') := ⟨_, rfl⟩
  rw [← ho] at h
  rw [show ((0, r, M') : Nat × Int32 × zM) = (0, o.1, o.2) by rw [ho]]
  show zV false l RX8 cX8_parent 2 (some .int) false 2 0 0 D T b gr M.2.2.2 (0, o.1, o.2) 0 0 0 [(0, zr b x0), (1, .int x1)] [] M
  unfold fX8_parent at h
  refine zV_aload_n (j := 0) dX8_parent_0 rfl rfl ?_
  refine zV_iload_n (j := 1) dX8_parent_1 rfl rfl ?_
  obtain ⟨g1, h⟩ := zg_of h
  obtain ⟨r2, M3, q4, h⟩ := zb_of h
  refine zV_callVi (ci := 8) (As := [.int x1]) (rest := []) (vX8_isThing l D T b gr x0 x1 M _ _ q4) zm_yX8_isThing zl_RX8_314 zi_yX8_isThing ze_yX8_isThing zcI8 g1 rfl rfl (zcs trivial (Nat.le_of_ble_eq_true rfl)) (by decide) (by decide) (by decide) dX8_parent_2 ?_
  refine zV_if_eq (tgt := 17) dX8_parent_5 (by decide) (fun c5 => ?_) (fun c5 => ?_)
  · replace h := z_t c5 h
    refine zV_iconst (v := 0) dX8_parent_17 (by decide) ?_
    exact zV_iret rfl dX8_parent_18 (by decide) (by decide) (z_ret h)
  · replace h := z_f c5 h
    refine zV_aload_n (j := 0) dX8_parent_8 rfl rfl ?_
    obtain ⟨g6, h⟩ := zg_of h
    refine zV_getR zf_RX8_71 dX8_parent_9 rfl g6 ?_
    refine zV_iload_n (j := 1) dX8_parent_12 rfl rfl ?_
    obtain ⟨g7, h⟩ := zg_of h
    obtain ⟨g8, h⟩ := zg_of h
    refine zV_iald dX8_parent_13 g7 g8 ?_
    refine zV_goto (tgt := 18) dX8_parent_14 (by decide) ?_
    exact zV_iret rfl dX8_parent_18 (by decide) (by decide) (z_ret h)
set_option maxHeartbeats 4000000 in
set_option maxRecDepth 100000 in
theorem vX8_letter (l : Launch) (D : va_G) (T : Nat → ClassId) (b : Nat) (gr : Bool) (x0 : Nat) (x1 : Int32) (M : zM) (r : Int32) (M' : zM) (h : fX8_letter x0 x1 M = some (r, M')) : zMet l D T b gr yX8_letter cX8_letter 2 (some .char) 2 0 0 [zr b x0, .int x1] M (0, r, M') := by
  refine zEntry2 false (fun h9 => nomatch h9) zp_yX8_letter ⟨zr_cat _ _, rfl, trivial⟩ (Nat.le_of_ble_eq_true rfl) ?_
  obtain ⟨o, ho⟩ : ∃ o : Int32 × zM, o = (r, M') := ⟨_, rfl⟩
  rw [← ho] at h
  rw [show ((0, r, M') : Nat × Int32 × zM) = (0, o.1, o.2) by rw [ho]]
  show zV false l RX8 cX8_letter 2 (some .char) false 2 0 0 D T b gr M.2.2.2 (0, o.1, o.2) 0 0 0 [(0, zr b x0), (1, .int x1)] [] M
  unfold fX8_letter at h
  refine zV_aload_n (j := 0) dX8_letter_0 rfl rfl ?_
  refine zV_iload_n (j := 1) dX8_letter_1 rfl rfl ?_
  obtain ⟨g1, h⟩ := zg_of h
  obtain ⟨r2, M3, q4, h⟩ := zb_of h
  refine zV_callVi (ci := 8) (As := [.int x1]) (rest := []) (vX8_isThing l D T b gr x0 x1 M _ _ q4) zm_yX8_isThing zl_RX8_314 zi_yX8_isThing ze_yX8_isThing zcI8 g1 rfl rfl (zcs trivial (Nat.le_of_ble_eq_true rfl)) (by decide) (by decide) (by decide) dX8_letter_2 ?_
  refine zV_if_eq (tgt := 17) dX8_letter_5 (by decide) (fun c5 => ?_) (fun c5 => ?_)
  · replace h := z_t c5 h
    refine zV_iconst (v := 0) dX8_letter_17 (by decide) ?_
    refine zV_i2c dX8_letter_18 ?_
    obtain ⟨g6, h⟩ := zg_of h
    exact zV_cret rfl dX8_letter_19 (by decide) (by decide) g6 (z_ret h)
  · replace h := z_f c5 h
    refine zV_aload_n (j := 0) dX8_letter_8 rfl rfl ?_
    obtain ⟨g7, h⟩ := zg_of h
    refine zV_getR zf_RX8_74 dX8_letter_9 rfl g7 ?_
    refine zV_iload_n (j := 1) dX8_letter_12 rfl rfl ?_
    obtain ⟨g8, h⟩ := zg_of h
    obtain ⟨g9, h⟩ := zg_of h
    refine zV_iald dX8_letter_13 g8 g9 ?_
    refine zV_goto (tgt := 18) dX8_letter_14 (by decide) ?_
    refine zV_i2c dX8_letter_18 ?_
    obtain ⟨g10, h⟩ := zg_of h
    exact zV_cret rfl dX8_letter_19 (by decide) (by decide) g10 (z_ret h)
set_option maxHeartbeats 4000000 in
set_option maxRecDepth 100000 in
theorem vX8_placeOf (l : Launch) (D : va_G) (T : Nat → ClassId) (b : Nat) (gr : Bool) (x0 : Nat) (x1 : Int32) (M : zM) (r : Int32) (M' : zM) (h : fX8_placeOf x0 x1 M = some (r, M')) : zMet l D T b gr yX8_placeOf cX8_placeOf 2 (some .int) 2 0 0 [zr b x0, .int x1] M (0, r, M') := by
  refine zEntry2 false (fun h9 => nomatch h9) zp_yX8_placeOf ⟨zr_cat _ _, rfl, trivial⟩ (Nat.le_of_ble_eq_true rfl) ?_
  obtain ⟨o, ho⟩ : ∃ o : Int32 × zM, o = (r, M') := ⟨_, rfl⟩
  rw [← ho] at h
  rw [show ((0, r, M') : Nat × Int32 × zM) = (0, o.1, o.2) by rw [ho]]
  show zV false l RX8 cX8_placeOf 2 (some .int) false 2 0 0 D T b gr M.2.2.2 (0, o.1, o.2) 0 0 0 [(0, zr b x0), (1, .int x1)] [] M
  unfold fX8_placeOf at h
  refine zV_aload_n (j := 0) dX8_placeOf_0 rfl rfl ?_
  refine zV_iload_n (j := 1) dX8_placeOf_1 rfl rfl ?_
  obtain ⟨g1, h⟩ := zg_of h
  obtain ⟨r2, M3, q4, h⟩ := zb_of h
  refine zV_callVi (ci := 8) (As := [.int x1]) (rest := []) (vX8_isThing l D T b gr x0 x1 M _ _ q4) zm_yX8_isThing zl_RX8_314 zi_yX8_isThing ze_yX8_isThing zcI8 g1 rfl rfl (zcs trivial (Nat.le_of_ble_eq_true rfl)) (by decide) (by decide) (by decide) dX8_placeOf_2 ?_
  refine zV_if_eq (tgt := 17) dX8_placeOf_5 (by decide) (fun c5 => ?_) (fun c5 => ?_)
  · replace h := z_t c5 h
    refine zV_iconst (v := 0) dX8_placeOf_17 (by decide) ?_
    exact zV_iret rfl dX8_placeOf_18 (by decide) (by decide) (z_ret h)
  · replace h := z_f c5 h
    refine zV_aload_n (j := 0) dX8_placeOf_8 rfl rfl ?_
    obtain ⟨g6, h⟩ := zg_of h
    refine zV_getR zf_RX8_77 dX8_placeOf_9 rfl g6 ?_
    refine zV_iload_n (j := 1) dX8_placeOf_12 rfl rfl ?_
    obtain ⟨g7, h⟩ := zg_of h
    obtain ⟨g8, h⟩ := zg_of h
    refine zV_iald dX8_placeOf_13 g7 g8 ?_
    refine zV_goto (tgt := 18) dX8_placeOf_14 (by decide) ?_
    exact zV_iret rfl dX8_placeOf_18 (by decide) (by decide) (z_ret h)
set_option maxHeartbeats 4000000 in
set_option maxRecDepth 100000 in
theorem vX8_isPutIn (l : Launch) (D : va_G) (T : Nat → ClassId) (b : Nat) (gr : Bool) (x0 : Nat) (x1 : Int32) (M : zM) (r : Int32) (M' : zM) (h : fX8_isPutIn x0 x1 M = some (r, M')) : zMet l D T b gr yX8_isPutIn cX8_isPutIn 2 (some .boolean) 2 0 0 [zr b x0, .int x1] M (0, r, M') := by
  refine zEntry2 false (fun h9 => nomatch h9) zp_yX8_isPutIn ⟨zr_cat _ _, rfl, trivial⟩ (Nat.le_of_ble_eq_true rfl) ?_
  obtain ⟨o, ho⟩ : ∃ o : Int32 × zM, o = (r, M') := ⟨_, rfl⟩
  rw [← ho] at h
  rw [show ((0, r, M') : Nat × Int32 × zM) = (0, o.1, o.2) by rw [ho]]
  show zV false l RX8 cX8_isPutIn 2 (some .boolean) false 2 0 0 D T b gr M.2.2.2 (0, o.1, o.2) 0 0 0 [(0, zr b x0), (1, .int x1)] [] M
  unfold fX8_isPutIn at h
  refine zV_aload_n (j := 0) dX8_isPutIn_0 rfl rfl ?_
  refine zV_iload_n (j := 1) dX8_isPutIn_1 rfl rfl ?_
  obtain ⟨g1, h⟩ := zg_of h
  obtain ⟨r2, M3, q4, h⟩ := zb_of h
  refine zV_callVi (ci := 8) (As := [.int x1]) (rest := []) (vX8_isThing l D T b gr x0 x1 M _ _ q4) zm_yX8_isThing zl_RX8_314 zi_yX8_isThing ze_yX8_isThing zcI8 g1 rfl rfl (zcs trivial (Nat.le_of_ble_eq_true rfl)) (by decide) (by decide) (by decide) dX8_isPutIn_2 ?_
  refine zV_if_eq (tgt := 21) dX8_isPutIn_5 (by decide) (fun c5 => ?_) (fun c5 => ?_)
  · replace h := z_t c5 h
    refine zV_iconst (v := 0) dX8_isPutIn_21 (by decide) ?_
    exact zV_zret rfl dX8_isPutIn_22 (by decide) (by decide) (Or.inl rfl) (z_ret h)
  · replace h := z_f c5 h
    refine zV_aload_n (j := 0) dX8_isPutIn_8 rfl rfl ?_
    obtain ⟨g6, h⟩ := zg_of h
    refine zV_getR zf_RX8_80 dX8_isPutIn_9 rfl g6 ?_
    refine zV_iload_n (j := 1) dX8_isPutIn_12 rfl rfl ?_
    obtain ⟨g7, h⟩ := zg_of h
    obtain ⟨g8, h⟩ := zg_of h
    refine zV_zald dX8_isPutIn_13 g7 g8 ?_
    refine zV_if_eq (tgt := 21) dX8_isPutIn_14 (by decide) (fun c9 => ?_) (fun c9 => ?_)
    · replace h := z_t c9 h
      refine zV_iconst (v := 0) dX8_isPutIn_21 (by decide) ?_
      exact zV_zret rfl dX8_isPutIn_22 (by decide) (by decide) (Or.inl rfl) (z_ret h)
    · replace h := z_f c9 h
      refine zV_iconst (v := 1) dX8_isPutIn_17 (by decide) ?_
      refine zV_goto (tgt := 22) dX8_isPutIn_18 (by decide) ?_
      exact zV_zret rfl dX8_isPutIn_22 (by decide) (by decide) (Or.inr rfl) (z_ret h)
set_option maxHeartbeats 4000000 in
set_option maxRecDepth 100000 in
theorem vX8_endsPutIn (l : Launch) (D : va_G) (T : Nat → ClassId) (b : Nat) (gr : Bool) (x0 : Nat) (M : zM) (r : Int32) (M' : zM) (h : fX8_endsPutIn x0 M = some (r, M')) : zMet l D T b gr yX8_endsPutIn cX8_endsPutIn 1 (some .int) 0 0 0 [zr b x0] M (0, r, M') := by
  refine zEntry2 false (fun h9 => nomatch h9) zp_yX8_endsPutIn ⟨zr_cat _ _, trivial⟩ (Nat.le_of_ble_eq_true rfl) ?_
  obtain ⟨o, ho⟩ : ∃ o : Int32 × zM, o = (r, M') := ⟨_, rfl⟩
  rw [← ho] at h
  rw [show ((0, r, M') : Nat × Int32 × zM) = (0, o.1, o.2) by rw [ho]]
  show zV false l RX8 cX8_endsPutIn 1 (some .int) false 0 0 0 D T b gr M.2.2.2 (0, o.1, o.2) 0 0 0 [(0, zr b x0)] [] M
  unfold fX8_endsPutIn at h
  refine zV_aload_n (j := 0) dX8_endsPutIn_0 rfl rfl ?_
  refine zV_iconst (v := 0) dX8_endsPutIn_1 (by decide) ?_
  obtain ⟨g1, h⟩ := zg_of h
  refine zV_putI zf_RX8_143 dX8_endsPutIn_2 rfl rfl g1 ?_
  refine zV_mem (fun M2 e3 => ?_)
  replace h := zlet_of h e3
  refine zV_aload_n (j := 0) dX8_endsPutIn_5 rfl rfl ?_
  refine zV_getI zf_RX8_240 dX8_endsPutIn_6 rfl (zkI e3 g1) ?_
  exact zV_iret rfl dX8_endsPutIn_9 (by decide) (by decide) (z_ret h)
set_option maxHeartbeats 4000000 in
set_option maxRecDepth 100000 in
theorem vX8_errors (l : Launch) (D : va_G) (T : Nat → ClassId) (b : Nat) (gr : Bool) (x0 : Nat) (M : zM) (r : Int32) (M' : zM) (h : fX8_errors x0 M = some (r, M')) : zMet l D T b gr yX8_errors cX8_errors 1 (some .int) 0 0 0 [zr b x0] M (0, r, M') := by
  refine zEntry2 false (fun h9 => nomatch h9) zp_yX8_errors ⟨zr_cat _ _, trivial⟩ (Nat.le_of_ble_eq_true rfl) ?_
  obtain ⟨o, ho⟩ : ∃ o : Int32 × zM, o = (r, M') := ⟨_, rfl⟩
  rw [← ho] at h
  rw [show ((0, r, M') : Nat × Int32 × zM) = (0, o.1, o.2) by rw [ho]]
  show zV false l RX8 cX8_errors 1 (some .int) false 0 0 0 D T b gr M.2.2.2 (0, o.1, o.2) 0 0 0 [(0, zr b x0)] [] M
  unfold fX8_errors at h
  refine zV_aload_n (j := 0) dX8_errors_0 rfl rfl ?_
  refine zV_iconst (v := 0) dX8_errors_1 (by decide) ?_
  obtain ⟨g1, h⟩ := zg_of h
  refine zV_putI zf_RX8_143 dX8_errors_2 rfl rfl g1 ?_
  refine zV_mem (fun M2 e3 => ?_)
  replace h := zlet_of h e3
  refine zV_aload_n (j := 0) dX8_errors_5 rfl rfl ?_
  refine zV_getI zf_RX8_184 dX8_errors_6 rfl (zkI e3 g1) ?_
  exact zV_iret rfl dX8_errors_9 (by decide) (by decide) (z_ret h)
set_option maxHeartbeats 4000000 in
set_option maxRecDepth 100000 in
theorem vX8_errorKind (l : Launch) (D : va_G) (T : Nat → ClassId) (b : Nat) (gr : Bool) (x0 : Nat) (x1 : Int32) (M : zM) (r : Int32) (M' : zM) (h : fX8_errorKind x0 x1 M = some (r, M')) : zMet l D T b gr yX8_errorKind cX8_errorKind 2 (some .int) 1 0 0 [zr b x0, .int x1] M (0, r, M') := by
  refine zEntry2 false (fun h9 => nomatch h9) zp_yX8_errorKind ⟨zr_cat _ _, rfl, trivial⟩ (Nat.le_of_ble_eq_true rfl) ?_
  obtain ⟨o, ho⟩ : ∃ o : Int32 × zM, o = (r, M') := ⟨_, rfl⟩
  rw [← ho] at h
  rw [show ((0, r, M') : Nat × Int32 × zM) = (0, o.1, o.2) by rw [ho]]
  show zV false l RX8 cX8_errorKind 2 (some .int) false 1 0 0 D T b gr M.2.2.2 (0, o.1, o.2) 0 0 0 [(0, zr b x0), (1, .int x1)] [] M
  unfold fX8_errorKind at h
  refine zV_aload_n (j := 0) dX8_errorKind_0 rfl rfl ?_
  refine zV_iload_n (j := 1) dX8_errorKind_1 rfl rfl ?_
  refine zV_iconst (v := 0) dX8_errorKind_2 (by decide) ?_
  refine zV_aload_n (j := 0) dX8_errorKind_3 rfl rfl ?_
  obtain ⟨g1, h⟩ := zg_of h
  refine zV_getI zf_RX8_184 dX8_errorKind_4 rfl g1 ?_
  refine zV_iconst (v := 1) dX8_errorKind_7 (by decide) ?_
  refine zV_isub dX8_errorKind_8 ?_
  obtain ⟨r2, M3, q4, h⟩ := zb_of h
  refine zV_callSi (As := [.int x1, .int 0, .int ((zI M x0 36) - 1)]) (rest := [zr b x0]) (vX8_in l D T b gr x1 0 ((zI M x0 36) - 1) M _ _ q4) zm_yX8_in zl_RX8_159 zs_yX8_in rfl rfl (zcs ⟨zr_cat _ _, trivial⟩ (Nat.le_of_ble_eq_true rfl)) (by decide) (by decide) (by decide) dX8_errorKind_9 ?_
  refine zV_iconst (v := 1) dX8_errorKind_12 (by decide) ?_
  refine zV_iconst (v := 1) dX8_errorKind_13 (by decide) ?_
  obtain ⟨g5, h⟩ := zg_of h
  obtain ⟨r6, M7, q8, h⟩ := zb_of h
  refine zV_callVi (ci := 8) (As := [.int r2, .int 1, .int 1]) (rest := []) (vX8_goes l D T b gr x0 r2 1 1 M3 _ _ q8) zm_yX8_goes zl_RX8_163 zi_yX8_goes ze_yX8_goes zcI8 g5 rfl rfl (zcs trivial (Nat.le_of_ble_eq_true rfl)) (by decide) (by decide) (by decide) dX8_errorKind_14 ?_
  refine zV_if_eq (tgt := 29) dX8_errorKind_17 (by decide) (fun c9 => ?_) (fun c9 => ?_)
  · replace h := z_t c9 h
    refine zV_iconst (v := 0) dX8_errorKind_29 (by decide) ?_
    exact zV_iret rfl dX8_errorKind_30 (by decide) (by decide) (z_ret h)
  · replace h := z_f c9 h
    refine zV_aload_n (j := 0) dX8_errorKind_20 rfl rfl ?_
    obtain ⟨g10, h⟩ := zg_of h
    refine zV_getR zf_RX8_83 dX8_errorKind_21 rfl g10 ?_
    refine zV_iload_n (j := 1) dX8_errorKind_24 rfl rfl ?_
    obtain ⟨g11, h⟩ := zg_of h
    obtain ⟨g12, h⟩ := zg_of h
    refine zV_iald dX8_errorKind_25 g11 g12 ?_
    refine zV_goto (tgt := 30) dX8_errorKind_26 (by decide) ?_
    exact zV_iret rfl dX8_errorKind_30 (by decide) (by decide) (z_ret h)
set_option maxHeartbeats 4000000 in
set_option maxRecDepth 100000 in
theorem vX8_errorAt (l : Launch) (D : va_G) (T : Nat → ClassId) (b : Nat) (gr : Bool) (x0 : Nat) (x1 : Int32) (M : zM) (r : Int32) (M' : zM) (h : fX8_errorAt x0 x1 M = some (r, M')) : zMet l D T b gr yX8_errorAt cX8_errorAt 2 (some .int) 1 0 0 [zr b x0, .int x1] M (0, r, M') := by
  refine zEntry2 false (fun h9 => nomatch h9) zp_yX8_errorAt ⟨zr_cat _ _, rfl, trivial⟩ (Nat.le_of_ble_eq_true rfl) ?_
  obtain ⟨o, ho⟩ : ∃ o : Int32 × zM, o = (r, M') := ⟨_, rfl⟩
  rw [← ho] at h
  rw [show ((0, r, M') : Nat × Int32 × zM) = (0, o.1, o.2) by rw [ho]]
  show zV false l RX8 cX8_errorAt 2 (some .int) false 1 0 0 D T b gr M.2.2.2 (0, o.1, o.2) 0 0 0 [(0, zr b x0), (1, .int x1)] [] M
  unfold fX8_errorAt at h
  refine zV_aload_n (j := 0) dX8_errorAt_0 rfl rfl ?_
  refine zV_iload_n (j := 1) dX8_errorAt_1 rfl rfl ?_
  refine zV_iconst (v := 0) dX8_errorAt_2 (by decide) ?_
  refine zV_aload_n (j := 0) dX8_errorAt_3 rfl rfl ?_
  obtain ⟨g1, h⟩ := zg_of h
  refine zV_getI zf_RX8_184 dX8_errorAt_4 rfl g1 ?_
  refine zV_iconst (v := 1) dX8_errorAt_7 (by decide) ?_
  refine zV_isub dX8_errorAt_8 ?_
  obtain ⟨r2, M3, q4, h⟩ := zb_of h
  refine zV_callSi (As := [.int x1, .int 0, .int ((zI M x0 36) - 1)]) (rest := [zr b x0]) (vX8_in l D T b gr x1 0 ((zI M x0 36) - 1) M _ _ q4) zm_yX8_in zl_RX8_159 zs_yX8_in rfl rfl (zcs ⟨zr_cat _ _, trivial⟩ (Nat.le_of_ble_eq_true rfl)) (by decide) (by decide) (by decide) dX8_errorAt_9 ?_
  refine zV_iconst (v := 1) dX8_errorAt_12 (by decide) ?_
  refine zV_iconst (v := 1) dX8_errorAt_13 (by decide) ?_
  obtain ⟨g5, h⟩ := zg_of h
  obtain ⟨r6, M7, q8, h⟩ := zb_of h
  refine zV_callVi (ci := 8) (As := [.int r2, .int 1, .int 1]) (rest := []) (vX8_goes l D T b gr x0 r2 1 1 M3 _ _ q8) zm_yX8_goes zl_RX8_163 zi_yX8_goes ze_yX8_goes zcI8 g5 rfl rfl (zcs trivial (Nat.le_of_ble_eq_true rfl)) (by decide) (by decide) (by decide) dX8_errorAt_14 ?_
  refine zV_if_eq (tgt := 29) dX8_errorAt_17 (by decide) (fun c9 => ?_) (fun c9 => ?_)
  · replace h := z_t c9 h
    refine zV_iconst (v := 0) dX8_errorAt_29 (by decide) ?_
    exact zV_iret rfl dX8_errorAt_30 (by decide) (by decide) (z_ret h)
  · replace h := z_f c9 h
    refine zV_aload_n (j := 0) dX8_errorAt_20 rfl rfl ?_
    obtain ⟨g10, h⟩ := zg_of h
    refine zV_getR zf_RX8_86 dX8_errorAt_21 rfl g10 ?_
    refine zV_iload_n (j := 1) dX8_errorAt_24 rfl rfl ?_
    obtain ⟨g11, h⟩ := zg_of h
    obtain ⟨g12, h⟩ := zg_of h
    refine zV_iald dX8_errorAt_25 g11 g12 ?_
    refine zV_goto (tgt := 30) dX8_errorAt_26 (by decide) ?_
    exact zV_iret rfl dX8_errorAt_30 (by decide) (by decide) (z_ret h)
set_option maxHeartbeats 4000000 in
set_option maxRecDepth 100000 in
theorem vX8_normal (l : Launch) (D : va_G) (T : Nat → ClassId) (b : Nat) (gr : Bool) (x0 : Nat) (M : zM) (r : Int32) (M' : zM) (h : fX8_normal x0 M = some (r, M')) : zMet l D T b gr yX8_normal cX8_normal 1 (some .int) 2 0 0 [zr b x0] M (0, r, M') := by
  refine zEntry2 false (fun h9 => nomatch h9) zp_yX8_normal ⟨zr_cat _ _, trivial⟩ (Nat.le_of_ble_eq_true rfl) ?_
  obtain ⟨o, ho⟩ : ∃ o : Int32 × zM, o = (r, M') := ⟨_, rfl⟩
  rw [← ho] at h
  rw [show ((0, r, M') : Nat × Int32 × zM) = (0, o.1, o.2) by rw [ho]]
  show zV false l RX8 cX8_normal 1 (some .int) false 2 0 0 D T b gr M.2.2.2 (0, o.1, o.2) 0 0 0 [(0, zr b x0)] [] M
  unfold fX8_normal at h
  refine zV_aload_n (j := 0) dX8_normal_0 rfl rfl ?_
  refine zV_iconst (v := 0) dX8_normal_1 (by decide) ?_
  obtain ⟨g1, h⟩ := zg_of h
  refine zV_putI zf_RX8_143 dX8_normal_2 rfl rfl g1 ?_
  refine zV_mem (fun M2 e3 => ?_)
  replace h := zlet_of h e3
  refine zV_aload_n (j := 0) dX8_normal_5 rfl rfl ?_
  obtain ⟨r4, M5, q6, h⟩ := zb_of h
  refine zV_callVv (ci := 8) (As := []) (rest := []) (vX8_forms l D T b gr x0 M2 _ _ q6) zm_yX8_forms zl_RX8_308 zi_yX8_forms ze_yX8_forms zcI8 (zkI e3 g1) rfl rfl (zcs trivial (Nat.le_of_ble_eq_true rfl)) (by decide) (by decide) (by decide) dX8_normal_6 ?_
  refine zV_aload_n (j := 0) dX8_normal_9 rfl rfl ?_
  obtain ⟨g7, h⟩ := zg_of h
  refine zV_getI zf_RX8_302 dX8_normal_10 rfl g7 ?_
  exact zV_iret rfl dX8_normal_13 (by decide) (by decide) (z_ret h)
set_option maxHeartbeats 4000000 in
set_option maxRecDepth 100000 in
theorem vX8_normalSort (l : Launch) (D : va_G) (T : Nat → ClassId) (b : Nat) (gr : Bool) (x0 : Nat) (x1 : Int32) (M : zM) (r : Int32) (M' : zM) (h : fX8_normalSort x0 x1 M = some (r, M')) : zMet l D T b gr yX8_normalSort cX8_normalSort 2 (some .int) 2 0 0 [zr b x0, .int x1] M (0, r, M') := by
  refine zEntry2 false (fun h9 => nomatch h9) zp_yX8_normalSort ⟨zr_cat _ _, rfl, trivial⟩ (Nat.le_of_ble_eq_true rfl) ?_
  obtain ⟨o, ho⟩ : ∃ o : Int32 × zM, o = (r, M') := ⟨_, rfl⟩
  rw [← ho] at h
  rw [show ((0, r, M') : Nat × Int32 × zM) = (0, o.1, o.2) by rw [ho]]
  show zV false l RX8 cX8_normalSort 2 (some .int) false 2 0 0 D T b gr M.2.2.2 (0, o.1, o.2) 0 0 0 [(0, zr b x0), (1, .int x1)] [] M
  unfold fX8_normalSort at h
  refine zV_aload_n (j := 0) dX8_normalSort_0 rfl rfl ?_
  obtain ⟨g1, h⟩ := zg_of h
  obtain ⟨r2, M3, q4, h⟩ := zb_of h
  refine zV_callVv (ci := 8) (As := []) (rest := []) (vX8_forms l D T b gr x0 M _ _ q4) zm_yX8_forms zl_RX8_308 zi_yX8_forms ze_yX8_forms zcI8 g1 rfl rfl (zcs trivial (Nat.le_of_ble_eq_true rfl)) (by decide) (by decide) (by decide) dX8_normalSort_1 ?_
  refine zV_aload_n (j := 0) dX8_normalSort_4 rfl rfl ?_
  refine zV_iload_n (j := 1) dX8_normalSort_5 rfl rfl ?_
  refine zV_iconst (v := 0) dX8_normalSort_6 (by decide) ?_
  refine zV_aload_n (j := 0) dX8_normalSort_7 rfl rfl ?_
  obtain ⟨g5, h⟩ := zg_of h
  refine zV_getI zf_RX8_302 dX8_normalSort_8 rfl g5 ?_
  refine zV_iconst (v := 1) dX8_normalSort_11 (by decide) ?_
  refine zV_isub dX8_normalSort_12 ?_
  obtain ⟨r6, M7, q8, h⟩ := zb_of h
  refine zV_callSi (As := [.int x1, .int 0, .int ((zI M3 x0 52) - 1)]) (rest := [zr b x0]) (vX8_in l D T b gr x1 0 ((zI M3 x0 52) - 1) M3 _ _ q8) zm_yX8_in zl_RX8_159 zs_yX8_in rfl rfl (zcs ⟨zr_cat _ _, trivial⟩ (Nat.le_of_ble_eq_true rfl)) (by decide) (by decide) (by decide) dX8_normalSort_13 ?_
  refine zV_iconst (v := 1) dX8_normalSort_16 (by decide) ?_
  refine zV_iconst (v := 1) dX8_normalSort_17 (by decide) ?_
  obtain ⟨g9, h⟩ := zg_of h
  obtain ⟨r10, M11, q12, h⟩ := zb_of h
  refine zV_callVi (ci := 8) (As := [.int r6, .int 1, .int 1]) (rest := []) (vX8_goes l D T b gr x0 r6 1 1 M7 _ _ q12) zm_yX8_goes zl_RX8_163 zi_yX8_goes ze_yX8_goes zcI8 g9 rfl rfl (zcs trivial (Nat.le_of_ble_eq_true rfl)) (by decide) (by decide) (by decide) dX8_normalSort_18 ?_
  refine zV_if_eq (tgt := 33) dX8_normalSort_21 (by decide) (fun c13 => ?_) (fun c13 => ?_)
  · replace h := z_t c13 h
    refine zV_iconst (v := 0) dX8_normalSort_33 (by decide) ?_
    exact zV_iret rfl dX8_normalSort_34 (by decide) (by decide) (z_ret h)
  · replace h := z_f c13 h
    refine zV_aload_n (j := 0) dX8_normalSort_24 rfl rfl ?_
    obtain ⟨g14, h⟩ := zg_of h
    refine zV_getR zf_RX8_125 dX8_normalSort_25 rfl g14 ?_
    refine zV_iload_n (j := 1) dX8_normalSort_28 rfl rfl ?_
    obtain ⟨g15, h⟩ := zg_of h
    obtain ⟨g16, h⟩ := zg_of h
    refine zV_iald dX8_normalSort_29 g15 g16 ?_
    refine zV_goto (tgt := 34) dX8_normalSort_30 (by decide) ?_
    exact zV_iret rfl dX8_normalSort_34 (by decide) (by decide) (z_ret h)
set_option maxHeartbeats 4000000 in
set_option maxRecDepth 100000 in
theorem vX8_normalValue (l : Launch) (D : va_G) (T : Nat → ClassId) (b : Nat) (gr : Bool) (x0 : Nat) (x1 : Int32) (M : zM) (r : Int32) (M' : zM) (h : fX8_normalValue x0 x1 M = some (r, M')) : zMet l D T b gr yX8_normalValue cX8_normalValue 2 (some .int) 2 0 0 [zr b x0, .int x1] M (0, r, M') := by
  refine zEntry2 false (fun h9 => nomatch h9) zp_yX8_normalValue ⟨zr_cat _ _, rfl, trivial⟩ (Nat.le_of_ble_eq_true rfl) ?_
  obtain ⟨o, ho⟩ : ∃ o : Int32 × zM, o = (r, M') := ⟨_, rfl⟩
  rw [← ho] at h
  rw [show ((0, r, M') : Nat × Int32 × zM) = (0, o.1, o.2) by rw [ho]]
  show zV false l RX8 cX8_normalValue 2 (some .int) false 2 0 0 D T b gr M.2.2.2 (0, o.1, o.2) 0 0 0 [(0, zr b x0), (1, .int x1)] [] M
  unfold fX8_normalValue at h
  refine zV_aload_n (j := 0) dX8_normalValue_0 rfl rfl ?_
  obtain ⟨g1, h⟩ := zg_of h
  obtain ⟨r2, M3, q4, h⟩ := zb_of h
  refine zV_callVv (ci := 8) (As := []) (rest := []) (vX8_forms l D T b gr x0 M _ _ q4) zm_yX8_forms zl_RX8_308 zi_yX8_forms ze_yX8_forms zcI8 g1 rfl rfl (zcs trivial (Nat.le_of_ble_eq_true rfl)) (by decide) (by decide) (by decide) dX8_normalValue_1 ?_
  refine zV_aload_n (j := 0) dX8_normalValue_4 rfl rfl ?_
  refine zV_iload_n (j := 1) dX8_normalValue_5 rfl rfl ?_
  refine zV_iconst (v := 0) dX8_normalValue_6 (by decide) ?_
  refine zV_aload_n (j := 0) dX8_normalValue_7 rfl rfl ?_
  obtain ⟨g5, h⟩ := zg_of h
  refine zV_getI zf_RX8_302 dX8_normalValue_8 rfl g5 ?_
  refine zV_iconst (v := 1) dX8_normalValue_11 (by decide) ?_
  refine zV_isub dX8_normalValue_12 ?_
  obtain ⟨r6, M7, q8, h⟩ := zb_of h
  refine zV_callSi (As := [.int x1, .int 0, .int ((zI M3 x0 52) - 1)]) (rest := [zr b x0]) (vX8_in l D T b gr x1 0 ((zI M3 x0 52) - 1) M3 _ _ q8) zm_yX8_in zl_RX8_159 zs_yX8_in rfl rfl (zcs ⟨zr_cat _ _, trivial⟩ (Nat.le_of_ble_eq_true rfl)) (by decide) (by decide) (by decide) dX8_normalValue_13 ?_
  refine zV_iconst (v := 1) dX8_normalValue_16 (by decide) ?_
  refine zV_iconst (v := 1) dX8_normalValue_17 (by decide) ?_
  obtain ⟨g9, h⟩ := zg_of h
  obtain ⟨r10, M11, q12, h⟩ := zb_of h
  refine zV_callVi (ci := 8) (As := [.int r6, .int 1, .int 1]) (rest := []) (vX8_goes l D T b gr x0 r6 1 1 M7 _ _ q12) zm_yX8_goes zl_RX8_163 zi_yX8_goes ze_yX8_goes zcI8 g9 rfl rfl (zcs trivial (Nat.le_of_ble_eq_true rfl)) (by decide) (by decide) (by decide) dX8_normalValue_18 ?_
  refine zV_if_eq (tgt := 33) dX8_normalValue_21 (by decide) (fun c13 => ?_) (fun c13 => ?_)
  · replace h := z_t c13 h
    refine zV_iconst (v := 0) dX8_normalValue_33 (by decide) ?_
    exact zV_iret rfl dX8_normalValue_34 (by decide) (by decide) (z_ret h)
  · replace h := z_f c13 h
    refine zV_aload_n (j := 0) dX8_normalValue_24 rfl rfl ?_
    obtain ⟨g14, h⟩ := zg_of h
    refine zV_getR zf_RX8_128 dX8_normalValue_25 rfl g14 ?_
    refine zV_iload_n (j := 1) dX8_normalValue_28 rfl rfl ?_
    obtain ⟨g15, h⟩ := zg_of h
    obtain ⟨g16, h⟩ := zg_of h
    refine zV_iald dX8_normalValue_29 g15 g16 ?_
    refine zV_goto (tgt := 34) dX8_normalValue_30 (by decide) ?_
    exact zV_iret rfl dX8_normalValue_34 (by decide) (by decide) (z_ret h)
set_option maxHeartbeats 4000000 in
set_option maxRecDepth 100000 in
theorem vX8_isClean (l : Launch) (D : va_G) (T : Nat → ClassId) (b : Nat) (gr : Bool) (x0 : Nat) (M : zM) (r : Int32) (M' : zM) (h : fX8_isClean x0 M = some (r, M')) : zMet l D T b gr yX8_isClean cX8_isClean 1 (some .boolean) 0 0 0 [zr b x0] M (0, r, M') := by
  refine zEntry2 false (fun h9 => nomatch h9) zp_yX8_isClean ⟨zr_cat _ _, trivial⟩ (Nat.le_of_ble_eq_true rfl) ?_
  obtain ⟨o, ho⟩ : ∃ o : Int32 × zM, o = (r, M') := ⟨_, rfl⟩
  rw [← ho] at h
  rw [show ((0, r, M') : Nat × Int32 × zM) = (0, o.1, o.2) by rw [ho]]
  show zV false l RX8 cX8_isClean 1 (some .boolean) false 0 0 0 D T b gr M.2.2.2 (0, o.1, o.2) 0 0 0 [(0, zr b x0)] [] M
  unfold fX8_isClean at h
  refine zV_aload_n (j := 0) dX8_isClean_0 rfl rfl ?_
  obtain ⟨g1, h⟩ := zg_of h
  refine zV_getI zf_RX8_184 dX8_isClean_1 rfl g1 ?_
  refine zV_if_ne (tgt := 25) dX8_isClean_4 (by decide) (fun c2 => ?_) (fun c2 => ?_)
  · replace h := z_f c2 h
    refine zV_iconst (v := 0) dX8_isClean_25 (by decide) ?_
    exact zV_zret rfl dX8_isClean_26 (by decide) (by decide) (Or.inl rfl) (z_ret h)
  · replace h := z_t c2 h
    refine zV_aload_n (j := 0) dX8_isClean_7 rfl rfl ?_
    refine zV_getI zf_RX8_197 dX8_isClean_8 rfl g1 ?_
    refine zV_if_ne (tgt := 25) dX8_isClean_11 (by decide) (fun c3 => ?_) (fun c3 => ?_)
    · replace h := z_f c3 h
      refine zV_iconst (v := 0) dX8_isClean_25 (by decide) ?_
      exact zV_zret rfl dX8_isClean_26 (by decide) (by decide) (Or.inl rfl) (z_ret h)
    · replace h := z_t c3 h
      refine zV_aload_n (j := 0) dX8_isClean_14 rfl rfl ?_
      refine zV_getI zf_RX8_240 dX8_isClean_15 rfl g1 ?_
      refine zV_if_ne (tgt := 25) dX8_isClean_18 (by decide) (fun c4 => ?_) (fun c4 => ?_)
      · replace h := z_f c4 h
        refine zV_iconst (v := 0) dX8_isClean_25 (by decide) ?_
        exact zV_zret rfl dX8_isClean_26 (by decide) (by decide) (Or.inl rfl) (z_ret h)
      · replace h := z_t c4 h
        refine zV_iconst (v := 1) dX8_isClean_21 (by decide) ?_
        refine zV_goto (tgt := 26) dX8_isClean_22 (by decide) ?_
        exact zV_zret rfl dX8_isClean_26 (by decide) (by decide) (Or.inr rfl) (z_ret h)
set_option maxHeartbeats 4000000 in
set_option maxRecDepth 100000 in
theorem vX8_isSame_204 {l : Launch} {D : va_G} {T : Nat → ClassId} {b : Nat} {gr : Bool} {n0 : Nat} (x0 : Nat) (x2 : Int32) (M : zM) (o : Int32 × zM) (h : fX8_isSame_204 x0 x2 M = some o) : zV false l RX8 cX8_isSame 4 (some .boolean) false 9 0 0 D T b gr n0 (0, o.1, o.2) 0 0 204 [(0, zr b x0), (2, .int x2)] [] M := by
  unfold fX8_isSame_204 at h
  refine zV_aload_n (j := 0) dX8_isSame_204 rfl rfl ?_
  obtain ⟨g1, h⟩ := zg_of h
  obtain ⟨r2, M3, q4, h⟩ := zb_of h
  refine zV_callVv (ci := 8) (As := []) (rest := []) (vX8_readsText l D T b gr x0 M _ _ q4) zm_yX8_readsText zl_RX8_140 zi_yX8_readsText ze_yX8_readsText zcI8 g1 rfl rfl (zcs trivial (Nat.le_of_ble_eq_true rfl)) (by decide) (by decide) (by decide) dX8_isSame_205 ?_
  refine zV_iload_n (j := 1) dX8_isSame_208 rfl rfl ?_
  obtain ⟨g5, h⟩ := zg_of h
  exact zV_zret rfl dX8_isSame_209 (by decide) (by decide) g5 (z_ret h)
set_option maxHeartbeats 4000000 in
set_option maxRecDepth 100000 in
theorem vX8_isSame_197 {l : Launch} {D : va_G} {T : Nat → ClassId} {b : Nat} {gr : Bool} {n0 : Nat} (k138 : Nat → Int32 → Int32 → Int32 → zM → Option (Int32 × zM)) (hk138 : ∀ (z0 : Nat) (z1 : Int32) (z2 : Int32) (z3 : Int32) (N : zM) (o : Int32 × zM), k138 z0 z1 z2 z3 N = some o → zV false l RX8 cX8_isSame 4 (some .boolean) false 9 0 0 D T b gr n0 (0, o.1, o.2) 0 0 138 [(0, zr b z0), (1, .int z1), (2, .int z2), (3, .int z3)] [] N) (x0 : Nat) (x1 : Int32) (x3 : Int32) (s0 : Int32) (M : zM) (o : Int32 × zM) (h : fX8_isSame_197 k138 x0 x1 x3 s0 M = some o) : zV false l RX8 cX8_isSame 4 (some .boolean) false 9 0 0 D T b gr n0 (0, o.1, o.2) 0 0 197 [(0, zr b x0), (1, .int x1), (3, .int x3)] [.int s0] M := by
  unfold fX8_isSame_197 at h
  refine zV_istore_n [(2, .int s0), (0, zr b x0), (1, .int x1), (3, .int x3)] dX8_isSame_197 rfl (by decide) rfl ?_
  obtain ⟨u6, e7⟩ : ∃ y : Int32, y = x3 + 1 := ⟨_, rfl⟩
  replace h := zlet_of h e7
  refine zV_iinc (j := 3) (v := u6) [(3, .int u6), (2, .int s0), (0, zr b x0), (1, .int x1)] dX8_isSame_198 rfl (by rw [e7]; rfl) (by decide) rfl ?_
  refine zV_goto (tgt := 138) dX8_isSame_201 (by decide) ?_
  refine zV_pk [2, 3, 1, 0] rfl ?_
  exact hk138 x0 x1 s0 u6 M _ h
set_option maxHeartbeats 4000000 in
set_option maxRecDepth 100000 in
theorem vX8_isSame_196 {l : Launch} {D : va_G} {T : Nat → ClassId} {b : Nat} {gr : Bool} {n0 : Nat} (k138 : Nat → Int32 → Int32 → Int32 → zM → Option (Int32 × zM)) (hk138 : ∀ (z0 : Nat) (z1 : Int32) (z2 : Int32) (z3 : Int32) (N : zM) (o : Int32 × zM), k138 z0 z1 z2 z3 N = some o → zV false l RX8 cX8_isSame 4 (some .boolean) false 9 0 0 D T b gr n0 (0, o.1, o.2) 0 0 138 [(0, zr b z0), (1, .int z1), (2, .int z2), (3, .int z3)] [] N) (x0 : Nat) (x1 : Int32) (x3 : Int32) (M : zM) (o : Int32 × zM) (h : fX8_isSame_196 k138 x0 x1 x3 M = some o) : zV false l RX8 cX8_isSame 4 (some .boolean) false 9 0 0 D T b gr n0 (0, o.1, o.2) 0 0 196 [(0, zr b x0), (1, .int x1), (3, .int x3)] [] M := by
  unfold fX8_isSame_196 at h
  refine zV_iconst (v := 0) dX8_isSame_196 (by decide) ?_
  exact vX8_isSame_197 k138 hk138 x0 x1 x3 0 M _ h
set_option maxHeartbeats 4000000 in
set_option maxRecDepth 100000 in
theorem vX8_isSame_138 {l : Launch} {D : va_G} {T : Nat → ClassId} {b : Nat} {gr : Bool} {n0 : Nat} : ∀ (n : Nat) (x0 : Nat) (x1 : Int32) (x2 : Int32) (x3 : Int32) (M : zM) (o : Int32 × zM), fX8_isSame_138 n x0 x1 x2 x3 M = some o → zV false l RX8 cX8_isSame 4 (some .boolean) false 9 0 0 D T b gr n0 (0, o.1, o.2) 0 0 138 [(0, zr b x0), (1, .int x1), (2, .int x2), (3, .int x3)] [] M := by
  intro n
  induction n with
  | zero =>
    intro x0 x1 x2 x3 M o h
    rw [fX8_isSame_138] at h
    cases h
  | succ n ih =>
    intro x0 x1 x2 x3 M o h
    rw [fX8_isSame_138] at h
    refine zV_iload_n (j := 2) dX8_isSame_138 rfl rfl ?_
    refine zV_if_eq (tgt := 204) dX8_isSame_139 (by decide) (fun c8 => ?_) (fun c8 => ?_)
    · replace h := z_t c8 h
      refine zV_pk [0, 2] rfl ?_
      exact vX8_isSame_204 x0 x2 M _ h
    · replace h := z_f c8 h
      refine zV_iload_n (j := 3) dX8_isSame_142 rfl rfl ?_
      refine zV_iload_n (j := 1) dX8_isSame_143 rfl rfl ?_
      refine zV_icmp_ge (tgt := 204) dX8_isSame_144 (by decide) (fun c9 => ?_) (fun c9 => ?_)
      · replace h := z_t c9 h
        refine zV_pk [0, 2] rfl ?_
        exact vX8_isSame_204 x0 x2 M _ h
      · replace h := z_f c9 h
        refine zV_aload_n (j := 0) dX8_isSame_147 rfl rfl ?_
        obtain ⟨g10, h⟩ := zg_of h
        refine zV_getR zf_RX8_68 dX8_isSame_148 rfl g10 ?_
        refine zV_iload_n (j := 3) dX8_isSame_151 rfl rfl ?_
        obtain ⟨g11, h⟩ := zg_of h
        obtain ⟨g12, h⟩ := zg_of h
        refine zV_iald dX8_isSame_152 g11 g12 ?_
        refine zV_aload_n (j := 0) dX8_isSame_153 rfl rfl ?_
        refine zV_getR zf_RX8_131 dX8_isSame_154 rfl g10 ?_
        refine zV_iload_n (j := 3) dX8_isSame_157 rfl rfl ?_
        obtain ⟨g13, h⟩ := zg_of h
        obtain ⟨g14, h⟩ := zg_of h
        refine zV_iald dX8_isSame_158 g13 g14 ?_
        refine zV_icmp_ne (tgt := 196) dX8_isSame_159 (by decide) (fun c15 => ?_) (fun c15 => ?_)
        · replace h := z_f c15 h
          refine zV_pk [0, 1, 3] rfl ?_
          exact vX8_isSame_196 (fX8_isSame_138 n) ih x0 x1 x3 M _ h
        · replace h := z_t c15 h
          refine zV_aload_n (j := 0) dX8_isSame_162 rfl rfl ?_
          refine zV_getR zf_RX8_71 dX8_isSame_163 rfl g10 ?_
          refine zV_iload_n (j := 3) dX8_isSame_166 rfl rfl ?_
          obtain ⟨g16, h⟩ := zg_of h
          obtain ⟨g17, h⟩ := zg_of h
          refine zV_iald dX8_isSame_167 g16 g17 ?_
          refine zV_aload_n (j := 0) dX8_isSame_168 rfl rfl ?_
          refine zV_getR zf_RX8_134 dX8_isSame_169 rfl g10 ?_
          refine zV_iload_n (j := 3) dX8_isSame_172 rfl rfl ?_
          obtain ⟨g18, h⟩ := zg_of h
          obtain ⟨g19, h⟩ := zg_of h
          refine zV_iald dX8_isSame_173 g18 g19 ?_
          refine zV_icmp_ne (tgt := 196) dX8_isSame_174 (by decide) (fun c20 => ?_) (fun c20 => ?_)
          · replace h := z_f c20 h
            refine zV_pk [0, 1, 3] rfl ?_
            exact vX8_isSame_196 (fX8_isSame_138 n) ih x0 x1 x3 M _ h
          · replace h := z_t c20 h
            refine zV_aload_n (j := 0) dX8_isSame_177 rfl rfl ?_
            refine zV_getR zf_RX8_74 dX8_isSame_178 rfl g10 ?_
            refine zV_iload_n (j := 3) dX8_isSame_181 rfl rfl ?_
            obtain ⟨g21, h⟩ := zg_of h
            obtain ⟨g22, h⟩ := zg_of h
            refine zV_iald dX8_isSame_182 g21 g22 ?_
            refine zV_aload_n (j := 0) dX8_isSame_183 rfl rfl ?_
            refine zV_getR zf_RX8_137 dX8_isSame_184 rfl g10 ?_
            refine zV_iload_n (j := 3) dX8_isSame_187 rfl rfl ?_
            obtain ⟨g23, h⟩ := zg_of h
            obtain ⟨g24, h⟩ := zg_of h
            refine zV_iald dX8_isSame_188 g23 g24 ?_
            refine zV_icmp_ne (tgt := 196) dX8_isSame_189 (by decide) (fun c25 => ?_) (fun c25 => ?_)
            · replace h := z_f c25 h
              refine zV_pk [0, 1, 3] rfl ?_
              exact vX8_isSame_196 (fX8_isSame_138 n) ih x0 x1 x3 M _ h
            · replace h := z_t c25 h
              refine zV_iconst (v := 1) dX8_isSame_192 (by decide) ?_
              refine zV_goto (tgt := 197) dX8_isSame_193 (by decide) ?_
              refine zV_pk [0, 1, 3] rfl ?_
              exact vX8_isSame_197 (fX8_isSame_138 n) ih x0 x1 x3 1 M _ h
set_option maxHeartbeats 4000000 in
set_option maxRecDepth 100000 in
theorem vX8_isSame_135 {l : Launch} {D : va_G} {T : Nat → ClassId} {b : Nat} {gr : Bool} {n0 : Nat} (x0 : Nat) (x1 : Int32) (s0 : Int32) (M : zM) (o : Int32 × zM) (h : fX8_isSame_135 x0 x1 s0 M = some o) : zV false l RX8 cX8_isSame 4 (some .boolean) false 9 0 0 D T b gr n0 (0, o.1, o.2) 0 0 135 [(0, zr b x0), (1, .int x1)] [.int s0] M := by
  unfold fX8_isSame_135 at h
  refine zV_istore_n [(2, .int s0), (0, zr b x0), (1, .int x1)] dX8_isSame_135 rfl (by decide) rfl ?_
  refine zV_iconst (v := 0) dX8_isSame_136 (by decide) ?_
  refine zV_istore_n [(3, .int 0), (2, .int s0), (0, zr b x0), (1, .int x1)] dX8_isSame_137 rfl (by decide) rfl ?_
  refine zV_pk [2, 3, 1, 0] rfl ?_
  exact vX8_isSame_138 10000 x0 x1 s0 0 M _ h
set_option maxHeartbeats 4000000 in
set_option maxRecDepth 100000 in
theorem vX8_isSame_134 {l : Launch} {D : va_G} {T : Nat → ClassId} {b : Nat} {gr : Bool} {n0 : Nat} (x0 : Nat) (x1 : Int32) (M : zM) (o : Int32 × zM) (h : fX8_isSame_134 x0 x1 M = some o) : zV false l RX8 cX8_isSame 4 (some .boolean) false 9 0 0 D T b gr n0 (0, o.1, o.2) 0 0 134 [(0, zr b x0), (1, .int x1)] [] M := by
  unfold fX8_isSame_134 at h
  refine zV_iconst (v := 0) dX8_isSame_134 (by decide) ?_
  exact vX8_isSame_135 x0 x1 0 M _ h
set_option maxHeartbeats 4000000 in
set_option maxRecDepth 100000 in
theorem vX8_isSame_111 {l : Launch} {D : va_G} {T : Nat → ClassId} {b : Nat} {gr : Bool} {n0 : Nat} (x0 : Nat) (x1 : Int32) (M : zM) (o : Int32 × zM) (h : fX8_isSame_111 x0 x1 M = some o) : zV false l RX8 cX8_isSame 4 (some .boolean) false 9 0 0 D T b gr n0 (0, o.1, o.2) 0 0 111 [(0, zr b x0), (1, .int x1)] [] M := by
  unfold fX8_isSame_111 at h
  refine zV_aload_n (j := 0) dX8_isSame_111 rfl rfl ?_
  obtain ⟨g26, h⟩ := zg_of h
  obtain ⟨r27, M28, q29, h⟩ := zb_of h
  refine zV_callVv (ci := 8) (As := []) (rest := []) (vX8_readsRow l D T b gr x0 M _ _ q29) zm_yX8_readsRow zl_RX8_290 zi_yX8_readsRow ze_yX8_readsRow zcI8 g26 rfl rfl (zcs trivial (Nat.le_of_ble_eq_true rfl)) (by decide) (by decide) (by decide) dX8_isSame_112 ?_
  refine zV_aload_n (j := 0) dX8_isSame_115 rfl rfl ?_
  obtain ⟨g30, h⟩ := zg_of h
  obtain ⟨r31, M32, q33, h⟩ := zb_of h
  refine zV_callVi (ci := 8) (As := []) (rest := []) (vX8_isClean l D T b gr x0 M28 _ _ q33) zm_yX8_isClean zl_RX8_317 zi_yX8_isClean ze_yX8_isClean zcI8 g30 rfl rfl (zcs trivial (Nat.le_of_ble_eq_true rfl)) (by decide) (by decide) (by decide) dX8_isSame_116 ?_
  refine zV_if_eq (tgt := 134) dX8_isSame_119 (by decide) (fun c34 => ?_) (fun c34 => ?_)
  · replace h := z_t c34 h
    exact vX8_isSame_134 x0 x1 M32 _ h
  · replace h := z_f c34 h
    refine zV_aload_n (j := 0) dX8_isSame_122 rfl rfl ?_
    obtain ⟨g35, h⟩ := zg_of h
    refine zV_getI zf_RX8_187 dX8_isSame_123 rfl g35 ?_
    refine zV_iload_n (j := 1) dX8_isSame_126 rfl rfl ?_
    refine zV_icmp_ne (tgt := 134) dX8_isSame_127 (by decide) (fun c36 => ?_) (fun c36 => ?_)
    · replace h := z_f c36 h
      exact vX8_isSame_134 x0 x1 M32 _ h
    · replace h := z_t c36 h
      refine zV_iconst (v := 1) dX8_isSame_130 (by decide) ?_
      refine zV_goto (tgt := 135) dX8_isSame_131 (by decide) ?_
      exact vX8_isSame_135 x0 x1 1 M32 _ h
set_option maxHeartbeats 4000000 in
set_option maxRecDepth 100000 in
theorem vX8_isSame_73 {l : Launch} {D : va_G} {T : Nat → ClassId} {b : Nat} {gr : Bool} {n0 : Nat} : ∀ (n : Nat) (x0 : Nat) (x1 : Int32) (x2 : Int32) (M : zM) (o : Int32 × zM), fX8_isSame_73 n x0 x1 x2 M = some o → zV false l RX8 cX8_isSame 4 (some .boolean) false 9 0 0 D T b gr n0 (0, o.1, o.2) 0 0 73 [(0, zr b x0), (1, .int x1), (2, .int x2)] [] M := by
  intro n
  induction n with
  | zero =>
    intro x0 x1 x2 M o h
    rw [fX8_isSame_73] at h
    cases h
  | succ n ih =>
    intro x0 x1 x2 M o h
    rw [fX8_isSame_73] at h
    refine zV_iload_n (j := 2) dX8_isSame_73 rfl rfl ?_
    refine zV_aload_n (j := 0) dX8_isSame_74 rfl rfl ?_
    obtain ⟨g37, h⟩ := zg_of h
    refine zV_getI zf_RX8_302 dX8_isSame_75 rfl g37 ?_
    refine zV_icmp_ge (tgt := 111) dX8_isSame_78 (by decide) (fun c38 => ?_) (fun c38 => ?_)
    · replace h := z_t c38 h
      refine zV_pk [0, 1] rfl ?_
      exact vX8_isSame_111 x0 x1 M _ h
    · replace h := z_f c38 h
      refine zV_aload_n (j := 0) dX8_isSame_81 rfl rfl ?_
      refine zV_getR zf_RX8_50 dX8_isSame_82 rfl g37 ?_
      refine zV_iload_n (j := 2) dX8_isSame_85 rfl rfl ?_
      refine zV_aload_n (j := 0) dX8_isSame_86 rfl rfl ?_
      refine zV_getR zf_RX8_125 dX8_isSame_87 rfl g37 ?_
      refine zV_iload_n (j := 2) dX8_isSame_90 rfl rfl ?_
      obtain ⟨g39, h⟩ := zg_of h
      obtain ⟨g40, h⟩ := zg_of h
      refine zV_iald dX8_isSame_91 g39 g40 ?_
      obtain ⟨g41, h⟩ := zg_of h
      obtain ⟨g42, h⟩ := zg_of h
      refine zV_iast dX8_isSame_92 g41 g42 ?_
      refine zV_mem (fun M43 e44 => ?_)
      replace h := zlet_of h e44
      refine zV_aload_n (j := 0) dX8_isSame_93 rfl rfl ?_
      refine zV_getR zf_RX8_53 dX8_isSame_94 rfl (zkI e44 g37) ?_
      refine zV_iload_n (j := 2) dX8_isSame_97 rfl rfl ?_
      refine zV_aload_n (j := 0) dX8_isSame_98 rfl rfl ?_
      refine zV_getR zf_RX8_128 dX8_isSame_99 rfl (zkI e44 g37) ?_
      refine zV_iload_n (j := 2) dX8_isSame_102 rfl rfl ?_
      obtain ⟨g45, h⟩ := zg_of h
      obtain ⟨g46, h⟩ := zg_of h
      refine zV_iald dX8_isSame_103 g45 g46 ?_
      obtain ⟨g47, h⟩ := zg_of h
      obtain ⟨g48, h⟩ := zg_of h
      refine zV_iast dX8_isSame_104 g47 g48 ?_
      refine zV_mem (fun M49 e50 => ?_)
      replace h := zlet_of h e50
      obtain ⟨u51, e52⟩ : ∃ y : Int32, y = x2 + 1 := ⟨_, rfl⟩
      replace h := zlet_of h e52
      refine zV_iinc (j := 2) (v := u51) [(2, .int u51), (0, zr b x0), (1, .int x1)] dX8_isSame_105 rfl (by rw [e52]; rfl) (by decide) rfl ?_
      refine zV_goto (tgt := 73) dX8_isSame_108 (by decide) ?_
      refine zV_pk [1, 2, 0] rfl ?_
      exact ih x0 x1 u51 M49 _ h
set_option maxHeartbeats 4000000 in
set_option maxRecDepth 100000 in
theorem vX8_isSame_63 {l : Launch} {D : va_G} {T : Nat → ClassId} {b : Nat} {gr : Bool} {n0 : Nat} (x0 : Nat) (x1 : Int32) (M : zM) (o : Int32 × zM) (h : fX8_isSame_63 x0 x1 M = some o) : zV false l RX8 cX8_isSame 4 (some .boolean) false 9 0 0 D T b gr n0 (0, o.1, o.2) 0 0 63 [(0, zr b x0), (1, .int x1)] [] M := by
  unfold fX8_isSame_63 at h
  refine zV_aload_n (j := 0) dX8_isSame_63 rfl rfl ?_
  refine zV_aload_n (j := 0) dX8_isSame_64 rfl rfl ?_
  obtain ⟨g53, h⟩ := zg_of h
  refine zV_getI zf_RX8_302 dX8_isSame_65 rfl g53 ?_
  refine zV_putI zf_RX8_243 dX8_isSame_68 rfl rfl g53 ?_
  refine zV_mem (fun M54 e55 => ?_)
  replace h := zlet_of h e55
  refine zV_iconst (v := 0) dX8_isSame_71 (by decide) ?_
  refine zV_istore_n [(2, .int 0), (0, zr b x0), (1, .int x1)] dX8_isSame_72 rfl (by decide) rfl ?_
  refine zV_pk [1, 2, 0] rfl ?_
  exact vX8_isSame_73 10000 x0 x1 0 M54 _ h
set_option maxHeartbeats 4000000 in
set_option maxRecDepth 100000 in
theorem vX8_isSame_16 {l : Launch} {D : va_G} {T : Nat → ClassId} {b : Nat} {gr : Bool} {n0 : Nat} : ∀ (n : Nat) (x0 : Nat) (x1 : Int32) (x2 : Int32) (M : zM) (o : Int32 × zM), fX8_isSame_16 n x0 x1 x2 M = some o → zV false l RX8 cX8_isSame 4 (some .boolean) false 9 0 0 D T b gr n0 (0, o.1, o.2) 0 0 16 [(0, zr b x0), (1, .int x1), (2, .int x2)] [] M := by
  intro n
  induction n with
  | zero =>
    intro x0 x1 x2 M o h
    rw [fX8_isSame_16] at h
    cases h
  | succ n ih =>
    intro x0 x1 x2 M o h
    rw [fX8_isSame_16] at h
    refine zV_iload_n (j := 2) dX8_isSame_16 rfl rfl ?_
    refine zV_iload_n (j := 1) dX8_isSame_17 rfl rfl ?_
    refine zV_icmp_ge (tgt := 63) dX8_isSame_18 (by decide) (fun c56 => ?_) (fun c56 => ?_)
    · replace h := z_t c56 h
      refine zV_pk [0, 1] rfl ?_
      exact vX8_isSame_63 x0 x1 M _ h
    · replace h := z_f c56 h
      refine zV_aload_n (j := 0) dX8_isSame_21 rfl rfl ?_
      obtain ⟨g57, h⟩ := zg_of h
      refine zV_getR zf_RX8_131 dX8_isSame_22 rfl g57 ?_
      refine zV_iload_n (j := 2) dX8_isSame_25 rfl rfl ?_
      refine zV_aload_n (j := 0) dX8_isSame_26 rfl rfl ?_
      refine zV_getR zf_RX8_68 dX8_isSame_27 rfl g57 ?_
      refine zV_iload_n (j := 2) dX8_isSame_30 rfl rfl ?_
      obtain ⟨g58, h⟩ := zg_of h
      obtain ⟨g59, h⟩ := zg_of h
      refine zV_iald dX8_isSame_31 g58 g59 ?_
      obtain ⟨g60, h⟩ := zg_of h
      obtain ⟨g61, h⟩ := zg_of h
      refine zV_iast dX8_isSame_32 g60 g61 ?_
      refine zV_mem (fun M62 e63 => ?_)
      replace h := zlet_of h e63
      refine zV_aload_n (j := 0) dX8_isSame_33 rfl rfl ?_
      refine zV_getR zf_RX8_134 dX8_isSame_34 rfl (zkI e63 g57) ?_
      refine zV_iload_n (j := 2) dX8_isSame_37 rfl rfl ?_
      refine zV_aload_n (j := 0) dX8_isSame_38 rfl rfl ?_
      refine zV_getR zf_RX8_71 dX8_isSame_39 rfl (zkI e63 g57) ?_
      refine zV_iload_n (j := 2) dX8_isSame_42 rfl rfl ?_
      obtain ⟨g64, h⟩ := zg_of h
      obtain ⟨g65, h⟩ := zg_of h
      refine zV_iald dX8_isSame_43 g64 g65 ?_
      obtain ⟨g66, h⟩ := zg_of h
      obtain ⟨g67, h⟩ := zg_of h
      refine zV_iast dX8_isSame_44 g66 g67 ?_
      refine zV_mem (fun M68 e69 => ?_)
      replace h := zlet_of h e69
      refine zV_aload_n (j := 0) dX8_isSame_45 rfl rfl ?_
      refine zV_getR zf_RX8_137 dX8_isSame_46 rfl (zkI e69 (zkI e63 g57)) ?_
      refine zV_iload_n (j := 2) dX8_isSame_49 rfl rfl ?_
      refine zV_aload_n (j := 0) dX8_isSame_50 rfl rfl ?_
      refine zV_getR zf_RX8_74 dX8_isSame_51 rfl (zkI e69 (zkI e63 g57)) ?_
      refine zV_iload_n (j := 2) dX8_isSame_54 rfl rfl ?_
      obtain ⟨g70, h⟩ := zg_of h
      obtain ⟨g71, h⟩ := zg_of h
      refine zV_iald dX8_isSame_55 g70 g71 ?_
      obtain ⟨g72, h⟩ := zg_of h
      obtain ⟨g73, h⟩ := zg_of h
      refine zV_iast dX8_isSame_56 g72 g73 ?_
      refine zV_mem (fun M74 e75 => ?_)
      replace h := zlet_of h e75
      obtain ⟨u76, e77⟩ : ∃ y : Int32, y = x2 + 1 := ⟨_, rfl⟩
      replace h := zlet_of h e77
      refine zV_iinc (j := 2) (v := u76) [(2, .int u76), (0, zr b x0), (1, .int x1)] dX8_isSame_57 rfl (by rw [e77]; rfl) (by decide) rfl ?_
      refine zV_goto (tgt := 16) dX8_isSame_60 (by decide) ?_
      refine zV_pk [1, 2, 0] rfl ?_
      exact ih x0 x1 u76 M74 _ h
set_option maxHeartbeats 4000000 in
set_option maxRecDepth 100000 in
theorem vX8_isSame (l : Launch) (D : va_G) (T : Nat → ClassId) (b : Nat) (gr : Bool) (x0 : Nat) (M : zM) (r : Int32) (M' : zM) (h : fX8_isSame x0 M = some (r, M')) : zMet l D T b gr yX8_isSame cX8_isSame 4 (some .boolean) 9 0 0 [zr b x0] M (0, r, M') := by
  refine zEntry2 false (fun h9 => nomatch h9) zp_yX8_isSame ⟨zr_cat _ _, trivial⟩ (Nat.le_of_ble_eq_true rfl) ?_
  obtain ⟨o, ho⟩ : ∃ o : Int32 × zM, o = (r, M') := ⟨_, rfl⟩
  rw [← ho] at h
  rw [show ((0, r, M') : Nat × Int32 × zM) = (0, o.1, o.2) by rw [ho]]
  show zV false l RX8 cX8_isSame 4 (some .boolean) false 9 0 0 D T b gr M.2.2.2 (0, o.1, o.2) 0 0 0 [(0, zr b x0)] [] M
  unfold fX8_isSame at h
  refine zV_aload_n (j := 0) dX8_isSame_0 rfl rfl ?_
  refine zV_iconst (v := 0) dX8_isSame_1 (by decide) ?_
  obtain ⟨g78, h⟩ := zg_of h
  refine zV_putI zf_RX8_143 dX8_isSame_2 rfl rfl g78 ?_
  refine zV_mem (fun M79 e80 => ?_)
  replace h := zlet_of h e80
  refine zV_aload_n (j := 0) dX8_isSame_5 rfl rfl ?_
  obtain ⟨r81, M82, q83, h⟩ := zb_of h
  refine zV_callVv (ci := 8) (As := []) (rest := []) (vX8_forms l D T b gr x0 M79 _ _ q83) zm_yX8_forms zl_RX8_308 zi_yX8_forms ze_yX8_forms zcI8 (zkI e80 g78) rfl rfl (zcs trivial (Nat.le_of_ble_eq_true rfl)) (by decide) (by decide) (by decide) dX8_isSame_6 ?_
  refine zV_aload_n (j := 0) dX8_isSame_9 rfl rfl ?_
  obtain ⟨g84, h⟩ := zg_of h
  refine zV_getI zf_RX8_187 dX8_isSame_10 rfl g84 ?_
  refine zV_top (fun u85 e86 => ?_)
  replace h := zlet_of h e86
  refine zV_istore_n [(1, .int u85), (0, zr b x0)] dX8_isSame_13 rfl (by decide) rfl ?_
  refine zV_iconst (v := 0) dX8_isSame_14 (by decide) ?_
  refine zV_istore_n [(2, .int 0), (1, .int u85), (0, zr b x0)] dX8_isSame_15 rfl (by decide) rfl ?_
  refine zV_pk [2, 1, 0] rfl ?_
  exact vX8_isSame_16 10000 x0 u85 0 M82 _ h
set_option maxHeartbeats 4000000 in
set_option maxRecDepth 100000 in
theorem vX8_isTag (l : Launch) (D : va_G) (T : Nat → ClassId) (b : Nat) (gr : Bool) (x0 : Nat) (x1 : Int32) (M : zM) (r : Int32) (M' : zM) (h : fX8_isTag x0 x1 M = some (r, M')) : zMet l D T b gr yX8_isTag cX8_isTag 2 (some .boolean) 0 0 0 [zr b x0, .int x1] M (0, r, M') := by
  refine zEntry2 false (fun h9 => nomatch h9) zp_yX8_isTag ⟨zr_cat _ _, rfl, trivial⟩ (Nat.le_of_ble_eq_true rfl) ?_
  obtain ⟨o, ho⟩ : ∃ o : Int32 × zM, o = (r, M') := ⟨_, rfl⟩
  rw [← ho] at h
  rw [show ((0, r, M') : Nat × Int32 × zM) = (0, o.1, o.2) by rw [ho]]
  show zV false l RX8 cX8_isTag 2 (some .boolean) false 0 0 0 D T b gr M.2.2.2 (0, o.1, o.2) 0 0 0 [(0, zr b x0), (1, .int x1)] [] M
  unfold fX8_isTag at h
  refine zV_iload_n (j := 1) dX8_isTag_0 rfl rfl ?_
  refine zV_bipush (v := 10) dX8_isTag_1 (by decide) ?_
  refine zV_icmp_ge (tgt := 15) dX8_isTag_3 (by decide) (fun c1 => ?_) (fun c1 => ?_)
  · replace h := z_t c1 h
    refine zV_aload_n (j := 0) dX8_isTag_15 rfl rfl ?_
    obtain ⟨g2, h⟩ := zg_of h
    refine zV_getR zf_RX8_29 dX8_isTag_16 rfl g2 ?_
    refine zV_iload_n (j := 1) dX8_isTag_19 rfl rfl ?_
    refine zV_bipush (v := 10) dX8_isTag_20 (by decide) ?_
    refine zV_isub dX8_isTag_22 ?_
    obtain ⟨g3, h⟩ := zg_of h
    obtain ⟨g4, h⟩ := zg_of h
    refine zV_zald dX8_isTag_23 g3 g4 ?_
    obtain ⟨g5, h⟩ := zg_of h
    exact zV_zret rfl dX8_isTag_24 (by decide) (by decide) g5 (z_ret h)
  · replace h := z_f c1 h
    refine zV_aload_n (j := 0) dX8_isTag_6 rfl rfl ?_
    obtain ⟨g6, h⟩ := zg_of h
    refine zV_getR zf_RX8_25 dX8_isTag_7 rfl g6 ?_
    refine zV_iload_n (j := 1) dX8_isTag_10 rfl rfl ?_
    obtain ⟨g7, h⟩ := zg_of h
    obtain ⟨g8, h⟩ := zg_of h
    refine zV_zald dX8_isTag_11 g7 g8 ?_
    refine zV_goto (tgt := 24) dX8_isTag_12 (by decide) ?_
    obtain ⟨g9, h⟩ := zg_of h
    exact zV_zret rfl dX8_isTag_24 (by decide) (by decide) g9 (z_ret h)
set_option maxHeartbeats 4000000 in
set_option maxRecDepth 100000 in
theorem vX8_adds (l : Launch) (D : va_G) (T : Nat → ClassId) (b : Nat) (gr : Bool) (x0 : Nat) (x1 : Int32) (x2 : Int32) (M : zM) (r : Int32) (M' : zM) (h : fX8_adds x0 x1 x2 M = some (r, M')) : zMet l D T b gr yX8_adds cX8_adds 3 none 0 0 0 [zr b x0, .int x1, .int x2] M (0, r, M') := by
  refine zEntry2 false (fun h9 => nomatch h9) zp_yX8_adds ⟨zr_cat _ _, rfl, rfl, trivial⟩ (Nat.le_of_ble_eq_true rfl) ?_
  obtain ⟨o, ho⟩ : ∃ o : Int32 × zM, o = (r, M') := ⟨_, rfl⟩
  rw [← ho] at h
  rw [show ((0, r, M') : Nat × Int32 × zM) = (0, o.1, o.2) by rw [ho]]
  show zV false l RX8 cX8_adds 3 none false 0 0 0 D T b gr M.2.2.2 (0, o.1, o.2) 0 0 0 [(0, zr b x0), (1, .int x1), (2, .int x2)] [] M
  unfold fX8_adds at h
  refine zV_aload_n (j := 0) dX8_adds_0 rfl rfl ?_
  obtain ⟨g1, h⟩ := zg_of h
  refine zV_getR zf_RX8_50 dX8_adds_1 rfl g1 ?_
  refine zV_aload_n (j := 0) dX8_adds_4 rfl rfl ?_
  refine zV_getI zf_RX8_243 dX8_adds_5 rfl g1 ?_
  refine zV_iload_n (j := 1) dX8_adds_8 rfl rfl ?_
  obtain ⟨g2, h⟩ := zg_of h
  obtain ⟨g3, h⟩ := zg_of h
  refine zV_iast dX8_adds_9 g2 g3 ?_
  refine zV_mem (fun M4 e5 => ?_)
  replace h := zlet_of h e5
  refine zV_aload_n (j := 0) dX8_adds_10 rfl rfl ?_
  refine zV_getR zf_RX8_53 dX8_adds_11 rfl (zkI e5 g1) ?_
  refine zV_aload_n (j := 0) dX8_adds_14 rfl rfl ?_
  refine zV_getI zf_RX8_243 dX8_adds_15 rfl (zkI e5 g1) ?_
  refine zV_iload_n (j := 2) dX8_adds_18 rfl rfl ?_
  obtain ⟨g6, h⟩ := zg_of h
  obtain ⟨g7, h⟩ := zg_of h
  refine zV_iast dX8_adds_19 g6 g7 ?_
  refine zV_mem (fun M8 e9 => ?_)
  replace h := zlet_of h e9
  refine zV_aload_n (j := 0) dX8_adds_20 rfl rfl ?_
  refine zV_dup dX8_adds_21 (zr_cat _ _) ?_
  refine zV_getI zf_RX8_243 dX8_adds_22 rfl (zkI e9 (zkI e5 g1)) ?_
  refine zV_iconst (v := 1) dX8_adds_25 (by decide) ?_
  refine zV_iadd dX8_adds_26 ?_
  refine zV_putI zf_RX8_243 dX8_adds_27 rfl rfl (zkI e9 (zkI e5 g1)) ?_
  refine zV_mem (fun M10 e11 => ?_)
  replace h := zlet_of h e11
  exact zV_vret (x := 0) rfl dX8_adds_30 (by decide) (by decide) (z_ret h)
set_option maxHeartbeats 4000000 in
set_option maxRecDepth 100000 in
theorem vX8_isWay_99 {l : Launch} {D : va_G} {T : Nat → ClassId} {b : Nat} {gr : Bool} {n0 : Nat} (x0 : Nat) (M : zM) (o : Int32 × zM) (h : fX8_isWay_99 x0 M = some o) : zV false l RX8 cX8_isWay 6 (some .boolean) false 8 0 0 D T b gr n0 (0, o.1, o.2) 0 0 99 [(0, zr b x0)] [] M := by
  unfold fX8_isWay_99 at h
  refine zV_aload_n (j := 0) dX8_isWay_99 rfl rfl ?_
  obtain ⟨g1, h⟩ := zg_of h
  obtain ⟨r2, M3, q4, h⟩ := zb_of h
  refine zV_callVv (ci := 8) (As := []) (rest := []) (vX8_readsRow l D T b gr x0 M _ _ q4) zm_yX8_readsRow zl_RX8_290 zi_yX8_readsRow ze_yX8_readsRow zcI8 g1 rfl rfl (zcs trivial (Nat.le_of_ble_eq_true rfl)) (by decide) (by decide) (by decide) dX8_isWay_100 ?_
  refine zV_aload_n (j := 0) dX8_isWay_103 rfl rfl ?_
  obtain ⟨g5, h⟩ := zg_of h
  obtain ⟨r6, M7, q8, h⟩ := zb_of h
  refine zV_callVi (ci := 8) (As := []) (rest := []) (vX8_isClean l D T b gr x0 M3 _ _ q8) zm_yX8_isClean zl_RX8_317 zi_yX8_isClean ze_yX8_isClean zcI8 g5 rfl rfl (zcs trivial (Nat.le_of_ble_eq_true rfl)) (by decide) (by decide) (by decide) dX8_isWay_104 ?_
  obtain ⟨g9, h⟩ := zg_of h
  exact zV_zret rfl dX8_isWay_107 (by decide) (by decide) g9 (z_ret h)
set_option maxHeartbeats 4000000 in
set_option maxRecDepth 100000 in
theorem vX8_isWay_93 {l : Launch} {D : va_G} {T : Nat → ClassId} {b : Nat} {gr : Bool} {n0 : Nat} (k8 : Nat → Int32 → Int32 → Int32 → Int32 → Int32 → zM → Option (Int32 × zM)) (hk8 : ∀ (z0 : Nat) (z1 : Int32) (z2 : Int32) (z3 : Int32) (z4 : Int32) (z5 : Int32) (N : zM) (o : Int32 × zM), k8 z0 z1 z2 z3 z4 z5 N = some o → zV false l RX8 cX8_isWay 6 (some .boolean) false 8 0 0 D T b gr n0 (0, o.1, o.2) 0 0 8 [(0, zr b z0), (1, .int z1), (2, .int z2), (3, .int z3), (4, .int z4), (5, .int z5)] [] N) (x0 : Nat) (x1 : Int32) (x2 : Int32) (x3 : Int32) (x4 : Int32) (x5 : Int32) (M : zM) (o : Int32 × zM) (h : fX8_isWay_93 k8 x0 x1 x2 x3 x4 x5 M = some o) : zV false l RX8 cX8_isWay 6 (some .boolean) false 8 0 0 D T b gr n0 (0, o.1, o.2) 0 0 93 [(0, zr b x0), (1, .int x1), (2, .int x2), (3, .int x3), (4, .int x4), (5, .int x5)] [] M := by
  unfold fX8_isWay_93 at h
  obtain ⟨u10, e11⟩ : ∃ y : Int32, y = x5 + 1 := ⟨_, rfl⟩
  replace h := zlet_of h e11
  refine zV_iinc (j := 5) (v := u10) [(5, .int u10), (0, zr b x0), (1, .int x1), (2, .int x2), (3, .int x3), (4, .int x4)] dX8_isWay_93 rfl (by rw [e11]; rfl) (by decide) rfl ?_
  refine zV_goto (tgt := 8) dX8_isWay_96 (by decide) ?_
  refine zV_pk [1, 2, 3, 4, 5, 0] rfl ?_
  exact hk8 x0 x1 x2 x3 x4 u10 M _ h
set_option maxHeartbeats 4000000 in
set_option maxRecDepth 100000 in
theorem vX8_isWay_66 {l : Launch} {D : va_G} {T : Nat → ClassId} {b : Nat} {gr : Bool} {n0 : Nat} (k8 : Nat → Int32 → Int32 → Int32 → Int32 → Int32 → zM → Option (Int32 × zM)) (hk8 : ∀ (z0 : Nat) (z1 : Int32) (z2 : Int32) (z3 : Int32) (z4 : Int32) (z5 : Int32) (N : zM) (o : Int32 × zM), k8 z0 z1 z2 z3 z4 z5 N = some o → zV false l RX8 cX8_isWay 6 (some .boolean) false 8 0 0 D T b gr n0 (0, o.1, o.2) 0 0 8 [(0, zr b z0), (1, .int z1), (2, .int z2), (3, .int z3), (4, .int z4), (5, .int z5)] [] N) (x0 : Nat) (x1 : Int32) (x2 : Int32) (x3 : Int32) (x4 : Int32) (x5 : Int32) (M : zM) (o : Int32 × zM) (h : fX8_isWay_66 k8 x0 x1 x2 x3 x4 x5 M = some o) : zV false l RX8 cX8_isWay 6 (some .boolean) false 8 0 0 D T b gr n0 (0, o.1, o.2) 0 0 66 [(0, zr b x0), (1, .int x1), (2, .int x2), (3, .int x3), (4, .int x4), (5, .int x5)] [] M := by
  unfold fX8_isWay_66 at h
  refine zV_iload (j := 5) dX8_isWay_66 rfl ?_
  refine zV_aload_n (j := 0) dX8_isWay_68 rfl rfl ?_
  obtain ⟨g12, h⟩ := zg_of h
  refine zV_getI zf_RX8_174 dX8_isWay_69 rfl g12 ?_
  refine zV_icmp_ge (tgt := 93) dX8_isWay_72 (by decide) (fun c13 => ?_) (fun c13 => ?_)
  · replace h := z_t c13 h
    exact vX8_isWay_93 k8 hk8 x0 x1 x2 x3 x4 x5 M _ h
  · replace h := z_f c13 h
    refine zV_aload_n (j := 0) dX8_isWay_75 rfl rfl ?_
    refine zV_aload_n (j := 0) dX8_isWay_76 rfl rfl ?_
    refine zV_getR zf_RX8_44 dX8_isWay_77 rfl g12 ?_
    refine zV_iload (j := 5) dX8_isWay_80 rfl ?_
    obtain ⟨g14, h⟩ := zg_of h
    obtain ⟨g15, h⟩ := zg_of h
    refine zV_iald dX8_isWay_82 g14 g15 ?_
    refine zV_aload_n (j := 0) dX8_isWay_83 rfl rfl ?_
    refine zV_getR zf_RX8_47 dX8_isWay_84 rfl g12 ?_
    refine zV_iload (j := 5) dX8_isWay_87 rfl ?_
    obtain ⟨g16, h⟩ := zg_of h
    obtain ⟨g17, h⟩ := zg_of h
    refine zV_iald dX8_isWay_89 g16 g17 ?_
    obtain ⟨r18, M19, q20, h⟩ := zb_of h
    refine zV_callVv (ci := 8) (As := [.int (zI M (zR M x0 11) x5.toNatClampNeg), .int (zI M (zR M x0 12) x5.toNatClampNeg)]) (rest := []) (vX8_adds l D T b gr x0 (zI M (zR M x0 11) x5.toNatClampNeg) (zI M (zR M x0 12) x5.toNatClampNeg) M _ _ q20) zm_yX8_adds zl_RX8_320 zi_yX8_adds ze_yX8_adds zcI8 g12 rfl rfl (zcs trivial (Nat.le_of_ble_eq_true rfl)) (by decide) (by decide) (by decide) dX8_isWay_90 ?_
    exact vX8_isWay_93 k8 hk8 x0 x1 x2 x3 x4 x5 M19 _ h
set_option maxHeartbeats 4000000 in
set_option maxRecDepth 100000 in
theorem vX8_isWay_40 {l : Launch} {D : va_G} {T : Nat → ClassId} {b : Nat} {gr : Bool} {n0 : Nat} (k8 : Nat → Int32 → Int32 → Int32 → Int32 → Int32 → zM → Option (Int32 × zM)) (hk8 : ∀ (z0 : Nat) (z1 : Int32) (z2 : Int32) (z3 : Int32) (z4 : Int32) (z5 : Int32) (N : zM) (o : Int32 × zM), k8 z0 z1 z2 z3 z4 z5 N = some o → zV false l RX8 cX8_isWay 6 (some .boolean) false 8 0 0 D T b gr n0 (0, o.1, o.2) 0 0 8 [(0, zr b z0), (1, .int z1), (2, .int z2), (3, .int z3), (4, .int z4), (5, .int z5)] [] N) (x0 : Nat) (x1 : Int32) (x2 : Int32) (x3 : Int32) (x4 : Int32) (x5 : Int32) (M : zM) (o : Int32 × zM) (h : fX8_isWay_40 k8 x0 x1 x2 x3 x4 x5 M = some o) : zV false l RX8 cX8_isWay 6 (some .boolean) false 8 0 0 D T b gr n0 (0, o.1, o.2) 0 0 40 [(0, zr b x0), (1, .int x1), (2, .int x2), (3, .int x3), (4, .int x4), (5, .int x5)] [] M := by
  unfold fX8_isWay_40 at h
  refine zV_iload (j := 4) dX8_isWay_40 rfl ?_
  refine zV_iconst (v := (-1)) dX8_isWay_42 (by decide) ?_
  refine zV_icmp_eq (tgt := 66) dX8_isWay_43 (by decide) (fun c21 => ?_) (fun c21 => ?_)
  · replace h := z_t c21 h
    exact vX8_isWay_66 k8 hk8 x0 x1 x2 x3 x4 x5 M _ h
  · replace h := z_f c21 h
    refine zV_iload_n (j := 3) dX8_isWay_46 rfl rfl ?_
    refine zV_iload (j := 5) dX8_isWay_47 rfl ?_
    refine zV_icmp_ne (tgt := 66) dX8_isWay_49 (by decide) (fun c22 => ?_) (fun c22 => ?_)
    · replace h := z_f c22 h
      exact vX8_isWay_66 k8 hk8 x0 x1 x2 x3 x4 x5 M _ h
    · replace h := z_t c22 h
      refine zV_aload_n (j := 0) dX8_isWay_52 rfl rfl ?_
      refine zV_iload (j := 4) dX8_isWay_53 rfl ?_
      refine zV_bipush (v := 10) dX8_isWay_55 (by decide) ?_
      refine zV_idiv dX8_isWay_57 (by decide) ?_
      refine zV_iload (j := 4) dX8_isWay_58 rfl ?_
      refine zV_bipush (v := 10) dX8_isWay_60 (by decide) ?_
      refine zV_irem dX8_isWay_62 (by decide) ?_
      obtain ⟨g23, h⟩ := zg_of h
      obtain ⟨r24, M25, q26, h⟩ := zb_of h
      refine zV_callVv (ci := 8) (As := [.int (x4 / 10), .int (x4 - x4 / 10 * 10)]) (rest := []) (vX8_adds l D T b gr x0 (x4 / 10) (x4 - x4 / 10 * 10) M _ _ q26) zm_yX8_adds zl_RX8_320 zi_yX8_adds ze_yX8_adds zcI8 g23 rfl rfl (zcs trivial (Nat.le_of_ble_eq_true rfl)) (by decide) (by decide) (by decide) dX8_isWay_63 ?_
      exact vX8_isWay_66 k8 hk8 x0 x1 x2 x3 x4 x5 M25 _ h
set_option maxHeartbeats 4000000 in
set_option maxRecDepth 100000 in
theorem vX8_isWay_8 {l : Launch} {D : va_G} {T : Nat → ClassId} {b : Nat} {gr : Bool} {n0 : Nat} : ∀ (n : Nat) (x0 : Nat) (x1 : Int32) (x2 : Int32) (x3 : Int32) (x4 : Int32) (x5 : Int32) (M : zM) (o : Int32 × zM), fX8_isWay_8 n x0 x1 x2 x3 x4 x5 M = some o → zV false l RX8 cX8_isWay 6 (some .boolean) false 8 0 0 D T b gr n0 (0, o.1, o.2) 0 0 8 [(0, zr b x0), (1, .int x1), (2, .int x2), (3, .int x3), (4, .int x4), (5, .int x5)] [] M := by
  intro n
  induction n with
  | zero =>
    intro x0 x1 x2 x3 x4 x5 M o h
    rw [fX8_isWay_8] at h
    cases h
  | succ n ih =>
    intro x0 x1 x2 x3 x4 x5 M o h
    rw [fX8_isWay_8] at h
    refine zV_iload (j := 5) dX8_isWay_8 rfl ?_
    refine zV_aload_n (j := 0) dX8_isWay_10 rfl rfl ?_
    obtain ⟨g27, h⟩ := zg_of h
    refine zV_getI zf_RX8_174 dX8_isWay_11 rfl g27 ?_
    refine zV_icmp_gt (tgt := 99) dX8_isWay_14 (by decide) (fun c28 => ?_) (fun c28 => ?_)
    · replace h := z_t c28 h
      refine zV_pk [0] rfl ?_
      exact vX8_isWay_99 x0 M _ h
    · replace h := z_f c28 h
      refine zV_iload_n (j := 2) dX8_isWay_17 rfl rfl ?_
      refine zV_iconst (v := (-1)) dX8_isWay_18 (by decide) ?_
      refine zV_icmp_eq (tgt := 40) dX8_isWay_19 (by decide) (fun c29 => ?_) (fun c29 => ?_)
      · replace h := z_t c29 h
        exact vX8_isWay_40 (fX8_isWay_8 n) ih x0 x1 x2 x3 x4 x5 M _ h
      · replace h := z_f c29 h
        refine zV_iload_n (j := 1) dX8_isWay_22 rfl rfl ?_
        refine zV_iload (j := 5) dX8_isWay_23 rfl ?_
        refine zV_icmp_ne (tgt := 40) dX8_isWay_25 (by decide) (fun c30 => ?_) (fun c30 => ?_)
        · replace h := z_f c30 h
          exact vX8_isWay_40 (fX8_isWay_8 n) ih x0 x1 x2 x3 x4 x5 M _ h
        · replace h := z_t c30 h
          refine zV_aload_n (j := 0) dX8_isWay_28 rfl rfl ?_
          refine zV_iload_n (j := 2) dX8_isWay_29 rfl rfl ?_
          refine zV_bipush (v := 10) dX8_isWay_30 (by decide) ?_
          refine zV_idiv dX8_isWay_32 (by decide) ?_
          refine zV_iload_n (j := 2) dX8_isWay_33 rfl rfl ?_
          refine zV_bipush (v := 10) dX8_isWay_34 (by decide) ?_
          refine zV_irem dX8_isWay_36 (by decide) ?_
          obtain ⟨r31, M32, q33, h⟩ := zb_of h
          refine zV_callVv (ci := 8) (As := [.int (x2 / 10), .int (x2 - x2 / 10 * 10)]) (rest := []) (vX8_adds l D T b gr x0 (x2 / 10) (x2 - x2 / 10 * 10) M _ _ q33) zm_yX8_adds zl_RX8_320 zi_yX8_adds ze_yX8_adds zcI8 g27 rfl rfl (zcs trivial (Nat.le_of_ble_eq_true rfl)) (by decide) (by decide) (by decide) dX8_isWay_37 ?_
          exact vX8_isWay_40 (fX8_isWay_8 n) ih x0 x1 x2 x3 x4 x5 M32 _ h
set_option maxHeartbeats 4000000 in
set_option maxRecDepth 100000 in
theorem vX8_isWay (l : Launch) (D : va_G) (T : Nat → ClassId) (b : Nat) (gr : Bool) (x0 : Nat) (x1 : Int32) (x2 : Int32) (x3 : Int32) (x4 : Int32) (M : zM) (r : Int32) (M' : zM) (h : fX8_isWay x0 x1 x2 x3 x4 M = some (r, M')) : zMet l D T b gr yX8_isWay cX8_isWay 6 (some .boolean) 8 0 0 [zr b x0, .int x1, .int x2, .int x3, .int x4] M (0, r, M') := by
  refine zEntry2 false (fun h9 => nomatch h9) zp_yX8_isWay ⟨zr_cat _ _, rfl, rfl, rfl, rfl, trivial⟩ (Nat.le_of_ble_eq_true rfl) ?_
  obtain ⟨o, ho⟩ : ∃ o : Int32 × zM, o = (r, M') := ⟨_, rfl⟩
  rw [← ho] at h
  rw [show ((0, r, M') : Nat × Int32 × zM) = (0, o.1, o.2) by rw [ho]]
  show zV false l RX8 cX8_isWay 6 (some .boolean) false 8 0 0 D T b gr M.2.2.2 (0, o.1, o.2) 0 0 0 [(0, zr b x0), (1, .int x1), (2, .int x2), (3, .int x3), (4, .int x4)] [] M
  unfold fX8_isWay at h
  refine zV_aload_n (j := 0) dX8_isWay_0 rfl rfl ?_
  refine zV_iconst (v := 0) dX8_isWay_1 (by decide) ?_
  obtain ⟨g34, h⟩ := zg_of h
  refine zV_putI zf_RX8_243 dX8_isWay_2 rfl rfl g34 ?_
  refine zV_mem (fun M35 e36 => ?_)
  replace h := zlet_of h e36
  refine zV_iconst (v := 0) dX8_isWay_5 (by decide) ?_
  refine zV_istore [(5, .int 0), (0, zr b x0), (1, .int x1), (2, .int x2), (3, .int x3), (4, .int x4)] dX8_isWay_6 (by decide) rfl ?_
  refine zV_pk [1, 2, 3, 4, 5, 0] rfl ?_
  exact vX8_isWay_8 10000 x0 x1 x2 x3 x4 0 M35 _ h
set_option maxHeartbeats 4000000 in
set_option maxRecDepth 100000 in
theorem vX8_countWays_156 {l : Launch} {D : va_G} {T : Nat → ClassId} {b : Nat} {gr : Bool} {n0 : Nat} (k19 : Nat → Int32 → Int32 → zM → Option (Int32 × zM)) (hk19 : ∀ (z0 : Nat) (z1 : Int32) (z2 : Int32) (N : zM) (o : Int32 × zM), k19 z0 z1 z2 N = some o → zV false l RX8 cX8_countWays 5 (some .int) false 9 0 0 D T b gr n0 (0, o.1, o.2) 0 0 19 [(0, zr b z0), (1, .int z1), (2, .int z2)] [] N) (x0 : Nat) (x1 : Int32) (x2 : Int32) (M : zM) (o : Int32 × zM) (h : fX8_countWays_156 k19 x0 x1 x2 M = some o) : zV false l RX8 cX8_countWays 5 (some .int) false 9 0 0 D T b gr n0 (0, o.1, o.2) 0 0 156 [(0, zr b x0), (1, .int x1), (2, .int x2)] [] M := by
  unfold fX8_countWays_156 at h
  obtain ⟨u1, e2⟩ : ∃ y : Int32, y = x2 + 1 := ⟨_, rfl⟩
  replace h := zlet_of h e2
  refine zV_iinc (j := 2) (v := u1) [(2, .int u1), (0, zr b x0), (1, .int x1)] dX8_countWays_156 rfl (by rw [e2]; rfl) (by decide) rfl ?_
  refine zV_goto (tgt := 19) dX8_countWays_159 (by decide) ?_
  refine zV_pk [1, 2, 0] rfl ?_
  exact hk19 x0 x1 u1 M _ h
set_option maxHeartbeats 4000000 in
set_option maxRecDepth 100000 in
theorem vX8_countWays_150 {l : Launch} {D : va_G} {T : Nat → ClassId} {b : Nat} {gr : Bool} {n0 : Nat} (k19 : Nat → Int32 → Int32 → zM → Option (Int32 × zM)) (hk19 : ∀ (z0 : Nat) (z1 : Int32) (z2 : Int32) (N : zM) (o : Int32 × zM), k19 z0 z1 z2 N = some o → zV false l RX8 cX8_countWays 5 (some .int) false 9 0 0 D T b gr n0 (0, o.1, o.2) 0 0 19 [(0, zr b z0), (1, .int z1), (2, .int z2)] [] N) (k29 : Nat → Int32 → Int32 → Int32 → zM → Option (Int32 × zM)) (hk29 : ∀ (z0 : Nat) (z1 : Int32) (z2 : Int32) (z3 : Int32) (N : zM) (o : Int32 × zM), k29 z0 z1 z2 z3 N = some o → zV false l RX8 cX8_countWays 5 (some .int) false 9 0 0 D T b gr n0 (0, o.1, o.2) 0 0 29 [(0, zr b z0), (1, .int z1), (2, .int z2), (3, .int z3)] [] N) (x0 : Nat) (x1 : Int32) (x2 : Int32) (x3 : Int32) (M : zM) (o : Int32 × zM) (h : fX8_countWays_150 k19 k29 x0 x1 x2 x3 M = some o) : zV false l RX8 cX8_countWays 5 (some .int) false 9 0 0 D T b gr n0 (0, o.1, o.2) 0 0 150 [(0, zr b x0), (1, .int x1), (2, .int x2), (3, .int x3)] [] M := by
  unfold fX8_countWays_150 at h
  obtain ⟨u3, e4⟩ : ∃ y : Int32, y = x3 + 1 := ⟨_, rfl⟩
  replace h := zlet_of h e4
  refine zV_iinc (j := 3) (v := u3) [(3, .int u3), (0, zr b x0), (1, .int x1), (2, .int x2)] dX8_countWays_150 rfl (by rw [e4]; rfl) (by decide) rfl ?_
  refine zV_goto (tgt := 29) dX8_countWays_153 (by decide) ?_
  refine zV_pk [1, 2, 3, 0] rfl ?_
  exact hk29 x0 x1 x2 u3 M _ h
set_option maxHeartbeats 4000000 in
set_option maxRecDepth 100000 in
theorem vX8_countWays_142 {l : Launch} {D : va_G} {T : Nat → ClassId} {b : Nat} {gr : Bool} {n0 : Nat} (k19 : Nat → Int32 → Int32 → zM → Option (Int32 × zM)) (hk19 : ∀ (z0 : Nat) (z1 : Int32) (z2 : Int32) (N : zM) (o : Int32 × zM), k19 z0 z1 z2 N = some o → zV false l RX8 cX8_countWays 5 (some .int) false 9 0 0 D T b gr n0 (0, o.1, o.2) 0 0 19 [(0, zr b z0), (1, .int z1), (2, .int z2)] [] N) (k29 : Nat → Int32 → Int32 → Int32 → zM → Option (Int32 × zM)) (hk29 : ∀ (z0 : Nat) (z1 : Int32) (z2 : Int32) (z3 : Int32) (N : zM) (o : Int32 × zM), k29 z0 z1 z2 z3 N = some o → zV false l RX8 cX8_countWays 5 (some .int) false 9 0 0 D T b gr n0 (0, o.1, o.2) 0 0 29 [(0, zr b z0), (1, .int z1), (2, .int z2), (3, .int z3)] [] N) (k75 : Nat → Int32 → Int32 → Int32 → Int32 → zM → Option (Int32 × zM)) (hk75 : ∀ (z0 : Nat) (z1 : Int32) (z2 : Int32) (z3 : Int32) (z4 : Int32) (N : zM) (o : Int32 × zM), k75 z0 z1 z2 z3 z4 N = some o → zV false l RX8 cX8_countWays 5 (some .int) false 9 0 0 D T b gr n0 (0, o.1, o.2) 0 0 75 [(0, zr b z0), (1, .int z1), (2, .int z2), (3, .int z3), (4, .int z4)] [] N) (x0 : Nat) (x2 : Int32) (x3 : Int32) (x4 : Int32) (s0 : Int32) (s1 : Int32) (M : zM) (o : Int32 × zM) (h : fX8_countWays_142 k19 k29 k75 x0 x2 x3 x4 s0 s1 M = some o) : zV false l RX8 cX8_countWays 5 (some .int) false 9 0 0 D T b gr n0 (0, o.1, o.2) 0 0 142 [(0, zr b x0), (2, .int x2), (3, .int x3), (4, .int x4)] [.int s1, .int s0] M := by
  unfold fX8_countWays_142 at h
  refine zV_iadd dX8_countWays_142 ?_
  refine zV_top (fun u5 e6 => ?_)
  replace h := zlet_of h e6
  refine zV_istore_n [(1, .int u5), (0, zr b x0), (2, .int x2), (3, .int x3), (4, .int x4)] dX8_countWays_143 rfl (by decide) rfl ?_
  obtain ⟨u7, e8⟩ : ∃ y : Int32, y = x4 + 1 := ⟨_, rfl⟩
  replace h := zlet_of h e8
  refine zV_iinc (j := 4) (v := u7) [(4, .int u7), (1, .int u5), (0, zr b x0), (2, .int x2), (3, .int x3)] dX8_countWays_144 rfl (by rw [e8]; rfl) (by decide) rfl ?_
  refine zV_goto (tgt := 75) dX8_countWays_147 (by decide) ?_
  refine zV_pk [2, 1, 3, 4, 0] rfl ?_
  exact hk75 x0 u5 x2 x3 u7 M _ h
set_option maxHeartbeats 4000000 in
set_option maxRecDepth 100000 in
theorem vX8_countWays_141 {l : Launch} {D : va_G} {T : Nat → ClassId} {b : Nat} {gr : Bool} {n0 : Nat} (k19 : Nat → Int32 → Int32 → zM → Option (Int32 × zM)) (hk19 : ∀ (z0 : Nat) (z1 : Int32) (z2 : Int32) (N : zM) (o : Int32 × zM), k19 z0 z1 z2 N = some o → zV false l RX8 cX8_countWays 5 (some .int) false 9 0 0 D T b gr n0 (0, o.1, o.2) 0 0 19 [(0, zr b z0), (1, .int z1), (2, .int z2)] [] N) (k29 : Nat → Int32 → Int32 → Int32 → zM → Option (Int32 × zM)) (hk29 : ∀ (z0 : Nat) (z1 : Int32) (z2 : Int32) (z3 : Int32) (N : zM) (o : Int32 × zM), k29 z0 z1 z2 z3 N = some o → zV false l RX8 cX8_countWays 5 (some .int) false 9 0 0 D T b gr n0 (0, o.1, o.2) 0 0 29 [(0, zr b z0), (1, .int z1), (2, .int z2), (3, .int z3)] [] N) (k75 : Nat → Int32 → Int32 → Int32 → Int32 → zM → Option (Int32 × zM)) (hk75 : ∀ (z0 : Nat) (z1 : Int32) (z2 : Int32) (z3 : Int32) (z4 : Int32) (N : zM) (o : Int32 × zM), k75 z0 z1 z2 z3 z4 N = some o → zV false l RX8 cX8_countWays 5 (some .int) false 9 0 0 D T b gr n0 (0, o.1, o.2) 0 0 75 [(0, zr b z0), (1, .int z1), (2, .int z2), (3, .int z3), (4, .int z4)] [] N) (x0 : Nat) (x2 : Int32) (x3 : Int32) (x4 : Int32) (s0 : Int32) (M : zM) (o : Int32 × zM) (h : fX8_countWays_141 k19 k29 k75 x0 x2 x3 x4 s0 M = some o) : zV false l RX8 cX8_countWays 5 (some .int) false 9 0 0 D T b gr n0 (0, o.1, o.2) 0 0 141 [(0, zr b x0), (2, .int x2), (3, .int x3), (4, .int x4)] [.int s0] M := by
  unfold fX8_countWays_141 at h
  refine zV_iconst (v := 0) dX8_countWays_141 (by decide) ?_
  exact vX8_countWays_142 k19 hk19 k29 hk29 k75 hk75 x0 x2 x3 x4 s0 0 M _ h
set_option maxHeartbeats 4000000 in
set_option maxRecDepth 100000 in
theorem vX8_countWays_75 {l : Launch} {D : va_G} {T : Nat → ClassId} {b : Nat} {gr : Bool} {n0 : Nat} (k19 : Nat → Int32 → Int32 → zM → Option (Int32 × zM)) (hk19 : ∀ (z0 : Nat) (z1 : Int32) (z2 : Int32) (N : zM) (o : Int32 × zM), k19 z0 z1 z2 N = some o → zV false l RX8 cX8_countWays 5 (some .int) false 9 0 0 D T b gr n0 (0, o.1, o.2) 0 0 19 [(0, zr b z0), (1, .int z1), (2, .int z2)] [] N) (k29 : Nat → Int32 → Int32 → Int32 → zM → Option (Int32 × zM)) (hk29 : ∀ (z0 : Nat) (z1 : Int32) (z2 : Int32) (z3 : Int32) (N : zM) (o : Int32 × zM), k29 z0 z1 z2 z3 N = some o → zV false l RX8 cX8_countWays 5 (some .int) false 9 0 0 D T b gr n0 (0, o.1, o.2) 0 0 29 [(0, zr b z0), (1, .int z1), (2, .int z2), (3, .int z3)] [] N) : ∀ (n : Nat) (x0 : Nat) (x1 : Int32) (x2 : Int32) (x3 : Int32) (x4 : Int32) (M : zM) (o : Int32 × zM), fX8_countWays_75 k19 k29 n x0 x1 x2 x3 x4 M = some o → zV false l RX8 cX8_countWays 5 (some .int) false 9 0 0 D T b gr n0 (0, o.1, o.2) 0 0 75 [(0, zr b x0), (1, .int x1), (2, .int x2), (3, .int x3), (4, .int x4)] [] M := by
  intro n
  induction n with
  | zero =>
    intro x0 x1 x2 x3 x4 M o h
    rw [fX8_countWays_75] at h
    cases h
  | succ n ih =>
    intro x0 x1 x2 x3 x4 M o h
    rw [fX8_countWays_75] at h
    refine zV_iload (j := 4) dX8_countWays_75 rfl ?_
    refine zV_bipush (v := 20) dX8_countWays_77 (by decide) ?_
    refine zV_aload_n (j := 0) dX8_countWays_79 rfl rfl ?_
    obtain ⟨g9, h⟩ := zg_of h
    refine zV_getI zf_RX8_174 dX8_countWays_80 rfl g9 ?_
    refine zV_imul dX8_countWays_83 ?_
    refine zV_bipush (v := 20) dX8_countWays_84 (by decide) ?_
    refine zV_iadd dX8_countWays_86 ?_
    refine zV_icmp_ge (tgt := 150) dX8_countWays_87 (by decide) (fun c10 => ?_) (fun c10 => ?_)
    · replace h := z_t c10 h
      refine zV_pk [0, 1, 2, 3] rfl ?_
      exact vX8_countWays_150 k19 hk19 k29 hk29 x0 x1 x2 x3 M _ h
    · replace h := z_f c10 h
      refine zV_aload_n (j := 0) dX8_countWays_90 rfl rfl ?_
      refine zV_iload_n (j := 3) dX8_countWays_91 rfl rfl ?_
      obtain ⟨r11, M12, q13, h⟩ := zb_of h
      refine zV_callVi (ci := 8) (As := [.int x3]) (rest := []) (vX8_isTag l D T b gr x0 x3 M _ _ q13) zm_yX8_isTag zl_RX8_327 zi_yX8_isTag ze_yX8_isTag zcI8 g9 rfl rfl (zcs trivial (Nat.le_of_ble_eq_true rfl)) (by decide) (by decide) (by decide) dX8_countWays_92 ?_
      refine zV_if_eq (tgt := 150) dX8_countWays_95 (by decide) (fun c14 => ?_) (fun c14 => ?_)
      · replace h := z_t c14 h
        refine zV_pk [0, 1, 2, 3] rfl ?_
        exact vX8_countWays_150 k19 hk19 k29 hk29 x0 x1 x2 x3 M12 _ h
      · replace h := z_f c14 h
        refine zV_iload_n (j := 1) dX8_countWays_98 rfl rfl ?_
        refine zV_sipush (v := 1000) dX8_countWays_99 (by decide) ?_
        refine zV_icmp_ge (tgt := 150) dX8_countWays_102 (by decide) (fun c15 => ?_) (fun c15 => ?_)
        · replace h := z_t c15 h
          refine zV_pk [0, 1, 2, 3] rfl ?_
          exact vX8_countWays_150 k19 hk19 k29 hk29 x0 x1 x2 x3 M12 _ h
        · replace h := z_f c15 h
          refine zV_iload_n (j := 1) dX8_countWays_105 rfl rfl ?_
          refine zV_aload_n (j := 0) dX8_countWays_106 rfl rfl ?_
          refine zV_iload (j := 4) dX8_countWays_107 rfl ?_
          refine zV_bipush (v := 20) dX8_countWays_109 (by decide) ?_
          refine zV_irem dX8_countWays_111 (by decide) ?_
          obtain ⟨g16, h⟩ := zg_of h
          obtain ⟨r17, M18, q19, h⟩ := zb_of h
          refine zV_callVi (ci := 8) (As := [.int (x4 - x4 / 20 * 20)]) (rest := [.int x1]) (vX8_isTag l D T b gr x0 (x4 - x4 / 20 * 20) M12 _ _ q19) zm_yX8_isTag zl_RX8_327 zi_yX8_isTag ze_yX8_isTag zcI8 g16 rfl rfl (zcs ⟨rfl, trivial⟩ (Nat.le_of_ble_eq_true rfl)) (by decide) (by decide) (by decide) dX8_countWays_112 ?_
          refine zV_if_eq (tgt := 141) dX8_countWays_115 (by decide) (fun c20 => ?_) (fun c20 => ?_)
          · replace h := z_t c20 h
            refine zV_pk [0, 2, 3, 4] rfl ?_
            exact vX8_countWays_141 k19 hk19 k29 hk29 (fX8_countWays_75 k19 k29 n) ih x0 x2 x3 x4 x1 M18 _ h
          · replace h := z_f c20 h
            refine zV_aload_n (j := 0) dX8_countWays_118 rfl rfl ?_
            refine zV_iload_n (j := 2) dX8_countWays_119 rfl rfl ?_
            refine zV_iload_n (j := 3) dX8_countWays_120 rfl rfl ?_
            refine zV_iload (j := 4) dX8_countWays_121 rfl ?_
            refine zV_bipush (v := 20) dX8_countWays_123 (by decide) ?_
            refine zV_idiv dX8_countWays_125 (by decide) ?_
            refine zV_iload (j := 4) dX8_countWays_126 rfl ?_
            refine zV_bipush (v := 20) dX8_countWays_128 (by decide) ?_
            refine zV_irem dX8_countWays_130 (by decide) ?_
            obtain ⟨g21, h⟩ := zg_of h
            obtain ⟨r22, M23, q24, h⟩ := zb_of h
            refine zV_callVi (ci := 8) (As := [.int x2, .int x3, .int (x4 / 20), .int (x4 - x4 / 20 * 20)]) (rest := [.int x1]) (vX8_isWay l D T b gr x0 x2 x3 (x4 / 20) (x4 - x4 / 20 * 20) M18 _ _ q24) zm_yX8_isWay zl_RX8_323 zi_yX8_isWay ze_yX8_isWay zcI8 g21 rfl rfl (zcs ⟨rfl, trivial⟩ (Nat.le_of_ble_eq_true rfl)) (by decide) (by decide) (by decide) dX8_countWays_131 ?_
            refine zV_if_eq (tgt := 141) dX8_countWays_134 (by decide) (fun c25 => ?_) (fun c25 => ?_)
            · replace h := z_t c25 h
              refine zV_pk [0, 2, 3, 4] rfl ?_
              exact vX8_countWays_141 k19 hk19 k29 hk29 (fX8_countWays_75 k19 k29 n) ih x0 x2 x3 x4 x1 M23 _ h
            · replace h := z_f c25 h
              refine zV_iconst (v := 1) dX8_countWays_137 (by decide) ?_
              refine zV_goto (tgt := 142) dX8_countWays_138 (by decide) ?_
              refine zV_pk [0, 2, 3, 4] rfl ?_
              exact vX8_countWays_142 k19 hk19 k29 hk29 (fX8_countWays_75 k19 k29 n) ih x0 x2 x3 x4 x1 1 M23 _ h
set_option maxHeartbeats 4000000 in
set_option maxRecDepth 100000 in
theorem vX8_countWays_67 {l : Launch} {D : va_G} {T : Nat → ClassId} {b : Nat} {gr : Bool} {n0 : Nat} (k19 : Nat → Int32 → Int32 → zM → Option (Int32 × zM)) (hk19 : ∀ (z0 : Nat) (z1 : Int32) (z2 : Int32) (N : zM) (o : Int32 × zM), k19 z0 z1 z2 N = some o → zV false l RX8 cX8_countWays 5 (some .int) false 9 0 0 D T b gr n0 (0, o.1, o.2) 0 0 19 [(0, zr b z0), (1, .int z1), (2, .int z2)] [] N) (k29 : Nat → Int32 → Int32 → Int32 → zM → Option (Int32 × zM)) (hk29 : ∀ (z0 : Nat) (z1 : Int32) (z2 : Int32) (z3 : Int32) (N : zM) (o : Int32 × zM), k29 z0 z1 z2 z3 N = some o → zV false l RX8 cX8_countWays 5 (some .int) false 9 0 0 D T b gr n0 (0, o.1, o.2) 0 0 29 [(0, zr b z0), (1, .int z1), (2, .int z2), (3, .int z3)] [] N) (x0 : Nat) (x2 : Int32) (x3 : Int32) (s0 : Int32) (s1 : Int32) (M : zM) (o : Int32 × zM) (h : fX8_countWays_67 k19 k29 x0 x2 x3 s0 s1 M = some o) : zV false l RX8 cX8_countWays 5 (some .int) false 9 0 0 D T b gr n0 (0, o.1, o.2) 0 0 67 [(0, zr b x0), (2, .int x2), (3, .int x3)] [.int s1, .int s0] M := by
  unfold fX8_countWays_67 at h
  refine zV_iadd dX8_countWays_67 ?_
  refine zV_top (fun u26 e27 => ?_)
  replace h := zlet_of h e27
  refine zV_istore_n [(1, .int u26), (0, zr b x0), (2, .int x2), (3, .int x3)] dX8_countWays_68 rfl (by decide) rfl ?_
  refine zV_bipush (v := 20) dX8_countWays_69 (by decide) ?_
  refine zV_iload_n (j := 2) dX8_countWays_71 rfl rfl ?_
  refine zV_imul dX8_countWays_72 ?_
  refine zV_top (fun u28 e29 => ?_)
  replace h := zlet_of h e29
  refine zV_istore [(4, .int u28), (1, .int u26), (0, zr b x0), (2, .int x2), (3, .int x3)] dX8_countWays_73 (by decide) rfl ?_
  refine zV_pk [2, 1, 3, 4, 0] rfl ?_
  exact vX8_countWays_75 k19 hk19 k29 hk29 10000 x0 u26 x2 x3 u28 M _ h
set_option maxHeartbeats 4000000 in
set_option maxRecDepth 100000 in
theorem vX8_countWays_66 {l : Launch} {D : va_G} {T : Nat → ClassId} {b : Nat} {gr : Bool} {n0 : Nat} (k19 : Nat → Int32 → Int32 → zM → Option (Int32 × zM)) (hk19 : ∀ (z0 : Nat) (z1 : Int32) (z2 : Int32) (N : zM) (o : Int32 × zM), k19 z0 z1 z2 N = some o → zV false l RX8 cX8_countWays 5 (some .int) false 9 0 0 D T b gr n0 (0, o.1, o.2) 0 0 19 [(0, zr b z0), (1, .int z1), (2, .int z2)] [] N) (k29 : Nat → Int32 → Int32 → Int32 → zM → Option (Int32 × zM)) (hk29 : ∀ (z0 : Nat) (z1 : Int32) (z2 : Int32) (z3 : Int32) (N : zM) (o : Int32 × zM), k29 z0 z1 z2 z3 N = some o → zV false l RX8 cX8_countWays 5 (some .int) false 9 0 0 D T b gr n0 (0, o.1, o.2) 0 0 29 [(0, zr b z0), (1, .int z1), (2, .int z2), (3, .int z3)] [] N) (x0 : Nat) (x2 : Int32) (x3 : Int32) (s0 : Int32) (M : zM) (o : Int32 × zM) (h : fX8_countWays_66 k19 k29 x0 x2 x3 s0 M = some o) : zV false l RX8 cX8_countWays 5 (some .int) false 9 0 0 D T b gr n0 (0, o.1, o.2) 0 0 66 [(0, zr b x0), (2, .int x2), (3, .int x3)] [.int s0] M := by
  unfold fX8_countWays_66 at h
  refine zV_iconst (v := 0) dX8_countWays_66 (by decide) ?_
  exact vX8_countWays_67 k19 hk19 k29 hk29 x0 x2 x3 s0 0 M _ h
set_option maxHeartbeats 4000000 in
set_option maxRecDepth 100000 in
theorem vX8_countWays_29 {l : Launch} {D : va_G} {T : Nat → ClassId} {b : Nat} {gr : Bool} {n0 : Nat} (k19 : Nat → Int32 → Int32 → zM → Option (Int32 × zM)) (hk19 : ∀ (z0 : Nat) (z1 : Int32) (z2 : Int32) (N : zM) (o : Int32 × zM), k19 z0 z1 z2 N = some o → zV false l RX8 cX8_countWays 5 (some .int) false 9 0 0 D T b gr n0 (0, o.1, o.2) 0 0 19 [(0, zr b z0), (1, .int z1), (2, .int z2)] [] N) : ∀ (n : Nat) (x0 : Nat) (x1 : Int32) (x2 : Int32) (x3 : Int32) (M : zM) (o : Int32 × zM), fX8_countWays_29 k19 n x0 x1 x2 x3 M = some o → zV false l RX8 cX8_countWays 5 (some .int) false 9 0 0 D T b gr n0 (0, o.1, o.2) 0 0 29 [(0, zr b x0), (1, .int x1), (2, .int x2), (3, .int x3)] [] M := by
  intro n
  induction n with
  | zero =>
    intro x0 x1 x2 x3 M o h
    rw [fX8_countWays_29] at h
    cases h
  | succ n ih =>
    intro x0 x1 x2 x3 M o h
    rw [fX8_countWays_29] at h
    refine zV_iload_n (j := 3) dX8_countWays_29 rfl rfl ?_
    refine zV_bipush (v := 20) dX8_countWays_30 (by decide) ?_
    refine zV_icmp_ge (tgt := 156) dX8_countWays_32 (by decide) (fun c30 => ?_) (fun c30 => ?_)
    · replace h := z_t c30 h
      refine zV_pk [0, 1, 2] rfl ?_
      exact vX8_countWays_156 k19 hk19 x0 x1 x2 M _ h
    · replace h := z_f c30 h
      refine zV_iload_n (j := 1) dX8_countWays_35 rfl rfl ?_
      refine zV_sipush (v := 1000) dX8_countWays_36 (by decide) ?_
      refine zV_icmp_ge (tgt := 156) dX8_countWays_39 (by decide) (fun c31 => ?_) (fun c31 => ?_)
      · replace h := z_t c31 h
        refine zV_pk [0, 1, 2] rfl ?_
        exact vX8_countWays_156 k19 hk19 x0 x1 x2 M _ h
      · replace h := z_f c31 h
        refine zV_iload_n (j := 1) dX8_countWays_42 rfl rfl ?_
        refine zV_aload_n (j := 0) dX8_countWays_43 rfl rfl ?_
        refine zV_iload_n (j := 3) dX8_countWays_44 rfl rfl ?_
        obtain ⟨g32, h⟩ := zg_of h
        obtain ⟨r33, M34, q35, h⟩ := zb_of h
        refine zV_callVi (ci := 8) (As := [.int x3]) (rest := [.int x1]) (vX8_isTag l D T b gr x0 x3 M _ _ q35) zm_yX8_isTag zl_RX8_327 zi_yX8_isTag ze_yX8_isTag zcI8 g32 rfl rfl (zcs ⟨rfl, trivial⟩ (Nat.le_of_ble_eq_true rfl)) (by decide) (by decide) (by decide) dX8_countWays_45 ?_
        refine zV_if_eq (tgt := 66) dX8_countWays_48 (by decide) (fun c36 => ?_) (fun c36 => ?_)
        · replace h := z_t c36 h
          refine zV_pk [0, 2, 3] rfl ?_
          exact vX8_countWays_66 k19 hk19 (fX8_countWays_29 k19 n) ih x0 x2 x3 x1 M34 _ h
        · replace h := z_f c36 h
          refine zV_aload_n (j := 0) dX8_countWays_51 rfl rfl ?_
          refine zV_iload_n (j := 2) dX8_countWays_52 rfl rfl ?_
          refine zV_iload_n (j := 3) dX8_countWays_53 rfl rfl ?_
          refine zV_iconst (v := 0) dX8_countWays_54 (by decide) ?_
          refine zV_iconst (v := (-1)) dX8_countWays_55 (by decide) ?_
          obtain ⟨g37, h⟩ := zg_of h
          obtain ⟨r38, M39, q40, h⟩ := zb_of h
          refine zV_callVi (ci := 8) (As := [.int x2, .int x3, .int 0, .int (-1)]) (rest := [.int x1]) (vX8_isWay l D T b gr x0 x2 x3 0 (-1) M34 _ _ q40) zm_yX8_isWay zl_RX8_323 zi_yX8_isWay ze_yX8_isWay zcI8 g37 rfl rfl (zcs ⟨rfl, trivial⟩ (Nat.le_of_ble_eq_true rfl)) (by decide) (by decide) (by decide) dX8_countWays_56 ?_
          refine zV_if_eq (tgt := 66) dX8_countWays_59 (by decide) (fun c41 => ?_) (fun c41 => ?_)
          · replace h := z_t c41 h
            refine zV_pk [0, 2, 3] rfl ?_
            exact vX8_countWays_66 k19 hk19 (fX8_countWays_29 k19 n) ih x0 x2 x3 x1 M39 _ h
          · replace h := z_f c41 h
            refine zV_iconst (v := 1) dX8_countWays_62 (by decide) ?_
            refine zV_goto (tgt := 67) dX8_countWays_63 (by decide) ?_
            refine zV_pk [0, 2, 3] rfl ?_
            exact vX8_countWays_67 k19 hk19 (fX8_countWays_29 k19 n) ih x0 x2 x3 x1 1 M39 _ h
set_option maxHeartbeats 4000000 in
set_option maxRecDepth 100000 in
theorem vX8_countWays_19 {l : Launch} {D : va_G} {T : Nat → ClassId} {b : Nat} {gr : Bool} {n0 : Nat} : ∀ (n : Nat) (x0 : Nat) (x1 : Int32) (x2 : Int32) (M : zM) (o : Int32 × zM), fX8_countWays_19 n x0 x1 x2 M = some o → zV false l RX8 cX8_countWays 5 (some .int) false 9 0 0 D T b gr n0 (0, o.1, o.2) 0 0 19 [(0, zr b x0), (1, .int x1), (2, .int x2)] [] M := by
  intro n
  induction n with
  | zero =>
    intro x0 x1 x2 M o h
    rw [fX8_countWays_19] at h
    cases h
  | succ n ih =>
    intro x0 x1 x2 M o h
    rw [fX8_countWays_19] at h
    refine zV_iload_n (j := 2) dX8_countWays_19 rfl rfl ?_
    refine zV_aload_n (j := 0) dX8_countWays_20 rfl rfl ?_
    obtain ⟨g42, h⟩ := zg_of h
    refine zV_getI zf_RX8_174 dX8_countWays_21 rfl g42 ?_
    refine zV_icmp_gt (tgt := 162) dX8_countWays_24 (by decide) (fun c43 => ?_) (fun c43 => ?_)
    · replace h := z_t c43 h
      refine zV_iload_n (j := 1) dX8_countWays_162 rfl rfl ?_
      exact zV_iret rfl dX8_countWays_163 (by decide) (by decide) (z_ret h)
    · replace h := z_f c43 h
      refine zV_iconst (v := 0) dX8_countWays_27 (by decide) ?_
      refine zV_istore_n [(3, .int 0), (0, zr b x0), (1, .int x1), (2, .int x2)] dX8_countWays_28 rfl (by decide) rfl ?_
      refine zV_pk [1, 2, 3, 0] rfl ?_
      exact vX8_countWays_29 (fX8_countWays_19 n) ih 10000 x0 x1 x2 0 M _ h
set_option maxHeartbeats 4000000 in
set_option maxRecDepth 100000 in
theorem vX8_countWays_16 {l : Launch} {D : va_G} {T : Nat → ClassId} {b : Nat} {gr : Bool} {n0 : Nat} (x0 : Nat) (s0 : Int32) (M : zM) (o : Int32 × zM) (h : fX8_countWays_16 x0 s0 M = some o) : zV false l RX8 cX8_countWays 5 (some .int) false 9 0 0 D T b gr n0 (0, o.1, o.2) 0 0 16 [(0, zr b x0)] [.int s0] M := by
  unfold fX8_countWays_16 at h
  refine zV_istore_n [(1, .int s0), (0, zr b x0)] dX8_countWays_16 rfl (by decide) rfl ?_
  refine zV_iconst (v := 0) dX8_countWays_17 (by decide) ?_
  refine zV_istore_n [(2, .int 0), (1, .int s0), (0, zr b x0)] dX8_countWays_18 rfl (by decide) rfl ?_
  refine zV_pk [2, 1, 0] rfl ?_
  exact vX8_countWays_19 10000 x0 s0 0 M _ h
set_option maxHeartbeats 4000000 in
set_option maxRecDepth 100000 in
theorem vX8_countWays (l : Launch) (D : va_G) (T : Nat → ClassId) (b : Nat) (gr : Bool) (x0 : Nat) (M : zM) (r : Int32) (M' : zM) (h : fX8_countWays x0 M = some (r, M')) : zMet l D T b gr yX8_countWays cX8_countWays 5 (some .int) 9 0 0 [zr b x0] M (0, r, M') := by
  refine zEntry2 false (fun h9 => nomatch h9) zp_yX8_countWays ⟨zr_cat _ _, trivial⟩ (Nat.le_of_ble_eq_true rfl) ?_
  obtain ⟨o, ho⟩ : ∃ o : Int32 × zM, o = (r, M') := ⟨_, rfl⟩
  rw [← ho] at h
  rw [show ((0, r, M') : Nat × Int32 × zM) = (0, o.1, o.2) by rw [ho]]
  show zV false l RX8 cX8_countWays 5 (some .int) false 9 0 0 D T b gr M.2.2.2 (0, o.1, o.2) 0 0 0 [(0, zr b x0)] [] M
  unfold fX8_countWays at h
  refine zV_aload_n (j := 0) dX8_countWays_0 rfl rfl ?_
  refine zV_iconst (v := 0) dX8_countWays_1 (by decide) ?_
  refine zV_iconst (v := (-1)) dX8_countWays_2 (by decide) ?_
  refine zV_iconst (v := 0) dX8_countWays_3 (by decide) ?_
  refine zV_iconst (v := (-1)) dX8_countWays_4 (by decide) ?_
  obtain ⟨g44, h⟩ := zg_of h
  obtain ⟨r45, M46, q47, h⟩ := zb_of h
  refine zV_callVi (ci := 8) (As := [.int 0, .int (-1), .int 0, .int (-1)]) (rest := []) (vX8_isWay l D T b gr x0 0 (-1) 0 (-1) M _ _ q47) zm_yX8_isWay zl_RX8_323 zi_yX8_isWay ze_yX8_isWay zcI8 g44 rfl rfl (zcs trivial (Nat.le_of_ble_eq_true rfl)) (by decide) (by decide) (by decide) dX8_countWays_5 ?_
  refine zV_if_eq (tgt := 15) dX8_countWays_8 (by decide) (fun c48 => ?_) (fun c48 => ?_)
  · replace h := z_t c48 h
    refine zV_iconst (v := 0) dX8_countWays_15 (by decide) ?_
    exact vX8_countWays_16 x0 0 M46 _ h
  · replace h := z_f c48 h
    refine zV_iconst (v := 1) dX8_countWays_11 (by decide) ?_
    refine zV_goto (tgt := 16) dX8_countWays_12 (by decide) ?_
    exact vX8_countWays_16 x0 1 M46 _ h
set_option maxHeartbeats 4000000 in
set_option maxRecDepth 100000 in
theorem vX8_ways_70 {l : Launch} {D : va_G} {T : Nat → ClassId} {b : Nat} {gr : Bool} {n0 : Nat} (x0 : Nat) (x1 : Int32) (M : zM) (o : Int32 × zM) (h : fX8_ways_70 x0 x1 M = some o) : zV false l RX8 cX8_ways 3 (some .int) false 10 0 0 D T b gr n0 (0, o.1, o.2) 0 0 70 [(0, zr b x0), (1, .int x1)] [] M := by
  unfold fX8_ways_70 at h
  refine zV_aload_n (j := 0) dX8_ways_70 rfl rfl ?_
  refine zV_iload_n (j := 1) dX8_ways_71 rfl rfl ?_
  refine zV_iconst (v := 1) dX8_ways_72 (by decide) ?_
  refine zV_iconst (v := 1) dX8_ways_73 (by decide) ?_
  obtain ⟨g1, h⟩ := zg_of h
  obtain ⟨r2, M3, q4, h⟩ := zb_of h
  refine zV_callVi (ci := 8) (As := [.int x1, .int 1, .int 1]) (rest := []) (vX8_goes l D T b gr x0 x1 1 1 M _ _ q4) zm_yX8_goes zl_RX8_163 zi_yX8_goes ze_yX8_goes zcI8 g1 rfl rfl (zcs trivial (Nat.le_of_ble_eq_true rfl)) (by decide) (by decide) (by decide) dX8_ways_74 ?_
  refine zV_if_ne (tgt := 82) dX8_ways_77 (by decide) (fun c5 => ?_) (fun c5 => ?_)
  · replace h := z_f c5 h
    refine zV_aload_n (j := 0) dX8_ways_82 rfl rfl ?_
    obtain ⟨g6, h⟩ := zg_of h
    obtain ⟨r7, M8, q9, h⟩ := zb_of h
    refine zV_callVi (ci := 8) (As := []) (rest := []) (vX8_countWays l D T b gr x0 M3 _ _ q9) zm_yX8_countWays zl_RX8_330 zi_yX8_countWays ze_yX8_countWays zcI8 g6 rfl rfl (zcs trivial (Nat.le_of_ble_eq_true rfl)) (by decide) (by decide) (by decide) dX8_ways_83 ?_
    refine zV_istore_n [(2, .int r7), (0, zr b x0), (1, .int x1)] dX8_ways_86 rfl (by decide) rfl ?_
    refine zV_aload_n (j := 1) dX8_ways_87 rfl rfl ?_
    obtain ⟨g10, h⟩ := zg_of h
    obtain ⟨r11, M12, q13, h⟩ := zb_of h
    refine zV_callVv (ci := 8) (As := []) (rest := []) (vX8_readsText l D T b gr x0 M8 _ _ q13) zm_yX8_readsText zl_RX8_140 zi_yX8_readsText ze_yX8_readsText zcI8 g10 rfl rfl (zcs trivial (Nat.le_of_ble_eq_true rfl)) (by decide) (by decide) (by decide) dX8_ways_88 ?_
    refine zV_iload_n (j := 0) dX8_ways_91 rfl rfl ?_
    exact zV_iret rfl dX8_ways_92 (by decide) (by decide) (z_ret h)
  · replace h := z_t c5 h
    refine zV_iconst (v := 0) dX8_ways_80 (by decide) ?_
    exact zV_iret rfl dX8_ways_81 (by decide) (by decide) (z_ret h)
set_option maxHeartbeats 4000000 in
set_option maxRecDepth 100000 in
theorem vX8_ways_63 {l : Launch} {D : va_G} {T : Nat → ClassId} {b : Nat} {gr : Bool} {n0 : Nat} (k17 : Nat → Int32 → Int32 → zM → Option (Int32 × zM)) (hk17 : ∀ (z0 : Nat) (z1 : Int32) (z2 : Int32) (N : zM) (o : Int32 × zM), k17 z0 z1 z2 N = some o → zV false l RX8 cX8_ways 3 (some .int) false 10 0 0 D T b gr n0 (0, o.1, o.2) 0 0 17 [(0, zr b z0), (1, .int z1), (2, .int z2)] [] N) (x0 : Nat) (x2 : Int32) (s0 : Int32) (M : zM) (o : Int32 × zM) (h : fX8_ways_63 k17 x0 x2 s0 M = some o) : zV false l RX8 cX8_ways 3 (some .int) false 10 0 0 D T b gr n0 (0, o.1, o.2) 0 0 63 [(0, zr b x0), (2, .int x2)] [.int s0] M := by
  unfold fX8_ways_63 at h
  refine zV_istore_n [(1, .int s0), (0, zr b x0), (2, .int x2)] dX8_ways_63 rfl (by decide) rfl ?_
  obtain ⟨u14, e15⟩ : ∃ y : Int32, y = x2 + 1 := ⟨_, rfl⟩
  replace h := zlet_of h e15
  refine zV_iinc (j := 2) (v := u14) [(2, .int u14), (1, .int s0), (0, zr b x0)] dX8_ways_64 rfl (by rw [e15]; rfl) (by decide) rfl ?_
  refine zV_goto (tgt := 17) dX8_ways_67 (by decide) ?_
  refine zV_pk [2, 1, 0] rfl ?_
  exact hk17 x0 s0 u14 M _ h
set_option maxHeartbeats 4000000 in
set_option maxRecDepth 100000 in
theorem vX8_ways_62 {l : Launch} {D : va_G} {T : Nat → ClassId} {b : Nat} {gr : Bool} {n0 : Nat} (k17 : Nat → Int32 → Int32 → zM → Option (Int32 × zM)) (hk17 : ∀ (z0 : Nat) (z1 : Int32) (z2 : Int32) (N : zM) (o : Int32 × zM), k17 z0 z1 z2 N = some o → zV false l RX8 cX8_ways 3 (some .int) false 10 0 0 D T b gr n0 (0, o.1, o.2) 0 0 17 [(0, zr b z0), (1, .int z1), (2, .int z2)] [] N) (x0 : Nat) (x2 : Int32) (M : zM) (o : Int32 × zM) (h : fX8_ways_62 k17 x0 x2 M = some o) : zV false l RX8 cX8_ways 3 (some .int) false 10 0 0 D T b gr n0 (0, o.1, o.2) 0 0 62 [(0, zr b x0), (2, .int x2)] [] M := by
  unfold fX8_ways_62 at h
  refine zV_iconst (v := 0) dX8_ways_62 (by decide) ?_
  exact vX8_ways_63 k17 hk17 x0 x2 0 M _ h
set_option maxHeartbeats 4000000 in
set_option maxRecDepth 100000 in
theorem vX8_ways_58 {l : Launch} {D : va_G} {T : Nat → ClassId} {b : Nat} {gr : Bool} {n0 : Nat} (k17 : Nat → Int32 → Int32 → zM → Option (Int32 × zM)) (hk17 : ∀ (z0 : Nat) (z1 : Int32) (z2 : Int32) (N : zM) (o : Int32 × zM), k17 z0 z1 z2 N = some o → zV false l RX8 cX8_ways 3 (some .int) false 10 0 0 D T b gr n0 (0, o.1, o.2) 0 0 17 [(0, zr b z0), (1, .int z1), (2, .int z2)] [] N) (x0 : Nat) (x2 : Int32) (M : zM) (o : Int32 × zM) (h : fX8_ways_58 k17 x0 x2 M = some o) : zV false l RX8 cX8_ways 3 (some .int) false 10 0 0 D T b gr n0 (0, o.1, o.2) 0 0 58 [(0, zr b x0), (2, .int x2)] [] M := by
  unfold fX8_ways_58 at h
  refine zV_iconst (v := 1) dX8_ways_58 (by decide) ?_
  refine zV_goto (tgt := 63) dX8_ways_59 (by decide) ?_
  exact vX8_ways_63 k17 hk17 x0 x2 1 M _ h
set_option maxHeartbeats 4000000 in
set_option maxRecDepth 100000 in
theorem vX8_ways_17 {l : Launch} {D : va_G} {T : Nat → ClassId} {b : Nat} {gr : Bool} {n0 : Nat} : ∀ (n : Nat) (x0 : Nat) (x1 : Int32) (x2 : Int32) (M : zM) (o : Int32 × zM), fX8_ways_17 n x0 x1 x2 M = some o → zV false l RX8 cX8_ways 3 (some .int) false 10 0 0 D T b gr n0 (0, o.1, o.2) 0 0 17 [(0, zr b x0), (1, .int x1), (2, .int x2)] [] M := by
  intro n
  induction n with
  | zero =>
    intro x0 x1 x2 M o h
    rw [fX8_ways_17] at h
    cases h
  | succ n ih =>
    intro x0 x1 x2 M o h
    rw [fX8_ways_17] at h
    refine zV_iload_n (j := 2) dX8_ways_17 rfl rfl ?_
    refine zV_aload_n (j := 0) dX8_ways_18 rfl rfl ?_
    obtain ⟨g16, h⟩ := zg_of h
    refine zV_getI zf_RX8_174 dX8_ways_19 rfl g16 ?_
    refine zV_icmp_ge (tgt := 70) dX8_ways_22 (by decide) (fun c17 => ?_) (fun c17 => ?_)
    · replace h := z_t c17 h
      refine zV_pk [0, 1] rfl ?_
      exact vX8_ways_70 x0 x1 M _ h
    · replace h := z_f c17 h
      refine zV_iload_n (j := 1) dX8_ways_25 rfl rfl ?_
      refine zV_if_eq (tgt := 62) dX8_ways_26 (by decide) (fun c18 => ?_) (fun c18 => ?_)
      · replace h := z_t c18 h
        refine zV_pk [0, 2] rfl ?_
        exact vX8_ways_62 (fX8_ways_17 n) ih x0 x2 M _ h
      · replace h := z_f c18 h
        refine zV_aload_n (j := 0) dX8_ways_29 rfl rfl ?_
        refine zV_getR zf_RX8_44 dX8_ways_30 rfl g16 ?_
        refine zV_iload_n (j := 2) dX8_ways_33 rfl rfl ?_
        obtain ⟨g19, h⟩ := zg_of h
        obtain ⟨g20, h⟩ := zg_of h
        refine zV_iald dX8_ways_34 g19 g20 ?_
        refine zV_if_eq (tgt := 58) dX8_ways_35 (by decide) (fun c21 => ?_) (fun c21 => ?_)
        · replace h := z_t c21 h
          refine zV_pk [0, 2] rfl ?_
          exact vX8_ways_58 (fX8_ways_17 n) ih x0 x2 M _ h
        · replace h := z_f c21 h
          refine zV_aload_n (j := 0) dX8_ways_38 rfl rfl ?_
          refine zV_getR zf_RX8_44 dX8_ways_39 rfl g16 ?_
          refine zV_iload_n (j := 2) dX8_ways_42 rfl rfl ?_
          obtain ⟨g22, h⟩ := zg_of h
          refine zV_iald dX8_ways_43 g19 g22 ?_
          refine zV_iconst (v := 1) dX8_ways_44 (by decide) ?_
          refine zV_icmp_eq (tgt := 58) dX8_ways_45 (by decide) (fun c23 => ?_) (fun c23 => ?_)
          · replace h := z_t c23 h
            refine zV_pk [0, 2] rfl ?_
            exact vX8_ways_58 (fX8_ways_17 n) ih x0 x2 M _ h
          · replace h := z_f c23 h
            refine zV_aload_n (j := 0) dX8_ways_48 rfl rfl ?_
            refine zV_getR zf_RX8_44 dX8_ways_49 rfl g16 ?_
            refine zV_iload_n (j := 2) dX8_ways_52 rfl rfl ?_
            obtain ⟨g24, h⟩ := zg_of h
            refine zV_iald dX8_ways_53 g19 g24 ?_
            refine zV_iconst (v := 4) dX8_ways_54 (by decide) ?_
            refine zV_icmp_ne (tgt := 62) dX8_ways_55 (by decide) (fun c25 => ?_) (fun c25 => ?_)
            · replace h := z_f c25 h
              refine zV_pk [0, 2] rfl ?_
              exact vX8_ways_62 (fX8_ways_17 n) ih x0 x2 M _ h
            · replace h := z_t c25 h
              refine zV_pk [0, 2] rfl ?_
              exact vX8_ways_58 (fX8_ways_17 n) ih x0 x2 M _ h
set_option maxHeartbeats 4000000 in
set_option maxRecDepth 100000 in
theorem vX8_ways_14 {l : Launch} {D : va_G} {T : Nat → ClassId} {b : Nat} {gr : Bool} {n0 : Nat} (x0 : Nat) (s0 : Int32) (M : zM) (o : Int32 × zM) (h : fX8_ways_14 x0 s0 M = some o) : zV false l RX8 cX8_ways 3 (some .int) false 10 0 0 D T b gr n0 (0, o.1, o.2) 0 0 14 [(0, zr b x0)] [.int s0] M := by
  unfold fX8_ways_14 at h
  refine zV_istore_n [(1, .int s0), (0, zr b x0)] dX8_ways_14 rfl (by decide) rfl ?_
  refine zV_iconst (v := 0) dX8_ways_15 (by decide) ?_
  refine zV_istore_n [(2, .int 0), (1, .int s0), (0, zr b x0)] dX8_ways_16 rfl (by decide) rfl ?_
  refine zV_pk [2, 1, 0] rfl ?_
  exact vX8_ways_17 10000 x0 s0 0 M _ h
set_option maxHeartbeats 4000000 in
set_option maxRecDepth 100000 in
theorem vX8_ways (l : Launch) (D : va_G) (T : Nat → ClassId) (b : Nat) (gr : Bool) (x0 : Nat) (M : zM) (r : Int32) (M' : zM) (h : fX8_ways x0 M = some (r, M')) : zMet l D T b gr yX8_ways cX8_ways 3 (some .int) 10 0 0 [zr b x0] M (0, r, M') := by
  refine zEntry2 false (fun h9 => nomatch h9) zp_yX8_ways ⟨zr_cat _ _, trivial⟩ (Nat.le_of_ble_eq_true rfl) ?_
  obtain ⟨o, ho⟩ : ∃ o : Int32 × zM, o = (r, M') := ⟨_, rfl⟩
  rw [← ho] at h
  rw [show ((0, r, M') : Nat × Int32 × zM) = (0, o.1, o.2) by rw [ho]]
  show zV false l RX8 cX8_ways 3 (some .int) false 10 0 0 D T b gr M.2.2.2 (0, o.1, o.2) 0 0 0 [(0, zr b x0)] [] M
  unfold fX8_ways at h
  refine zV_aload_n (j := 0) dX8_ways_0 rfl rfl ?_
  obtain ⟨g26, h⟩ := zg_of h
  refine zV_getI zf_RX8_174 dX8_ways_1 rfl g26 ?_
  refine zV_bipush (v := 6) dX8_ways_4 (by decide) ?_
  refine zV_icmp_gt (tgt := 13) dX8_ways_6 (by decide) (fun c27 => ?_) (fun c27 => ?_)
  · replace h := z_t c27 h
    refine zV_iconst (v := 0) dX8_ways_13 (by decide) ?_
    exact vX8_ways_14 x0 0 M _ h
  · replace h := z_f c27 h
    refine zV_iconst (v := 1) dX8_ways_9 (by decide) ?_
    refine zV_goto (tgt := 14) dX8_ways_10 (by decide) ?_
    exact vX8_ways_14 x0 1 M _ h
