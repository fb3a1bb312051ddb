set_option maxHeartbeats 4000000 in
set_option maxRecDepth 100000 in
theorem vX4_goesOnWith (l : Launch) (D : va_G) (T : Nat → ClassId) (b : Nat) (gr : Bool) (x0 : Nat) (M : zM) (r : Int32) (M' : zM) (h : fX4_goesOnWith x0 M = some (r, M')) : zMet l D T b gr yX4_goesOnWith cX4_goesOnWith 1 (some .int) 0 0 0 [zr b x0] M (0, r, M') := by
  refine zEntry2 (ev := zE0) rfl false (fun h9 => nomatch h9) zp_yX4_goesOnWith ⟨zr_cat _ _, trivial⟩ (Nat.le_of_ble_eq_true rfl) ?_
  obtain ⟨o, ho⟩ : ∃ o : Int32 × zM, o = (r, M') := ⟨_, rfl⟩
  rw [← ho] at h
  rw [show ((0, r, M') : Nat × Int32 × zM) = (0, o.1, o.2) by rw [ho]]
  show zV false l RX4 cX4_goesOnWith 1 (some .int) false 0 0 0 D T zE0 b gr M.2.2.2 (0, o.1, o.2) 0 0 0 [(0, zr b x0)] [] M
  unfold fX4_goesOnWith at h
  refine zV_aload_n (j := 0) dX4_goesOnWith_0 rfl rfl ?_
  obtain ⟨g1, h⟩ := zg_of h
  refine zV_getI zf_RX4_26 dX4_goesOnWith_1 rfl g1 ?_
  refine zV_if_le (tgt := 44) dX4_goesOnWith_4 (by decide) (fun c2 => ?_) (fun c2 => ?_)
  · replace h := z_t c2 h
    refine zV_iconst (v := 0) dX4_goesOnWith_44 (by decide) ?_
    exact zV_iret rfl dX4_goesOnWith_45 (by decide) (by decide) (z_ret h)
  · replace h := z_f c2 h
    refine zV_aload_n (j := 0) dX4_goesOnWith_7 rfl rfl ?_
    refine zV_getR zf_RX4_22 dX4_goesOnWith_8 rfl g1 ?_
    obtain ⟨g3, h⟩ := zg_of h
    refine zV_getR zf_RX4_32 dX4_goesOnWith_11 rfl g3 ?_
    refine zV_aload_n (j := 0) dX4_goesOnWith_14 rfl rfl ?_
    refine zV_getR zf_RX4_9 dX4_goesOnWith_15 rfl g1 ?_
    refine zV_aload_n (j := 0) dX4_goesOnWith_18 rfl rfl ?_
    refine zV_getI zf_RX4_26 dX4_goesOnWith_19 rfl g1 ?_
    refine zV_iconst (v := 1) dX4_goesOnWith_22 (by decide) ?_
    refine zV_isub dX4_goesOnWith_23 ?_
    obtain ⟨g4, h⟩ := zg_of h
    obtain ⟨g5, h⟩ := zg_of h
    refine zV_iald dX4_goesOnWith_24 g4 g5 ?_
    obtain ⟨g6, h⟩ := zg_of h
    obtain ⟨g7, h⟩ := zg_of h
    refine zV_aald 110 4 dX4_goesOnWith_25 g6 ⟨by decide, by decide⟩ rfl g7 ?_
    obtain ⟨g8, h⟩ := zg_of h
    refine zV_getR zf_RX4_44 dX4_goesOnWith_26 rfl g8 ?_
    refine zV_aload_n (j := 0) dX4_goesOnWith_29 rfl rfl ?_
    refine zV_getR zf_RX4_15 dX4_goesOnWith_30 rfl g1 ?_
    refine zV_aload_n (j := 0) dX4_goesOnWith_33 rfl rfl ?_
    refine zV_getI zf_RX4_26 dX4_goesOnWith_34 rfl g1 ?_
    refine zV_iconst (v := 1) dX4_goesOnWith_37 (by decide) ?_
    refine zV_isub dX4_goesOnWith_38 ?_
    obtain ⟨g9, h⟩ := zg_of h
    obtain ⟨g10, h⟩ := zg_of h
    refine zV_iald dX4_goesOnWith_39 g9 g10 ?_
    obtain ⟨g11, h⟩ := zg_of h
    obtain ⟨g12, h⟩ := zg_of h
    refine zV_iald dX4_goesOnWith_40 g11 g12 ?_
    refine zV_goto (tgt := 45) dX4_goesOnWith_41 (by decide) ?_
    exact zV_iret rfl dX4_goesOnWith_45 (by decide) (by decide) (z_ret h)
set_option maxHeartbeats 4000000 in
set_option maxRecDepth 100000 in
theorem vJ6_bitCount_0f7a4 (l : Launch) (D : va_G) (T : Nat → ClassId) (b : Nat) (gr : Bool) (x0 : Int32) (M : zM) (r : Int32) (M' : zM) (h : fJ6_bitCount_0f7a4 x0 M = some (r, M')) : zMet l D T b gr yJ6_bitCount_0f7a4 cJ6_bitCount_0f7a4 1 (some .int) 0 0 0 [.int x0] M (0, r, M') := by
  refine zEntry2 (ev := zE0) rfl false (fun h9 => nomatch h9) zp_yJ6_bitCount_0f7a4 ⟨rfl, trivial⟩ (Nat.le_of_ble_eq_true rfl) ?_
  obtain ⟨o, ho⟩ : ∃ o : Int32 × zM, o = (r, M') := ⟨_, rfl⟩
  rw [← ho] at h
  rw [show ((0, r, M') : Nat × Int32 × zM) = (0, o.1, o.2) by rw [ho]]
  show zV false l RJ6 cJ6_bitCount_0f7a4 1 (some .int) false 0 0 0 D T zE0 b gr M.2.2.2 (0, o.1, o.2) 0 0 0 [(0, .int x0)] [] M
  unfold fJ6_bitCount_0f7a4 at h
  refine zV_iload_n (j := 0) dJ6_bitCount_0f7a4_0 rfl rfl ?_
  refine zV_iload_n (j := 0) dJ6_bitCount_0f7a4_1 rfl rfl ?_
  refine zV_iconst (v := 1) dJ6_bitCount_0f7a4_2 (by decide) ?_
  refine zV_iushr (v := (x0.toUInt32 >>> ((1 : Int32).toUInt32 &&& Int32.toUInt32 31)).toInt32) dJ6_bitCount_0f7a4_3 rfl ?_
  refine zV_ldc_w (v := 1431655765) dJ6_bitCount_0f7a4_4 zd_RJ6_265 ?_
  refine zV_iand dJ6_bitCount_0f7a4_7 ?_
  refine zV_isub dJ6_bitCount_0f7a4_8 ?_
  refine zV_top (fun u1 e2 => ?_)
  replace h := zlet_of h e2
  refine zV_istore_n [(0, .int u1)] dJ6_bitCount_0f7a4_9 rfl (by decide) rfl rfl ?_
  refine zV_iload_n (j := 0) dJ6_bitCount_0f7a4_10 rfl rfl ?_
  refine zV_ldc_w (v := 858993459) dJ6_bitCount_0f7a4_11 zd_RJ6_266 ?_
  refine zV_iand dJ6_bitCount_0f7a4_14 ?_
  refine zV_iload_n (j := 0) dJ6_bitCount_0f7a4_15 rfl rfl ?_
  refine zV_iconst (v := 2) dJ6_bitCount_0f7a4_16 (by decide) ?_
  refine zV_iushr (v := (u1.toUInt32 >>> ((2 : Int32).toUInt32 &&& Int32.toUInt32 31)).toInt32) dJ6_bitCount_0f7a4_17 rfl ?_
  refine zV_ldc_w (v := 858993459) dJ6_bitCount_0f7a4_18 zd_RJ6_266 ?_
  refine zV_iand dJ6_bitCount_0f7a4_21 ?_
  refine zV_iadd dJ6_bitCount_0f7a4_22 ?_
  refine zV_top (fun u3 e4 => ?_)
  replace h := zlet_of h e4
  refine zV_istore_n [(0, .int u3)] dJ6_bitCount_0f7a4_23 rfl (by decide) rfl rfl ?_
  refine zV_iload_n (j := 0) dJ6_bitCount_0f7a4_24 rfl rfl ?_
  refine zV_iload_n (j := 0) dJ6_bitCount_0f7a4_25 rfl rfl ?_
  refine zV_iconst (v := 4) dJ6_bitCount_0f7a4_26 (by decide) ?_
  refine zV_iushr (v := (u3.toUInt32 >>> ((4 : Int32).toUInt32 &&& Int32.toUInt32 31)).toInt32) dJ6_bitCount_0f7a4_27 rfl ?_
  refine zV_iadd dJ6_bitCount_0f7a4_28 ?_
  refine zV_ldc_w (v := 252645135) dJ6_bitCount_0f7a4_29 zd_RJ6_267 ?_
  refine zV_iand dJ6_bitCount_0f7a4_32 ?_
  refine zV_top (fun u5 e6 => ?_)
  replace h := zlet_of h e6
  refine zV_istore_n [(0, .int u5)] dJ6_bitCount_0f7a4_33 rfl (by decide) rfl rfl ?_
  refine zV_iload_n (j := 0) dJ6_bitCount_0f7a4_34 rfl rfl ?_
  refine zV_iload_n (j := 0) dJ6_bitCount_0f7a4_35 rfl rfl ?_
  refine zV_bipush (v := 8) dJ6_bitCount_0f7a4_36 (by decide) ?_
  refine zV_iushr (v := (u5.toUInt32 >>> ((8 : Int32).toUInt32 &&& Int32.toUInt32 31)).toInt32) dJ6_bitCount_0f7a4_38 rfl ?_
  refine zV_iadd dJ6_bitCount_0f7a4_39 ?_
  refine zV_top (fun u7 e8 => ?_)
  replace h := zlet_of h e8
  refine zV_istore_n [(0, .int u7)] dJ6_bitCount_0f7a4_40 rfl (by decide) rfl rfl ?_
  refine zV_iload_n (j := 0) dJ6_bitCount_0f7a4_41 rfl rfl ?_
  refine zV_iload_n (j := 0) dJ6_bitCount_0f7a4_42 rfl rfl ?_
  refine zV_bipush (v := 16) dJ6_bitCount_0f7a4_43 (by decide) ?_
  refine zV_iushr (v := (u7.toUInt32 >>> ((16 : Int32).toUInt32 &&& Int32.toUInt32 31)).toInt32) dJ6_bitCount_0f7a4_45 rfl ?_
  refine zV_iadd dJ6_bitCount_0f7a4_46 ?_
  refine zV_top (fun u9 e10 => ?_)
  replace h := zlet_of h e10
  refine zV_istore_n [(0, .int u9)] dJ6_bitCount_0f7a4_47 rfl (by decide) rfl rfl ?_
  refine zV_iload_n (j := 0) dJ6_bitCount_0f7a4_48 rfl rfl ?_
  refine zV_bipush (v := 63) dJ6_bitCount_0f7a4_49 (by decide) ?_
  refine zV_iand dJ6_bitCount_0f7a4_51 ?_
  exact zV_iret rfl dJ6_bitCount_0f7a4_52 (by decide) (by decide) (z_ret h)
set_option maxHeartbeats 4000000 in
set_option maxRecDepth 100000 in
theorem vX4_canEnd (l : Launch) (D : va_G) (T : Nat → ClassId) (b : Nat) (gr : Bool) (x0 : Nat) (M : zM) (r : Int32) (M' : zM) (h : fX4_canEnd x0 M = some (r, M')) : zMet l D T b gr yX4_canEnd cX4_canEnd 1 (some .boolean) 0 0 0 [zr b x0] M (0, r, M') := by
  refine zEntry2 (ev := zE0) rfl false (fun h9 => nomatch h9) zp_yX4_canEnd ⟨zr_cat _ _, trivial⟩ (Nat.le_of_ble_eq_true rfl) ?_
  obtain ⟨o, ho⟩ : ∃ o : Int32 × zM, o = (r, M') := ⟨_, rfl⟩
  rw [← ho] at h
  rw [show ((0, r, M') : Nat × Int32 × zM) = (0, o.1, o.2) by rw [ho]]
  show zV false l RX4 cX4_canEnd 1 (some .boolean) false 0 0 0 D T zE0 b gr M.2.2.2 (0, o.1, o.2) 0 0 0 [(0, zr b x0)] [] M
  unfold fX4_canEnd at h
  refine zV_aload_n (j := 0) dX4_canEnd_0 rfl rfl ?_
  obtain ⟨g1, h⟩ := zg_of h
  refine zV_getI zf_RX4_26 dX4_canEnd_1 rfl g1 ?_
  refine zV_if_le (tgt := 48) dX4_canEnd_4 (by decide) (fun c2 => ?_) (fun c2 => ?_)
  · replace h := z_t c2 h
    refine zV_iconst (v := 0) dX4_canEnd_48 (by decide) ?_
    exact zV_zret rfl dX4_canEnd_49 (by decide) (by decide) (Or.inl rfl) (z_ret h)
  · replace h := z_f c2 h
    refine zV_aload_n (j := 0) dX4_canEnd_7 rfl rfl ?_
    refine zV_getR zf_RX4_22 dX4_canEnd_8 rfl g1 ?_
    obtain ⟨g3, h⟩ := zg_of h
    refine zV_getR zf_RX4_32 dX4_canEnd_11 rfl g3 ?_
    refine zV_aload_n (j := 0) dX4_canEnd_14 rfl rfl ?_
    refine zV_getR zf_RX4_9 dX4_canEnd_15 rfl g1 ?_
    refine zV_aload_n (j := 0) dX4_canEnd_18 rfl rfl ?_
    refine zV_getI zf_RX4_26 dX4_canEnd_19 rfl g1 ?_
    refine zV_iconst (v := 1) dX4_canEnd_22 (by decide) ?_
    refine zV_isub dX4_canEnd_23 ?_
    obtain ⟨g4, h⟩ := zg_of h
    obtain ⟨g5, h⟩ := zg_of h
    refine zV_iald dX4_canEnd_24 g4 g5 ?_
    obtain ⟨g6, h⟩ := zg_of h
    obtain ⟨g7, h⟩ := zg_of h
    refine zV_aald 110 4 dX4_canEnd_25 g6 ⟨by decide, by decide⟩ rfl g7 ?_
    obtain ⟨g8, h⟩ := zg_of h
    refine zV_getR zf_RX4_38 dX4_canEnd_26 rfl g8 ?_
    refine zV_aload_n (j := 0) dX4_canEnd_29 rfl rfl ?_
    refine zV_getR zf_RX4_15 dX4_canEnd_30 rfl g1 ?_
    refine zV_aload_n (j := 0) dX4_canEnd_33 rfl rfl ?_
    refine zV_getI zf_RX4_26 dX4_canEnd_34 rfl g1 ?_
    refine zV_iconst (v := 1) dX4_canEnd_37 (by decide) ?_
    refine zV_isub dX4_canEnd_38 ?_
    obtain ⟨g9, h⟩ := zg_of h
    obtain ⟨g10, h⟩ := zg_of h
    refine zV_iald dX4_canEnd_39 g9 g10 ?_
    obtain ⟨g11, h⟩ := zg_of h
    obtain ⟨g12, h⟩ := zg_of h
    refine zV_zald dX4_canEnd_40 g11 g12 ?_
    refine zV_if_eq (tgt := 48) dX4_canEnd_41 (by decide) (fun c13 => ?_) (fun c13 => ?_)
    · replace h := z_t c13 h
      refine zV_iconst (v := 0) dX4_canEnd_48 (by decide) ?_
      exact zV_zret rfl dX4_canEnd_49 (by decide) (by decide) (Or.inl rfl) (z_ret h)
    · replace h := z_f c13 h
      refine zV_iconst (v := 1) dX4_canEnd_44 (by decide) ?_
      refine zV_goto (tgt := 49) dX4_canEnd_45 (by decide) ?_
      exact zV_zret rfl dX4_canEnd_49 (by decide) (by decide) (Or.inr rfl) (z_ret h)
set_option maxHeartbeats 4000000 in
set_option maxRecDepth 100000 in
theorem vX7_lowestOf (l : Launch) (D : va_G) (T : Nat → ClassId) (b : Nat) (gr : Bool) (x0 : Int32) (M : zM) (r : Int32) (M' : zM) (h : fX7_lowestOf x0 M = some (r, M')) : zMet l D T b gr yX7_lowestOf cX7_lowestOf 1 (some .int) 1 0 0 [.int x0] M (0, r, M') := by
  refine zEntry2 (ev := zE0) rfl false (fun h9 => nomatch h9) zp_yX7_lowestOf ⟨rfl, trivial⟩ (Nat.le_of_ble_eq_true rfl) ?_
  obtain ⟨o, ho⟩ : ∃ o : Int32 × zM, o = (r, M') := ⟨_, rfl⟩
  rw [← ho] at h
  rw [show ((0, r, M') : Nat × Int32 × zM) = (0, o.1, o.2) by rw [ho]]
  show zV false l RX7 cX7_lowestOf 1 (some .int) false 1 0 0 D T zE0 b gr M.2.2.2 (0, o.1, o.2) 0 0 0 [(0, .int x0)] [] M
  unfold fX7_lowestOf at h
  refine zV_iload_n (j := 0) dX7_lowestOf_0 rfl rfl ?_
  refine zV_iload_n (j := 0) dX7_lowestOf_1 rfl rfl ?_
  refine zV_ineg dX7_lowestOf_2 ?_
  refine zV_iand dX7_lowestOf_3 ?_
  refine zV_iconst (v := 1) dX7_lowestOf_4 (by decide) ?_
  refine zV_isub dX7_lowestOf_5 ?_
  obtain ⟨r1, M2, q3, h⟩ := zb_of h
  refine zV_callSi (As := [.int ((x0 &&& (-x0)) - 1)]) (rest := []) (vJ6_bitCount_0f7a4 l D T b gr ((x0 &&& (-x0)) - 1) M _ _ q3) zm_yJ6_bitCount_0f7a4 zl_RX7_224 zs_yJ6_bitCount_0f7a4 rfl rfl (zcs trivial (Nat.le_of_ble_eq_true rfl)) (by decide) (by decide) (by decide) dX7_lowestOf_6 ?_
  exact zV_iret rfl dX7_lowestOf_9 (by decide) (by decide) (z_ret h)
set_option maxHeartbeats 4000000 in
set_option maxRecDepth 100000 in
theorem vX4_elementToPutIn (l : Launch) (D : va_G) (T : Nat → ClassId) (b : Nat) (gr : Bool) (x0 : Nat) (M : zM) (r : Int32) (M' : zM) (h : fX4_elementToPutIn x0 M = some (r, M')) : zMet l D T b gr yX4_elementToPutIn cX4_elementToPutIn 3 (some .int) 2 0 0 [zr b x0] M (0, r, M') := by
  refine zEntry2 (ev := zE0) rfl false (fun h9 => nomatch h9) zp_yX4_elementToPutIn ⟨zr_cat _ _, trivial⟩ (Nat.le_of_ble_eq_true rfl) ?_
  obtain ⟨o, ho⟩ : ∃ o : Int32 × zM, o = (r, M') := ⟨_, rfl⟩
  rw [← ho] at h
  rw [show ((0, r, M') : Nat × Int32 × zM) = (0, o.1, o.2) by rw [ho]]
  show zV false l RX4 cX4_elementToPutIn 3 (some .int) false 2 0 0 D T zE0 b gr M.2.2.2 (0, o.1, o.2) 0 0 0 [(0, zr b x0)] [] M
  unfold fX4_elementToPutIn at h
  refine zV_aload_n (j := 0) dX4_elementToPutIn_0 rfl rfl ?_
  obtain ⟨g1, h⟩ := zg_of h
  obtain ⟨r2, M3, q4, h⟩ := zb_of h
  refine zV_callVi (ci := 4) (As := []) (rest := []) (vX4_goesOnWith l D T b gr x0 M _ _ q4) zm_yX4_goesOnWith zl_RX4_64 zi_yX4_goesOnWith ze_yX4_goesOnWith zcI4 g1 rfl rfl (zcs trivial (Nat.le_of_ble_eq_true rfl)) (by decide) (by decide) (by decide) dX4_elementToPutIn_1 ?_
  refine zV_istore_n [(1, .int r2), (0, zr b x0)] dX4_elementToPutIn_4 rfl (by decide) rfl rfl ?_
  refine zV_iload_n (j := 0) dX4_elementToPutIn_5 rfl rfl ?_
  obtain ⟨r5, M6, q7, h⟩ := zb_of h
  refine zV_callSi (As := [.int r2]) (rest := []) (vJ6_bitCount_0f7a4 l D T b gr r2 M3 _ _ q7) zm_yJ6_bitCount_0f7a4 zl_RX4_68 zs_yJ6_bitCount_0f7a4 rfl rfl (zcs trivial (Nat.le_of_ble_eq_true rfl)) (by decide) (by decide) (by decide) dX4_elementToPutIn_6 ?_
  refine zV_iconst (v := 1) dX4_elementToPutIn_9 (by decide) ?_
  refine zV_icmp_ne (tgt := 29) dX4_elementToPutIn_10 (by decide) (fun c8 => ?_) (fun c8 => ?_)
  · replace h := z_f c8 h
    refine zV_iconst (v := (-1)) dX4_elementToPutIn_29 (by decide) ?_
    exact zV_iret rfl dX4_elementToPutIn_30 (by decide) (by decide) (z_ret h)
  · replace h := z_t c8 h
    refine zV_aload_n (j := 1) dX4_elementToPutIn_13 rfl rfl ?_
    obtain ⟨g9, h⟩ := zg_of h
    obtain ⟨r10, M11, q12, h⟩ := zb_of h
    refine zV_callVi (ci := 4) (As := []) (rest := []) (vX4_canEnd l D T b gr x0 M6 _ _ q12) zm_yX4_canEnd zl_RX4_74 zi_yX4_canEnd ze_yX4_canEnd zcI4 g9 rfl rfl (zcs trivial (Nat.le_of_ble_eq_true rfl)) (by decide) (by decide) (by decide) dX4_elementToPutIn_14 ?_
    refine zV_if_ne (tgt := 29) dX4_elementToPutIn_17 (by decide) (fun c13 => ?_) (fun c13 => ?_)
    · replace h := z_f c13 h
      refine zV_iconst (v := (-1)) dX4_elementToPutIn_29 (by decide) ?_
      exact zV_iret rfl dX4_elementToPutIn_30 (by decide) (by decide) (z_ret h)
    · replace h := z_t c13 h
      refine zV_aload_n (j := 1) dX4_elementToPutIn_20 rfl rfl ?_
      obtain ⟨g14, h⟩ := zg_of h
      refine zV_getI zf_RX4_26 dX4_elementToPutIn_21 rfl g14 ?_
      refine zV_bipush (v := 20) dX4_elementToPutIn_24 (by decide) ?_
      refine zV_icmp_lt (tgt := 31) dX4_elementToPutIn_26 (by decide) (fun c15 => ?_) (fun c15 => ?_)
      · replace h := z_t c15 h
        refine zV_iload_n (j := 0) dX4_elementToPutIn_31 rfl rfl ?_
        obtain ⟨r16, M17, q18, h⟩ := zb_of h
        refine zV_callSNi (As := [.int r2]) (rest := []) (vX7_lowestOf l D T b gr r2 M11 _ _ q18) zm_yX7_lowestOf zl_RX4_78 zs_yX7_lowestOf rfl rfl (zcs trivial (Nat.le_of_ble_eq_true rfl)) (by decide) (by decide) (by decide) dX4_elementToPutIn_32 ?_
        refine zV_istore_n [(2, .int r16), (1, .int r2), (0, zr b x0)] dX4_elementToPutIn_35 rfl (by decide) rfl rfl ?_
        refine zV_iload_n (j := 0) dX4_elementToPutIn_36 rfl rfl ?_
        refine zV_bipush (v := 10) dX4_elementToPutIn_37 (by decide) ?_
        refine zV_icmp_ge (tgt := 69) dX4_elementToPutIn_39 (by decide) (fun c19 => ?_) (fun c19 => ?_)
        · replace h := z_t c19 h
          refine zV_iconst (v := (-1)) dX4_elementToPutIn_69 (by decide) ?_
          exact zV_iret rfl dX4_elementToPutIn_70 (by decide) (by decide) (z_ret h)
        · replace h := z_f c19 h
          refine zV_aload_n (j := 2) dX4_elementToPutIn_42 rfl rfl ?_
          obtain ⟨g20, h⟩ := zg_of h
          refine zV_getR zf_RX4_22 dX4_elementToPutIn_43 rfl g20 ?_
          obtain ⟨g21, h⟩ := zg_of h
          refine zV_getR zf_RX4_81 dX4_elementToPutIn_46 rfl g21 ?_
          refine zV_iload_n (j := 0) dX4_elementToPutIn_49 rfl rfl ?_
          obtain ⟨g22, h⟩ := zg_of h
          obtain ⟨g23, h⟩ := zg_of h
          refine zV_zald dX4_elementToPutIn_50 g22 g23 ?_
          refine zV_if_eq (tgt := 69) dX4_elementToPutIn_51 (by decide) (fun c24 => ?_) (fun c24 => ?_)
          · replace h := z_t c24 h
            refine zV_iconst (v := (-1)) dX4_elementToPutIn_69 (by decide) ?_
            exact zV_iret rfl dX4_elementToPutIn_70 (by decide) (by decide) (z_ret h)
          · replace h := z_f c24 h
            refine zV_aload_n (j := 2) dX4_elementToPutIn_54 rfl rfl ?_
            refine zV_getR zf_RX4_22 dX4_elementToPutIn_55 rfl g20 ?_
            refine zV_getR zf_RX4_32 dX4_elementToPutIn_58 rfl g21 ?_
            refine zV_iload_n (j := 0) dX4_elementToPutIn_61 rfl rfl ?_
            obtain ⟨g25, h⟩ := zg_of h
            obtain ⟨g26, h⟩ := zg_of h
            refine zV_aald 110 4 dX4_elementToPutIn_62 g25 ⟨by decide, by decide⟩ rfl g26 ?_
            obtain ⟨g27, h⟩ := zg_of h
            refine zV_getI zf_RX4_84 dX4_elementToPutIn_63 rfl g27 ?_
            refine zV_if_ne (tgt := 71) dX4_elementToPutIn_66 (by decide) (fun c28 => ?_) (fun c28 => ?_)
            · replace h := z_f c28 h
              refine zV_aload_n (j := 2) dX4_elementToPutIn_71 rfl rfl ?_
              refine zV_iload_n (j := 0) dX4_elementToPutIn_72 rfl rfl ?_
              obtain ⟨r29, M30, q31, h⟩ := zb_of h
              refine zV_callVi (ci := 4) (As := [.int r16]) (rest := []) (vX4_isExcluded l D T b gr x0 r16 M17 _ _ q31) zm_yX4_isExcluded zl_RX4_47 zi_yX4_isExcluded ze_yX4_isExcluded zcI4 g20 rfl rfl (zcs trivial (Nat.le_of_ble_eq_true rfl)) (by decide) (by decide) (by decide) dX4_elementToPutIn_73 ?_
              refine zV_if_eq (tgt := 83) dX4_elementToPutIn_76 (by decide) (fun c32 => ?_) (fun c32 => ?_)
              · replace h := z_t c32 h
                refine zV_iload_n (j := 0) dX4_elementToPutIn_83 rfl rfl ?_
                exact zV_iret rfl dX4_elementToPutIn_84 (by decide) (by decide) (z_ret h)
              · replace h := z_f c32 h
                refine zV_iconst (v := (-1)) dX4_elementToPutIn_79 (by decide) ?_
                refine zV_goto (tgt := 84) dX4_elementToPutIn_80 (by decide) ?_
                exact zV_iret rfl dX4_elementToPutIn_84 (by decide) (by decide) (z_ret h)
            · replace h := z_t c28 h
              refine zV_iconst (v := (-1)) dX4_elementToPutIn_69 (by decide) ?_
              exact zV_iret rfl dX4_elementToPutIn_70 (by decide) (by decide) (z_ret h)
      · replace h := z_f c15 h
        refine zV_iconst (v := (-1)) dX4_elementToPutIn_29 (by decide) ?_
        exact zV_iret rfl dX4_elementToPutIn_30 (by decide) (by decide) (z_ret h)
set_option maxHeartbeats 4000000 in
set_option maxRecDepth 100000 in
theorem vX4_mayCloseUnasked (l : Launch) (D : va_G) (T : Nat → ClassId) (b : Nat) (gr : Bool) (x0 : Nat) (M : zM) (r : Int32) (M' : zM) (h : fX4_mayCloseUnasked x0 M = some (r, M')) : zMet l D T b gr yX4_mayCloseUnasked cX4_mayCloseUnasked 1 (some .boolean) 1 0 0 [zr b x0] M (0, r, M') := by
  refine zEntry2 (ev := zE0) rfl false (fun h9 => nomatch h9) zp_yX4_mayCloseUnasked ⟨zr_cat _ _, trivial⟩ (Nat.le_of_ble_eq_true rfl) ?_
  obtain ⟨o, ho⟩ : ∃ o : Int32 × zM, o = (r, M') := ⟨_, rfl⟩
  rw [← ho] at h
  rw [show ((0, r, M') : Nat × Int32 × zM) = (0, o.1, o.2) by rw [ho]]
  show zV false l RX4 cX4_mayCloseUnasked 1 (some .boolean) false 1 0 0 D T zE0 b gr M.2.2.2 (0, o.1, o.2) 0 0 0 [(0, zr b x0)] [] M
  unfold fX4_mayCloseUnasked at h
  refine zV_aload_n (j := 0) dX4_mayCloseUnasked_0 rfl rfl ?_
  obtain ⟨g1, h⟩ := zg_of h
  refine zV_getI zf_RX4_26 dX4_mayCloseUnasked_1 rfl g1 ?_
  refine zV_iconst (v := 1) dX4_mayCloseUnasked_4 (by decide) ?_
  refine zV_icmp_le (tgt := 41) dX4_mayCloseUnasked_5 (by decide) (fun c2 => ?_) (fun c2 => ?_)
  · replace h := z_t c2 h
    refine zV_iconst (v := 0) dX4_mayCloseUnasked_41 (by decide) ?_
    exact zV_zret rfl dX4_mayCloseUnasked_42 (by decide) (by decide) (Or.inl rfl) (z_ret h)
  · replace h := z_f c2 h
    refine zV_aload_n (j := 0) dX4_mayCloseUnasked_8 rfl rfl ?_
    refine zV_getR zf_RX4_22 dX4_mayCloseUnasked_9 rfl g1 ?_
    obtain ⟨g3, h⟩ := zg_of h
    refine zV_getR zf_RX4_87 dX4_mayCloseUnasked_12 rfl g3 ?_
    refine zV_aload_n (j := 0) dX4_mayCloseUnasked_15 rfl rfl ?_
    refine zV_getR zf_RX4_9 dX4_mayCloseUnasked_16 rfl g1 ?_
    refine zV_aload_n (j := 0) dX4_mayCloseUnasked_19 rfl rfl ?_
    refine zV_getI zf_RX4_26 dX4_mayCloseUnasked_20 rfl g1 ?_
    refine zV_iconst (v := 1) dX4_mayCloseUnasked_23 (by decide) ?_
    refine zV_isub dX4_mayCloseUnasked_24 ?_
    obtain ⟨g4, h⟩ := zg_of h
    obtain ⟨g5, h⟩ := zg_of h
    refine zV_iald dX4_mayCloseUnasked_25 g4 g5 ?_
    obtain ⟨g6, h⟩ := zg_of h
    obtain ⟨g7, h⟩ := zg_of h
    refine zV_zald dX4_mayCloseUnasked_26 g6 g7 ?_
    refine zV_if_eq (tgt := 41) dX4_mayCloseUnasked_27 (by decide) (fun c8 => ?_) (fun c8 => ?_)
    · replace h := z_t c8 h
      refine zV_iconst (v := 0) dX4_mayCloseUnasked_41 (by decide) ?_
      exact zV_zret rfl dX4_mayCloseUnasked_42 (by decide) (by decide) (Or.inl rfl) (z_ret h)
    · replace h := z_f c8 h
      refine zV_aload_n (j := 0) dX4_mayCloseUnasked_30 rfl rfl ?_
      obtain ⟨r9, M10, q11, h⟩ := zb_of h
      refine zV_callVi (ci := 4) (As := []) (rest := []) (vX4_canEnd l D T b gr x0 M _ _ q11) zm_yX4_canEnd zl_RX4_74 zi_yX4_canEnd ze_yX4_canEnd zcI4 g1 rfl rfl (zcs trivial (Nat.le_of_ble_eq_true rfl)) (by decide) (by decide) (by decide) dX4_mayCloseUnasked_31 ?_
      refine zV_if_eq (tgt := 41) dX4_mayCloseUnasked_34 (by decide) (fun c12 => ?_) (fun c12 => ?_)
      · replace h := z_t c12 h
        refine zV_iconst (v := 0) dX4_mayCloseUnasked_41 (by decide) ?_
        exact zV_zret rfl dX4_mayCloseUnasked_42 (by decide) (by decide) (Or.inl rfl) (z_ret h)
      · replace h := z_f c12 h
        refine zV_iconst (v := 1) dX4_mayCloseUnasked_37 (by decide) ?_
        refine zV_goto (tgt := 42) dX4_mayCloseUnasked_38 (by decide) ?_
        exact zV_zret rfl dX4_mayCloseUnasked_42 (by decide) (by decide) (Or.inr rfl) (z_ret h)
set_option maxHeartbeats 4000000 in
set_option maxRecDepth 100000 in
theorem vX4_leave (l : Launch) (D : va_G) (T : Nat → ClassId) (b : Nat) (gr : Bool) (x0 : Nat) (M : zM) (r : Int32) (M' : zM) (h : fX4_leave x0 M = some (r, M')) : zMet l D T b gr yX4_leave cX4_leave 1 none 0 0 0 [zr b x0] M (0, r, M') := by
  refine zEntry2 (ev := zE0) rfl false (fun h9 => nomatch h9) zp_yX4_leave ⟨zr_cat _ _, trivial⟩ (Nat.le_of_ble_eq_true rfl) ?_
  obtain ⟨o, ho⟩ : ∃ o : Int32 × zM, o = (r, M') := ⟨_, rfl⟩
  rw [← ho] at h
  rw [show ((0, r, M') : Nat × Int32 × zM) = (0, o.1, o.2) by rw [ho]]
  show zV false l RX4 cX4_leave 1 none false 0 0 0 D T zE0 b gr M.2.2.2 (0, o.1, o.2) 0 0 0 [(0, zr b x0)] [] M
  unfold fX4_leave at h
  refine zV_aload_n (j := 0) dX4_leave_0 rfl rfl ?_
  obtain ⟨g1, h⟩ := zg_of h
  refine zV_getI zf_RX4_26 dX4_leave_1 rfl g1 ?_
  refine zV_if_le (tgt := 17) dX4_leave_4 (by decide) (fun c2 => ?_) (fun c2 => ?_)
  · replace h := z_t c2 h
    exact zV_vret (x := 0) rfl dX4_leave_17 (by decide) (by decide) (z_ret h)
  · replace h := z_f c2 h
    refine zV_aload_n (j := 0) dX4_leave_7 rfl rfl ?_
    refine zV_dup dX4_leave_8 (zr_cat _ _) ?_
    refine zV_getI zf_RX4_26 dX4_leave_9 rfl g1 ?_
    refine zV_iconst (v := 1) dX4_leave_12 (by decide) ?_
    refine zV_isub dX4_leave_13 ?_
    refine zV_putI zf_RX4_26 dX4_leave_14 rfl rfl g1 ?_
    refine zV_mem (fun M3 e4 => ?_)
    replace h := zlet_of h e4
    exact zV_vret (x := 0) rfl dX4_leave_17 (by decide) (by decide) (z_ret h)
set_option maxHeartbeats 4000000 in
set_option maxRecDepth 100000 in
theorem vX2_readThing_189 {l : Launch} {D : va_G} {T : Nat → ClassId} {b : Nat} {gr : Bool} {n0 : Nat} (k5 : Nat → Int32 → Int32 → Int32 → Int32 → zM → Option (Int32 × zM)) (hk5 : ∀ (z0 : Nat) (z1 : Int32) (z2 : Int32) (z3 : Int32) (z4 : Int32) (N : zM) (o : Int32 × zM), k5 z0 z1 z2 z3 z4 N = some o → zV false l RX2 cX2_readThing 6 none false 3 0 0 D T zE0 b gr n0 (0, o.1, o.2) 0 0 5 [(0, zr b z0), (1, .int z1), (2, .int z2), (3, .int z3), (4, .int z4)] [] N) (x0 : Nat) (x1 : Int32) (x2 : Int32) (x3 : Int32) (x4 : Int32) (M : zM) (o : Int32 × zM) (h : fX2_readThing_189 k5 x0 x1 x2 x3 x4 M = some o) : zV false l RX2 cX2_readThing 6 none false 3 0 0 D T zE0 b gr n0 (0, o.1, o.2) 0 0 189 [(0, zr b x0), (1, .int x1), (2, .int x2), (3, .int x3), (4, .int x4)] [] M := by
  unfold fX2_readThing_189 at h
  obtain ⟨u1, e2⟩ : ∃ y : Int32, y = x4 + 1 := ⟨_, rfl⟩
  replace h := zlet_of h e2
  refine zV_iinc (j := 4) (v := u1) [(4, .int u1), (0, zr b x0), (1, .int x1), (2, .int x2), (3, .int x3)] dX2_readThing_189 rfl (by rw [e2]; rfl) (by decide) rfl rfl ?_
  refine zV_goto (tgt := 5) dX2_readThing_192 (by decide) ?_
  refine zV_pk [1, 2, 3, 4, 0] rfl ?_
  exact hk5 x0 x1 x2 x3 u1 M _ h
set_option maxHeartbeats 4000000 in
set_option maxRecDepth 100000 in
theorem vX2_readThing_183 {l : Launch} {D : va_G} {T : Nat → ClassId} {b : Nat} {gr : Bool} {n0 : Nat} (x0 : Nat) (M : zM) (o : Int32 × zM) (h : fX2_readThing_183 x0 M = some o) : zV false l RX2 cX2_readThing 6 none false 3 0 0 D T zE0 b gr n0 (0, o.1, o.2) 0 0 183 [(0, zr b x0)] [] M := by
  unfold fX2_readThing_183 at h
  refine zV_aload_n (j := 0) dX2_readThing_183 rfl rfl ?_
  refine zV_iconst (v := 0) dX2_readThing_184 (by decide) ?_
  obtain ⟨g3, h⟩ := zg_of h
  obtain ⟨r4, M5, q6, h⟩ := zb_of h
  refine zV_callVv (ci := 2) (As := [.int 0]) (rest := []) (vX2_addError l D T b gr x0 0 M _ _ q6) zm_yX2_addError zl_RX2_142 zi_yX2_addError ze_yX2_addError zcI2 g3 rfl rfl (zcs trivial (Nat.le_of_ble_eq_true rfl)) (by decide) (by decide) (by decide) dX2_readThing_185 ?_
  exact zV_vret (x := 0) rfl dX2_readThing_188 (by decide) (by decide) (z_ret h)
set_option maxHeartbeats 4000000 in
set_option maxRecDepth 100000 in
theorem vX2_readThing_122 {l : Launch} {D : va_G} {T : Nat → ClassId} {b : Nat} {gr : Bool} {n0 : Nat} (k5 : Nat → Int32 → Int32 → Int32 → Int32 → zM → Option (Int32 × zM)) (hk5 : ∀ (z0 : Nat) (z1 : Int32) (z2 : Int32) (z3 : Int32) (z4 : Int32) (N : zM) (o : Int32 × zM), k5 z0 z1 z2 z3 z4 N = some o → zV false l RX2 cX2_readThing 6 none false 3 0 0 D T zE0 b gr n0 (0, o.1, o.2) 0 0 5 [(0, zr b z0), (1, .int z1), (2, .int z2), (3, .int z3), (4, .int z4)] [] N) (x0 : Nat) (x1 : Int32) (x2 : Int32) (x3 : Int32) (x4 : Int32) (x5 : Int32) (M : zM) (o : Int32 × zM) (h : fX2_readThing_122 k5 x0 x1 x2 x3 x4 x5 M = some o) : zV false l RX2 cX2_readThing 6 none false 3 0 0 D T zE0 b gr n0 (0, o.1, o.2) 0 0 122 [(0, zr b x0), (1, .int x1), (2, .int x2), (3, .int x3), (4, .int x4), (5, .int x5)] [] M := by
  unfold fX2_readThing_122 at h
  refine zV_iload (j := 5) dX2_readThing_122 rfl ?_
  refine zV_iconst (v := (-1)) dX2_readThing_124 (by decide) ?_
  refine zV_icmp_eq (tgt := 153) dX2_readThing_125 (by decide) (fun c7 => ?_) (fun c7 => ?_)
  · replace h := z_t c7 h
    refine zV_aload_n (j := 0) dX2_readThing_153 rfl rfl ?_
    obtain ⟨g8, h⟩ := zg_of h
    refine zV_getR zf_RX2_66 dX2_readThing_154 rfl g8 ?_
    obtain ⟨g9, h⟩ := zg_of h
    obtain ⟨r10, M11, q12, h⟩ := zb_of h
    refine zV_callVi (ci := 4) (As := []) (rest := []) (vX4_mayCloseUnasked l D T b gr (zR M x0 10) M _ _ q12) zm_yX4_mayCloseUnasked zl_RX2_185 zi_yX4_mayCloseUnasked ze_yX4_mayCloseUnasked zcI4 g9 rfl rfl (zcs trivial (Nat.le_of_ble_eq_true rfl)) (by decide) (by decide) (by decide) dX2_readThing_157 ?_
    refine zV_if_eq (tgt := 183) dX2_readThing_160 (by decide) (fun c13 => ?_) (fun c13 => ?_)
    · replace h := z_t c13 h
      refine zV_pk [0] rfl ?_
      exact vX2_readThing_183 x0 M11 _ h
    · replace h := z_f c13 h
      refine zV_aload_n (j := 0) dX2_readThing_163 rfl rfl ?_
      obtain ⟨g14, h⟩ := zg_of h
      refine zV_getR zf_RX2_66 dX2_readThing_164 rfl g14 ?_
      obtain ⟨g15, h⟩ := zg_of h
      obtain ⟨r16, M17, q18, h⟩ := zb_of h
      refine zV_callVv (ci := 4) (As := []) (rest := []) (vX4_leave l D T b gr (zR M11 x0 10) M11 _ _ q18) zm_yX4_leave zl_RX2_189 zi_yX4_leave ze_yX4_leave zcI4 g15 rfl rfl (zcs trivial (Nat.le_of_ble_eq_true rfl)) (by decide) (by decide) (by decide) dX2_readThing_167 ?_
      refine zV_aload_n (j := 0) dX2_readThing_170 rfl rfl ?_
      refine zV_dup dX2_readThing_171 (zr_cat _ _) ?_
      obtain ⟨g19, h⟩ := zg_of h
      refine zV_getI zf_RX2_81 dX2_readThing_172 rfl g19 ?_
      refine zV_iconst (v := 1) dX2_readThing_175 (by decide) ?_
      refine zV_iadd dX2_readThing_176 ?_
      refine zV_putI zf_RX2_81 dX2_readThing_177 rfl rfl g19 ?_
      refine zV_mem (fun M20 e21 => ?_)
      replace h := zlet_of h e21
      refine zV_goto (tgt := 189) dX2_readThing_180 (by decide) ?_
      refine zV_pk [0, 1, 2, 3, 4] rfl ?_
      exact vX2_readThing_189 k5 hk5 x0 x1 x2 x3 x4 M20 _ h
  · replace h := z_f c7 h
    refine zV_aload_n (j := 0) dX2_readThing_128 rfl rfl ?_
    obtain ⟨g22, h⟩ := zg_of h
    refine zV_getR zf_RX2_66 dX2_readThing_129 rfl g22 ?_
    refine zV_iload (j := 5) dX2_readThing_132 rfl ?_
    obtain ⟨g23, h⟩ := zg_of h
    obtain ⟨r24, M25, q26, h⟩ := zb_of h
    refine zV_callVi (ci := 4) (As := [.int x5]) (rest := []) (vX4_accept l D T b gr (zR M x0 10) x5 M _ _ q26) zm_yX4_accept zl_RX2_168 zi_yX4_accept ze_yX4_accept zcI4 g23 rfl rfl (zcs trivial (Nat.le_of_ble_eq_true rfl)) (by decide) (by decide) (by decide) dX2_readThing_134 ?_
    refine zV_pop dX2_readThing_137 rfl ?_
    refine zV_aload_n (j := 0) dX2_readThing_138 rfl rfl ?_
    refine zV_iload (j := 5) dX2_readThing_139 rfl ?_
    refine zV_bipush (v := 60) dX2_readThing_141 (by decide) ?_
    refine zV_iconst (v := 1) dX2_readThing_143 (by decide) ?_
    obtain ⟨g27, h⟩ := zg_of h
    obtain ⟨r28, M29, q30, h⟩ := zb_of h
    refine zV_callVv (ci := 2) (As := [.int x5, .int 60, .int 1]) (rest := []) (vX2_addThing l D T b gr x0 x5 60 1 M25 _ _ q30) zm_yX2_addThing zl_RX2_172 zi_yX2_addThing ze_yX2_addThing zcI2 g27 rfl rfl (zcs trivial (Nat.le_of_ble_eq_true rfl)) (by decide) (by decide) (by decide) dX2_readThing_144 ?_
    obtain ⟨u31, e32⟩ : ∃ y : Int32, y = x3 + 1 := ⟨_, rfl⟩
    replace h := zlet_of h e32
    refine zV_iinc (j := 3) (v := u31) [(3, .int u31), (0, zr b x0), (1, .int x1), (2, .int x2), (4, .int x4), (5, .int x5)] dX2_readThing_147 rfl (by rw [e32]; rfl) (by decide) rfl rfl ?_
    refine zV_goto (tgt := 189) dX2_readThing_150 (by decide) ?_
    refine zV_pk [1, 2, 3, 0, 4] rfl ?_
    exact vX2_readThing_189 k5 hk5 x0 x1 x2 u31 x4 M29 _ h
set_option maxHeartbeats 4000000 in
set_option maxRecDepth 100000 in
theorem vX2_readThing_86 {l : Launch} {D : va_G} {T : Nat → ClassId} {b : Nat} {gr : Bool} {n0 : Nat} (k5 : Nat → Int32 → Int32 → Int32 → Int32 → zM → Option (Int32 × zM)) (hk5 : ∀ (z0 : Nat) (z1 : Int32) (z2 : Int32) (z3 : Int32) (z4 : Int32) (N : zM) (o : Int32 × zM), k5 z0 z1 z2 z3 z4 N = some o → zV false l RX2 cX2_readThing 6 none false 3 0 0 D T zE0 b gr n0 (0, o.1, o.2) 0 0 5 [(0, zr b z0), (1, .int z1), (2, .int z2), (3, .int z3), (4, .int z4)] [] N) (x0 : Nat) (x1 : Int32) (x2 : Int32) (x3 : Int32) (x4 : Int32) (s0 : Int32) (M : zM) (o : Int32 × zM) (h : fX2_readThing_86 k5 x0 x1 x2 x3 x4 s0 M = some o) : zV false l RX2 cX2_readThing 6 none false 3 0 0 D T zE0 b gr n0 (0, o.1, o.2) 0 0 86 [(0, zr b x0), (1, .int x1), (2, .int x2), (3, .int x3), (4, .int x4)] [.int s0] M := by
  unfold fX2_readThing_86 at h
  refine zV_istore [(5, .int s0), (0, zr b x0), (1, .int x1), (2, .int x2), (3, .int x3), (4, .int x4)] dX2_readThing_86 (by decide) rfl rfl ?_
  refine zV_aload_n (j := 1) dX2_readThing_88 rfl rfl ?_
  obtain ⟨g33, h⟩ := zg_of h
  refine zV_getR zf_RX2_66 dX2_readThing_89 rfl g33 ?_
  obtain ⟨g34, h⟩ := zg_of h
  refine zV_getI zf_RX2_145 dX2_readThing_92 rfl g34 ?_
  refine zV_iconst (v := (-1)) dX2_readThing_95 (by decide) ?_
  refine zV_icmp_ne (tgt := 122) dX2_readThing_96 (by decide) (fun c35 => ?_) (fun c35 => ?_)
  · replace h := z_f c35 h
    refine zV_pk [1, 2, 3, 4, 5, 0] rfl ?_
    exact vX2_readThing_122 k5 hk5 x0 x1 x2 x3 x4 s0 M _ h
  · replace h := z_t c35 h
    refine zV_aload_n (j := 1) dX2_readThing_99 rfl rfl ?_
    refine zV_getR zf_RX2_49 dX2_readThing_100 rfl g33 ?_
    obtain ⟨g36, h⟩ := zg_of h
    refine zV_getR zf_RX2_179 dX2_readThing_103 rfl g36 ?_
    refine zV_iconst (v := 0) dX2_readThing_106 (by decide) ?_
    obtain ⟨g37, h⟩ := zg_of h
    obtain ⟨g38, h⟩ := zg_of h
    refine zV_zald dX2_readThing_107 g37 g38 ?_
    refine zV_if_eq (tgt := 122) dX2_readThing_108 (by decide) (fun c39 => ?_) (fun c39 => ?_)
    · replace h := z_t c39 h
      refine zV_pk [1, 2, 3, 4, 5, 0] rfl ?_
      exact vX2_readThing_122 k5 hk5 x0 x1 x2 x3 x4 s0 M _ h
    · replace h := z_f c39 h
      refine zV_aload_n (j := 1) dX2_readThing_111 rfl rfl ?_
      refine zV_iconst (v := 0) dX2_readThing_112 (by decide) ?_
      refine zV_bipush (v := 60) dX2_readThing_113 (by decide) ?_
      refine zV_iconst (v := 1) dX2_readThing_115 (by decide) ?_
      obtain ⟨r40, M41, q42, h⟩ := zb_of h
      refine zV_callVv (ci := 2) (As := [.int 0, .int 60, .int 1]) (rest := []) (vX2_addThing l D T b gr x0 0 60 1 M _ _ q42) zm_yX2_addThing zl_RX2_172 zi_yX2_addThing ze_yX2_addThing zcI2 g33 rfl rfl (zcs trivial (Nat.le_of_ble_eq_true rfl)) (by decide) (by decide) (by decide) dX2_readThing_116 ?_
      refine zV_goto (tgt := 189) dX2_readThing_119 (by decide) ?_
      refine zV_pk [1, 2, 3, 4, 5] rfl ?_
      exact vX2_readThing_189 k5 hk5 x0 x1 x2 x3 x4 M41 _ h
set_option maxHeartbeats 4000000 in
set_option maxRecDepth 100000 in
theorem vX2_readThing_61 {l : Launch} {D : va_G} {T : Nat → ClassId} {b : Nat} {gr : Bool} {n0 : Nat} (x0 : Nat) (x1 : Int32) (x2 : Int32) (M : zM) (o : Int32 × zM) (h : fX2_readThing_61 x0 x1 x2 M = some o) : zV false l RX2 cX2_readThing 6 none false 3 0 0 D T zE0 b gr n0 (0, o.1, o.2) 0 0 61 [(0, zr b x0), (1, .int x1), (2, .int x2)] [] M := by
  unfold fX2_readThing_61 at h
  refine zV_aload_n (j := 0) dX2_readThing_61 rfl rfl ?_
  refine zV_iload_n (j := 1) dX2_readThing_62 rfl rfl ?_
  refine zV_iload_n (j := 2) dX2_readThing_63 rfl rfl ?_
  refine zV_iconst (v := 0) dX2_readThing_64 (by decide) ?_
  obtain ⟨g43, h⟩ := zg_of h
  obtain ⟨r44, M45, q46, h⟩ := zb_of h
  refine zV_callVv (ci := 2) (As := [.int x1, .int x2, .int 0]) (rest := []) (vX2_addThing l D T b gr x0 x1 x2 0 M _ _ q46) zm_yX2_addThing zl_RX2_172 zi_yX2_addThing ze_yX2_addThing zcI2 g43 rfl rfl (zcs trivial (Nat.le_of_ble_eq_true rfl)) (by decide) (by decide) (by decide) dX2_readThing_65 ?_
  exact zV_vret (x := 0) rfl dX2_readThing_68 (by decide) (by decide) (z_ret h)
set_option maxHeartbeats 4000000 in
set_option maxRecDepth 100000 in
theorem vX2_readThing_50 {l : Launch} {D : va_G} {T : Nat → ClassId} {b : Nat} {gr : Bool} {n0 : Nat} (k5 : Nat → Int32 → Int32 → Int32 → Int32 → zM → Option (Int32 × zM)) (hk5 : ∀ (z0 : Nat) (z1 : Int32) (z2 : Int32) (z3 : Int32) (z4 : Int32) (N : zM) (o : Int32 × zM), k5 z0 z1 z2 z3 z4 N = some o → zV false l RX2 cX2_readThing 6 none false 3 0 0 D T zE0 b gr n0 (0, o.1, o.2) 0 0 5 [(0, zr b z0), (1, .int z1), (2, .int z2), (3, .int z3), (4, .int z4)] [] N) (x0 : Nat) (x1 : Int32) (x2 : Int32) (x3 : Int32) (x4 : Int32) (M : zM) (o : Int32 × zM) (h : fX2_readThing_50 k5 x0 x1 x2 x3 x4 M = some o) : zV false l RX2 cX2_readThing 6 none false 3 0 0 D T zE0 b gr n0 (0, o.1, o.2) 0 0 50 [(0, zr b x0), (1, .int x1), (2, .int x2), (3, .int x3), (4, .int x4)] [] M := by
  unfold fX2_readThing_50 at h
  refine zV_aload_n (j := 0) dX2_readThing_50 rfl rfl ?_
  obtain ⟨g47, h⟩ := zg_of h
  refine zV_getR zf_RX2_66 dX2_readThing_51 rfl g47 ?_
  refine zV_iload_n (j := 1) dX2_readThing_54 rfl rfl ?_
  obtain ⟨g48, h⟩ := zg_of h
  obtain ⟨r49, M50, q51, h⟩ := zb_of h
  refine zV_callVi (ci := 4) (As := [.int x1]) (rest := []) (vX4_accept l D T b gr (zR M x0 10) x1 M _ _ q51) zm_yX4_accept zl_RX2_168 zi_yX4_accept ze_yX4_accept zcI4 g48 rfl rfl (zcs trivial (Nat.le_of_ble_eq_true rfl)) (by decide) (by decide) (by decide) dX2_readThing_55 ?_
  refine zV_if_eq (tgt := 69) dX2_readThing_58 (by decide) (fun c52 => ?_) (fun c52 => ?_)
  · replace h := z_t c52 h
    refine zV_iload_n (j := 3) dX2_readThing_69 rfl rfl ?_
    refine zV_bipush (v := 8) dX2_readThing_70 (by decide) ?_
    refine zV_icmp_ge (tgt := 85) dX2_readThing_72 (by decide) (fun c53 => ?_) (fun c53 => ?_)
    · replace h := z_t c53 h
      refine zV_iconst (v := (-1)) dX2_readThing_85 (by decide) ?_
      exact vX2_readThing_86 k5 hk5 x0 x1 x2 x3 x4 (-1) M50 _ h
    · replace h := z_f c53 h
      refine zV_aload_n (j := 0) dX2_readThing_75 rfl rfl ?_
      obtain ⟨g54, h⟩ := zg_of h
      refine zV_getR zf_RX2_66 dX2_readThing_76 rfl g54 ?_
      obtain ⟨g55, h⟩ := zg_of h
      obtain ⟨r56, M57, q58, h⟩ := zb_of h
      refine zV_callVi (ci := 4) (As := []) (rest := []) (vX4_elementToPutIn l D T b gr (zR M50 x0 10) M50 _ _ q58) zm_yX4_elementToPutIn zl_RX2_176 zi_yX4_elementToPutIn ze_yX4_elementToPutIn zcI4 g55 rfl rfl (zcs trivial (Nat.le_of_ble_eq_true rfl)) (by decide) (by decide) (by decide) dX2_readThing_79 ?_
      refine zV_goto (tgt := 86) dX2_readThing_82 (by decide) ?_
      exact vX2_readThing_86 k5 hk5 x0 x1 x2 x3 x4 r56 M57 _ h
  · replace h := z_f c52 h
    refine zV_pk [0, 1, 2] rfl ?_
    exact vX2_readThing_61 x0 x1 x2 M50 _ h
set_option maxHeartbeats 4000000 in
set_option maxRecDepth 100000 in
theorem vX2_readThing_43 {l : Launch} {D : va_G} {T : Nat → ClassId} {b : Nat} {gr : Bool} {n0 : Nat} (x0 : Nat) (M : zM) (o : Int32 × zM) (h : fX2_readThing_43 x0 M = some o) : zV false l RX2 cX2_readThing 6 none false 3 0 0 D T zE0 b gr n0 (0, o.1, o.2) 0 0 43 [(0, zr b x0)] [] M := by
  unfold fX2_readThing_43 at h
  refine zV_aload_n (j := 0) dX2_readThing_43 rfl rfl ?_
  refine zV_bipush (v := 6) dX2_readThing_44 (by decide) ?_
  obtain ⟨g59, h⟩ := zg_of h
  obtain ⟨r60, M61, q62, h⟩ := zb_of h
  refine zV_callVv (ci := 2) (As := [.int 6]) (rest := []) (vX2_addError l D T b gr x0 6 M _ _ q62) zm_yX2_addError zl_RX2_142 zi_yX2_addError ze_yX2_addError zcI2 g59 rfl rfl (zcs trivial (Nat.le_of_ble_eq_true rfl)) (by decide) (by decide) (by decide) dX2_readThing_46 ?_
  exact zV_vret (x := 0) rfl dX2_readThing_49 (by decide) (by decide) (z_ret h)
set_option maxHeartbeats 4000000 in
set_option maxRecDepth 100000 in
theorem vX2_readThing_5 {l : Launch} {D : va_G} {T : Nat → ClassId} {b : Nat} {gr : Bool} {n0 : Nat} : ∀ (n : Nat) (x0 : Nat) (x1 : Int32) (x2 : Int32) (x3 : Int32) (x4 : Int32) (M : zM) (o : Int32 × zM), fX2_readThing_5 n x0 x1 x2 x3 x4 M = some o → zV false l RX2 cX2_readThing 6 none false 3 0 0 D T zE0 b gr n0 (0, o.1, o.2) 0 0 5 [(0, zr b x0), (1, .int x1), (2, .int x2), (3, .int x3), (4, .int x4)] [] M := by
  intro n
  induction n with
  | zero =>
    intro x0 x1 x2 x3 x4 M o h
    rw [fX2_readThing_5] at h
    cases h
  | succ n ih =>
    intro x0 x1 x2 x3 x4 M o h
    rw [fX2_readThing_5] at h
    refine zV_iload (j := 4) dX2_readThing_5 rfl ?_
    refine zV_bipush (v := 100) dX2_readThing_7 (by decide) ?_
    refine zV_icmp_ge (tgt := 195) dX2_readThing_9 (by decide) (fun c63 => ?_) (fun c63 => ?_)
    · replace h := z_t c63 h
      exact zV_vret (x := 0) rfl dX2_readThing_195 (by decide) (by decide) (z_ret h)
    · replace h := z_f c63 h
      refine zV_aload_n (j := 0) dX2_readThing_12 rfl rfl ?_
      obtain ⟨g64, h⟩ := zg_of h
      refine zV_getR zf_RX2_12 dX2_readThing_13 rfl g64 ?_
      obtain ⟨g65, h⟩ := zg_of h
      refine zV_getI zf_RX2_77 dX2_readThing_16 rfl g65 ?_
      refine zV_sipush (v := 300) dX2_readThing_19 (by decide) ?_
      refine zV_icmp_ge (tgt := 43) dX2_readThing_22 (by decide) (fun c66 => ?_) (fun c66 => ?_)
      · replace h := z_t c66 h
        refine zV_pk [0] rfl ?_
        exact vX2_readThing_43 x0 M _ h
      · replace h := z_f c66 h
        refine zV_iload_n (j := 1) dX2_readThing_25 rfl rfl ?_
        refine zV_bipush (v := 10) dX2_readThing_26 (by decide) ?_
        refine zV_icmp_eq (tgt := 50) dX2_readThing_28 (by decide) (fun c67 => ?_) (fun c67 => ?_)
        · replace h := z_t c67 h
          exact vX2_readThing_50 (fX2_readThing_5 n) ih x0 x1 x2 x3 x4 M _ h
        · replace h := z_f c67 h
          refine zV_aload_n (j := 0) dX2_readThing_31 rfl rfl ?_
          refine zV_getR zf_RX2_66 dX2_readThing_32 rfl g64 ?_
          obtain ⟨g68, h⟩ := zg_of h
          refine zV_getI zf_RX2_165 dX2_readThing_35 rfl g68 ?_
          refine zV_bipush (v := 20) dX2_readThing_38 (by decide) ?_
          refine zV_icmp_lt (tgt := 50) dX2_readThing_40 (by decide) (fun c69 => ?_) (fun c69 => ?_)
          · replace h := z_t c69 h
            exact vX2_readThing_50 (fX2_readThing_5 n) ih x0 x1 x2 x3 x4 M _ h
          · replace h := z_f c69 h
            refine zV_pk [0] rfl ?_
            exact vX2_readThing_43 x0 M _ h
set_option maxHeartbeats 4000000 in
set_option maxRecDepth 100000 in
theorem vX2_readThing (l : Launch) (D : va_G) (T : Nat → ClassId) (b : Nat) (gr : Bool) (x0 : Nat) (x1 : Int32) (x2 : Int32) (M : zM) (r : Int32) (M' : zM) (h : fX2_readThing x0 x1 x2 M = some (r, M')) : zMet l D T b gr yX2_readThing cX2_readThing 6 none 3 0 0 [zr b x0, .int x1, .int x2] M (0, r, M') := by
  refine zEntry2 (ev := zE0) rfl false (fun h9 => nomatch h9) zp_yX2_readThing ⟨zr_cat _ _, rfl, rfl, trivial⟩ (Nat.le_of_ble_eq_true rfl) ?_
  obtain ⟨o, ho⟩ : ∃ o : Int32 × zM, o = (r, M') := ⟨_, rfl⟩
  rw [← ho] at h
  rw [show ((0, r, M') : Nat × Int32 × zM) = (0, o.1, o.2) by rw [ho]]
  show zV false l RX2 cX2_readThing 6 none false 3 0 0 D T zE0 b gr M.2.2.2 (0, o.1, o.2) 0 0 0 [(0, zr b x0), (1, .int x1), (2, .int x2)] [] M
  unfold fX2_readThing at h
  refine zV_iconst (v := 0) dX2_readThing_0 (by decide) ?_
  refine zV_istore_n [(3, .int 0), (0, zr b x0), (1, .int x1), (2, .int x2)] dX2_readThing_1 rfl (by decide) rfl rfl ?_
  refine zV_iconst (v := 0) dX2_readThing_2 (by decide) ?_
  refine zV_istore [(4, .int 0), (3, .int 0), (0, zr b x0), (1, .int x1), (2, .int x2)] dX2_readThing_3 (by decide) rfl rfl ?_
  refine zV_pk [2, 3, 4, 1, 0] rfl ?_
  exact vX2_readThing_5 10000 x0 x1 x2 0 0 M _ h
set_option maxHeartbeats 4000000 in
set_option maxRecDepth 100000 in
theorem vX4_lastOpenOf_7 {l : Launch} {D : va_G} {T : Nat → ClassId} {b : Nat} {gr : Bool} {n0 : Nat} : ∀ (n : Nat) (x0 : Nat) (x1 : Int32) (x2 : Int32) (M : zM) (o : Int32 × zM), fX4_lastOpenOf_7 n x0 x1 x2 M = some o → zV false l RX4 cX4_lastOpenOf 3 (some .int) false 0 0 0 D T zE0 b gr n0 (0, o.1, o.2) 0 0 7 [(0, zr b x0), (1, .int x1), (2, .int x2)] [] M := by
  intro n
  induction n with
  | zero =>
    intro x0 x1 x2 M o h
    rw [fX4_lastOpenOf_7] at h
    cases h
  | succ n ih =>
    intro x0 x1 x2 M o h
    rw [fX4_lastOpenOf_7] at h
    refine zV_iload_n (j := 2) dX4_lastOpenOf_7 rfl rfl ?_
    refine zV_if_lt (tgt := 29) dX4_lastOpenOf_8 (by decide) (fun c1 => ?_) (fun c1 => ?_)
    · replace h := z_t c1 h
      refine zV_iconst (v := (-1)) dX4_lastOpenOf_29 (by decide) ?_
      exact zV_iret rfl dX4_lastOpenOf_30 (by decide) (by decide) (z_ret h)
    · replace h := z_f c1 h
      refine zV_aload_n (j := 0) dX4_lastOpenOf_11 rfl rfl ?_
      obtain ⟨g2, h⟩ := zg_of h
      refine zV_getR zf_RX4_9 dX4_lastOpenOf_12 rfl g2 ?_
      refine zV_iload_n (j := 2) dX4_lastOpenOf_15 rfl rfl ?_
      obtain ⟨g3, h⟩ := zg_of h
      obtain ⟨g4, h⟩ := zg_of h
      refine zV_iald dX4_lastOpenOf_16 g3 g4 ?_
      refine zV_iload_n (j := 1) dX4_lastOpenOf_17 rfl rfl ?_
      refine zV_icmp_ne (tgt := 23) dX4_lastOpenOf_18 (by decide) (fun c5 => ?_) (fun c5 => ?_)
      · replace h := z_f c5 h
        obtain ⟨u6, e7⟩ : ∃ y : Int32, y = x2 + (-1) := ⟨_, rfl⟩
        replace h := zlet_of h e7
        refine zV_iinc (j := 2) (v := u6) [(2, .int u6), (0, zr b x0), (1, .int x1)] dX4_lastOpenOf_23 rfl (by rw [e7]; rfl) (by decide) rfl rfl ?_
        refine zV_goto (tgt := 7) dX4_lastOpenOf_26 (by decide) ?_
        refine zV_pk [1, 2, 0] rfl ?_
        exact ih x0 x1 u6 M _ h
      · replace h := z_t c5 h
        refine zV_iload_n (j := 2) dX4_lastOpenOf_21 rfl rfl ?_
        exact zV_iret rfl dX4_lastOpenOf_22 (by decide) (by decide) (z_ret h)
set_option maxHeartbeats 4000000 in
set_option maxRecDepth 100000 in
theorem vX4_lastOpenOf (l : Launch) (D : va_G) (T : Nat → ClassId) (b : Nat) (gr : Bool) (x0 : Nat) (x1 : Int32) (M : zM) (r : Int32) (M' : zM) (h : fX4_lastOpenOf x0 x1 M = some (r, M')) : zMet l D T b gr yX4_lastOpenOf cX4_lastOpenOf 3 (some .int) 0 0 0 [zr b x0, .int x1] M (0, r, M') := by
  refine zEntry2 (ev := zE0) rfl false (fun h9 => nomatch h9) zp_yX4_lastOpenOf ⟨zr_cat _ _, rfl, trivial⟩ (Nat.le_of_ble_eq_true rfl) ?_
  obtain ⟨o, ho⟩ : ∃ o : Int32 × zM, o = (r, M') := ⟨_, rfl⟩
  rw [← ho] at h
  rw [show ((0, r, M') : Nat × Int32 × zM) = (0, o.1, o.2) by rw [ho]]
  show zV false l RX4 cX4_lastOpenOf 3 (some .int) false 0 0 0 D T zE0 b gr M.2.2.2 (0, o.1, o.2) 0 0 0 [(0, zr b x0), (1, .int x1)] [] M
  unfold fX4_lastOpenOf at h
  refine zV_aload_n (j := 0) dX4_lastOpenOf_0 rfl rfl ?_
  obtain ⟨g8, h⟩ := zg_of h
  refine zV_getI zf_RX4_26 dX4_lastOpenOf_1 rfl g8 ?_
  refine zV_iconst (v := 1) dX4_lastOpenOf_4 (by decide) ?_
  refine zV_isub dX4_lastOpenOf_5 ?_
  refine zV_top (fun u9 e10 => ?_)
  replace h := zlet_of h e10
  refine zV_istore_n [(2, .int u9), (0, zr b x0), (1, .int x1)] dX4_lastOpenOf_6 rfl (by decide) rfl rfl ?_
  refine zV_pk [1, 2, 0] rfl ?_
  exact vX4_lastOpenOf_7 10000 x0 x1 u9 M _ h
set_option maxHeartbeats 4000000 in
set_option maxRecDepth 100000 in
theorem vX2_closeUpTo_74 {l : Launch} {D : va_G} {T : Nat → ClassId} {b : Nat} {gr : Bool} {n0 : Nat} (k10 : Nat → Int32 → Int32 → Int32 → zM → Option (Int32 × zM)) (hk10 : ∀ (z0 : Nat) (z1 : Int32) (z2 : Int32) (z3 : Int32) (N : zM) (o : Int32 × zM), k10 z0 z1 z2 z3 N = some o → zV false l RX2 cX2_closeUpTo 4 none false 1 0 0 D T zE0 b gr n0 (0, o.1, o.2) 0 0 10 [(0, zr b z0), (1, .int z1), (2, .int z2), (3, .int z3)] [] N) (x0 : Nat) (x1 : Int32) (x2 : Int32) (x3 : Int32) (M : zM) (o : Int32 × zM) (h : fX2_closeUpTo_74 k10 x0 x1 x2 x3 M = some o) : zV false l RX2 cX2_closeUpTo 4 none false 1 0 0 D T zE0 b gr n0 (0, o.1, o.2) 0 0 74 [(0, zr b x0), (1, .int x1), (2, .int x2), (3, .int x3)] [] M := by
  unfold fX2_closeUpTo_74 at h
  refine zV_aload_n (j := 0) dX2_closeUpTo_74 rfl rfl ?_
  obtain ⟨g1, h⟩ := zg_of h
  refine zV_getR zf_RX2_66 dX2_closeUpTo_75 rfl g1 ?_
  obtain ⟨g2, h⟩ := zg_of h
  obtain ⟨r3, M4, q5, h⟩ := zb_of h
  refine zV_callVv (ci := 4) (As := []) (rest := []) (vX4_leave l D T b gr (zR M x0 10) M _ _ q5) zm_yX4_leave zl_RX2_189 zi_yX4_leave ze_yX4_leave zcI4 g2 rfl rfl (zcs trivial (Nat.le_of_ble_eq_true rfl)) (by decide) (by decide) (by decide) dX2_closeUpTo_78 ?_
  obtain ⟨u6, e7⟩ : ∃ y : Int32, y = x3 + (-1) := ⟨_, rfl⟩
  replace h := zlet_of h e7
  refine zV_iinc (j := 3) (v := u6) [(3, .int u6), (0, zr b x0), (1, .int x1), (2, .int x2)] dX2_closeUpTo_81 rfl (by rw [e7]; rfl) (by decide) rfl rfl ?_
  refine zV_goto (tgt := 10) dX2_closeUpTo_84 (by decide) ?_
  refine zV_pk [1, 2, 3, 0] rfl ?_
  exact hk10 x0 x1 x2 u6 M4 _ h
set_option maxHeartbeats 4000000 in
set_option maxRecDepth 100000 in
theorem vX2_closeUpTo_39 {l : Launch} {D : va_G} {T : Nat → ClassId} {b : Nat} {gr : Bool} {n0 : Nat} (k10 : Nat → Int32 → Int32 → Int32 → zM → Option (Int32 × zM)) (hk10 : ∀ (z0 : Nat) (z1 : Int32) (z2 : Int32) (z3 : Int32) (N : zM) (o : Int32 × zM), k10 z0 z1 z2 z3 N = some o → zV false l RX2 cX2_closeUpTo 4 none false 1 0 0 D T zE0 b gr n0 (0, o.1, o.2) 0 0 10 [(0, zr b z0), (1, .int z1), (2, .int z2), (3, .int z3)] [] N) (x0 : Nat) (x1 : Int32) (x2 : Int32) (x3 : Int32) (M : zM) (o : Int32 × zM) (h : fX2_closeUpTo_39 k10 x0 x1 x2 x3 M = some o) : zV false l RX2 cX2_closeUpTo 4 none false 1 0 0 D T zE0 b gr n0 (0, o.1, o.2) 0 0 39 [(0, zr b x0), (1, .int x1), (2, .int x2), (3, .int x3)] [] M := by
  unfold fX2_closeUpTo_39 at h
  refine zV_aload_n (j := 0) dX2_closeUpTo_39 rfl rfl ?_
  refine zV_dup dX2_closeUpTo_40 (zr_cat _ _) ?_
  obtain ⟨g8, h⟩ := zg_of h
  refine zV_getI zf_RX2_81 dX2_closeUpTo_41 rfl g8 ?_
  refine zV_iconst (v := 1) dX2_closeUpTo_44 (by decide) ?_
  refine zV_iadd dX2_closeUpTo_45 ?_
  refine zV_putI zf_RX2_81 dX2_closeUpTo_46 rfl rfl g8 ?_
  refine zV_mem (fun M9 e10 => ?_)
  replace h := zlet_of h e10
  refine zV_aload_n (j := 0) dX2_closeUpTo_49 rfl rfl ?_
  refine zV_getR zf_RX2_49 dX2_closeUpTo_50 rfl (zkI e10 g8) ?_
  obtain ⟨g11, h⟩ := zg_of h
  refine zV_getR zf_RX2_201 dX2_closeUpTo_53 rfl g11 ?_
  refine zV_aload_n (j := 0) dX2_closeUpTo_56 rfl rfl ?_
  refine zV_getR zf_RX2_66 dX2_closeUpTo_57 rfl (zkI e10 g8) ?_
  obtain ⟨g12, h⟩ := zg_of h
  refine zV_getR zf_RX2_204 dX2_closeUpTo_60 rfl g12 ?_
  refine zV_iload_n (j := 3) dX2_closeUpTo_63 rfl rfl ?_
  obtain ⟨g13, h⟩ := zg_of h
  obtain ⟨g14, h⟩ := zg_of h
  refine zV_iald dX2_closeUpTo_64 g13 g14 ?_
  obtain ⟨g15, h⟩ := zg_of h
  obtain ⟨g16, h⟩ := zg_of h
  refine zV_zald dX2_closeUpTo_65 g15 g16 ?_
  refine zV_if_ne (tgt := 74) dX2_closeUpTo_66 (by decide) (fun c17 => ?_) (fun c17 => ?_)
  · replace h := z_f c17 h
    exact vX2_closeUpTo_74 k10 hk10 x0 x1 x2 x3 M9 _ h
  · replace h := z_t c17 h
    refine zV_aload_n (j := 0) dX2_closeUpTo_69 rfl rfl ?_
    refine zV_iconst (v := 3) dX2_closeUpTo_70 (by decide) ?_
    obtain ⟨r18, M19, q20, h⟩ := zb_of h
    refine zV_callVv (ci := 2) (As := [.int 3]) (rest := []) (vX2_addError l D T b gr x0 3 M9 _ _ q20) zm_yX2_addError zl_RX2_142 zi_yX2_addError ze_yX2_addError zcI2 (zkI e10 g8) rfl rfl (zcs trivial (Nat.le_of_ble_eq_true rfl)) (by decide) (by decide) (by decide) dX2_closeUpTo_71 ?_
    exact vX2_closeUpTo_74 k10 hk10 x0 x1 x2 x3 M19 _ h
set_option maxHeartbeats 4000000 in
set_option maxRecDepth 100000 in
theorem vX2_closeUpTo_30 {l : Launch} {D : va_G} {T : Nat → ClassId} {b : Nat} {gr : Bool} {n0 : Nat} (k10 : Nat → Int32 → Int32 → Int32 → zM → Option (Int32 × zM)) (hk10 : ∀ (z0 : Nat) (z1 : Int32) (z2 : Int32) (z3 : Int32) (N : zM) (o : Int32 × zM), k10 z0 z1 z2 z3 N = some o → zV false l RX2 cX2_closeUpTo 4 none false 1 0 0 D T zE0 b gr n0 (0, o.1, o.2) 0 0 10 [(0, zr b z0), (1, .int z1), (2, .int z2), (3, .int z3)] [] N) (x0 : Nat) (x1 : Int32) (x2 : Int32) (x3 : Int32) (M : zM) (o : Int32 × zM) (h : fX2_closeUpTo_30 k10 x0 x1 x2 x3 M = some o) : zV false l RX2 cX2_closeUpTo 4 none false 1 0 0 D T zE0 b gr n0 (0, o.1, o.2) 0 0 30 [(0, zr b x0), (1, .int x1), (2, .int x2), (3, .int x3)] [] M := by
  unfold fX2_closeUpTo_30 at h
  refine zV_iload_n (j := 3) dX2_closeUpTo_30 rfl rfl ?_
  refine zV_iload_n (j := 1) dX2_closeUpTo_31 rfl rfl ?_
  refine zV_icmp_gt (tgt := 39) dX2_closeUpTo_32 (by decide) (fun c21 => ?_) (fun c21 => ?_)
  · replace h := z_t c21 h
    exact vX2_closeUpTo_39 k10 hk10 x0 x1 x2 x3 M _ h
  · replace h := z_f c21 h
    refine zV_iload_n (j := 2) dX2_closeUpTo_35 rfl rfl ?_
    refine zV_if_ne (tgt := 74) dX2_closeUpTo_36 (by decide) (fun c22 => ?_) (fun c22 => ?_)
    · replace h := z_f c22 h
      exact vX2_closeUpTo_74 k10 hk10 x0 x1 x2 x3 M _ h
    · replace h := z_t c22 h
      exact vX2_closeUpTo_39 k10 hk10 x0 x1 x2 x3 M _ h
set_option maxHeartbeats 4000000 in
set_option maxRecDepth 100000 in
theorem vX2_closeUpTo_10 {l : Launch} {D : va_G} {T : Nat → ClassId} {b : Nat} {gr : Bool} {n0 : Nat} : ∀ (n : Nat) (x0 : Nat) (x1 : Int32) (x2 : Int32) (x3 : Int32) (M : zM) (o : Int32 × zM), fX2_closeUpTo_10 n x0 x1 x2 x3 M = some o → zV false l RX2 cX2_closeUpTo 4 none false 1 0 0 D T zE0 b gr n0 (0, o.1, o.2) 0 0 10 [(0, zr b x0), (1, .int x1), (2, .int x2), (3, .int x3)] [] M := by
  intro n
  induction n with
  | zero =>
    intro x0 x1 x2 x3 M o h
    rw [fX2_closeUpTo_10] at h
    cases h
  | succ n ih =>
    intro x0 x1 x2 x3 M o h
    rw [fX2_closeUpTo_10] at h
    refine zV_iload_n (j := 3) dX2_closeUpTo_10 rfl rfl ?_
    refine zV_iload_n (j := 1) dX2_closeUpTo_11 rfl rfl ?_
    refine zV_icmp_lt (tgt := 87) dX2_closeUpTo_12 (by decide) (fun c23 => ?_) (fun c23 => ?_)
    · replace h := z_t c23 h
      exact zV_vret (x := 0) rfl dX2_closeUpTo_87 (by decide) (by decide) (z_ret h)
    · replace h := z_f c23 h
      refine zV_aload_n (j := 0) dX2_closeUpTo_15 rfl rfl ?_
      obtain ⟨g24, h⟩ := zg_of h
      refine zV_getR zf_RX2_66 dX2_closeUpTo_16 rfl g24 ?_
      obtain ⟨g25, h⟩ := zg_of h
      obtain ⟨r26, M27, q28, h⟩ := zb_of h
      refine zV_callVi (ci := 4) (As := []) (rest := []) (vX4_canEnd l D T b gr (zR M x0 10) M _ _ q28) zm_yX4_canEnd zl_RX2_198 zi_yX4_canEnd ze_yX4_canEnd zcI4 g25 rfl rfl (zcs trivial (Nat.le_of_ble_eq_true rfl)) (by decide) (by decide) (by decide) dX2_closeUpTo_19 ?_
      refine zV_if_ne (tgt := 30) dX2_closeUpTo_22 (by decide) (fun c29 => ?_) (fun c29 => ?_)
      · replace h := z_f c29 h
        exact vX2_closeUpTo_30 (fX2_closeUpTo_10 n) ih x0 x1 x2 x3 M27 _ h
      · replace h := z_t c29 h
        refine zV_aload_n (j := 0) dX2_closeUpTo_25 rfl rfl ?_
        refine zV_iconst (v := 2) dX2_closeUpTo_26 (by decide) ?_
        obtain ⟨g30, h⟩ := zg_of h
        obtain ⟨r31, M32, q33, h⟩ := zb_of h
        refine zV_callVv (ci := 2) (As := [.int 2]) (rest := []) (vX2_addError l D T b gr x0 2 M27 _ _ q33) zm_yX2_addError zl_RX2_142 zi_yX2_addError ze_yX2_addError zcI2 g30 rfl rfl (zcs trivial (Nat.le_of_ble_eq_true rfl)) (by decide) (by decide) (by decide) dX2_closeUpTo_27 ?_
        exact vX2_closeUpTo_30 (fX2_closeUpTo_10 n) ih x0 x1 x2 x3 M32 _ h
set_option maxHeartbeats 4000000 in
set_option maxRecDepth 100000 in
theorem vX2_closeUpTo (l : Launch) (D : va_G) (T : Nat → ClassId) (b : Nat) (gr : Bool) (x0 : Nat) (x1 : Int32) (x2 : Int32) (M : zM) (r : Int32) (M' : zM) (h : fX2_closeUpTo x0 x1 x2 M = some (r, M')) : zMet l D T b gr yX2_closeUpTo cX2_closeUpTo 4 none 1 0 0 [zr b x0, .int x1, .int x2] M (0, r, M') := by
  refine zEntry2 (ev := zE0) rfl false (fun h9 => nomatch h9) zp_yX2_closeUpTo ⟨zr_cat _ _, rfl, rfl, trivial⟩ (Nat.le_of_ble_eq_true rfl) ?_
  obtain ⟨o, ho⟩ : ∃ o : Int32 × zM, o = (r, M') := ⟨_, rfl⟩
  rw [← ho] at h
  rw [show ((0, r, M') : Nat × Int32 × zM) = (0, o.1, o.2) by rw [ho]]
  show zV false l RX2 cX2_closeUpTo 4 none false 1 0 0 D T zE0 b gr M.2.2.2 (0, o.1, o.2) 0 0 0 [(0, zr b x0), (1, .int x1), (2, .int x2)] [] M
  unfold fX2_closeUpTo at h
  refine zV_aload_n (j := 0) dX2_closeUpTo_0 rfl rfl ?_
  obtain ⟨g34, h⟩ := zg_of h
  refine zV_getR zf_RX2_66 dX2_closeUpTo_1 rfl g34 ?_
  obtain ⟨g35, h⟩ := zg_of h
  refine zV_getI zf_RX2_165 dX2_closeUpTo_4 rfl g35 ?_
  refine zV_iconst (v := 1) dX2_closeUpTo_7 (by decide) ?_
  refine zV_isub dX2_closeUpTo_8 ?_
  refine zV_top (fun u36 e37 => ?_)
  replace h := zlet_of h e37
  refine zV_istore_n [(3, .int u36), (0, zr b x0), (1, .int x1), (2, .int x2)] dX2_closeUpTo_9 rfl (by decide) rfl rfl ?_
  refine zV_pk [1, 2, 3, 0] rfl ?_
  exact vX2_closeUpTo_10 10000 x0 x1 x2 u36 M _ h
set_option maxHeartbeats 4000000 in
set_option maxRecDepth 100000 in
theorem vX2_closeByTag (l : Launch) (D : va_G) (T : Nat → ClassId) (b : Nat) (gr : Bool) (x0 : Nat) (x1 : Int32) (M : zM) (r : Int32) (M' : zM) (h : fX2_closeByTag x0 x1 M = some (r, M')) : zMet l D T b gr yX2_closeByTag cX2_closeByTag 2 none 2 0 0 [zr b x0, .int x1] M (0, r, M') := by
  refine zEntry2 (ev := zE0) rfl false (fun h9 => nomatch h9) zp_yX2_closeByTag ⟨zr_cat _ _, rfl, trivial⟩ (Nat.le_of_ble_eq_true rfl) ?_
  obtain ⟨o, ho⟩ : ∃ o : Int32 × zM, o = (r, M') := ⟨_, rfl⟩
  rw [← ho] at h
  rw [show ((0, r, M') : Nat × Int32 × zM) = (0, o.1, o.2) by rw [ho]]
  show zV false l RX2 cX2_closeByTag 2 none false 2 0 0 D T zE0 b gr M.2.2.2 (0, o.1, o.2) 0 0 0 [(0, zr b x0), (1, .int x1)] [] M
  unfold fX2_closeByTag at h
  refine zV_iload_n (j := 1) dX2_closeByTag_0 rfl rfl ?_
  refine zV_iconst (v := (-1)) dX2_closeByTag_1 (by decide) ?_
  refine zV_icmp_ne (tgt := 13) dX2_closeByTag_2 (by decide) (fun c1 => ?_) (fun c1 => ?_)
  · replace h := z_f c1 h
    refine zV_aload_n (j := 0) dX2_closeByTag_13 rfl rfl ?_
    refine zV_iload_n (j := 1) dX2_closeByTag_14 rfl rfl ?_
    refine zV_iconst (v := 1) dX2_closeByTag_15 (by decide) ?_
    obtain ⟨g2, h⟩ := zg_of h
    obtain ⟨r3, M4, q5, h⟩ := zb_of h
    refine zV_callVv (ci := 2) (As := [.int x1, .int 1]) (rest := []) (vX2_closeUpTo l D T b gr x0 x1 1 M _ _ q5) zm_yX2_closeUpTo zl_RX2_95 zi_yX2_closeUpTo ze_yX2_closeUpTo zcI2 g2 rfl rfl (zcs trivial (Nat.le_of_ble_eq_true rfl)) (by decide) (by decide) (by decide) dX2_closeByTag_16 ?_
    exact zV_vret (x := 0) rfl dX2_closeByTag_19 (by decide) (by decide) (z_ret h)
  · replace h := z_t c1 h
    refine zV_aload_n (j := 0) dX2_closeByTag_5 rfl rfl ?_
    refine zV_iconst (v := 1) dX2_closeByTag_6 (by decide) ?_
    obtain ⟨g6, h⟩ := zg_of h
    obtain ⟨r7, M8, q9, h⟩ := zb_of h
    refine zV_callVv (ci := 2) (As := [.int 1]) (rest := []) (vX2_addError l D T b gr x0 1 M _ _ q9) zm_yX2_addError zl_RX2_142 zi_yX2_addError ze_yX2_addError zcI2 g6 rfl rfl (zcs trivial (Nat.le_of_ble_eq_true rfl)) (by decide) (by decide) (by decide) dX2_closeByTag_7 ?_
    refine zV_goto (tgt := 19) dX2_closeByTag_10 (by decide) ?_
    exact zV_vret (x := 0) rfl dX2_closeByTag_19 (by decide) (by decide) (z_ret h)
set_option maxHeartbeats 4000000 in
set_option maxRecDepth 100000 in
theorem vX4_currentElement (l : Launch) (D : va_G) (T : Nat → ClassId) (b : Nat) (gr : Bool) (x0 : Nat) (M : zM) (r : Int32) (M' : zM) (h : fX4_currentElement x0 M = some (r, M')) : zMet l D T b gr yX4_currentElement cX4_currentElement 1 (some .int) 0 0 0 [zr b x0] M (0, r, M') := by
  refine zEntry2 (ev := zE0) rfl false (fun h9 => nomatch h9) zp_yX4_currentElement ⟨zr_cat _ _, trivial⟩ (Nat.le_of_ble_eq_true rfl) ?_
  obtain ⟨o, ho⟩ : ∃ o : Int32 × zM, o = (r, M') := ⟨_, rfl⟩
  rw [← ho] at h
  rw [show ((0, r, M') : Nat × Int32 × zM) = (0, o.1, o.2) by rw [ho]]
  show zV false l RX4 cX4_currentElement 1 (some .int) false 0 0 0 D T zE0 b gr M.2.2.2 (0, o.1, o.2) 0 0 0 [(0, zr b x0)] [] M
  unfold fX4_currentElement at h
  refine zV_aload_n (j := 0) dX4_currentElement_0 rfl rfl ?_
  obtain ⟨g1, h⟩ := zg_of h
  refine zV_getI zf_RX4_26 dX4_currentElement_1 rfl g1 ?_
  refine zV_if_le (tgt := 21) dX4_currentElement_4 (by decide) (fun c2 => ?_) (fun c2 => ?_)
  · replace h := z_t c2 h
    refine zV_iconst (v := (-1)) dX4_currentElement_21 (by decide) ?_
    exact zV_iret rfl dX4_currentElement_22 (by decide) (by decide) (z_ret h)
  · replace h := z_f c2 h
    refine zV_aload_n (j := 0) dX4_currentElement_7 rfl rfl ?_
    refine zV_getR zf_RX4_9 dX4_currentElement_8 rfl g1 ?_
    refine zV_aload_n (j := 0) dX4_currentElement_11 rfl rfl ?_
    refine zV_getI zf_RX4_26 dX4_currentElement_12 rfl g1 ?_
    refine zV_iconst (v := 1) dX4_currentElement_15 (by decide) ?_
    refine zV_isub dX4_currentElement_16 ?_
    obtain ⟨g3, h⟩ := zg_of h
    obtain ⟨g4, h⟩ := zg_of h
    refine zV_iald dX4_currentElement_17 g3 g4 ?_
    refine zV_goto (tgt := 22) dX4_currentElement_18 (by decide) ?_
    exact zV_iret rfl dX4_currentElement_22 (by decide) (by decide) (z_ret h)
set_option maxHeartbeats 4000000 in
set_option maxRecDepth 100000 in
theorem vX3_sortAt (l : Launch) (D : va_G) (T : Nat → ClassId) (b : Nat) (gr : Bool) (x0 : Nat) (x1 : Int32) (M : zM) (r : Int32) (M' : zM) (h : fX3_sortAt x0 x1 M = some (r, M')) : zMet l D T b gr yX3_sortAt cX3_sortAt 2 (some .int) 0 0 0 [zr b x0, .int x1] M (0, r, M') := by
  refine zEntry2 (ev := zE0) rfl false (fun h9 => nomatch h9) zp_yX3_sortAt ⟨zr_cat _ _, rfl, trivial⟩ (Nat.le_of_ble_eq_true rfl) ?_
  obtain ⟨o, ho⟩ : ∃ o : Int32 × zM, o = (r, M') := ⟨_, rfl⟩
  rw [← ho] at h
  rw [show ((0, r, M') : Nat × Int32 × zM) = (0, o.1, o.2) by rw [ho]]
  show zV false l RX3 cX3_sortAt 2 (some .int) false 0 0 0 D T zE0 b gr M.2.2.2 (0, o.1, o.2) 0 0 0 [(0, zr b x0), (1, .int x1)] [] M
  unfold fX3_sortAt at h
  refine zV_iload_n (j := 1) dX3_sortAt_0 rfl rfl ?_
  refine zV_if_lt (tgt := 21) dX3_sortAt_1 (by decide) (fun c1 => ?_) (fun c1 => ?_)
  · replace h := z_t c1 h
    refine zV_iconst (v := (-1)) dX3_sortAt_21 (by decide) ?_
    exact zV_iret rfl dX3_sortAt_22 (by decide) (by decide) (z_ret h)
  · replace h := z_f c1 h
    refine zV_iload_n (j := 1) dX3_sortAt_4 rfl rfl ?_
    refine zV_aload_n (j := 0) dX3_sortAt_5 rfl rfl ?_
    obtain ⟨g2, h⟩ := zg_of h
    refine zV_getI zf_RX3_18 dX3_sortAt_6 rfl g2 ?_
    refine zV_icmp_ge (tgt := 21) dX3_sortAt_9 (by decide) (fun c3 => ?_) (fun c3 => ?_)
    · replace h := z_t c3 h
      refine zV_iconst (v := (-1)) dX3_sortAt_21 (by decide) ?_
      exact zV_iret rfl dX3_sortAt_22 (by decide) (by decide) (z_ret h)
    · replace h := z_f c3 h
      refine zV_aload_n (j := 0) dX3_sortAt_12 rfl rfl ?_
      refine zV_getR zf_RX3_9 dX3_sortAt_13 rfl g2 ?_
      refine zV_iload_n (j := 1) dX3_sortAt_16 rfl rfl ?_
      obtain ⟨g4, h⟩ := zg_of h
      obtain ⟨g5, h⟩ := zg_of h
      refine zV_iald dX3_sortAt_17 g4 g5 ?_
      refine zV_goto (tgt := 22) dX3_sortAt_18 (by decide) ?_
      exact zV_iret rfl dX3_sortAt_22 (by decide) (by decide) (z_ret h)
set_option maxHeartbeats 4000000 in
set_option maxRecDepth 100000 in
theorem vX2_isLineLeftOut_35 {l : Launch} {D : va_G} {T : Nat → ClassId} {b : Nat} {gr : Bool} {n0 : Nat} (M : zM) (o : Int32 × zM) (h : fX2_isLineLeftOut_35 M = some o) : zV false l RX2 cX2_isLineLeftOut 4 (some .boolean) false 1 0 0 D T zE0 b gr n0 (0, o.1, o.2) 0 0 35 [] [] M := by
  unfold fX2_isLineLeftOut_35 at h
  refine zV_iconst (v := 1) dX2_isLineLeftOut_35 (by decide) ?_
  refine zV_goto (tgt := 40) dX2_isLineLeftOut_36 (by decide) ?_
  exact zV_zret rfl dX2_isLineLeftOut_40 (by decide) (by decide) (Or.inr rfl) (z_ret h)
set_option maxHeartbeats 4000000 in
set_option maxRecDepth 100000 in
theorem vX2_isLineLeftOut (l : Launch) (D : va_G) (T : Nat → ClassId) (b : Nat) (gr : Bool) (x0 : Nat) (x1 : Int32) (M : zM) (r : Int32) (M' : zM) (h : fX2_isLineLeftOut x0 x1 M = some (r, M')) : zMet l D T b gr yX2_isLineLeftOut cX2_isLineLeftOut 4 (some .boolean) 1 0 0 [zr b x0, .int x1] M (0, r, M') := by
  refine zEntry2 (ev := zE0) rfl false (fun h9 => nomatch h9) zp_yX2_isLineLeftOut ⟨zr_cat _ _, rfl, trivial⟩ (Nat.le_of_ble_eq_true rfl) ?_
  obtain ⟨o, ho⟩ : ∃ o : Int32 × zM, o = (r, M') := ⟨_, rfl⟩
  rw [← ho] at h
  rw [show ((0, r, M') : Nat × Int32 × zM) = (0, o.1, o.2) by rw [ho]]
  show zV false l RX2 cX2_isLineLeftOut 4 (some .boolean) false 1 0 0 D T zE0 b gr M.2.2.2 (0, o.1, o.2) 0 0 0 [(0, zr b x0), (1, .int x1)] [] M
  unfold fX2_isLineLeftOut at h
  refine zV_aload_n (j := 0) dX2_isLineLeftOut_0 rfl rfl ?_
  refine zV_iload_n (j := 1) dX2_isLineLeftOut_1 rfl rfl ?_
  refine zV_iconst (v := 1) dX2_isLineLeftOut_2 (by decide) ?_
  refine zV_isub dX2_isLineLeftOut_3 ?_
  obtain ⟨g1, h⟩ := zg_of h
  obtain ⟨r2, M3, q4, h⟩ := zb_of h
  refine zV_callVi (ci := 3) (As := [.int (x1 - 1)]) (rest := []) (vX3_sortAt l D T b gr x0 (x1 - 1) M _ _ q4) zm_yX3_sortAt zl_RX2_102 zi_yX3_sortAt ze_yX3_sortAt zcI3 g1 rfl rfl (zcs trivial (Nat.le_of_ble_eq_true rfl)) (by decide) (by decide) (by decide) dX2_isLineLeftOut_4 ?_
  refine zV_istore_n [(2, .int r2), (0, zr b x0), (1, .int x1)] dX2_isLineLeftOut_7 rfl (by decide) rfl rfl ?_
  refine zV_aload_n (j := 1) dX2_isLineLeftOut_8 rfl rfl ?_
  refine zV_iload_n (j := 2) dX2_isLineLeftOut_9 rfl rfl ?_
  refine zV_iconst (v := 1) dX2_isLineLeftOut_10 (by decide) ?_
  refine zV_iadd dX2_isLineLeftOut_11 ?_
  obtain ⟨g5, h⟩ := zg_of h
  obtain ⟨r6, M7, q8, h⟩ := zb_of h
  refine zV_callVi (ci := 3) (As := [.int (x1 + 1)]) (rest := []) (vX3_sortAt l D T b gr x0 (x1 + 1) M3 _ _ q8) zm_yX3_sortAt zl_RX2_102 zi_yX3_sortAt ze_yX3_sortAt zcI3 g5 rfl rfl (zcs trivial (Nat.le_of_ble_eq_true rfl)) (by decide) (by decide) (by decide) dX2_isLineLeftOut_12 ?_
  refine zV_istore_n [(3, .int r6), (2, .int r2), (0, zr b x0), (1, .int x1)] dX2_isLineLeftOut_15 rfl (by decide) rfl rfl ?_
  refine zV_iload_n (j := 1) dX2_isLineLeftOut_16 rfl rfl ?_
  refine zV_if_eq (tgt := 35) dX2_isLineLeftOut_17 (by decide) (fun c9 => ?_) (fun c9 => ?_)
  · replace h := z_t c9 h
    refine zV_pk [] rfl ?_
    exact vX2_isLineLeftOut_35 M7 _ h
  · replace h := z_f c9 h
    refine zV_iload_n (j := 1) dX2_isLineLeftOut_20 rfl rfl ?_
    refine zV_iconst (v := 2) dX2_isLineLeftOut_21 (by decide) ?_
    refine zV_icmp_eq (tgt := 35) dX2_isLineLeftOut_22 (by decide) (fun c10 => ?_) (fun c10 => ?_)
    · replace h := z_t c10 h
      refine zV_pk [] rfl ?_
      exact vX2_isLineLeftOut_35 M7 _ h
    · replace h := z_f c10 h
      refine zV_iload_n (j := 0) dX2_isLineLeftOut_25 rfl rfl ?_
      refine zV_iconst (v := 1) dX2_isLineLeftOut_26 (by decide) ?_
      refine zV_icmp_eq (tgt := 35) dX2_isLineLeftOut_27 (by decide) (fun c11 => ?_) (fun c11 => ?_)
      · replace h := z_t c11 h
        refine zV_pk [] rfl ?_
        exact vX2_isLineLeftOut_35 M7 _ h
      · replace h := z_f c11 h
        refine zV_iload_n (j := 0) dX2_isLineLeftOut_30 rfl rfl ?_
        refine zV_iconst (v := 3) dX2_isLineLeftOut_31 (by decide) ?_
        refine zV_icmp_ne (tgt := 39) dX2_isLineLeftOut_32 (by decide) (fun c12 => ?_) (fun c12 => ?_)
        · replace h := z_f c12 h
          refine zV_iconst (v := 0) dX2_isLineLeftOut_39 (by decide) ?_
          exact zV_zret rfl dX2_isLineLeftOut_40 (by decide) (by decide) (Or.inl rfl) (z_ret h)
        · replace h := z_t c12 h
          refine zV_pk [] rfl ?_
          exact vX2_isLineLeftOut_35 M7 _ h
set_option maxHeartbeats 4000000 in
set_option maxRecDepth 100000 in
theorem vX2_keepState (l : Launch) (D : va_G) (T : Nat → ClassId) (b : Nat) (gr : Bool) (x0 : Nat) (x1 : Int32) (x2 : Int32) (M : zM) (r : Int32) (M' : zM) (h : fX2_keepState x0 x1 x2 M = some (r, M')) : zMet l D T b gr yX2_keepState cX2_keepState 3 none 1 0 0 [zr b x0, .int x1, .int x2] M (0, r, M') := by
  refine zEntry2 (ev := zE0) rfl false (fun h9 => nomatch h9) zp_yX2_keepState ⟨zr_cat _ _, rfl, rfl, trivial⟩ (Nat.le_of_ble_eq_true rfl) ?_
  obtain ⟨o, ho⟩ : ∃ o : Int32 × zM, o = (r, M') := ⟨_, rfl⟩
  rw [← ho] at h
  rw [show ((0, r, M') : Nat × Int32 × zM) = (0, o.1, o.2) by rw [ho]]
  show zV false l RX2 cX2_keepState 3 none false 1 0 0 D T zE0 b gr M.2.2.2 (0, o.1, o.2) 0 0 0 [(0, zr b x0), (1, .int x1), (2, .int x2)] [] M
  unfold fX2_keepState at h
  refine zV_iload_n (j := 1) dX2_keepState_0 rfl rfl ?_
  refine zV_if_lt (tgt := 36) dX2_keepState_1 (by decide) (fun c1 => ?_) (fun c1 => ?_)
  · replace h := z_t c1 h
    exact zV_vret (x := 0) rfl dX2_keepState_36 (by decide) (by decide) (z_ret h)
  · replace h := z_f c1 h
    refine zV_iload_n (j := 1) dX2_keepState_4 rfl rfl ?_
    refine zV_aload_n (j := 0) dX2_keepState_5 rfl rfl ?_
    obtain ⟨g2, h⟩ := zg_of h
    refine zV_getR zf_RX2_39 dX2_keepState_6 rfl g2 ?_
    obtain ⟨g3, h⟩ := zg_of h
    refine zV_alen 112 6 dX2_keepState_9 g3 ⟨by decide, by decide⟩ rfl ?_
    refine zV_icmp_ge (tgt := 36) dX2_keepState_10 (by decide) (fun c4 => ?_) (fun c4 => ?_)
    · replace h := z_t c4 h
      exact zV_vret (x := 0) rfl dX2_keepState_36 (by decide) (by decide) (z_ret h)
    · replace h := z_f c4 h
      refine zV_aload_n (j := 0) dX2_keepState_13 rfl rfl ?_
      refine zV_getR zf_RX2_39 dX2_keepState_14 rfl g2 ?_
      refine zV_iload_n (j := 1) dX2_keepState_17 rfl rfl ?_
      obtain ⟨g5, h⟩ := zg_of h
      refine zV_aald 112 6 dX2_keepState_18 g3 ⟨by decide, by decide⟩ rfl g5 ?_
      refine zV_aload_n (j := 0) dX2_keepState_19 rfl rfl ?_
      refine zV_getR zf_RX2_66 dX2_keepState_20 rfl g2 ?_
      obtain ⟨g6, h⟩ := zg_of h
      obtain ⟨r7, M8, q9, h⟩ := zb_of h
      refine zV_callVv (ci := 4) (As := [zr b (zR M x0 10)]) (rest := []) (vX4_copyFrom l D T b gr (zR M (zR M x0 12) x1.toNatClampNeg) (zR M x0 10) M _ _ q9) zm_yX4_copyFrom zl_RX2_87 zi_yX4_copyFrom ze_yX4_copyFrom zcI4 g6 rfl rfl (zcs trivial (Nat.le_of_ble_eq_true rfl)) (by decide) (by decide) (by decide) dX2_keepState_23 ?_
      refine zV_aload_n (j := 0) dX2_keepState_26 rfl rfl ?_
      obtain ⟨g10, h⟩ := zg_of h
      refine zV_getR zf_RX2_39 dX2_keepState_27 rfl g10 ?_
      refine zV_iload_n (j := 1) dX2_keepState_30 rfl rfl ?_
      obtain ⟨g11, h⟩ := zg_of h
      obtain ⟨g12, h⟩ := zg_of h
      refine zV_aald 112 6 dX2_keepState_31 g11 ⟨by decide, by decide⟩ rfl g12 ?_
      refine zV_iload_n (j := 2) dX2_keepState_32 rfl rfl ?_
      obtain ⟨g13, h⟩ := zg_of h
      refine zV_putI zf_RX2_110 dX2_keepState_33 rfl rfl g13 ?_
      refine zV_mem (fun M14 e15 => ?_)
      replace h := zlet_of h e15
      exact zV_vret (x := 0) rfl dX2_keepState_36 (by decide) (by decide) (z_ret h)
set_option maxHeartbeats 4000000 in
set_option maxRecDepth 100000 in
theorem vX2_goThroughEntity_53 {l : Launch} {D : va_G} {T : Nat → ClassId} {b : Nat} {gr : Bool} {n0 : Nat} (kg : Nat) (g : Nat → Nat → Int32 → zM → Option (Int32 × zM)) (hg : ∀ (y0 : Nat) (y1 : Nat) (y2 : Int32) (N : zM) (r : Int32) (N' : zM), g y0 y1 y2 N = some (r, N') → zMet l D T b gr yX2_goThrough cX2_goThrough 9 none kg 0 0 [zr b y0, zr b y1, .int y2] N (0, r, N')) (x0 : Nat) (x1 : Int32) (x2 : Int32) (x3 : Int32) (M : zM) (o : Int32 × zM) (h : fX2_goThroughEntity_53 g x0 x1 x2 x3 M = some o) : zV false l RX2 cX2_goThroughEntity 5 none false (kg + 10) 0 0 D T zE0 b gr n0 (0, o.1, o.2) 0 0 53 [(0, zr b x0), (1, .int x1), (2, .int x2), (3, .int x3)] [] M := by
  unfold fX2_goThroughEntity_53 at h
  refine zV_iload_n (j := 3) dX2_goThroughEntity_53 rfl rfl ?_
  refine zV_if_eq (tgt := 63) dX2_goThroughEntity_54 (by decide) (fun c1 => ?_) (fun c1 => ?_)
  · replace h := z_t c1 h
    refine zV_aload_n (j := 0) dX2_goThroughEntity_63 rfl rfl ?_
    obtain ⟨g2, h⟩ := zg_of h
    refine zV_getR zf_RX2_46 dX2_goThroughEntity_64 rfl g2 ?_
    refine zV_iload_n (j := 2) dX2_goThroughEntity_67 rfl rfl ?_
    refine zV_iload_n (j := 1) dX2_goThroughEntity_68 rfl rfl ?_
    obtain ⟨g3, h⟩ := zg_of h
    obtain ⟨g4, h⟩ := zg_of h
    refine zV_iast dX2_goThroughEntity_69 g3 g4 ?_
    refine zV_mem (fun M5 e6 => ?_)
    replace h := zlet_of h e6
    refine zV_aload_n (j := 0) dX2_goThroughEntity_70 rfl rfl ?_
    refine zV_aload_n (j := 0) dX2_goThroughEntity_71 rfl rfl ?_
    refine zV_getR zf_RX2_56 dX2_goThroughEntity_72 rfl (zkI e6 g2) ?_
    refine zV_iload_n (j := 1) dX2_goThroughEntity_75 rfl rfl ?_
    obtain ⟨g7, h⟩ := zg_of h
    obtain ⟨g8, h⟩ := zg_of h
    refine zV_aald 111 5 dX2_goThroughEntity_76 g7 ⟨by decide, by decide⟩ rfl g8 ?_
    refine zV_iload_n (j := 2) dX2_goThroughEntity_77 rfl rfl ?_
    refine zV_iconst (v := 1) dX2_goThroughEntity_78 (by decide) ?_
    refine zV_iadd dX2_goThroughEntity_79 ?_
    obtain ⟨r9, M10, q11, h⟩ := zb_of h
    refine zV_callVv (ci := 2) (As := [zr b (zR M5 (zR M5 x0 2) x1.toNatClampNeg), .int (x2 + 1)]) (rest := []) (hg x0 (zR M5 (zR M5 x0 2) x1.toNatClampNeg) (x2 + 1) M5 _ _ q11) zm_yX2_goThrough zl_RX2_91 zi_yX2_goThrough ze_yX2_goThrough zcI2 (zkI e6 g2) rfl rfl (zcs trivial (Nat.le_of_ble_eq_true rfl)) (by omega) (by decide) (by decide) dX2_goThroughEntity_80 ?_
    exact zV_vret (x := 0) rfl dX2_goThroughEntity_83 (by decide) (by decide) (z_ret h)
  · replace h := z_f c1 h
    refine zV_aload_n (j := 0) dX2_goThroughEntity_57 rfl rfl ?_
    refine zV_iconst (v := 4) dX2_goThroughEntity_58 (by decide) ?_
    obtain ⟨g12, h⟩ := zg_of h
    obtain ⟨r13, M14, q15, h⟩ := zb_of h
    refine zV_callVv (ci := 2) (As := [.int 4]) (rest := []) (vX2_addError l D T b gr x0 4 M _ _ q15) zm_yX2_addError zl_RX2_142 zi_yX2_addError ze_yX2_addError zcI2 g12 rfl rfl (zcs trivial (Nat.le_of_ble_eq_true rfl)) (by omega) (by decide) (by decide) dX2_goThroughEntity_59 ?_
    exact zV_vret (x := 0) rfl dX2_goThroughEntity_62 (by decide) (by decide) (z_ret h)
set_option maxHeartbeats 4000000 in
set_option maxRecDepth 100000 in
theorem vX2_goThroughEntity_46 {l : Launch} {D : va_G} {T : Nat → ClassId} {b : Nat} {gr : Bool} {n0 : Nat} (kg : Nat) (g : Nat → Nat → Int32 → zM → Option (Int32 × zM)) (hg : ∀ (y0 : Nat) (y1 : Nat) (y2 : Int32) (N : zM) (r : Int32) (N' : zM), g y0 y1 y2 N = some (r, N') → zMet l D T b gr yX2_goThrough cX2_goThrough 9 none kg 0 0 [zr b y0, zr b y1, .int y2] N (0, r, N')) (k14 : Nat → Int32 → Int32 → Int32 → Int32 → zM → Option (Int32 × zM)) (hk14 : ∀ (z0 : Nat) (z1 : Int32) (z2 : Int32) (z3 : Int32) (z4 : Int32) (N : zM) (o : Int32 × zM), k14 z0 z1 z2 z3 z4 N = some o → zV false l RX2 cX2_goThroughEntity 5 none false (kg + 10) 0 0 D T zE0 b gr n0 (0, o.1, o.2) 0 0 14 [(0, zr b z0), (1, .int z1), (2, .int z2), (3, .int z3), (4, .int z4)] [] N) (x0 : Nat) (x1 : Int32) (x2 : Int32) (x4 : Int32) (s0 : Int32) (M : zM) (o : Int32 × zM) (h : fX2_goThroughEntity_46 g k14 x0 x1 x2 x4 s0 M = some o) : zV false l RX2 cX2_goThroughEntity 5 none false (kg + 10) 0 0 D T zE0 b gr n0 (0, o.1, o.2) 0 0 46 [(0, zr b x0), (1, .int x1), (2, .int x2), (4, .int x4)] [.int s0] M := by
  unfold fX2_goThroughEntity_46 at h
  refine zV_istore_n [(3, .int s0), (0, zr b x0), (1, .int x1), (2, .int x2), (4, .int x4)] dX2_goThroughEntity_46 rfl (by decide) rfl rfl ?_
  obtain ⟨u16, e17⟩ : ∃ y : Int32, y = x4 + 1 := ⟨_, rfl⟩
  replace h := zlet_of h e17
  refine zV_iinc (j := 4) (v := u16) [(4, .int u16), (3, .int s0), (0, zr b x0), (1, .int x1), (2, .int x2)] dX2_goThroughEntity_47 rfl (by rw [e17]; rfl) (by decide) rfl rfl ?_
  refine zV_goto (tgt := 14) dX2_goThroughEntity_50 (by decide) ?_
  refine zV_pk [2, 3, 4, 1, 0] rfl ?_
  exact hk14 x0 x1 x2 s0 u16 M _ h
set_option maxHeartbeats 4000000 in
set_option maxRecDepth 100000 in
theorem vX2_goThroughEntity_41 {l : Launch} {D : va_G} {T : Nat → ClassId} {b : Nat} {gr : Bool} {n0 : Nat} (kg : Nat) (g : Nat → Nat → Int32 → zM → Option (Int32 × zM)) (hg : ∀ (y0 : Nat) (y1 : Nat) (y2 : Int32) (N : zM) (r : Int32) (N' : zM), g y0 y1 y2 N = some (r, N') → zMet l D T b gr yX2_goThrough cX2_goThrough 9 none kg 0 0 [zr b y0, zr b y1, .int y2] N (0, r, N')) (k14 : Nat → Int32 → Int32 → Int32 → Int32 → zM → Option (Int32 × zM)) (hk14 : ∀ (z0 : Nat) (z1 : Int32) (z2 : Int32) (z3 : Int32) (z4 : Int32) (N : zM) (o : Int32 × zM), k14 z0 z1 z2 z3 z4 N = some o → zV false l RX2 cX2_goThroughEntity 5 none false (kg + 10) 0 0 D T zE0 b gr n0 (0, o.1, o.2) 0 0 14 [(0, zr b z0), (1, .int z1), (2, .int z2), (3, .int z3), (4, .int z4)] [] N) (x0 : Nat) (x1 : Int32) (x2 : Int32) (x4 : Int32) (M : zM) (o : Int32 × zM) (h : fX2_goThroughEntity_41 g k14 x0 x1 x2 x4 M = some o) : zV false l RX2 cX2_goThroughEntity 5 none false (kg + 10) 0 0 D T zE0 b gr n0 (0, o.1, o.2) 0 0 41 [(0, zr b x0), (1, .int x1), (2, .int x2), (4, .int x4)] [] M := by
  unfold fX2_goThroughEntity_41 at h
  refine zV_iconst (v := 1) dX2_goThroughEntity_41 (by decide) ?_
  refine zV_goto (tgt := 46) dX2_goThroughEntity_42 (by decide) ?_
  exact vX2_goThroughEntity_46 kg g hg k14 hk14 x0 x1 x2 x4 1 M _ h
set_option maxHeartbeats 4000000 in
set_option maxRecDepth 100000 in
theorem vX2_goThroughEntity_14 {l : Launch} {D : va_G} {T : Nat → ClassId} {b : Nat} {gr : Bool} {n0 : Nat} (kg : Nat) (g : Nat → Nat → Int32 → zM → Option (Int32 × zM)) (hg : ∀ (y0 : Nat) (y1 : Nat) (y2 : Int32) (N : zM) (r : Int32) (N' : zM), g y0 y1 y2 N = some (r, N') → zMet l D T b gr yX2_goThrough cX2_goThrough 9 none kg 0 0 [zr b y0, zr b y1, .int y2] N (0, r, N')) : ∀ (n : Nat) (x0 : Nat) (x1 : Int32) (x2 : Int32) (x3 : Int32) (x4 : Int32) (M : zM) (o : Int32 × zM), fX2_goThroughEntity_14 g n x0 x1 x2 x3 x4 M = some o → zV false l RX2 cX2_goThroughEntity 5 none false (kg + 10) 0 0 D T zE0 b gr n0 (0, o.1, o.2) 0 0 14 [(0, zr b x0), (1, .int x1), (2, .int x2), (3, .int x3), (4, .int x4)] [] M := by
  intro n
  induction n with
  | zero =>
    intro x0 x1 x2 x3 x4 M o h
    rw [fX2_goThroughEntity_14] at h
    cases h
  | succ n ih =>
    intro x0 x1 x2 x3 x4 M o h
    rw [fX2_goThroughEntity_14] at h
    refine zV_iload (j := 4) dX2_goThroughEntity_14 rfl ?_
    refine zV_iload_n (j := 2) dX2_goThroughEntity_16 rfl rfl ?_
    refine zV_icmp_ge (tgt := 53) dX2_goThroughEntity_17 (by decide) (fun c18 => ?_) (fun c18 => ?_)
    · replace h := z_t c18 h
      refine zV_pk [0, 1, 2, 3] rfl ?_
      exact vX2_goThroughEntity_53 kg g hg x0 x1 x2 x3 M _ h
    · replace h := z_f c18 h
      refine zV_iload (j := 4) dX2_goThroughEntity_20 rfl ?_
      refine zV_iconst (v := 2) dX2_goThroughEntity_22 (by decide) ?_
      refine zV_icmp_ge (tgt := 53) dX2_goThroughEntity_23 (by decide) (fun c19 => ?_) (fun c19 => ?_)
      · replace h := z_t c19 h
        refine zV_pk [0, 1, 2, 3] rfl ?_
        exact vX2_goThroughEntity_53 kg g hg x0 x1 x2 x3 M _ h
      · replace h := z_f c19 h
        refine zV_iload_n (j := 3) dX2_goThroughEntity_26 rfl rfl ?_
        refine zV_if_ne (tgt := 41) dX2_goThroughEntity_27 (by decide) (fun c20 => ?_) (fun c20 => ?_)
        · replace h := z_f c20 h
          refine zV_pk [0, 1, 2, 4] rfl ?_
          exact vX2_goThroughEntity_41 kg g hg (fX2_goThroughEntity_14 g n) ih x0 x1 x2 x4 M _ h
        · replace h := z_t c20 h
          refine zV_aload_n (j := 0) dX2_goThroughEntity_30 rfl rfl ?_
          obtain ⟨g21, h⟩ := zg_of h
          refine zV_getR zf_RX2_46 dX2_goThroughEntity_31 rfl g21 ?_
          refine zV_iload (j := 4) dX2_goThroughEntity_34 rfl ?_
          obtain ⟨g22, h⟩ := zg_of h
          obtain ⟨g23, h⟩ := zg_of h
          refine zV_iald dX2_goThroughEntity_36 g22 g23 ?_
          refine zV_iload_n (j := 1) dX2_goThroughEntity_37 rfl rfl ?_
          refine zV_icmp_ne (tgt := 45) dX2_goThroughEntity_38 (by decide) (fun c24 => ?_) (fun c24 => ?_)
          · replace h := z_f c24 h
            refine zV_iconst (v := 0) dX2_goThroughEntity_45 (by decide) ?_
            refine zV_pk [0, 1, 2, 4] rfl ?_
            exact vX2_goThroughEntity_46 kg g hg (fX2_goThroughEntity_14 g n) ih x0 x1 x2 x4 0 M _ h
          · replace h := z_t c24 h
            refine zV_pk [0, 1, 2, 4] rfl ?_
            exact vX2_goThroughEntity_41 kg g hg (fX2_goThroughEntity_14 g n) ih x0 x1 x2 x4 M _ h
set_option maxHeartbeats 4000000 in
set_option maxRecDepth 100000 in
theorem vX2_goThroughEntity_10 {l : Launch} {D : va_G} {T : Nat → ClassId} {b : Nat} {gr : Bool} {n0 : Nat} (kg : Nat) (g : Nat → Nat → Int32 → zM → Option (Int32 × zM)) (hg : ∀ (y0 : Nat) (y1 : Nat) (y2 : Int32) (N : zM) (r : Int32) (N' : zM), g y0 y1 y2 N = some (r, N') → zMet l D T b gr yX2_goThrough cX2_goThrough 9 none kg 0 0 [zr b y0, zr b y1, .int y2] N (0, r, N')) (x0 : Nat) (x1 : Int32) (x2 : Int32) (s0 : Int32) (M : zM) (o : Int32 × zM) (h : fX2_goThroughEntity_10 g x0 x1 x2 s0 M = some o) : zV false l RX2 cX2_goThroughEntity 5 none false (kg + 10) 0 0 D T zE0 b gr n0 (0, o.1, o.2) 0 0 10 [(0, zr b x0), (1, .int x1), (2, .int x2)] [.int s0] M := by
  unfold fX2_goThroughEntity_10 at h
  refine zV_istore_n [(3, .int s0), (0, zr b x0), (1, .int x1), (2, .int x2)] dX2_goThroughEntity_10 rfl (by decide) rfl rfl ?_
  refine zV_iconst (v := 0) dX2_goThroughEntity_11 (by decide) ?_
  refine zV_istore [(4, .int 0), (3, .int s0), (0, zr b x0), (1, .int x1), (2, .int x2)] dX2_goThroughEntity_12 (by decide) rfl rfl ?_
  refine zV_pk [2, 3, 4, 1, 0] rfl ?_
  exact vX2_goThroughEntity_14 kg g hg 10000 x0 x1 x2 s0 0 M _ h
set_option maxHeartbeats 4000000 in
set_option maxRecDepth 100000 in
theorem vX2_goThroughEntity (l : Launch) (D : va_G) (T : Nat → ClassId) (b : Nat) (gr : Bool) (kg : Nat) (g : Nat → Nat → Int32 → zM → Option (Int32 × zM)) (hg : ∀ (y0 : Nat) (y1 : Nat) (y2 : Int32) (N : zM) (r : Int32) (N' : zM), g y0 y1 y2 N = some (r, N') → zMet l D T b gr yX2_goThrough cX2_goThrough 9 none kg 0 0 [zr b y0, zr b y1, .int y2] N (0, r, N')) (x0 : Nat) (x1 : Int32) (x2 : Int32) (M : zM) (r : Int32) (M' : zM) (h : fX2_goThroughEntity g x0 x1 x2 M = some (r, M')) : zMet l D T b gr yX2_goThroughEntity cX2_goThroughEntity 5 none (kg + 10) 0 0 [zr b x0, .int x1, .int x2] M (0, r, M') := by
  refine zEntry2 (ev := zE0) rfl false (fun h9 => nomatch h9) zp_yX2_goThroughEntity ⟨zr_cat _ _, rfl, rfl, trivial⟩ (Nat.le_of_ble_eq_true rfl) ?_
  obtain ⟨o, ho⟩ : ∃ o : Int32 × zM, o = (r, M') := ⟨_, rfl⟩
  rw [← ho] at h
  rw [show ((0, r, M') : Nat × Int32 × zM) = (0, o.1, o.2) by rw [ho]]
  show zV false l RX2 cX2_goThroughEntity 5 none false (kg + 10) 0 0 D T zE0 b gr M.2.2.2 (0, o.1, o.2) 0 0 0 [(0, zr b x0), (1, .int x1), (2, .int x2)] [] M
  unfold fX2_goThroughEntity at h
  refine zV_iload_n (j := 2) dX2_goThroughEntity_0 rfl rfl ?_
  refine zV_iconst (v := 2) dX2_goThroughEntity_1 (by decide) ?_
  refine zV_icmp_lt (tgt := 9) dX2_goThroughEntity_2 (by decide) (fun c25 => ?_) (fun c25 => ?_)
  · replace h := z_t c25 h
    refine zV_iconst (v := 0) dX2_goThroughEntity_9 (by decide) ?_
    exact vX2_goThroughEntity_10 kg g hg x0 x1 x2 0 M _ h
  · replace h := z_f c25 h
    refine zV_iconst (v := 1) dX2_goThroughEntity_5 (by decide) ?_
    refine zV_goto (tgt := 10) dX2_goThroughEntity_6 (by decide) ?_
    exact vX2_goThroughEntity_10 kg g hg x0 x1 x2 1 M _ h
set_option maxHeartbeats 4000000 in
set_option maxRecDepth 100000 in
theorem vX2_readToken (l : Launch) (D : va_G) (T : Nat → ClassId) (b : Nat) (gr : Bool) (kg : Nat) (g : Nat → Nat → Int32 → zM → Option (Int32 × zM)) (hg : ∀ (y0 : Nat) (y1 : Nat) (y2 : Int32) (N : zM) (r : Int32) (N' : zM), g y0 y1 y2 N = some (r, N') → zMet l D T b gr yX2_goThrough cX2_goThrough 9 none kg 0 0 [zr b y0, zr b y1, .int y2] N (0, r, N')) (x0 : Nat) (x1 : Nat) (x2 : Int32) (x3 : Int32) (M : zM) (r : Int32) (M' : zM) (h : fX2_readToken g x0 x1 x2 x3 M = some (r, M')) : zMet l D T b gr yX2_readToken cX2_readToken 5 none (kg + 20) 0 0 [zr b x0, zr b x1, .int x2, .int x3] M (0, r, M') := by
  refine zEntry2 (ev := zE0) rfl false (fun h9 => nomatch h9) zp_yX2_readToken ⟨zr_cat _ _, zr_cat _ _, rfl, rfl, trivial⟩ (Nat.le_of_ble_eq_true rfl) ?_
  obtain ⟨o, ho⟩ : ∃ o : Int32 × zM, o = (r, M') := ⟨_, rfl⟩
  rw [← ho] at h
  rw [show ((0, r, M') : Nat × Int32 × zM) = (0, o.1, o.2) by rw [ho]]
  show zV false l RX2 cX2_readToken 5 none false (kg + 20) 0 0 D T zE0 b gr M.2.2.2 (0, o.1, o.2) 0 0 0 [(0, zr b x0), (1, zr b x1), (2, .int x2), (3, .int x3)] [] M
  unfold fX2_readToken at h
  refine zV_aload_n (j := 1) dX2_readToken_0 rfl rfl ?_
  obtain ⟨g1, h⟩ := zg_of h
  refine zV_getR zf_RX2_120 dX2_readToken_1 rfl g1 ?_
  refine zV_iload_n (j := 2) dX2_readToken_4 rfl rfl ?_
  obtain ⟨g2, h⟩ := zg_of h
  obtain ⟨g3, h⟩ := zg_of h
  refine zV_iald dX2_readToken_5 g2 g3 ?_
  refine zV_top (fun u4 e5 => ?_)
  replace h := zlet_of h e5
  refine zV_istore [(4, .int u4), (0, zr b x0), (1, zr b x1), (2, .int x2), (3, .int x3)] dX2_readToken_6 (by decide) rfl rfl ?_
  refine zV_aload_n (j := 2) dX2_readToken_8 rfl rfl ?_
  refine zV_getR zf_RX2_117 dX2_readToken_9 rfl g1 ?_
  refine zV_iload_n (j := 3) dX2_readToken_12 rfl rfl ?_
  obtain ⟨g6, h⟩ := zg_of h
  obtain ⟨g7, h⟩ := zg_of h
  refine zV_iald dX2_readToken_13 g6 g7 ?_
  by_cases c8 : (zI M (zR M x1 0) x2.toNatClampNeg) = 0
  · replace h := z_t c8 h
    refine zV_tin (v := 0) (tgt := 56) dX2_readToken_14 c8 (by decide) (by decide) rfl (by decide) ?_
    refine zV_aload_n (j := 1) dX2_readToken_56 rfl rfl ?_
    refine zV_iload (j := 0) dX2_readToken_57 rfl ?_
    refine zV_bipush (v := 60) dX2_readToken_59 (by decide) ?_
    obtain ⟨g9, h⟩ := zg_of h
    obtain ⟨r10, M11, q12, h⟩ := zb_of h
    refine zV_callVv (ci := 2) (As := [.int u4, .int 60]) (rest := []) (vX2_readThing l D T b gr x0 u4 60 M _ _ q12) zm_yX2_readThing zl_RX2_130 zi_yX2_readThing ze_yX2_readThing zcI2 g9 rfl rfl (zcs trivial (Nat.le_of_ble_eq_true rfl)) (by omega) (by decide) (by decide) dX2_readToken_61 ?_
    refine zV_goto (tgt := 185) dX2_readToken_64 (by decide) ?_
    exact zV_vret (x := 0) rfl dX2_readToken_185 (by decide) (by decide) (z_ret h)
  · replace h := z_f c8 h
    by_cases c13 : (zI M (zR M x1 0) x2.toNatClampNeg) = 1
    · replace h := z_t c13 h
      refine zV_tin (v := 1) (tgt := 102) dX2_readToken_14 c13 (by decide) (by decide) rfl (by decide) ?_
      refine zV_aload_n (j := 1) dX2_readToken_102 rfl rfl ?_
      refine zV_aload_n (j := 1) dX2_readToken_103 rfl rfl ?_
      obtain ⟨g14, h⟩ := zg_of h
      refine zV_getR zf_RX2_66 dX2_readToken_104 rfl g14 ?_
      refine zV_iload (j := 0) dX2_readToken_107 rfl ?_
      obtain ⟨g15, h⟩ := zg_of h
      obtain ⟨r16, M17, q18, h⟩ := zb_of h
      refine zV_callVi (ci := 4) (As := [.int u4]) (rest := [zr b x0]) (vX4_lastOpenOf l D T b gr (zR M x0 10) u4 M _ _ q18) zm_yX4_lastOpenOf zl_RX2_148 zi_yX4_lastOpenOf ze_yX4_lastOpenOf zcI4 g15 rfl rfl (zcs ⟨zr_cat _ _, trivial⟩ (Nat.le_of_ble_eq_true rfl)) (by omega) (by decide) (by decide) dX2_readToken_109 ?_
      obtain ⟨g19, h⟩ := zg_of h
      obtain ⟨r20, M21, q22, h⟩ := zb_of h
      refine zV_callVv (ci := 2) (As := [.int r16]) (rest := []) (vX2_closeByTag l D T b gr x0 r16 M17 _ _ q22) zm_yX2_closeByTag zl_RX2_151 zi_yX2_closeByTag ze_yX2_closeByTag zcI2 g19 rfl rfl (zcs trivial (Nat.le_of_ble_eq_true rfl)) (by omega) (by decide) (by decide) dX2_readToken_112 ?_
      refine zV_goto (tgt := 185) dX2_readToken_115 (by decide) ?_
      exact zV_vret (x := 0) rfl dX2_readToken_185 (by decide) (by decide) (z_ret h)
    · replace h := z_f c13 h
      by_cases c23 : (zI M (zR M x1 0) x2.toNatClampNeg) = 2
      · replace h := z_t c23 h
        refine zV_tin (v := 2) (tgt := 67) dX2_readToken_14 c23 (by decide) (by decide) rfl (by decide) ?_
        refine zV_aload_n (j := 1) dX2_readToken_67 rfl rfl ?_
        obtain ⟨g24, h⟩ := zg_of h
        refine zV_getR zf_RX2_66 dX2_readToken_68 rfl g24 ?_
        obtain ⟨g25, h⟩ := zg_of h
        refine zV_getI zf_RX2_145 dX2_readToken_71 rfl g25 ?_
        refine zV_iconst (v := (-1)) dX2_readToken_74 (by decide) ?_
        refine zV_icmp_ne (tgt := 86) dX2_readToken_75 (by decide) (fun c26 => ?_) (fun c26 => ?_)
        · replace h := z_f c26 h
          refine zV_aload_n (j := 1) dX2_readToken_86 rfl rfl ?_
          refine zV_aload_n (j := 1) dX2_readToken_87 rfl rfl ?_
          refine zV_getR zf_RX2_66 dX2_readToken_88 rfl g24 ?_
          refine zV_getI zf_RX2_145 dX2_readToken_91 rfl g25 ?_
          refine zV_bipush (v := 60) dX2_readToken_94 (by decide) ?_
          obtain ⟨r27, M28, q29, h⟩ := zb_of h
          refine zV_callVv (ci := 2) (As := [.int (zI M (zR M x0 10) 4), .int 60]) (rest := []) (vX2_readThing l D T b gr x0 (zI M (zR M x0 10) 4) 60 M _ _ q29) zm_yX2_readThing zl_RX2_130 zi_yX2_readThing ze_yX2_readThing zcI2 g24 rfl rfl (zcs trivial (Nat.le_of_ble_eq_true rfl)) (by omega) (by decide) (by decide) dX2_readToken_96 ?_
          refine zV_goto (tgt := 185) dX2_readToken_99 (by decide) ?_
          exact zV_vret (x := 0) rfl dX2_readToken_185 (by decide) (by decide) (z_ret h)
        · replace h := z_t c26 h
          refine zV_aload_n (j := 1) dX2_readToken_78 rfl rfl ?_
          refine zV_iconst (v := 1) dX2_readToken_79 (by decide) ?_
          obtain ⟨r30, M31, q32, h⟩ := zb_of h
          refine zV_callVv (ci := 2) (As := [.int 1]) (rest := []) (vX2_addError l D T b gr x0 1 M _ _ q32) zm_yX2_addError zl_RX2_142 zi_yX2_addError ze_yX2_addError zcI2 g24 rfl rfl (zcs trivial (Nat.le_of_ble_eq_true rfl)) (by omega) (by decide) (by decide) dX2_readToken_80 ?_
          refine zV_goto (tgt := 185) dX2_readToken_83 (by decide) ?_
          exact zV_vret (x := 0) rfl dX2_readToken_185 (by decide) (by decide) (z_ret h)
      · replace h := z_f c23 h
        by_cases c33 : (zI M (zR M x1 0) x2.toNatClampNeg) = 3
        · replace h := z_t c33 h
          refine zV_tin (v := 3) (tgt := 118) dX2_readToken_14 c33 (by decide) (by decide) rfl (by decide) ?_
          refine zV_aload_n (j := 1) dX2_readToken_118 rfl rfl ?_
          refine zV_aload_n (j := 1) dX2_readToken_119 rfl rfl ?_
          obtain ⟨g34, h⟩ := zg_of h
          refine zV_getR zf_RX2_66 dX2_readToken_120 rfl g34 ?_
          refine zV_aload_n (j := 1) dX2_readToken_123 rfl rfl ?_
          refine zV_getR zf_RX2_66 dX2_readToken_124 rfl g34 ?_
          obtain ⟨g35, h⟩ := zg_of h
          obtain ⟨r36, M37, q38, h⟩ := zb_of h
          refine zV_callVi (ci := 4) (As := []) (rest := [zr b (zR M x0 10), zr b x0]) (vX4_currentElement l D T b gr (zR M x0 10) M _ _ q38) zm_yX4_currentElement zl_RX2_154 zi_yX4_currentElement ze_yX4_currentElement zcI4 g35 rfl rfl (zcs ⟨zr_cat _ _, zr_cat _ _, trivial⟩ (Nat.le_of_ble_eq_true rfl)) (by omega) (by decide) (by decide) dX2_readToken_127 ?_
          obtain ⟨g39, h⟩ := zg_of h
          obtain ⟨r40, M41, q42, h⟩ := zb_of h
          refine zV_callVi (ci := 4) (As := [.int r36]) (rest := [zr b x0]) (vX4_lastOpenOf l D T b gr (zR M x0 10) r36 M37 _ _ q42) zm_yX4_lastOpenOf zl_RX2_148 zi_yX4_lastOpenOf ze_yX4_lastOpenOf zcI4 g39 rfl rfl (zcs ⟨zr_cat _ _, trivial⟩ (Nat.le_of_ble_eq_true rfl)) (by omega) (by decide) (by decide) dX2_readToken_130 ?_
          obtain ⟨g43, h⟩ := zg_of h
          obtain ⟨r44, M45, q46, h⟩ := zb_of h
          refine zV_callVv (ci := 2) (As := [.int r40]) (rest := []) (vX2_closeByTag l D T b gr x0 r40 M41 _ _ q46) zm_yX2_closeByTag zl_RX2_151 zi_yX2_closeByTag ze_yX2_closeByTag zcI2 g43 rfl rfl (zcs trivial (Nat.le_of_ble_eq_true rfl)) (by omega) (by decide) (by decide) dX2_readToken_133 ?_
          refine zV_goto (tgt := 185) dX2_readToken_136 (by decide) ?_
          exact zV_vret (x := 0) rfl dX2_readToken_185 (by decide) (by decide) (z_ret h)
        · replace h := z_f c33 h
          by_cases c47 : (zI M (zR M x1 0) x2.toNatClampNeg) = 4
          · replace h := z_t c47 h
            refine zV_tin (v := 4) (tgt := 139) dX2_readToken_14 c47 (by decide) (by decide) rfl (by decide) ?_
            refine zV_aload_n (j := 1) dX2_readToken_139 rfl rfl ?_
            refine zV_bipush (v := 10) dX2_readToken_140 (by decide) ?_
            refine zV_iload (j := 0) dX2_readToken_142 rfl ?_
            refine zV_i2c dX2_readToken_144 ?_
            obtain ⟨g48, h⟩ := zg_of h
            obtain ⟨r49, M50, q51, h⟩ := zb_of h
            refine zV_callVv (ci := 2) (As := [.int 10, .int ((u4.toUInt32 % 65536).toInt32)]) (rest := []) (vX2_readThing l D T b gr x0 10 ((u4.toUInt32 % 65536).toInt32) M _ _ q51) zm_yX2_readThing zl_RX2_130 zi_yX2_readThing ze_yX2_readThing zcI2 g48 rfl rfl (zcs trivial (Nat.le_of_ble_eq_true rfl)) (by omega) (by decide) (by decide) dX2_readToken_145 ?_
            refine zV_goto (tgt := 185) dX2_readToken_148 (by decide) ?_
            exact zV_vret (x := 0) rfl dX2_readToken_185 (by decide) (by decide) (z_ret h)
          · replace h := z_f c47 h
            by_cases c52 : (zI M (zR M x1 0) x2.toNatClampNeg) = 5
            · replace h := z_t c52 h
              refine zV_tin (v := 5) (tgt := 151) dX2_readToken_14 c52 (by decide) (by decide) rfl (by decide) ?_
              refine zV_aload_n (j := 2) dX2_readToken_151 rfl rfl ?_
              refine zV_iload_n (j := 3) dX2_readToken_152 rfl rfl ?_
              obtain ⟨r53, M54, q55, h⟩ := zb_of h
              refine zV_callSi (As := [zr b x1, .int x2]) (rest := []) (vX2_isLineLeftOut l D T b gr x1 x2 M _ _ q55) zm_yX2_isLineLeftOut zl_RX2_158 zs_yX2_isLineLeftOut rfl rfl (zcs trivial (Nat.le_of_ble_eq_true rfl)) (by omega) (by decide) (by decide) dX2_readToken_153 ?_
              refine zV_if_ne (tgt := 185) dX2_readToken_156 (by decide) (fun c56 => ?_) (fun c56 => ?_)
              · replace h := z_f c56 h
                exact zV_vret (x := 0) rfl dX2_readToken_185 (by decide) (by decide) (z_ret h)
              · replace h := z_t c56 h
                refine zV_aload_n (j := 1) dX2_readToken_159 rfl rfl ?_
                refine zV_bipush (v := 10) dX2_readToken_160 (by decide) ?_
                refine zV_bipush (v := 32) dX2_readToken_162 (by decide) ?_
                obtain ⟨g57, h⟩ := zg_of h
                obtain ⟨r58, M59, q60, h⟩ := zb_of h
                refine zV_callVv (ci := 2) (As := [.int 10, .int 32]) (rest := []) (vX2_readThing l D T b gr x0 10 32 M54 _ _ q60) zm_yX2_readThing zl_RX2_130 zi_yX2_readThing ze_yX2_readThing zcI2 g57 rfl rfl (zcs trivial (Nat.le_of_ble_eq_true rfl)) (by omega) (by decide) (by decide) dX2_readToken_164 ?_
                refine zV_goto (tgt := 185) dX2_readToken_167 (by decide) ?_
                exact zV_vret (x := 0) rfl dX2_readToken_185 (by decide) (by decide) (z_ret h)
            · replace h := z_f c52 h
              by_cases c61 : (zI M (zR M x1 0) x2.toNatClampNeg) = 6
              · replace h := z_t c61 h
                refine zV_tin (v := 6) (tgt := 170) dX2_readToken_14 c61 (by decide) (by decide) rfl (by decide) ?_
                refine zV_aload_n (j := 1) dX2_readToken_170 rfl rfl ?_
                refine zV_iload (j := 0) dX2_readToken_171 rfl ?_
                refine zV_iload_n (j := 4) dX2_readToken_173 rfl rfl ?_
                obtain ⟨g62, h⟩ := zg_of h
                obtain ⟨r63, M64, q65, h⟩ := zb_of h
                refine zV_callVv (ci := 2) (As := [.int u4, .int x3]) (rest := []) (vX2_goThroughEntity l D T b gr kg g hg x0 u4 x3 M _ _ q65) zm_yX2_goThroughEntity zl_RX2_162 zi_yX2_goThroughEntity ze_yX2_goThroughEntity zcI2 g62 rfl rfl (zcs trivial (Nat.le_of_ble_eq_true rfl)) (by omega) (by decide) (by decide) dX2_readToken_174 ?_
                refine zV_goto (tgt := 185) dX2_readToken_177 (by decide) ?_
                exact zV_vret (x := 0) rfl dX2_readToken_185 (by decide) (by decide) (z_ret h)
              · replace h := z_f c61 h
                refine zV_tout (tgt := 180) dX2_readToken_14 (z_out_0_6 c8 c13 c23 c33 c47 c52 c61) (by decide) ?_
                refine zV_aload_n (j := 1) dX2_readToken_180 rfl rfl ?_
                refine zV_iconst (v := 5) dX2_readToken_181 (by decide) ?_
                obtain ⟨g66, h⟩ := zg_of h
                obtain ⟨r67, M68, q69, h⟩ := zb_of h
                refine zV_callVv (ci := 2) (As := [.int 5]) (rest := []) (vX2_addError l D T b gr x0 5 M _ _ q69) zm_yX2_addError zl_RX2_142 zi_yX2_addError ze_yX2_addError zcI2 g66 rfl rfl (zcs trivial (Nat.le_of_ble_eq_true rfl)) (by omega) (by decide) (by decide) dX2_readToken_182 ?_
                exact zV_vret (x := 0) rfl dX2_readToken_185 (by decide) (by decide) (z_ret h)
set_option maxHeartbeats 4000000 in
set_option maxRecDepth 100000 in
theorem vX2_goThrough_228 {l : Launch} {D : va_G} {T : Nat → ClassId} {b : Nat} {gr : Bool} {n0 : Nat} (kg : Nat) (g : Nat → Nat → Int32 → zM → Option (Int32 × zM)) (hg : ∀ (y0 : Nat) (y1 : Nat) (y2 : Int32) (N : zM) (r : Int32) (N' : zM), g y0 y1 y2 N = some (r, N') → zMet l D T b gr yX2_goThrough cX2_goThrough 9 none kg 0 0 [zr b y0, zr b y1, .int y2] N (0, r, N')) : ∀ (n : Nat) (x0 : Nat) (x3 : Int32) (x4 : Int32) (x6 : Int32) (M : zM) (o : Int32 × zM), fX2_goThrough_228 g n x0 x3 x4 x6 M = some o → zV false l RX2 cX2_goThrough 9 none false (kg + 30) 0 0 D T zE0 b gr n0 (0, o.1, o.2) 0 0 228 [(0, zr b x0), (3, .int x3), (4, .int x4), (6, .int x6)] [] M := by
  intro n
  induction n with
  | zero =>
    intro x0 x3 x4 x6 M o h
    rw [fX2_goThrough_228] at h
    cases h
  | succ n ih =>
    intro x0 x3 x4 x6 M o h
    rw [fX2_goThrough_228] at h
    refine zV_iload (j := 3) dX2_goThrough_228 rfl ?_
    refine zV_iload_n (j := 1) dX2_goThrough_230 rfl rfl ?_
    refine zV_iload (j := 2) dX2_goThrough_231 rfl ?_
    refine zV_iadd dX2_goThrough_233 ?_
    refine zV_icmp_ge (tgt := 248) dX2_goThrough_234 (by decide) (fun c1 => ?_) (fun c1 => ?_)
    · replace h := z_t c1 h
      exact zV_vret (x := 0) rfl dX2_goThrough_248 (by decide) (by decide) (z_ret h)
    · replace h := z_f c1 h
      refine zV_aload_n (j := 0) dX2_goThrough_237 rfl rfl ?_
      refine zV_iconst (v := 5) dX2_goThrough_238 (by decide) ?_
      obtain ⟨g2, h⟩ := zg_of h
      obtain ⟨r3, M4, q5, h⟩ := zb_of h
      refine zV_callVv (ci := 2) (As := [.int 5]) (rest := []) (vX2_addError l D T b gr x0 5 M _ _ q5) zm_yX2_addError zl_RX2_142 zi_yX2_addError ze_yX2_addError zcI2 g2 rfl rfl (zcs trivial (Nat.le_of_ble_eq_true rfl)) (by omega) (by decide) (by decide) dX2_goThrough_239 ?_
      obtain ⟨u6, e7⟩ : ∃ y : Int32, y = x6 + 1 := ⟨_, rfl⟩
      replace h := zlet_of h e7
      refine zV_iinc (j := 3) (v := u6) [(6, .int u6), (0, zr b x0), (3, .int x3), (4, .int x4)] dX2_goThrough_242 rfl (by rw [e7]; rfl) (by decide) rfl rfl ?_
      refine zV_goto (tgt := 228) dX2_goThrough_245 (by decide) ?_
      refine zV_pk [1, 2, 3, 0] rfl ?_
      exact ih x0 x3 x4 u6 M4 _ h
set_option maxHeartbeats 4000000 in
set_option maxRecDepth 100000 in
theorem vX2_goThrough_222 {l : Launch} {D : va_G} {T : Nat → ClassId} {b : Nat} {gr : Bool} {n0 : Nat} (kg : Nat) (g : Nat → Nat → Int32 → zM → Option (Int32 × zM)) (hg : ∀ (y0 : Nat) (y1 : Nat) (y2 : Int32) (N : zM) (r : Int32) (N' : zM), g y0 y1 y2 N = some (r, N') → zMet l D T b gr yX2_goThrough cX2_goThrough 9 none kg 0 0 [zr b y0, zr b y1, .int y2] N (0, r, N')) (x0 : Nat) (x3 : Int32) (x4 : Int32) (s0 : Nat) (s1 : Int32) (M : zM) (o : Int32 × zM) (h : fX2_goThrough_222 g x0 x3 x4 s0 s1 M = some o) : zV false l RX2 cX2_goThrough 9 none false (kg + 30) 0 0 D T zE0 b gr n0 (0, o.1, o.2) 0 0 222 [(0, zr b x0), (3, .int x3), (4, .int x4)] [.int s1, zr b s0] M := by
  unfold fX2_goThrough_222 at h
  obtain ⟨g8, h⟩ := zg_of h
  refine zV_putI zf_RX2_123 dX2_goThrough_222 rfl rfl g8 ?_
  refine zV_mem (fun M9 e10 => ?_)
  replace h := zlet_of h e10
  refine zV_iconst (v := 0) dX2_goThrough_225 (by decide) ?_
  refine zV_istore [(6, .int 0), (0, zr b x0), (3, .int x3), (4, .int x4)] dX2_goThrough_226 (by decide) rfl rfl ?_
  refine zV_pk [1, 2, 3, 0] rfl ?_
  exact vX2_goThrough_228 kg g hg 10000 x0 x3 x4 0 M9 _ h
set_option maxHeartbeats 4000000 in
set_option maxRecDepth 100000 in
theorem vX2_goThrough_206 {l : Launch} {D : va_G} {T : Nat → ClassId} {b : Nat} {gr : Bool} {n0 : Nat} (kg : Nat) (g : Nat → Nat → Int32 → zM → Option (Int32 × zM)) (hg : ∀ (y0 : Nat) (y1 : Nat) (y2 : Int32) (N : zM) (r : Int32) (N' : zM), g y0 y1 y2 N = some (r, N') → zMet l D T b gr yX2_goThrough cX2_goThrough 9 none kg 0 0 [zr b y0, zr b y1, .int y2] N (0, r, N')) (x0 : Nat) (x1 : Nat) (x2 : Int32) (x3 : Int32) (x4 : Int32) (M : zM) (o : Int32 × zM) (h : fX2_goThrough_206 g x0 x1 x2 x3 x4 M = some o) : zV false l RX2 cX2_goThrough 9 none false (kg + 30) 0 0 D T zE0 b gr n0 (0, o.1, o.2) 0 0 206 [(0, zr b x0), (1, zr b x1), (2, .int x2), (3, .int x3), (4, .int x4)] [] M := by
  unfold fX2_goThrough_206 at h
  refine zV_aload_n (j := 0) dX2_goThrough_206 rfl rfl ?_
  refine zV_iload_n (j := 2) dX2_goThrough_207 rfl rfl ?_
  refine zV_if_ne (tgt := 218) dX2_goThrough_208 (by decide) (fun c11 => ?_) (fun c11 => ?_)
  · replace h := z_f c11 h
    refine zV_aload_n (j := 0) dX2_goThrough_218 rfl rfl ?_
    obtain ⟨g12, h⟩ := zg_of h
    refine zV_getI zf_RX2_123 dX2_goThrough_219 rfl g12 ?_
    refine zV_pk [0, 3, 4] rfl ?_
    exact vX2_goThrough_222 kg g hg x0 x3 x4 x0 (zI M x0 15) M _ h
  · replace h := z_t c11 h
    refine zV_aload_n (j := 1) dX2_goThrough_211 rfl rfl ?_
    obtain ⟨g13, h⟩ := zg_of h
    refine zV_getI zf_RX2_70 dX2_goThrough_212 rfl g13 ?_
    refine zV_goto (tgt := 222) dX2_goThrough_215 (by decide) ?_
    refine zV_pk [0, 3, 4] rfl ?_
    exact vX2_goThrough_222 kg g hg x0 x3 x4 x0 (zI M x1 2) M _ h
set_option maxHeartbeats 4000000 in
set_option maxRecDepth 100000 in
theorem vX2_goThrough_200 {l : Launch} {D : va_G} {T : Nat → ClassId} {b : Nat} {gr : Bool} {n0 : Nat} (kg : Nat) (g : Nat → Nat → Int32 → zM → Option (Int32 × zM)) (hg : ∀ (y0 : Nat) (y1 : Nat) (y2 : Int32) (N : zM) (r : Int32) (N' : zM), g y0 y1 y2 N = some (r, N') → zMet l D T b gr yX2_goThrough cX2_goThrough 9 none kg 0 0 [zr b y0, zr b y1, .int y2] N (0, r, N')) (k11 : Nat → Nat → Int32 → Int32 → Int32 → Int32 → Int32 → zM → Option (Int32 × zM)) (hk11 : ∀ (z0 : Nat) (z1 : Nat) (z2 : Int32) (z3 : Int32) (z4 : Int32) (z5 : Int32) (z6 : Int32) (N : zM) (o : Int32 × zM), k11 z0 z1 z2 z3 z4 z5 z6 N = some o → zV false l RX2 cX2_goThrough 9 none false (kg + 30) 0 0 D T zE0 b gr n0 (0, o.1, o.2) 0 0 11 [(0, zr b z0), (1, zr b z1), (2, .int z2), (3, .int z3), (4, .int z4), (5, .int z5), (6, .int z6)] [] N) (x0 : Nat) (x1 : Nat) (x2 : Int32) (x3 : Int32) (x4 : Int32) (x5 : Int32) (x6 : Int32) (M : zM) (o : Int32 × zM) (h : fX2_goThrough_200 g k11 x0 x1 x2 x3 x4 x5 x6 M = some o) : zV false l RX2 cX2_goThrough 9 none false (kg + 30) 0 0 D T zE0 b gr n0 (0, o.1, o.2) 0 0 200 [(0, zr b x0), (1, zr b x1), (2, .int x2), (3, .int x3), (4, .int x4), (5, .int x5), (6, .int x6)] [] M := by
  unfold fX2_goThrough_200 at h
  obtain ⟨u14, e15⟩ : ∃ y : Int32, y = x6 + 1 := ⟨_, rfl⟩
  replace h := zlet_of h e15
  refine zV_iinc (j := 6) (v := u14) [(6, .int u14), (0, zr b x0), (1, zr b x1), (2, .int x2), (3, .int x3), (4, .int x4), (5, .int x5)] dX2_goThrough_200 rfl (by rw [e15]; rfl) (by decide) rfl rfl ?_
  refine zV_goto (tgt := 11) dX2_goThrough_203 (by decide) ?_
  refine zV_pk [1, 2, 3, 4, 5, 6, 0] rfl ?_
  exact hk11 x0 x1 x2 x3 x4 x5 u14 M _ h
set_option maxHeartbeats 4000000 in
set_option maxRecDepth 100000 in
theorem vX2_goThrough_184 {l : Launch} {D : va_G} {T : Nat → ClassId} {b : Nat} {gr : Bool} {n0 : Nat} (kg : Nat) (g : Nat → Nat → Int32 → zM → Option (Int32 × zM)) (hg : ∀ (y0 : Nat) (y1 : Nat) (y2 : Int32) (N : zM) (r : Int32) (N' : zM), g y0 y1 y2 N = some (r, N') → zMet l D T b gr yX2_goThrough cX2_goThrough 9 none kg 0 0 [zr b y0, zr b y1, .int y2] N (0, r, N')) (k11 : Nat → Nat → Int32 → Int32 → Int32 → Int32 → Int32 → zM → Option (Int32 × zM)) (hk11 : ∀ (z0 : Nat) (z1 : Nat) (z2 : Int32) (z3 : Int32) (z4 : Int32) (z5 : Int32) (z6 : Int32) (N : zM) (o : Int32 × zM), k11 z0 z1 z2 z3 z4 z5 z6 N = some o → zV false l RX2 cX2_goThrough 9 none false (kg + 30) 0 0 D T zE0 b gr n0 (0, o.1, o.2) 0 0 11 [(0, zr b z0), (1, zr b z1), (2, .int z2), (3, .int z3), (4, .int z4), (5, .int z5), (6, .int z6)] [] N) (x0 : Nat) (x1 : Nat) (x2 : Int32) (x3 : Int32) (x4 : Int32) (x5 : Int32) (x6 : Int32) (M : zM) (o : Int32 × zM) (h : fX2_goThrough_184 g k11 x0 x1 x2 x3 x4 x5 x6 M = some o) : zV false l RX2 cX2_goThrough 9 none false (kg + 30) 0 0 D T zE0 b gr n0 (0, o.1, o.2) 0 0 184 [(0, zr b x0), (1, zr b x1), (2, .int x2), (3, .int x3), (4, .int x4), (5, .int x5), (6, .int x6)] [] M := by
  unfold fX2_goThrough_184 at h
  refine zV_iload_n (j := 2) dX2_goThrough_184 rfl rfl ?_
  refine zV_if_ne (tgt := 200) dX2_goThrough_185 (by decide) (fun c16 => ?_) (fun c16 => ?_)
  · replace h := z_f c16 h
    exact vX2_goThrough_200 kg g hg k11 hk11 x0 x1 x2 x3 x4 x5 x6 M _ h
  · replace h := z_t c16 h
    refine zV_aload_n (j := 0) dX2_goThrough_188 rfl rfl ?_
    refine zV_iload (j := 6) dX2_goThrough_189 rfl ?_
    refine zV_iconst (v := 1) dX2_goThrough_191 (by decide) ?_
    refine zV_iadd dX2_goThrough_192 ?_
    refine zV_iload_n (j := 3) dX2_goThrough_193 rfl rfl ?_
    refine zV_iload (j := 4) dX2_goThrough_194 rfl ?_
    refine zV_iadd dX2_goThrough_196 ?_
    obtain ⟨g17, h⟩ := zg_of h
    obtain ⟨r18, M19, q20, h⟩ := zb_of h
    refine zV_callVv (ci := 2) (As := [.int (x6 + 1), .int (x3 + x4)]) (rest := []) (vX2_keepState l D T b gr x0 (x6 + 1) (x3 + x4) M _ _ q20) zm_yX2_keepState zl_RX2_138 zi_yX2_keepState ze_yX2_keepState zcI2 g17 rfl rfl (zcs trivial (Nat.le_of_ble_eq_true rfl)) (by omega) (by decide) (by decide) dX2_goThrough_197 ?_
    exact vX2_goThrough_200 kg g hg k11 hk11 x0 x1 x2 x3 x4 x5 x6 M19 _ h
set_option maxHeartbeats 4000000 in
set_option maxRecDepth 100000 in
theorem vX2_goThrough_176 {l : Launch} {D : va_G} {T : Nat → ClassId} {b : Nat} {gr : Bool} {n0 : Nat} (kg : Nat) (g : Nat → Nat → Int32 → zM → Option (Int32 × zM)) (hg : ∀ (y0 : Nat) (y1 : Nat) (y2 : Int32) (N : zM) (r : Int32) (N' : zM), g y0 y1 y2 N = some (r, N') → zMet l D T b gr yX2_goThrough cX2_goThrough 9 none kg 0 0 [zr b y0, zr b y1, .int y2] N (0, r, N')) (k11 : Nat → Nat → Int32 → Int32 → Int32 → Int32 → Int32 → zM → Option (Int32 × zM)) (hk11 : ∀ (z0 : Nat) (z1 : Nat) (z2 : Int32) (z3 : Int32) (z4 : Int32) (z5 : Int32) (z6 : Int32) (N : zM) (o : Int32 × zM), k11 z0 z1 z2 z3 z4 z5 z6 N = some o → zV false l RX2 cX2_goThrough 9 none false (kg + 30) 0 0 D T zE0 b gr n0 (0, o.1, o.2) 0 0 11 [(0, zr b z0), (1, zr b z1), (2, .int z2), (3, .int z3), (4, .int z4), (5, .int z5), (6, .int z6)] [] N) (x0 : Nat) (x1 : Nat) (x2 : Int32) (x3 : Int32) (x4 : Int32) (x5 : Int32) (x6 : Int32) (M : zM) (o : Int32 × zM) (h : fX2_goThrough_176 g k11 x0 x1 x2 x3 x4 x5 x6 M = some o) : zV false l RX2 cX2_goThrough 9 none false (kg + 30) 0 0 D T zE0 b gr n0 (0, o.1, o.2) 0 0 176 [(0, zr b x0), (1, zr b x1), (2, .int x2), (3, .int x3), (4, .int x4), (5, .int x5), (6, .int x6)] [] M := by
  unfold fX2_goThrough_176 at h
  refine zV_aload_n (j := 0) dX2_goThrough_176 rfl rfl ?_
  refine zV_aload_n (j := 1) dX2_goThrough_177 rfl rfl ?_
  refine zV_iload (j := 6) dX2_goThrough_178 rfl ?_
  refine zV_iload_n (j := 2) dX2_goThrough_180 rfl rfl ?_
  obtain ⟨g21, h⟩ := zg_of h
  obtain ⟨r22, M23, q24, h⟩ := zb_of h
  refine zV_callVv (ci := 2) (As := [zr b x1, .int x6, .int x2]) (rest := []) (vX2_readToken l D T b gr kg g hg x0 x1 x6 x2 M _ _ q24) zm_yX2_readToken zl_RX2_134 zi_yX2_readToken ze_yX2_readToken zcI2 g21 rfl rfl (zcs trivial (Nat.le_of_ble_eq_true rfl)) (by omega) (by decide) (by decide) dX2_goThrough_181 ?_
  exact vX2_goThrough_184 kg g hg k11 hk11 x0 x1 x2 x3 x4 x5 x6 M23 _ h
set_option maxHeartbeats 4000000 in
set_option maxRecDepth 100000 in
theorem vX2_goThrough_154 {l : Launch} {D : va_G} {T : Nat → ClassId} {b : Nat} {gr : Bool} {n0 : Nat} (kg : Nat) (g : Nat → Nat → Int32 → zM → Option (Int32 × zM)) (hg : ∀ (y0 : Nat) (y1 : Nat) (y2 : Int32) (N : zM) (r : Int32) (N' : zM), g y0 y1 y2 N = some (r, N') → zMet l D T b gr yX2_goThrough cX2_goThrough 9 none kg 0 0 [zr b y0, zr b y1, .int y2] N (0, r, N')) (k11 : Nat → Nat → Int32 → Int32 → Int32 → Int32 → Int32 → zM → Option (Int32 × zM)) (hk11 : ∀ (z0 : Nat) (z1 : Nat) (z2 : Int32) (z3 : Int32) (z4 : Int32) (z5 : Int32) (z6 : Int32) (N : zM) (o : Int32 × zM), k11 z0 z1 z2 z3 z4 z5 z6 N = some o → zV false l RX2 cX2_goThrough 9 none false (kg + 30) 0 0 D T zE0 b gr n0 (0, o.1, o.2) 0 0 11 [(0, zr b z0), (1, zr b z1), (2, .int z2), (3, .int z3), (4, .int z4), (5, .int z5), (6, .int z6)] [] N) (x0 : Nat) (x1 : Nat) (x2 : Int32) (x3 : Int32) (x5 : Int32) (x6 : Int32) (s0 : Int32) (M : zM) (o : Int32 × zM) (h : fX2_goThrough_154 g k11 x0 x1 x2 x3 x5 x6 s0 M = some o) : zV false l RX2 cX2_goThrough 9 none false (kg + 30) 0 0 D T zE0 b gr n0 (0, o.1, o.2) 0 0 154 [(0, zr b x0), (1, zr b x1), (2, .int x2), (3, .int x3), (5, .int x5), (6, .int x6)] [.int s0] M := by
  unfold fX2_goThrough_154 at h
  refine zV_istore [(4, .int s0), (0, zr b x0), (1, zr b x1), (2, .int x2), (3, .int x3), (5, .int x5), (6, .int x6)] dX2_goThrough_154 (by decide) rfl rfl ?_
  refine zV_goto (tgt := 184) dX2_goThrough_156 (by decide) ?_
  refine zV_pk [1, 2, 3, 4, 0, 5, 6] rfl ?_
  exact vX2_goThrough_184 kg g hg k11 hk11 x0 x1 x2 x3 s0 x5 x6 M _ h
set_option maxHeartbeats 4000000 in
set_option maxRecDepth 100000 in
theorem vX2_goThrough_142 {l : Launch} {D : va_G} {T : Nat → ClassId} {b : Nat} {gr : Bool} {n0 : Nat} (kg : Nat) (g : Nat → Nat → Int32 → zM → Option (Int32 × zM)) (hg : ∀ (y0 : Nat) (y1 : Nat) (y2 : Int32) (N : zM) (r : Int32) (N' : zM), g y0 y1 y2 N = some (r, N') → zMet l D T b gr yX2_goThrough cX2_goThrough 9 none kg 0 0 [zr b y0, zr b y1, .int y2] N (0, r, N')) (k11 : Nat → Nat → Int32 → Int32 → Int32 → Int32 → Int32 → zM → Option (Int32 × zM)) (hk11 : ∀ (z0 : Nat) (z1 : Nat) (z2 : Int32) (z3 : Int32) (z4 : Int32) (z5 : Int32) (z6 : Int32) (N : zM) (o : Int32 × zM), k11 z0 z1 z2 z3 z4 z5 z6 N = some o → zV false l RX2 cX2_goThrough 9 none false (kg + 30) 0 0 D T zE0 b gr n0 (0, o.1, o.2) 0 0 11 [(0, zr b z0), (1, zr b z1), (2, .int z2), (3, .int z3), (4, .int z4), (5, .int z5), (6, .int z6)] [] N) (x0 : Nat) (x1 : Nat) (x2 : Int32) (x5 : Int32) (x6 : Int32) (s0 : Int32) (s1 : Int32) (M : zM) (o : Int32 × zM) (h : fX2_goThrough_142 g k11 x0 x1 x2 x5 x6 s0 s1 M = some o) : zV false l RX2 cX2_goThrough 9 none false (kg + 30) 0 0 D T zE0 b gr n0 (0, o.1, o.2) 0 0 142 [(0, zr b x0), (1, zr b x1), (2, .int x2), (5, .int x5), (6, .int x6)] [.int s1, .int s0] M := by
  unfold fX2_goThrough_142 at h
  refine zV_iadd dX2_goThrough_142 ?_
  refine zV_top (fun u25 e26 => ?_)
  replace h := zlet_of h e26
  refine zV_istore_n [(3, .int u25), (0, zr b x0), (1, zr b x1), (2, .int x2), (5, .int x5), (6, .int x6)] dX2_goThrough_143 rfl (by decide) rfl rfl ?_
  refine zV_iload (j := 4) dX2_goThrough_144 rfl ?_
  refine zV_if_ne (tgt := 153) dX2_goThrough_146 (by decide) (fun c27 => ?_) (fun c27 => ?_)
  · replace h := z_f c27 h
    refine zV_iconst (v := 1) dX2_goThrough_153 (by decide) ?_
    refine zV_pk [1, 2, 3, 0, 4, 5] rfl ?_
    exact vX2_goThrough_154 kg g hg k11 hk11 x0 x1 x2 u25 x5 x6 1 M _ h
  · replace h := z_t c27 h
    refine zV_iconst (v := 0) dX2_goThrough_149 (by decide) ?_
    refine zV_goto (tgt := 154) dX2_goThrough_150 (by decide) ?_
    refine zV_pk [1, 2, 3, 0, 4, 5] rfl ?_
    exact vX2_goThrough_154 kg g hg k11 hk11 x0 x1 x2 u25 x5 x6 0 M _ h
set_option maxHeartbeats 4000000 in
set_option maxRecDepth 100000 in
theorem vX2_goThrough_85 {l : Launch} {D : va_G} {T : Nat → ClassId} {b : Nat} {gr : Bool} {n0 : Nat} (kg : Nat) (g : Nat → Nat → Int32 → zM → Option (Int32 × zM)) (hg : ∀ (y0 : Nat) (y1 : Nat) (y2 : Int32) (N : zM) (r : Int32) (N' : zM), g y0 y1 y2 N = some (r, N') → zMet l D T b gr yX2_goThrough cX2_goThrough 9 none kg 0 0 [zr b y0, zr b y1, .int y2] N (0, r, N')) (k11 : Nat → Nat → Int32 → Int32 → Int32 → Int32 → Int32 → zM → Option (Int32 × zM)) (hk11 : ∀ (z0 : Nat) (z1 : Nat) (z2 : Int32) (z3 : Int32) (z4 : Int32) (z5 : Int32) (z6 : Int32) (N : zM) (o : Int32 × zM), k11 z0 z1 z2 z3 z4 z5 z6 N = some o → zV false l RX2 cX2_goThrough 9 none false (kg + 30) 0 0 D T zE0 b gr n0 (0, o.1, o.2) 0 0 11 [(0, zr b z0), (1, zr b z1), (2, .int z2), (3, .int z3), (4, .int z4), (5, .int z5), (6, .int z6)] [] N) (x0 : Nat) (x1 : Nat) (x2 : Int32) (x3 : Int32) (x5 : Int32) (x6 : Int32) (x7 : Int32) (x8 : Int32) (s0 : Int32) (s1 : Int32) (M : zM) (o : Int32 × zM) (h : fX2_goThrough_85 g k11 x0 x1 x2 x3 x5 x6 x7 x8 s0 s1 M = some o) : zV false l RX2 cX2_goThrough 9 none false (kg + 30) 0 0 D T zE0 b gr n0 (0, o.1, o.2) 0 0 85 [(0, zr b x0), (1, zr b x1), (2, .int x2), (3, .int x3), (5, .int x5), (6, .int x6), (7, .int x7), (8, .int x8)] [.int s1, .int s0] M := by
  unfold fX2_goThrough_85 at h
  refine zV_iadd dX2_goThrough_85 ?_
  refine zV_top (fun u28 e29 => ?_)
  replace h := zlet_of h e29
  refine zV_istore [(4, .int u28), (0, zr b x0), (1, zr b x1), (2, .int x2), (3, .int x3), (5, .int x5), (6, .int x6), (7, .int x7), (8, .int x8)] dX2_goThrough_86 (by decide) rfl rfl ?_
  refine zV_iload (j := 0) dX2_goThrough_88 rfl ?_
  refine zV_if_le (tgt := 184) dX2_goThrough_90 (by decide) (fun c30 => ?_) (fun c30 => ?_)
  · replace h := z_t c30 h
    refine zV_pk [1, 2, 3, 4, 0, 5, 6] rfl ?_
    exact vX2_goThrough_184 kg g hg k11 hk11 x0 x1 x2 x3 u28 x5 x6 M _ h
  · replace h := z_f c30 h
    refine zV_iload (j := 5) dX2_goThrough_93 rfl ?_
    refine zV_iconst (v := 2) dX2_goThrough_95 (by decide) ?_
    refine zV_icmp_ne (tgt := 184) dX2_goThrough_96 (by decide) (fun c31 => ?_) (fun c31 => ?_)
    · replace h := z_f c31 h
      refine zV_pk [1, 2, 3, 4, 0, 5, 6] rfl ?_
      exact vX2_goThrough_184 kg g hg k11 hk11 x0 x1 x2 x3 u28 x5 x6 M _ h
    · replace h := z_t c31 h
      refine zV_aload_n (j := 1) dX2_goThrough_99 rfl rfl ?_
      refine zV_bipush (v := 10) dX2_goThrough_100 (by decide) ?_
      refine zV_iload (j := 7) dX2_goThrough_102 rfl ?_
      refine zV_iload (j := 8) dX2_goThrough_104 rfl ?_
      obtain ⟨r32, M33, q34, h⟩ := zb_of h
      refine zV_callSi (As := [.int x7, .int x8]) (rest := [.int 10, zr b x0]) (vX2_plainLetter l D T b gr x7 x8 M _ _ q34) zm_yX2_plainLetter zl_RX2_126 zs_yX2_plainLetter rfl rfl (zcs ⟨rfl, zr_cat _ _, trivial⟩ (Nat.le_of_ble_eq_true rfl)) (by omega) (by decide) (by decide) dX2_goThrough_106 ?_
      obtain ⟨g35, h⟩ := zg_of h
      obtain ⟨r36, M37, q38, h⟩ := zb_of h
      refine zV_callVv (ci := 2) (As := [.int 10, .int r32]) (rest := []) (vX2_readThing l D T b gr x0 10 r32 M33 _ _ q38) zm_yX2_readThing zl_RX2_130 zi_yX2_readThing ze_yX2_readThing zcI2 g35 rfl rfl (zcs trivial (Nat.le_of_ble_eq_true rfl)) (by omega) (by decide) (by decide) dX2_goThrough_109 ?_
      refine zV_goto (tgt := 184) dX2_goThrough_112 (by decide) ?_
      refine zV_pk [1, 2, 3, 4, 0, 5, 6] rfl ?_
      exact vX2_goThrough_184 kg g hg k11 hk11 x0 x1 x2 x3 u28 x5 x6 M37 _ h
set_option maxHeartbeats 4000000 in
set_option maxRecDepth 100000 in
theorem vX2_goThrough_52 {l : Launch} {D : va_G} {T : Nat → ClassId} {b : Nat} {gr : Bool} {n0 : Nat} (kg : Nat) (g : Nat → Nat → Int32 → zM → Option (Int32 × zM)) (hg : ∀ (y0 : Nat) (y1 : Nat) (y2 : Int32) (N : zM) (r : Int32) (N' : zM), g y0 y1 y2 N = some (r, N') → zMet l D T b gr yX2_goThrough cX2_goThrough 9 none kg 0 0 [zr b y0, zr b y1, .int y2] N (0, r, N')) (k11 : Nat → Nat → Int32 → Int32 → Int32 → Int32 → Int32 → zM → Option (Int32 × zM)) (hk11 : ∀ (z0 : Nat) (z1 : Nat) (z2 : Int32) (z3 : Int32) (z4 : Int32) (z5 : Int32) (z6 : Int32) (N : zM) (o : Int32 × zM), k11 z0 z1 z2 z3 z4 z5 z6 N = some o → zV false l RX2 cX2_goThrough 9 none false (kg + 30) 0 0 D T zE0 b gr n0 (0, o.1, o.2) 0 0 11 [(0, zr b z0), (1, zr b z1), (2, .int z2), (3, .int z3), (4, .int z4), (5, .int z5), (6, .int z6)] [] N) (x0 : Nat) (x1 : Nat) (x2 : Int32) (x3 : Int32) (x4 : Int32) (x5 : Int32) (x6 : Int32) (x7 : Int32) (x8 : Int32) (s0 : Nat) (s1 : Int32) (M : zM) (o : Int32 × zM) (h : fX2_goThrough_52 g k11 x0 x1 x2 x3 x4 x5 x6 x7 x8 s0 s1 M = some o) : zV false l RX2 cX2_goThrough 9 none false (kg + 30) 0 0 D T zE0 b gr n0 (0, o.1, o.2) 0 0 52 [(0, zr b x0), (1, zr b x1), (2, .int x2), (3, .int x3), (4, .int x4), (5, .int x5), (6, .int x6), (7, .int x7), (8, .int x8)] [.int s1, zr b s0] M := by
  unfold fX2_goThrough_52 at h
  obtain ⟨g39, h⟩ := zg_of h
  refine zV_putI zf_RX2_123 dX2_goThrough_52 rfl rfl g39 ?_
  refine zV_mem (fun M40 e41 => ?_)
  replace h := zlet_of h e41
  refine zV_iload (j := 4) dX2_goThrough_55 rfl ?_
  refine zV_if_le (tgt := 115) dX2_goThrough_57 (by decide) (fun c42 => ?_) (fun c42 => ?_)
  · replace h := z_t c42 h
    refine zV_iload (j := 7) dX2_goThrough_115 rfl ?_
    refine zV_bipush (v := 7) dX2_goThrough_117 (by decide) ?_
    refine zV_icmp_ne (tgt := 159) dX2_goThrough_119 (by decide) (fun c43 => ?_) (fun c43 => ?_)
    · replace h := z_f c43 h
      refine zV_iload (j := 7) dX2_goThrough_159 rfl ?_
      refine zV_bipush (v := 8) dX2_goThrough_161 (by decide) ?_
      refine zV_icmp_ne (tgt := 176) dX2_goThrough_163 (by decide) (fun c44 => ?_) (fun c44 => ?_)
      · replace h := z_f c44 h
        refine zV_pk [0, 1, 2, 3, 4, 5, 6] rfl ?_
        exact vX2_goThrough_176 kg g hg k11 hk11 x0 x1 x2 x3 x4 x5 x6 M40 _ h
      · replace h := z_t c44 h
        refine zV_iload_n (j := 3) dX2_goThrough_166 rfl rfl ?_
        refine zV_if_le (tgt := 176) dX2_goThrough_167 (by decide) (fun c45 => ?_) (fun c45 => ?_)
        · replace h := z_t c45 h
          refine zV_pk [0, 1, 2, 3, 4, 5, 6] rfl ?_
          exact vX2_goThrough_176 kg g hg k11 hk11 x0 x1 x2 x3 x4 x5 x6 M40 _ h
        · replace h := z_f c45 h
          obtain ⟨u46, e47⟩ : ∃ y : Int32, y = x3 + (-1) := ⟨_, rfl⟩
          replace h := zlet_of h e47
          refine zV_iinc (j := 3) (v := u46) [(3, .int u46), (0, zr b x0), (1, zr b x1), (2, .int x2), (4, .int x4), (5, .int x5), (6, .int x6), (7, .int x7), (8, .int x8)] dX2_goThrough_170 rfl (by rw [e47]; rfl) (by decide) rfl rfl ?_
          refine zV_goto (tgt := 184) dX2_goThrough_173 (by decide) ?_
          refine zV_pk [1, 2, 3, 0, 4, 5, 6] rfl ?_
          exact vX2_goThrough_184 kg g hg k11 hk11 x0 x1 x2 u46 x4 x5 x6 M40 _ h
    · replace h := z_t c43 h
      refine zV_aload_n (j := 0) dX2_goThrough_122 rfl rfl ?_
      obtain ⟨g48, h⟩ := zg_of h
      refine zV_getR zf_RX2_60 dX2_goThrough_123 rfl g48 ?_
      refine zV_iload (j := 8) dX2_goThrough_126 rfl ?_
      obtain ⟨g49, h⟩ := zg_of h
      obtain ⟨g50, h⟩ := zg_of h
      refine zV_iald dX2_goThrough_128 g49 g50 ?_
      refine zV_top (fun u51 e52 => ?_)
      replace h := zlet_of h e52
      refine zV_istore [(5, .int u51), (0, zr b x0), (1, zr b x1), (2, .int x2), (3, .int x3), (4, .int x4), (6, .int x6), (7, .int x7), (8, .int x8)] dX2_goThrough_129 (by decide) rfl rfl ?_
      refine zV_iload_n (j := 4) dX2_goThrough_131 rfl rfl ?_
      refine zV_iload (j := 0) dX2_goThrough_132 rfl ?_
      refine zV_if_ne (tgt := 141) dX2_goThrough_134 (by decide) (fun c53 => ?_) (fun c53 => ?_)
      · replace h := z_f c53 h
        refine zV_iconst (v := 0) dX2_goThrough_141 (by decide) ?_
        refine zV_pk [1, 2, 3, 0, 6] rfl ?_
        exact vX2_goThrough_142 kg g hg k11 hk11 x0 x1 x2 u51 x6 x3 0 M40 _ h
      · replace h := z_t c53 h
        refine zV_iconst (v := 1) dX2_goThrough_137 (by decide) ?_
        refine zV_goto (tgt := 142) dX2_goThrough_138 (by decide) ?_
        refine zV_pk [1, 2, 3, 0, 6] rfl ?_
        exact vX2_goThrough_142 kg g hg k11 hk11 x0 x1 x2 u51 x6 x3 1 M40 _ h
  · replace h := z_f c42 h
    refine zV_iload (j := 4) dX2_goThrough_60 rfl ?_
    refine zV_iload (j := 7) dX2_goThrough_62 rfl ?_
    refine zV_bipush (v := 7) dX2_goThrough_64 (by decide) ?_
    refine zV_icmp_ne (tgt := 73) dX2_goThrough_66 (by decide) (fun c54 => ?_) (fun c54 => ?_)
    · replace h := z_f c54 h
      refine zV_iload (j := 7) dX2_goThrough_73 rfl ?_
      refine zV_bipush (v := 8) dX2_goThrough_75 (by decide) ?_
      refine zV_icmp_ne (tgt := 84) dX2_goThrough_77 (by decide) (fun c55 => ?_) (fun c55 => ?_)
      · replace h := z_f c55 h
        refine zV_iconst (v := 0) dX2_goThrough_84 (by decide) ?_
        refine zV_pk [0, 1, 2, 3, 5, 6, 7, 8] rfl ?_
        exact vX2_goThrough_85 kg g hg k11 hk11 x0 x1 x2 x3 x5 x6 x7 x8 x4 0 M40 _ h
      · replace h := z_t c55 h
        refine zV_iconst (v := (-1)) dX2_goThrough_80 (by decide) ?_
        refine zV_goto (tgt := 85) dX2_goThrough_81 (by decide) ?_
        refine zV_pk [0, 1, 2, 3, 5, 6, 7, 8] rfl ?_
        exact vX2_goThrough_85 kg g hg k11 hk11 x0 x1 x2 x3 x5 x6 x7 x8 x4 (-1) M40 _ h
    · replace h := z_t c54 h
      refine zV_iconst (v := 1) dX2_goThrough_69 (by decide) ?_
      refine zV_goto (tgt := 85) dX2_goThrough_70 (by decide) ?_
      refine zV_pk [0, 1, 2, 3, 5, 6, 7, 8] rfl ?_
      exact vX2_goThrough_85 kg g hg k11 hk11 x0 x1 x2 x3 x5 x6 x7 x8 x4 1 M40 _ h
set_option maxHeartbeats 4000000 in
set_option maxRecDepth 100000 in
theorem vX2_goThrough_11 {l : Launch} {D : va_G} {T : Nat → ClassId} {b : Nat} {gr : Bool} {n0 : Nat} (kg : Nat) (g : Nat → Nat → Int32 → zM → Option (Int32 × zM)) (hg : ∀ (y0 : Nat) (y1 : Nat) (y2 : Int32) (N : zM) (r : Int32) (N' : zM), g y0 y1 y2 N = some (r, N') → zMet l D T b gr yX2_goThrough cX2_goThrough 9 none kg 0 0 [zr b y0, zr b y1, .int y2] N (0, r, N')) : ∀ (n : Nat) (x0 : Nat) (x1 : Nat) (x2 : Int32) (x3 : Int32) (x4 : Int32) (x5 : Int32) (x6 : Int32) (M : zM) (o : Int32 × zM), fX2_goThrough_11 g n x0 x1 x2 x3 x4 x5 x6 M = some o → zV false l RX2 cX2_goThrough 9 none false (kg + 30) 0 0 D T zE0 b gr n0 (0, o.1, o.2) 0 0 11 [(0, zr b x0), (1, zr b x1), (2, .int x2), (3, .int x3), (4, .int x4), (5, .int x5), (6, .int x6)] [] M := by
  intro n
  induction n with
  | zero =>
    intro x0 x1 x2 x3 x4 x5 x6 M o h
    rw [fX2_goThrough_11] at h
    cases h
  | succ n ih =>
    intro x0 x1 x2 x3 x4 x5 x6 M o h
    rw [fX2_goThrough_11] at h
    refine zV_iload (j := 6) dX2_goThrough_11 rfl ?_
    refine zV_aload_n (j := 1) dX2_goThrough_13 rfl rfl ?_
    obtain ⟨g56, h⟩ := zg_of h
    refine zV_getI zf_RX2_70 dX2_goThrough_14 rfl g56 ?_
    refine zV_icmp_ge (tgt := 206) dX2_goThrough_17 (by decide) (fun c57 => ?_) (fun c57 => ?_)
    · replace h := z_t c57 h
      refine zV_pk [0, 1, 2, 3, 4] rfl ?_
      exact vX2_goThrough_206 kg g hg x0 x1 x2 x3 x4 M _ h
    · replace h := z_f c57 h
      refine zV_aload_n (j := 1) dX2_goThrough_20 rfl rfl ?_
      refine zV_getR zf_RX2_117 dX2_goThrough_21 rfl g56 ?_
      refine zV_iload (j := 6) dX2_goThrough_24 rfl ?_
      obtain ⟨g58, h⟩ := zg_of h
      obtain ⟨g59, h⟩ := zg_of h
      refine zV_iald dX2_goThrough_26 g58 g59 ?_
      refine zV_top (fun u60 e61 => ?_)
      replace h := zlet_of h e61
      refine zV_istore [(7, .int u60), (0, zr b x0), (1, zr b x1), (2, .int x2), (3, .int x3), (4, .int x4), (5, .int x5), (6, .int x6)] dX2_goThrough_27 (by decide) rfl rfl ?_
      refine zV_aload_n (j := 2) dX2_goThrough_29 rfl rfl ?_
      refine zV_getR zf_RX2_120 dX2_goThrough_30 rfl g56 ?_
      refine zV_iload (j := 7) dX2_goThrough_33 rfl ?_
      obtain ⟨g62, h⟩ := zg_of h
      obtain ⟨g63, h⟩ := zg_of h
      refine zV_iald dX2_goThrough_35 g62 g63 ?_
      refine zV_top (fun u64 e65 => ?_)
      replace h := zlet_of h e65
      refine zV_istore [(8, .int u64), (7, .int u60), (0, zr b x0), (1, zr b x1), (2, .int x2), (3, .int x3), (4, .int x4), (5, .int x5), (6, .int x6)] dX2_goThrough_36 (by decide) rfl rfl ?_
      refine zV_aload_n (j := 2) dX2_goThrough_38 rfl rfl ?_
      refine zV_iload_n (j := 4) dX2_goThrough_39 rfl rfl ?_
      refine zV_if_ne (tgt := 48) dX2_goThrough_40 (by decide) (fun c66 => ?_) (fun c66 => ?_)
      · replace h := z_f c66 h
        refine zV_aload_n (j := 2) dX2_goThrough_48 rfl rfl ?_
        obtain ⟨g67, h⟩ := zg_of h
        refine zV_getI zf_RX2_123 dX2_goThrough_49 rfl g67 ?_
        refine zV_pk [2, 3, 4, 5, 6, 7, 8, 1, 0] rfl ?_
        exact vX2_goThrough_52 kg g hg (fX2_goThrough_11 g n) ih x0 x1 x2 x3 x4 x5 x6 u60 u64 x0 (zI M x0 15) M _ h
      · replace h := z_t c66 h
        refine zV_iload (j := 8) dX2_goThrough_43 rfl ?_
        refine zV_goto (tgt := 52) dX2_goThrough_45 (by decide) ?_
        refine zV_pk [2, 3, 4, 5, 6, 7, 8, 1, 0] rfl ?_
        exact vX2_goThrough_52 kg g hg (fX2_goThrough_11 g n) ih x0 x1 x2 x3 x4 x5 x6 u60 u64 x0 x6 M _ h
set_option maxHeartbeats 4000000 in
set_option maxRecDepth 100000 in
theorem vX2_goThrough_b (l : Launch) (D : va_G) (T : Nat → ClassId) (b : Nat) (gr : Bool) (kg : Nat) (g : Nat → Nat → Int32 → zM → Option (Int32 × zM)) (hg : ∀ (y0 : Nat) (y1 : Nat) (y2 : Int32) (N : zM) (r : Int32) (N' : zM), g y0 y1 y2 N = some (r, N') → zMet l D T b gr yX2_goThrough cX2_goThrough 9 none kg 0 0 [zr b y0, zr b y1, .int y2] N (0, r, N')) (x0 : Nat) (x1 : Nat) (x2 : Int32) (M : zM) (r : Int32) (M' : zM) (h : fX2_goThrough_b g x0 x1 x2 M = some (r, M')) : zMet l D T b gr yX2_goThrough cX2_goThrough 9 none (kg + 30) 0 0 [zr b x0, zr b x1, .int x2] M (0, r, M') := by
  refine zEntry2 (ev := zE0) rfl false (fun h9 => nomatch h9) zp_yX2_goThrough ⟨zr_cat _ _, zr_cat _ _, rfl, trivial⟩ (Nat.le_of_ble_eq_true rfl) ?_
  obtain ⟨o, ho⟩ : ∃ o : Int32 × zM, o = (r, M') := ⟨_, rfl⟩
  rw [← ho] at h
  rw [show ((0, r, M') : Nat × Int32 × zM) = (0, o.1, o.2) by rw [ho]]
  show zV false l RX2 cX2_goThrough 9 none false (kg + 30) 0 0 D T zE0 b gr M.2.2.2 (0, o.1, o.2) 0 0 0 [(0, zr b x0), (1, zr b x1), (2, .int x2)] [] M
  unfold fX2_goThrough_b at h
  refine zV_iconst (v := 0) dX2_goThrough_0 (by decide) ?_
  refine zV_istore_n [(3, .int 0), (0, zr b x0), (1, zr b x1), (2, .int x2)] dX2_goThrough_1 rfl (by decide) rfl rfl ?_
  refine zV_iconst (v := 0) dX2_goThrough_2 (by decide) ?_
  refine zV_istore [(4, .int 0), (3, .int 0), (0, zr b x0), (1, zr b x1), (2, .int x2)] dX2_goThrough_3 (by decide) rfl rfl ?_
  refine zV_iconst (v := 1) dX2_goThrough_5 (by decide) ?_
  refine zV_istore [(5, .int 1), (4, .int 0), (3, .int 0), (0, zr b x0), (1, zr b x1), (2, .int x2)] dX2_goThrough_6 (by decide) rfl rfl ?_
  refine zV_iconst (v := 0) dX2_goThrough_8 (by decide) ?_
  refine zV_istore [(6, .int 0), (5, .int 1), (4, .int 0), (3, .int 0), (0, zr b x0), (1, zr b x1), (2, .int x2)] dX2_goThrough_9 (by decide) rfl rfl ?_
  refine zV_pk [4, 5, 6, 3, 2, 1, 0] rfl ?_
  exact vX2_goThrough_11 kg g hg 10000 x0 x1 x2 0 0 1 0 M _ h
theorem vX2_goThrough (l : Launch) (D : va_G) (T : Nat → ClassId) (b : Nat) (gr : Bool) : ∀ (d : Nat) (x0 : Nat) (x1 : Nat) (x2 : Int32) (M : zM) (r : Int32) (M' : zM), fX2_goThrough d x0 x1 x2 M = some (r, M') → zMet l D T b gr yX2_goThrough cX2_goThrough 9 none (30 * d) 0 0 [zr b x0, zr b x1, .int x2] M (0, r, M') := by
  intro d
  induction d with
  | zero =>
    intro x0 x1 x2 M r M' h
    rw [fX2_goThrough] at h
    cases h
  | succ d ih =>
    intro x0 x1 x2 M r M' h
    rw [fX2_goThrough] at h
    exact vX2_goThrough_b l D T b gr (30 * d) (fX2_goThrough d) ih x0 x1 x2 M r M' h
set_option maxHeartbeats 4000000 in
set_option maxRecDepth 100000 in
theorem vX3_putToken_75 {l : Launch} {D : va_G} {T : Nat → ClassId} {b : Nat} {gr : Bool} {n0 : Nat} (x0 : Nat) (x1 : Int32) (x2 : Int32) (x3 : Int32) (M : zM) (o : Int32 × zM) (h : fX3_putToken_75 x0 x1 x2 x3 M = some o) : zV false l RX3 cX3_putToken 5 none false 0 0 0 D T zE0 b gr n0 (0, o.1, o.2) 0 0 75 [(0, zr b x0), (1, .int x1), (2, .int x2), (3, .int x3)] [] M := by
  unfold fX3_putToken_75 at h
  refine zV_aload_n (j := 0) dX3_putToken_75 rfl rfl ?_
  obtain ⟨g1, h⟩ := zg_of h
  refine zV_getR zf_RX3_9 dX3_putToken_76 rfl g1 ?_
  refine zV_iload_n (j := 1) dX3_putToken_79 rfl rfl ?_
  refine zV_iload_n (j := 2) dX3_putToken_80 rfl rfl ?_
  obtain ⟨g2, h⟩ := zg_of h
  obtain ⟨g3, h⟩ := zg_of h
  refine zV_iast dX3_putToken_81 g2 g3 ?_
  refine zV_mem (fun M4 e5 => ?_)
  replace h := zlet_of h e5
  refine zV_aload_n (j := 0) dX3_putToken_82 rfl rfl ?_
  refine zV_getR zf_RX3_15 dX3_putToken_83 rfl (zkI e5 g1) ?_
  refine zV_iload_n (j := 1) dX3_putToken_86 rfl rfl ?_
  refine zV_iload_n (j := 3) dX3_putToken_87 rfl rfl ?_
  obtain ⟨g6, h⟩ := zg_of h
  obtain ⟨g7, h⟩ := zg_of h
  refine zV_iast dX3_putToken_88 g6 g7 ?_
  refine zV_mem (fun M8 e9 => ?_)
  replace h := zlet_of h e9
  refine zV_aload_n (j := 0) dX3_putToken_89 rfl rfl ?_
  refine zV_dup dX3_putToken_90 (zr_cat _ _) ?_
  refine zV_getI zf_RX3_18 dX3_putToken_91 rfl (zkI e9 (zkI e5 g1)) ?_
  refine zV_iconst (v := 1) dX3_putToken_94 (by decide) ?_
  refine zV_iadd dX3_putToken_95 ?_
  refine zV_putI zf_RX3_18 dX3_putToken_96 rfl rfl (zkI e9 (zkI e5 g1)) ?_
  refine zV_mem (fun M10 e11 => ?_)
  replace h := zlet_of h e11
  exact zV_vret (x := 0) rfl dX3_putToken_99 (by decide) (by decide) (z_ret h)
set_option maxHeartbeats 4000000 in
set_option maxRecDepth 100000 in
theorem vX3_putToken_31 {l : Launch} {D : va_G} {T : Nat → ClassId} {b : Nat} {gr : Bool} {n0 : Nat} : ∀ (n : Nat) (x0 : Nat) (x1 : Int32) (x2 : Int32) (x3 : Int32) (x4 : Int32) (M : zM) (o : Int32 × zM), fX3_putToken_31 n x0 x1 x2 x3 x4 M = some o → zV false l RX3 cX3_putToken 5 none false 0 0 0 D T zE0 b gr n0 (0, o.1, o.2) 0 0 31 [(0, zr b x0), (1, .int x1), (2, .int x2), (3, .int x3), (4, .int x4)] [] M := by
  intro n
  induction n with
  | zero =>
    intro x0 x1 x2 x3 x4 M o h
    rw [fX3_putToken_31] at h
    cases h
  | succ n ih =>
    intro x0 x1 x2 x3 x4 M o h
    rw [fX3_putToken_31] at h
    refine zV_iload (j := 4) dX3_putToken_31 rfl ?_
    refine zV_iload_n (j := 1) dX3_putToken_33 rfl rfl ?_
    refine zV_icmp_le (tgt := 75) dX3_putToken_34 (by decide) (fun c12 => ?_) (fun c12 => ?_)
    · replace h := z_t c12 h
      refine zV_pk [0, 1, 2, 3] rfl ?_
      exact vX3_putToken_75 x0 x1 x2 x3 M _ h
    · replace h := z_f c12 h
      refine zV_aload_n (j := 0) dX3_putToken_37 rfl rfl ?_
      obtain ⟨g13, h⟩ := zg_of h
      refine zV_getR zf_RX3_9 dX3_putToken_38 rfl g13 ?_
      refine zV_iload (j := 4) dX3_putToken_41 rfl ?_
      refine zV_aload_n (j := 0) dX3_putToken_43 rfl rfl ?_
      refine zV_getR zf_RX3_9 dX3_putToken_44 rfl g13 ?_
      refine zV_iload (j := 4) dX3_putToken_47 rfl ?_
      refine zV_iconst (v := 1) dX3_putToken_49 (by decide) ?_
      refine zV_isub dX3_putToken_50 ?_
      obtain ⟨g14, h⟩ := zg_of h
      obtain ⟨g15, h⟩ := zg_of h
      refine zV_iald dX3_putToken_51 g14 g15 ?_
      obtain ⟨g16, h⟩ := zg_of h
      refine zV_iast dX3_putToken_52 g14 g16 ?_
      refine zV_mem (fun M17 e18 => ?_)
      replace h := zlet_of h e18
      refine zV_aload_n (j := 0) dX3_putToken_53 rfl rfl ?_
      refine zV_getR zf_RX3_15 dX3_putToken_54 rfl (zkI e18 g13) ?_
      refine zV_iload (j := 4) dX3_putToken_57 rfl ?_
      refine zV_aload_n (j := 0) dX3_putToken_59 rfl rfl ?_
      refine zV_getR zf_RX3_15 dX3_putToken_60 rfl (zkI e18 g13) ?_
      refine zV_iload (j := 4) dX3_putToken_63 rfl ?_
      refine zV_iconst (v := 1) dX3_putToken_65 (by decide) ?_
      refine zV_isub dX3_putToken_66 ?_
      obtain ⟨g19, h⟩ := zg_of h
      obtain ⟨g20, h⟩ := zg_of h
      refine zV_iald dX3_putToken_67 g19 g20 ?_
      obtain ⟨g21, h⟩ := zg_of h
      refine zV_iast dX3_putToken_68 g19 g21 ?_
      refine zV_mem (fun M22 e23 => ?_)
      replace h := zlet_of h e23
      obtain ⟨u24, e25⟩ : ∃ y : Int32, y = x4 + (-1) := ⟨_, rfl⟩
      replace h := zlet_of h e25
      refine zV_iinc (j := 4) (v := u24) [(4, .int u24), (0, zr b x0), (1, .int x1), (2, .int x2), (3, .int x3)] dX3_putToken_69 rfl (by rw [e25]; rfl) (by decide) rfl rfl ?_
      refine zV_goto (tgt := 31) dX3_putToken_72 (by decide) ?_
      refine zV_pk [1, 2, 3, 4, 0] rfl ?_
      exact ih x0 x1 x2 x3 u24 M22 _ h
set_option maxHeartbeats 4000000 in
set_option maxRecDepth 100000 in
theorem vX3_putToken (l : Launch) (D : va_G) (T : Nat → ClassId) (b : Nat) (gr : Bool) (x0 : Nat) (x1 : Int32) (x2 : Int32) (x3 : Int32) (M : zM) (r : Int32) (M' : zM) (h : fX3_putToken x0 x1 x2 x3 M = some (r, M')) : zMet l D T b gr yX3_putToken cX3_putToken 5 none 0 0 0 [zr b x0, .int x1, .int x2, .int x3] M (0, r, M') := by
  refine zEntry2 (ev := zE0) rfl false (fun h9 => nomatch h9) zp_yX3_putToken ⟨zr_cat _ _, rfl, rfl, rfl, trivial⟩ (Nat.le_of_ble_eq_true rfl) ?_
  obtain ⟨o, ho⟩ : ∃ o : Int32 × zM, o = (r, M') := ⟨_, rfl⟩
  rw [← ho] at h
  rw [show ((0, r, M') : Nat × Int32 × zM) = (0, o.1, o.2) by rw [ho]]
  show zV false l RX3 cX3_putToken 5 none false 0 0 0 D T zE0 b gr M.2.2.2 (0, o.1, o.2) 0 0 0 [(0, zr b x0), (1, .int x1), (2, .int x2), (3, .int x3)] [] M
  unfold fX3_putToken at h
  refine zV_iload_n (j := 1) dX3_putToken_0 rfl rfl ?_
  refine zV_if_lt (tgt := 24) dX3_putToken_1 (by decide) (fun c26 => ?_) (fun c26 => ?_)
  · replace h := z_t c26 h
    exact zV_vret (x := 0) rfl dX3_putToken_24 (by decide) (by decide) (z_ret h)
  · replace h := z_f c26 h
    refine zV_iload_n (j := 1) dX3_putToken_4 rfl rfl ?_
    refine zV_aload_n (j := 0) dX3_putToken_5 rfl rfl ?_
    obtain ⟨g27, h⟩ := zg_of h
    refine zV_getI zf_RX3_18 dX3_putToken_6 rfl g27 ?_
    refine zV_icmp_gt (tgt := 24) dX3_putToken_9 (by decide) (fun c28 => ?_) (fun c28 => ?_)
    · replace h := z_t c28 h
      exact zV_vret (x := 0) rfl dX3_putToken_24 (by decide) (by decide) (z_ret h)
    · replace h := z_f c28 h
      refine zV_aload_n (j := 0) dX3_putToken_12 rfl rfl ?_
      refine zV_getI zf_RX3_18 dX3_putToken_13 rfl g27 ?_
      refine zV_aload_n (j := 0) dX3_putToken_16 rfl rfl ?_
      refine zV_getR zf_RX3_9 dX3_putToken_17 rfl g27 ?_
      obtain ⟨g29, h⟩ := zg_of h
      refine zV_alen 100 0 dX3_putToken_20 g29 ⟨by decide, by decide⟩ rfl ?_
      refine zV_icmp_lt (tgt := 25) dX3_putToken_21 (by decide) (fun c30 => ?_) (fun c30 => ?_)
      · replace h := z_t c30 h
        refine zV_aload_n (j := 0) dX3_putToken_25 rfl rfl ?_
        refine zV_getI zf_RX3_18 dX3_putToken_26 rfl g27 ?_
        refine zV_top (fun u31 e32 => ?_)
        replace h := zlet_of h e32
        refine zV_istore [(4, .int u31), (0, zr b x0), (1, .int x1), (2, .int x2), (3, .int x3)] dX3_putToken_29 (by decide) rfl rfl ?_
        refine zV_pk [1, 2, 3, 4, 0] rfl ?_
        exact vX3_putToken_31 10000 x0 x1 x2 x3 u31 M _ h
      · replace h := z_f c30 h
        exact zV_vret (x := 0) rfl dX3_putToken_24 (by decide) (by decide) (z_ret h)
