set_option maxHeartbeats 4000000 in
set_option maxRecDepth 100000 in
theorem vX7_entity (l : Launch) (D : va_G) (T : Nat → ClassId) (b : Nat) (gr : Bool) (x0 : Nat) (x1 : Int32) (x2 : Int32) (x3 : Int32) (M : zM) (r : Int32) (M' : zM) (h : fX7_entity x0 x1 x2 x3 M = some (0, r, M')) : zMet l D T b gr yX7_entity cX7_entity 5 (some .int) 122 0 0 [zr b x0, .int x1, .int x2, .int x3] M (0, r, M') := by
  refine zEntry2 (ev := zE0) rfl false (fun h9 => nomatch h9) zp_yX7_entity ⟨zr_cat _ _, rfl, rfl, rfl, trivial⟩ (Nat.le_of_ble_eq_true rfl) ?_
  obtain ⟨o, ho⟩ : ∃ o : Int32 × zM, o = (r, M') := ⟨_, rfl⟩
  rw [← ho] at h
  rw [show ((0, r, M') : Nat × Int32 × zM) = (0, o.1, o.2) by rw [ho]]
  show zV false l RX7 cX7_entity 5 (some .int) false 122 0 0 D T zE0 b gr M.2.2.2 (0, o.1, o.2) 0 0 0 [(0, zr b x0), (1, .int x1), (2, .int x2), (3, .int x3)] [] M
  unfold fX7_entity at h
  refine zV_iload_n (j := 1) dX7_entity_0 rfl rfl ?_
  refine zV_bipush (v := 6) dX7_entity_1 (by decide) ?_
  rcases zbx_of h with ⟨r1, M2, q3, h⟩ | ⟨t9, r1, M2, q3, h⟩
  rotate_left
  · exact absurd (congrArg Prod.fst h) (Nat.succ_ne_zero _).symm
  refine zV_callSv (As := [.int x1, .int 6]) (rest := []) (vX7_checkIndex l D T b gr x1 6 M _ _ q3) zm_yX7_checkIndex zl_RX7_51 zs_yX7_checkIndex rfl rfl (zcs trivial (Nat.le_of_ble_eq_true rfl)) (by decide) (by decide) (by decide) dX7_entity_3 ?_
  refine zV_iload_n (j := 2) dX7_entity_6 rfl rfl ?_
  refine zV_iload_n (j := 3) dX7_entity_7 rfl rfl ?_
  rcases zbx_of h with ⟨r4, M5, q6, h⟩ | ⟨t9, r4, M5, q6, h⟩
  rotate_left
  · exact absurd (congrArg Prod.fst h) (Nat.succ_ne_zero _).symm
  refine zV_callSv (As := [.int x2, .int x3]) (rest := []) (vX7_checkToken l D T b gr x2 x3 M2 _ _ q6) zm_yX7_checkToken zl_RX7_111 zs_yX7_checkToken rfl rfl (zcs trivial (Nat.le_of_ble_eq_true rfl)) (by decide) (by decide) (by decide) dX7_entity_8 ?_
  refine zV_aload_n (j := 0) dX7_entity_11 rfl rfl ?_
  obtain ⟨g7, h⟩ := zg_of h
  refine zV_getR zf_RX7_25 dX7_entity_12 rfl g7 ?_
  refine zV_iload_n (j := 1) dX7_entity_15 rfl rfl ?_
  obtain ⟨g8, h⟩ := zg_of h
  obtain ⟨g9, h⟩ := zg_of h
  refine zV_aald 111 5 dX7_entity_16 g8 ⟨by decide, by decide⟩ rfl g9 ?_
  refine zV_topr (fun u10 e11 => ?_)
  replace h := zlet_of h e11
  refine zV_astore [(4, zr b u10), (0, zr b x0), (1, .int x1), (2, .int x2), (3, .int x3)] dX7_entity_17 (by decide) rfl rfl ?_
  refine zV_aload (j := 0) dX7_entity_19 rfl ?_
  obtain ⟨g12, h⟩ := zg_of h
  refine zV_getI zf_RX7_114 dX7_entity_21 rfl g12 ?_
  refine zV_bipush (v := 6) dX7_entity_24 (by decide) ?_
  refine zV_icmp_lt (tgt := 39) dX7_entity_26 (by decide) (fun c13 => ?_) (fun c13 => ?_)
  · replace h := z_t c13 h
    refine zV_aload (j := 0) dX7_entity_39 rfl ?_
    refine zV_aload (j := 0) dX7_entity_41 rfl ?_
    refine zV_getI zf_RX7_114 dX7_entity_43 rfl g12 ?_
    refine zV_iload_n (j := 3) dX7_entity_46 rfl rfl ?_
    refine zV_iload_n (j := 4) dX7_entity_47 rfl rfl ?_
    obtain ⟨r14, M15, q16, h⟩ := zb_of h
    refine zV_callVv (ci := 3) (As := [.int (zI M5 u10 2), .int x2, .int x3]) (rest := []) (vX3_putToken l D T b gr u10 (zI M5 u10 2) x2 x3 M5 _ _ q16) zm_yX3_putToken zl_RX7_119 zi_yX3_putToken ze_yX3_putToken zcI3 g12 rfl rfl (zcs trivial (Nat.le_of_ble_eq_true rfl)) (by decide) (by decide) (by decide) dX7_entity_48 ?_
    refine zV_aload_n (j := 1) dX7_entity_51 rfl rfl ?_
    obtain ⟨g17, h⟩ := zg_of h
    refine zV_getR zf_RX7_38 dX7_entity_52 rfl g17 ?_
    obtain ⟨g18, h⟩ := zg_of h
    obtain ⟨r19, M20, q21, h⟩ := zb_of h
    refine zV_callVv (ci := 2) (As := []) (rest := []) (vX2_readText l D T b gr (zR M15 x0 4) M15 _ _ q21) zm_yX2_readText zl_RX7_90 zi_yX2_readText ze_yX2_readText zcI2 g18 rfl rfl (zcs trivial (Nat.le_of_ble_eq_true rfl)) (by decide) (by decide) (by decide) dX7_entity_55 ?_
    refine zV_aload (j := 0) dX7_entity_58 rfl ?_
    obtain ⟨g22, h⟩ := zg_of h
    refine zV_getI zf_RX7_114 dX7_entity_60 rfl g22 ?_
    exact zV_iret rfl dX7_entity_63 (by decide) (by decide) (z_ret0 h)
  · replace h := z_f c13 h
    exact absurd (congrArg Prod.fst (Option.some.inj h)) (show ¬ (3 : Nat) = 0 by decide)
set_option maxHeartbeats 4000000 in
set_option maxRecDepth 100000 in
theorem vX7_clear (l : Launch) (D : va_G) (T : Nat → ClassId) (b : Nat) (gr : Bool) (x0 : Nat) (x1 : Int32) (M : zM) (r : Int32) (M' : zM) (h : fX7_clear x0 x1 M = some (0, r, M')) : zMet l D T b gr yX7_clear cX7_clear 3 (some .int) 122 0 0 [zr b x0, .int x1] M (0, r, M') := by
  refine zEntry2 (ev := zE0) rfl false (fun h9 => nomatch h9) zp_yX7_clear ⟨zr_cat _ _, rfl, trivial⟩ (Nat.le_of_ble_eq_true rfl) ?_
  obtain ⟨o, ho⟩ : ∃ o : Int32 × zM, o = (r, M') := ⟨_, rfl⟩
  rw [← ho] at h
  rw [show ((0, r, M') : Nat × Int32 × zM) = (0, o.1, o.2) by rw [ho]]
  show zV false l RX7 cX7_clear 3 (some .int) false 122 0 0 D T zE0 b gr M.2.2.2 (0, o.1, o.2) 0 0 0 [(0, zr b x0), (1, .int x1)] [] M
  unfold fX7_clear at h
  refine zV_iload_n (j := 1) dX7_clear_0 rfl rfl ?_
  refine zV_bipush (v := 6) dX7_clear_1 (by decide) ?_
  rcases zbx_of h with ⟨r1, M2, q3, h⟩ | ⟨t9, r1, M2, q3, h⟩
  rotate_left
  · exact absurd (congrArg Prod.fst h) (Nat.succ_ne_zero _).symm
  refine zV_callSv (As := [.int x1, .int 6]) (rest := []) (vX7_checkIndex l D T b gr x1 6 M _ _ q3) zm_yX7_checkIndex zl_RX7_51 zs_yX7_checkIndex rfl rfl (zcs trivial (Nat.le_of_ble_eq_true rfl)) (by decide) (by decide) (by decide) dX7_clear_3 ?_
  refine zV_aload_n (j := 0) dX7_clear_6 rfl rfl ?_
  obtain ⟨g4, h⟩ := zg_of h
  refine zV_getR zf_RX7_25 dX7_clear_7 rfl g4 ?_
  refine zV_iload_n (j := 1) dX7_clear_10 rfl rfl ?_
  obtain ⟨g5, h⟩ := zg_of h
  obtain ⟨g6, h⟩ := zg_of h
  refine zV_aald 111 5 dX7_clear_11 g5 ⟨by decide, by decide⟩ rfl g6 ?_
  obtain ⟨g7, h⟩ := zg_of h
  refine zV_getI zf_RX7_114 dX7_clear_12 rfl g7 ?_
  refine zV_top (fun u8 e9 => ?_)
  replace h := zlet_of h e9
  refine zV_istore_n [(2, .int u8), (0, zr b x0), (1, .int x1)] dX7_clear_15 rfl (by decide) rfl rfl ?_
  refine zV_aload_n (j := 1) dX7_clear_16 rfl rfl ?_
  refine zV_getR zf_RX7_25 dX7_clear_17 rfl g4 ?_
  refine zV_iload_n (j := 2) dX7_clear_20 rfl rfl ?_
  obtain ⟨g10, h⟩ := zg_of h
  refine zV_aald 111 5 dX7_clear_21 g5 ⟨by decide, by decide⟩ rfl g10 ?_
  refine zV_iconst (v := 0) dX7_clear_22 (by decide) ?_
  refine zV_putI zf_RX7_114 dX7_clear_23 rfl rfl g7 ?_
  refine zV_mem (fun M11 e12 => ?_)
  replace h := zlet_of h e12
  refine zV_aload_n (j := 1) dX7_clear_26 rfl rfl ?_
  refine zV_getR zf_RX7_38 dX7_clear_27 rfl (zkI e12 g4) ?_
  obtain ⟨g13, h⟩ := zg_of h
  obtain ⟨r14, M15, q16, h⟩ := zb_of h
  refine zV_callVv (ci := 2) (As := []) (rest := []) (vX2_readText l D T b gr (zR M11 x0 4) M11 _ _ q16) zm_yX2_readText zl_RX7_90 zi_yX2_readText ze_yX2_readText zcI2 g13 rfl rfl (zcs trivial (Nat.le_of_ble_eq_true rfl)) (by decide) (by decide) (by decide) dX7_clear_30 ?_
  refine zV_iload_n (j := 0) dX7_clear_33 rfl rfl ?_
  exact zV_iret rfl dX7_clear_34 (by decide) (by decide) (z_ret0 h)
set_option maxHeartbeats 4000000 in
set_option maxRecDepth 100000 in
theorem vX7_flip_14 {l : Launch} {D : va_G} {T : Nat → ClassId} {b : Nat} {gr : Bool} {n0 : Nat} (M : zM) (o : Int32 × zM) (h : fX7_flip_14 M = some (0, o)) : zV false l RX7 cX7_flip 4 (some .int) false 122 0 0 D T zE0 b gr n0 (0, o.1, o.2) 0 0 14 [] [] M := by
  unfold fX7_flip_14 at h
  exact absurd (congrArg Prod.fst (Option.some.inj h)) (show ¬ (2 : Nat) = 0 by decide)
set_option maxHeartbeats 4000000 in
set_option maxRecDepth 100000 in
theorem vX7_flip (l : Launch) (D : va_G) (T : Nat → ClassId) (b : Nat) (gr : Bool) (x0 : Nat) (x1 : Int32) (x2 : Int32) (M : zM) (r : Int32) (M' : zM) (h : fX7_flip x0 x1 x2 M = some (0, r, M')) : zMet l D T b gr yX7_flip cX7_flip 4 (some .int) 122 0 0 [zr b x0, .int x1, .int x2] M (0, r, M') := by
  refine zEntry2 (ev := zE0) rfl false (fun h9 => nomatch h9) zp_yX7_flip ⟨zr_cat _ _, rfl, rfl, trivial⟩ (Nat.le_of_ble_eq_true rfl) ?_
  obtain ⟨o, ho⟩ : ∃ o : Int32 × zM, o = (r, M') := ⟨_, rfl⟩
  rw [← ho] at h
  rw [show ((0, r, M') : Nat × Int32 × zM) = (0, o.1, o.2) by rw [ho]]
  show zV false l RX7 cX7_flip 4 (some .int) false 122 0 0 D T zE0 b gr M.2.2.2 (0, o.1, o.2) 0 0 0 [(0, zr b x0), (1, .int x1), (2, .int x2)] [] M
  unfold fX7_flip at h
  refine zV_iload_n (j := 1) dX7_flip_0 rfl rfl ?_
  refine zV_iconst (v := 4) dX7_flip_1 (by decide) ?_
  rcases zbx_of h with ⟨r1, M2, q3, h⟩ | ⟨t9, r1, M2, q3, h⟩
  rotate_left
  · exact absurd (congrArg Prod.fst h) (Nat.succ_ne_zero _).symm
  refine zV_callSv (As := [.int x1, .int 4]) (rest := []) (vX7_checkIndex l D T b gr x1 4 M _ _ q3) zm_yX7_checkIndex zl_RX7_51 zs_yX7_checkIndex rfl rfl (zcs trivial (Nat.le_of_ble_eq_true rfl)) (by decide) (by decide) (by decide) dX7_flip_2 ?_
  refine zV_iload_n (j := 2) dX7_flip_5 rfl rfl ?_
  refine zV_if_lt (tgt := 14) dX7_flip_6 (by decide) (fun c4 => ?_) (fun c4 => ?_)
  · replace h := z_t c4 h
    refine zV_pk [] rfl ?_
    exact vX7_flip_14 M2 _ h
  · replace h := z_f c4 h
    refine zV_iload_n (j := 2) dX7_flip_9 rfl rfl ?_
    refine zV_iconst (v := 2) dX7_flip_10 (by decide) ?_
    refine zV_icmp_le (tgt := 24) dX7_flip_11 (by decide) (fun c5 => ?_) (fun c5 => ?_)
    · replace h := z_t c5 h
      refine zV_aload_n (j := 0) dX7_flip_24 rfl rfl ?_
      obtain ⟨g6, h⟩ := zg_of h
      refine zV_getR zf_RX7_29 dX7_flip_25 rfl g6 ?_
      refine zV_iload_n (j := 1) dX7_flip_28 rfl rfl ?_
      obtain ⟨g7, h⟩ := zg_of h
      obtain ⟨g8, h⟩ := zg_of h
      refine zV_iald dX7_flip_29 g7 g8 ?_
      refine zV_top (fun u9 e10 => ?_)
      replace h := zlet_of h e10
      refine zV_istore_n [(3, .int u9), (0, zr b x0), (1, .int x1), (2, .int x2)] dX7_flip_30 rfl (by decide) rfl rfl ?_
      refine zV_aload_n (j := 1) dX7_flip_31 rfl rfl ?_
      refine zV_getR zf_RX7_29 dX7_flip_32 rfl g6 ?_
      refine zV_iload_n (j := 2) dX7_flip_35 rfl rfl ?_
      refine zV_iload_n (j := 3) dX7_flip_36 rfl rfl ?_
      obtain ⟨g11, h⟩ := zg_of h
      refine zV_iast dX7_flip_37 g7 g11 ?_
      refine zV_mem (fun M12 e13 => ?_)
      replace h := zlet_of h e13
      refine zV_aload_n (j := 1) dX7_flip_38 rfl rfl ?_
      refine zV_getR zf_RX7_38 dX7_flip_39 rfl (zkI e13 g6) ?_
      obtain ⟨g14, h⟩ := zg_of h
      obtain ⟨r15, M16, q17, h⟩ := zb_of h
      refine zV_callVv (ci := 2) (As := []) (rest := []) (vX2_readText l D T b gr (zR M12 x0 4) M12 _ _ q17) zm_yX2_readText zl_RX7_90 zi_yX2_readText ze_yX2_readText zcI2 g14 rfl rfl (zcs trivial (Nat.le_of_ble_eq_true rfl)) (by decide) (by decide) (by decide) dX7_flip_42 ?_
      refine zV_iload_n (j := 0) dX7_flip_45 rfl rfl ?_
      exact zV_iret rfl dX7_flip_46 (by decide) (by decide) (z_ret0 h)
    · replace h := z_f c5 h
      refine zV_pk [] rfl ?_
      exact vX7_flip_14 M2 _ h
set_option maxHeartbeats 4000000 in
set_option maxRecDepth 100000 in
theorem vX7_insert (l : Launch) (D : va_G) (T : Nat → ClassId) (b : Nat) (gr : Bool) (x0 : Nat) (x1 : Int32) (x2 : Int32) (x3 : Int32) (M : zM) (r : Int32) (M' : zM) (h : fX7_insert x0 x1 x2 x3 M = some (0, r, M')) : zMet l D T b gr yX7_insert cX7_insert 4 (some .int) 122 0 0 [zr b x0, .int x1, .int x2, .int x3] M (0, r, M') := by
  refine zEntry2 (ev := zE0) rfl false (fun h9 => nomatch h9) zp_yX7_insert ⟨zr_cat _ _, rfl, rfl, rfl, trivial⟩ (Nat.le_of_ble_eq_true rfl) ?_
  obtain ⟨o, ho⟩ : ∃ o : Int32 × zM, o = (r, M') := ⟨_, rfl⟩
  rw [← ho] at h
  rw [show ((0, r, M') : Nat × Int32 × zM) = (0, o.1, o.2) by rw [ho]]
  show zV false l RX7 cX7_insert 4 (some .int) false 122 0 0 D T zE0 b gr M.2.2.2 (0, o.1, o.2) 0 0 0 [(0, zr b x0), (1, .int x1), (2, .int x2), (3, .int x3)] [] M
  unfold fX7_insert at h
  refine zV_iload_n (j := 1) dX7_insert_0 rfl rfl ?_
  refine zV_aload_n (j := 0) dX7_insert_1 rfl rfl ?_
  obtain ⟨g1, h⟩ := zg_of h
  refine zV_getR zf_RX7_21 dX7_insert_2 rfl g1 ?_
  obtain ⟨g2, h⟩ := zg_of h
  refine zV_getI zf_RX7_114 dX7_insert_5 rfl g2 ?_
  refine zV_iconst (v := 1) dX7_insert_8 (by decide) ?_
  refine zV_iadd dX7_insert_9 ?_
  rcases zbx_of h with ⟨r3, M4, q5, h⟩ | ⟨t9, r3, M4, q5, h⟩
  rotate_left
  · exact absurd (congrArg Prod.fst h) (Nat.succ_ne_zero _).symm
  refine zV_callSv (As := [.int x1, .int ((zI M (zR M x0 1) 2) + 1)]) (rest := []) (vX7_checkIndex l D T b gr x1 ((zI M (zR M x0 1) 2) + 1) M _ _ q5) zm_yX7_checkIndex zl_RX7_51 zs_yX7_checkIndex rfl rfl (zcs trivial (Nat.le_of_ble_eq_true rfl)) (by decide) (by decide) (by decide) dX7_insert_10 ?_
  refine zV_iload_n (j := 2) dX7_insert_13 rfl rfl ?_
  refine zV_iload_n (j := 3) dX7_insert_14 rfl rfl ?_
  rcases zbx_of h with ⟨r6, M7, q8, h⟩ | ⟨t9, r6, M7, q8, h⟩
  rotate_left
  · exact absurd (congrArg Prod.fst h) (Nat.succ_ne_zero _).symm
  refine zV_callSv (As := [.int x2, .int x3]) (rest := []) (vX7_checkToken l D T b gr x2 x3 M4 _ _ q8) zm_yX7_checkToken zl_RX7_111 zs_yX7_checkToken rfl rfl (zcs trivial (Nat.le_of_ble_eq_true rfl)) (by decide) (by decide) (by decide) dX7_insert_15 ?_
  refine zV_aload_n (j := 0) dX7_insert_18 rfl rfl ?_
  obtain ⟨g9, h⟩ := zg_of h
  refine zV_getR zf_RX7_21 dX7_insert_19 rfl g9 ?_
  obtain ⟨g10, h⟩ := zg_of h
  refine zV_getI zf_RX7_114 dX7_insert_22 rfl g10 ?_
  refine zV_bipush (v := 60) dX7_insert_25 (by decide) ?_
  refine zV_icmp_lt (tgt := 40) dX7_insert_27 (by decide) (fun c11 => ?_) (fun c11 => ?_)
  · replace h := z_t c11 h
    refine zV_aload_n (j := 0) dX7_insert_40 rfl rfl ?_
    refine zV_getR zf_RX7_21 dX7_insert_41 rfl g9 ?_
    refine zV_iload_n (j := 1) dX7_insert_44 rfl rfl ?_
    refine zV_iload_n (j := 2) dX7_insert_45 rfl rfl ?_
    refine zV_iload_n (j := 3) dX7_insert_46 rfl rfl ?_
    obtain ⟨r12, M13, q14, h⟩ := zb_of h
    refine zV_callVv (ci := 3) (As := [.int x1, .int x2, .int x3]) (rest := []) (vX3_putToken l D T b gr (zR M7 x0 1) x1 x2 x3 M7 _ _ q14) zm_yX3_putToken zl_RX7_119 zi_yX3_putToken ze_yX3_putToken zcI3 g10 rfl rfl (zcs trivial (Nat.le_of_ble_eq_true rfl)) (by decide) (by decide) (by decide) dX7_insert_47 ?_
    refine zV_aload_n (j := 0) dX7_insert_50 rfl rfl ?_
    obtain ⟨g15, h⟩ := zg_of h
    refine zV_getR zf_RX7_38 dX7_insert_51 rfl g15 ?_
    obtain ⟨g16, h⟩ := zg_of h
    obtain ⟨r17, M18, q19, h⟩ := zb_of h
    refine zV_callVv (ci := 2) (As := []) (rest := []) (vX2_readText l D T b gr (zR M13 x0 4) M13 _ _ q19) zm_yX2_readText zl_RX7_90 zi_yX2_readText ze_yX2_readText zcI2 g16 rfl rfl (zcs trivial (Nat.le_of_ble_eq_true rfl)) (by decide) (by decide) (by decide) dX7_insert_54 ?_
    refine zV_aload_n (j := 0) dX7_insert_57 rfl rfl ?_
    obtain ⟨g20, h⟩ := zg_of h
    refine zV_getR zf_RX7_38 dX7_insert_58 rfl g20 ?_
    refine zV_iload_n (j := 1) dX7_insert_61 rfl rfl ?_
    refine zV_iload_n (j := 1) dX7_insert_62 rfl rfl ?_
    refine zV_iconst (v := 1) dX7_insert_63 (by decide) ?_
    refine zV_iadd dX7_insert_64 ?_
    refine zV_iconst (v := (-1)) dX7_insert_65 (by decide) ?_
    obtain ⟨g21, h⟩ := zg_of h
    obtain ⟨r22, M23, q24, h⟩ := zb_of h
    refine zV_callVv (ci := 2) (As := [.int x1, .int (x1 + 1), .int (-1)]) (rest := []) (vX2_countReadAnew l D T b gr (zR M18 x0 4) x1 (x1 + 1) (-1) M18 _ _ q24) zm_yX2_countReadAnew zl_RX7_127 zi_yX2_countReadAnew ze_yX2_countReadAnew zcI2 g21 rfl rfl (zcs trivial (Nat.le_of_ble_eq_true rfl)) (by decide) (by decide) (by decide) dX7_insert_66 ?_
    refine zV_aload_n (j := 0) dX7_insert_69 rfl rfl ?_
    obtain ⟨g25, h⟩ := zg_of h
    refine zV_getR zf_RX7_21 dX7_insert_70 rfl g25 ?_
    obtain ⟨g26, h⟩ := zg_of h
    refine zV_getI zf_RX7_114 dX7_insert_73 rfl g26 ?_
    exact zV_iret rfl dX7_insert_76 (by decide) (by decide) (z_ret0 h)
  · replace h := z_f c11 h
    exact absurd (congrArg Prod.fst (Option.some.inj h)) (show ¬ (3 : Nat) = 0 by decide)
set_option maxHeartbeats 4000000 in
set_option maxRecDepth 100000 in
theorem vX7_erase (l : Launch) (D : va_G) (T : Nat → ClassId) (b : Nat) (gr : Bool) (x0 : Nat) (x1 : Int32) (M : zM) (r : Int32) (M' : zM) (h : fX7_erase x0 x1 M = some (0, r, M')) : zMet l D T b gr yX7_erase cX7_erase 2 (some .int) 122 0 0 [zr b x0, .int x1] M (0, r, M') := by
  refine zEntry2 (ev := zE0) rfl false (fun h9 => nomatch h9) zp_yX7_erase ⟨zr_cat _ _, rfl, trivial⟩ (Nat.le_of_ble_eq_true rfl) ?_
  obtain ⟨o, ho⟩ : ∃ o : Int32 × zM, o = (r, M') := ⟨_, rfl⟩
  rw [← ho] at h
  rw [show ((0, r, M') : Nat × Int32 × zM) = (0, o.1, o.2) by rw [ho]]
  show zV false l RX7 cX7_erase 2 (some .int) false 122 0 0 D T zE0 b gr M.2.2.2 (0, o.1, o.2) 0 0 0 [(0, zr b x0), (1, .int x1)] [] M
  unfold fX7_erase at h
  refine zV_iload_n (j := 1) dX7_erase_0 rfl rfl ?_
  refine zV_aload_n (j := 0) dX7_erase_1 rfl rfl ?_
  obtain ⟨g1, h⟩ := zg_of h
  refine zV_getR zf_RX7_21 dX7_erase_2 rfl g1 ?_
  obtain ⟨g2, h⟩ := zg_of h
  refine zV_getI zf_RX7_114 dX7_erase_5 rfl g2 ?_
  rcases zbx_of h with ⟨r3, M4, q5, h⟩ | ⟨t9, r3, M4, q5, h⟩
  rotate_left
  · exact absurd (congrArg Prod.fst h) (Nat.succ_ne_zero _).symm
  refine zV_callSv (As := [.int x1, .int (zI M (zR M x0 1) 2)]) (rest := []) (vX7_checkIndex l D T b gr x1 (zI M (zR M x0 1) 2) M _ _ q5) zm_yX7_checkIndex zl_RX7_51 zs_yX7_checkIndex rfl rfl (zcs trivial (Nat.le_of_ble_eq_true rfl)) (by decide) (by decide) (by decide) dX7_erase_8 ?_
  refine zV_aload_n (j := 0) dX7_erase_11 rfl rfl ?_
  obtain ⟨g6, h⟩ := zg_of h
  refine zV_getR zf_RX7_21 dX7_erase_12 rfl g6 ?_
  refine zV_iload_n (j := 1) dX7_erase_15 rfl rfl ?_
  obtain ⟨g7, h⟩ := zg_of h
  obtain ⟨r8, M9, q10, h⟩ := zb_of h
  refine zV_callVv (ci := 3) (As := [.int x1]) (rest := []) (vX3_dropToken l D T b gr (zR M4 x0 1) x1 M4 _ _ q10) zm_yX3_dropToken zl_RX7_130 zi_yX3_dropToken ze_yX3_dropToken zcI3 g7 rfl rfl (zcs trivial (Nat.le_of_ble_eq_true rfl)) (by decide) (by decide) (by decide) dX7_erase_16 ?_
  refine zV_aload_n (j := 0) dX7_erase_19 rfl rfl ?_
  obtain ⟨g11, h⟩ := zg_of h
  refine zV_getR zf_RX7_38 dX7_erase_20 rfl g11 ?_
  obtain ⟨g12, h⟩ := zg_of h
  obtain ⟨r13, M14, q15, h⟩ := zb_of h
  refine zV_callVv (ci := 2) (As := []) (rest := []) (vX2_readText l D T b gr (zR M9 x0 4) M9 _ _ q15) zm_yX2_readText zl_RX7_90 zi_yX2_readText ze_yX2_readText zcI2 g12 rfl rfl (zcs trivial (Nat.le_of_ble_eq_true rfl)) (by decide) (by decide) (by decide) dX7_erase_23 ?_
  refine zV_aload_n (j := 0) dX7_erase_26 rfl rfl ?_
  obtain ⟨g16, h⟩ := zg_of h
  refine zV_getR zf_RX7_38 dX7_erase_27 rfl g16 ?_
  refine zV_iload_n (j := 1) dX7_erase_30 rfl rfl ?_
  refine zV_iload_n (j := 1) dX7_erase_31 rfl rfl ?_
  refine zV_iconst (v := 1) dX7_erase_32 (by decide) ?_
  obtain ⟨g17, h⟩ := zg_of h
  obtain ⟨r18, M19, q20, h⟩ := zb_of h
  refine zV_callVv (ci := 2) (As := [.int x1, .int x1, .int 1]) (rest := []) (vX2_countReadAnew l D T b gr (zR M14 x0 4) x1 x1 1 M14 _ _ q20) zm_yX2_countReadAnew zl_RX7_127 zi_yX2_countReadAnew ze_yX2_countReadAnew zcI2 g17 rfl rfl (zcs trivial (Nat.le_of_ble_eq_true rfl)) (by decide) (by decide) (by decide) dX7_erase_33 ?_
  refine zV_aload_n (j := 0) dX7_erase_36 rfl rfl ?_
  obtain ⟨g21, h⟩ := zg_of h
  refine zV_getR zf_RX7_21 dX7_erase_37 rfl g21 ?_
  obtain ⟨g22, h⟩ := zg_of h
  refine zV_getI zf_RX7_114 dX7_erase_40 rfl g22 ?_
  exact zV_iret rfl dX7_erase_43 (by decide) (by decide) (z_ret0 h)
set_option maxHeartbeats 4000000 in
set_option maxRecDepth 100000 in
theorem vX7_length (l : Launch) (D : va_G) (T : Nat → ClassId) (b : Nat) (gr : Bool) (x0 : Nat) (M : zM) (r : Int32) (M' : zM) (h : fX7_length x0 M = some (r, M')) : zMet l D T b gr yX7_length cX7_length 1 (some .int) 0 0 0 [zr b x0] M (0, r, M') := by
  refine zEntry2 (ev := zE0) rfl false (fun h9 => nomatch h9) zp_yX7_length ⟨zr_cat _ _, trivial⟩ (Nat.le_of_ble_eq_true rfl) ?_
  obtain ⟨o, ho⟩ : ∃ o : Int32 × zM, o = (r, M') := ⟨_, rfl⟩
  rw [← ho] at h
  rw [show ((0, r, M') : Nat × Int32 × zM) = (0, o.1, o.2) by rw [ho]]
  show zV false l RX7 cX7_length 1 (some .int) false 0 0 0 D T zE0 b gr M.2.2.2 (0, o.1, o.2) 0 0 0 [(0, zr b x0)] [] M
  unfold fX7_length at h
  refine zV_aload_n (j := 0) dX7_length_0 rfl rfl ?_
  obtain ⟨g1, h⟩ := zg_of h
  refine zV_getR zf_RX7_21 dX7_length_1 rfl g1 ?_
  obtain ⟨g2, h⟩ := zg_of h
  refine zV_getI zf_RX7_114 dX7_length_4 rfl g2 ?_
  exact zV_iret rfl dX7_length_7 (by decide) (by decide) (z_ret h)
set_option maxHeartbeats 4000000 in
set_option maxRecDepth 100000 in
theorem vX7_anew (l : Launch) (D : va_G) (T : Nat → ClassId) (b : Nat) (gr : Bool) (x0 : Nat) (M : zM) (r : Int32) (M' : zM) (h : fX7_anew x0 M = some (r, M')) : zMet l D T b gr yX7_anew cX7_anew 1 (some .int) 0 0 0 [zr b x0] M (0, r, M') := by
  refine zEntry2 (ev := zE0) rfl false (fun h9 => nomatch h9) zp_yX7_anew ⟨zr_cat _ _, trivial⟩ (Nat.le_of_ble_eq_true rfl) ?_
  obtain ⟨o, ho⟩ : ∃ o : Int32 × zM, o = (r, M') := ⟨_, rfl⟩
  rw [← ho] at h
  rw [show ((0, r, M') : Nat × Int32 × zM) = (0, o.1, o.2) by rw [ho]]
  show zV false l RX7 cX7_anew 1 (some .int) false 0 0 0 D T zE0 b gr M.2.2.2 (0, o.1, o.2) 0 0 0 [(0, zr b x0)] [] M
  unfold fX7_anew at h
  refine zV_aload_n (j := 0) dX7_anew_0 rfl rfl ?_
  obtain ⟨g1, h⟩ := zg_of h
  refine zV_getR zf_RX7_38 dX7_anew_1 rfl g1 ?_
  obtain ⟨g2, h⟩ := zg_of h
  refine zV_getI zf_RX7_142 dX7_anew_4 rfl g2 ?_
  exact zV_iret rfl dX7_anew_7 (by decide) (by decide) (z_ret h)
set_option maxHeartbeats 4000000 in
set_option maxRecDepth 100000 in
theorem vX7_open (l : Launch) (D : va_G) (T : Nat → ClassId) (b : Nat) (gr : Bool) (x0 : Nat) (x1 : Int32) (M : zM) (r : Int32) (M' : zM) (h : fX7_open x0 x1 M = some (0, r, M')) : zMet l D T b gr yX7_open cX7_open 2 (some .int) 7 0 0 [zr b x0, .int x1] M (0, r, M') := by
  refine zEntry2 (ev := zE0) rfl false (fun h9 => nomatch h9) zp_yX7_open ⟨zr_cat _ _, rfl, trivial⟩ (Nat.le_of_ble_eq_true rfl) ?_
  obtain ⟨o, ho⟩ : ∃ o : Int32 × zM, o = (r, M') := ⟨_, rfl⟩
  rw [← ho] at h
  rw [show ((0, r, M') : Nat × Int32 × zM) = (0, o.1, o.2) by rw [ho]]
  show zV false l RX7 cX7_open 2 (some .int) false 7 0 0 D T zE0 b gr M.2.2.2 (0, o.1, o.2) 0 0 0 [(0, zr b x0), (1, .int x1)] [] M
  unfold fX7_open at h
  refine zV_iload_n (j := 1) dX7_open_0 rfl rfl ?_
  refine zV_aload_n (j := 0) dX7_open_1 rfl rfl ?_
  obtain ⟨g1, h⟩ := zg_of h
  refine zV_getR zf_RX7_21 dX7_open_2 rfl g1 ?_
  obtain ⟨g2, h⟩ := zg_of h
  refine zV_getI zf_RX7_114 dX7_open_5 rfl g2 ?_
  refine zV_iconst (v := 1) dX7_open_8 (by decide) ?_
  refine zV_iadd dX7_open_9 ?_
  rcases zbx_of h with ⟨r3, M4, q5, h⟩ | ⟨t9, r3, M4, q5, h⟩
  rotate_left
  · exact absurd (congrArg Prod.fst h) (Nat.succ_ne_zero _).symm
  refine zV_callSv (As := [.int x1, .int ((zI M (zR M x0 1) 2) + 1)]) (rest := []) (vX7_checkIndex l D T b gr x1 ((zI M (zR M x0 1) 2) + 1) M _ _ q5) zm_yX7_checkIndex zl_RX7_51 zs_yX7_checkIndex rfl rfl (zcs trivial (Nat.le_of_ble_eq_true rfl)) (by decide) (by decide) (by decide) dX7_open_10 ?_
  refine zV_aload_n (j := 0) dX7_open_13 rfl rfl ?_
  obtain ⟨g6, h⟩ := zg_of h
  refine zV_getR zf_RX7_38 dX7_open_14 rfl g6 ?_
  obtain ⟨g7, h⟩ := zg_of h
  refine zV_getR zf_RX7_145 dX7_open_17 rfl g7 ?_
  refine zV_iload_n (j := 1) dX7_open_20 rfl rfl ?_
  obtain ⟨g8, h⟩ := zg_of h
  obtain ⟨g9, h⟩ := zg_of h
  refine zV_aald 112 6 dX7_open_21 g8 ⟨by decide, by decide⟩ rfl g9 ?_
  obtain ⟨g10, h⟩ := zg_of h
  refine zV_getI zf_RX7_149 dX7_open_22 rfl g10 ?_
  exact zV_iret rfl dX7_open_25 (by decide) (by decide) (z_ret0 h)
set_option maxHeartbeats 4000000 in
set_option maxRecDepth 100000 in
theorem vX7_current (l : Launch) (D : va_G) (T : Nat → ClassId) (b : Nat) (gr : Bool) (x0 : Nat) (x1 : Int32) (M : zM) (r : Int32) (M' : zM) (h : fX7_current x0 x1 M = some (0, r, M')) : zMet l D T b gr yX7_current cX7_current 2 (some .int) 7 0 0 [zr b x0, .int x1] M (0, r, M') := by
  refine zEntry2 (ev := zE0) rfl false (fun h9 => nomatch h9) zp_yX7_current ⟨zr_cat _ _, rfl, trivial⟩ (Nat.le_of_ble_eq_true rfl) ?_
  obtain ⟨o, ho⟩ : ∃ o : Int32 × zM, o = (r, M') := ⟨_, rfl⟩
  rw [← ho] at h
  rw [show ((0, r, M') : Nat × Int32 × zM) = (0, o.1, o.2) by rw [ho]]
  show zV false l RX7 cX7_current 2 (some .int) false 7 0 0 D T zE0 b gr M.2.2.2 (0, o.1, o.2) 0 0 0 [(0, zr b x0), (1, .int x1)] [] M
  unfold fX7_current at h
  refine zV_iload_n (j := 1) dX7_current_0 rfl rfl ?_
  refine zV_aload_n (j := 0) dX7_current_1 rfl rfl ?_
  obtain ⟨g1, h⟩ := zg_of h
  refine zV_getR zf_RX7_21 dX7_current_2 rfl g1 ?_
  obtain ⟨g2, h⟩ := zg_of h
  refine zV_getI zf_RX7_114 dX7_current_5 rfl g2 ?_
  refine zV_iconst (v := 1) dX7_current_8 (by decide) ?_
  refine zV_iadd dX7_current_9 ?_
  rcases zbx_of h with ⟨r3, M4, q5, h⟩ | ⟨t9, r3, M4, q5, h⟩
  rotate_left
  · exact absurd (congrArg Prod.fst h) (Nat.succ_ne_zero _).symm
  refine zV_callSv (As := [.int x1, .int ((zI M (zR M x0 1) 2) + 1)]) (rest := []) (vX7_checkIndex l D T b gr x1 ((zI M (zR M x0 1) 2) + 1) M _ _ q5) zm_yX7_checkIndex zl_RX7_51 zs_yX7_checkIndex rfl rfl (zcs trivial (Nat.le_of_ble_eq_true rfl)) (by decide) (by decide) (by decide) dX7_current_10 ?_
  refine zV_aload_n (j := 0) dX7_current_13 rfl rfl ?_
  obtain ⟨g6, h⟩ := zg_of h
  refine zV_getR zf_RX7_38 dX7_current_14 rfl g6 ?_
  obtain ⟨g7, h⟩ := zg_of h
  refine zV_getR zf_RX7_145 dX7_current_17 rfl g7 ?_
  refine zV_iload_n (j := 1) dX7_current_20 rfl rfl ?_
  obtain ⟨g8, h⟩ := zg_of h
  obtain ⟨g9, h⟩ := zg_of h
  refine zV_aald 112 6 dX7_current_21 g8 ⟨by decide, by decide⟩ rfl g9 ?_
  obtain ⟨g10, h⟩ := zg_of h
  obtain ⟨r11, M12, q13, h⟩ := zb_of h
  refine zV_callVi (ci := 4) (As := []) (rest := []) (vX4_currentElement l D T b gr (zR M4 (zR M4 (zR M4 x0 4) 12) x1.toNatClampNeg) M4 _ _ q13) zm_yX4_currentElement zl_RX7_154 zi_yX4_currentElement ze_yX4_currentElement zcI4 g10 rfl rfl (zcs trivial (Nat.le_of_ble_eq_true rfl)) (by decide) (by decide) (by decide) dX7_current_22 ?_
  exact zV_iret rfl dX7_current_25 (by decide) (by decide) (z_ret0 h)
set_option maxHeartbeats 4000000 in
set_option maxRecDepth 100000 in
theorem vX7_next (l : Launch) (D : va_G) (T : Nat → ClassId) (b : Nat) (gr : Bool) (x0 : Nat) (x1 : Int32) (M : zM) (r : Int32) (M' : zM) (h : fX7_next x0 x1 M = some (0, r, M')) : zMet l D T b gr yX7_next cX7_next 2 (some .int) 7 0 0 [zr b x0, .int x1] M (0, r, M') := by
  refine zEntry2 (ev := zE0) rfl false (fun h9 => nomatch h9) zp_yX7_next ⟨zr_cat _ _, rfl, trivial⟩ (Nat.le_of_ble_eq_true rfl) ?_
  obtain ⟨o, ho⟩ : ∃ o : Int32 × zM, o = (r, M') := ⟨_, rfl⟩
  rw [← ho] at h
  rw [show ((0, r, M') : Nat × Int32 × zM) = (0, o.1, o.2) by rw [ho]]
  show zV false l RX7 cX7_next 2 (some .int) false 7 0 0 D T zE0 b gr M.2.2.2 (0, o.1, o.2) 0 0 0 [(0, zr b x0), (1, .int x1)] [] M
  unfold fX7_next at h
  refine zV_iload_n (j := 1) dX7_next_0 rfl rfl ?_
  refine zV_aload_n (j := 0) dX7_next_1 rfl rfl ?_
  obtain ⟨g1, h⟩ := zg_of h
  refine zV_getR zf_RX7_21 dX7_next_2 rfl g1 ?_
  obtain ⟨g2, h⟩ := zg_of h
  refine zV_getI zf_RX7_114 dX7_next_5 rfl g2 ?_
  refine zV_iconst (v := 1) dX7_next_8 (by decide) ?_
  refine zV_iadd dX7_next_9 ?_
  rcases zbx_of h with ⟨r3, M4, q5, h⟩ | ⟨t9, r3, M4, q5, h⟩
  rotate_left
  · exact absurd (congrArg Prod.fst h) (Nat.succ_ne_zero _).symm
  refine zV_callSv (As := [.int x1, .int ((zI M (zR M x0 1) 2) + 1)]) (rest := []) (vX7_checkIndex l D T b gr x1 ((zI M (zR M x0 1) 2) + 1) M _ _ q5) zm_yX7_checkIndex zl_RX7_51 zs_yX7_checkIndex rfl rfl (zcs trivial (Nat.le_of_ble_eq_true rfl)) (by decide) (by decide) (by decide) dX7_next_10 ?_
  refine zV_aload_n (j := 0) dX7_next_13 rfl rfl ?_
  obtain ⟨g6, h⟩ := zg_of h
  refine zV_getR zf_RX7_38 dX7_next_14 rfl g6 ?_
  obtain ⟨g7, h⟩ := zg_of h
  refine zV_getR zf_RX7_145 dX7_next_17 rfl g7 ?_
  refine zV_iload_n (j := 1) dX7_next_20 rfl rfl ?_
  obtain ⟨g8, h⟩ := zg_of h
  obtain ⟨g9, h⟩ := zg_of h
  refine zV_aald 112 6 dX7_next_21 g8 ⟨by decide, by decide⟩ rfl g9 ?_
  obtain ⟨g10, h⟩ := zg_of h
  obtain ⟨r11, M12, q13, h⟩ := zb_of h
  refine zV_callVi (ci := 4) (As := []) (rest := []) (vX4_goesOnWith l D T b gr (zR M4 (zR M4 (zR M4 x0 4) 12) x1.toNatClampNeg) M4 _ _ q13) zm_yX4_goesOnWith zl_RX7_158 zi_yX4_goesOnWith ze_yX4_goesOnWith zcI4 g10 rfl rfl (zcs trivial (Nat.le_of_ble_eq_true rfl)) (by decide) (by decide) (by decide) dX7_next_22 ?_
  exact zV_iret rfl dX7_next_25 (by decide) (by decide) (z_ret0 h)
set_option maxHeartbeats 4000000 in
set_option maxRecDepth 100000 in
theorem vX7_things (l : Launch) (D : va_G) (T : Nat → ClassId) (b : Nat) (gr : Bool) (x0 : Nat) (M : zM) (r : Int32) (M' : zM) (h : fX7_things x0 M = some (r, M')) : zMet l D T b gr yX7_things cX7_things 1 (some .int) 0 0 0 [zr b x0] M (0, r, M') := by
  refine zEntry2 (ev := zE0) rfl false (fun h9 => nomatch h9) zp_yX7_things ⟨zr_cat _ _, trivial⟩ (Nat.le_of_ble_eq_true rfl) ?_
  obtain ⟨o, ho⟩ : ∃ o : Int32 × zM, o = (r, M') := ⟨_, rfl⟩
  rw [← ho] at h
  rw [show ((0, r, M') : Nat × Int32 × zM) = (0, o.1, o.2) by rw [ho]]
  show zV false l RX7 cX7_things 1 (some .int) false 0 0 0 D T zE0 b gr M.2.2.2 (0, o.1, o.2) 0 0 0 [(0, zr b x0)] [] M
  unfold fX7_things at h
  refine zV_aload_n (j := 0) dX7_things_0 rfl rfl ?_
  obtain ⟨g1, h⟩ := zg_of h
  refine zV_getR zf_RX7_38 dX7_things_1 rfl g1 ?_
  obtain ⟨g2, h⟩ := zg_of h
  refine zV_getR zf_RX7_161 dX7_things_4 rfl g2 ?_
  obtain ⟨g3, h⟩ := zg_of h
  refine zV_getI zf_RX7_165 dX7_things_7 rfl g3 ?_
  exact zV_iret rfl dX7_things_10 (by decide) (by decide) (z_ret h)
set_option maxHeartbeats 4000000 in
set_option maxRecDepth 100000 in
theorem vX7_kind (l : Launch) (D : va_G) (T : Nat → ClassId) (b : Nat) (gr : Bool) (x0 : Nat) (x1 : Int32) (M : zM) (r : Int32) (M' : zM) (h : fX7_kind x0 x1 M = some (0, r, M')) : zMet l D T b gr yX7_kind cX7_kind 2 (some .int) 7 0 0 [zr b x0, .int x1] M (0, r, M') := by
  refine zEntry2 (ev := zE0) rfl false (fun h9 => nomatch h9) zp_yX7_kind ⟨zr_cat _ _, rfl, trivial⟩ (Nat.le_of_ble_eq_true rfl) ?_
  obtain ⟨o, ho⟩ : ∃ o : Int32 × zM, o = (r, M') := ⟨_, rfl⟩
  rw [← ho] at h
  rw [show ((0, r, M') : Nat × Int32 × zM) = (0, o.1, o.2) by rw [ho]]
  show zV false l RX7 cX7_kind 2 (some .int) false 7 0 0 D T zE0 b gr M.2.2.2 (0, o.1, o.2) 0 0 0 [(0, zr b x0), (1, .int x1)] [] M
  unfold fX7_kind at h
  refine zV_iload_n (j := 1) dX7_kind_0 rfl rfl ?_
  refine zV_aload_n (j := 0) dX7_kind_1 rfl rfl ?_
  obtain ⟨g1, h⟩ := zg_of h
  refine zV_getR zf_RX7_38 dX7_kind_2 rfl g1 ?_
  obtain ⟨g2, h⟩ := zg_of h
  refine zV_getR zf_RX7_161 dX7_kind_5 rfl g2 ?_
  obtain ⟨g3, h⟩ := zg_of h
  refine zV_getI zf_RX7_165 dX7_kind_8 rfl g3 ?_
  rcases zbx_of h with ⟨r4, M5, q6, h⟩ | ⟨t9, r4, M5, q6, h⟩
  rotate_left
  · exact absurd (congrArg Prod.fst h) (Nat.succ_ne_zero _).symm
  refine zV_callSv (As := [.int x1, .int (zI M (zR M (zR M x0 4) 4) 5)]) (rest := []) (vX7_checkIndex l D T b gr x1 (zI M (zR M (zR M x0 4) 4) 5) M _ _ q6) zm_yX7_checkIndex zl_RX7_51 zs_yX7_checkIndex rfl rfl (zcs trivial (Nat.le_of_ble_eq_true rfl)) (by decide) (by decide) (by decide) dX7_kind_11 ?_
  refine zV_aload_n (j := 0) dX7_kind_14 rfl rfl ?_
  obtain ⟨g7, h⟩ := zg_of h
  refine zV_getR zf_RX7_38 dX7_kind_15 rfl g7 ?_
  obtain ⟨g8, h⟩ := zg_of h
  refine zV_getR zf_RX7_161 dX7_kind_18 rfl g8 ?_
  obtain ⟨g9, h⟩ := zg_of h
  refine zV_getR zf_RX7_168 dX7_kind_21 rfl g9 ?_
  refine zV_iload_n (j := 1) dX7_kind_24 rfl rfl ?_
  obtain ⟨g10, h⟩ := zg_of h
  obtain ⟨g11, h⟩ := zg_of h
  refine zV_iald dX7_kind_25 g10 g11 ?_
  exact zV_iret rfl dX7_kind_26 (by decide) (by decide) (z_ret0 h)
set_option maxHeartbeats 4000000 in
set_option maxRecDepth 100000 in
theorem vX7_parent (l : Launch) (D : va_G) (T : Nat → ClassId) (b : Nat) (gr : Bool) (x0 : Nat) (x1 : Int32) (M : zM) (r : Int32) (M' : zM) (h : fX7_parent x0 x1 M = some (0, r, M')) : zMet l D T b gr yX7_parent cX7_parent 2 (some .int) 7 0 0 [zr b x0, .int x1] M (0, r, M') := by
  refine zEntry2 (ev := zE0) rfl false (fun h9 => nomatch h9) zp_yX7_parent ⟨zr_cat _ _, rfl, trivial⟩ (Nat.le_of_ble_eq_true rfl) ?_
  obtain ⟨o, ho⟩ : ∃ o : Int32 × zM, o = (r, M') := ⟨_, rfl⟩
  rw [← ho] at h
  rw [show ((0, r, M') : Nat × Int32 × zM) = (0, o.1, o.2) by rw [ho]]
  show zV false l RX7 cX7_parent 2 (some .int) false 7 0 0 D T zE0 b gr M.2.2.2 (0, o.1, o.2) 0 0 0 [(0, zr b x0), (1, .int x1)] [] M
  unfold fX7_parent at h
  refine zV_iload_n (j := 1) dX7_parent_0 rfl rfl ?_
  refine zV_aload_n (j := 0) dX7_parent_1 rfl rfl ?_
  obtain ⟨g1, h⟩ := zg_of h
  refine zV_getR zf_RX7_38 dX7_parent_2 rfl g1 ?_
  obtain ⟨g2, h⟩ := zg_of h
  refine zV_getR zf_RX7_161 dX7_parent_5 rfl g2 ?_
  obtain ⟨g3, h⟩ := zg_of h
  refine zV_getI zf_RX7_165 dX7_parent_8 rfl g3 ?_
  rcases zbx_of h with ⟨r4, M5, q6, h⟩ | ⟨t9, r4, M5, q6, h⟩
  rotate_left
  · exact absurd (congrArg Prod.fst h) (Nat.succ_ne_zero _).symm
  refine zV_callSv (As := [.int x1, .int (zI M (zR M (zR M x0 4) 4) 5)]) (rest := []) (vX7_checkIndex l D T b gr x1 (zI M (zR M (zR M x0 4) 4) 5) M _ _ q6) zm_yX7_checkIndex zl_RX7_51 zs_yX7_checkIndex rfl rfl (zcs trivial (Nat.le_of_ble_eq_true rfl)) (by decide) (by decide) (by decide) dX7_parent_11 ?_
  refine zV_aload_n (j := 0) dX7_parent_14 rfl rfl ?_
  obtain ⟨g7, h⟩ := zg_of h
  refine zV_getR zf_RX7_38 dX7_parent_15 rfl g7 ?_
  obtain ⟨g8, h⟩ := zg_of h
  refine zV_getR zf_RX7_161 dX7_parent_18 rfl g8 ?_
  obtain ⟨g9, h⟩ := zg_of h
  refine zV_getR zf_RX7_171 dX7_parent_21 rfl g9 ?_
  refine zV_iload_n (j := 1) dX7_parent_24 rfl rfl ?_
  obtain ⟨g10, h⟩ := zg_of h
  obtain ⟨g11, h⟩ := zg_of h
  refine zV_iald dX7_parent_25 g10 g11 ?_
  exact zV_iret rfl dX7_parent_26 (by decide) (by decide) (z_ret0 h)
set_option maxHeartbeats 4000000 in
set_option maxRecDepth 100000 in
theorem vX7_letter (l : Launch) (D : va_G) (T : Nat → ClassId) (b : Nat) (gr : Bool) (x0 : Nat) (x1 : Int32) (M : zM) (r : Int32) (M' : zM) (h : fX7_letter x0 x1 M = some (0, r, M')) : zMet l D T b gr yX7_letter cX7_letter 2 (some .char) 7 0 0 [zr b x0, .int x1] M (0, r, M') := by
  refine zEntry2 (ev := zE0) rfl false (fun h9 => nomatch h9) zp_yX7_letter ⟨zr_cat _ _, rfl, trivial⟩ (Nat.le_of_ble_eq_true rfl) ?_
  obtain ⟨o, ho⟩ : ∃ o : Int32 × zM, o = (r, M') := ⟨_, rfl⟩
  rw [← ho] at h
  rw [show ((0, r, M') : Nat × Int32 × zM) = (0, o.1, o.2) by rw [ho]]
  show zV false l RX7 cX7_letter 2 (some .char) false 7 0 0 D T zE0 b gr M.2.2.2 (0, o.1, o.2) 0 0 0 [(0, zr b x0), (1, .int x1)] [] M
  unfold fX7_letter at h
  refine zV_iload_n (j := 1) dX7_letter_0 rfl rfl ?_
  refine zV_aload_n (j := 0) dX7_letter_1 rfl rfl ?_
  obtain ⟨g1, h⟩ := zg_of h
  refine zV_getR zf_RX7_38 dX7_letter_2 rfl g1 ?_
  obtain ⟨g2, h⟩ := zg_of h
  refine zV_getR zf_RX7_161 dX7_letter_5 rfl g2 ?_
  obtain ⟨g3, h⟩ := zg_of h
  refine zV_getI zf_RX7_165 dX7_letter_8 rfl g3 ?_
  rcases zbx_of h with ⟨r4, M5, q6, h⟩ | ⟨t9, r4, M5, q6, h⟩
  rotate_left
  · exact absurd (congrArg Prod.fst h) (Nat.succ_ne_zero _).symm
  refine zV_callSv (As := [.int x1, .int (zI M (zR M (zR M x0 4) 4) 5)]) (rest := []) (vX7_checkIndex l D T b gr x1 (zI M (zR M (zR M x0 4) 4) 5) M _ _ q6) zm_yX7_checkIndex zl_RX7_51 zs_yX7_checkIndex rfl rfl (zcs trivial (Nat.le_of_ble_eq_true rfl)) (by decide) (by decide) (by decide) dX7_letter_11 ?_
  refine zV_aload_n (j := 0) dX7_letter_14 rfl rfl ?_
  obtain ⟨g7, h⟩ := zg_of h
  refine zV_getR zf_RX7_38 dX7_letter_15 rfl g7 ?_
  obtain ⟨g8, h⟩ := zg_of h
  refine zV_getR zf_RX7_161 dX7_letter_18 rfl g8 ?_
  obtain ⟨g9, h⟩ := zg_of h
  refine zV_getR zf_RX7_174 dX7_letter_21 rfl g9 ?_
  refine zV_iload_n (j := 1) dX7_letter_24 rfl rfl ?_
  obtain ⟨g10, h⟩ := zg_of h
  obtain ⟨g11, h⟩ := zg_of h
  refine zV_cald dX7_letter_25 g10 g11 ?_
  obtain ⟨g12, h⟩ := zg_of h
  exact zV_cret rfl dX7_letter_26 (by decide) (by decide) g12 (z_ret0 h)
set_option maxHeartbeats 4000000 in
set_option maxRecDepth 100000 in
theorem vX7_placeOf (l : Launch) (D : va_G) (T : Nat → ClassId) (b : Nat) (gr : Bool) (x0 : Nat) (x1 : Int32) (M : zM) (r : Int32) (M' : zM) (h : fX7_placeOf x0 x1 M = some (0, r, M')) : zMet l D T b gr yX7_placeOf cX7_placeOf 2 (some .int) 7 0 0 [zr b x0, .int x1] M (0, r, M') := by
  refine zEntry2 (ev := zE0) rfl false (fun h9 => nomatch h9) zp_yX7_placeOf ⟨zr_cat _ _, rfl, trivial⟩ (Nat.le_of_ble_eq_true rfl) ?_
  obtain ⟨o, ho⟩ : ∃ o : Int32 × zM, o = (r, M') := ⟨_, rfl⟩
  rw [← ho] at h
  rw [show ((0, r, M') : Nat × Int32 × zM) = (0, o.1, o.2) by rw [ho]]
  show zV false l RX7 cX7_placeOf 2 (some .int) false 7 0 0 D T zE0 b gr M.2.2.2 (0, o.1, o.2) 0 0 0 [(0, zr b x0), (1, .int x1)] [] M
  unfold fX7_placeOf at h
  refine zV_iload_n (j := 1) dX7_placeOf_0 rfl rfl ?_
  refine zV_aload_n (j := 0) dX7_placeOf_1 rfl rfl ?_
  obtain ⟨g1, h⟩ := zg_of h
  refine zV_getR zf_RX7_38 dX7_placeOf_2 rfl g1 ?_
  obtain ⟨g2, h⟩ := zg_of h
  refine zV_getR zf_RX7_161 dX7_placeOf_5 rfl g2 ?_
  obtain ⟨g3, h⟩ := zg_of h
  refine zV_getI zf_RX7_165 dX7_placeOf_8 rfl g3 ?_
  rcases zbx_of h with ⟨r4, M5, q6, h⟩ | ⟨t9, r4, M5, q6, h⟩
  rotate_left
  · exact absurd (congrArg Prod.fst h) (Nat.succ_ne_zero _).symm
  refine zV_callSv (As := [.int x1, .int (zI M (zR M (zR M x0 4) 4) 5)]) (rest := []) (vX7_checkIndex l D T b gr x1 (zI M (zR M (zR M x0 4) 4) 5) M _ _ q6) zm_yX7_checkIndex zl_RX7_51 zs_yX7_checkIndex rfl rfl (zcs trivial (Nat.le_of_ble_eq_true rfl)) (by decide) (by decide) (by decide) dX7_placeOf_11 ?_
  refine zV_aload_n (j := 0) dX7_placeOf_14 rfl rfl ?_
  obtain ⟨g7, h⟩ := zg_of h
  refine zV_getR zf_RX7_38 dX7_placeOf_15 rfl g7 ?_
  obtain ⟨g8, h⟩ := zg_of h
  refine zV_getR zf_RX7_161 dX7_placeOf_18 rfl g8 ?_
  obtain ⟨g9, h⟩ := zg_of h
  refine zV_getR zf_RX7_178 dX7_placeOf_21 rfl g9 ?_
  refine zV_iload_n (j := 1) dX7_placeOf_24 rfl rfl ?_
  obtain ⟨g10, h⟩ := zg_of h
  obtain ⟨g11, h⟩ := zg_of h
  refine zV_iald dX7_placeOf_25 g10 g11 ?_
  exact zV_iret rfl dX7_placeOf_26 (by decide) (by decide) (z_ret0 h)
set_option maxHeartbeats 4000000 in
set_option maxRecDepth 100000 in
theorem vX7_isPutIn (l : Launch) (D : va_G) (T : Nat → ClassId) (b : Nat) (gr : Bool) (x0 : Nat) (x1 : Int32) (M : zM) (r : Int32) (M' : zM) (h : fX7_isPutIn x0 x1 M = some (0, r, M')) : zMet l D T b gr yX7_isPutIn cX7_isPutIn 2 (some .boolean) 7 0 0 [zr b x0, .int x1] M (0, r, M') := by
  refine zEntry2 (ev := zE0) rfl false (fun h9 => nomatch h9) zp_yX7_isPutIn ⟨zr_cat _ _, rfl, trivial⟩ (Nat.le_of_ble_eq_true rfl) ?_
  obtain ⟨o, ho⟩ : ∃ o : Int32 × zM, o = (r, M') := ⟨_, rfl⟩
  rw [← ho] at h
  rw [show ((0, r, M') : Nat × Int32 × zM) = (0, o.1, o.2) by rw [ho]]
  show zV false l RX7 cX7_isPutIn 2 (some .boolean) false 7 0 0 D T zE0 b gr M.2.2.2 (0, o.1, o.2) 0 0 0 [(0, zr b x0), (1, .int x1)] [] M
  unfold fX7_isPutIn at h
  refine zV_iload_n (j := 1) dX7_isPutIn_0 rfl rfl ?_
  refine zV_aload_n (j := 0) dX7_isPutIn_1 rfl rfl ?_
  obtain ⟨g1, h⟩ := zg_of h
  refine zV_getR zf_RX7_38 dX7_isPutIn_2 rfl g1 ?_
  obtain ⟨g2, h⟩ := zg_of h
  refine zV_getR zf_RX7_161 dX7_isPutIn_5 rfl g2 ?_
  obtain ⟨g3, h⟩ := zg_of h
  refine zV_getI zf_RX7_165 dX7_isPutIn_8 rfl g3 ?_
  rcases zbx_of h with ⟨r4, M5, q6, h⟩ | ⟨t9, r4, M5, q6, h⟩
  rotate_left
  · exact absurd (congrArg Prod.fst h) (Nat.succ_ne_zero _).symm
  refine zV_callSv (As := [.int x1, .int (zI M (zR M (zR M x0 4) 4) 5)]) (rest := []) (vX7_checkIndex l D T b gr x1 (zI M (zR M (zR M x0 4) 4) 5) M _ _ q6) zm_yX7_checkIndex zl_RX7_51 zs_yX7_checkIndex rfl rfl (zcs trivial (Nat.le_of_ble_eq_true rfl)) (by decide) (by decide) (by decide) dX7_isPutIn_11 ?_
  refine zV_aload_n (j := 0) dX7_isPutIn_14 rfl rfl ?_
  obtain ⟨g7, h⟩ := zg_of h
  refine zV_getR zf_RX7_38 dX7_isPutIn_15 rfl g7 ?_
  obtain ⟨g8, h⟩ := zg_of h
  refine zV_getR zf_RX7_161 dX7_isPutIn_18 rfl g8 ?_
  obtain ⟨g9, h⟩ := zg_of h
  refine zV_getR zf_RX7_181 dX7_isPutIn_21 rfl g9 ?_
  refine zV_iload_n (j := 1) dX7_isPutIn_24 rfl rfl ?_
  obtain ⟨g10, h⟩ := zg_of h
  obtain ⟨g11, h⟩ := zg_of h
  refine zV_zald dX7_isPutIn_25 g10 g11 ?_
  obtain ⟨g12, h⟩ := zg_of h
  exact zV_zret rfl dX7_isPutIn_26 (by decide) (by decide) g12 (z_ret0 h)
set_option maxHeartbeats 4000000 in
set_option maxRecDepth 100000 in
theorem vX7_endsPutIn (l : Launch) (D : va_G) (T : Nat → ClassId) (b : Nat) (gr : Bool) (x0 : Nat) (M : zM) (r : Int32) (M' : zM) (h : fX7_endsPutIn x0 M = some (r, M')) : zMet l D T b gr yX7_endsPutIn cX7_endsPutIn 1 (some .int) 0 0 0 [zr b x0] M (0, r, M') := by
  refine zEntry2 (ev := zE0) rfl false (fun h9 => nomatch h9) zp_yX7_endsPutIn ⟨zr_cat _ _, trivial⟩ (Nat.le_of_ble_eq_true rfl) ?_
  obtain ⟨o, ho⟩ : ∃ o : Int32 × zM, o = (r, M') := ⟨_, rfl⟩
  rw [← ho] at h
  rw [show ((0, r, M') : Nat × Int32 × zM) = (0, o.1, o.2) by rw [ho]]
  show zV false l RX7 cX7_endsPutIn 1 (some .int) false 0 0 0 D T zE0 b gr M.2.2.2 (0, o.1, o.2) 0 0 0 [(0, zr b x0)] [] M
  unfold fX7_endsPutIn at h
  refine zV_aload_n (j := 0) dX7_endsPutIn_0 rfl rfl ?_
  obtain ⟨g1, h⟩ := zg_of h
  refine zV_getR zf_RX7_38 dX7_endsPutIn_1 rfl g1 ?_
  obtain ⟨g2, h⟩ := zg_of h
  refine zV_getI zf_RX7_184 dX7_endsPutIn_4 rfl g2 ?_
  exact zV_iret rfl dX7_endsPutIn_7 (by decide) (by decide) (z_ret h)
set_option maxHeartbeats 4000000 in
set_option maxRecDepth 100000 in
theorem vX7_errors (l : Launch) (D : va_G) (T : Nat → ClassId) (b : Nat) (gr : Bool) (x0 : Nat) (M : zM) (r : Int32) (M' : zM) (h : fX7_errors x0 M = some (r, M')) : zMet l D T b gr yX7_errors cX7_errors 1 (some .int) 0 0 0 [zr b x0] M (0, r, M') := by
  refine zEntry2 (ev := zE0) rfl false (fun h9 => nomatch h9) zp_yX7_errors ⟨zr_cat _ _, trivial⟩ (Nat.le_of_ble_eq_true rfl) ?_
  obtain ⟨o, ho⟩ : ∃ o : Int32 × zM, o = (r, M') := ⟨_, rfl⟩
  rw [← ho] at h
  rw [show ((0, r, M') : Nat × Int32 × zM) = (0, o.1, o.2) by rw [ho]]
  show zV false l RX7 cX7_errors 1 (some .int) false 0 0 0 D T zE0 b gr M.2.2.2 (0, o.1, o.2) 0 0 0 [(0, zr b x0)] [] M
  unfold fX7_errors at h
  refine zV_aload_n (j := 0) dX7_errors_0 rfl rfl ?_
  obtain ⟨g1, h⟩ := zg_of h
  refine zV_getR zf_RX7_38 dX7_errors_1 rfl g1 ?_
  obtain ⟨g2, h⟩ := zg_of h
  refine zV_getI zf_RX7_187 dX7_errors_4 rfl g2 ?_
  exact zV_iret rfl dX7_errors_7 (by decide) (by decide) (z_ret h)
set_option maxHeartbeats 4000000 in
set_option maxRecDepth 100000 in
theorem vX7_errorKind (l : Launch) (D : va_G) (T : Nat → ClassId) (b : Nat) (gr : Bool) (x0 : Nat) (x1 : Int32) (M : zM) (r : Int32) (M' : zM) (h : fX7_errorKind x0 x1 M = some (0, r, M')) : zMet l D T b gr yX7_errorKind cX7_errorKind 2 (some .int) 7 0 0 [zr b x0, .int x1] M (0, r, M') := by
  refine zEntry2 (ev := zE0) rfl false (fun h9 => nomatch h9) zp_yX7_errorKind ⟨zr_cat _ _, rfl, trivial⟩ (Nat.le_of_ble_eq_true rfl) ?_
  obtain ⟨o, ho⟩ : ∃ o : Int32 × zM, o = (r, M') := ⟨_, rfl⟩
  rw [← ho] at h
  rw [show ((0, r, M') : Nat × Int32 × zM) = (0, o.1, o.2) by rw [ho]]
  show zV false l RX7 cX7_errorKind 2 (some .int) false 7 0 0 D T zE0 b gr M.2.2.2 (0, o.1, o.2) 0 0 0 [(0, zr b x0), (1, .int x1)] [] M
  unfold fX7_errorKind at h
  refine zV_iload_n (j := 1) dX7_errorKind_0 rfl rfl ?_
  refine zV_aload_n (j := 0) dX7_errorKind_1 rfl rfl ?_
  obtain ⟨g1, h⟩ := zg_of h
  refine zV_getR zf_RX7_38 dX7_errorKind_2 rfl g1 ?_
  obtain ⟨g2, h⟩ := zg_of h
  refine zV_getI zf_RX7_187 dX7_errorKind_5 rfl g2 ?_
  rcases zbx_of h with ⟨r3, M4, q5, h⟩ | ⟨t9, r3, M4, q5, h⟩
  rotate_left
  · exact absurd (congrArg Prod.fst h) (Nat.succ_ne_zero _).symm
  refine zV_callSv (As := [.int x1, .int (zI M (zR M x0 4) 8)]) (rest := []) (vX7_checkIndex l D T b gr x1 (zI M (zR M x0 4) 8) M _ _ q5) zm_yX7_checkIndex zl_RX7_51 zs_yX7_checkIndex rfl rfl (zcs trivial (Nat.le_of_ble_eq_true rfl)) (by decide) (by decide) (by decide) dX7_errorKind_8 ?_
  refine zV_aload_n (j := 0) dX7_errorKind_11 rfl rfl ?_
  obtain ⟨g6, h⟩ := zg_of h
  refine zV_getR zf_RX7_38 dX7_errorKind_12 rfl g6 ?_
  obtain ⟨g7, h⟩ := zg_of h
  refine zV_getR zf_RX7_190 dX7_errorKind_15 rfl g7 ?_
  refine zV_iload_n (j := 1) dX7_errorKind_18 rfl rfl ?_
  obtain ⟨g8, h⟩ := zg_of h
  obtain ⟨g9, h⟩ := zg_of h
  refine zV_iald dX7_errorKind_19 g8 g9 ?_
  exact zV_iret rfl dX7_errorKind_20 (by decide) (by decide) (z_ret0 h)
set_option maxHeartbeats 4000000 in
set_option maxRecDepth 100000 in
theorem vX7_errorAt (l : Launch) (D : va_G) (T : Nat → ClassId) (b : Nat) (gr : Bool) (x0 : Nat) (x1 : Int32) (M : zM) (r : Int32) (M' : zM) (h : fX7_errorAt x0 x1 M = some (0, r, M')) : zMet l D T b gr yX7_errorAt cX7_errorAt 2 (some .int) 7 0 0 [zr b x0, .int x1] M (0, r, M') := by
  refine zEntry2 (ev := zE0) rfl false (fun h9 => nomatch h9) zp_yX7_errorAt ⟨zr_cat _ _, rfl, trivial⟩ (Nat.le_of_ble_eq_true rfl) ?_
  obtain ⟨o, ho⟩ : ∃ o : Int32 × zM, o = (r, M') := ⟨_, rfl⟩
  rw [← ho] at h
  rw [show ((0, r, M') : Nat × Int32 × zM) = (0, o.1, o.2) by rw [ho]]
  show zV false l RX7 cX7_errorAt 2 (some .int) false 7 0 0 D T zE0 b gr M.2.2.2 (0, o.1, o.2) 0 0 0 [(0, zr b x0), (1, .int x1)] [] M
  unfold fX7_errorAt at h
  refine zV_iload_n (j := 1) dX7_errorAt_0 rfl rfl ?_
  refine zV_aload_n (j := 0) dX7_errorAt_1 rfl rfl ?_
  obtain ⟨g1, h⟩ := zg_of h
  refine zV_getR zf_RX7_38 dX7_errorAt_2 rfl g1 ?_
  obtain ⟨g2, h⟩ := zg_of h
  refine zV_getI zf_RX7_187 dX7_errorAt_5 rfl g2 ?_
  rcases zbx_of h with ⟨r3, M4, q5, h⟩ | ⟨t9, r3, M4, q5, h⟩
  rotate_left
  · exact absurd (congrArg Prod.fst h) (Nat.succ_ne_zero _).symm
  refine zV_callSv (As := [.int x1, .int (zI M (zR M x0 4) 8)]) (rest := []) (vX7_checkIndex l D T b gr x1 (zI M (zR M x0 4) 8) M _ _ q5) zm_yX7_checkIndex zl_RX7_51 zs_yX7_checkIndex rfl rfl (zcs trivial (Nat.le_of_ble_eq_true rfl)) (by decide) (by decide) (by decide) dX7_errorAt_8 ?_
  refine zV_aload_n (j := 0) dX7_errorAt_11 rfl rfl ?_
  obtain ⟨g6, h⟩ := zg_of h
  refine zV_getR zf_RX7_38 dX7_errorAt_12 rfl g6 ?_
  obtain ⟨g7, h⟩ := zg_of h
  refine zV_getR zf_RX7_193 dX7_errorAt_15 rfl g7 ?_
  refine zV_iload_n (j := 1) dX7_errorAt_18 rfl rfl ?_
  obtain ⟨g8, h⟩ := zg_of h
  obtain ⟨g9, h⟩ := zg_of h
  refine zV_iald dX7_errorAt_19 g8 g9 ?_
  exact zV_iret rfl dX7_errorAt_20 (by decide) (by decide) (z_ret0 h)
set_option maxHeartbeats 4000000 in
set_option maxRecDepth 100000 in
theorem vX7_normal (l : Launch) (D : va_G) (T : Nat → ClassId) (b : Nat) (gr : Bool) (x0 : Nat) (M : zM) (r : Int32) (M' : zM) (h : fX7_normal x0 M = some (r, M')) : zMet l D T b gr yX7_normal cX7_normal 1 (some .int) 0 0 0 [zr b x0] M (0, r, M') := by
  refine zEntry2 (ev := zE0) rfl false (fun h9 => nomatch h9) zp_yX7_normal ⟨zr_cat _ _, trivial⟩ (Nat.le_of_ble_eq_true rfl) ?_
  obtain ⟨o, ho⟩ : ∃ o : Int32 × zM, o = (r, M') := ⟨_, rfl⟩
  rw [← ho] at h
  rw [show ((0, r, M') : Nat × Int32 × zM) = (0, o.1, o.2) by rw [ho]]
  show zV false l RX7 cX7_normal 1 (some .int) false 0 0 0 D T zE0 b gr M.2.2.2 (0, o.1, o.2) 0 0 0 [(0, zr b x0)] [] M
  unfold fX7_normal at h
  refine zV_aload_n (j := 0) dX7_normal_0 rfl rfl ?_
  obtain ⟨g1, h⟩ := zg_of h
  refine zV_getR zf_RX7_38 dX7_normal_1 rfl g1 ?_
  obtain ⟨g2, h⟩ := zg_of h
  refine zV_getR zf_RX7_133 dX7_normal_4 rfl g2 ?_
  obtain ⟨g3, h⟩ := zg_of h
  refine zV_getI zf_RX7_114 dX7_normal_7 rfl g3 ?_
  exact zV_iret rfl dX7_normal_10 (by decide) (by decide) (z_ret h)
set_option maxHeartbeats 4000000 in
set_option maxRecDepth 100000 in
theorem vX7_isSame (l : Launch) (D : va_G) (T : Nat → ClassId) (b : Nat) (gr : Bool) (x0 : Nat) (M : zM) (r : Int32) (M' : zM) (h : fX7_isSame x0 M = some (r, M')) : zMet l D T b gr yX7_isSame cX7_isSame 1 (some .boolean) 4 0 0 [zr b x0] M (0, r, M') := by
  refine zEntry2 (ev := zE0) rfl false (fun h9 => nomatch h9) zp_yX7_isSame ⟨zr_cat _ _, trivial⟩ (Nat.le_of_ble_eq_true rfl) ?_
  obtain ⟨o, ho⟩ : ∃ o : Int32 × zM, o = (r, M') := ⟨_, rfl⟩
  rw [← ho] at h
  rw [show ((0, r, M') : Nat × Int32 × zM) = (0, o.1, o.2) by rw [ho]]
  show zV false l RX7 cX7_isSame 1 (some .boolean) false 4 0 0 D T zE0 b gr M.2.2.2 (0, o.1, o.2) 0 0 0 [(0, zr b x0)] [] M
  unfold fX7_isSame at h
  refine zV_aload_n (j := 0) dX7_isSame_0 rfl rfl ?_
  obtain ⟨g1, h⟩ := zg_of h
  refine zV_getR zf_RX7_38 dX7_isSame_1 rfl g1 ?_
  obtain ⟨g2, h⟩ := zg_of h
  obtain ⟨r3, M4, q5, h⟩ := zb_of h
  refine zV_callVi (ci := 2) (As := []) (rest := []) (vX2_isNormalFormReadAsWritten l D T b gr (zR M x0 4) M _ _ q5) zm_yX2_isNormalFormReadAsWritten zl_RX7_202 zi_yX2_isNormalFormReadAsWritten ze_yX2_isNormalFormReadAsWritten zcI2 g2 rfl rfl (zcs trivial (Nat.le_of_ble_eq_true rfl)) (by decide) (by decide) (by decide) dX7_isSame_4 ?_
  obtain ⟨g6, h⟩ := zg_of h
  exact zV_zret rfl dX7_isSame_7 (by decide) (by decide) g6 (z_ret h)
