set_option maxHeartbeats 4000000 in
set_option maxRecDepth 100000 in
theorem vX7_empty (l : Launch) (hl : l.stackTraces = false) (D : va_G) (T : Nat → ClassId) (b : Nat) (x0 : Nat) (x1 : Int32) (M : zM) (o : Nat × Int32 × zM) (h : fX7_empty x0 x1 M = some o) : zMeX l D T b yX7_empty cX7_empty 3 (some .int) 122 1 6 [zr b x0, .int x1] M o := by
  refine zEntryX2 zp_yX7_empty ⟨zr_cat _ _, rfl, trivial⟩ (Nat.le_of_ble_eq_true rfl) ?_
  show zV true l RX7 cX7_empty 3 (some .int) false 122 1 6 D T b false M.2.2.2 o 0 0 0 [(0, zr b x0), (1, .int x1)] [] M
  unfold fX7_empty at h
  refine zV_iload_n (j := 1) dX7_empty_0 rfl rfl ?_
  refine zV_bipush (v := 10) dX7_empty_1 (by decide) ?_
  rcases zbx_of h with ⟨r1, M2, q3, h⟩ | ⟨t9, r1, M2, q3, h⟩
  · refine zV_callxSv (As := [.int x1, .int 10]) (rest := []) (vX7_checkIndex l hl D T b x1 10 M _ q3) zm_yX7_checkIndex zl_RX7_51 zs_yX7_checkIndex rfl rfl (zcs trivial (Nat.le_of_ble_eq_true rfl)) (by decide) (by decide) (by decide) dX7_empty_3 (fun h9 => absurd rfl h9) (fun _ => ?_)
    refine zV_aload_n (j := 0) dX7_empty_6 rfl rfl ?_
    obtain ⟨g4, h⟩ := zg_of h
    refine zV_getR zf_RX7_12 dX7_empty_7 rfl g4 ?_
    obtain ⟨g5, h⟩ := zg_of h
    refine zV_getR zf_RX7_62 dX7_empty_10 rfl g5 ?_
    refine zV_iload_n (j := 1) dX7_empty_13 rfl rfl ?_
    obtain ⟨g6, h⟩ := zg_of h
    obtain ⟨g7, h⟩ := zg_of h
    refine zV_aald 110 4 dX7_empty_14 g6 ⟨by decide, by decide⟩ rfl g7 ?_
    obtain ⟨g8, h⟩ := zg_of h
    refine zV_getI zf_RX7_66 dX7_empty_15 rfl g8 ?_
    refine zV_top (fun u9 e10 => ?_)
    replace h := zlet_of h e10
    refine zV_istore_n [(2, .int u9), (0, zr b x0), (1, .int x1)] dX7_empty_18 rfl (by decide) rfl ?_
    refine zV_aload_n (j := 1) dX7_empty_19 rfl rfl ?_
    refine zV_getR zf_RX7_12 dX7_empty_20 rfl g4 ?_
    refine zV_getR zf_RX7_62 dX7_empty_23 rfl g5 ?_
    refine zV_iload_n (j := 2) dX7_empty_26 rfl rfl ?_
    obtain ⟨g11, h⟩ := zg_of h
    refine zV_aald 110 4 dX7_empty_27 g6 ⟨by decide, by decide⟩ rfl g11 ?_
    obtain ⟨r12, M13, q14, h⟩ := zb_of h
    refine zV_callVv (ci := 1) (As := []) (rest := []) (vX1_dropSlots l D T b false (zR M2 (zR M2 (zR M2 x0 0) 0) x1.toNatClampNeg) M2 _ _ q14) zm_yX1_dropSlots zl_RX7_93 zi_yX1_dropSlots ze_yX1_dropSlots zcI1 g8 rfl rfl (zcs trivial (Nat.le_of_ble_eq_true rfl)) (by decide) (by decide) (by decide) dX7_empty_28 ?_
    refine zV_aload_n (j := 1) dX7_empty_31 rfl rfl ?_
    obtain ⟨g15, h⟩ := zg_of h
    refine zV_getR zf_RX7_38 dX7_empty_32 rfl g15 ?_
    obtain ⟨g16, h⟩ := zg_of h
    obtain ⟨r17, M18, q19, h⟩ := zb_of h
    refine zV_callVv (ci := 2) (As := []) (rest := []) (vX2_readText l D T b false (zR M13 x0 4) M13 _ _ q19) zm_yX2_readText zl_RX7_90 zi_yX2_readText ze_yX2_readText zcI2 g16 rfl rfl (zcs trivial (Nat.le_of_ble_eq_true rfl)) (by decide) (by decide) (by decide) dX7_empty_35 ?_
    refine zV_iload_n (j := 0) dX7_empty_38 rfl rfl ?_
    exact zV_iret rfl dX7_empty_39 (by decide) (by decide) (z_retx h)
  · subst h
    exact zV_callxSv (As := [.int x1, .int 10]) (rest := []) (vX7_checkIndex l hl D T b x1 10 M _ q3) zm_yX7_checkIndex zl_RX7_51 zs_yX7_checkIndex rfl rfl (zcs trivial (Nat.le_of_ble_eq_true rfl)) (by decide) (by decide) (by decide) dX7_empty_3 (fun _ => ⟨rfl, rfl⟩) (fun h9 => absurd h9 (Nat.succ_ne_zero _))
set_option maxHeartbeats 4000000 in
set_option maxRecDepth 100000 in
theorem vX7_except_28 {l : Launch} {D : va_G} {T : Nat → ClassId} {b : Nat} {n0 : Nat} (hl : l.stackTraces = false) (M : zM) (o : Nat × Int32 × zM) (h : fX7_except_28 M = some o) : zV true l RX7 cX7_except 4 none false 122 2 12 D T b false n0 o 1 6 28 [] [] M := by
  unfold fX7_except_28 at h
  exact zV_throw (text := "no such set of elements") 2 hl (by decide) (by decide) rfl zk_RX7_55 zxK2 (by decide +kernel) dX7_except_28 dX7_except_31 dX7_except_32 dX7_except_34 dX7_except_37 (by decide) (zcs trivial (Nat.le_of_ble_eq_true rfl)) (by decide) (by decide) (z_retx h)
set_option maxHeartbeats 4000000 in
set_option maxRecDepth 100000 in
theorem vX7_except (l : Launch) (hl : l.stackTraces = false) (D : va_G) (T : Nat → ClassId) (b : Nat) (x0 : Nat) (x1 : Int32) (x2 : Int32) (x3 : Int32) (M : zM) (o : Nat × Int32 × zM) (h : fX7_except x0 x1 x2 x3 M = some o) : zMeX l D T b yX7_except cX7_except 4 none 122 2 12 [zr b x0, .int x1, .int x2, .int x3] M o := by
  refine zEntryX2 zp_yX7_except ⟨zr_cat _ _, rfl, rfl, rfl, trivial⟩ (Nat.le_of_ble_eq_true rfl) ?_
  show zV true l RX7 cX7_except 4 none false 122 2 12 D T b false M.2.2.2 o 0 0 0 [(0, zr b x0), (1, .int x1), (2, .int x2), (3, .int x3)] [] M
  unfold fX7_except at h
  refine zV_iload_n (j := 1) dX7_except_0 rfl rfl ?_
  refine zV_bipush (v := 10) dX7_except_1 (by decide) ?_
  rcases zbx_of h with ⟨r1, M2, q3, h⟩ | ⟨t9, r1, M2, q3, h⟩
  · refine zV_callxSv (As := [.int x1, .int 10]) (rest := []) (vX7_checkIndex l hl D T b x1 10 M _ q3) zm_yX7_checkIndex zl_RX7_51 zs_yX7_checkIndex rfl rfl (zcs trivial (Nat.le_of_ble_eq_true rfl)) (by decide) (by decide) (by decide) dX7_except_3 (fun h9 => absurd rfl h9) (fun _ => ?_)
    refine zV_iload_n (j := 2) dX7_except_6 rfl rfl ?_
    refine zV_if_lt (tgt := 28) dX7_except_7 (by decide) (fun c4 => ?_) (fun c4 => ?_)
    · replace h := z_t c4 h
      refine zV_pk [] rfl ?_
      refine zV_wd 1 6 (by decide) (by decide) ?_
      exact vX7_except_28 hl M2 _ h
    · replace h := z_f c4 h
      refine zV_iload_n (j := 2) dX7_except_10 rfl rfl ?_
      refine zV_sipush (v := 1024) dX7_except_11 (by decide) ?_
      refine zV_icmp_ge (tgt := 28) dX7_except_14 (by decide) (fun c5 => ?_) (fun c5 => ?_)
      · replace h := z_t c5 h
        refine zV_pk [] rfl ?_
        refine zV_wd 1 6 (by decide) (by decide) ?_
        exact vX7_except_28 hl M2 _ h
      · replace h := z_f c5 h
        refine zV_iload_n (j := 3) dX7_except_17 rfl rfl ?_
        refine zV_if_lt (tgt := 28) dX7_except_18 (by decide) (fun c6 => ?_) (fun c6 => ?_)
        · replace h := z_t c6 h
          refine zV_pk [] rfl ?_
          refine zV_wd 1 6 (by decide) (by decide) ?_
          exact vX7_except_28 hl M2 _ h
        · replace h := z_f c6 h
          refine zV_iload_n (j := 3) dX7_except_21 rfl rfl ?_
          refine zV_sipush (v := 1024) dX7_except_22 (by decide) ?_
          refine zV_icmp_lt (tgt := 38) dX7_except_25 (by decide) (fun c7 => ?_) (fun c7 => ?_)
          · replace h := z_t c7 h
            refine zV_aload_n (j := 0) dX7_except_38 rfl rfl ?_
            obtain ⟨g8, h⟩ := zg_of h
            refine zV_getR zf_RX7_12 dX7_except_39 rfl g8 ?_
            obtain ⟨g9, h⟩ := zg_of h
            refine zV_getR zf_RX7_98 dX7_except_42 rfl g9 ?_
            refine zV_iload_n (j := 1) dX7_except_45 rfl rfl ?_
            refine zV_iload_n (j := 2) dX7_except_46 rfl rfl ?_
            obtain ⟨g10, h⟩ := zg_of h
            obtain ⟨g11, h⟩ := zg_of h
            refine zV_iast dX7_except_47 g10 g11 ?_
            refine zV_mem (fun M12 e13 => ?_)
            replace h := zlet_of h e13
            refine zV_aload_n (j := 0) dX7_except_48 rfl rfl ?_
            refine zV_getR zf_RX7_12 dX7_except_49 rfl (zkI e13 g8) ?_
            obtain ⟨g14, h⟩ := zg_of h
            refine zV_getR zf_RX7_101 dX7_except_52 rfl g14 ?_
            refine zV_iload_n (j := 1) dX7_except_55 rfl rfl ?_
            refine zV_iload_n (j := 3) dX7_except_56 rfl rfl ?_
            obtain ⟨g15, h⟩ := zg_of h
            obtain ⟨g16, h⟩ := zg_of h
            refine zV_iast dX7_except_57 g15 g16 ?_
            refine zV_mem (fun M17 e18 => ?_)
            replace h := zlet_of h e18
            refine zV_aload_n (j := 0) dX7_except_58 rfl rfl ?_
            refine zV_getR zf_RX7_38 dX7_except_59 rfl (zkI e18 (zkI e13 g8)) ?_
            obtain ⟨g19, h⟩ := zg_of h
            obtain ⟨r20, M21, q22, h⟩ := zb_of h
            refine zV_callVv (ci := 2) (As := []) (rest := []) (vX2_readText l D T b false (zR M17 x0 4) M17 _ _ q22) zm_yX2_readText zl_RX7_90 zi_yX2_readText ze_yX2_readText zcI2 g19 rfl rfl (zcs trivial (Nat.le_of_ble_eq_true rfl)) (by decide) (by decide) (by decide) dX7_except_62 ?_
            exact zV_vret (x := 0) rfl dX7_except_65 (by decide) (by decide) (z_retx h)
          · replace h := z_f c7 h
            refine zV_pk [] rfl ?_
            refine zV_wd 1 6 (by decide) (by decide) ?_
            exact vX7_except_28 hl M2 _ h
  · subst h
    exact zV_callxSv (As := [.int x1, .int 10]) (rest := []) (vX7_checkIndex l hl D T b x1 10 M _ q3) zm_yX7_checkIndex zl_RX7_51 zs_yX7_checkIndex rfl rfl (zcs trivial (Nat.le_of_ble_eq_true rfl)) (by decide) (by decide) (by decide) dX7_except_3 (fun _ => ⟨rfl, rfl⟩) (fun h9 => absurd h9 (Nat.succ_ne_zero _))
set_option maxHeartbeats 4000000 in
set_option maxRecDepth 100000 in
theorem vX7_omit (l : Launch) (hl : l.stackTraces = false) (D : va_G) (T : Nat → ClassId) (b : Nat) (x0 : Nat) (x1 : Int32) (x2 : Int32) (x3 : Int32) (M : zM) (o : Nat × Int32 × zM) (h : fX7_omit x0 x1 x2 x3 M = some o) : zMeX l D T b yX7_omit cX7_omit 4 none 122 1 6 [zr b x0, .int x1, .int x2, .int x3] M o := by
  refine zEntryX2 zp_yX7_omit ⟨zr_cat _ _, rfl, rfl, rfl, trivial⟩ (Nat.le_of_ble_eq_true rfl) ?_
  show zV true l RX7 cX7_omit 4 none false 122 1 6 D T b false M.2.2.2 o 0 0 0 [(0, zr b x0), (1, .int x1), (2, .int x2), (3, .int x3)] [] M
  unfold fX7_omit at h
  refine zV_iload_n (j := 1) dX7_omit_0 rfl rfl ?_
  refine zV_bipush (v := 10) dX7_omit_1 (by decide) ?_
  rcases zbx_of h with ⟨r1, M2, q3, h⟩ | ⟨t9, r1, M2, q3, h⟩
  · refine zV_callxSv (As := [.int x1, .int 10]) (rest := []) (vX7_checkIndex l hl D T b x1 10 M _ q3) zm_yX7_checkIndex zl_RX7_51 zs_yX7_checkIndex rfl rfl (zcs trivial (Nat.le_of_ble_eq_true rfl)) (by decide) (by decide) (by decide) dX7_omit_3 (fun h9 => absurd rfl h9) (fun _ => ?_)
    refine zV_aload_n (j := 0) dX7_omit_6 rfl rfl ?_
    obtain ⟨g4, h⟩ := zg_of h
    refine zV_getR zf_RX7_12 dX7_omit_7 rfl g4 ?_
    obtain ⟨g5, h⟩ := zg_of h
    refine zV_getR zf_RX7_104 dX7_omit_10 rfl g5 ?_
    refine zV_iload_n (j := 1) dX7_omit_13 rfl rfl ?_
    refine zV_iload_n (j := 2) dX7_omit_14 rfl rfl ?_
    obtain ⟨g6, h⟩ := zg_of h
    obtain ⟨g7, h⟩ := zg_of h
    obtain ⟨g8, h⟩ := zg_of h
    refine zV_zast dX7_omit_15 g6 g7 g8 ?_
    refine zV_mem (fun M9 e10 => ?_)
    replace h := zlet_of h e10
    refine zV_aload_n (j := 0) dX7_omit_16 rfl rfl ?_
    refine zV_getR zf_RX7_12 dX7_omit_17 rfl (zkI e10 g4) ?_
    obtain ⟨g11, h⟩ := zg_of h
    refine zV_getR zf_RX7_108 dX7_omit_20 rfl g11 ?_
    refine zV_iload_n (j := 1) dX7_omit_23 rfl rfl ?_
    refine zV_iload_n (j := 3) dX7_omit_24 rfl rfl ?_
    obtain ⟨g12, h⟩ := zg_of h
    obtain ⟨g13, h⟩ := zg_of h
    obtain ⟨g14, h⟩ := zg_of h
    refine zV_zast dX7_omit_25 g12 g13 g14 ?_
    refine zV_mem (fun M15 e16 => ?_)
    replace h := zlet_of h e16
    refine zV_aload_n (j := 0) dX7_omit_26 rfl rfl ?_
    refine zV_getR zf_RX7_38 dX7_omit_27 rfl (zkI e16 (zkI e10 g4)) ?_
    obtain ⟨g17, h⟩ := zg_of h
    obtain ⟨r18, M19, q20, h⟩ := zb_of h
    refine zV_callVv (ci := 2) (As := []) (rest := []) (vX2_readText l D T b false (zR M15 x0 4) M15 _ _ q20) zm_yX2_readText zl_RX7_90 zi_yX2_readText ze_yX2_readText zcI2 g17 rfl rfl (zcs trivial (Nat.le_of_ble_eq_true rfl)) (by decide) (by decide) (by decide) dX7_omit_30 ?_
    exact zV_vret (x := 0) rfl dX7_omit_33 (by decide) (by decide) (z_retx h)
  · subst h
    exact zV_callxSv (As := [.int x1, .int 10]) (rest := []) (vX7_checkIndex l hl D T b x1 10 M _ q3) zm_yX7_checkIndex zl_RX7_51 zs_yX7_checkIndex rfl rfl (zcs trivial (Nat.le_of_ble_eq_true rfl)) (by decide) (by decide) (by decide) dX7_omit_3 (fun _ => ⟨rfl, rfl⟩) (fun h9 => absurd h9 (Nat.succ_ne_zero _))
set_option maxHeartbeats 4000000 in
set_option maxRecDepth 100000 in
theorem vX7_isValueOf (l : Launch) (D : va_G) (T : Nat → ClassId) (b : Nat) (gr : Bool) (x0 : Int32) (x1 : Int32) (M : zM) (r : Int32) (M' : zM) (h : fX7_isValueOf x0 x1 M = some (r, M')) : zMet l D T b gr yX7_isValueOf cX7_isValueOf 2 (some .boolean) 0 0 0 [.int x0, .int x1] M (0, r, M') := by
  refine zEntry2 false (fun h9 => nomatch h9) zp_yX7_isValueOf ⟨rfl, rfl, trivial⟩ (Nat.le_of_ble_eq_true rfl) ?_
  obtain ⟨o, ho⟩ : ∃ o : Int32 × zM, o = (r, M') := ⟨_, rfl⟩
  rw [← ho] at h
  rw [show ((0, r, M') : Nat × Int32 × zM) = (0, o.1, o.2) by rw [ho]]
  show zV false l RX7 cX7_isValueOf 2 (some .boolean) false 0 0 0 D T b gr M.2.2.2 (0, o.1, o.2) 0 0 0 [(0, .int x0), (1, .int x1)] [] M
  unfold fX7_isValueOf at h
  refine zV_iload_n (j := 0) dX7_isValueOf_0 rfl rfl ?_
  by_cases c1 : x0 = 0
  · replace h := z_t c1 h
    refine zV_tin (v := 0) (tgt := 48) dX7_isValueOf_1 c1 (by decide) (by decide) rfl (by decide) ?_
    refine zV_iload_n (j := 1) dX7_isValueOf_48 rfl rfl ?_
    refine zV_if_lt (tgt := 62) dX7_isValueOf_49 (by decide) (fun c2 => ?_) (fun c2 => ?_)
    · replace h := z_t c2 h
      refine zV_iconst (v := 0) dX7_isValueOf_62 (by decide) ?_
      exact zV_zret rfl dX7_isValueOf_63 (by decide) (by decide) (Or.inl rfl) (z_ret h)
    · replace h := z_f c2 h
      refine zV_iload_n (j := 1) dX7_isValueOf_52 rfl rfl ?_
      refine zV_bipush (v := 10) dX7_isValueOf_53 (by decide) ?_
      refine zV_icmp_ge (tgt := 62) dX7_isValueOf_55 (by decide) (fun c3 => ?_) (fun c3 => ?_)
      · replace h := z_t c3 h
        refine zV_iconst (v := 0) dX7_isValueOf_62 (by decide) ?_
        exact zV_zret rfl dX7_isValueOf_63 (by decide) (by decide) (Or.inl rfl) (z_ret h)
      · replace h := z_f c3 h
        refine zV_iconst (v := 1) dX7_isValueOf_58 (by decide) ?_
        refine zV_goto (tgt := 63) dX7_isValueOf_59 (by decide) ?_
        exact zV_zret rfl dX7_isValueOf_63 (by decide) (by decide) (Or.inr rfl) (z_ret h)
  · replace h := z_f c1 h
    by_cases c4 : x0 = 1
    · replace h := z_t c4 h
      refine zV_tin (v := 1) (tgt := 48) dX7_isValueOf_1 c4 (by decide) (by decide) rfl (by decide) ?_
      refine zV_iload_n (j := 1) dX7_isValueOf_48 rfl rfl ?_
      refine zV_if_lt (tgt := 62) dX7_isValueOf_49 (by decide) (fun c5 => ?_) (fun c5 => ?_)
      · replace h := z_t c5 h
        refine zV_iconst (v := 0) dX7_isValueOf_62 (by decide) ?_
        exact zV_zret rfl dX7_isValueOf_63 (by decide) (by decide) (Or.inl rfl) (z_ret h)
      · replace h := z_f c5 h
        refine zV_iload_n (j := 1) dX7_isValueOf_52 rfl rfl ?_
        refine zV_bipush (v := 10) dX7_isValueOf_53 (by decide) ?_
        refine zV_icmp_ge (tgt := 62) dX7_isValueOf_55 (by decide) (fun c6 => ?_) (fun c6 => ?_)
        · replace h := z_t c6 h
          refine zV_iconst (v := 0) dX7_isValueOf_62 (by decide) ?_
          exact zV_zret rfl dX7_isValueOf_63 (by decide) (by decide) (Or.inl rfl) (z_ret h)
        · replace h := z_f c6 h
          refine zV_iconst (v := 1) dX7_isValueOf_58 (by decide) ?_
          refine zV_goto (tgt := 63) dX7_isValueOf_59 (by decide) ?_
          exact zV_zret rfl dX7_isValueOf_63 (by decide) (by decide) (Or.inr rfl) (z_ret h)
    · replace h := z_f c4 h
      by_cases c7 : x0 = 2
      · replace h := z_t c7 h
        refine zV_tin (v := 2) (tgt := 113) dX7_isValueOf_1 c7 (by decide) (by decide) rfl (by decide) ?_
        refine zV_iconst (v := 1) dX7_isValueOf_113 (by decide) ?_
        exact zV_zret rfl dX7_isValueOf_114 (by decide) (by decide) (Or.inr rfl) (z_ret h)
      · replace h := z_f c7 h
        by_cases c8 : x0 = 3
        · replace h := z_t c8 h
          refine zV_tin (v := 3) (tgt := 113) dX7_isValueOf_1 c8 (by decide) (by decide) rfl (by decide) ?_
          refine zV_iconst (v := 1) dX7_isValueOf_113 (by decide) ?_
          exact zV_zret rfl dX7_isValueOf_114 (by decide) (by decide) (Or.inr rfl) (z_ret h)
        · replace h := z_f c8 h
          by_cases c9 : x0 = 4
          · replace h := z_t c9 h
            refine zV_tin (v := 4) (tgt := 64) dX7_isValueOf_1 c9 (by decide) (by decide) rfl (by decide) ?_
            refine zV_iload_n (j := 1) dX7_isValueOf_64 rfl rfl ?_
            refine zV_bipush (v := 32) dX7_isValueOf_65 (by decide) ?_
            refine zV_icmp_lt (tgt := 80) dX7_isValueOf_67 (by decide) (fun c10 => ?_) (fun c10 => ?_)
            · replace h := z_t c10 h
              refine zV_iconst (v := 0) dX7_isValueOf_80 (by decide) ?_
              exact zV_zret rfl dX7_isValueOf_81 (by decide) (by decide) (Or.inl rfl) (z_ret h)
            · replace h := z_f c10 h
              refine zV_iload_n (j := 1) dX7_isValueOf_70 rfl rfl ?_
              refine zV_bipush (v := 126) dX7_isValueOf_71 (by decide) ?_
              refine zV_icmp_gt (tgt := 80) dX7_isValueOf_73 (by decide) (fun c11 => ?_) (fun c11 => ?_)
              · replace h := z_t c11 h
                refine zV_iconst (v := 0) dX7_isValueOf_80 (by decide) ?_
                exact zV_zret rfl dX7_isValueOf_81 (by decide) (by decide) (Or.inl rfl) (z_ret h)
              · replace h := z_f c11 h
                refine zV_iconst (v := 1) dX7_isValueOf_76 (by decide) ?_
                refine zV_goto (tgt := 81) dX7_isValueOf_77 (by decide) ?_
                exact zV_zret rfl dX7_isValueOf_81 (by decide) (by decide) (Or.inr rfl) (z_ret h)
          · replace h := z_f c9 h
            by_cases c12 : x0 = 5
            · replace h := z_t c12 h
              refine zV_tin (v := 5) (tgt := 113) dX7_isValueOf_1 c12 (by decide) (by decide) rfl (by decide) ?_
              refine zV_iconst (v := 1) dX7_isValueOf_113 (by decide) ?_
              exact zV_zret rfl dX7_isValueOf_114 (by decide) (by decide) (Or.inr rfl) (z_ret h)
            · replace h := z_f c12 h
              by_cases c13 : x0 = 6
              · replace h := z_t c13 h
                refine zV_tin (v := 6) (tgt := 82) dX7_isValueOf_1 c13 (by decide) (by decide) rfl (by decide) ?_
                refine zV_iload_n (j := 1) dX7_isValueOf_82 rfl rfl ?_
                refine zV_if_lt (tgt := 96) dX7_isValueOf_83 (by decide) (fun c14 => ?_) (fun c14 => ?_)
                · replace h := z_t c14 h
                  refine zV_iconst (v := 0) dX7_isValueOf_96 (by decide) ?_
                  exact zV_zret rfl dX7_isValueOf_97 (by decide) (by decide) (Or.inl rfl) (z_ret h)
                · replace h := z_f c14 h
                  refine zV_iload_n (j := 1) dX7_isValueOf_86 rfl rfl ?_
                  refine zV_bipush (v := 6) dX7_isValueOf_87 (by decide) ?_
                  refine zV_icmp_ge (tgt := 96) dX7_isValueOf_89 (by decide) (fun c15 => ?_) (fun c15 => ?_)
                  · replace h := z_t c15 h
                    refine zV_iconst (v := 0) dX7_isValueOf_96 (by decide) ?_
                    exact zV_zret rfl dX7_isValueOf_97 (by decide) (by decide) (Or.inl rfl) (z_ret h)
                  · replace h := z_f c15 h
                    refine zV_iconst (v := 1) dX7_isValueOf_92 (by decide) ?_
                    refine zV_goto (tgt := 97) dX7_isValueOf_93 (by decide) ?_
                    exact zV_zret rfl dX7_isValueOf_97 (by decide) (by decide) (Or.inr rfl) (z_ret h)
              · replace h := z_f c13 h
                by_cases c16 : x0 = 7
                · replace h := z_t c16 h
                  refine zV_tin (v := 7) (tgt := 98) dX7_isValueOf_1 c16 (by decide) (by decide) rfl (by decide) ?_
                  refine zV_iload_n (j := 1) dX7_isValueOf_98 rfl rfl ?_
                  refine zV_if_lt (tgt := 111) dX7_isValueOf_99 (by decide) (fun c17 => ?_) (fun c17 => ?_)
                  · replace h := z_t c17 h
                    refine zV_iconst (v := 0) dX7_isValueOf_111 (by decide) ?_
                    exact zV_zret rfl dX7_isValueOf_112 (by decide) (by decide) (Or.inl rfl) (z_ret h)
                  · replace h := z_f c17 h
                    refine zV_iload_n (j := 1) dX7_isValueOf_102 rfl rfl ?_
                    refine zV_iconst (v := 4) dX7_isValueOf_103 (by decide) ?_
                    refine zV_icmp_ge (tgt := 111) dX7_isValueOf_104 (by decide) (fun c18 => ?_) (fun c18 => ?_)
                    · replace h := z_t c18 h
                      refine zV_iconst (v := 0) dX7_isValueOf_111 (by decide) ?_
                      exact zV_zret rfl dX7_isValueOf_112 (by decide) (by decide) (Or.inl rfl) (z_ret h)
                    · replace h := z_f c18 h
                      refine zV_iconst (v := 1) dX7_isValueOf_107 (by decide) ?_
                      refine zV_goto (tgt := 112) dX7_isValueOf_108 (by decide) ?_
                      exact zV_zret rfl dX7_isValueOf_112 (by decide) (by decide) (Or.inr rfl) (z_ret h)
                · replace h := z_f c16 h
                  refine zV_tout (tgt := 113) dX7_isValueOf_1 (z_out_0_7 c1 c4 c7 c8 c9 c12 c13 c16) (by decide) ?_
                  refine zV_iconst (v := 1) dX7_isValueOf_113 (by decide) ?_
                  exact zV_zret rfl dX7_isValueOf_114 (by decide) (by decide) (Or.inr rfl) (z_ret h)
set_option maxHeartbeats 4000000 in
set_option maxRecDepth 100000 in
theorem vX7_checkToken_18 {l : Launch} {D : va_G} {T : Nat → ClassId} {b : Nat} {n0 : Nat} (hl : l.stackTraces = false) (M : zM) (o : Nat × Int32 × zM) (h : fX7_checkToken_18 M = some o) : zV true l RX7 cX7_checkToken 2 none false 6 1 6 D T b false n0 o 0 0 18 [] [] M := by
  unfold fX7_checkToken_18 at h
  exact zV_throw (text := "no such token") 2 hl (by decide) (by decide) rfl zk_RX7_55 zxK2 (by decide +kernel) dX7_checkToken_18 dX7_checkToken_21 dX7_checkToken_22 dX7_checkToken_24 dX7_checkToken_27 (by decide) (zcs trivial (Nat.le_of_ble_eq_true rfl)) (by decide) (by decide) (z_retx h)
set_option maxHeartbeats 4000000 in
set_option maxRecDepth 100000 in
theorem vX7_checkToken (l : Launch) (hl : l.stackTraces = false) (D : va_G) (T : Nat → ClassId) (b : Nat) (x0 : Int32) (x1 : Int32) (M : zM) (o : Nat × Int32 × zM) (h : fX7_checkToken x0 x1 M = some o) : zMeX l D T b yX7_checkToken cX7_checkToken 2 none 6 1 6 [.int x0, .int x1] M o := by
  refine zEntryX2 zp_yX7_checkToken ⟨rfl, rfl, trivial⟩ (Nat.le_of_ble_eq_true rfl) ?_
  show zV true l RX7 cX7_checkToken 2 none false 6 1 6 D T b false M.2.2.2 o 0 0 0 [(0, .int x0), (1, .int x1)] [] M
  unfold fX7_checkToken at h
  refine zV_iload_n (j := 0) dX7_checkToken_0 rfl rfl ?_
  refine zV_if_lt (tgt := 18) dX7_checkToken_1 (by decide) (fun c1 => ?_) (fun c1 => ?_)
  · replace h := z_t c1 h
    refine zV_pk [] rfl ?_
    refine zV_wd 0 0 (by decide) (by decide) ?_
    exact vX7_checkToken_18 hl M _ h
  · replace h := z_f c1 h
    refine zV_iload_n (j := 0) dX7_checkToken_4 rfl rfl ?_
    refine zV_bipush (v := 8) dX7_checkToken_5 (by decide) ?_
    refine zV_icmp_gt (tgt := 18) dX7_checkToken_7 (by decide) (fun c2 => ?_) (fun c2 => ?_)
    · replace h := z_t c2 h
      refine zV_pk [] rfl ?_
      refine zV_wd 0 0 (by decide) (by decide) ?_
      exact vX7_checkToken_18 hl M _ h
    · replace h := z_f c2 h
      refine zV_iload_n (j := 0) dX7_checkToken_10 rfl rfl ?_
      refine zV_iload_n (j := 1) dX7_checkToken_11 rfl rfl ?_
      obtain ⟨r3, M4, q5, h⟩ := zb_of h
      refine zV_callSi (As := [.int x0, .int x1]) (rest := []) (vX7_isValueOf l D T b false x0 x1 M _ _ q5) zm_yX7_isValueOf zl_RX7_218 zs_yX7_isValueOf rfl rfl (zcs trivial (Nat.le_of_ble_eq_true rfl)) (by decide) (by decide) (by decide) dX7_checkToken_12 ?_
      refine zV_if_ne (tgt := 28) dX7_checkToken_15 (by decide) (fun c6 => ?_) (fun c6 => ?_)
      · replace h := z_f c6 h
        exact zV_vret (x := 0) rfl dX7_checkToken_28 (by decide) (by decide) (z_retx h)
      · replace h := z_t c6 h
        refine zV_pk [] rfl ?_
        refine zV_wd 0 0 (by decide) (by decide) ?_
        exact vX7_checkToken_18 hl M4 _ h
set_option maxHeartbeats 4000000 in
set_option maxRecDepth 100000 in
theorem vX7_entity (l : Launch) (hl : l.stackTraces = false) (D : va_G) (T : Nat → ClassId) (b : Nat) (x0 : Nat) (x1 : Int32) (x2 : Int32) (x3 : Int32) (M : zM) (o : Nat × Int32 × zM) (h : fX7_entity x0 x1 x2 x3 M = some o) : zMeX l D T b yX7_entity cX7_entity 5 (some .int) 122 3 18 [zr b x0, .int x1, .int x2, .int x3] M o := by
  refine zEntryX2 zp_yX7_entity ⟨zr_cat _ _, rfl, rfl, rfl, trivial⟩ (Nat.le_of_ble_eq_true rfl) ?_
  show zV true l RX7 cX7_entity 5 (some .int) false 122 3 18 D T b false M.2.2.2 o 0 0 0 [(0, zr b x0), (1, .int x1), (2, .int x2), (3, .int x3)] [] M
  unfold fX7_entity at h
  refine zV_iload_n (j := 1) dX7_entity_0 rfl rfl ?_
  refine zV_bipush (v := 6) dX7_entity_1 (by decide) ?_
  rcases zbx_of h with ⟨r1, M2, q3, h⟩ | ⟨t9, r1, M2, q3, h⟩
  · refine zV_callxSv (As := [.int x1, .int 6]) (rest := []) (vX7_checkIndex l hl D T b x1 6 M _ q3) zm_yX7_checkIndex zl_RX7_51 zs_yX7_checkIndex rfl rfl (zcs trivial (Nat.le_of_ble_eq_true rfl)) (by decide) (by decide) (by decide) dX7_entity_3 (fun h9 => absurd rfl h9) (fun _ => ?_)
    refine zV_iload_n (j := 2) dX7_entity_6 rfl rfl ?_
    refine zV_iload_n (j := 3) dX7_entity_7 rfl rfl ?_
    rcases zbx_of h with ⟨r4, M5, q6, h⟩ | ⟨t9, r4, M5, q6, h⟩
    · refine zV_callxSv (As := [.int x2, .int x3]) (rest := []) (vX7_checkToken l hl D T b x2 x3 M2 _ q6) zm_yX7_checkToken zl_RX7_111 zs_yX7_checkToken rfl rfl (zcs trivial (Nat.le_of_ble_eq_true rfl)) (by decide) (by decide) (by decide) dX7_entity_8 (fun h9 => absurd rfl h9) (fun _ => ?_)
      refine zV_aload_n (j := 0) dX7_entity_11 rfl rfl ?_
      obtain ⟨g7, h⟩ := zg_of h
      refine zV_getR zf_RX7_25 dX7_entity_12 rfl g7 ?_
      refine zV_iload_n (j := 1) dX7_entity_15 rfl rfl ?_
      obtain ⟨g8, h⟩ := zg_of h
      obtain ⟨g9, h⟩ := zg_of h
      refine zV_aald 111 5 dX7_entity_16 g8 ⟨by decide, by decide⟩ rfl g9 ?_
      refine zV_topr (fun u10 e11 => ?_)
      replace h := zlet_of h e11
      refine zV_astore [(4, zr b u10), (0, zr b x0), (1, .int x1), (2, .int x2), (3, .int x3)] dX7_entity_17 (by decide) rfl ?_
      refine zV_aload (j := 0) dX7_entity_19 rfl ?_
      obtain ⟨g12, h⟩ := zg_of h
      refine zV_getI zf_RX7_114 dX7_entity_21 rfl g12 ?_
      refine zV_bipush (v := 6) dX7_entity_24 (by decide) ?_
      refine zV_icmp_lt (tgt := 39) dX7_entity_26 (by decide) (fun c13 => ?_) (fun c13 => ?_)
      · replace h := z_t c13 h
        refine zV_aload (j := 0) dX7_entity_39 rfl ?_
        refine zV_aload (j := 0) dX7_entity_41 rfl ?_
        refine zV_getI zf_RX7_114 dX7_entity_43 rfl g12 ?_
        refine zV_iload_n (j := 3) dX7_entity_46 rfl rfl ?_
        refine zV_iload_n (j := 4) dX7_entity_47 rfl rfl ?_
        obtain ⟨r14, M15, q16, h⟩ := zb_of h
        refine zV_callVv (ci := 3) (As := [.int (zI M5 u10 2), .int x2, .int x3]) (rest := []) (vX3_putToken l D T b false u10 (zI M5 u10 2) x2 x3 M5 _ _ q16) zm_yX3_putToken zl_RX7_119 zi_yX3_putToken ze_yX3_putToken zcI3 g12 rfl rfl (zcs trivial (Nat.le_of_ble_eq_true rfl)) (by decide) (by decide) (by decide) dX7_entity_48 ?_
        refine zV_aload_n (j := 1) dX7_entity_51 rfl rfl ?_
        obtain ⟨g17, h⟩ := zg_of h
        refine zV_getR zf_RX7_38 dX7_entity_52 rfl g17 ?_
        obtain ⟨g18, h⟩ := zg_of h
        obtain ⟨r19, M20, q21, h⟩ := zb_of h
        refine zV_callVv (ci := 2) (As := []) (rest := []) (vX2_readText l D T b false (zR M15 x0 4) M15 _ _ q21) zm_yX2_readText zl_RX7_90 zi_yX2_readText ze_yX2_readText zcI2 g18 rfl rfl (zcs trivial (Nat.le_of_ble_eq_true rfl)) (by decide) (by decide) (by decide) dX7_entity_55 ?_
        refine zV_aload (j := 0) dX7_entity_58 rfl ?_
        obtain ⟨g22, h⟩ := zg_of h
        refine zV_getI zf_RX7_114 dX7_entity_60 rfl g22 ?_
        exact zV_iret rfl dX7_entity_63 (by decide) (by decide) (z_retx h)
      · replace h := z_f c13 h
        exact zV_throw (text := "the entity has all its tokens") 3 hl (by decide) (by decide) rfl zk_RX7_72 zxK3 (by decide +kernel) dX7_entity_29 dX7_entity_32 dX7_entity_33 dX7_entity_35 dX7_entity_38 (by decide) (zcs trivial (Nat.le_of_ble_eq_true rfl)) (by decide) (by decide) (z_retx h)
    · subst h
      exact zV_callxSv (As := [.int x2, .int x3]) (rest := []) (vX7_checkToken l hl D T b x2 x3 M2 _ q6) zm_yX7_checkToken zl_RX7_111 zs_yX7_checkToken rfl rfl (zcs trivial (Nat.le_of_ble_eq_true rfl)) (by decide) (by decide) (by decide) dX7_entity_8 (fun _ => ⟨rfl, rfl⟩) (fun h9 => absurd h9 (Nat.succ_ne_zero _))
  · subst h
    exact zV_callxSv (As := [.int x1, .int 6]) (rest := []) (vX7_checkIndex l hl D T b x1 6 M _ q3) zm_yX7_checkIndex zl_RX7_51 zs_yX7_checkIndex rfl rfl (zcs trivial (Nat.le_of_ble_eq_true rfl)) (by decide) (by decide) (by decide) dX7_entity_3 (fun _ => ⟨rfl, rfl⟩) (fun h9 => absurd h9 (Nat.succ_ne_zero _))
set_option maxHeartbeats 4000000 in
set_option maxRecDepth 100000 in
theorem vX7_clear (l : Launch) (hl : l.stackTraces = false) (D : va_G) (T : Nat → ClassId) (b : Nat) (x0 : Nat) (x1 : Int32) (M : zM) (o : Nat × Int32 × zM) (h : fX7_clear x0 x1 M = some o) : zMeX l D T b yX7_clear cX7_clear 3 (some .int) 122 1 6 [zr b x0, .int x1] M o := by
  refine zEntryX2 zp_yX7_clear ⟨zr_cat _ _, rfl, trivial⟩ (Nat.le_of_ble_eq_true rfl) ?_
  show zV true l RX7 cX7_clear 3 (some .int) false 122 1 6 D T b false M.2.2.2 o 0 0 0 [(0, zr b x0), (1, .int x1)] [] M
  unfold fX7_clear at h
  refine zV_iload_n (j := 1) dX7_clear_0 rfl rfl ?_
  refine zV_bipush (v := 6) dX7_clear_1 (by decide) ?_
  rcases zbx_of h with ⟨r1, M2, q3, h⟩ | ⟨t9, r1, M2, q3, h⟩
  · refine zV_callxSv (As := [.int x1, .int 6]) (rest := []) (vX7_checkIndex l hl D T b x1 6 M _ q3) zm_yX7_checkIndex zl_RX7_51 zs_yX7_checkIndex rfl rfl (zcs trivial (Nat.le_of_ble_eq_true rfl)) (by decide) (by decide) (by decide) dX7_clear_3 (fun h9 => absurd rfl h9) (fun _ => ?_)
    refine zV_aload_n (j := 0) dX7_clear_6 rfl rfl ?_
    obtain ⟨g4, h⟩ := zg_of h
    refine zV_getR zf_RX7_25 dX7_clear_7 rfl g4 ?_
    refine zV_iload_n (j := 1) dX7_clear_10 rfl rfl ?_
    obtain ⟨g5, h⟩ := zg_of h
    obtain ⟨g6, h⟩ := zg_of h
    refine zV_aald 111 5 dX7_clear_11 g5 ⟨by decide, by decide⟩ rfl g6 ?_
    obtain ⟨g7, h⟩ := zg_of h
    refine zV_getI zf_RX7_114 dX7_clear_12 rfl g7 ?_
    refine zV_top (fun u8 e9 => ?_)
    replace h := zlet_of h e9
    refine zV_istore_n [(2, .int u8), (0, zr b x0), (1, .int x1)] dX7_clear_15 rfl (by decide) rfl ?_
    refine zV_aload_n (j := 1) dX7_clear_16 rfl rfl ?_
    refine zV_getR zf_RX7_25 dX7_clear_17 rfl g4 ?_
    refine zV_iload_n (j := 2) dX7_clear_20 rfl rfl ?_
    obtain ⟨g10, h⟩ := zg_of h
    refine zV_aald 111 5 dX7_clear_21 g5 ⟨by decide, by decide⟩ rfl g10 ?_
    refine zV_iconst (v := 0) dX7_clear_22 (by decide) ?_
    refine zV_putI zf_RX7_114 dX7_clear_23 rfl rfl g7 ?_
    refine zV_mem (fun M11 e12 => ?_)
    replace h := zlet_of h e12
    refine zV_aload_n (j := 1) dX7_clear_26 rfl rfl ?_
    refine zV_getR zf_RX7_38 dX7_clear_27 rfl (zkI e12 g4) ?_
    obtain ⟨g13, h⟩ := zg_of h
    obtain ⟨r14, M15, q16, h⟩ := zb_of h
    refine zV_callVv (ci := 2) (As := []) (rest := []) (vX2_readText l D T b false (zR M11 x0 4) M11 _ _ q16) zm_yX2_readText zl_RX7_90 zi_yX2_readText ze_yX2_readText zcI2 g13 rfl rfl (zcs trivial (Nat.le_of_ble_eq_true rfl)) (by decide) (by decide) (by decide) dX7_clear_30 ?_
    refine zV_iload_n (j := 0) dX7_clear_33 rfl rfl ?_
    exact zV_iret rfl dX7_clear_34 (by decide) (by decide) (z_retx h)
  · subst h
    exact zV_callxSv (As := [.int x1, .int 6]) (rest := []) (vX7_checkIndex l hl D T b x1 6 M _ q3) zm_yX7_checkIndex zl_RX7_51 zs_yX7_checkIndex rfl rfl (zcs trivial (Nat.le_of_ble_eq_true rfl)) (by decide) (by decide) (by decide) dX7_clear_3 (fun _ => ⟨rfl, rfl⟩) (fun h9 => absurd h9 (Nat.succ_ne_zero _))
set_option maxHeartbeats 4000000 in
set_option maxRecDepth 100000 in
theorem vX7_flip_14 {l : Launch} {D : va_G} {T : Nat → ClassId} {b : Nat} {n0 : Nat} (hl : l.stackTraces = false) (M : zM) (o : Nat × Int32 × zM) (h : fX7_flip_14 M = some o) : zV true l RX7 cX7_flip 4 (some .int) false 122 2 12 D T b false n0 o 1 6 14 [] [] M := by
  unfold fX7_flip_14 at h
  exact zV_throw (text := "a switch cannot be that") 2 hl (by decide) (by decide) rfl zk_RX7_55 zxK2 (by decide +kernel) dX7_flip_14 dX7_flip_17 dX7_flip_18 dX7_flip_20 dX7_flip_23 (by decide) (zcs trivial (Nat.le_of_ble_eq_true rfl)) (by decide) (by decide) (z_retx h)
set_option maxHeartbeats 4000000 in
set_option maxRecDepth 100000 in
theorem vX7_flip (l : Launch) (hl : l.stackTraces = false) (D : va_G) (T : Nat → ClassId) (b : Nat) (x0 : Nat) (x1 : Int32) (x2 : Int32) (M : zM) (o : Nat × Int32 × zM) (h : fX7_flip x0 x1 x2 M = some o) : zMeX l D T b yX7_flip cX7_flip 4 (some .int) 122 2 12 [zr b x0, .int x1, .int x2] M o := by
  refine zEntryX2 zp_yX7_flip ⟨zr_cat _ _, rfl, rfl, trivial⟩ (Nat.le_of_ble_eq_true rfl) ?_
  show zV true l RX7 cX7_flip 4 (some .int) false 122 2 12 D T b false M.2.2.2 o 0 0 0 [(0, zr b x0), (1, .int x1), (2, .int x2)] [] M
  unfold fX7_flip at h
  refine zV_iload_n (j := 1) dX7_flip_0 rfl rfl ?_
  refine zV_iconst (v := 4) dX7_flip_1 (by decide) ?_
  rcases zbx_of h with ⟨r1, M2, q3, h⟩ | ⟨t9, r1, M2, q3, h⟩
  · refine zV_callxSv (As := [.int x1, .int 4]) (rest := []) (vX7_checkIndex l hl D T b x1 4 M _ q3) zm_yX7_checkIndex zl_RX7_51 zs_yX7_checkIndex rfl rfl (zcs trivial (Nat.le_of_ble_eq_true rfl)) (by decide) (by decide) (by decide) dX7_flip_2 (fun h9 => absurd rfl h9) (fun _ => ?_)
    refine zV_iload_n (j := 2) dX7_flip_5 rfl rfl ?_
    refine zV_if_lt (tgt := 14) dX7_flip_6 (by decide) (fun c4 => ?_) (fun c4 => ?_)
    · replace h := z_t c4 h
      refine zV_pk [] rfl ?_
      refine zV_wd 1 6 (by decide) (by decide) ?_
      exact vX7_flip_14 hl M2 _ h
    · replace h := z_f c4 h
      refine zV_iload_n (j := 2) dX7_flip_9 rfl rfl ?_
      refine zV_iconst (v := 2) dX7_flip_10 (by decide) ?_
      refine zV_icmp_le (tgt := 24) dX7_flip_11 (by decide) (fun c5 => ?_) (fun c5 => ?_)
      · replace h := z_t c5 h
        refine zV_aload_n (j := 0) dX7_flip_24 rfl rfl ?_
        obtain ⟨g6, h⟩ := zg_of h
        refine zV_getR zf_RX7_29 dX7_flip_25 rfl g6 ?_
        refine zV_iload_n (j := 1) dX7_flip_28 rfl rfl ?_
        obtain ⟨g7, h⟩ := zg_of h
        obtain ⟨g8, h⟩ := zg_of h
        refine zV_iald dX7_flip_29 g7 g8 ?_
        refine zV_top (fun u9 e10 => ?_)
        replace h := zlet_of h e10
        refine zV_istore_n [(3, .int u9), (0, zr b x0), (1, .int x1), (2, .int x2)] dX7_flip_30 rfl (by decide) rfl ?_
        refine zV_aload_n (j := 1) dX7_flip_31 rfl rfl ?_
        refine zV_getR zf_RX7_29 dX7_flip_32 rfl g6 ?_
        refine zV_iload_n (j := 2) dX7_flip_35 rfl rfl ?_
        refine zV_iload_n (j := 3) dX7_flip_36 rfl rfl ?_
        obtain ⟨g11, h⟩ := zg_of h
        refine zV_iast dX7_flip_37 g7 g11 ?_
        refine zV_mem (fun M12 e13 => ?_)
        replace h := zlet_of h e13
        refine zV_aload_n (j := 1) dX7_flip_38 rfl rfl ?_
        refine zV_getR zf_RX7_38 dX7_flip_39 rfl (zkI e13 g6) ?_
        obtain ⟨g14, h⟩ := zg_of h
        obtain ⟨r15, M16, q17, h⟩ := zb_of h
        refine zV_callVv (ci := 2) (As := []) (rest := []) (vX2_readText l D T b false (zR M12 x0 4) M12 _ _ q17) zm_yX2_readText zl_RX7_90 zi_yX2_readText ze_yX2_readText zcI2 g14 rfl rfl (zcs trivial (Nat.le_of_ble_eq_true rfl)) (by decide) (by decide) (by decide) dX7_flip_42 ?_
        refine zV_iload_n (j := 0) dX7_flip_45 rfl rfl ?_
        exact zV_iret rfl dX7_flip_46 (by decide) (by decide) (z_retx h)
      · replace h := z_f c5 h
        refine zV_pk [] rfl ?_
        refine zV_wd 1 6 (by decide) (by decide) ?_
        exact vX7_flip_14 hl M2 _ h
  · subst h
    exact zV_callxSv (As := [.int x1, .int 4]) (rest := []) (vX7_checkIndex l hl D T b x1 4 M _ q3) zm_yX7_checkIndex zl_RX7_51 zs_yX7_checkIndex rfl rfl (zcs trivial (Nat.le_of_ble_eq_true rfl)) (by decide) (by decide) (by decide) dX7_flip_2 (fun _ => ⟨rfl, rfl⟩) (fun h9 => absurd h9 (Nat.succ_ne_zero _))
set_option maxHeartbeats 4000000 in
set_option maxRecDepth 100000 in
theorem vX7_insert (l : Launch) (hl : l.stackTraces = false) (D : va_G) (T : Nat → ClassId) (b : Nat) (x0 : Nat) (x1 : Int32) (x2 : Int32) (x3 : Int32) (M : zM) (o : Nat × Int32 × zM) (h : fX7_insert x0 x1 x2 x3 M = some o) : zMeX l D T b yX7_insert cX7_insert 4 (some .int) 122 3 18 [zr b x0, .int x1, .int x2, .int x3] M o := by
  refine zEntryX2 zp_yX7_insert ⟨zr_cat _ _, rfl, rfl, rfl, trivial⟩ (Nat.le_of_ble_eq_true rfl) ?_
  show zV true l RX7 cX7_insert 4 (some .int) false 122 3 18 D T b false M.2.2.2 o 0 0 0 [(0, zr b x0), (1, .int x1), (2, .int x2), (3, .int x3)] [] M
  unfold fX7_insert at h
  refine zV_iload_n (j := 1) dX7_insert_0 rfl rfl ?_
  refine zV_aload_n (j := 0) dX7_insert_1 rfl rfl ?_
  obtain ⟨g1, h⟩ := zg_of h
  refine zV_getR zf_RX7_21 dX7_insert_2 rfl g1 ?_
  obtain ⟨g2, h⟩ := zg_of h
  refine zV_getI zf_RX7_114 dX7_insert_5 rfl g2 ?_
  refine zV_iconst (v := 1) dX7_insert_8 (by decide) ?_
  refine zV_iadd dX7_insert_9 ?_
  rcases zbx_of h with ⟨r3, M4, q5, h⟩ | ⟨t9, r3, M4, q5, h⟩
  · refine zV_callxSv (As := [.int x1, .int ((zI M (zR M x0 1) 2) + 1)]) (rest := []) (vX7_checkIndex l hl D T b x1 ((zI M (zR M x0 1) 2) + 1) M _ q5) zm_yX7_checkIndex zl_RX7_51 zs_yX7_checkIndex rfl rfl (zcs trivial (Nat.le_of_ble_eq_true rfl)) (by decide) (by decide) (by decide) dX7_insert_10 (fun h9 => absurd rfl h9) (fun _ => ?_)
    refine zV_iload_n (j := 2) dX7_insert_13 rfl rfl ?_
    refine zV_iload_n (j := 3) dX7_insert_14 rfl rfl ?_
    rcases zbx_of h with ⟨r6, M7, q8, h⟩ | ⟨t9, r6, M7, q8, h⟩
    · refine zV_callxSv (As := [.int x2, .int x3]) (rest := []) (vX7_checkToken l hl D T b x2 x3 M4 _ q8) zm_yX7_checkToken zl_RX7_111 zs_yX7_checkToken rfl rfl (zcs trivial (Nat.le_of_ble_eq_true rfl)) (by decide) (by decide) (by decide) dX7_insert_15 (fun h9 => absurd rfl h9) (fun _ => ?_)
      refine zV_aload_n (j := 0) dX7_insert_18 rfl rfl ?_
      obtain ⟨g9, h⟩ := zg_of h
      refine zV_getR zf_RX7_21 dX7_insert_19 rfl g9 ?_
      obtain ⟨g10, h⟩ := zg_of h
      refine zV_getI zf_RX7_114 dX7_insert_22 rfl g10 ?_
      refine zV_bipush (v := 60) dX7_insert_25 (by decide) ?_
      refine zV_icmp_lt (tgt := 40) dX7_insert_27 (by decide) (fun c11 => ?_) (fun c11 => ?_)
      · replace h := z_t c11 h
        refine zV_aload_n (j := 0) dX7_insert_40 rfl rfl ?_
        refine zV_getR zf_RX7_21 dX7_insert_41 rfl g9 ?_
        refine zV_iload_n (j := 1) dX7_insert_44 rfl rfl ?_
        refine zV_iload_n (j := 2) dX7_insert_45 rfl rfl ?_
        refine zV_iload_n (j := 3) dX7_insert_46 rfl rfl ?_
        obtain ⟨r12, M13, q14, h⟩ := zb_of h
        refine zV_callVv (ci := 3) (As := [.int x1, .int x2, .int x3]) (rest := []) (vX3_putToken l D T b false (zR M7 x0 1) x1 x2 x3 M7 _ _ q14) zm_yX3_putToken zl_RX7_119 zi_yX3_putToken ze_yX3_putToken zcI3 g10 rfl rfl (zcs trivial (Nat.le_of_ble_eq_true rfl)) (by decide) (by decide) (by decide) dX7_insert_47 ?_
        refine zV_aload_n (j := 0) dX7_insert_50 rfl rfl ?_
        obtain ⟨g15, h⟩ := zg_of h
        refine zV_getR zf_RX7_38 dX7_insert_51 rfl g15 ?_
        obtain ⟨g16, h⟩ := zg_of h
        obtain ⟨r17, M18, q19, h⟩ := zb_of h
        refine zV_callVv (ci := 2) (As := []) (rest := []) (vX2_readText l D T b false (zR M13 x0 4) M13 _ _ q19) zm_yX2_readText zl_RX7_90 zi_yX2_readText ze_yX2_readText zcI2 g16 rfl rfl (zcs trivial (Nat.le_of_ble_eq_true rfl)) (by decide) (by decide) (by decide) dX7_insert_54 ?_
        refine zV_aload_n (j := 0) dX7_insert_57 rfl rfl ?_
        obtain ⟨g20, h⟩ := zg_of h
        refine zV_getR zf_RX7_38 dX7_insert_58 rfl g20 ?_
        refine zV_iload_n (j := 1) dX7_insert_61 rfl rfl ?_
        refine zV_iload_n (j := 1) dX7_insert_62 rfl rfl ?_
        refine zV_iconst (v := 1) dX7_insert_63 (by decide) ?_
        refine zV_iadd dX7_insert_64 ?_
        refine zV_iconst (v := (-1)) dX7_insert_65 (by decide) ?_
        obtain ⟨g21, h⟩ := zg_of h
        obtain ⟨r22, M23, q24, h⟩ := zb_of h
        refine zV_callVv (ci := 2) (As := [.int x1, .int (x1 + 1), .int (-1)]) (rest := []) (vX2_countReadAnew l D T b false (zR M18 x0 4) x1 (x1 + 1) (-1) M18 _ _ q24) zm_yX2_countReadAnew zl_RX7_127 zi_yX2_countReadAnew ze_yX2_countReadAnew zcI2 g21 rfl rfl (zcs trivial (Nat.le_of_ble_eq_true rfl)) (by decide) (by decide) (by decide) dX7_insert_66 ?_
        refine zV_aload_n (j := 0) dX7_insert_69 rfl rfl ?_
        obtain ⟨g25, h⟩ := zg_of h
        refine zV_getR zf_RX7_21 dX7_insert_70 rfl g25 ?_
        obtain ⟨g26, h⟩ := zg_of h
        refine zV_getI zf_RX7_114 dX7_insert_73 rfl g26 ?_
        exact zV_iret rfl dX7_insert_76 (by decide) (by decide) (z_retx h)
      · replace h := z_f c11 h
        exact zV_throw (text := "the text has all its tokens") 3 hl (by decide) (by decide) rfl zk_RX7_72 zxK3 (by decide +kernel) dX7_insert_30 dX7_insert_33 dX7_insert_34 dX7_insert_36 dX7_insert_39 (by decide) (zcs trivial (Nat.le_of_ble_eq_true rfl)) (by decide) (by decide) (z_retx h)
    · subst h
      exact zV_callxSv (As := [.int x2, .int x3]) (rest := []) (vX7_checkToken l hl D T b x2 x3 M4 _ q8) zm_yX7_checkToken zl_RX7_111 zs_yX7_checkToken rfl rfl (zcs trivial (Nat.le_of_ble_eq_true rfl)) (by decide) (by decide) (by decide) dX7_insert_15 (fun _ => ⟨rfl, rfl⟩) (fun h9 => absurd h9 (Nat.succ_ne_zero _))
  · subst h
    exact zV_callxSv (As := [.int x1, .int ((zI M (zR M x0 1) 2) + 1)]) (rest := []) (vX7_checkIndex l hl D T b x1 ((zI M (zR M x0 1) 2) + 1) M _ q5) zm_yX7_checkIndex zl_RX7_51 zs_yX7_checkIndex rfl rfl (zcs trivial (Nat.le_of_ble_eq_true rfl)) (by decide) (by decide) (by decide) dX7_insert_10 (fun _ => ⟨rfl, rfl⟩) (fun h9 => absurd h9 (Nat.succ_ne_zero _))
set_option maxHeartbeats 4000000 in
set_option maxRecDepth 100000 in
theorem vX7_erase (l : Launch) (hl : l.stackTraces = false) (D : va_G) (T : Nat → ClassId) (b : Nat) (x0 : Nat) (x1 : Int32) (M : zM) (o : Nat × Int32 × zM) (h : fX7_erase x0 x1 M = some o) : zMeX l D T b yX7_erase cX7_erase 2 (some .int) 122 1 6 [zr b x0, .int x1] M o := by
  refine zEntryX2 zp_yX7_erase ⟨zr_cat _ _, rfl, trivial⟩ (Nat.le_of_ble_eq_true rfl) ?_
  show zV true l RX7 cX7_erase 2 (some .int) false 122 1 6 D T b false M.2.2.2 o 0 0 0 [(0, zr b x0), (1, .int x1)] [] M
  unfold fX7_erase at h
  refine zV_iload_n (j := 1) dX7_erase_0 rfl rfl ?_
  refine zV_aload_n (j := 0) dX7_erase_1 rfl rfl ?_
  obtain ⟨g1, h⟩ := zg_of h
  refine zV_getR zf_RX7_21 dX7_erase_2 rfl g1 ?_
  obtain ⟨g2, h⟩ := zg_of h
  refine zV_getI zf_RX7_114 dX7_erase_5 rfl g2 ?_
  rcases zbx_of h with ⟨r3, M4, q5, h⟩ | ⟨t9, r3, M4, q5, h⟩
  · refine zV_callxSv (As := [.int x1, .int (zI M (zR M x0 1) 2)]) (rest := []) (vX7_checkIndex l hl D T b x1 (zI M (zR M x0 1) 2) M _ q5) zm_yX7_checkIndex zl_RX7_51 zs_yX7_checkIndex rfl rfl (zcs trivial (Nat.le_of_ble_eq_true rfl)) (by decide) (by decide) (by decide) dX7_erase_8 (fun h9 => absurd rfl h9) (fun _ => ?_)
    refine zV_aload_n (j := 0) dX7_erase_11 rfl rfl ?_
    obtain ⟨g6, h⟩ := zg_of h
    refine zV_getR zf_RX7_21 dX7_erase_12 rfl g6 ?_
    refine zV_iload_n (j := 1) dX7_erase_15 rfl rfl ?_
    obtain ⟨g7, h⟩ := zg_of h
    obtain ⟨r8, M9, q10, h⟩ := zb_of h
    refine zV_callVv (ci := 3) (As := [.int x1]) (rest := []) (vX3_dropToken l D T b false (zR M4 x0 1) x1 M4 _ _ q10) zm_yX3_dropToken zl_RX7_130 zi_yX3_dropToken ze_yX3_dropToken zcI3 g7 rfl rfl (zcs trivial (Nat.le_of_ble_eq_true rfl)) (by decide) (by decide) (by decide) dX7_erase_16 ?_
    refine zV_aload_n (j := 0) dX7_erase_19 rfl rfl ?_
    obtain ⟨g11, h⟩ := zg_of h
    refine zV_getR zf_RX7_38 dX7_erase_20 rfl g11 ?_
    obtain ⟨g12, h⟩ := zg_of h
    obtain ⟨r13, M14, q15, h⟩ := zb_of h
    refine zV_callVv (ci := 2) (As := []) (rest := []) (vX2_readText l D T b false (zR M9 x0 4) M9 _ _ q15) zm_yX2_readText zl_RX7_90 zi_yX2_readText ze_yX2_readText zcI2 g12 rfl rfl (zcs trivial (Nat.le_of_ble_eq_true rfl)) (by decide) (by decide) (by decide) dX7_erase_23 ?_
    refine zV_aload_n (j := 0) dX7_erase_26 rfl rfl ?_
    obtain ⟨g16, h⟩ := zg_of h
    refine zV_getR zf_RX7_38 dX7_erase_27 rfl g16 ?_
    refine zV_iload_n (j := 1) dX7_erase_30 rfl rfl ?_
    refine zV_iload_n (j := 1) dX7_erase_31 rfl rfl ?_
    refine zV_iconst (v := 1) dX7_erase_32 (by decide) ?_
    obtain ⟨g17, h⟩ := zg_of h
    obtain ⟨r18, M19, q20, h⟩ := zb_of h
    refine zV_callVv (ci := 2) (As := [.int x1, .int x1, .int 1]) (rest := []) (vX2_countReadAnew l D T b false (zR M14 x0 4) x1 x1 1 M14 _ _ q20) zm_yX2_countReadAnew zl_RX7_127 zi_yX2_countReadAnew ze_yX2_countReadAnew zcI2 g17 rfl rfl (zcs trivial (Nat.le_of_ble_eq_true rfl)) (by decide) (by decide) (by decide) dX7_erase_33 ?_
    refine zV_aload_n (j := 0) dX7_erase_36 rfl rfl ?_
    obtain ⟨g21, h⟩ := zg_of h
    refine zV_getR zf_RX7_21 dX7_erase_37 rfl g21 ?_
    obtain ⟨g22, h⟩ := zg_of h
    refine zV_getI zf_RX7_114 dX7_erase_40 rfl g22 ?_
    exact zV_iret rfl dX7_erase_43 (by decide) (by decide) (z_retx h)
  · subst h
    exact zV_callxSv (As := [.int x1, .int (zI M (zR M x0 1) 2)]) (rest := []) (vX7_checkIndex l hl D T b x1 (zI M (zR M x0 1) 2) M _ q5) zm_yX7_checkIndex zl_RX7_51 zs_yX7_checkIndex rfl rfl (zcs trivial (Nat.le_of_ble_eq_true rfl)) (by decide) (by decide) (by decide) dX7_erase_8 (fun _ => ⟨rfl, rfl⟩) (fun h9 => absurd h9 (Nat.succ_ne_zero _))
set_option maxHeartbeats 4000000 in
set_option maxRecDepth 100000 in
theorem vX7_normalize (l : Launch) (hl : l.stackTraces = false) (D : va_G) (T : Nat → ClassId) (b : Nat) (x0 : Nat) (M : zM) (o : Nat × Int32 × zM) (h : fX7_normalize x0 M = some o) : zMeX l D T b yX7_normalize cX7_normalize 1 (some .int) 122 1 6 [zr b x0] M o := by
  refine zEntryX2 zp_yX7_normalize ⟨zr_cat _ _, trivial⟩ (Nat.le_of_ble_eq_true rfl) ?_
  show zV true l RX7 cX7_normalize 1 (some .int) false 122 1 6 D T b false M.2.2.2 o 0 0 0 [(0, zr b x0)] [] M
  unfold fX7_normalize at h
  refine zV_aload_n (j := 0) dX7_normalize_0 rfl rfl ?_
  obtain ⟨g1, h⟩ := zg_of h
  refine zV_getR zf_RX7_38 dX7_normalize_1 rfl g1 ?_
  obtain ⟨g2, h⟩ := zg_of h
  refine zV_getR zf_RX7_133 dX7_normalize_4 rfl g2 ?_
  obtain ⟨g3, h⟩ := zg_of h
  refine zV_getI zf_RX7_114 dX7_normalize_7 rfl g3 ?_
  refine zV_bipush (v := 60) dX7_normalize_10 (by decide) ?_
  refine zV_icmp_le (tgt := 25) dX7_normalize_12 (by decide) (fun c4 => ?_) (fun c4 => ?_)
  · replace h := z_t c4 h
    refine zV_aload_n (j := 0) dX7_normalize_25 rfl rfl ?_
    refine zV_getR zf_RX7_21 dX7_normalize_26 rfl g1 ?_
    refine zV_aload_n (j := 0) dX7_normalize_29 rfl rfl ?_
    refine zV_getR zf_RX7_38 dX7_normalize_30 rfl g1 ?_
    refine zV_getR zf_RX7_133 dX7_normalize_33 rfl g2 ?_
    obtain ⟨g5, h⟩ := zg_of h
    obtain ⟨r6, M7, q8, h⟩ := zb_of h
    refine zV_callVv (ci := 3) (As := [zr b (zR M (zR M x0 4) 5)]) (rest := []) (vX3_copyFrom l D T b false (zR M x0 1) (zR M (zR M x0 4) 5) M _ _ q8) zm_yX3_copyFrom zl_RX7_138 zi_yX3_copyFrom ze_yX3_copyFrom zcI3 g5 rfl rfl (zcs trivial (Nat.le_of_ble_eq_true rfl)) (by decide) (by decide) (by decide) dX7_normalize_36 ?_
    refine zV_aload_n (j := 0) dX7_normalize_39 rfl rfl ?_
    obtain ⟨g9, h⟩ := zg_of h
    refine zV_getR zf_RX7_38 dX7_normalize_40 rfl g9 ?_
    obtain ⟨g10, h⟩ := zg_of h
    obtain ⟨r11, M12, q13, h⟩ := zb_of h
    refine zV_callVv (ci := 2) (As := []) (rest := []) (vX2_readText l D T b false (zR M7 x0 4) M7 _ _ q13) zm_yX2_readText zl_RX7_90 zi_yX2_readText ze_yX2_readText zcI2 g10 rfl rfl (zcs trivial (Nat.le_of_ble_eq_true rfl)) (by decide) (by decide) (by decide) dX7_normalize_43 ?_
    refine zV_aload_n (j := 0) dX7_normalize_46 rfl rfl ?_
    obtain ⟨g14, h⟩ := zg_of h
    refine zV_getR zf_RX7_21 dX7_normalize_47 rfl g14 ?_
    obtain ⟨g15, h⟩ := zg_of h
    refine zV_getI zf_RX7_114 dX7_normalize_50 rfl g15 ?_
    exact zV_iret rfl dX7_normalize_53 (by decide) (by decide) (z_retx h)
  · replace h := z_f c4 h
    exact zV_throw (text := "the normal form is too long for a text") 3 hl (by decide) (by decide) rfl zk_RX7_72 zxK3 (by decide +kernel) dX7_normalize_15 dX7_normalize_18 dX7_normalize_19 dX7_normalize_21 dX7_normalize_24 (by decide) (zcs trivial (Nat.le_of_ble_eq_true rfl)) (by decide) (by decide) (z_retx h)
set_option maxHeartbeats 4000000 in
set_option maxRecDepth 100000 in
theorem vX7_length (l : Launch) (D : va_G) (T : Nat → ClassId) (b : Nat) (gr : Bool) (x0 : Nat) (M : zM) (r : Int32) (M' : zM) (h : fX7_length x0 M = some (r, M')) : zMet l D T b gr yX7_length cX7_length 1 (some .int) 0 0 0 [zr b x0] M (0, r, M') := by
  refine zEntry2 false (fun h9 => nomatch h9) zp_yX7_length ⟨zr_cat _ _, trivial⟩ (Nat.le_of_ble_eq_true rfl) ?_
  obtain ⟨o, ho⟩ : ∃ o : Int32 × zM, o = (r, M') := ⟨_, rfl⟩
  rw [← ho] at h
  rw [show ((0, r, M') : Nat × Int32 × zM) = (0, o.1, o.2) by rw [ho]]
  show zV false l RX7 cX7_length 1 (some .int) false 0 0 0 D T b gr M.2.2.2 (0, o.1, o.2) 0 0 0 [(0, zr b x0)] [] M
  unfold fX7_length at h
  refine zV_aload_n (j := 0) dX7_length_0 rfl rfl ?_
  obtain ⟨g1, h⟩ := zg_of h
  refine zV_getR zf_RX7_21 dX7_length_1 rfl g1 ?_
  obtain ⟨g2, h⟩ := zg_of h
  refine zV_getI zf_RX7_114 dX7_length_4 rfl g2 ?_
  exact zV_iret rfl dX7_length_7 (by decide) (by decide) (z_ret h)
set_option maxHeartbeats 4000000 in
set_option maxRecDepth 100000 in
theorem vX7_anew (l : Launch) (D : va_G) (T : Nat → ClassId) (b : Nat) (gr : Bool) (x0 : Nat) (M : zM) (r : Int32) (M' : zM) (h : fX7_anew x0 M = some (r, M')) : zMet l D T b gr yX7_anew cX7_anew 1 (some .int) 0 0 0 [zr b x0] M (0, r, M') := by
  refine zEntry2 false (fun h9 => nomatch h9) zp_yX7_anew ⟨zr_cat _ _, trivial⟩ (Nat.le_of_ble_eq_true rfl) ?_
  obtain ⟨o, ho⟩ : ∃ o : Int32 × zM, o = (r, M') := ⟨_, rfl⟩
  rw [← ho] at h
  rw [show ((0, r, M') : Nat × Int32 × zM) = (0, o.1, o.2) by rw [ho]]
  show zV false l RX7 cX7_anew 1 (some .int) false 0 0 0 D T b gr M.2.2.2 (0, o.1, o.2) 0 0 0 [(0, zr b x0)] [] M
  unfold fX7_anew at h
  refine zV_aload_n (j := 0) dX7_anew_0 rfl rfl ?_
  obtain ⟨g1, h⟩ := zg_of h
  refine zV_getR zf_RX7_38 dX7_anew_1 rfl g1 ?_
  obtain ⟨g2, h⟩ := zg_of h
  refine zV_getI zf_RX7_142 dX7_anew_4 rfl g2 ?_
  exact zV_iret rfl dX7_anew_7 (by decide) (by decide) (z_ret h)
set_option maxHeartbeats 4000000 in
set_option maxRecDepth 100000 in
theorem vX7_open (l : Launch) (hl : l.stackTraces = false) (D : va_G) (T : Nat → ClassId) (b : Nat) (x0 : Nat) (x1 : Int32) (M : zM) (o : Nat × Int32 × zM) (h : fX7_open x0 x1 M = some o) : zMeX l D T b yX7_open cX7_open 2 (some .int) 7 1 6 [zr b x0, .int x1] M o := by
  refine zEntryX2 zp_yX7_open ⟨zr_cat _ _, rfl, trivial⟩ (Nat.le_of_ble_eq_true rfl) ?_
  show zV true l RX7 cX7_open 2 (some .int) false 7 1 6 D T b false M.2.2.2 o 0 0 0 [(0, zr b x0), (1, .int x1)] [] M
  unfold fX7_open at h
  refine zV_iload_n (j := 1) dX7_open_0 rfl rfl ?_
  refine zV_aload_n (j := 0) dX7_open_1 rfl rfl ?_
  obtain ⟨g1, h⟩ := zg_of h
  refine zV_getR zf_RX7_21 dX7_open_2 rfl g1 ?_
  obtain ⟨g2, h⟩ := zg_of h
  refine zV_getI zf_RX7_114 dX7_open_5 rfl g2 ?_
  refine zV_iconst (v := 1) dX7_open_8 (by decide) ?_
  refine zV_iadd dX7_open_9 ?_
  rcases zbx_of h with ⟨r3, M4, q5, h⟩ | ⟨t9, r3, M4, q5, h⟩
  · refine zV_callxSv (As := [.int x1, .int ((zI M (zR M x0 1) 2) + 1)]) (rest := []) (vX7_checkIndex l hl D T b x1 ((zI M (zR M x0 1) 2) + 1) M _ q5) zm_yX7_checkIndex zl_RX7_51 zs_yX7_checkIndex rfl rfl (zcs trivial (Nat.le_of_ble_eq_true rfl)) (by decide) (by decide) (by decide) dX7_open_10 (fun h9 => absurd rfl h9) (fun _ => ?_)
    refine zV_aload_n (j := 0) dX7_open_13 rfl rfl ?_
    obtain ⟨g6, h⟩ := zg_of h
    refine zV_getR zf_RX7_38 dX7_open_14 rfl g6 ?_
    obtain ⟨g7, h⟩ := zg_of h
    refine zV_getR zf_RX7_145 dX7_open_17 rfl g7 ?_
    refine zV_iload_n (j := 1) dX7_open_20 rfl rfl ?_
    obtain ⟨g8, h⟩ := zg_of h
    obtain ⟨g9, h⟩ := zg_of h
    refine zV_aald 112 6 dX7_open_21 g8 ⟨by decide, by decide⟩ rfl g9 ?_
    obtain ⟨g10, h⟩ := zg_of h
    refine zV_getI zf_RX7_149 dX7_open_22 rfl g10 ?_
    exact zV_iret rfl dX7_open_25 (by decide) (by decide) (z_retx h)
  · subst h
    exact zV_callxSv (As := [.int x1, .int ((zI M (zR M x0 1) 2) + 1)]) (rest := []) (vX7_checkIndex l hl D T b x1 ((zI M (zR M x0 1) 2) + 1) M _ q5) zm_yX7_checkIndex zl_RX7_51 zs_yX7_checkIndex rfl rfl (zcs trivial (Nat.le_of_ble_eq_true rfl)) (by decide) (by decide) (by decide) dX7_open_10 (fun _ => ⟨rfl, rfl⟩) (fun h9 => absurd h9 (Nat.succ_ne_zero _))
set_option maxHeartbeats 4000000 in
set_option maxRecDepth 100000 in
theorem vX7_current (l : Launch) (hl : l.stackTraces = false) (D : va_G) (T : Nat → ClassId) (b : Nat) (x0 : Nat) (x1 : Int32) (M : zM) (o : Nat × Int32 × zM) (h : fX7_current x0 x1 M = some o) : zMeX l D T b yX7_current cX7_current 2 (some .int) 7 1 6 [zr b x0, .int x1] M o := by
  refine zEntryX2 zp_yX7_current ⟨zr_cat _ _, rfl, trivial⟩ (Nat.le_of_ble_eq_true rfl) ?_
  show zV true l RX7 cX7_current 2 (some .int) false 7 1 6 D T b false M.2.2.2 o 0 0 0 [(0, zr b x0), (1, .int x1)] [] M
  unfold fX7_current at h
  refine zV_iload_n (j := 1) dX7_current_0 rfl rfl ?_
  refine zV_aload_n (j := 0) dX7_current_1 rfl rfl ?_
  obtain ⟨g1, h⟩ := zg_of h
  refine zV_getR zf_RX7_21 dX7_current_2 rfl g1 ?_
  obtain ⟨g2, h⟩ := zg_of h
  refine zV_getI zf_RX7_114 dX7_current_5 rfl g2 ?_
  refine zV_iconst (v := 1) dX7_current_8 (by decide) ?_
  refine zV_iadd dX7_current_9 ?_
  rcases zbx_of h with ⟨r3, M4, q5, h⟩ | ⟨t9, r3, M4, q5, h⟩
  · refine zV_callxSv (As := [.int x1, .int ((zI M (zR M x0 1) 2) + 1)]) (rest := []) (vX7_checkIndex l hl D T b x1 ((zI M (zR M x0 1) 2) + 1) M _ q5) zm_yX7_checkIndex zl_RX7_51 zs_yX7_checkIndex rfl rfl (zcs trivial (Nat.le_of_ble_eq_true rfl)) (by decide) (by decide) (by decide) dX7_current_10 (fun h9 => absurd rfl h9) (fun _ => ?_)
    refine zV_aload_n (j := 0) dX7_current_13 rfl rfl ?_
    obtain ⟨g6, h⟩ := zg_of h
    refine zV_getR zf_RX7_38 dX7_current_14 rfl g6 ?_
    obtain ⟨g7, h⟩ := zg_of h
    refine zV_getR zf_RX7_145 dX7_current_17 rfl g7 ?_
    refine zV_iload_n (j := 1) dX7_current_20 rfl rfl ?_
    obtain ⟨g8, h⟩ := zg_of h
    obtain ⟨g9, h⟩ := zg_of h
    refine zV_aald 112 6 dX7_current_21 g8 ⟨by decide, by decide⟩ rfl g9 ?_
    obtain ⟨g10, h⟩ := zg_of h
    obtain ⟨r11, M12, q13, h⟩ := zb_of h
    refine zV_callVi (ci := 4) (As := []) (rest := []) (vX4_currentElement l D T b false (zR M4 (zR M4 (zR M4 x0 4) 12) x1.toNatClampNeg) M4 _ _ q13) zm_yX4_currentElement zl_RX7_154 zi_yX4_currentElement ze_yX4_currentElement zcI4 g10 rfl rfl (zcs trivial (Nat.le_of_ble_eq_true rfl)) (by decide) (by decide) (by decide) dX7_current_22 ?_
    exact zV_iret rfl dX7_current_25 (by decide) (by decide) (z_retx h)
  · subst h
    exact zV_callxSv (As := [.int x1, .int ((zI M (zR M x0 1) 2) + 1)]) (rest := []) (vX7_checkIndex l hl D T b x1 ((zI M (zR M x0 1) 2) + 1) M _ q5) zm_yX7_checkIndex zl_RX7_51 zs_yX7_checkIndex rfl rfl (zcs trivial (Nat.le_of_ble_eq_true rfl)) (by decide) (by decide) (by decide) dX7_current_10 (fun _ => ⟨rfl, rfl⟩) (fun h9 => absurd h9 (Nat.succ_ne_zero _))
set_option maxHeartbeats 4000000 in
set_option maxRecDepth 100000 in
theorem vX7_next (l : Launch) (hl : l.stackTraces = false) (D : va_G) (T : Nat → ClassId) (b : Nat) (x0 : Nat) (x1 : Int32) (M : zM) (o : Nat × Int32 × zM) (h : fX7_next x0 x1 M = some o) : zMeX l D T b yX7_next cX7_next 2 (some .int) 7 1 6 [zr b x0, .int x1] M o := by
  refine zEntryX2 zp_yX7_next ⟨zr_cat _ _, rfl, trivial⟩ (Nat.le_of_ble_eq_true rfl) ?_
  show zV true l RX7 cX7_next 2 (some .int) false 7 1 6 D T b false M.2.2.2 o 0 0 0 [(0, zr b x0), (1, .int x1)] [] M
  unfold fX7_next at h
  refine zV_iload_n (j := 1) dX7_next_0 rfl rfl ?_
  refine zV_aload_n (j := 0) dX7_next_1 rfl rfl ?_
  obtain ⟨g1, h⟩ := zg_of h
  refine zV_getR zf_RX7_21 dX7_next_2 rfl g1 ?_
  obtain ⟨g2, h⟩ := zg_of h
  refine zV_getI zf_RX7_114 dX7_next_5 rfl g2 ?_
  refine zV_iconst (v := 1) dX7_next_8 (by decide) ?_
  refine zV_iadd dX7_next_9 ?_
  rcases zbx_of h with ⟨r3, M4, q5, h⟩ | ⟨t9, r3, M4, q5, h⟩
  · refine zV_callxSv (As := [.int x1, .int ((zI M (zR M x0 1) 2) + 1)]) (rest := []) (vX7_checkIndex l hl D T b x1 ((zI M (zR M x0 1) 2) + 1) M _ q5) zm_yX7_checkIndex zl_RX7_51 zs_yX7_checkIndex rfl rfl (zcs trivial (Nat.le_of_ble_eq_true rfl)) (by decide) (by decide) (by decide) dX7_next_10 (fun h9 => absurd rfl h9) (fun _ => ?_)
    refine zV_aload_n (j := 0) dX7_next_13 rfl rfl ?_
    obtain ⟨g6, h⟩ := zg_of h
    refine zV_getR zf_RX7_38 dX7_next_14 rfl g6 ?_
    obtain ⟨g7, h⟩ := zg_of h
    refine zV_getR zf_RX7_145 dX7_next_17 rfl g7 ?_
    refine zV_iload_n (j := 1) dX7_next_20 rfl rfl ?_
    obtain ⟨g8, h⟩ := zg_of h
    obtain ⟨g9, h⟩ := zg_of h
    refine zV_aald 112 6 dX7_next_21 g8 ⟨by decide, by decide⟩ rfl g9 ?_
    obtain ⟨g10, h⟩ := zg_of h
    obtain ⟨r11, M12, q13, h⟩ := zb_of h
    refine zV_callVi (ci := 4) (As := []) (rest := []) (vX4_goesOnWith l D T b false (zR M4 (zR M4 (zR M4 x0 4) 12) x1.toNatClampNeg) M4 _ _ q13) zm_yX4_goesOnWith zl_RX7_158 zi_yX4_goesOnWith ze_yX4_goesOnWith zcI4 g10 rfl rfl (zcs trivial (Nat.le_of_ble_eq_true rfl)) (by decide) (by decide) (by decide) dX7_next_22 ?_
    exact zV_iret rfl dX7_next_25 (by decide) (by decide) (z_retx h)
  · subst h
    exact zV_callxSv (As := [.int x1, .int ((zI M (zR M x0 1) 2) + 1)]) (rest := []) (vX7_checkIndex l hl D T b x1 ((zI M (zR M x0 1) 2) + 1) M _ q5) zm_yX7_checkIndex zl_RX7_51 zs_yX7_checkIndex rfl rfl (zcs trivial (Nat.le_of_ble_eq_true rfl)) (by decide) (by decide) (by decide) dX7_next_10 (fun _ => ⟨rfl, rfl⟩) (fun h9 => absurd h9 (Nat.succ_ne_zero _))
set_option maxHeartbeats 4000000 in
set_option maxRecDepth 100000 in
theorem vX7_things (l : Launch) (D : va_G) (T : Nat → ClassId) (b : Nat) (gr : Bool) (x0 : Nat) (M : zM) (r : Int32) (M' : zM) (h : fX7_things x0 M = some (r, M')) : zMet l D T b gr yX7_things cX7_things 1 (some .int) 0 0 0 [zr b x0] M (0, r, M') := by
  refine zEntry2 false (fun h9 => nomatch h9) zp_yX7_things ⟨zr_cat _ _, trivial⟩ (Nat.le_of_ble_eq_true rfl) ?_
  obtain ⟨o, ho⟩ : ∃ o : Int32 × zM, o = (r, M') := ⟨_, rfl⟩
  rw [← ho] at h
  rw [show ((0, r, M') : Nat × Int32 × zM) = (0, o.1, o.2) by rw [ho]]
  show zV false l RX7 cX7_things 1 (some .int) false 0 0 0 D T b gr M.2.2.2 (0, o.1, o.2) 0 0 0 [(0, zr b x0)] [] M
  unfold fX7_things at h
  refine zV_aload_n (j := 0) dX7_things_0 rfl rfl ?_
  obtain ⟨g1, h⟩ := zg_of h
  refine zV_getR zf_RX7_38 dX7_things_1 rfl g1 ?_
  obtain ⟨g2, h⟩ := zg_of h
  refine zV_getR zf_RX7_161 dX7_things_4 rfl g2 ?_
  obtain ⟨g3, h⟩ := zg_of h
  refine zV_getI zf_RX7_165 dX7_things_7 rfl g3 ?_
  exact zV_iret rfl dX7_things_10 (by decide) (by decide) (z_ret h)
set_option maxHeartbeats 4000000 in
set_option maxRecDepth 100000 in
theorem vX7_kind (l : Launch) (hl : l.stackTraces = false) (D : va_G) (T : Nat → ClassId) (b : Nat) (x0 : Nat) (x1 : Int32) (M : zM) (o : Nat × Int32 × zM) (h : fX7_kind x0 x1 M = some o) : zMeX l D T b yX7_kind cX7_kind 2 (some .int) 7 1 6 [zr b x0, .int x1] M o := by
  refine zEntryX2 zp_yX7_kind ⟨zr_cat _ _, rfl, trivial⟩ (Nat.le_of_ble_eq_true rfl) ?_
  show zV true l RX7 cX7_kind 2 (some .int) false 7 1 6 D T b false M.2.2.2 o 0 0 0 [(0, zr b x0), (1, .int x1)] [] M
  unfold fX7_kind at h
  refine zV_iload_n (j := 1) dX7_kind_0 rfl rfl ?_
  refine zV_aload_n (j := 0) dX7_kind_1 rfl rfl ?_
  obtain ⟨g1, h⟩ := zg_of h
  refine zV_getR zf_RX7_38 dX7_kind_2 rfl g1 ?_
  obtain ⟨g2, h⟩ := zg_of h
  refine zV_getR zf_RX7_161 dX7_kind_5 rfl g2 ?_
  obtain ⟨g3, h⟩ := zg_of h
  refine zV_getI zf_RX7_165 dX7_kind_8 rfl g3 ?_
  rcases zbx_of h with ⟨r4, M5, q6, h⟩ | ⟨t9, r4, M5, q6, h⟩
  · refine zV_callxSv (As := [.int x1, .int (zI M (zR M (zR M x0 4) 4) 5)]) (rest := []) (vX7_checkIndex l hl D T b x1 (zI M (zR M (zR M x0 4) 4) 5) M _ q6) zm_yX7_checkIndex zl_RX7_51 zs_yX7_checkIndex rfl rfl (zcs trivial (Nat.le_of_ble_eq_true rfl)) (by decide) (by decide) (by decide) dX7_kind_11 (fun h9 => absurd rfl h9) (fun _ => ?_)
    refine zV_aload_n (j := 0) dX7_kind_14 rfl rfl ?_
    obtain ⟨g7, h⟩ := zg_of h
    refine zV_getR zf_RX7_38 dX7_kind_15 rfl g7 ?_
    obtain ⟨g8, h⟩ := zg_of h
    refine zV_getR zf_RX7_161 dX7_kind_18 rfl g8 ?_
    obtain ⟨g9, h⟩ := zg_of h
    refine zV_getR zf_RX7_168 dX7_kind_21 rfl g9 ?_
    refine zV_iload_n (j := 1) dX7_kind_24 rfl rfl ?_
    obtain ⟨g10, h⟩ := zg_of h
    obtain ⟨g11, h⟩ := zg_of h
    refine zV_iald dX7_kind_25 g10 g11 ?_
    exact zV_iret rfl dX7_kind_26 (by decide) (by decide) (z_retx h)
  · subst h
    exact zV_callxSv (As := [.int x1, .int (zI M (zR M (zR M x0 4) 4) 5)]) (rest := []) (vX7_checkIndex l hl D T b x1 (zI M (zR M (zR M x0 4) 4) 5) M _ q6) zm_yX7_checkIndex zl_RX7_51 zs_yX7_checkIndex rfl rfl (zcs trivial (Nat.le_of_ble_eq_true rfl)) (by decide) (by decide) (by decide) dX7_kind_11 (fun _ => ⟨rfl, rfl⟩) (fun h9 => absurd h9 (Nat.succ_ne_zero _))
set_option maxHeartbeats 4000000 in
set_option maxRecDepth 100000 in
theorem vX7_parent (l : Launch) (hl : l.stackTraces = false) (D : va_G) (T : Nat → ClassId) (b : Nat) (x0 : Nat) (x1 : Int32) (M : zM) (o : Nat × Int32 × zM) (h : fX7_parent x0 x1 M = some o) : zMeX l D T b yX7_parent cX7_parent 2 (some .int) 7 1 6 [zr b x0, .int x1] M o := by
  refine zEntryX2 zp_yX7_parent ⟨zr_cat _ _, rfl, trivial⟩ (Nat.le_of_ble_eq_true rfl) ?_
  show zV true l RX7 cX7_parent 2 (some .int) false 7 1 6 D T b false M.2.2.2 o 0 0 0 [(0, zr b x0), (1, .int x1)] [] M
  unfold fX7_parent at h
  refine zV_iload_n (j := 1) dX7_parent_0 rfl rfl ?_
  refine zV_aload_n (j := 0) dX7_parent_1 rfl rfl ?_
  obtain ⟨g1, h⟩ := zg_of h
  refine zV_getR zf_RX7_38 dX7_parent_2 rfl g1 ?_
  obtain ⟨g2, h⟩ := zg_of h
  refine zV_getR zf_RX7_161 dX7_parent_5 rfl g2 ?_
  obtain ⟨g3, h⟩ := zg_of h
  refine zV_getI zf_RX7_165 dX7_parent_8 rfl g3 ?_
  rcases zbx_of h with ⟨r4, M5, q6, h⟩ | ⟨t9, r4, M5, q6, h⟩
  · refine zV_callxSv (As := [.int x1, .int (zI M (zR M (zR M x0 4) 4) 5)]) (rest := []) (vX7_checkIndex l hl D T b x1 (zI M (zR M (zR M x0 4) 4) 5) M _ q6) zm_yX7_checkIndex zl_RX7_51 zs_yX7_checkIndex rfl rfl (zcs trivial (Nat.le_of_ble_eq_true rfl)) (by decide) (by decide) (by decide) dX7_parent_11 (fun h9 => absurd rfl h9) (fun _ => ?_)
    refine zV_aload_n (j := 0) dX7_parent_14 rfl rfl ?_
    obtain ⟨g7, h⟩ := zg_of h
    refine zV_getR zf_RX7_38 dX7_parent_15 rfl g7 ?_
    obtain ⟨g8, h⟩ := zg_of h
    refine zV_getR zf_RX7_161 dX7_parent_18 rfl g8 ?_
    obtain ⟨g9, h⟩ := zg_of h
    refine zV_getR zf_RX7_171 dX7_parent_21 rfl g9 ?_
    refine zV_iload_n (j := 1) dX7_parent_24 rfl rfl ?_
    obtain ⟨g10, h⟩ := zg_of h
    obtain ⟨g11, h⟩ := zg_of h
    refine zV_iald dX7_parent_25 g10 g11 ?_
    exact zV_iret rfl dX7_parent_26 (by decide) (by decide) (z_retx h)
  · subst h
    exact zV_callxSv (As := [.int x1, .int (zI M (zR M (zR M x0 4) 4) 5)]) (rest := []) (vX7_checkIndex l hl D T b x1 (zI M (zR M (zR M x0 4) 4) 5) M _ q6) zm_yX7_checkIndex zl_RX7_51 zs_yX7_checkIndex rfl rfl (zcs trivial (Nat.le_of_ble_eq_true rfl)) (by decide) (by decide) (by decide) dX7_parent_11 (fun _ => ⟨rfl, rfl⟩) (fun h9 => absurd h9 (Nat.succ_ne_zero _))
set_option maxHeartbeats 4000000 in
set_option maxRecDepth 100000 in
theorem vX7_letter (l : Launch) (hl : l.stackTraces = false) (D : va_G) (T : Nat → ClassId) (b : Nat) (x0 : Nat) (x1 : Int32) (M : zM) (o : Nat × Int32 × zM) (h : fX7_letter x0 x1 M = some o) : zMeX l D T b yX7_letter cX7_letter 2 (some .char) 7 1 6 [zr b x0, .int x1] M o := by
  refine zEntryX2 zp_yX7_letter ⟨zr_cat _ _, rfl, trivial⟩ (Nat.le_of_ble_eq_true rfl) ?_
  show zV true l RX7 cX7_letter 2 (some .char) false 7 1 6 D T b false M.2.2.2 o 0 0 0 [(0, zr b x0), (1, .int x1)] [] M
  unfold fX7_letter at h
  refine zV_iload_n (j := 1) dX7_letter_0 rfl rfl ?_
  refine zV_aload_n (j := 0) dX7_letter_1 rfl rfl ?_
  obtain ⟨g1, h⟩ := zg_of h
  refine zV_getR zf_RX7_38 dX7_letter_2 rfl g1 ?_
  obtain ⟨g2, h⟩ := zg_of h
  refine zV_getR zf_RX7_161 dX7_letter_5 rfl g2 ?_
  obtain ⟨g3, h⟩ := zg_of h
  refine zV_getI zf_RX7_165 dX7_letter_8 rfl g3 ?_
  rcases zbx_of h with ⟨r4, M5, q6, h⟩ | ⟨t9, r4, M5, q6, h⟩
  · refine zV_callxSv (As := [.int x1, .int (zI M (zR M (zR M x0 4) 4) 5)]) (rest := []) (vX7_checkIndex l hl D T b x1 (zI M (zR M (zR M x0 4) 4) 5) M _ q6) zm_yX7_checkIndex zl_RX7_51 zs_yX7_checkIndex rfl rfl (zcs trivial (Nat.le_of_ble_eq_true rfl)) (by decide) (by decide) (by decide) dX7_letter_11 (fun h9 => absurd rfl h9) (fun _ => ?_)
    refine zV_aload_n (j := 0) dX7_letter_14 rfl rfl ?_
    obtain ⟨g7, h⟩ := zg_of h
    refine zV_getR zf_RX7_38 dX7_letter_15 rfl g7 ?_
    obtain ⟨g8, h⟩ := zg_of h
    refine zV_getR zf_RX7_161 dX7_letter_18 rfl g8 ?_
    obtain ⟨g9, h⟩ := zg_of h
    refine zV_getR zf_RX7_174 dX7_letter_21 rfl g9 ?_
    refine zV_iload_n (j := 1) dX7_letter_24 rfl rfl ?_
    obtain ⟨g10, h⟩ := zg_of h
    obtain ⟨g11, h⟩ := zg_of h
    refine zV_cald dX7_letter_25 g10 g11 ?_
    obtain ⟨g12, h⟩ := zg_of h
    exact zV_cret rfl dX7_letter_26 (by decide) (by decide) g12 (z_retx h)
  · subst h
    exact zV_callxSv (As := [.int x1, .int (zI M (zR M (zR M x0 4) 4) 5)]) (rest := []) (vX7_checkIndex l hl D T b x1 (zI M (zR M (zR M x0 4) 4) 5) M _ q6) zm_yX7_checkIndex zl_RX7_51 zs_yX7_checkIndex rfl rfl (zcs trivial (Nat.le_of_ble_eq_true rfl)) (by decide) (by decide) (by decide) dX7_letter_11 (fun _ => ⟨rfl, rfl⟩) (fun h9 => absurd h9 (Nat.succ_ne_zero _))
set_option maxHeartbeats 4000000 in
set_option maxRecDepth 100000 in
theorem vX7_placeOf (l : Launch) (hl : l.stackTraces = false) (D : va_G) (T : Nat → ClassId) (b : Nat) (x0 : Nat) (x1 : Int32) (M : zM) (o : Nat × Int32 × zM) (h : fX7_placeOf x0 x1 M = some o) : zMeX l D T b yX7_placeOf cX7_placeOf 2 (some .int) 7 1 6 [zr b x0, .int x1] M o := by
  refine zEntryX2 zp_yX7_placeOf ⟨zr_cat _ _, rfl, trivial⟩ (Nat.le_of_ble_eq_true rfl) ?_
  show zV true l RX7 cX7_placeOf 2 (some .int) false 7 1 6 D T b false M.2.2.2 o 0 0 0 [(0, zr b x0), (1, .int x1)] [] M
  unfold fX7_placeOf at h
  refine zV_iload_n (j := 1) dX7_placeOf_0 rfl rfl ?_
  refine zV_aload_n (j := 0) dX7_placeOf_1 rfl rfl ?_
  obtain ⟨g1, h⟩ := zg_of h
  refine zV_getR zf_RX7_38 dX7_placeOf_2 rfl g1 ?_
  obtain ⟨g2, h⟩ := zg_of h
  refine zV_getR zf_RX7_161 dX7_placeOf_5 rfl g2 ?_
  obtain ⟨g3, h⟩ := zg_of h
  refine zV_getI zf_RX7_165 dX7_placeOf_8 rfl g3 ?_
  rcases zbx_of h with ⟨r4, M5, q6, h⟩ | ⟨t9, r4, M5, q6, h⟩
  · refine zV_callxSv (As := [.int x1, .int (zI M (zR M (zR M x0 4) 4) 5)]) (rest := []) (vX7_checkIndex l hl D T b x1 (zI M (zR M (zR M x0 4) 4) 5) M _ q6) zm_yX7_checkIndex zl_RX7_51 zs_yX7_checkIndex rfl rfl (zcs trivial (Nat.le_of_ble_eq_true rfl)) (by decide) (by decide) (by decide) dX7_placeOf_11 (fun h9 => absurd rfl h9) (fun _ => ?_)
    refine zV_aload_n (j := 0) dX7_placeOf_14 rfl rfl ?_
    obtain ⟨g7, h⟩ := zg_of h
    refine zV_getR zf_RX7_38 dX7_placeOf_15 rfl g7 ?_
    obtain ⟨g8, h⟩ := zg_of h
    refine zV_getR zf_RX7_161 dX7_placeOf_18 rfl g8 ?_
    obtain ⟨g9, h⟩ := zg_of h
    refine zV_getR zf_RX7_178 dX7_placeOf_21 rfl g9 ?_
    refine zV_iload_n (j := 1) dX7_placeOf_24 rfl rfl ?_
    obtain ⟨g10, h⟩ := zg_of h
    obtain ⟨g11, h⟩ := zg_of h
    refine zV_iald dX7_placeOf_25 g10 g11 ?_
    exact zV_iret rfl dX7_placeOf_26 (by decide) (by decide) (z_retx h)
  · subst h
    exact zV_callxSv (As := [.int x1, .int (zI M (zR M (zR M x0 4) 4) 5)]) (rest := []) (vX7_checkIndex l hl D T b x1 (zI M (zR M (zR M x0 4) 4) 5) M _ q6) zm_yX7_checkIndex zl_RX7_51 zs_yX7_checkIndex rfl rfl (zcs trivial (Nat.le_of_ble_eq_true rfl)) (by decide) (by decide) (by decide) dX7_placeOf_11 (fun _ => ⟨rfl, rfl⟩) (fun h9 => absurd h9 (Nat.succ_ne_zero _))
set_option maxHeartbeats 4000000 in
set_option maxRecDepth 100000 in
theorem vX7_isPutIn (l : Launch) (hl : l.stackTraces = false) (D : va_G) (T : Nat → ClassId) (b : Nat) (x0 : Nat) (x1 : Int32) (M : zM) (o : Nat × Int32 × zM) (h : fX7_isPutIn x0 x1 M = some o) : zMeX l D T b yX7_isPutIn cX7_isPutIn 2 (some .boolean) 7 1 6 [zr b x0, .int x1] M o := by
  refine zEntryX2 zp_yX7_isPutIn ⟨zr_cat _ _, rfl, trivial⟩ (Nat.le_of_ble_eq_true rfl) ?_
  show zV true l RX7 cX7_isPutIn 2 (some .boolean) false 7 1 6 D T b false M.2.2.2 o 0 0 0 [(0, zr b x0), (1, .int x1)] [] M
  unfold fX7_isPutIn at h
  refine zV_iload_n (j := 1) dX7_isPutIn_0 rfl rfl ?_
  refine zV_aload_n (j := 0) dX7_isPutIn_1 rfl rfl ?_
  obtain ⟨g1, h⟩ := zg_of h
  refine zV_getR zf_RX7_38 dX7_isPutIn_2 rfl g1 ?_
  obtain ⟨g2, h⟩ := zg_of h
  refine zV_getR zf_RX7_161 dX7_isPutIn_5 rfl g2 ?_
  obtain ⟨g3, h⟩ := zg_of h
  refine zV_getI zf_RX7_165 dX7_isPutIn_8 rfl g3 ?_
  rcases zbx_of h with ⟨r4, M5, q6, h⟩ | ⟨t9, r4, M5, q6, h⟩
  · refine zV_callxSv (As := [.int x1, .int (zI M (zR M (zR M x0 4) 4) 5)]) (rest := []) (vX7_checkIndex l hl D T b x1 (zI M (zR M (zR M x0 4) 4) 5) M _ q6) zm_yX7_checkIndex zl_RX7_51 zs_yX7_checkIndex rfl rfl (zcs trivial (Nat.le_of_ble_eq_true rfl)) (by decide) (by decide) (by decide) dX7_isPutIn_11 (fun h9 => absurd rfl h9) (fun _ => ?_)
    refine zV_aload_n (j := 0) dX7_isPutIn_14 rfl rfl ?_
    obtain ⟨g7, h⟩ := zg_of h
    refine zV_getR zf_RX7_38 dX7_isPutIn_15 rfl g7 ?_
    obtain ⟨g8, h⟩ := zg_of h
    refine zV_getR zf_RX7_161 dX7_isPutIn_18 rfl g8 ?_
    obtain ⟨g9, h⟩ := zg_of h
    refine zV_getR zf_RX7_181 dX7_isPutIn_21 rfl g9 ?_
    refine zV_iload_n (j := 1) dX7_isPutIn_24 rfl rfl ?_
    obtain ⟨g10, h⟩ := zg_of h
    obtain ⟨g11, h⟩ := zg_of h
    refine zV_zald dX7_isPutIn_25 g10 g11 ?_
    obtain ⟨g12, h⟩ := zg_of h
    exact zV_zret rfl dX7_isPutIn_26 (by decide) (by decide) g12 (z_retx h)
  · subst h
    exact zV_callxSv (As := [.int x1, .int (zI M (zR M (zR M x0 4) 4) 5)]) (rest := []) (vX7_checkIndex l hl D T b x1 (zI M (zR M (zR M x0 4) 4) 5) M _ q6) zm_yX7_checkIndex zl_RX7_51 zs_yX7_checkIndex rfl rfl (zcs trivial (Nat.le_of_ble_eq_true rfl)) (by decide) (by decide) (by decide) dX7_isPutIn_11 (fun _ => ⟨rfl, rfl⟩) (fun h9 => absurd h9 (Nat.succ_ne_zero _))
set_option maxHeartbeats 4000000 in
set_option maxRecDepth 100000 in
theorem vX7_endsPutIn (l : Launch) (D : va_G) (T : Nat → ClassId) (b : Nat) (gr : Bool) (x0 : Nat) (M : zM) (r : Int32) (M' : zM) (h : fX7_endsPutIn x0 M = some (r, M')) : zMet l D T b gr yX7_endsPutIn cX7_endsPutIn 1 (some .int) 0 0 0 [zr b x0] M (0, r, M') := by
  refine zEntry2 false (fun h9 => nomatch h9) zp_yX7_endsPutIn ⟨zr_cat _ _, trivial⟩ (Nat.le_of_ble_eq_true rfl) ?_
  obtain ⟨o, ho⟩ : ∃ o : Int32 × zM, o = (r, M') := ⟨_, rfl⟩
  rw [← ho] at h
  rw [show ((0, r, M') : Nat × Int32 × zM) = (0, o.1, o.2) by rw [ho]]
  show zV false l RX7 cX7_endsPutIn 1 (some .int) false 0 0 0 D T b gr M.2.2.2 (0, o.1, o.2) 0 0 0 [(0, zr b x0)] [] M
  unfold fX7_endsPutIn at h
  refine zV_aload_n (j := 0) dX7_endsPutIn_0 rfl rfl ?_
  obtain ⟨g1, h⟩ := zg_of h
  refine zV_getR zf_RX7_38 dX7_endsPutIn_1 rfl g1 ?_
  obtain ⟨g2, h⟩ := zg_of h
  refine zV_getI zf_RX7_184 dX7_endsPutIn_4 rfl g2 ?_
  exact zV_iret rfl dX7_endsPutIn_7 (by decide) (by decide) (z_ret h)
set_option maxHeartbeats 4000000 in
set_option maxRecDepth 100000 in
theorem vX7_errors (l : Launch) (D : va_G) (T : Nat → ClassId) (b : Nat) (gr : Bool) (x0 : Nat) (M : zM) (r : Int32) (M' : zM) (h : fX7_errors x0 M = some (r, M')) : zMet l D T b gr yX7_errors cX7_errors 1 (some .int) 0 0 0 [zr b x0] M (0, r, M') := by
  refine zEntry2 false (fun h9 => nomatch h9) zp_yX7_errors ⟨zr_cat _ _, trivial⟩ (Nat.le_of_ble_eq_true rfl) ?_
  obtain ⟨o, ho⟩ : ∃ o : Int32 × zM, o = (r, M') := ⟨_, rfl⟩
  rw [← ho] at h
  rw [show ((0, r, M') : Nat × Int32 × zM) = (0, o.1, o.2) by rw [ho]]
  show zV false l RX7 cX7_errors 1 (some .int) false 0 0 0 D T b gr M.2.2.2 (0, o.1, o.2) 0 0 0 [(0, zr b x0)] [] M
  unfold fX7_errors at h
  refine zV_aload_n (j := 0) dX7_errors_0 rfl rfl ?_
  obtain ⟨g1, h⟩ := zg_of h
  refine zV_getR zf_RX7_38 dX7_errors_1 rfl g1 ?_
  obtain ⟨g2, h⟩ := zg_of h
  refine zV_getI zf_RX7_187 dX7_errors_4 rfl g2 ?_
  exact zV_iret rfl dX7_errors_7 (by decide) (by decide) (z_ret h)
set_option maxHeartbeats 4000000 in
set_option maxRecDepth 100000 in
theorem vX7_errorKind (l : Launch) (hl : l.stackTraces = false) (D : va_G) (T : Nat → ClassId) (b : Nat) (x0 : Nat) (x1 : Int32) (M : zM) (o : Nat × Int32 × zM) (h : fX7_errorKind x0 x1 M = some o) : zMeX l D T b yX7_errorKind cX7_errorKind 2 (some .int) 7 1 6 [zr b x0, .int x1] M o := by
  refine zEntryX2 zp_yX7_errorKind ⟨zr_cat _ _, rfl, trivial⟩ (Nat.le_of_ble_eq_true rfl) ?_
  show zV true l RX7 cX7_errorKind 2 (some .int) false 7 1 6 D T b false M.2.2.2 o 0 0 0 [(0, zr b x0), (1, .int x1)] [] M
  unfold fX7_errorKind at h
  refine zV_iload_n (j := 1) dX7_errorKind_0 rfl rfl ?_
  refine zV_aload_n (j := 0) dX7_errorKind_1 rfl rfl ?_
  obtain ⟨g1, h⟩ := zg_of h
  refine zV_getR zf_RX7_38 dX7_errorKind_2 rfl g1 ?_
  obtain ⟨g2, h⟩ := zg_of h
  refine zV_getI zf_RX7_187 dX7_errorKind_5 rfl g2 ?_
  rcases zbx_of h with ⟨r3, M4, q5, h⟩ | ⟨t9, r3, M4, q5, h⟩
  · refine zV_callxSv (As := [.int x1, .int (zI M (zR M x0 4) 8)]) (rest := []) (vX7_checkIndex l hl D T b x1 (zI M (zR M x0 4) 8) M _ q5) zm_yX7_checkIndex zl_RX7_51 zs_yX7_checkIndex rfl rfl (zcs trivial (Nat.le_of_ble_eq_true rfl)) (by decide) (by decide) (by decide) dX7_errorKind_8 (fun h9 => absurd rfl h9) (fun _ => ?_)
    refine zV_aload_n (j := 0) dX7_errorKind_11 rfl rfl ?_
    obtain ⟨g6, h⟩ := zg_of h
    refine zV_getR zf_RX7_38 dX7_errorKind_12 rfl g6 ?_
    obtain ⟨g7, h⟩ := zg_of h
    refine zV_getR zf_RX7_190 dX7_errorKind_15 rfl g7 ?_
    refine zV_iload_n (j := 1) dX7_errorKind_18 rfl rfl ?_
    obtain ⟨g8, h⟩ := zg_of h
    obtain ⟨g9, h⟩ := zg_of h
    refine zV_iald dX7_errorKind_19 g8 g9 ?_
    exact zV_iret rfl dX7_errorKind_20 (by decide) (by decide) (z_retx h)
  · subst h
    exact zV_callxSv (As := [.int x1, .int (zI M (zR M x0 4) 8)]) (rest := []) (vX7_checkIndex l hl D T b x1 (zI M (zR M x0 4) 8) M _ q5) zm_yX7_checkIndex zl_RX7_51 zs_yX7_checkIndex rfl rfl (zcs trivial (Nat.le_of_ble_eq_true rfl)) (by decide) (by decide) (by decide) dX7_errorKind_8 (fun _ => ⟨rfl, rfl⟩) (fun h9 => absurd h9 (Nat.succ_ne_zero _))
set_option maxHeartbeats 4000000 in
set_option maxRecDepth 100000 in
theorem vX7_errorAt (l : Launch) (hl : l.stackTraces = false) (D : va_G) (T : Nat → ClassId) (b : Nat) (x0 : Nat) (x1 : Int32) (M : zM) (o : Nat × Int32 × zM) (h : fX7_errorAt x0 x1 M = some o) : zMeX l D T b yX7_errorAt cX7_errorAt 2 (some .int) 7 1 6 [zr b x0, .int x1] M o := by
  refine zEntryX2 zp_yX7_errorAt ⟨zr_cat _ _, rfl, trivial⟩ (Nat.le_of_ble_eq_true rfl) ?_
  show zV true l RX7 cX7_errorAt 2 (some .int) false 7 1 6 D T b false M.2.2.2 o 0 0 0 [(0, zr b x0), (1, .int x1)] [] M
  unfold fX7_errorAt at h
  refine zV_iload_n (j := 1) dX7_errorAt_0 rfl rfl ?_
  refine zV_aload_n (j := 0) dX7_errorAt_1 rfl rfl ?_
  obtain ⟨g1, h⟩ := zg_of h
  refine zV_getR zf_RX7_38 dX7_errorAt_2 rfl g1 ?_
  obtain ⟨g2, h⟩ := zg_of h
  refine zV_getI zf_RX7_187 dX7_errorAt_5 rfl g2 ?_
  rcases zbx_of h with ⟨r3, M4, q5, h⟩ | ⟨t9, r3, M4, q5, h⟩
  · refine zV_callxSv (As := [.int x1, .int (zI M (zR M x0 4) 8)]) (rest := []) (vX7_checkIndex l hl D T b x1 (zI M (zR M x0 4) 8) M _ q5) zm_yX7_checkIndex zl_RX7_51 zs_yX7_checkIndex rfl rfl (zcs trivial (Nat.le_of_ble_eq_true rfl)) (by decide) (by decide) (by decide) dX7_errorAt_8 (fun h9 => absurd rfl h9) (fun _ => ?_)
    refine zV_aload_n (j := 0) dX7_errorAt_11 rfl rfl ?_
    obtain ⟨g6, h⟩ := zg_of h
    refine zV_getR zf_RX7_38 dX7_errorAt_12 rfl g6 ?_
    obtain ⟨g7, h⟩ := zg_of h
    refine zV_getR zf_RX7_193 dX7_errorAt_15 rfl g7 ?_
    refine zV_iload_n (j := 1) dX7_errorAt_18 rfl rfl ?_
    obtain ⟨g8, h⟩ := zg_of h
    obtain ⟨g9, h⟩ := zg_of h
    refine zV_iald dX7_errorAt_19 g8 g9 ?_
    exact zV_iret rfl dX7_errorAt_20 (by decide) (by decide) (z_retx h)
  · subst h
    exact zV_callxSv (As := [.int x1, .int (zI M (zR M x0 4) 8)]) (rest := []) (vX7_checkIndex l hl D T b x1 (zI M (zR M x0 4) 8) M _ q5) zm_yX7_checkIndex zl_RX7_51 zs_yX7_checkIndex rfl rfl (zcs trivial (Nat.le_of_ble_eq_true rfl)) (by decide) (by decide) (by decide) dX7_errorAt_8 (fun _ => ⟨rfl, rfl⟩) (fun h9 => absurd h9 (Nat.succ_ne_zero _))
set_option maxHeartbeats 4000000 in
set_option maxRecDepth 100000 in
theorem vX7_normal (l : Launch) (D : va_G) (T : Nat → ClassId) (b : Nat) (gr : Bool) (x0 : Nat) (M : zM) (r : Int32) (M' : zM) (h : fX7_normal x0 M = some (r, M')) : zMet l D T b gr yX7_normal cX7_normal 1 (some .int) 0 0 0 [zr b x0] M (0, r, M') := by
  refine zEntry2 false (fun h9 => nomatch h9) zp_yX7_normal ⟨zr_cat _ _, trivial⟩ (Nat.le_of_ble_eq_true rfl) ?_
  obtain ⟨o, ho⟩ : ∃ o : Int32 × zM, o = (r, M') := ⟨_, rfl⟩
  rw [← ho] at h
  rw [show ((0, r, M') : Nat × Int32 × zM) = (0, o.1, o.2) by rw [ho]]
  show zV false l RX7 cX7_normal 1 (some .int) false 0 0 0 D T b gr M.2.2.2 (0, o.1, o.2) 0 0 0 [(0, zr b x0)] [] M
  unfold fX7_normal at h
  refine zV_aload_n (j := 0) dX7_normal_0 rfl rfl ?_
  obtain ⟨g1, h⟩ := zg_of h
  refine zV_getR zf_RX7_38 dX7_normal_1 rfl g1 ?_
  obtain ⟨g2, h⟩ := zg_of h
  refine zV_getR zf_RX7_133 dX7_normal_4 rfl g2 ?_
  obtain ⟨g3, h⟩ := zg_of h
  refine zV_getI zf_RX7_114 dX7_normal_7 rfl g3 ?_
  exact zV_iret rfl dX7_normal_10 (by decide) (by decide) (z_ret h)
set_option maxHeartbeats 4000000 in
set_option maxRecDepth 100000 in
theorem vX7_normalSort (l : Launch) (hl : l.stackTraces = false) (D : va_G) (T : Nat → ClassId) (b : Nat) (x0 : Nat) (x1 : Int32) (M : zM) (o : Nat × Int32 × zM) (h : fX7_normalSort x0 x1 M = some o) : zMeX l D T b yX7_normalSort cX7_normalSort 2 (some .int) 7 1 6 [zr b x0, .int x1] M o := by
  refine zEntryX2 zp_yX7_normalSort ⟨zr_cat _ _, rfl, trivial⟩ (Nat.le_of_ble_eq_true rfl) ?_
  show zV true l RX7 cX7_normalSort 2 (some .int) false 7 1 6 D T b false M.2.2.2 o 0 0 0 [(0, zr b x0), (1, .int x1)] [] M
  unfold fX7_normalSort at h
  refine zV_iload_n (j := 1) dX7_normalSort_0 rfl rfl ?_
  refine zV_aload_n (j := 0) dX7_normalSort_1 rfl rfl ?_
  obtain ⟨g1, h⟩ := zg_of h
  refine zV_getR zf_RX7_38 dX7_normalSort_2 rfl g1 ?_
  obtain ⟨g2, h⟩ := zg_of h
  refine zV_getR zf_RX7_133 dX7_normalSort_5 rfl g2 ?_
  obtain ⟨g3, h⟩ := zg_of h
  refine zV_getI zf_RX7_114 dX7_normalSort_8 rfl g3 ?_
  rcases zbx_of h with ⟨r4, M5, q6, h⟩ | ⟨t9, r4, M5, q6, h⟩
  · refine zV_callxSv (As := [.int x1, .int (zI M (zR M (zR M x0 4) 5) 2)]) (rest := []) (vX7_checkIndex l hl D T b x1 (zI M (zR M (zR M x0 4) 5) 2) M _ q6) zm_yX7_checkIndex zl_RX7_51 zs_yX7_checkIndex rfl rfl (zcs trivial (Nat.le_of_ble_eq_true rfl)) (by decide) (by decide) (by decide) dX7_normalSort_11 (fun h9 => absurd rfl h9) (fun _ => ?_)
    refine zV_aload_n (j := 0) dX7_normalSort_14 rfl rfl ?_
    obtain ⟨g7, h⟩ := zg_of h
    refine zV_getR zf_RX7_38 dX7_normalSort_15 rfl g7 ?_
    obtain ⟨g8, h⟩ := zg_of h
    refine zV_getR zf_RX7_133 dX7_normalSort_18 rfl g8 ?_
    obtain ⟨g9, h⟩ := zg_of h
    refine zV_getR zf_RX7_196 dX7_normalSort_21 rfl g9 ?_
    refine zV_iload_n (j := 1) dX7_normalSort_24 rfl rfl ?_
    obtain ⟨g10, h⟩ := zg_of h
    obtain ⟨g11, h⟩ := zg_of h
    refine zV_iald dX7_normalSort_25 g10 g11 ?_
    exact zV_iret rfl dX7_normalSort_26 (by decide) (by decide) (z_retx h)
  · subst h
    exact zV_callxSv (As := [.int x1, .int (zI M (zR M (zR M x0 4) 5) 2)]) (rest := []) (vX7_checkIndex l hl D T b x1 (zI M (zR M (zR M x0 4) 5) 2) M _ q6) zm_yX7_checkIndex zl_RX7_51 zs_yX7_checkIndex rfl rfl (zcs trivial (Nat.le_of_ble_eq_true rfl)) (by decide) (by decide) (by decide) dX7_normalSort_11 (fun _ => ⟨rfl, rfl⟩) (fun h9 => absurd h9 (Nat.succ_ne_zero _))
set_option maxHeartbeats 4000000 in
set_option maxRecDepth 100000 in
theorem vX7_normalValue (l : Launch) (hl : l.stackTraces = false) (D : va_G) (T : Nat → ClassId) (b : Nat) (x0 : Nat) (x1 : Int32) (M : zM) (o : Nat × Int32 × zM) (h : fX7_normalValue x0 x1 M = some o) : zMeX l D T b yX7_normalValue cX7_normalValue 2 (some .int) 7 1 6 [zr b x0, .int x1] M o := by
  refine zEntryX2 zp_yX7_normalValue ⟨zr_cat _ _, rfl, trivial⟩ (Nat.le_of_ble_eq_true rfl) ?_
  show zV true l RX7 cX7_normalValue 2 (some .int) false 7 1 6 D T b false M.2.2.2 o 0 0 0 [(0, zr b x0), (1, .int x1)] [] M
  unfold fX7_normalValue at h
  refine zV_iload_n (j := 1) dX7_normalValue_0 rfl rfl ?_
  refine zV_aload_n (j := 0) dX7_normalValue_1 rfl rfl ?_
  obtain ⟨g1, h⟩ := zg_of h
  refine zV_getR zf_RX7_38 dX7_normalValue_2 rfl g1 ?_
  obtain ⟨g2, h⟩ := zg_of h
  refine zV_getR zf_RX7_133 dX7_normalValue_5 rfl g2 ?_
  obtain ⟨g3, h⟩ := zg_of h
  refine zV_getI zf_RX7_114 dX7_normalValue_8 rfl g3 ?_
  rcases zbx_of h with ⟨r4, M5, q6, h⟩ | ⟨t9, r4, M5, q6, h⟩
  · refine zV_callxSv (As := [.int x1, .int (zI M (zR M (zR M x0 4) 5) 2)]) (rest := []) (vX7_checkIndex l hl D T b x1 (zI M (zR M (zR M x0 4) 5) 2) M _ q6) zm_yX7_checkIndex zl_RX7_51 zs_yX7_checkIndex rfl rfl (zcs trivial (Nat.le_of_ble_eq_true rfl)) (by decide) (by decide) (by decide) dX7_normalValue_11 (fun h9 => absurd rfl h9) (fun _ => ?_)
    refine zV_aload_n (j := 0) dX7_normalValue_14 rfl rfl ?_
    obtain ⟨g7, h⟩ := zg_of h
    refine zV_getR zf_RX7_38 dX7_normalValue_15 rfl g7 ?_
    obtain ⟨g8, h⟩ := zg_of h
    refine zV_getR zf_RX7_133 dX7_normalValue_18 rfl g8 ?_
    obtain ⟨g9, h⟩ := zg_of h
    refine zV_getR zf_RX7_199 dX7_normalValue_21 rfl g9 ?_
    refine zV_iload_n (j := 1) dX7_normalValue_24 rfl rfl ?_
    obtain ⟨g10, h⟩ := zg_of h
    obtain ⟨g11, h⟩ := zg_of h
    refine zV_iald dX7_normalValue_25 g10 g11 ?_
    exact zV_iret rfl dX7_normalValue_26 (by decide) (by decide) (z_retx h)
  · subst h
    exact zV_callxSv (As := [.int x1, .int (zI M (zR M (zR M x0 4) 5) 2)]) (rest := []) (vX7_checkIndex l hl D T b x1 (zI M (zR M (zR M x0 4) 5) 2) M _ q6) zm_yX7_checkIndex zl_RX7_51 zs_yX7_checkIndex rfl rfl (zcs trivial (Nat.le_of_ble_eq_true rfl)) (by decide) (by decide) (by decide) dX7_normalValue_11 (fun _ => ⟨rfl, rfl⟩) (fun h9 => absurd h9 (Nat.succ_ne_zero _))
set_option maxHeartbeats 4000000 in
set_option maxRecDepth 100000 in
theorem vX7_isSame (l : Launch) (D : va_G) (T : Nat → ClassId) (b : Nat) (gr : Bool) (x0 : Nat) (M : zM) (r : Int32) (M' : zM) (h : fX7_isSame x0 M = some (r, M')) : zMet l D T b gr yX7_isSame cX7_isSame 1 (some .boolean) 4 0 0 [zr b x0] M (0, r, M') := by
  refine zEntry2 false (fun h9 => nomatch h9) zp_yX7_isSame ⟨zr_cat _ _, trivial⟩ (Nat.le_of_ble_eq_true rfl) ?_
  obtain ⟨o, ho⟩ : ∃ o : Int32 × zM, o = (r, M') := ⟨_, rfl⟩
  rw [← ho] at h
  rw [show ((0, r, M') : Nat × Int32 × zM) = (0, o.1, o.2) by rw [ho]]
  show zV false l RX7 cX7_isSame 1 (some .boolean) false 4 0 0 D T b gr M.2.2.2 (0, o.1, o.2) 0 0 0 [(0, zr b x0)] [] M
  unfold fX7_isSame at h
  refine zV_aload_n (j := 0) dX7_isSame_0 rfl rfl ?_
  obtain ⟨g1, h⟩ := zg_of h
  refine zV_getR zf_RX7_38 dX7_isSame_1 rfl g1 ?_
  obtain ⟨g2, h⟩ := zg_of h
  obtain ⟨r3, M4, q5, h⟩ := zb_of h
  refine zV_callVi (ci := 2) (As := []) (rest := []) (vX2_isNormalFormReadAsWritten l D T b gr (zR M x0 4) M _ _ q5) zm_yX2_isNormalFormReadAsWritten zl_RX7_202 zi_yX2_isNormalFormReadAsWritten ze_yX2_isNormalFormReadAsWritten zcI2 g2 rfl rfl (zcs trivial (Nat.le_of_ble_eq_true rfl)) (by decide) (by decide) (by decide) dX7_isSame_4 ?_
  obtain ⟨g6, h⟩ := zg_of h
  exact zV_zret rfl dX7_isSame_7 (by decide) (by decide) g6 (z_ret h)
set_option maxHeartbeats 4000000 in
set_option maxRecDepth 100000 in
theorem vX7_ways_75 {l : Launch} {D : va_G} {T : Nat → ClassId} {b : Nat} {n0 : Nat} (hl : l.stackTraces = false) (x0 : Nat) (M : zM) (o : Nat × Int32 × zM) (h : fX7_ways_75 x0 M = some o) : zV true l RX7 cX7_ways 3 (some .int) false 242 1 6 D T b false n0 o 0 0 75 [(0, zr b x0)] [] M := by
  unfold fX7_ways_75 at h
  refine zV_aload_n (j := 0) dX7_ways_75 rfl rfl ?_
  obtain ⟨g1, h⟩ := zg_of h
  refine zV_getR zf_RX7_47 dX7_ways_76 rfl g1 ?_
  obtain ⟨g2, h⟩ := zg_of h
  obtain ⟨r3, M4, q5, h⟩ := zb_of h
  refine zV_callVi (ci := 6) (As := []) (rest := []) (vX6_countWays l D T b false (zR M x0 5) M _ _ q5) zm_yX6_countWays zl_RX7_210 zi_yX6_countWays ze_yX6_countWays zcI6 g2 rfl rfl (zcs trivial (Nat.le_of_ble_eq_true rfl)) (by decide) (by decide) (by decide) dX7_ways_79 ?_
  exact zV_iret rfl dX7_ways_82 (by decide) (by decide) (z_retx h)
set_option maxHeartbeats 4000000 in
set_option maxRecDepth 100000 in
theorem vX7_ways_69 {l : Launch} {D : va_G} {T : Nat → ClassId} {b : Nat} {n0 : Nat} (hl : l.stackTraces = false) (k24 : Nat → Int32 → zM → Option (Nat × Int32 × zM)) (hk24 : ∀ (z0 : Nat) (z1 : Int32) (N : zM) (o : Nat × Int32 × zM), k24 z0 z1 N = some o → zV true l RX7 cX7_ways 3 (some .int) false 242 1 6 D T b false n0 o 0 0 24 [(0, zr b z0), (1, .int z1)] [] N) (x0 : Nat) (x1 : Int32) (M : zM) (o : Nat × Int32 × zM) (h : fX7_ways_69 k24 x0 x1 M = some o) : zV true l RX7 cX7_ways 3 (some .int) false 242 1 6 D T b false n0 o 0 0 69 [(0, zr b x0), (1, .int x1)] [] M := by
  unfold fX7_ways_69 at h
  obtain ⟨u6, e7⟩ : ∃ y : Int32, y = x1 + 1 := ⟨_, rfl⟩
  replace h := zlet_of h e7
  refine zV_iinc (j := 1) (v := u6) [(1, .int u6), (0, zr b x0)] dX7_ways_69 rfl (by rw [e7]; rfl) (by decide) rfl ?_
  refine zV_goto (tgt := 24) dX7_ways_72 (by decide) ?_
  refine zV_pk [1, 0] rfl ?_
  refine zV_wd 0 0 (by decide) (by decide) ?_
  exact hk24 x0 u6 M _ h
set_option maxHeartbeats 4000000 in
set_option maxRecDepth 100000 in
theorem vX7_ways_59 {l : Launch} {D : va_G} {T : Nat → ClassId} {b : Nat} {n0 : Nat} (hl : l.stackTraces = false) (M : zM) (o : Nat × Int32 × zM) (h : fX7_ways_59 M = some o) : zV true l RX7 cX7_ways 3 (some .int) false 242 1 6 D T b false n0 o 0 0 59 [] [] M := by
  unfold fX7_ways_59 at h
  exact zV_throw (text := "the text has a token that ways cannot have") 3 hl (by decide) (by decide) rfl zk_RX7_72 zxK3 (by decide +kernel) dX7_ways_59 dX7_ways_62 dX7_ways_63 dX7_ways_65 dX7_ways_68 (by decide) (zcs trivial (Nat.le_of_ble_eq_true rfl)) (by decide) (by decide) (z_retx h)
set_option maxHeartbeats 4000000 in
set_option maxRecDepth 100000 in
theorem vX7_ways_24 {l : Launch} {D : va_G} {T : Nat → ClassId} {b : Nat} {n0 : Nat} (hl : l.stackTraces = false) : ∀ (n : Nat) (x0 : Nat) (x1 : Int32) (M : zM) (o : Nat × Int32 × zM), fX7_ways_24 n x0 x1 M = some o → zV true l RX7 cX7_ways 3 (some .int) false 242 1 6 D T b false n0 o 0 0 24 [(0, zr b x0), (1, .int x1)] [] M := by
  intro n
  induction n with
  | zero =>
    intro x0 x1 M o h
    rw [fX7_ways_24] at h
    cases h
  | succ n ih =>
    intro x0 x1 M o h
    rw [fX7_ways_24] at h
    refine zV_iload_n (j := 1) dX7_ways_24 rfl rfl ?_
    refine zV_aload_n (j := 0) dX7_ways_25 rfl rfl ?_
    obtain ⟨g8, h⟩ := zg_of h
    refine zV_getR zf_RX7_21 dX7_ways_26 rfl g8 ?_
    obtain ⟨g9, h⟩ := zg_of h
    refine zV_getI zf_RX7_114 dX7_ways_29 rfl g9 ?_
    refine zV_icmp_ge (tgt := 75) dX7_ways_32 (by decide) (fun c10 => ?_) (fun c10 => ?_)
    · replace h := z_t c10 h
      refine zV_pk [0] rfl ?_
      refine zV_wd 0 0 (by decide) (by decide) ?_
      exact vX7_ways_75 hl x0 M _ h
    · replace h := z_f c10 h
      refine zV_aload_n (j := 0) dX7_ways_35 rfl rfl ?_
      refine zV_getR zf_RX7_21 dX7_ways_36 rfl g8 ?_
      refine zV_getR zf_RX7_196 dX7_ways_39 rfl g9 ?_
      refine zV_iload_n (j := 1) dX7_ways_42 rfl rfl ?_
      obtain ⟨g11, h⟩ := zg_of h
      obtain ⟨g12, h⟩ := zg_of h
      refine zV_iald dX7_ways_43 g11 g12 ?_
      refine zV_top (fun u13 e14 => ?_)
      replace h := zlet_of h e14
      refine zV_istore_n [(2, .int u13), (0, zr b x0), (1, .int x1)] dX7_ways_44 rfl (by decide) rfl ?_
      refine zV_iload_n (j := 0) dX7_ways_45 rfl rfl ?_
      refine zV_if_eq (tgt := 69) dX7_ways_46 (by decide) (fun c15 => ?_) (fun c15 => ?_)
      · replace h := z_t c15 h
        refine zV_pk [1, 2] rfl ?_
        refine zV_wd 0 0 (by decide) (by decide) ?_
        exact vX7_ways_69 hl (fX7_ways_24 n) ih x0 x1 M _ h
      · replace h := z_f c15 h
        refine zV_iload_n (j := 0) dX7_ways_49 rfl rfl ?_
        refine zV_iconst (v := 1) dX7_ways_50 (by decide) ?_
        refine zV_icmp_eq (tgt := 69) dX7_ways_51 (by decide) (fun c16 => ?_) (fun c16 => ?_)
        · replace h := z_t c16 h
          refine zV_pk [1, 2] rfl ?_
          refine zV_wd 0 0 (by decide) (by decide) ?_
          exact vX7_ways_69 hl (fX7_ways_24 n) ih x0 x1 M _ h
        · replace h := z_f c16 h
          refine zV_iload_n (j := 0) dX7_ways_54 rfl rfl ?_
          refine zV_iconst (v := 4) dX7_ways_55 (by decide) ?_
          refine zV_icmp_eq (tgt := 69) dX7_ways_56 (by decide) (fun c17 => ?_) (fun c17 => ?_)
          · replace h := z_t c17 h
            refine zV_pk [1, 2] rfl ?_
            refine zV_wd 0 0 (by decide) (by decide) ?_
            exact vX7_ways_69 hl (fX7_ways_24 n) ih x0 x1 M _ h
          · replace h := z_f c17 h
            refine zV_pk [] rfl ?_
            refine zV_wd 0 0 (by decide) (by decide) ?_
            exact vX7_ways_59 hl M _ h
set_option maxHeartbeats 4000000 in
set_option maxRecDepth 100000 in
theorem vX7_ways (l : Launch) (hl : l.stackTraces = false) (D : va_G) (T : Nat → ClassId) (b : Nat) (x0 : Nat) (M : zM) (o : Nat × Int32 × zM) (h : fX7_ways x0 M = some o) : zMeX l D T b yX7_ways cX7_ways 3 (some .int) 242 1 6 [zr b x0] M o := by
  refine zEntryX2 zp_yX7_ways ⟨zr_cat _ _, trivial⟩ (Nat.le_of_ble_eq_true rfl) ?_
  show zV true l RX7 cX7_ways 3 (some .int) false 242 1 6 D T b false M.2.2.2 o 0 0 0 [(0, zr b x0)] [] M
  unfold fX7_ways at h
  refine zV_aload_n (j := 0) dX7_ways_0 rfl rfl ?_
  obtain ⟨g18, h⟩ := zg_of h
  refine zV_getR zf_RX7_21 dX7_ways_1 rfl g18 ?_
  obtain ⟨g19, h⟩ := zg_of h
  refine zV_getI zf_RX7_114 dX7_ways_4 rfl g19 ?_
  refine zV_bipush (v := 6) dX7_ways_7 (by decide) ?_
  refine zV_icmp_le (tgt := 22) dX7_ways_9 (by decide) (fun c20 => ?_) (fun c20 => ?_)
  · replace h := z_t c20 h
    refine zV_iconst (v := 0) dX7_ways_22 (by decide) ?_
    refine zV_istore_n [(1, .int 0), (0, zr b x0)] dX7_ways_23 rfl (by decide) rfl ?_
    refine zV_pk [1, 0] rfl ?_
    refine zV_wd 0 0 (by decide) (by decide) ?_
    exact vX7_ways_24 hl 10000 x0 0 M _ h
  · replace h := z_f c20 h
    exact zV_throw (text := "the text is too long for its ways") 3 hl (by decide) (by decide) rfl zk_RX7_72 zxK3 (by decide +kernel) dX7_ways_12 dX7_ways_15 dX7_ways_16 dX7_ways_18 dX7_ways_21 (by decide) (zcs trivial (Nat.le_of_ble_eq_true rfl)) (by decide) (by decide) (z_retx h)
set_option maxHeartbeats 4000000 in
set_option maxRecDepth 100000 in
theorem vX8_keepsState_105 {l : Launch} {D : va_G} {T : Nat → ClassId} {b : Nat} {gr : Bool} {n0 : Nat} (k55 : Nat → Int32 → Int32 → zM → Option (Int32 × zM)) (hk55 : ∀ (z0 : Nat) (z1 : Int32) (z2 : Int32) (N : zM) (o : Int32 × zM), k55 z0 z1 z2 N = some o → zV false l RX8 cX8_keepsState 3 none false 0 0 0 D T b gr n0 (0, o.1, o.2) 0 0 55 [(0, zr b z0), (1, .int z1), (2, .int z2)] [] N) (x0 : Nat) (x1 : Int32) (x2 : Int32) (s0 : Nat) (s1 : Int32) (s2 : Int32) (s3 : Int32) (M : zM) (o : Int32 × zM) (h : fX8_keepsState_105 k55 x0 x1 x2 s0 s1 s2 s3 M = some o) : zV false l RX8 cX8_keepsState 3 none false 0 0 0 D T b gr n0 (0, o.1, o.2) 0 0 105 [(0, zr b x0), (1, .int x1), (2, .int x2)] [.int s3, .int s2, .int s1, zr b s0] M := by
  unfold fX8_keepsState_105 at h
  refine zV_iadd dX8_keepsState_105 ?_
  obtain ⟨g1, h⟩ := zg_of h
  obtain ⟨g2, h⟩ := zg_of h
  refine zV_iast dX8_keepsState_106 g1 g2 ?_
  refine zV_mem (fun M3 e4 => ?_)
  replace h := zlet_of h e4
  obtain ⟨u5, e6⟩ : ∃ y : Int32, y = x2 + 1 := ⟨_, rfl⟩
  replace h := zlet_of h e6
  refine zV_iinc (j := 2) (v := u5) [(2, .int u5), (0, zr b x0), (1, .int x1)] dX8_keepsState_107 rfl (by rw [e6]; rfl) (by decide) rfl ?_
  refine zV_goto (tgt := 55) dX8_keepsState_110 (by decide) ?_
  refine zV_pk [1, 2, 0] rfl ?_
  exact hk55 x0 x1 u5 M3 _ h
set_option maxHeartbeats 4000000 in
set_option maxRecDepth 100000 in
theorem vX8_keepsState_55 {l : Launch} {D : va_G} {T : Nat → ClassId} {b : Nat} {gr : Bool} {n0 : Nat} : ∀ (n : Nat) (x0 : Nat) (x1 : Int32) (x2 : Int32) (M : zM) (o : Int32 × zM), fX8_keepsState_55 n x0 x1 x2 M = some o → zV false l RX8 cX8_keepsState 3 none false 0 0 0 D T b gr n0 (0, o.1, o.2) 0 0 55 [(0, zr b x0), (1, .int x1), (2, .int x2)] [] M := by
  intro n
  induction n with
  | zero =>
    intro x0 x1 x2 M o h
    rw [fX8_keepsState_55] at h
    cases h
  | succ n ih =>
    intro x0 x1 x2 M o h
    rw [fX8_keepsState_55] at h
    refine zV_iload_n (j := 2) dX8_keepsState_55 rfl rfl ?_
    refine zV_aload_n (j := 0) dX8_keepsState_56 rfl rfl ?_
    obtain ⟨g7, h⟩ := zg_of h
    refine zV_getI zf_RX8_190 dX8_keepsState_57 rfl g7 ?_
    refine zV_icmp_ge (tgt := 113) dX8_keepsState_60 (by decide) (fun c8 => ?_) (fun c8 => ?_)
    · replace h := z_t c8 h
      exact zV_vret (x := 0) rfl dX8_keepsState_113 (by decide) (by decide) (z_ret h)
    · replace h := z_f c8 h
      refine zV_aload_n (j := 0) dX8_keepsState_63 rfl rfl ?_
      refine zV_getR zf_RX8_104 dX8_keepsState_64 rfl g7 ?_
      refine zV_bipush (v := 20) dX8_keepsState_67 (by decide) ?_
      refine zV_iload_n (j := 1) dX8_keepsState_69 rfl rfl ?_
      refine zV_imul dX8_keepsState_70 ?_
      refine zV_iload_n (j := 2) dX8_keepsState_71 rfl rfl ?_
      refine zV_iadd dX8_keepsState_72 ?_
      refine zV_bipush (v := 16) dX8_keepsState_73 (by decide) ?_
      refine zV_aload_n (j := 0) dX8_keepsState_75 rfl rfl ?_
      refine zV_getR zf_RX8_56 dX8_keepsState_76 rfl g7 ?_
      refine zV_iload_n (j := 2) dX8_keepsState_79 rfl rfl ?_
      obtain ⟨g9, h⟩ := zg_of h
      obtain ⟨g10, h⟩ := zg_of h
      refine zV_iald dX8_keepsState_80 g9 g10 ?_
      refine zV_imul dX8_keepsState_81 ?_
      refine zV_iconst (v := 2) dX8_keepsState_82 (by decide) ?_
      refine zV_aload_n (j := 0) dX8_keepsState_83 rfl rfl ?_
      refine zV_getR zf_RX8_59 dX8_keepsState_84 rfl g7 ?_
      refine zV_iload_n (j := 2) dX8_keepsState_87 rfl rfl ?_
      obtain ⟨g11, h⟩ := zg_of h
      obtain ⟨g12, h⟩ := zg_of h
      refine zV_iald dX8_keepsState_88 g11 g12 ?_
      refine zV_imul dX8_keepsState_89 ?_
      refine zV_iadd dX8_keepsState_90 ?_
      refine zV_aload_n (j := 0) dX8_keepsState_91 rfl rfl ?_
      refine zV_getR zf_RX8_62 dX8_keepsState_92 rfl g7 ?_
      refine zV_iload_n (j := 2) dX8_keepsState_95 rfl rfl ?_
      obtain ⟨g13, h⟩ := zg_of h
      obtain ⟨g14, h⟩ := zg_of h
      refine zV_zald dX8_keepsState_96 g13 g14 ?_
      refine zV_if_eq (tgt := 104) dX8_keepsState_97 (by decide) (fun c15 => ?_) (fun c15 => ?_)
      · replace h := z_t c15 h
        refine zV_iconst (v := 0) dX8_keepsState_104 (by decide) ?_
        exact vX8_keepsState_105 (fX8_keepsState_55 n) ih x0 x1 x2 (zR M x0 43) ((20 * x1) + x2) ((16 * (zI M (zR M x0 19) x2.toNatClampNeg)) + (2 * (zI M (zR M x0 20) x2.toNatClampNeg))) 0 M _ h
      · replace h := z_f c15 h
        refine zV_iconst (v := 1) dX8_keepsState_100 (by decide) ?_
        refine zV_goto (tgt := 105) dX8_keepsState_101 (by decide) ?_
        exact vX8_keepsState_105 (fX8_keepsState_55 n) ih x0 x1 x2 (zR M x0 43) ((20 * x1) + x2) ((16 * (zI M (zR M x0 19) x2.toNatClampNeg)) + (2 * (zI M (zR M x0 20) x2.toNatClampNeg))) 1 M _ h
set_option maxHeartbeats 4000000 in
set_option maxRecDepth 100000 in
theorem vX8_keepsState (l : Launch) (D : va_G) (T : Nat → ClassId) (b : Nat) (gr : Bool) (x0 : Nat) (M : zM) (r : Int32) (M' : zM) (h : fX8_keepsState x0 M = some (r, M')) : zMet l D T b gr yX8_keepsState cX8_keepsState 3 none 0 0 0 [zr b x0] M (0, r, M') := by
  refine zEntry2 false (fun h9 => nomatch h9) zp_yX8_keepsState ⟨zr_cat _ _, trivial⟩ (Nat.le_of_ble_eq_true rfl) ?_
  obtain ⟨o, ho⟩ : ∃ o : Int32 × zM, o = (r, M') := ⟨_, rfl⟩
  rw [← ho] at h
  rw [show ((0, r, M') : Nat × Int32 × zM) = (0, o.1, o.2) by rw [ho]]
  show zV false l RX8 cX8_keepsState 3 none false 0 0 0 D T b gr M.2.2.2 (0, o.1, o.2) 0 0 0 [(0, zr b x0)] [] M
  unfold fX8_keepsState at h
  refine zV_aload_n (j := 0) dX8_keepsState_0 rfl rfl ?_
  obtain ⟨g16, h⟩ := zg_of h
  refine zV_getR zf_RX8_92 dX8_keepsState_1 rfl g16 ?_
  refine zV_iconst (v := 0) dX8_keepsState_4 (by decide) ?_
  obtain ⟨g17, h⟩ := zg_of h
  obtain ⟨g18, h⟩ := zg_of h
  refine zV_iald dX8_keepsState_5 g17 g18 ?_
  refine zV_top (fun u19 e20 => ?_)
  replace h := zlet_of h e20
  refine zV_istore_n [(1, .int u19), (0, zr b x0)] dX8_keepsState_6 rfl (by decide) rfl ?_
  refine zV_aload_n (j := 1) dX8_keepsState_7 rfl rfl ?_
  refine zV_getI zf_RX8_281 dX8_keepsState_8 rfl g16 ?_
  refine zV_if_eq (tgt := 113) dX8_keepsState_11 (by decide) (fun c21 => ?_) (fun c21 => ?_)
  · replace h := z_t c21 h
    exact zV_vret (x := 0) rfl dX8_keepsState_113 (by decide) (by decide) (z_ret h)
  · replace h := z_f c21 h
    refine zV_aload_n (j := 1) dX8_keepsState_14 rfl rfl ?_
    refine zV_getI zf_RX8_246 dX8_keepsState_15 rfl g16 ?_
    refine zV_if_ne (tgt := 113) dX8_keepsState_18 (by decide) (fun c22 => ?_) (fun c22 => ?_)
    · replace h := z_f c22 h
      exact zV_vret (x := 0) rfl dX8_keepsState_113 (by decide) (by decide) (z_ret h)
    · replace h := z_t c22 h
      refine zV_aload_n (j := 1) dX8_keepsState_21 rfl rfl ?_
      refine zV_getR zf_RX8_101 dX8_keepsState_22 rfl g16 ?_
      refine zV_iload_n (j := 0) dX8_keepsState_25 rfl rfl ?_
      refine zV_aload_n (j := 1) dX8_keepsState_26 rfl rfl ?_
      refine zV_getI zf_RX8_190 dX8_keepsState_27 rfl g16 ?_
      obtain ⟨g23, h⟩ := zg_of h
      obtain ⟨g24, h⟩ := zg_of h
      refine zV_iast dX8_keepsState_30 g23 g24 ?_
      refine zV_mem (fun M25 e26 => ?_)
      replace h := zlet_of h e26
      refine zV_aload_n (j := 1) dX8_keepsState_31 rfl rfl ?_
      refine zV_getR zf_RX8_107 dX8_keepsState_32 rfl (zkI e26 g16) ?_
      refine zV_iload_n (j := 0) dX8_keepsState_35 rfl rfl ?_
      refine zV_aload_n (j := 1) dX8_keepsState_36 rfl rfl ?_
      refine zV_getI zf_RX8_204 dX8_keepsState_37 rfl (zkI e26 g16) ?_
      obtain ⟨g27, h⟩ := zg_of h
      obtain ⟨g28, h⟩ := zg_of h
      refine zV_iast dX8_keepsState_40 g27 g28 ?_
      refine zV_mem (fun M29 e30 => ?_)
      replace h := zlet_of h e30
      refine zV_aload_n (j := 1) dX8_keepsState_41 rfl rfl ?_
      refine zV_getR zf_RX8_110 dX8_keepsState_42 rfl (zkI e30 (zkI e26 g16)) ?_
      refine zV_iload_n (j := 0) dX8_keepsState_45 rfl rfl ?_
      refine zV_aload_n (j := 1) dX8_keepsState_46 rfl rfl ?_
      refine zV_getR zf_RX8_95 dX8_keepsState_47 rfl (zkI e30 (zkI e26 g16)) ?_
      refine zV_iconst (v := 0) dX8_keepsState_50 (by decide) ?_
      obtain ⟨g31, h⟩ := zg_of h
      obtain ⟨g32, h⟩ := zg_of h
      refine zV_iald dX8_keepsState_51 g31 g32 ?_
      obtain ⟨g33, h⟩ := zg_of h
      obtain ⟨g34, h⟩ := zg_of h
      refine zV_iast dX8_keepsState_52 g33 g34 ?_
      refine zV_mem (fun M35 e36 => ?_)
      replace h := zlet_of h e36
      refine zV_iconst (v := 0) dX8_keepsState_53 (by decide) ?_
      refine zV_istore_n [(2, .int 0), (1, .int u19), (0, zr b x0)] dX8_keepsState_54 rfl (by decide) rfl ?_
      refine zV_pk [2, 1, 0] rfl ?_
      exact vX8_keepsState_55 10000 x0 u19 0 M35 _ h
set_option maxHeartbeats 4000000 in
set_option maxRecDepth 100000 in
theorem vX8_levelLength (l : Launch) (D : va_G) (T : Nat → ClassId) (b : Nat) (gr : Bool) (x0 : Nat) (x1 : Int32) (M : zM) (r : Int32) (M' : zM) (h : fX8_levelLength x0 x1 M = some (r, M')) : zMet l D T b gr yX8_levelLength cX8_levelLength 2 (some .int) 0 0 0 [zr b x0, .int x1] M (0, r, M') := by
  refine zEntry2 false (fun h9 => nomatch h9) zp_yX8_levelLength ⟨zr_cat _ _, rfl, trivial⟩ (Nat.le_of_ble_eq_true rfl) ?_
  obtain ⟨o, ho⟩ : ∃ o : Int32 × zM, o = (r, M') := ⟨_, rfl⟩
  rw [← ho] at h
  rw [show ((0, r, M') : Nat × Int32 × zM) = (0, o.1, o.2) by rw [ho]]
  show zV false l RX8 cX8_levelLength 2 (some .int) false 0 0 0 D T b gr M.2.2.2 (0, o.1, o.2) 0 0 0 [(0, zr b x0), (1, .int x1)] [] M
  unfold fX8_levelLength at h
  refine zV_iload_n (j := 1) dX8_levelLength_0 rfl rfl ?_
  refine zV_if_ne (tgt := 11) dX8_levelLength_1 (by decide) (fun c1 => ?_) (fun c1 => ?_)
  · replace h := z_f c1 h
    refine zV_aload_n (j := 0) dX8_levelLength_11 rfl rfl ?_
    obtain ⟨g2, h⟩ := zg_of h
    refine zV_getR zf_RX8_38 dX8_levelLength_12 rfl g2 ?_
    refine zV_aload_n (j := 0) dX8_levelLength_15 rfl rfl ?_
    refine zV_getR zf_RX8_89 dX8_levelLength_16 rfl g2 ?_
    refine zV_iload_n (j := 1) dX8_levelLength_19 rfl rfl ?_
    obtain ⟨g3, h⟩ := zg_of h
    obtain ⟨g4, h⟩ := zg_of h
    refine zV_iald dX8_levelLength_20 g3 g4 ?_
    obtain ⟨g5, h⟩ := zg_of h
    obtain ⟨g6, h⟩ := zg_of h
    refine zV_iald dX8_levelLength_21 g5 g6 ?_
    exact zV_iret rfl dX8_levelLength_22 (by decide) (by decide) (z_ret h)
  · replace h := z_t c1 h
    refine zV_aload_n (j := 0) dX8_levelLength_4 rfl rfl ?_
    obtain ⟨g7, h⟩ := zg_of h
    refine zV_getI zf_RX8_243 dX8_levelLength_5 rfl g7 ?_
    refine zV_goto (tgt := 22) dX8_levelLength_8 (by decide) ?_
    exact zV_iret rfl dX8_levelLength_22 (by decide) (by decide) (z_ret h)
set_option maxHeartbeats 4000000 in
set_option maxRecDepth 100000 in
theorem vX8_fails (l : Launch) (D : va_G) (T : Nat → ClassId) (b : Nat) (gr : Bool) (x0 : Nat) (x1 : Int32) (M : zM) (r : Int32) (M' : zM) (h : fX8_fails x0 x1 M = some (r, M')) : zMet l D T b gr yX8_fails cX8_fails 2 none 0 0 0 [zr b x0, .int x1] M (0, r, M') := by
  refine zEntry2 false (fun h9 => nomatch h9) zp_yX8_fails ⟨zr_cat _ _, rfl, trivial⟩ (Nat.le_of_ble_eq_true rfl) ?_
  obtain ⟨o, ho⟩ : ∃ o : Int32 × zM, o = (r, M') := ⟨_, rfl⟩
  rw [← ho] at h
  rw [show ((0, r, M') : Nat × Int32 × zM) = (0, o.1, o.2) by rw [ho]]
  show zV false l RX8 cX8_fails 2 none false 0 0 0 D T b gr M.2.2.2 (0, o.1, o.2) 0 0 0 [(0, zr b x0), (1, .int x1)] [] M
  unfold fX8_fails at h
  refine zV_aload_n (j := 0) dX8_fails_0 rfl rfl ?_
  obtain ⟨g1, h⟩ := zg_of h
  refine zV_getR zf_RX8_83 dX8_fails_1 rfl g1 ?_
  refine zV_aload_n (j := 0) dX8_fails_4 rfl rfl ?_
  refine zV_getI zf_RX8_184 dX8_fails_5 rfl g1 ?_
  refine zV_iload_n (j := 1) dX8_fails_8 rfl rfl ?_
  obtain ⟨g2, h⟩ := zg_of h
  obtain ⟨g3, h⟩ := zg_of h
  refine zV_iast dX8_fails_9 g2 g3 ?_
  refine zV_mem (fun M4 e5 => ?_)
  replace h := zlet_of h e5
  refine zV_aload_n (j := 0) dX8_fails_10 rfl rfl ?_
  refine zV_getR zf_RX8_86 dX8_fails_11 rfl (zkI e5 g1) ?_
  refine zV_aload_n (j := 0) dX8_fails_14 rfl rfl ?_
  refine zV_getI zf_RX8_184 dX8_fails_15 rfl (zkI e5 g1) ?_
  refine zV_aload_n (j := 0) dX8_fails_18 rfl rfl ?_
  refine zV_getR zf_RX8_92 dX8_fails_19 rfl (zkI e5 g1) ?_
  refine zV_iconst (v := 0) dX8_fails_22 (by decide) ?_
  obtain ⟨g6, h⟩ := zg_of h
  obtain ⟨g7, h⟩ := zg_of h
  refine zV_iald dX8_fails_23 g6 g7 ?_
  obtain ⟨g8, h⟩ := zg_of h
  obtain ⟨g9, h⟩ := zg_of h
  refine zV_iast dX8_fails_24 g8 g9 ?_
  refine zV_mem (fun M10 e11 => ?_)
  replace h := zlet_of h e11
  refine zV_aload_n (j := 0) dX8_fails_25 rfl rfl ?_
  refine zV_dup dX8_fails_26 (zr_cat _ _) ?_
  refine zV_getI zf_RX8_184 dX8_fails_27 rfl (zkI e11 (zkI e5 g1)) ?_
  refine zV_iconst (v := 1) dX8_fails_30 (by decide) ?_
  refine zV_iadd dX8_fails_31 ?_
  refine zV_putI zf_RX8_184 dX8_fails_32 rfl rfl (zkI e11 (zkI e5 g1)) ?_
  refine zV_mem (fun M12 e13 => ?_)
  replace h := zlet_of h e13
  exact zV_vret (x := 0) rfl dX8_fails_35 (by decide) (by decide) (z_ret h)
set_option maxHeartbeats 4000000 in
set_option maxRecDepth 100000 in
theorem vX8_in (l : Launch) (D : va_G) (T : Nat → ClassId) (b : Nat) (gr : Bool) (x0 : Int32) (x1 : Int32) (x2 : Int32) (M : zM) (r : Int32) (M' : zM) (h : fX8_in x0 x1 x2 M = some (r, M')) : zMet l D T b gr yX8_in cX8_in 3 (some .boolean) 0 0 0 [.int x0, .int x1, .int x2] M (0, r, M') := by
  refine zEntry2 false (fun h9 => nomatch h9) zp_yX8_in ⟨rfl, rfl, rfl, trivial⟩ (Nat.le_of_ble_eq_true rfl) ?_
  obtain ⟨o, ho⟩ : ∃ o : Int32 × zM, o = (r, M') := ⟨_, rfl⟩
  rw [← ho] at h
  rw [show ((0, r, M') : Nat × Int32 × zM) = (0, o.1, o.2) by rw [ho]]
  show zV false l RX8 cX8_in 3 (some .boolean) false 0 0 0 D T b gr M.2.2.2 (0, o.1, o.2) 0 0 0 [(0, .int x0), (1, .int x1), (2, .int x2)] [] M
  unfold fX8_in at h
  refine zV_iload_n (j := 0) dX8_in_0 rfl rfl ?_
  refine zV_iload_n (j := 1) dX8_in_1 rfl rfl ?_
  refine zV_icmp_lt (tgt := 14) dX8_in_2 (by decide) (fun c1 => ?_) (fun c1 => ?_)
  · replace h := z_t c1 h
    refine zV_iconst (v := 0) dX8_in_14 (by decide) ?_
    exact zV_zret rfl dX8_in_15 (by decide) (by decide) (Or.inl rfl) (z_ret h)
  · replace h := z_f c1 h
    refine zV_iload_n (j := 0) dX8_in_5 rfl rfl ?_
    refine zV_iload_n (j := 2) dX8_in_6 rfl rfl ?_
    refine zV_icmp_gt (tgt := 14) dX8_in_7 (by decide) (fun c2 => ?_) (fun c2 => ?_)
    · replace h := z_t c2 h
      refine zV_iconst (v := 0) dX8_in_14 (by decide) ?_
      exact zV_zret rfl dX8_in_15 (by decide) (by decide) (Or.inl rfl) (z_ret h)
    · replace h := z_f c2 h
      refine zV_iconst (v := 1) dX8_in_10 (by decide) ?_
      refine zV_goto (tgt := 15) dX8_in_11 (by decide) ?_
      exact zV_zret rfl dX8_in_15 (by decide) (by decide) (Or.inr rfl) (z_ret h)
set_option maxHeartbeats 4000000 in
set_option maxRecDepth 100000 in
theorem vX8_sortAt (l : Launch) (D : va_G) (T : Nat → ClassId) (b : Nat) (gr : Bool) (x0 : Nat) (x1 : Int32) (M : zM) (r : Int32) (M' : zM) (h : fX8_sortAt x0 x1 M = some (r, M')) : zMet l D T b gr yX8_sortAt cX8_sortAt 2 (some .int) 1 0 0 [zr b x0, .int x1] M (0, r, M') := by
  refine zEntry2 false (fun h9 => nomatch h9) zp_yX8_sortAt ⟨zr_cat _ _, rfl, trivial⟩ (Nat.le_of_ble_eq_true rfl) ?_
  obtain ⟨o, ho⟩ : ∃ o : Int32 × zM, o = (r, M') := ⟨_, rfl⟩
  rw [← ho] at h
  rw [show ((0, r, M') : Nat × Int32 × zM) = (0, o.1, o.2) by rw [ho]]
  show zV false l RX8 cX8_sortAt 2 (some .int) false 1 0 0 D T b gr M.2.2.2 (0, o.1, o.2) 0 0 0 [(0, zr b x0), (1, .int x1)] [] M
  unfold fX8_sortAt at h
  refine zV_iload_n (j := 1) dX8_sortAt_0 rfl rfl ?_
  refine zV_iconst (v := 0) dX8_sortAt_1 (by decide) ?_
  refine zV_aload_n (j := 0) dX8_sortAt_2 rfl rfl ?_
  refine zV_aload_n (j := 0) dX8_sortAt_3 rfl rfl ?_
  obtain ⟨g1, h⟩ := zg_of h
  refine zV_getI zf_RX8_246 dX8_sortAt_4 rfl g1 ?_
  obtain ⟨r2, M3, q4, h⟩ := zb_of h
  refine zV_callVi (ci := 8) (As := [.int (zI M x0 41)]) (rest := [.int 0, .int x1]) (vX8_levelLength l D T b gr x0 (zI M x0 41) M _ _ q4) zm_yX8_levelLength zl_RX8_249 zi_yX8_levelLength ze_yX8_levelLength zcI8 g1 rfl rfl (zcs ⟨rfl, rfl, trivial⟩ (Nat.le_of_ble_eq_true rfl)) (by decide) (by decide) (by decide) dX8_sortAt_7 ?_
  refine zV_iconst (v := 1) dX8_sortAt_10 (by decide) ?_
  refine zV_isub dX8_sortAt_11 ?_
  obtain ⟨r5, M6, q7, h⟩ := zb_of h
  refine zV_callSi (As := [.int x1, .int 0, .int (r2 - 1)]) (rest := []) (vX8_in l D T b gr x1 0 (r2 - 1) M3 _ _ q7) zm_yX8_in zl_RX8_159 zs_yX8_in rfl rfl (zcs trivial (Nat.le_of_ble_eq_true rfl)) (by decide) (by decide) (by decide) dX8_sortAt_12 ?_
  refine zV_if_ne (tgt := 20) dX8_sortAt_15 (by decide) (fun c8 => ?_) (fun c8 => ?_)
  · replace h := z_f c8 h
    refine zV_aload_n (j := 0) dX8_sortAt_20 rfl rfl ?_
    obtain ⟨g9, h⟩ := zg_of h
    refine zV_getI zf_RX8_246 dX8_sortAt_21 rfl g9 ?_
    refine zV_if_ne (tgt := 36) dX8_sortAt_24 (by decide) (fun c10 => ?_) (fun c10 => ?_)
    · replace h := z_f c10 h
      refine zV_aload_n (j := 0) dX8_sortAt_36 rfl rfl ?_
      refine zV_getR zf_RX8_32 dX8_sortAt_37 rfl g9 ?_
      refine zV_bipush (v := 6) dX8_sortAt_40 (by decide) ?_
      refine zV_aload_n (j := 0) dX8_sortAt_42 rfl rfl ?_
      refine zV_getR zf_RX8_89 dX8_sortAt_43 rfl g9 ?_
      refine zV_aload_n (j := 0) dX8_sortAt_46 rfl rfl ?_
      refine zV_getI zf_RX8_246 dX8_sortAt_47 rfl g9 ?_
      obtain ⟨g11, h⟩ := zg_of h
      obtain ⟨g12, h⟩ := zg_of h
      refine zV_iald dX8_sortAt_50 g11 g12 ?_
      refine zV_imul dX8_sortAt_51 ?_
      refine zV_iload_n (j := 1) dX8_sortAt_52 rfl rfl ?_
      refine zV_iadd dX8_sortAt_53 ?_
      obtain ⟨g13, h⟩ := zg_of h
      obtain ⟨g14, h⟩ := zg_of h
      refine zV_iald dX8_sortAt_54 g13 g14 ?_
      exact zV_iret rfl dX8_sortAt_55 (by decide) (by decide) (z_ret h)
    · replace h := z_t c10 h
      refine zV_aload_n (j := 0) dX8_sortAt_27 rfl rfl ?_
      refine zV_getR zf_RX8_50 dX8_sortAt_28 rfl g9 ?_
      refine zV_iload_n (j := 1) dX8_sortAt_31 rfl rfl ?_
      obtain ⟨g15, h⟩ := zg_of h
      obtain ⟨g16, h⟩ := zg_of h
      refine zV_iald dX8_sortAt_32 g15 g16 ?_
      refine zV_goto (tgt := 55) dX8_sortAt_33 (by decide) ?_
      exact zV_iret rfl dX8_sortAt_55 (by decide) (by decide) (z_ret h)
  · replace h := z_t c8 h
    refine zV_iconst (v := (-1)) dX8_sortAt_18 (by decide) ?_
    exact zV_iret rfl dX8_sortAt_19 (by decide) (by decide) (z_ret h)
set_option maxHeartbeats 4000000 in
set_option maxRecDepth 100000 in
theorem vX8_valueAt (l : Launch) (D : va_G) (T : Nat → ClassId) (b : Nat) (gr : Bool) (x0 : Nat) (x1 : Int32) (M : zM) (r : Int32) (M' : zM) (h : fX8_valueAt x0 x1 M = some (r, M')) : zMet l D T b gr yX8_valueAt cX8_valueAt 2 (some .int) 0 0 0 [zr b x0, .int x1] M (0, r, M') := by
  refine zEntry2 false (fun h9 => nomatch h9) zp_yX8_valueAt ⟨zr_cat _ _, rfl, trivial⟩ (Nat.le_of_ble_eq_true rfl) ?_
  obtain ⟨o, ho⟩ : ∃ o : Int32 × zM, o = (r, M') := ⟨_, rfl⟩
  rw [← ho] at h
  rw [show ((0, r, M') : Nat × Int32 × zM) = (0, o.1, o.2) by rw [ho]]
  show zV false l RX8 cX8_valueAt 2 (some .int) false 0 0 0 D T b gr M.2.2.2 (0, o.1, o.2) 0 0 0 [(0, zr b x0), (1, .int x1)] [] M
  unfold fX8_valueAt at h
  refine zV_aload_n (j := 0) dX8_valueAt_0 rfl rfl ?_
  obtain ⟨g1, h⟩ := zg_of h
  refine zV_getI zf_RX8_246 dX8_valueAt_1 rfl g1 ?_
  refine zV_if_ne (tgt := 16) dX8_valueAt_4 (by decide) (fun c2 => ?_) (fun c2 => ?_)
  · replace h := z_f c2 h
    refine zV_aload_n (j := 0) dX8_valueAt_16 rfl rfl ?_
    refine zV_getR zf_RX8_35 dX8_valueAt_17 rfl g1 ?_
    refine zV_bipush (v := 6) dX8_valueAt_20 (by decide) ?_
    refine zV_aload_n (j := 0) dX8_valueAt_22 rfl rfl ?_
    refine zV_getR zf_RX8_89 dX8_valueAt_23 rfl g1 ?_
    refine zV_aload_n (j := 0) dX8_valueAt_26 rfl rfl ?_
    refine zV_getI zf_RX8_246 dX8_valueAt_27 rfl g1 ?_
    obtain ⟨g3, h⟩ := zg_of h
    obtain ⟨g4, h⟩ := zg_of h
    refine zV_iald dX8_valueAt_30 g3 g4 ?_
    refine zV_imul dX8_valueAt_31 ?_
    refine zV_iload_n (j := 1) dX8_valueAt_32 rfl rfl ?_
    refine zV_iadd dX8_valueAt_33 ?_
    obtain ⟨g5, h⟩ := zg_of h
    obtain ⟨g6, h⟩ := zg_of h
    refine zV_iald dX8_valueAt_34 g5 g6 ?_
    exact zV_iret rfl dX8_valueAt_35 (by decide) (by decide) (z_ret h)
  · replace h := z_t c2 h
    refine zV_aload_n (j := 0) dX8_valueAt_7 rfl rfl ?_
    refine zV_getR zf_RX8_53 dX8_valueAt_8 rfl g1 ?_
    refine zV_iload_n (j := 1) dX8_valueAt_11 rfl rfl ?_
    obtain ⟨g7, h⟩ := zg_of h
    obtain ⟨g8, h⟩ := zg_of h
    refine zV_iald dX8_valueAt_12 g7 g8 ?_
    refine zV_goto (tgt := 35) dX8_valueAt_13 (by decide) ?_
    exact zV_iret rfl dX8_valueAt_35 (by decide) (by decide) (z_ret h)
set_option maxHeartbeats 4000000 in
set_option maxRecDepth 100000 in
theorem vX8_mode (l : Launch) (D : va_G) (T : Nat → ClassId) (b : Nat) (gr : Bool) (x0 : Nat) (M : zM) (r : Int32) (M' : zM) (h : fX8_mode x0 M = some (r, M')) : zMet l D T b gr yX8_mode cX8_mode 1 (some .int) 0 0 0 [zr b x0] M (0, r, M') := by
  refine zEntry2 false (fun h9 => nomatch h9) zp_yX8_mode ⟨zr_cat _ _, trivial⟩ (Nat.le_of_ble_eq_true rfl) ?_
  obtain ⟨o, ho⟩ : ∃ o : Int32 × zM, o = (r, M') := ⟨_, rfl⟩
  rw [← ho] at h
  rw [show ((0, r, M') : Nat × Int32 × zM) = (0, o.1, o.2) by rw [ho]]
  show zV false l RX8 cX8_mode 1 (some .int) false 0 0 0 D T b gr M.2.2.2 (0, o.1, o.2) 0 0 0 [(0, zr b x0)] [] M
  unfold fX8_mode at h
  refine zV_aload_n (j := 0) dX8_mode_0 rfl rfl ?_
  obtain ⟨g1, h⟩ := zg_of h
  refine zV_getR zf_RX8_95 dX8_mode_1 rfl g1 ?_
  refine zV_aload_n (j := 0) dX8_mode_4 rfl rfl ?_
  refine zV_getI zf_RX8_246 dX8_mode_5 rfl g1 ?_
  obtain ⟨g2, h⟩ := zg_of h
  obtain ⟨g3, h⟩ := zg_of h
  refine zV_iald dX8_mode_8 g2 g3 ?_
  refine zV_if_ne (tgt := 16) dX8_mode_9 (by decide) (fun c4 => ?_) (fun c4 => ?_)
  · replace h := z_f c4 h
    refine zV_aload_n (j := 0) dX8_mode_16 rfl rfl ?_
    refine zV_getR zf_RX8_98 dX8_mode_17 rfl g1 ?_
    refine zV_sipush (v := 620) dX8_mode_20 (by decide) ?_
    refine zV_aload_n (j := 0) dX8_mode_23 rfl rfl ?_
    refine zV_getI zf_RX8_246 dX8_mode_24 rfl g1 ?_
    refine zV_imul dX8_mode_27 ?_
    refine zV_aload_n (j := 0) dX8_mode_28 rfl rfl ?_
    refine zV_getR zf_RX8_95 dX8_mode_29 rfl g1 ?_
    refine zV_aload_n (j := 0) dX8_mode_32 rfl rfl ?_
    refine zV_getI zf_RX8_246 dX8_mode_33 rfl g1 ?_
    obtain ⟨g5, h⟩ := zg_of h
    refine zV_iald dX8_mode_36 g2 g5 ?_
    refine zV_iadd dX8_mode_37 ?_
    refine zV_iconst (v := 1) dX8_mode_38 (by decide) ?_
    refine zV_isub dX8_mode_39 ?_
    obtain ⟨g6, h⟩ := zg_of h
    obtain ⟨g7, h⟩ := zg_of h
    refine zV_iald dX8_mode_40 g6 g7 ?_
    exact zV_iret rfl dX8_mode_41 (by decide) (by decide) (z_ret h)
  · replace h := z_t c4 h
    refine zV_iconst (v := 0) dX8_mode_12 (by decide) ?_
    refine zV_goto (tgt := 41) dX8_mode_13 (by decide) ?_
    exact zV_iret rfl dX8_mode_41 (by decide) (by decide) (z_ret h)
