set_option maxHeartbeats 4000000 in
set_option maxRecDepth 100000 in
theorem vX2_writeEnds_4 {l : Launch} {D : va_G} {T : Nat → ClassId} {b : Nat} {gr : Bool} {n0 : Nat} : ∀ (n : Nat) (x0 : Nat) (x2 : Int32) (x3 : Int32) (M : zM) (o : Int32 × zM), fX2_writeEnds_4 n x0 x2 x3 M = some o → zV false l RX2 cX2_writeEnds 4 (some .int) false 1 0 0 D T zE0 b gr n0 (0, o.1, o.2) 0 0 4 [(0, zr b x0), (2, .int x2), (3, .int x3)] [] M := by
  intro n
  induction n with
  | zero =>
    intro x0 x2 x3 M o h
    rw [fX2_writeEnds_4] at h
    cases h
  | succ n ih =>
    intro x0 x2 x3 M o h
    rw [fX2_writeEnds_4] at h
    refine zV_iload_n (j := 2) dX2_writeEnds_4 rfl rfl ?_
    refine zV_if_lt (tgt := 57) dX2_writeEnds_5 (by decide) (fun c1 => ?_) (fun c1 => ?_)
    · replace h := z_t c1 h
      refine zV_iconst (v := 0) dX2_writeEnds_57 (by decide) ?_
      exact zV_iret rfl dX2_writeEnds_58 (by decide) (by decide) (z_ret h)
    · replace h := z_f c1 h
      refine zV_aload_n (j := 0) dX2_writeEnds_8 rfl rfl ?_
      obtain ⟨g2, h⟩ := zg_of h
      refine zV_getR zf_RX2_34 dX2_writeEnds_9 rfl g2 ?_
      refine zV_iload_n (j := 2) dX2_writeEnds_12 rfl rfl ?_
      obtain ⟨g3, h⟩ := zg_of h
      obtain ⟨g4, h⟩ := zg_of h
      refine zV_iald dX2_writeEnds_13 g3 g4 ?_
      refine zV_iload_n (j := 1) dX2_writeEnds_14 rfl rfl ?_
      refine zV_icmp_ne (tgt := 22) dX2_writeEnds_15 (by decide) (fun c5 => ?_) (fun c5 => ?_)
      · replace h := z_f c5 h
        refine zV_aload_n (j := 0) dX2_writeEnds_22 rfl rfl ?_
        refine zV_getR zf_RX2_23 dX2_writeEnds_23 rfl g2 ?_
        refine zV_aload_n (j := 0) dX2_writeEnds_26 rfl rfl ?_
        refine zV_getR zf_RX2_23 dX2_writeEnds_27 rfl g2 ?_
        obtain ⟨g6, h⟩ := zg_of h
        refine zV_getI zf_RX2_70 dX2_writeEnds_30 rfl g6 ?_
        refine zV_iconst (v := 1) dX2_writeEnds_33 (by decide) ?_
        refine zV_aload_n (j := 0) dX2_writeEnds_34 rfl rfl ?_
        refine zV_getR zf_RX2_12 dX2_writeEnds_35 rfl g2 ?_
        obtain ⟨g7, h⟩ := zg_of h
        refine zV_getR zf_RX2_214 dX2_writeEnds_38 rfl g7 ?_
        refine zV_aload_n (j := 0) dX2_writeEnds_41 rfl rfl ?_
        refine zV_getR zf_RX2_34 dX2_writeEnds_42 rfl g2 ?_
        refine zV_iload_n (j := 2) dX2_writeEnds_45 rfl rfl ?_
        obtain ⟨g8, h⟩ := zg_of h
        refine zV_iald dX2_writeEnds_46 g3 g8 ?_
        obtain ⟨g9, h⟩ := zg_of h
        obtain ⟨g10, h⟩ := zg_of h
        refine zV_iald dX2_writeEnds_47 g9 g10 ?_
        obtain ⟨r11, M12, q13, h⟩ := zb_of h
        refine zV_callVv (ci := 3) (As := [.int (zI M (zR M x0 5) 2), .int 1, .int (zI M (zR M (zR M x0 4) 0) (zI M (zR M x0 11) x3.toNatClampNeg).toNatClampNeg)]) (rest := []) (vX3_putToken l D T b gr (zR M x0 5) (zI M (zR M x0 5) 2) 1 (zI M (zR M (zR M x0 4) 0) (zI M (zR M x0 11) x3.toNatClampNeg).toNatClampNeg) M _ _ q13) zm_yX3_putToken zl_RX2_221 zi_yX3_putToken ze_yX3_putToken zcI3 g6 rfl rfl (zcs trivial (Nat.le_of_ble_eq_true rfl)) (by decide) (by decide) (by decide) dX2_writeEnds_48 ?_
        obtain ⟨u14, e15⟩ : ∃ y : Int32, y = x3 + (-1) := ⟨_, rfl⟩
        replace h := zlet_of h e15
        refine zV_iinc (j := 2) (v := u14) [(3, .int u14), (0, zr b x0), (2, .int x2)] dX2_writeEnds_51 rfl (by rw [e15]; rfl) (by decide) rfl rfl ?_
        refine zV_goto (tgt := 4) dX2_writeEnds_54 (by decide) ?_
        refine zV_pk [1, 2, 0] rfl ?_
        exact ih x0 x2 u14 M12 _ h
      · replace h := z_t c5 h
        refine zV_iload_n (j := 2) dX2_writeEnds_18 rfl rfl ?_
        refine zV_iconst (v := 1) dX2_writeEnds_19 (by decide) ?_
        refine zV_iadd dX2_writeEnds_20 ?_
        exact zV_iret rfl dX2_writeEnds_21 (by decide) (by decide) (z_ret h)
set_option maxHeartbeats 4000000 in
set_option maxRecDepth 100000 in
theorem vX2_writeEnds (l : Launch) (D : va_G) (T : Nat → ClassId) (b : Nat) (gr : Bool) (x0 : Nat) (x1 : Int32) (x2 : Int32) (M : zM) (r : Int32) (M' : zM) (h : fX2_writeEnds x0 x1 x2 M = some (r, M')) : zMet l D T b gr yX2_writeEnds cX2_writeEnds 4 (some .int) 1 0 0 [zr b x0, .int x1, .int x2] M (0, r, M') := by
  refine zEntry2 (ev := zE0) rfl false (fun h9 => nomatch h9) zp_yX2_writeEnds ⟨zr_cat _ _, rfl, rfl, trivial⟩ (Nat.le_of_ble_eq_true rfl) ?_
  obtain ⟨o, ho⟩ : ∃ o : Int32 × zM, o = (r, M') := ⟨_, rfl⟩
  rw [← ho] at h
  rw [show ((0, r, M') : Nat × Int32 × zM) = (0, o.1, o.2) by rw [ho]]
  show zV false l RX2 cX2_writeEnds 4 (some .int) false 1 0 0 D T zE0 b gr M.2.2.2 (0, o.1, o.2) 0 0 0 [(0, zr b x0), (1, .int x1), (2, .int x2)] [] M
  unfold fX2_writeEnds at h
  refine zV_iload_n (j := 1) dX2_writeEnds_0 rfl rfl ?_
  refine zV_iconst (v := 1) dX2_writeEnds_1 (by decide) ?_
  refine zV_isub dX2_writeEnds_2 ?_
  refine zV_top (fun u16 e17 => ?_)
  replace h := zlet_of h e17
  refine zV_istore_n [(3, .int u16), (0, zr b x0), (1, .int x1), (2, .int x2)] dX2_writeEnds_3 rfl (by decide) rfl rfl ?_
  refine zV_pk [1, 3, 0] rfl ?_
  exact vX2_writeEnds_4 10000 x0 x2 u16 M _ h
set_option maxHeartbeats 4000000 in
set_option maxRecDepth 100000 in
theorem vX2_writeNormalForm_134 {l : Launch} {D : va_G} {T : Nat → ClassId} {b : Nat} {gr : Bool} {n0 : Nat} (x0 : Nat) (x1 : Int32) (M : zM) (o : Int32 × zM) (h : fX2_writeNormalForm_134 x0 x1 M = some o) : zV false l RX2 cX2_writeNormalForm 4 none false 2 0 0 D T zE0 b gr n0 (0, o.1, o.2) 0 0 134 [(0, zr b x0), (1, .int x1)] [] M := by
  unfold fX2_writeNormalForm_134 at h
  refine zV_aload_n (j := 0) dX2_writeNormalForm_134 rfl rfl ?_
  refine zV_iload_n (j := 1) dX2_writeNormalForm_135 rfl rfl ?_
  refine zV_iconst (v := (-1)) dX2_writeNormalForm_136 (by decide) ?_
  obtain ⟨g1, h⟩ := zg_of h
  obtain ⟨r2, M3, q4, h⟩ := zb_of h
  refine zV_callVi (ci := 2) (As := [.int x1, .int (-1)]) (rest := []) (vX2_writeEnds l D T b gr x0 x1 (-1) M _ _ q4) zm_yX2_writeEnds zl_RX2_210 zi_yX2_writeEnds ze_yX2_writeEnds zcI2 g1 rfl rfl (zcs trivial (Nat.le_of_ble_eq_true rfl)) (by decide) (by decide) (by decide) dX2_writeNormalForm_137 ?_
  refine zV_pop dX2_writeNormalForm_140 rfl ?_
  exact zV_vret (x := 0) rfl dX2_writeNormalForm_141 (by decide) (by decide) (z_ret h)
set_option maxHeartbeats 4000000 in
set_option maxRecDepth 100000 in
theorem vX2_writeNormalForm_128 {l : Launch} {D : va_G} {T : Nat → ClassId} {b : Nat} {gr : Bool} {n0 : Nat} (k12 : Nat → Int32 → Int32 → zM → Option (Int32 × zM)) (hk12 : ∀ (z0 : Nat) (z1 : Int32) (z2 : Int32) (N : zM) (o : Int32 × zM), k12 z0 z1 z2 N = some o → zV false l RX2 cX2_writeNormalForm 4 none false 2 0 0 D T zE0 b gr n0 (0, o.1, o.2) 0 0 12 [(0, zr b z0), (1, .int z1), (2, .int z2)] [] N) (x0 : Nat) (x1 : Int32) (x2 : Int32) (M : zM) (o : Int32 × zM) (h : fX2_writeNormalForm_128 k12 x0 x1 x2 M = some o) : zV false l RX2 cX2_writeNormalForm 4 none false 2 0 0 D T zE0 b gr n0 (0, o.1, o.2) 0 0 128 [(0, zr b x0), (1, .int x1), (2, .int x2)] [] M := by
  unfold fX2_writeNormalForm_128 at h
  obtain ⟨u5, e6⟩ : ∃ y : Int32, y = x2 + 1 := ⟨_, rfl⟩
  replace h := zlet_of h e6
  refine zV_iinc (j := 2) (v := u5) [(2, .int u5), (0, zr b x0), (1, .int x1)] dX2_writeNormalForm_128 rfl (by rw [e6]; rfl) (by decide) rfl rfl ?_
  refine zV_goto (tgt := 12) dX2_writeNormalForm_131 (by decide) ?_
  refine zV_pk [1, 2, 0] rfl ?_
  exact hk12 x0 x1 u5 M _ h
set_option maxHeartbeats 4000000 in
set_option maxRecDepth 100000 in
theorem vX2_writeNormalForm_12 {l : Launch} {D : va_G} {T : Nat → ClassId} {b : Nat} {gr : Bool} {n0 : Nat} : ∀ (n : Nat) (x0 : Nat) (x1 : Int32) (x2 : Int32) (M : zM) (o : Int32 × zM), fX2_writeNormalForm_12 n x0 x1 x2 M = some o → zV false l RX2 cX2_writeNormalForm 4 none false 2 0 0 D T zE0 b gr n0 (0, o.1, o.2) 0 0 12 [(0, zr b x0), (1, .int x1), (2, .int x2)] [] M := by
  intro n
  induction n with
  | zero =>
    intro x0 x1 x2 M o h
    rw [fX2_writeNormalForm_12] at h
    cases h
  | succ n ih =>
    intro x0 x1 x2 M o h
    rw [fX2_writeNormalForm_12] at h
    refine zV_iload_n (j := 2) dX2_writeNormalForm_12 rfl rfl ?_
    refine zV_aload_n (j := 0) dX2_writeNormalForm_13 rfl rfl ?_
    obtain ⟨g7, h⟩ := zg_of h
    refine zV_getR zf_RX2_12 dX2_writeNormalForm_14 rfl g7 ?_
    obtain ⟨g8, h⟩ := zg_of h
    refine zV_getI zf_RX2_77 dX2_writeNormalForm_17 rfl g8 ?_
    refine zV_icmp_ge (tgt := 134) dX2_writeNormalForm_20 (by decide) (fun c9 => ?_) (fun c9 => ?_)
    · replace h := z_t c9 h
      refine zV_pk [0, 1] rfl ?_
      exact vX2_writeNormalForm_134 x0 x1 M _ h
    · replace h := z_f c9 h
      refine zV_aload_n (j := 0) dX2_writeNormalForm_23 rfl rfl ?_
      refine zV_iload_n (j := 1) dX2_writeNormalForm_24 rfl rfl ?_
      refine zV_aload_n (j := 0) dX2_writeNormalForm_25 rfl rfl ?_
      refine zV_getR zf_RX2_12 dX2_writeNormalForm_26 rfl g7 ?_
      refine zV_getR zf_RX2_207 dX2_writeNormalForm_29 rfl g8 ?_
      refine zV_iload_n (j := 2) dX2_writeNormalForm_32 rfl rfl ?_
      obtain ⟨g10, h⟩ := zg_of h
      obtain ⟨g11, h⟩ := zg_of h
      refine zV_iald dX2_writeNormalForm_33 g10 g11 ?_
      obtain ⟨r12, M13, q14, h⟩ := zb_of h
      refine zV_callVi (ci := 2) (As := [.int x1, .int (zI M (zR M (zR M x0 4) 1) x2.toNatClampNeg)]) (rest := []) (vX2_writeEnds l D T b gr x0 x1 (zI M (zR M (zR M x0 4) 1) x2.toNatClampNeg) M _ _ q14) zm_yX2_writeEnds zl_RX2_210 zi_yX2_writeEnds ze_yX2_writeEnds zcI2 g7 rfl rfl (zcs trivial (Nat.le_of_ble_eq_true rfl)) (by decide) (by decide) (by decide) dX2_writeNormalForm_34 ?_
      refine zV_istore_n [(1, .int r12), (0, zr b x0), (2, .int x2)] dX2_writeNormalForm_37 rfl (by decide) rfl rfl ?_
      refine zV_aload_n (j := 1) dX2_writeNormalForm_38 rfl rfl ?_
      obtain ⟨g15, h⟩ := zg_of h
      refine zV_getR zf_RX2_12 dX2_writeNormalForm_39 rfl g15 ?_
      obtain ⟨g16, h⟩ := zg_of h
      refine zV_getR zf_RX2_214 dX2_writeNormalForm_42 rfl g16 ?_
      refine zV_iload_n (j := 2) dX2_writeNormalForm_45 rfl rfl ?_
      obtain ⟨g17, h⟩ := zg_of h
      obtain ⟨g18, h⟩ := zg_of h
      refine zV_iald dX2_writeNormalForm_46 g17 g18 ?_
      refine zV_top (fun u19 e20 => ?_)
      replace h := zlet_of h e20
      refine zV_istore_n [(3, .int u19), (1, .int r12), (0, zr b x0), (2, .int x2)] dX2_writeNormalForm_47 rfl (by decide) rfl rfl ?_
      refine zV_iload_n (j := 0) dX2_writeNormalForm_48 rfl rfl ?_
      refine zV_bipush (v := 10) dX2_writeNormalForm_49 (by decide) ?_
      refine zV_icmp_ne (tgt := 81) dX2_writeNormalForm_51 (by decide) (fun c21 => ?_) (fun c21 => ?_)
      · replace h := z_f c21 h
        refine zV_aload_n (j := 2) dX2_writeNormalForm_81 rfl rfl ?_
        refine zV_getR zf_RX2_23 dX2_writeNormalForm_82 rfl g15 ?_
        refine zV_aload_n (j := 2) dX2_writeNormalForm_85 rfl rfl ?_
        refine zV_getR zf_RX2_23 dX2_writeNormalForm_86 rfl g15 ?_
        obtain ⟨g22, h⟩ := zg_of h
        refine zV_getI zf_RX2_70 dX2_writeNormalForm_89 rfl g22 ?_
        refine zV_iconst (v := 0) dX2_writeNormalForm_92 (by decide) ?_
        refine zV_iload_n (j := 0) dX2_writeNormalForm_93 rfl rfl ?_
        obtain ⟨r23, M24, q25, h⟩ := zb_of h
        refine zV_callVv (ci := 3) (As := [.int (zI M13 (zR M13 x0 5) 2), .int 0, .int u19]) (rest := []) (vX3_putToken l D T b gr (zR M13 x0 5) (zI M13 (zR M13 x0 5) 2) 0 u19 M13 _ _ q25) zm_yX3_putToken zl_RX2_221 zi_yX3_putToken ze_yX3_putToken zcI3 g22 rfl rfl (zcs trivial (Nat.le_of_ble_eq_true rfl)) (by decide) (by decide) (by decide) dX2_writeNormalForm_94 ?_
        refine zV_aload_n (j := 2) dX2_writeNormalForm_97 rfl rfl ?_
        obtain ⟨g26, h⟩ := zg_of h
        refine zV_getR zf_RX2_49 dX2_writeNormalForm_98 rfl g26 ?_
        obtain ⟨g27, h⟩ := zg_of h
        refine zV_getR zf_RX2_225 dX2_writeNormalForm_101 rfl g27 ?_
        refine zV_iload_n (j := 0) dX2_writeNormalForm_104 rfl rfl ?_
        obtain ⟨g28, h⟩ := zg_of h
        obtain ⟨g29, h⟩ := zg_of h
        refine zV_aald 110 4 dX2_writeNormalForm_105 g28 ⟨by decide, by decide⟩ rfl g29 ?_
        obtain ⟨g30, h⟩ := zg_of h
        refine zV_getI zf_RX2_229 dX2_writeNormalForm_106 rfl g30 ?_
        refine zV_if_le (tgt := 128) dX2_writeNormalForm_109 (by decide) (fun c31 => ?_) (fun c31 => ?_)
        · replace h := z_t c31 h
          refine zV_pk [2, 1, 3] rfl ?_
          exact vX2_writeNormalForm_128 (fX2_writeNormalForm_12 n) ih x0 r12 x2 M24 _ h
        · replace h := z_f c31 h
          refine zV_iload_n (j := 1) dX2_writeNormalForm_112 rfl rfl ?_
          refine zV_bipush (v := 20) dX2_writeNormalForm_113 (by decide) ?_
          refine zV_icmp_ge (tgt := 128) dX2_writeNormalForm_115 (by decide) (fun c32 => ?_) (fun c32 => ?_)
          · replace h := z_t c32 h
            refine zV_pk [2, 1, 3] rfl ?_
            exact vX2_writeNormalForm_128 (fX2_writeNormalForm_12 n) ih x0 r12 x2 M24 _ h
          · replace h := z_f c32 h
            refine zV_aload_n (j := 2) dX2_writeNormalForm_118 rfl rfl ?_
            refine zV_getR zf_RX2_34 dX2_writeNormalForm_119 rfl g26 ?_
            refine zV_iload_n (j := 1) dX2_writeNormalForm_122 rfl rfl ?_
            refine zV_iload_n (j := 3) dX2_writeNormalForm_123 rfl rfl ?_
            obtain ⟨g33, h⟩ := zg_of h
            obtain ⟨g34, h⟩ := zg_of h
            refine zV_iast dX2_writeNormalForm_124 g33 g34 ?_
            refine zV_mem (fun M35 e36 => ?_)
            replace h := zlet_of h e36
            obtain ⟨u37, e38⟩ : ∃ y : Int32, y = r12 + 1 := ⟨_, rfl⟩
            replace h := zlet_of h e38
            refine zV_iinc (j := 1) (v := u37) [(1, .int u37), (3, .int u19), (0, zr b x0), (2, .int x2)] dX2_writeNormalForm_125 rfl (by rw [e38]; rfl) (by decide) rfl rfl ?_
            refine zV_pk [2, 0, 3] rfl ?_
            exact vX2_writeNormalForm_128 (fX2_writeNormalForm_12 n) ih x0 u37 x2 M35 _ h
      · replace h := z_t c21 h
        refine zV_aload_n (j := 2) dX2_writeNormalForm_54 rfl rfl ?_
        refine zV_getR zf_RX2_23 dX2_writeNormalForm_55 rfl g15 ?_
        refine zV_aload_n (j := 2) dX2_writeNormalForm_58 rfl rfl ?_
        refine zV_getR zf_RX2_23 dX2_writeNormalForm_59 rfl g15 ?_
        obtain ⟨g39, h⟩ := zg_of h
        refine zV_getI zf_RX2_70 dX2_writeNormalForm_62 rfl g39 ?_
        refine zV_iconst (v := 4) dX2_writeNormalForm_65 (by decide) ?_
        refine zV_aload_n (j := 2) dX2_writeNormalForm_66 rfl rfl ?_
        refine zV_getR zf_RX2_12 dX2_writeNormalForm_67 rfl g15 ?_
        refine zV_getR zf_RX2_217 dX2_writeNormalForm_70 rfl g16 ?_
        refine zV_iload_n (j := 3) dX2_writeNormalForm_73 rfl rfl ?_
        obtain ⟨g40, h⟩ := zg_of h
        obtain ⟨g41, h⟩ := zg_of h
        refine zV_cald dX2_writeNormalForm_74 g40 g41 ?_
        obtain ⟨r42, M43, q44, h⟩ := zb_of h
        refine zV_callVv (ci := 3) (As := [.int (zI M13 (zR M13 x0 5) 2), .int 4, .int (zI M13 (zR M13 (zR M13 x0 4) 2) x2.toNatClampNeg)]) (rest := []) (vX3_putToken l D T b gr (zR M13 x0 5) (zI M13 (zR M13 x0 5) 2) 4 (zI M13 (zR M13 (zR M13 x0 4) 2) x2.toNatClampNeg) M13 _ _ q44) zm_yX3_putToken zl_RX2_221 zi_yX3_putToken ze_yX3_putToken zcI3 g39 rfl rfl (zcs trivial (Nat.le_of_ble_eq_true rfl)) (by decide) (by decide) (by decide) dX2_writeNormalForm_75 ?_
        refine zV_goto (tgt := 128) dX2_writeNormalForm_78 (by decide) ?_
        refine zV_pk [2, 1, 3] rfl ?_
        exact vX2_writeNormalForm_128 (fX2_writeNormalForm_12 n) ih x0 r12 x2 M43 _ h
set_option maxHeartbeats 4000000 in
set_option maxRecDepth 100000 in
theorem vX2_writeNormalForm (l : Launch) (D : va_G) (T : Nat → ClassId) (b : Nat) (gr : Bool) (x0 : Nat) (M : zM) (r : Int32) (M' : zM) (h : fX2_writeNormalForm x0 M = some (r, M')) : zMet l D T b gr yX2_writeNormalForm cX2_writeNormalForm 4 none 2 0 0 [zr b x0] M (0, r, M') := by
  refine zEntry2 (ev := zE0) rfl false (fun h9 => nomatch h9) zp_yX2_writeNormalForm ⟨zr_cat _ _, trivial⟩ (Nat.le_of_ble_eq_true rfl) ?_
  obtain ⟨o, ho⟩ : ∃ o : Int32 × zM, o = (r, M') := ⟨_, rfl⟩
  rw [← ho] at h
  rw [show ((0, r, M') : Nat × Int32 × zM) = (0, o.1, o.2) by rw [ho]]
  show zV false l RX2 cX2_writeNormalForm 4 none false 2 0 0 D T zE0 b gr M.2.2.2 (0, o.1, o.2) 0 0 0 [(0, zr b x0)] [] M
  unfold fX2_writeNormalForm at h
  refine zV_aload_n (j := 0) dX2_writeNormalForm_0 rfl rfl ?_
  obtain ⟨g45, h⟩ := zg_of h
  refine zV_getR zf_RX2_23 dX2_writeNormalForm_1 rfl g45 ?_
  refine zV_iconst (v := 0) dX2_writeNormalForm_4 (by decide) ?_
  obtain ⟨g46, h⟩ := zg_of h
  refine zV_putI zf_RX2_70 dX2_writeNormalForm_5 rfl rfl g46 ?_
  refine zV_mem (fun M47 e48 => ?_)
  replace h := zlet_of h e48
  refine zV_iconst (v := 0) dX2_writeNormalForm_8 (by decide) ?_
  refine zV_istore_n [(1, .int 0), (0, zr b x0)] dX2_writeNormalForm_9 rfl (by decide) rfl rfl ?_
  refine zV_iconst (v := 0) dX2_writeNormalForm_10 (by decide) ?_
  refine zV_istore_n [(2, .int 0), (1, .int 0), (0, zr b x0)] dX2_writeNormalForm_11 rfl (by decide) rfl rfl ?_
  refine zV_pk [2, 1, 0] rfl ?_
  exact vX2_writeNormalForm_12 10000 x0 0 0 M47 _ h
set_option maxHeartbeats 4000000 in
set_option maxRecDepth 100000 in
theorem vX2_readText (l : Launch) (D : va_G) (T : Nat → ClassId) (b : Nat) (gr : Bool) (x0 : Nat) (M : zM) (r : Int32) (M' : zM) (h : fX2_readText x0 M = some (r, M')) : zMet l D T b gr yX2_readText cX2_readText 2 none 121 0 0 [zr b x0] M (0, r, M') := by
  refine zEntry2 (ev := zE0) rfl false (fun h9 => nomatch h9) zp_yX2_readText ⟨zr_cat _ _, trivial⟩ (Nat.le_of_ble_eq_true rfl) ?_
  obtain ⟨o, ho⟩ : ∃ o : Int32 × zM, o = (r, M') := ⟨_, rfl⟩
  rw [← ho] at h
  rw [show ((0, r, M') : Nat × Int32 × zM) = (0, o.1, o.2) by rw [ho]]
  show zV false l RX2 cX2_readText 2 none false 121 0 0 D T zE0 b gr M.2.2.2 (0, o.1, o.2) 0 0 0 [(0, zr b x0)] [] M
  unfold fX2_readText at h
  refine zV_aload_n (j := 0) dX2_readText_0 rfl rfl ?_
  refine zV_aload_n (j := 0) dX2_readText_1 rfl rfl ?_
  obtain ⟨g1, h⟩ := zg_of h
  refine zV_getR zf_RX2_53 dX2_readText_2 rfl g1 ?_
  obtain ⟨g2, h⟩ := zg_of h
  refine zV_getI zf_RX2_70 dX2_readText_5 rfl g2 ?_
  refine zV_putI zf_RX2_74 dX2_readText_8 rfl rfl g1 ?_
  refine zV_mem (fun M3 e4 => ?_)
  replace h := zlet_of h e4
  refine zV_aload_n (j := 0) dX2_readText_11 rfl rfl ?_
  refine zV_getR zf_RX2_43 dX2_readText_12 rfl (zkI e4 g1) ?_
  refine zV_topr (fun u5 e6 => ?_)
  replace h := zlet_of h e6
  refine zV_astore_n [(1, zr b u5), (0, zr b x0)] dX2_readText_15 rfl (by decide) rfl rfl ?_
  refine zV_aload_n (j := 1) dX2_readText_16 rfl rfl ?_
  refine zV_aload_n (j := 1) dX2_readText_17 rfl rfl ?_
  refine zV_getR zf_RX2_39 dX2_readText_18 rfl (zkI e4 g1) ?_
  refine zV_putR zf_RX2_43 dX2_readText_21 rfl rfl (zkI e4 g1) ?_
  refine zV_mem (fun M7 e8 => ?_)
  replace h := zlet_of h e8
  refine zV_aload_n (j := 1) dX2_readText_24 rfl rfl ?_
  refine zV_aload_n (j := 0) dX2_readText_25 rfl rfl ?_
  refine zV_putR zf_RX2_39 dX2_readText_26 rfl rfl (zkR e8 (zkI e4 g1)) ?_
  refine zV_mem (fun M9 e10 => ?_)
  replace h := zlet_of h e10
  refine zV_aload_n (j := 1) dX2_readText_29 rfl rfl ?_
  refine zV_getR zf_RX2_12 dX2_readText_30 rfl (zkR e10 (zkR e8 (zkI e4 g1))) ?_
  refine zV_iconst (v := 0) dX2_readText_33 (by decide) ?_
  obtain ⟨g11, h⟩ := zg_of h
  refine zV_putI zf_RX2_77 dX2_readText_34 rfl rfl g11 ?_
  refine zV_mem (fun M12 e13 => ?_)
  replace h := zlet_of h e13
  refine zV_aload_n (j := 1) dX2_readText_37 rfl rfl ?_
  refine zV_iconst (v := 0) dX2_readText_38 (by decide) ?_
  refine zV_putI zf_RX2_78 dX2_readText_39 rfl rfl (zkI e13 (zkR e10 (zkR e8 (zkI e4 g1)))) ?_
  refine zV_mem (fun M14 e15 => ?_)
  replace h := zlet_of h e15
  refine zV_aload_n (j := 1) dX2_readText_42 rfl rfl ?_
  refine zV_iconst (v := 0) dX2_readText_43 (by decide) ?_
  refine zV_putI zf_RX2_81 dX2_readText_44 rfl rfl (zkI e15 (zkI e13 (zkR e10 (zkR e8 (zkI e4 g1))))) ?_
  refine zV_mem (fun M16 e17 => ?_)
  replace h := zlet_of h e17
  refine zV_aload_n (j := 1) dX2_readText_47 rfl rfl ?_
  refine zV_getR zf_RX2_66 dX2_readText_48 rfl (zkI e17 (zkI e15 (zkI e13 (zkR e10 (zkR e8 (zkI e4 g1)))))) ?_
  obtain ⟨g18, h⟩ := zg_of h
  obtain ⟨r19, M20, q21, h⟩ := zb_of h
  refine zV_callVv (ci := 4) (As := []) (rest := []) (vX4_restart l D T b gr (zR M16 x0 10) M16 _ _ q21) zm_yX4_restart zl_RX2_84 zi_yX4_restart ze_yX4_restart zcI4 g18 rfl rfl (zcs trivial (Nat.le_of_ble_eq_true rfl)) (by decide) (by decide) (by decide) dX2_readText_51 ?_
  refine zV_aload_n (j := 1) dX2_readText_54 rfl rfl ?_
  obtain ⟨g22, h⟩ := zg_of h
  refine zV_getR zf_RX2_39 dX2_readText_55 rfl g22 ?_
  refine zV_iconst (v := 0) dX2_readText_58 (by decide) ?_
  obtain ⟨g23, h⟩ := zg_of h
  obtain ⟨g24, h⟩ := zg_of h
  refine zV_aald 112 6 dX2_readText_59 g23 ⟨by decide, by decide⟩ rfl g24 ?_
  refine zV_aload_n (j := 1) dX2_readText_60 rfl rfl ?_
  refine zV_getR zf_RX2_66 dX2_readText_61 rfl g22 ?_
  obtain ⟨g25, h⟩ := zg_of h
  obtain ⟨r26, M27, q28, h⟩ := zb_of h
  refine zV_callVv (ci := 4) (As := [zr b (zR M20 x0 10)]) (rest := []) (vX4_copyFrom l D T b gr (zR M20 (zR M20 x0 12) (0 : Int32).toNatClampNeg) (zR M20 x0 10) M20 _ _ q28) zm_yX4_copyFrom zl_RX2_87 zi_yX4_copyFrom ze_yX4_copyFrom zcI4 g25 rfl rfl (zcs trivial (Nat.le_of_ble_eq_true rfl)) (by decide) (by decide) (by decide) dX2_readText_64 ?_
  refine zV_aload_n (j := 1) dX2_readText_67 rfl rfl ?_
  refine zV_aload_n (j := 1) dX2_readText_68 rfl rfl ?_
  obtain ⟨g29, h⟩ := zg_of h
  refine zV_getR zf_RX2_53 dX2_readText_69 rfl g29 ?_
  refine zV_iconst (v := 0) dX2_readText_72 (by decide) ?_
  obtain ⟨r30, M31, q32, h⟩ := zb_of h
  refine zV_callVv (ci := 2) (As := [zr b (zR M27 x0 1), .int 0]) (rest := []) (vX2_goThrough l D T b gr 4 x0 (zR M27 x0 1) 0 M27 _ _ q32) zm_yX2_goThrough zl_RX2_91 zi_yX2_goThrough ze_yX2_goThrough zcI2 g29 rfl rfl (zcs trivial (Nat.le_of_ble_eq_true rfl)) (by omega) (by decide) (by decide) dX2_readText_73 ?_
  refine zV_aload_n (j := 1) dX2_readText_76 rfl rfl ?_
  refine zV_iconst (v := 0) dX2_readText_77 (by decide) ?_
  refine zV_iconst (v := 0) dX2_readText_78 (by decide) ?_
  obtain ⟨g33, h⟩ := zg_of h
  obtain ⟨r34, M35, q36, h⟩ := zb_of h
  refine zV_callVv (ci := 2) (As := [.int 0, .int 0]) (rest := []) (vX2_closeUpTo l D T b gr x0 0 0 M31 _ _ q36) zm_yX2_closeUpTo zl_RX2_95 zi_yX2_closeUpTo ze_yX2_closeUpTo zcI2 g33 rfl rfl (zcs trivial (Nat.le_of_ble_eq_true rfl)) (by decide) (by decide) (by decide) dX2_readText_79 ?_
  refine zV_aload_n (j := 1) dX2_readText_82 rfl rfl ?_
  obtain ⟨g37, h⟩ := zg_of h
  obtain ⟨r38, M39, q40, h⟩ := zb_of h
  refine zV_callVv (ci := 2) (As := []) (rest := []) (vX2_writeNormalForm l D T b gr x0 M35 _ _ q40) zm_yX2_writeNormalForm zl_RX2_99 zi_yX2_writeNormalForm ze_yX2_writeNormalForm zcI2 g37 rfl rfl (zcs trivial (Nat.le_of_ble_eq_true rfl)) (by decide) (by decide) (by decide) dX2_readText_83 ?_
  exact zV_vret (x := 0) rfl dX2_readText_86 (by decide) (by decide) (z_ret h)
set_option maxHeartbeats 4000000 in
set_option maxRecDepth 100000 in
theorem vX4_isLike_37 {l : Launch} {D : va_G} {T : Nat → ClassId} {b : Nat} {gr : Bool} {n0 : Nat} : ∀ (n : Nat) (x0 : Nat) (x1 : Nat) (x2 : Int32) (M : zM) (o : Int32 × zM), fX4_isLike_37 n x0 x1 x2 M = some o → zV false l RX4 cX4_isLike 3 (some .boolean) false 0 0 0 D T zE0 b gr n0 (0, o.1, o.2) 0 0 37 [(0, zr b x0), (1, zr b x1), (2, .int x2)] [] M := by
  intro n
  induction n with
  | zero =>
    intro x0 x1 x2 M o h
    rw [fX4_isLike_37] at h
    cases h
  | succ n ih =>
    intro x0 x1 x2 M o h
    rw [fX4_isLike_37] at h
    refine zV_iload_n (j := 2) dX4_isLike_37 rfl rfl ?_
    refine zV_aload_n (j := 0) dX4_isLike_38 rfl rfl ?_
    obtain ⟨g1, h⟩ := zg_of h
    refine zV_getI zf_RX4_26 dX4_isLike_39 rfl g1 ?_
    refine zV_icmp_ge (tgt := 83) dX4_isLike_42 (by decide) (fun c2 => ?_) (fun c2 => ?_)
    · replace h := z_t c2 h
      refine zV_iconst (v := 1) dX4_isLike_83 (by decide) ?_
      exact zV_zret rfl dX4_isLike_84 (by decide) (by decide) (Or.inr rfl) (z_ret h)
    · replace h := z_f c2 h
      refine zV_aload_n (j := 0) dX4_isLike_45 rfl rfl ?_
      refine zV_getR zf_RX4_9 dX4_isLike_46 rfl g1 ?_
      refine zV_iload_n (j := 2) dX4_isLike_49 rfl rfl ?_
      obtain ⟨g3, h⟩ := zg_of h
      obtain ⟨g4, h⟩ := zg_of h
      refine zV_iald dX4_isLike_50 g3 g4 ?_
      refine zV_aload_n (j := 1) dX4_isLike_51 rfl rfl ?_
      obtain ⟨g5, h⟩ := zg_of h
      refine zV_getR zf_RX4_9 dX4_isLike_52 rfl g5 ?_
      refine zV_iload_n (j := 2) dX4_isLike_55 rfl rfl ?_
      obtain ⟨g6, h⟩ := zg_of h
      obtain ⟨g7, h⟩ := zg_of h
      refine zV_iald dX4_isLike_56 g6 g7 ?_
      refine zV_icmp_ne (tgt := 75) dX4_isLike_57 (by decide) (fun c8 => ?_) (fun c8 => ?_)
      · replace h := z_f c8 h
        refine zV_iconst (v := 0) dX4_isLike_75 (by decide) ?_
        exact zV_zret rfl dX4_isLike_76 (by decide) (by decide) (Or.inl rfl) (z_ret h)
      · replace h := z_t c8 h
        refine zV_aload_n (j := 0) dX4_isLike_60 rfl rfl ?_
        refine zV_getR zf_RX4_15 dX4_isLike_61 rfl g1 ?_
        refine zV_iload_n (j := 2) dX4_isLike_64 rfl rfl ?_
        obtain ⟨g9, h⟩ := zg_of h
        obtain ⟨g10, h⟩ := zg_of h
        refine zV_iald dX4_isLike_65 g9 g10 ?_
        refine zV_aload_n (j := 1) dX4_isLike_66 rfl rfl ?_
        refine zV_getR zf_RX4_15 dX4_isLike_67 rfl g5 ?_
        refine zV_iload_n (j := 2) dX4_isLike_70 rfl rfl ?_
        obtain ⟨g11, h⟩ := zg_of h
        obtain ⟨g12, h⟩ := zg_of h
        refine zV_iald dX4_isLike_71 g11 g12 ?_
        refine zV_icmp_eq (tgt := 77) dX4_isLike_72 (by decide) (fun c13 => ?_) (fun c13 => ?_)
        · replace h := z_t c13 h
          obtain ⟨u14, e15⟩ : ∃ y : Int32, y = x2 + 1 := ⟨_, rfl⟩
          replace h := zlet_of h e15
          refine zV_iinc (j := 2) (v := u14) [(2, .int u14), (0, zr b x0), (1, zr b x1)] dX4_isLike_77 rfl (by rw [e15]; rfl) (by decide) rfl rfl ?_
          refine zV_goto (tgt := 37) dX4_isLike_80 (by decide) ?_
          refine zV_pk [1, 2, 0] rfl ?_
          exact ih x0 x1 u14 M _ h
        · replace h := z_f c13 h
          refine zV_iconst (v := 0) dX4_isLike_75 (by decide) ?_
          exact zV_zret rfl dX4_isLike_76 (by decide) (by decide) (Or.inl rfl) (z_ret h)
set_option maxHeartbeats 4000000 in
set_option maxRecDepth 100000 in
theorem vX4_isLike (l : Launch) (D : va_G) (T : Nat → ClassId) (b : Nat) (gr : Bool) (x0 : Nat) (x1 : Nat) (M : zM) (r : Int32) (M' : zM) (h : fX4_isLike x0 x1 M = some (r, M')) : zMet l D T b gr yX4_isLike cX4_isLike 3 (some .boolean) 0 0 0 [zr b x0, zr b x1] M (0, r, M') := by
  refine zEntry2 (ev := zE0) rfl false (fun h9 => nomatch h9) zp_yX4_isLike ⟨zr_cat _ _, zr_cat _ _, trivial⟩ (Nat.le_of_ble_eq_true rfl) ?_
  obtain ⟨o, ho⟩ : ∃ o : Int32 × zM, o = (r, M') := ⟨_, rfl⟩
  rw [← ho] at h
  rw [show ((0, r, M') : Nat × Int32 × zM) = (0, o.1, o.2) by rw [ho]]
  show zV false l RX4 cX4_isLike 3 (some .boolean) false 0 0 0 D T zE0 b gr M.2.2.2 (0, o.1, o.2) 0 0 0 [(0, zr b x0), (1, zr b x1)] [] M
  unfold fX4_isLike at h
  refine zV_aload_n (j := 0) dX4_isLike_0 rfl rfl ?_
  obtain ⟨g16, h⟩ := zg_of h
  refine zV_getI zf_RX4_26 dX4_isLike_1 rfl g16 ?_
  refine zV_aload_n (j := 1) dX4_isLike_4 rfl rfl ?_
  obtain ⟨g17, h⟩ := zg_of h
  refine zV_getI zf_RX4_26 dX4_isLike_5 rfl g17 ?_
  refine zV_icmp_ne (tgt := 33) dX4_isLike_8 (by decide) (fun c18 => ?_) (fun c18 => ?_)
  · replace h := z_f c18 h
    refine zV_iconst (v := 0) dX4_isLike_33 (by decide) ?_
    exact zV_zret rfl dX4_isLike_34 (by decide) (by decide) (Or.inl rfl) (z_ret h)
  · replace h := z_t c18 h
    refine zV_aload_n (j := 0) dX4_isLike_11 rfl rfl ?_
    refine zV_getI zf_RX4_18 dX4_isLike_12 rfl g16 ?_
    refine zV_aload_n (j := 1) dX4_isLike_15 rfl rfl ?_
    refine zV_getI zf_RX4_18 dX4_isLike_16 rfl g17 ?_
    refine zV_icmp_ne (tgt := 33) dX4_isLike_19 (by decide) (fun c19 => ?_) (fun c19 => ?_)
    · replace h := z_f c19 h
      refine zV_iconst (v := 0) dX4_isLike_33 (by decide) ?_
      exact zV_zret rfl dX4_isLike_34 (by decide) (by decide) (Or.inl rfl) (z_ret h)
    · replace h := z_t c19 h
      refine zV_aload_n (j := 0) dX4_isLike_22 rfl rfl ?_
      refine zV_getI zf_RX4_29 dX4_isLike_23 rfl g16 ?_
      refine zV_aload_n (j := 1) dX4_isLike_26 rfl rfl ?_
      refine zV_getI zf_RX4_29 dX4_isLike_27 rfl g17 ?_
      refine zV_icmp_eq (tgt := 35) dX4_isLike_30 (by decide) (fun c20 => ?_) (fun c20 => ?_)
      · replace h := z_t c20 h
        refine zV_iconst (v := 0) dX4_isLike_35 (by decide) ?_
        refine zV_istore_n [(2, .int 0), (0, zr b x0), (1, zr b x1)] dX4_isLike_36 rfl (by decide) rfl rfl ?_
        refine zV_pk [1, 2, 0] rfl ?_
        exact vX4_isLike_37 10000 x0 x1 0 M _ h
      · replace h := z_f c20 h
        refine zV_iconst (v := 0) dX4_isLike_33 (by decide) ?_
        exact zV_zret rfl dX4_isLike_34 (by decide) (by decide) (Or.inl rfl) (z_ret h)
set_option maxHeartbeats 4000000 in
set_option maxRecDepth 100000 in
theorem vX2_isAsBefore (l : Launch) (D : va_G) (T : Nat → ClassId) (b : Nat) (gr : Bool) (x0 : Nat) (x1 : Int32) (x2 : Int32) (M : zM) (r : Int32) (M' : zM) (h : fX2_isAsBefore x0 x1 x2 M = some (r, M')) : zMet l D T b gr yX2_isAsBefore cX2_isAsBefore 3 (some .boolean) 1 0 0 [zr b x0, .int x1, .int x2] M (0, r, M') := by
  refine zEntry2 (ev := zE0) rfl false (fun h9 => nomatch h9) zp_yX2_isAsBefore ⟨zr_cat _ _, rfl, rfl, trivial⟩ (Nat.le_of_ble_eq_true rfl) ?_
  obtain ⟨o, ho⟩ : ∃ o : Int32 × zM, o = (r, M') := ⟨_, rfl⟩
  rw [← ho] at h
  rw [show ((0, r, M') : Nat × Int32 × zM) = (0, o.1, o.2) by rw [ho]]
  show zV false l RX2 cX2_isAsBefore 3 (some .boolean) false 1 0 0 D T zE0 b gr M.2.2.2 (0, o.1, o.2) 0 0 0 [(0, zr b x0), (1, .int x1), (2, .int x2)] [] M
  unfold fX2_isAsBefore at h
  refine zV_iload_n (j := 1) dX2_isAsBefore_0 rfl rfl ?_
  refine zV_if_lt (tgt := 26) dX2_isAsBefore_1 (by decide) (fun c1 => ?_) (fun c1 => ?_)
  · replace h := z_t c1 h
    refine zV_iconst (v := 0) dX2_isAsBefore_26 (by decide) ?_
    exact zV_zret rfl dX2_isAsBefore_27 (by decide) (by decide) (Or.inl rfl) (z_ret h)
  · replace h := z_f c1 h
    refine zV_iload_n (j := 1) dX2_isAsBefore_4 rfl rfl ?_
    refine zV_aload_n (j := 0) dX2_isAsBefore_5 rfl rfl ?_
    obtain ⟨g2, h⟩ := zg_of h
    refine zV_getR zf_RX2_39 dX2_isAsBefore_6 rfl g2 ?_
    obtain ⟨g3, h⟩ := zg_of h
    refine zV_alen 112 6 dX2_isAsBefore_9 g3 ⟨by decide, by decide⟩ rfl ?_
    refine zV_icmp_ge (tgt := 26) dX2_isAsBefore_10 (by decide) (fun c4 => ?_) (fun c4 => ?_)
    · replace h := z_t c4 h
      refine zV_iconst (v := 0) dX2_isAsBefore_26 (by decide) ?_
      exact zV_zret rfl dX2_isAsBefore_27 (by decide) (by decide) (Or.inl rfl) (z_ret h)
    · replace h := z_f c4 h
      refine zV_iload_n (j := 2) dX2_isAsBefore_13 rfl rfl ?_
      refine zV_if_lt (tgt := 26) dX2_isAsBefore_14 (by decide) (fun c5 => ?_) (fun c5 => ?_)
      · replace h := z_t c5 h
        refine zV_iconst (v := 0) dX2_isAsBefore_26 (by decide) ?_
        exact zV_zret rfl dX2_isAsBefore_27 (by decide) (by decide) (Or.inl rfl) (z_ret h)
      · replace h := z_f c5 h
        refine zV_iload_n (j := 2) dX2_isAsBefore_17 rfl rfl ?_
        refine zV_aload_n (j := 0) dX2_isAsBefore_18 rfl rfl ?_
        refine zV_getR zf_RX2_43 dX2_isAsBefore_19 rfl g2 ?_
        obtain ⟨g6, h⟩ := zg_of h
        refine zV_alen 112 6 dX2_isAsBefore_22 g6 ⟨by decide, by decide⟩ rfl ?_
        refine zV_icmp_lt (tgt := 28) dX2_isAsBefore_23 (by decide) (fun c7 => ?_) (fun c7 => ?_)
        · replace h := z_t c7 h
          refine zV_aload_n (j := 0) dX2_isAsBefore_28 rfl rfl ?_
          refine zV_getR zf_RX2_39 dX2_isAsBefore_29 rfl g2 ?_
          refine zV_iload_n (j := 1) dX2_isAsBefore_32 rfl rfl ?_
          obtain ⟨g8, h⟩ := zg_of h
          refine zV_aald 112 6 dX2_isAsBefore_33 g3 ⟨by decide, by decide⟩ rfl g8 ?_
          obtain ⟨g9, h⟩ := zg_of h
          refine zV_getI zf_RX2_110 dX2_isAsBefore_34 rfl g9 ?_
          refine zV_if_ne (tgt := 62) dX2_isAsBefore_37 (by decide) (fun c10 => ?_) (fun c10 => ?_)
          · replace h := z_f c10 h
            refine zV_iconst (v := 0) dX2_isAsBefore_62 (by decide) ?_
            exact zV_zret rfl dX2_isAsBefore_63 (by decide) (by decide) (Or.inl rfl) (z_ret h)
          · replace h := z_t c10 h
            refine zV_aload_n (j := 0) dX2_isAsBefore_40 rfl rfl ?_
            refine zV_getR zf_RX2_39 dX2_isAsBefore_41 rfl g2 ?_
            refine zV_iload_n (j := 1) dX2_isAsBefore_44 rfl rfl ?_
            obtain ⟨g11, h⟩ := zg_of h
            refine zV_aald 112 6 dX2_isAsBefore_45 g3 ⟨by decide, by decide⟩ rfl g11 ?_
            refine zV_aload_n (j := 0) dX2_isAsBefore_46 rfl rfl ?_
            refine zV_getR zf_RX2_43 dX2_isAsBefore_47 rfl g2 ?_
            refine zV_iload_n (j := 2) dX2_isAsBefore_50 rfl rfl ?_
            obtain ⟨g12, h⟩ := zg_of h
            refine zV_aald 112 6 dX2_isAsBefore_51 g6 ⟨by decide, by decide⟩ rfl g12 ?_
            obtain ⟨r13, M14, q15, h⟩ := zb_of h
            refine zV_callVi (ci := 4) (As := [zr b (zR M (zR M x0 13) x2.toNatClampNeg)]) (rest := []) (vX4_isLike l D T b gr (zR M (zR M x0 12) x1.toNatClampNeg) (zR M (zR M x0 13) x2.toNatClampNeg) M _ _ q15) zm_yX4_isLike zl_RX2_113 zi_yX4_isLike ze_yX4_isLike zcI4 g9 rfl rfl (zcs trivial (Nat.le_of_ble_eq_true rfl)) (by decide) (by decide) (by decide) dX2_isAsBefore_52 ?_
            refine zV_if_eq (tgt := 62) dX2_isAsBefore_55 (by decide) (fun c16 => ?_) (fun c16 => ?_)
            · replace h := z_t c16 h
              refine zV_iconst (v := 0) dX2_isAsBefore_62 (by decide) ?_
              exact zV_zret rfl dX2_isAsBefore_63 (by decide) (by decide) (Or.inl rfl) (z_ret h)
            · replace h := z_f c16 h
              refine zV_iconst (v := 1) dX2_isAsBefore_58 (by decide) ?_
              refine zV_goto (tgt := 63) dX2_isAsBefore_59 (by decide) ?_
              exact zV_zret rfl dX2_isAsBefore_63 (by decide) (by decide) (Or.inr rfl) (z_ret h)
        · replace h := z_f c7 h
          refine zV_iconst (v := 0) dX2_isAsBefore_26 (by decide) ?_
          exact zV_zret rfl dX2_isAsBefore_27 (by decide) (by decide) (Or.inl rfl) (z_ret h)
set_option maxHeartbeats 4000000 in
set_option maxRecDepth 100000 in
theorem vX2_countReadAnew_75 {l : Launch} {D : va_G} {T : Nat → ClassId} {b : Nat} {gr : Bool} {n0 : Nat} (x0 : Nat) (x4 : Int32) (x5 : Int32) (M : zM) (o : Int32 × zM) (h : fX2_countReadAnew_75 x0 x4 x5 M = some o) : zV false l RX2 cX2_countReadAnew 6 none false 2 0 0 D T zE0 b gr n0 (0, o.1, o.2) 0 0 75 [(0, zr b x0), (4, .int x4), (5, .int x5)] [] M := by
  unfold fX2_countReadAnew_75 at h
  refine zV_aload_n (j := 0) dX2_countReadAnew_75 rfl rfl ?_
  refine zV_iload (j := 2) dX2_countReadAnew_76 rfl ?_
  refine zV_iload (j := 1) dX2_countReadAnew_78 rfl ?_
  refine zV_isub dX2_countReadAnew_80 ?_
  obtain ⟨g1, h⟩ := zg_of h
  refine zV_putI zf_RX2_74 dX2_countReadAnew_81 rfl rfl g1 ?_
  refine zV_mem (fun M2 e3 => ?_)
  replace h := zlet_of h e3
  exact zV_vret (x := 0) rfl dX2_countReadAnew_84 (by decide) (by decide) (z_ret h)
set_option maxHeartbeats 4000000 in
set_option maxRecDepth 100000 in
theorem vX2_countReadAnew_44 {l : Launch} {D : va_G} {T : Nat → ClassId} {b : Nat} {gr : Bool} {n0 : Nat} : ∀ (n : Nat) (x0 : Nat) (x3 : Int32) (x4 : Int32) (x5 : Int32) (M : zM) (o : Int32 × zM), fX2_countReadAnew_44 n x0 x3 x4 x5 M = some o → zV false l RX2 cX2_countReadAnew 6 none false 2 0 0 D T zE0 b gr n0 (0, o.1, o.2) 0 0 44 [(0, zr b x0), (3, .int x3), (4, .int x4), (5, .int x5)] [] M := by
  intro n
  induction n with
  | zero =>
    intro x0 x3 x4 x5 M o h
    rw [fX2_countReadAnew_44] at h
    cases h
  | succ n ih =>
    intro x0 x3 x4 x5 M o h
    rw [fX2_countReadAnew_44] at h
    refine zV_iload (j := 3) dX2_countReadAnew_44 rfl ?_
    refine zV_aload_n (j := 0) dX2_countReadAnew_46 rfl rfl ?_
    obtain ⟨g4, h⟩ := zg_of h
    refine zV_getR zf_RX2_53 dX2_countReadAnew_47 rfl g4 ?_
    obtain ⟨g5, h⟩ := zg_of h
    refine zV_getI zf_RX2_70 dX2_countReadAnew_50 rfl g5 ?_
    refine zV_icmp_ge (tgt := 75) dX2_countReadAnew_53 (by decide) (fun c6 => ?_) (fun c6 => ?_)
    · replace h := z_t c6 h
      refine zV_pk [0, 2, 3] rfl ?_
      exact vX2_countReadAnew_75 x0 x4 x5 M _ h
    · replace h := z_f c6 h
      refine zV_aload_n (j := 0) dX2_countReadAnew_56 rfl rfl ?_
      refine zV_iload (j := 3) dX2_countReadAnew_57 rfl ?_
      refine zV_iload (j := 3) dX2_countReadAnew_59 rfl ?_
      refine zV_iload_n (j := 1) dX2_countReadAnew_61 rfl rfl ?_
      refine zV_iadd dX2_countReadAnew_62 ?_
      obtain ⟨r7, M8, q9, h⟩ := zb_of h
      refine zV_callVi (ci := 2) (As := [.int x5, .int (x5 + x3)]) (rest := []) (vX2_isAsBefore l D T b gr x0 x5 (x5 + x3) M _ _ q9) zm_yX2_isAsBefore zl_RX2_106 zi_yX2_isAsBefore ze_yX2_isAsBefore zcI2 g4 rfl rfl (zcs trivial (Nat.le_of_ble_eq_true rfl)) (by decide) (by decide) (by decide) dX2_countReadAnew_63 ?_
      refine zV_if_ne (tgt := 75) dX2_countReadAnew_66 (by decide) (fun c10 => ?_) (fun c10 => ?_)
      · replace h := z_f c10 h
        refine zV_pk [0, 2, 3] rfl ?_
        exact vX2_countReadAnew_75 x0 x4 x5 M8 _ h
      · replace h := z_t c10 h
        obtain ⟨u11, e12⟩ : ∃ y : Int32, y = x5 + 1 := ⟨_, rfl⟩
        replace h := zlet_of h e12
        refine zV_iinc (j := 3) (v := u11) [(5, .int u11), (0, zr b x0), (3, .int x3), (4, .int x4)] dX2_countReadAnew_69 rfl (by rw [e12]; rfl) (by decide) rfl rfl ?_
        refine zV_goto (tgt := 44) dX2_countReadAnew_72 (by decide) ?_
        refine zV_pk [1, 2, 3, 0] rfl ?_
        exact ih x0 x3 x4 u11 M8 _ h
set_option maxHeartbeats 4000000 in
set_option maxRecDepth 100000 in
theorem vX2_countReadAnew_42 {l : Launch} {D : va_G} {T : Nat → ClassId} {b : Nat} {gr : Bool} {n0 : Nat} (x0 : Nat) (x3 : Int32) (x4 : Int32) (s0 : Int32) (M : zM) (o : Int32 × zM) (h : fX2_countReadAnew_42 x0 x3 x4 s0 M = some o) : zV false l RX2 cX2_countReadAnew 6 none false 2 0 0 D T zE0 b gr n0 (0, o.1, o.2) 0 0 42 [(0, zr b x0), (3, .int x3), (4, .int x4)] [.int s0] M := by
  unfold fX2_countReadAnew_42 at h
  refine zV_istore [(5, .int s0), (0, zr b x0), (3, .int x3), (4, .int x4)] dX2_countReadAnew_42 (by decide) rfl rfl ?_
  refine zV_pk [1, 2, 3, 0] rfl ?_
  exact vX2_countReadAnew_44 10000 x0 x3 x4 s0 M _ h
set_option maxHeartbeats 4000000 in
set_option maxRecDepth 100000 in
theorem vX2_countReadAnew_21 {l : Launch} {D : va_G} {T : Nat → ClassId} {b : Nat} {gr : Bool} {n0 : Nat} (x0 : Nat) (x2 : Int32) (x3 : Int32) (s0 : Int32) (M : zM) (o : Int32 × zM) (h : fX2_countReadAnew_21 x0 x2 x3 s0 M = some o) : zV false l RX2 cX2_countReadAnew 6 none false 2 0 0 D T zE0 b gr n0 (0, o.1, o.2) 0 0 21 [(0, zr b x0), (2, .int x2), (3, .int x3)] [.int s0] M := by
  unfold fX2_countReadAnew_21 at h
  refine zV_istore [(4, .int s0), (0, zr b x0), (2, .int x2), (3, .int x3)] dX2_countReadAnew_21 (by decide) rfl rfl ?_
  refine zV_aload_n (j := 1) dX2_countReadAnew_23 rfl rfl ?_
  obtain ⟨g13, h⟩ := zg_of h
  refine zV_getR zf_RX2_53 dX2_countReadAnew_24 rfl g13 ?_
  refine zV_iload_n (j := 2) dX2_countReadAnew_27 rfl rfl ?_
  obtain ⟨g14, h⟩ := zg_of h
  obtain ⟨r15, M16, q17, h⟩ := zb_of h
  refine zV_callVi (ci := 3) (As := [.int x2]) (rest := []) (vX3_sortAt l D T b gr (zR M x0 1) x2 M _ _ q17) zm_yX3_sortAt zl_RX2_102 zi_yX3_sortAt ze_yX3_sortAt zcI3 g14 rfl rfl (zcs trivial (Nat.le_of_ble_eq_true rfl)) (by decide) (by decide) (by decide) dX2_countReadAnew_28 ?_
  refine zV_iconst (v := 5) dX2_countReadAnew_31 (by decide) ?_
  refine zV_icmp_ne (tgt := 41) dX2_countReadAnew_32 (by decide) (fun c18 => ?_) (fun c18 => ?_)
  · replace h := z_f c18 h
    refine zV_iload_n (j := 2) dX2_countReadAnew_41 rfl rfl ?_
    refine zV_pk [1, 3, 0] rfl ?_
    exact vX2_countReadAnew_42 x0 x3 s0 x2 M16 _ h
  · replace h := z_t c18 h
    refine zV_iload_n (j := 2) dX2_countReadAnew_35 rfl rfl ?_
    refine zV_iconst (v := 1) dX2_countReadAnew_36 (by decide) ?_
    refine zV_iadd dX2_countReadAnew_37 ?_
    refine zV_goto (tgt := 42) dX2_countReadAnew_38 (by decide) ?_
    refine zV_pk [1, 3, 0] rfl ?_
    exact vX2_countReadAnew_42 x0 x3 s0 (x2 + 1) M16 _ h
set_option maxHeartbeats 4000000 in
set_option maxRecDepth 100000 in
theorem vX2_countReadAnew (l : Launch) (D : va_G) (T : Nat → ClassId) (b : Nat) (gr : Bool) (x0 : Nat) (x1 : Int32) (x2 : Int32) (x3 : Int32) (M : zM) (r : Int32) (M' : zM) (h : fX2_countReadAnew x0 x1 x2 x3 M = some (r, M')) : zMet l D T b gr yX2_countReadAnew cX2_countReadAnew 6 none 2 0 0 [zr b x0, .int x1, .int x2, .int x3] M (0, r, M') := by
  refine zEntry2 (ev := zE0) rfl false (fun h9 => nomatch h9) zp_yX2_countReadAnew ⟨zr_cat _ _, rfl, rfl, rfl, trivial⟩ (Nat.le_of_ble_eq_true rfl) ?_
  obtain ⟨o, ho⟩ : ∃ o : Int32 × zM, o = (r, M') := ⟨_, rfl⟩
  rw [← ho] at h
  rw [show ((0, r, M') : Nat × Int32 × zM) = (0, o.1, o.2) by rw [ho]]
  show zV false l RX2 cX2_countReadAnew 6 none false 2 0 0 D T zE0 b gr M.2.2.2 (0, o.1, o.2) 0 0 0 [(0, zr b x0), (1, .int x1), (2, .int x2), (3, .int x3)] [] M
  unfold fX2_countReadAnew at h
  refine zV_aload_n (j := 0) dX2_countReadAnew_0 rfl rfl ?_
  obtain ⟨g19, h⟩ := zg_of h
  refine zV_getR zf_RX2_53 dX2_countReadAnew_1 rfl g19 ?_
  refine zV_iload_n (j := 1) dX2_countReadAnew_4 rfl rfl ?_
  refine zV_iconst (v := 1) dX2_countReadAnew_5 (by decide) ?_
  refine zV_isub dX2_countReadAnew_6 ?_
  obtain ⟨g20, h⟩ := zg_of h
  obtain ⟨r21, M22, q23, h⟩ := zb_of h
  refine zV_callVi (ci := 3) (As := [.int (x1 - 1)]) (rest := []) (vX3_sortAt l D T b gr (zR M x0 1) (x1 - 1) M _ _ q23) zm_yX3_sortAt zl_RX2_102 zi_yX3_sortAt ze_yX3_sortAt zcI3 g20 rfl rfl (zcs trivial (Nat.le_of_ble_eq_true rfl)) (by decide) (by decide) (by decide) dX2_countReadAnew_7 ?_
  refine zV_iconst (v := 5) dX2_countReadAnew_10 (by decide) ?_
  refine zV_icmp_ne (tgt := 20) dX2_countReadAnew_11 (by decide) (fun c24 => ?_) (fun c24 => ?_)
  · replace h := z_f c24 h
    refine zV_iload_n (j := 1) dX2_countReadAnew_20 rfl rfl ?_
    refine zV_pk [0, 2, 3] rfl ?_
    exact vX2_countReadAnew_21 x0 x2 x3 x1 M22 _ h
  · replace h := z_t c24 h
    refine zV_iload_n (j := 1) dX2_countReadAnew_14 rfl rfl ?_
    refine zV_iconst (v := 1) dX2_countReadAnew_15 (by decide) ?_
    refine zV_isub dX2_countReadAnew_16 ?_
    refine zV_goto (tgt := 21) dX2_countReadAnew_17 (by decide) ?_
    refine zV_pk [0, 2, 3] rfl ?_
    exact vX2_countReadAnew_21 x0 x2 x3 (x1 - 1) M22 _ h
set_option maxHeartbeats 4000000 in
set_option maxRecDepth 100000 in
theorem vX4_readAsWritten (l : Launch) (D : va_G) (T : Nat → ClassId) (b : Nat) (gr : Bool) (x0 : Nat) (x1 : Int32) (x2 : Int32) (M : zM) (r : Int32) (M' : zM) (h : fX4_readAsWritten x0 x1 x2 M = some (r, M')) : zMet l D T b gr yX4_readAsWritten cX4_readAsWritten 3 (some .boolean) 2 0 0 [zr b x0, .int x1, .int x2] M (0, r, M') := by
  refine zEntry2 (ev := zE0) rfl false (fun h9 => nomatch h9) zp_yX4_readAsWritten ⟨zr_cat _ _, rfl, rfl, trivial⟩ (Nat.le_of_ble_eq_true rfl) ?_
  obtain ⟨o, ho⟩ : ∃ o : Int32 × zM, o = (r, M') := ⟨_, rfl⟩
  rw [← ho] at h
  rw [show ((0, r, M') : Nat × Int32 × zM) = (0, o.1, o.2) by rw [ho]]
  show zV false l RX4 cX4_readAsWritten 3 (some .boolean) false 2 0 0 D T zE0 b gr M.2.2.2 (0, o.1, o.2) 0 0 0 [(0, zr b x0), (1, .int x1), (2, .int x2)] [] M
  unfold fX4_readAsWritten at h
  refine zV_iload_n (j := 1) dX4_readAsWritten_0 rfl rfl ?_
  refine zV_iconst (v := 1) dX4_readAsWritten_1 (by decide) ?_
  refine zV_icmp_ne (tgt := 28) dX4_readAsWritten_2 (by decide) (fun c1 => ?_) (fun c1 => ?_)
  · replace h := z_f c1 h
    refine zV_iload_n (j := 1) dX4_readAsWritten_28 rfl rfl ?_
    refine zV_iconst (v := 4) dX4_readAsWritten_29 (by decide) ?_
    refine zV_icmp_ne (tgt := 40) dX4_readAsWritten_30 (by decide) (fun c2 => ?_) (fun c2 => ?_)
    · replace h := z_f c2 h
      refine zV_aload_n (j := 0) dX4_readAsWritten_40 rfl rfl ?_
      obtain ⟨g3, h⟩ := zg_of h
      refine zV_getI zf_RX4_26 dX4_readAsWritten_41 rfl g3 ?_
      refine zV_bipush (v := 20) dX4_readAsWritten_44 (by decide) ?_
      refine zV_icmp_ge (tgt := 57) dX4_readAsWritten_46 (by decide) (fun c4 => ?_) (fun c4 => ?_)
      · replace h := z_t c4 h
        refine zV_iconst (v := 0) dX4_readAsWritten_57 (by decide) ?_
        exact zV_zret rfl dX4_readAsWritten_58 (by decide) (by decide) (Or.inl rfl) (z_ret h)
      · replace h := z_f c4 h
        refine zV_aload_n (j := 0) dX4_readAsWritten_49 rfl rfl ?_
        refine zV_iload_n (j := 2) dX4_readAsWritten_50 rfl rfl ?_
        obtain ⟨r5, M6, q7, h⟩ := zb_of h
        refine zV_callVi (ci := 4) (As := [.int x2]) (rest := []) (vX4_accept l D T b gr x0 x2 M _ _ q7) zm_yX4_accept zl_RX4_96 zi_yX4_accept ze_yX4_accept zcI4 g3 rfl rfl (zcs trivial (Nat.le_of_ble_eq_true rfl)) (by decide) (by decide) (by decide) dX4_readAsWritten_51 ?_
        refine zV_if_ne (tgt := 59) dX4_readAsWritten_54 (by decide) (fun c8 => ?_) (fun c8 => ?_)
        · replace h := z_f c8 h
          refine zV_aload_n (j := 0) dX4_readAsWritten_59 rfl rfl ?_
          refine zV_iload_n (j := 2) dX4_readAsWritten_60 rfl rfl ?_
          obtain ⟨g9, h⟩ := zg_of h
          obtain ⟨r10, M11, q12, h⟩ := zb_of h
          refine zV_callVv (ci := 4) (As := [.int x2]) (rest := []) (vX4_enter l D T b gr x0 x2 M6 _ _ q12) zm_yX4_enter zl_RX4_99 zi_yX4_enter ze_yX4_enter zcI4 g9 rfl rfl (zcs trivial (Nat.le_of_ble_eq_true rfl)) (by decide) (by decide) (by decide) dX4_readAsWritten_61 ?_
          refine zV_iconst (v := 1) dX4_readAsWritten_64 (by decide) ?_
          exact zV_zret rfl dX4_readAsWritten_65 (by decide) (by decide) (Or.inr rfl) (z_ret h)
        · replace h := z_t c8 h
          refine zV_iconst (v := 0) dX4_readAsWritten_57 (by decide) ?_
          exact zV_zret rfl dX4_readAsWritten_58 (by decide) (by decide) (Or.inl rfl) (z_ret h)
    · replace h := z_t c2 h
      refine zV_aload_n (j := 0) dX4_readAsWritten_33 rfl rfl ?_
      refine zV_bipush (v := 10) dX4_readAsWritten_34 (by decide) ?_
      obtain ⟨g13, h⟩ := zg_of h
      obtain ⟨r14, M15, q16, h⟩ := zb_of h
      refine zV_callVi (ci := 4) (As := [.int 10]) (rest := []) (vX4_accept l D T b gr x0 10 M _ _ q16) zm_yX4_accept zl_RX4_96 zi_yX4_accept ze_yX4_accept zcI4 g13 rfl rfl (zcs trivial (Nat.le_of_ble_eq_true rfl)) (by decide) (by decide) (by decide) dX4_readAsWritten_36 ?_
      obtain ⟨g17, h⟩ := zg_of h
      exact zV_zret rfl dX4_readAsWritten_39 (by decide) (by decide) g17 (z_ret h)
  · replace h := z_t c1 h
    refine zV_aload_n (j := 0) dX4_readAsWritten_5 rfl rfl ?_
    obtain ⟨g18, h⟩ := zg_of h
    obtain ⟨r19, M20, q21, h⟩ := zb_of h
    refine zV_callVi (ci := 4) (As := []) (rest := []) (vX4_currentElement l D T b gr x0 M _ _ q21) zm_yX4_currentElement zl_RX4_90 zi_yX4_currentElement ze_yX4_currentElement zcI4 g18 rfl rfl (zcs trivial (Nat.le_of_ble_eq_true rfl)) (by decide) (by decide) (by decide) dX4_readAsWritten_6 ?_
    refine zV_iload_n (j := 2) dX4_readAsWritten_9 rfl rfl ?_
    refine zV_icmp_ne (tgt := 20) dX4_readAsWritten_10 (by decide) (fun c22 => ?_) (fun c22 => ?_)
    · replace h := z_f c22 h
      refine zV_iconst (v := 0) dX4_readAsWritten_20 (by decide) ?_
      exact zV_zret rfl dX4_readAsWritten_21 (by decide) (by decide) (Or.inl rfl) (z_ret h)
    · replace h := z_t c22 h
      refine zV_aload_n (j := 0) dX4_readAsWritten_13 rfl rfl ?_
      obtain ⟨g23, h⟩ := zg_of h
      obtain ⟨r24, M25, q26, h⟩ := zb_of h
      refine zV_callVi (ci := 4) (As := []) (rest := []) (vX4_canEnd l D T b gr x0 M20 _ _ q26) zm_yX4_canEnd zl_RX4_74 zi_yX4_canEnd ze_yX4_canEnd zcI4 g23 rfl rfl (zcs trivial (Nat.le_of_ble_eq_true rfl)) (by decide) (by decide) (by decide) dX4_readAsWritten_14 ?_
      refine zV_if_ne (tgt := 22) dX4_readAsWritten_17 (by decide) (fun c27 => ?_) (fun c27 => ?_)
      · replace h := z_f c27 h
        refine zV_aload_n (j := 0) dX4_readAsWritten_22 rfl rfl ?_
        obtain ⟨g28, h⟩ := zg_of h
        obtain ⟨r29, M30, q31, h⟩ := zb_of h
        refine zV_callVv (ci := 4) (As := []) (rest := []) (vX4_leave l D T b gr x0 M25 _ _ q31) zm_yX4_leave zl_RX4_93 zi_yX4_leave ze_yX4_leave zcI4 g28 rfl rfl (zcs trivial (Nat.le_of_ble_eq_true rfl)) (by decide) (by decide) (by decide) dX4_readAsWritten_23 ?_
        refine zV_iconst (v := 1) dX4_readAsWritten_26 (by decide) ?_
        exact zV_zret rfl dX4_readAsWritten_27 (by decide) (by decide) (Or.inr rfl) (z_ret h)
      · replace h := z_t c27 h
        refine zV_iconst (v := 0) dX4_readAsWritten_20 (by decide) ?_
        exact zV_zret rfl dX4_readAsWritten_21 (by decide) (by decide) (Or.inl rfl) (z_ret h)
set_option maxHeartbeats 4000000 in
set_option maxRecDepth 100000 in
theorem vX2_isNormalFormReadAsWritten_56 {l : Launch} {D : va_G} {T : Nat → ClassId} {b : Nat} {gr : Bool} {n0 : Nat} (x0 : Nat) (M : zM) (o : Int32 × zM) (h : fX2_isNormalFormReadAsWritten_56 x0 M = some o) : zV false l RX2 cX2_isNormalFormReadAsWritten 2 (some .boolean) false 3 0 0 D T zE0 b gr n0 (0, o.1, o.2) 0 0 56 [(0, zr b x0)] [] M := by
  unfold fX2_isNormalFormReadAsWritten_56 at h
  refine zV_aload_n (j := 0) dX2_isNormalFormReadAsWritten_56 rfl rfl ?_
  obtain ⟨g1, h⟩ := zg_of h
  refine zV_getR zf_RX2_66 dX2_isNormalFormReadAsWritten_57 rfl g1 ?_
  obtain ⟨g2, h⟩ := zg_of h
  refine zV_getI zf_RX2_165 dX2_isNormalFormReadAsWritten_60 rfl g2 ?_
  refine zV_if_ne (tgt := 70) dX2_isNormalFormReadAsWritten_63 (by decide) (fun c3 => ?_) (fun c3 => ?_)
  · replace h := z_f c3 h
    refine zV_iconst (v := 0) dX2_isNormalFormReadAsWritten_70 (by decide) ?_
    exact zV_zret rfl dX2_isNormalFormReadAsWritten_71 (by decide) (by decide) (Or.inl rfl) (z_ret h)
  · replace h := z_t c3 h
    refine zV_iconst (v := 1) dX2_isNormalFormReadAsWritten_66 (by decide) ?_
    refine zV_goto (tgt := 71) dX2_isNormalFormReadAsWritten_67 (by decide) ?_
    exact zV_zret rfl dX2_isNormalFormReadAsWritten_71 (by decide) (by decide) (Or.inr rfl) (z_ret h)
set_option maxHeartbeats 4000000 in
set_option maxRecDepth 100000 in
theorem vX2_isNormalFormReadAsWritten_9 {l : Launch} {D : va_G} {T : Nat → ClassId} {b : Nat} {gr : Bool} {n0 : Nat} : ∀ (n : Nat) (x0 : Nat) (x1 : Int32) (M : zM) (o : Int32 × zM), fX2_isNormalFormReadAsWritten_9 n x0 x1 M = some o → zV false l RX2 cX2_isNormalFormReadAsWritten 2 (some .boolean) false 3 0 0 D T zE0 b gr n0 (0, o.1, o.2) 0 0 9 [(0, zr b x0), (1, .int x1)] [] M := by
  intro n
  induction n with
  | zero =>
    intro x0 x1 M o h
    rw [fX2_isNormalFormReadAsWritten_9] at h
    cases h
  | succ n ih =>
    intro x0 x1 M o h
    rw [fX2_isNormalFormReadAsWritten_9] at h
    refine zV_iload_n (j := 1) dX2_isNormalFormReadAsWritten_9 rfl rfl ?_
    refine zV_aload_n (j := 0) dX2_isNormalFormReadAsWritten_10 rfl rfl ?_
    obtain ⟨g4, h⟩ := zg_of h
    refine zV_getR zf_RX2_23 dX2_isNormalFormReadAsWritten_11 rfl g4 ?_
    obtain ⟨g5, h⟩ := zg_of h
    refine zV_getI zf_RX2_70 dX2_isNormalFormReadAsWritten_14 rfl g5 ?_
    refine zV_icmp_ge (tgt := 56) dX2_isNormalFormReadAsWritten_17 (by decide) (fun c6 => ?_) (fun c6 => ?_)
    · replace h := z_t c6 h
      refine zV_pk [0] rfl ?_
      exact vX2_isNormalFormReadAsWritten_56 x0 M _ h
    · replace h := z_f c6 h
      refine zV_aload_n (j := 0) dX2_isNormalFormReadAsWritten_20 rfl rfl ?_
      refine zV_getR zf_RX2_66 dX2_isNormalFormReadAsWritten_21 rfl g4 ?_
      refine zV_aload_n (j := 0) dX2_isNormalFormReadAsWritten_24 rfl rfl ?_
      refine zV_getR zf_RX2_23 dX2_isNormalFormReadAsWritten_25 rfl g4 ?_
      refine zV_getR zf_RX2_117 dX2_isNormalFormReadAsWritten_28 rfl g5 ?_
      refine zV_iload_n (j := 1) dX2_isNormalFormReadAsWritten_31 rfl rfl ?_
      obtain ⟨g7, h⟩ := zg_of h
      obtain ⟨g8, h⟩ := zg_of h
      refine zV_iald dX2_isNormalFormReadAsWritten_32 g7 g8 ?_
      refine zV_aload_n (j := 0) dX2_isNormalFormReadAsWritten_33 rfl rfl ?_
      refine zV_getR zf_RX2_23 dX2_isNormalFormReadAsWritten_34 rfl g4 ?_
      refine zV_getR zf_RX2_120 dX2_isNormalFormReadAsWritten_37 rfl g5 ?_
      refine zV_iload_n (j := 1) dX2_isNormalFormReadAsWritten_40 rfl rfl ?_
      obtain ⟨g9, h⟩ := zg_of h
      obtain ⟨g10, h⟩ := zg_of h
      refine zV_iald dX2_isNormalFormReadAsWritten_41 g9 g10 ?_
      obtain ⟨g11, h⟩ := zg_of h
      obtain ⟨r12, M13, q14, h⟩ := zb_of h
      refine zV_callVi (ci := 4) (As := [.int (zI M (zR M (zR M x0 5) 0) x1.toNatClampNeg), .int (zI M (zR M (zR M x0 5) 1) x1.toNatClampNeg)]) (rest := []) (vX4_readAsWritten l D T b gr (zR M x0 10) (zI M (zR M (zR M x0 5) 0) x1.toNatClampNeg) (zI M (zR M (zR M x0 5) 1) x1.toNatClampNeg) M _ _ q14) zm_yX4_readAsWritten zl_RX2_234 zi_yX4_readAsWritten ze_yX4_readAsWritten zcI4 g11 rfl rfl (zcs trivial (Nat.le_of_ble_eq_true rfl)) (by decide) (by decide) (by decide) dX2_isNormalFormReadAsWritten_42 ?_
      refine zV_if_ne (tgt := 50) dX2_isNormalFormReadAsWritten_45 (by decide) (fun c15 => ?_) (fun c15 => ?_)
      · replace h := z_f c15 h
        obtain ⟨u16, e17⟩ : ∃ y : Int32, y = x1 + 1 := ⟨_, rfl⟩
        replace h := zlet_of h e17
        refine zV_iinc (j := 1) (v := u16) [(1, .int u16), (0, zr b x0)] dX2_isNormalFormReadAsWritten_50 rfl (by rw [e17]; rfl) (by decide) rfl rfl ?_
        refine zV_goto (tgt := 9) dX2_isNormalFormReadAsWritten_53 (by decide) ?_
        refine zV_pk [1, 0] rfl ?_
        exact ih x0 u16 M13 _ h
      · replace h := z_t c15 h
        refine zV_iconst (v := 0) dX2_isNormalFormReadAsWritten_48 (by decide) ?_
        exact zV_zret rfl dX2_isNormalFormReadAsWritten_49 (by decide) (by decide) (Or.inl rfl) (z_ret h)
set_option maxHeartbeats 4000000 in
set_option maxRecDepth 100000 in
theorem vX2_isNormalFormReadAsWritten (l : Launch) (D : va_G) (T : Nat → ClassId) (b : Nat) (gr : Bool) (x0 : Nat) (M : zM) (r : Int32) (M' : zM) (h : fX2_isNormalFormReadAsWritten x0 M = some (r, M')) : zMet l D T b gr yX2_isNormalFormReadAsWritten cX2_isNormalFormReadAsWritten 2 (some .boolean) 3 0 0 [zr b x0] M (0, r, M') := by
  refine zEntry2 (ev := zE0) rfl false (fun h9 => nomatch h9) zp_yX2_isNormalFormReadAsWritten ⟨zr_cat _ _, trivial⟩ (Nat.le_of_ble_eq_true rfl) ?_
  obtain ⟨o, ho⟩ : ∃ o : Int32 × zM, o = (r, M') := ⟨_, rfl⟩
  rw [← ho] at h
  rw [show ((0, r, M') : Nat × Int32 × zM) = (0, o.1, o.2) by rw [ho]]
  show zV false l RX2 cX2_isNormalFormReadAsWritten 2 (some .boolean) false 3 0 0 D T zE0 b gr M.2.2.2 (0, o.1, o.2) 0 0 0 [(0, zr b x0)] [] M
  unfold fX2_isNormalFormReadAsWritten at h
  refine zV_aload_n (j := 0) dX2_isNormalFormReadAsWritten_0 rfl rfl ?_
  obtain ⟨g18, h⟩ := zg_of h
  refine zV_getR zf_RX2_66 dX2_isNormalFormReadAsWritten_1 rfl g18 ?_
  obtain ⟨g19, h⟩ := zg_of h
  obtain ⟨r20, M21, q22, h⟩ := zb_of h
  refine zV_callVv (ci := 4) (As := []) (rest := []) (vX4_restart l D T b gr (zR M x0 10) M _ _ q22) zm_yX4_restart zl_RX2_84 zi_yX4_restart ze_yX4_restart zcI4 g19 rfl rfl (zcs trivial (Nat.le_of_ble_eq_true rfl)) (by decide) (by decide) (by decide) dX2_isNormalFormReadAsWritten_4 ?_
  refine zV_iconst (v := 0) dX2_isNormalFormReadAsWritten_7 (by decide) ?_
  refine zV_istore_n [(1, .int 0), (0, zr b x0)] dX2_isNormalFormReadAsWritten_8 rfl (by decide) rfl rfl ?_
  refine zV_pk [1, 0] rfl ?_
  exact vX2_isNormalFormReadAsWritten_9 10000 x0 0 M21 _ h
set_option maxHeartbeats 4000000 in
set_option maxRecDepth 100000 in
theorem vX3_dropToken_25 {l : Launch} {D : va_G} {T : Nat → ClassId} {b : Nat} {gr : Bool} {n0 : Nat} : ∀ (n : Nat) (x0 : Nat) (x2 : Int32) (M : zM) (o : Int32 × zM), fX3_dropToken_25 n x0 x2 M = some o → zV false l RX3 cX3_dropToken 3 none false 0 0 0 D T zE0 b gr n0 (0, o.1, o.2) 0 0 25 [(0, zr b x0), (2, .int x2)] [] M := by
  intro n
  induction n with
  | zero =>
    intro x0 x2 M o h
    rw [fX3_dropToken_25] at h
    cases h
  | succ n ih =>
    intro x0 x2 M o h
    rw [fX3_dropToken_25] at h
    refine zV_iload_n (j := 1) dX3_dropToken_25 rfl rfl ?_
    refine zV_aload_n (j := 0) dX3_dropToken_26 rfl rfl ?_
    obtain ⟨g1, h⟩ := zg_of h
    refine zV_getI zf_RX3_18 dX3_dropToken_27 rfl g1 ?_
    refine zV_icmp_ge (tgt := 67) dX3_dropToken_30 (by decide) (fun c2 => ?_) (fun c2 => ?_)
    · replace h := z_t c2 h
      exact zV_vret (x := 0) rfl dX3_dropToken_67 (by decide) (by decide) (z_ret h)
    · replace h := z_f c2 h
      refine zV_aload_n (j := 0) dX3_dropToken_33 rfl rfl ?_
      refine zV_getR zf_RX3_9 dX3_dropToken_34 rfl g1 ?_
      refine zV_iload_n (j := 1) dX3_dropToken_37 rfl rfl ?_
      refine zV_aload_n (j := 0) dX3_dropToken_38 rfl rfl ?_
      refine zV_getR zf_RX3_9 dX3_dropToken_39 rfl g1 ?_
      refine zV_iload_n (j := 1) dX3_dropToken_42 rfl rfl ?_
      refine zV_iconst (v := 1) dX3_dropToken_43 (by decide) ?_
      refine zV_iadd dX3_dropToken_44 ?_
      obtain ⟨g3, h⟩ := zg_of h
      obtain ⟨g4, h⟩ := zg_of h
      refine zV_iald dX3_dropToken_45 g3 g4 ?_
      obtain ⟨g5, h⟩ := zg_of h
      refine zV_iast dX3_dropToken_46 g3 g5 ?_
      refine zV_mem (fun M6 e7 => ?_)
      replace h := zlet_of h e7
      refine zV_aload_n (j := 0) dX3_dropToken_47 rfl rfl ?_
      refine zV_getR zf_RX3_15 dX3_dropToken_48 rfl (zkI e7 g1) ?_
      refine zV_iload_n (j := 1) dX3_dropToken_51 rfl rfl ?_
      refine zV_aload_n (j := 0) dX3_dropToken_52 rfl rfl ?_
      refine zV_getR zf_RX3_15 dX3_dropToken_53 rfl (zkI e7 g1) ?_
      refine zV_iload_n (j := 1) dX3_dropToken_56 rfl rfl ?_
      refine zV_iconst (v := 1) dX3_dropToken_57 (by decide) ?_
      refine zV_iadd dX3_dropToken_58 ?_
      obtain ⟨g8, h⟩ := zg_of h
      obtain ⟨g9, h⟩ := zg_of h
      refine zV_iald dX3_dropToken_59 g8 g9 ?_
      obtain ⟨g10, h⟩ := zg_of h
      refine zV_iast dX3_dropToken_60 g8 g10 ?_
      refine zV_mem (fun M11 e12 => ?_)
      replace h := zlet_of h e12
      obtain ⟨u13, e14⟩ : ∃ y : Int32, y = x2 + 1 := ⟨_, rfl⟩
      replace h := zlet_of h e14
      refine zV_iinc (j := 1) (v := u13) [(2, .int u13), (0, zr b x0)] dX3_dropToken_61 rfl (by rw [e14]; rfl) (by decide) rfl rfl ?_
      refine zV_goto (tgt := 25) dX3_dropToken_64 (by decide) ?_
      refine zV_pk [1, 0] rfl ?_
      exact ih x0 u13 M11 _ h
set_option maxHeartbeats 4000000 in
set_option maxRecDepth 100000 in
theorem vX3_dropToken (l : Launch) (D : va_G) (T : Nat → ClassId) (b : Nat) (gr : Bool) (x0 : Nat) (x1 : Int32) (M : zM) (r : Int32) (M' : zM) (h : fX3_dropToken x0 x1 M = some (r, M')) : zMet l D T b gr yX3_dropToken cX3_dropToken 3 none 0 0 0 [zr b x0, .int x1] M (0, r, M') := by
  refine zEntry2 (ev := zE0) rfl false (fun h9 => nomatch h9) zp_yX3_dropToken ⟨zr_cat _ _, rfl, trivial⟩ (Nat.le_of_ble_eq_true rfl) ?_
  obtain ⟨o, ho⟩ : ∃ o : Int32 × zM, o = (r, M') := ⟨_, rfl⟩
  rw [← ho] at h
  rw [show ((0, r, M') : Nat × Int32 × zM) = (0, o.1, o.2) by rw [ho]]
  show zV false l RX3 cX3_dropToken 3 none false 0 0 0 D T zE0 b gr M.2.2.2 (0, o.1, o.2) 0 0 0 [(0, zr b x0), (1, .int x1)] [] M
  unfold fX3_dropToken at h
  refine zV_iload_n (j := 1) dX3_dropToken_0 rfl rfl ?_
  refine zV_if_lt (tgt := 12) dX3_dropToken_1 (by decide) (fun c15 => ?_) (fun c15 => ?_)
  · replace h := z_t c15 h
    exact zV_vret (x := 0) rfl dX3_dropToken_12 (by decide) (by decide) (z_ret h)
  · replace h := z_f c15 h
    refine zV_iload_n (j := 1) dX3_dropToken_4 rfl rfl ?_
    refine zV_aload_n (j := 0) dX3_dropToken_5 rfl rfl ?_
    obtain ⟨g16, h⟩ := zg_of h
    refine zV_getI zf_RX3_18 dX3_dropToken_6 rfl g16 ?_
    refine zV_icmp_lt (tgt := 13) dX3_dropToken_9 (by decide) (fun c17 => ?_) (fun c17 => ?_)
    · replace h := z_t c17 h
      refine zV_aload_n (j := 0) dX3_dropToken_13 rfl rfl ?_
      refine zV_dup dX3_dropToken_14 (zr_cat _ _) ?_
      refine zV_getI zf_RX3_18 dX3_dropToken_15 rfl g16 ?_
      refine zV_iconst (v := 1) dX3_dropToken_18 (by decide) ?_
      refine zV_isub dX3_dropToken_19 ?_
      refine zV_putI zf_RX3_18 dX3_dropToken_20 rfl rfl g16 ?_
      refine zV_mem (fun M18 e19 => ?_)
      replace h := zlet_of h e19
      refine zV_iload_n (j := 1) dX3_dropToken_23 rfl rfl ?_
      refine zV_istore_n [(2, .int x1), (0, zr b x0), (1, .int x1)] dX3_dropToken_24 rfl (by decide) rfl rfl ?_
      refine zV_pk [1, 0] rfl ?_
      exact vX3_dropToken_25 10000 x0 x1 M18 _ h
    · replace h := z_f c17 h
      exact zV_vret (x := 0) rfl dX3_dropToken_12 (by decide) (by decide) (z_ret h)
set_option maxHeartbeats 4000000 in
set_option maxRecDepth 100000 in
theorem vX6_init_25 {l : Launch} {D : va_G} {T : Nat → ClassId} {b : Nat} {gr : Bool} {n0 : Nat} (hgr : gr = true) : ∀ (n : Nat) (x0 : Nat) (x1 : Nat) (x3 : Int32) (cc ss : Nat) (M : zM) (o : Int32 × zM), fX6_init_25 n x0 x1 x3 cc ss M = some o → zV false l RX6 cX6_init 4 none true 2 28 423 D T zE0 b gr n0 (0, o.1, o.2) cc ss 25 [(0, zr b x0), (1, zr b x1), (3, .int x3)] [] M := by
  intro n
  induction n with
  | zero =>
    intro x0 x1 x3 cc ss M o h
    rw [fX6_init_25] at h
    cases h
  | succ n ih =>
    intro x0 x1 x3 cc ss M o h
    rw [fX6_init_25] at h
    refine zV_iload_n (j := 2) dX6_init_25 rfl rfl ?_
    refine zV_aload_n (j := 0) dX6_init_26 rfl rfl ?_
    obtain ⟨g1, h⟩ := zg_of h
    refine zV_getR zf_RX6_11 dX6_init_27 rfl g1 ?_
    obtain ⟨g2, h⟩ := zg_of h
    refine zV_alen 112 6 dX6_init_30 g2 ⟨by decide, by decide⟩ rfl ?_
    refine zV_icmp_ge (tgt := 54) dX6_init_31 (by decide) (fun c3 => ?_) (fun c3 => ?_)
    · replace h := z_t c3 h
      obtain ⟨g4, h⟩ := zg_of h
      exact zV_vret (x := 0) rfl dX6_init_54 g4.1 g4.2 (z_ret h)
    · replace h := z_f c3 h
      refine zV_aload_n (j := 0) dX6_init_34 rfl rfl ?_
      refine zV_getR zf_RX6_11 dX6_init_35 rfl g1 ?_
      refine zV_iload_n (j := 2) dX6_init_38 rfl rfl ?_
      obtain ⟨g5, h⟩ := zg_of h
      refine zV_new (ci := 4) zcI4 hgr zcU4 zcT4 zcD4 zk_RX6_9 zcV4 zcK4 g5.1 g5.2 dX6_init_39 ?_
      refine zV_mem (fun M8 e9 => ?_)
      replace h := zlet_of h e9
      refine zV_topr (fun u6 e7 => ?_)
      replace h := zlet_of h e7
      refine zV_dup dX6_init_42 (zr_cat _ _) ?_
      refine zV_aload_n (j := 1) dX6_init_43 rfl rfl ?_
      obtain ⟨g10, h⟩ := zg_of h
      obtain ⟨g14, h⟩ := zg_of h
      obtain ⟨r11, M12, q13, h⟩ := zb_of h
      refine zV_callIv (As := [zr b x1]) (rest := [zr b u6, .int x3, zr b (zR M x0 2)]) (vX4_init l D T b gr hgr u6 x1 M8 _ _ q13) zm_yX4_init zl_RX6_25 zi_yX4_init rfl g10 rfl rfl (zcs ⟨zr_cat _ _, rfl, zr_cat _ _, trivial⟩ (Nat.le_of_ble_eq_true rfl)) (by decide) g14.1 g14.2 dX6_init_44 ?_
      obtain ⟨g15, h⟩ := zg_of h
      obtain ⟨g16, h⟩ := zg_of h
      obtain ⟨g17, h⟩ := zg_of h
      refine zV_aast 112 6 dX6_init_47 g15 ⟨by decide, by decide⟩ rfl zcI4 g16 g17 ?_
      refine zV_mem (fun M18 e19 => ?_)
      replace h := zlet_of h e19
      obtain ⟨u20, e21⟩ : ∃ y : Int32, y = x3 + 1 := ⟨_, rfl⟩
      replace h := zlet_of h e21
      refine zV_iinc (j := 2) (v := u20) [(3, .int u20), (0, zr b x0), (1, zr b x1)] dX6_init_48 rfl (by rw [e21]; rfl) (by decide) rfl rfl ?_
      refine zV_goto (tgt := 25) dX6_init_51 (by decide) ?_
      refine zV_pk [1, 2, 0] rfl ?_
      exact ih x0 x1 u20 ((cc + 1) + 2) ((ss + 6) + 40) M18 _ h
set_option maxHeartbeats 4000000 in
set_option maxRecDepth 100000 in
theorem vX6_init (l : Launch) (D : va_G) (T : Nat → ClassId) (b : Nat) (gr : Bool) (hgr : gr = true) (x0 : Nat) (x1 : Nat) (x2 : Nat) (M : zM) (r : Int32) (M' : zM) (h : fX6_init x0 x1 x2 M = some (r, M')) : zMet l D T b gr yX6_init cX6_init 4 none 2 28 423 [zr b x0, zr b x1, zr b x2] M (0, r, M') := by
  refine zEntry2 (ev := zE0) rfl true (fun _ => rfl) zp_yX6_init ⟨zr_cat _ _, zr_cat _ _, zr_cat _ _, trivial⟩ (Nat.le_of_ble_eq_true rfl) ?_
  obtain ⟨o, ho⟩ : ∃ o : Int32 × zM, o = (r, M') := ⟨_, rfl⟩
  rw [← ho] at h
  rw [show ((0, r, M') : Nat × Int32 × zM) = (0, o.1, o.2) by rw [ho]]
  show zV false l RX6 cX6_init 4 none true 2 28 423 D T zE0 b gr M.2.2.2 (0, o.1, o.2) 0 0 0 [(0, zr b x0), (1, zr b x1), (2, zr b x2)] [] M
  unfold fX6_init at h
  refine zV_aload_n (j := 0) dX6_init_0 rfl rfl ?_
  obtain ⟨g22, h⟩ := zg_of h
  refine zV_objInit zl_RX6_3 zi_obj zm_obj (by decide) g22 (zcs trivial (Nat.le_of_ble_eq_true rfl)) dX6_init_1 ?_
  refine zV_aload_n (j := 0) dX6_init_4 rfl rfl ?_
  refine zV_bipush (v := 9) dX6_init_5 (by decide) ?_
  refine zV_newq (n := 9) 112 6 ⟨by decide, by decide⟩ rfl hgr zk_RX6_9 (fun _ h9 => h9.2.2) (by decide) (by decide) (by decide) (Nat.le_of_ble_eq_true rfl) (Nat.le_of_ble_eq_true rfl) dX6_init_7 ?_
  refine zV_mem (fun M25 e26 => ?_)
  replace h := zlet_of h e26
  refine zV_topr (fun u23 e24 => ?_)
  replace h := zlet_of h e24
  obtain ⟨g27, h⟩ := zg_of h
  refine zV_putRF zf_RX6_11 dX6_init_10 rfl rfl rfl zfl_RX6_11 rfl g27 ?_
  refine zV_mem (fun M28 e29 => ?_)
  replace h := zlet_of h e29
  refine zV_aload_n (j := 0) dX6_init_13 rfl rfl ?_
  refine zV_aload_n (j := 1) dX6_init_14 rfl rfl ?_
  refine zV_putRF zf_RX6_17 dX6_init_15 rfl rfl rfl zfl_RX6_17 rfl (zkR e29 g27) ?_
  refine zV_mem (fun M30 e31 => ?_)
  replace h := zlet_of h e31
  refine zV_aload_n (j := 0) dX6_init_18 rfl rfl ?_
  refine zV_aload_n (j := 2) dX6_init_19 rfl rfl ?_
  refine zV_putRF zf_RX6_21 dX6_init_20 rfl rfl rfl zfl_RX6_21 rfl (zkR e31 (zkR e29 g27)) ?_
  refine zV_mem (fun M32 e33 => ?_)
  replace h := zlet_of h e33
  refine zV_iconst (v := 0) dX6_init_23 (by decide) ?_
  refine zV_istore_n [(3, .int 0), (0, zr b x0), (1, zr b x1), (2, zr b x2)] dX6_init_24 rfl (by decide) rfl rfl ?_
  refine zV_pk [1, 2, 0] rfl ?_
  exact vX6_init_25 hgr 10000 x0 x1 0 1 9 M32 _ h
set_option maxHeartbeats 4000000 in
set_option maxRecDepth 100000 in
theorem vX7_init_73 {l : Launch} {D : va_G} {T : Nat → ClassId} {b : Nat} {gr : Bool} {n0 : Nat} (hgr : gr = true) (x0 : Nat) (cc ss : Nat) (M : zM) (o : Int32 × zM) (h : fX7_init_73 x0 cc ss M = some o) : zV false l RX7 cX7_init 2 none true 3 503 19563 D T zE0 b gr n0 (0, o.1, o.2) cc ss 73 [(0, zr b x0)] [] M := by
  unfold fX7_init_73 at h
  refine zV_aload_n (j := 0) dX7_init_73 rfl rfl ?_
  obtain ⟨g1, h⟩ := zg_of h
  refine zV_new (ci := 2) zcI2 hgr zcU2 zcT2 zcD2 zk_RX7_33 zcV2 zcK2 g1.1 g1.2 dX7_init_74 ?_
  refine zV_mem (fun M4 e5 => ?_)
  replace h := zlet_of h e5
  refine zV_topr (fun u2 e3 => ?_)
  replace h := zlet_of h e3
  refine zV_dup dX7_init_77 (zr_cat _ _) ?_
  refine zV_aload_n (j := 0) dX7_init_78 rfl rfl ?_
  obtain ⟨g6, h⟩ := zg_of h
  refine zV_getR zf_RX7_12 dX7_init_79 rfl g6 ?_
  refine zV_aload_n (j := 0) dX7_init_82 rfl rfl ?_
  refine zV_getR zf_RX7_21 dX7_init_83 rfl g6 ?_
  refine zV_aload_n (j := 0) dX7_init_86 rfl rfl ?_
  refine zV_getR zf_RX7_25 dX7_init_87 rfl g6 ?_
  refine zV_aload_n (j := 0) dX7_init_90 rfl rfl ?_
  refine zV_getR zf_RX7_29 dX7_init_91 rfl g6 ?_
  obtain ⟨g7, h⟩ := zg_of h
  obtain ⟨g11, h⟩ := zg_of h
  obtain ⟨r8, M9, q10, h⟩ := zb_of h
  refine zV_callIv (As := [zr b (zR M4 x0 0), zr b (zR M4 x0 1), zr b (zR M4 x0 2), zr b (zR M4 x0 3)]) (rest := [zr b u2, zr b x0]) (vX2_init l D T b gr hgr u2 (zR M4 x0 0) (zR M4 x0 1) (zR M4 x0 2) (zR M4 x0 3) M4 _ _ q10) zm_yX2_init zl_RX7_35 zi_yX2_init rfl g7 rfl rfl (zcs ⟨zr_cat _ _, zr_cat _ _, trivial⟩ (Nat.le_of_ble_eq_true rfl)) (by decide) g11.1 g11.2 dX7_init_94 ?_
  obtain ⟨g12, h⟩ := zg_of h
  refine zV_putRF zf_RX7_38 dX7_init_97 rfl rfl rfl zfl_RX7_38 rfl g12 ?_
  refine zV_mem (fun M13 e14 => ?_)
  replace h := zlet_of h e14
  refine zV_aload_n (j := 0) dX7_init_100 rfl rfl ?_
  obtain ⟨g15, h⟩ := zg_of h
  refine zV_new (ci := 6) zcI6 hgr zcU6 zcT6 zcD6 zk_RX7_42 zcV6 zcK6 g15.1 g15.2 dX7_init_101 ?_
  refine zV_mem (fun M18 e19 => ?_)
  replace h := zlet_of h e19
  refine zV_topr (fun u16 e17 => ?_)
  replace h := zlet_of h e17
  refine zV_dup dX7_init_104 (zr_cat _ _) ?_
  refine zV_aload_n (j := 0) dX7_init_105 rfl rfl ?_
  refine zV_getR zf_RX7_12 dX7_init_106 rfl (zkN e19 (zkR e14 g12)) ?_
  refine zV_aload_n (j := 0) dX7_init_109 rfl rfl ?_
  refine zV_getR zf_RX7_21 dX7_init_110 rfl (zkN e19 (zkR e14 g12)) ?_
  obtain ⟨g20, h⟩ := zg_of h
  obtain ⟨g24, h⟩ := zg_of h
  obtain ⟨r21, M22, q23, h⟩ := zb_of h
  refine zV_callIv (As := [zr b (zR M18 x0 0), zr b (zR M18 x0 1)]) (rest := [zr b u16, zr b x0]) (vX6_init l D T b gr hgr u16 (zR M18 x0 0) (zR M18 x0 1) M18 _ _ q23) zm_yX6_init zl_RX7_44 zi_yX6_init rfl g20 rfl rfl (zcs ⟨zr_cat _ _, zr_cat _ _, trivial⟩ (Nat.le_of_ble_eq_true rfl)) (by decide) g24.1 g24.2 dX7_init_113 ?_
  obtain ⟨g25, h⟩ := zg_of h
  refine zV_putRF zf_RX7_47 dX7_init_116 rfl rfl rfl zfl_RX7_47 rfl g25 ?_
  refine zV_mem (fun M26 e27 => ?_)
  replace h := zlet_of h e27
  obtain ⟨g28, h⟩ := zg_of h
  exact zV_vret (x := 0) rfl dX7_init_119 g28.1 g28.2 (z_ret h)
set_option maxHeartbeats 4000000 in
set_option maxRecDepth 100000 in
theorem vX7_init_46 {l : Launch} {D : va_G} {T : Nat → ClassId} {b : Nat} {gr : Bool} {n0 : Nat} (hgr : gr = true) : ∀ (n : Nat) (x0 : Nat) (x1 : Int32) (cc ss : Nat) (M : zM) (o : Int32 × zM), fX7_init_46 n x0 x1 cc ss M = some o → zV false l RX7 cX7_init 2 none true 3 503 19563 D T zE0 b gr n0 (0, o.1, o.2) cc ss 46 [(0, zr b x0), (1, .int x1)] [] M := by
  intro n
  induction n with
  | zero =>
    intro x0 x1 cc ss M o h
    rw [fX7_init_46] at h
    cases h
  | succ n ih =>
    intro x0 x1 cc ss M o h
    rw [fX7_init_46] at h
    refine zV_iload_n (j := 1) dX7_init_46 rfl rfl ?_
    refine zV_bipush (v := 6) dX7_init_47 (by decide) ?_
    refine zV_icmp_ge (tgt := 73) dX7_init_49 (by decide) (fun c29 => ?_) (fun c29 => ?_)
    · replace h := z_t c29 h
      refine zV_pk [0] rfl ?_
      exact vX7_init_73 hgr x0 cc ss M _ h
    · replace h := z_f c29 h
      refine zV_aload_n (j := 0) dX7_init_52 rfl rfl ?_
      obtain ⟨g30, h⟩ := zg_of h
      refine zV_getR zf_RX7_25 dX7_init_53 rfl g30 ?_
      refine zV_iload_n (j := 1) dX7_init_56 rfl rfl ?_
      obtain ⟨g31, h⟩ := zg_of h
      refine zV_new (ci := 3) zcI3 hgr zcU3 zcT3 zcD3 zk_RX7_16 zcV3 zcK3 g31.1 g31.2 dX7_init_57 ?_
      refine zV_mem (fun M34 e35 => ?_)
      replace h := zlet_of h e35
      refine zV_topr (fun u32 e33 => ?_)
      replace h := zlet_of h e33
      refine zV_dup dX7_init_60 (zr_cat _ _) ?_
      refine zV_bipush (v := 6) dX7_init_61 (by decide) ?_
      obtain ⟨g36, h⟩ := zg_of h
      obtain ⟨g40, h⟩ := zg_of h
      obtain ⟨r37, M38, q39, h⟩ := zb_of h
      refine zV_callIv (As := [.int 6]) (rest := [zr b u32, .int x1, zr b (zR M x0 2)]) (vX3_init l D T b gr hgr u32 6 M34 _ _ q39) zm_yX3_init zl_RX7_18 zi_yX3_init rfl g36 rfl rfl (zcs ⟨zr_cat _ _, rfl, zr_cat _ _, trivial⟩ (Nat.le_of_ble_eq_true rfl)) (by decide) g40.1 g40.2 dX7_init_63 ?_
      obtain ⟨g41, h⟩ := zg_of h
      obtain ⟨g42, h⟩ := zg_of h
      obtain ⟨g43, h⟩ := zg_of h
      refine zV_aast 111 5 dX7_init_66 g41 ⟨by decide, by decide⟩ rfl zcI3 g42 g43 ?_
      refine zV_mem (fun M44 e45 => ?_)
      replace h := zlet_of h e45
      obtain ⟨u46, e47⟩ : ∃ y : Int32, y = x1 + 1 := ⟨_, rfl⟩
      replace h := zlet_of h e47
      refine zV_iinc (j := 1) (v := u46) [(1, .int u46), (0, zr b x0)] dX7_init_67 rfl (by rw [e47]; rfl) (by decide) rfl rfl ?_
      refine zV_goto (tgt := 46) dX7_init_70 (by decide) ?_
      refine zV_pk [1, 0] rfl ?_
      exact ih x0 u46 ((cc + 1) + 2) ((ss + 3) + 12) M44 _ h
set_option maxHeartbeats 4000000 in
set_option maxRecDepth 100000 in
theorem vX7_init (l : Launch) (D : va_G) (T : Nat → ClassId) (b : Nat) (gr : Bool) (hgr : gr = true) (x0 : Nat) (M : zM) (r : Int32) (M' : zM) (h : fX7_init x0 M = some (r, M')) : zMet l D T b gr yX7_init cX7_init 2 none 3 503 19563 [zr b x0] M (0, r, M') := by
  refine zEntry2 (ev := zE0) rfl true (fun _ => rfl) zp_yX7_init ⟨zr_cat _ _, trivial⟩ (Nat.le_of_ble_eq_true rfl) ?_
  obtain ⟨o, ho⟩ : ∃ o : Int32 × zM, o = (r, M') := ⟨_, rfl⟩
  rw [← ho] at h
  rw [show ((0, r, M') : Nat × Int32 × zM) = (0, o.1, o.2) by rw [ho]]
  show zV false l RX7 cX7_init 2 none true 3 503 19563 D T zE0 b gr M.2.2.2 (0, o.1, o.2) 0 0 0 [(0, zr b x0)] [] M
  unfold fX7_init at h
  refine zV_aload_n (j := 0) dX7_init_0 rfl rfl ?_
  obtain ⟨g48, h⟩ := zg_of h
  refine zV_objInit zl_RX7_3 zi_obj zm_obj (by decide) g48 (zcs trivial (Nat.le_of_ble_eq_true rfl)) dX7_init_1 ?_
  refine zV_aload_n (j := 0) dX7_init_4 rfl rfl ?_
  refine zV_new (ci := 0) zcI0 hgr zcU0 zcT0 zcD0 zk_RX7_9 zcV0 zcK0 (Nat.le_of_ble_eq_true rfl) (Nat.le_of_ble_eq_true rfl) dX7_init_5 ?_
  refine zV_mem (fun M51 e52 => ?_)
  replace h := zlet_of h e52
  refine zV_topr (fun u49 e50 => ?_)
  replace h := zlet_of h e50
  refine zV_dup dX7_init_8 (zr_cat _ _) ?_
  obtain ⟨g53, h⟩ := zg_of h
  obtain ⟨r54, M55, q56, h⟩ := zb_of h
  refine zV_callIv (As := []) (rest := [zr b u49, zr b x0]) (vX0_init l D T b gr hgr u49 M51 _ _ q56) zm_yX0_init zl_RX7_11 zi_yX0_init rfl g53 rfl rfl (zcs ⟨zr_cat _ _, zr_cat _ _, trivial⟩ (Nat.le_of_ble_eq_true rfl)) (by decide) (Nat.le_of_ble_eq_true rfl) (Nat.le_of_ble_eq_true rfl) dX7_init_9 ?_
  obtain ⟨g57, h⟩ := zg_of h
  refine zV_putRF zf_RX7_12 dX7_init_12 rfl rfl rfl zfl_RX7_12 rfl g57 ?_
  refine zV_mem (fun M58 e59 => ?_)
  replace h := zlet_of h e59
  refine zV_aload_n (j := 0) dX7_init_15 rfl rfl ?_
  refine zV_new (ci := 3) zcI3 hgr zcU3 zcT3 zcD3 zk_RX7_16 zcV3 zcK3 (Nat.le_of_ble_eq_true rfl) (Nat.le_of_ble_eq_true rfl) dX7_init_16 ?_
  refine zV_mem (fun M62 e63 => ?_)
  replace h := zlet_of h e63
  refine zV_topr (fun u60 e61 => ?_)
  replace h := zlet_of h e61
  refine zV_dup dX7_init_19 (zr_cat _ _) ?_
  refine zV_bipush (v := 60) dX7_init_20 (by decide) ?_
  obtain ⟨g64, h⟩ := zg_of h
  obtain ⟨r65, M66, q67, h⟩ := zb_of h
  refine zV_callIv (As := [.int 60]) (rest := [zr b u60, zr b x0]) (vX3_init l D T b gr hgr u60 60 M62 _ _ q67) zm_yX3_init zl_RX7_18 zi_yX3_init rfl g64 rfl rfl (zcs ⟨zr_cat _ _, zr_cat _ _, trivial⟩ (Nat.le_of_ble_eq_true rfl)) (by decide) (Nat.le_of_ble_eq_true rfl) (Nat.le_of_ble_eq_true rfl) dX7_init_22 ?_
  obtain ⟨g68, h⟩ := zg_of h
  refine zV_putRF zf_RX7_21 dX7_init_25 rfl rfl rfl zfl_RX7_21 rfl g68 ?_
  refine zV_mem (fun M69 e70 => ?_)
  replace h := zlet_of h e70
  refine zV_aload_n (j := 0) dX7_init_28 rfl rfl ?_
  refine zV_bipush (v := 6) dX7_init_29 (by decide) ?_
  refine zV_newq (n := 6) 111 5 ⟨by decide, by decide⟩ rfl hgr zk_RX7_16 (fun _ h9 => h9.2.1) (by decide) (by decide) (by decide) (Nat.le_of_ble_eq_true rfl) (Nat.le_of_ble_eq_true rfl) dX7_init_31 ?_
  refine zV_mem (fun M73 e74 => ?_)
  replace h := zlet_of h e74
  refine zV_topr (fun u71 e72 => ?_)
  replace h := zlet_of h e72
  refine zV_putRF zf_RX7_25 dX7_init_34 rfl rfl rfl zfl_RX7_25 rfl (zkN e74 (zkR e70 g68)) ?_
  refine zV_mem (fun M75 e76 => ?_)
  replace h := zlet_of h e76
  refine zV_aload_n (j := 0) dX7_init_37 rfl rfl ?_
  refine zV_iconst (v := 4) dX7_init_38 (by decide) ?_
  refine zV_newa_int (n := 4) hgr zar_int (by decide) (by decide) (by decide) (Nat.le_of_ble_eq_true rfl) (Nat.le_of_ble_eq_true rfl) dX7_init_39 ?_
  refine zV_mem (fun M79 e80 => ?_)
  replace h := zlet_of h e80
  refine zV_topr (fun u77 e78 => ?_)
  replace h := zlet_of h e78
  refine zV_putRF zf_RX7_29 dX7_init_41 rfl rfl rfl zfl_RX7_29 rfl (zkN e80 (zkR e76 (zkN e74 (zkR e70 g68)))) ?_
  refine zV_mem (fun M81 e82 => ?_)
  replace h := zlet_of h e82
  refine zV_iconst (v := 0) dX7_init_44 (by decide) ?_
  refine zV_istore_n [(1, .int 0), (0, zr b x0)] dX7_init_45 rfl (by decide) rfl rfl ?_
  refine zV_pk [1, 0] rfl ?_
  exact vX7_init_46 hgr 10000 x0 0 71 678 M81 _ h
set_option maxHeartbeats 4000000 in
set_option maxRecDepth 100000 in
theorem vX7_checkIndex_9 {l : Launch} {D : va_G} {T : Nat → ClassId} {b : Nat} {gr : Bool} {n0 : Nat} (M : zM) (o : Int32 × zM) (h : fX7_checkIndex_9 M = some (0, o)) : zV false l RX7 cX7_checkIndex 2 none false 6 0 0 D T zE0 b gr n0 (0, o.1, o.2) 0 0 9 [] [] M := by
  unfold fX7_checkIndex_9 at h
  exact absurd (congrArg Prod.fst (Option.some.inj h)) (show ¬ (1 : Nat) = 0 by decide)
set_option maxHeartbeats 4000000 in
set_option maxRecDepth 100000 in
theorem vX7_checkIndex (l : Launch) (D : va_G) (T : Nat → ClassId) (b : Nat) (gr : Bool) (x0 : Int32) (x1 : Int32) (M : zM) (r : Int32) (M' : zM) (h : fX7_checkIndex x0 x1 M = some (0, r, M')) : zMet l D T b gr yX7_checkIndex cX7_checkIndex 2 none 6 0 0 [.int x0, .int x1] M (0, r, M') := by
  refine zEntry2 (ev := zE0) rfl false (fun h9 => nomatch h9) zp_yX7_checkIndex ⟨rfl, rfl, trivial⟩ (Nat.le_of_ble_eq_true rfl) ?_
  obtain ⟨o, ho⟩ : ∃ o : Int32 × zM, o = (r, M') := ⟨_, rfl⟩
  rw [← ho] at h
  rw [show ((0, r, M') : Nat × Int32 × zM) = (0, o.1, o.2) by rw [ho]]
  show zV false l RX7 cX7_checkIndex 2 none false 6 0 0 D T zE0 b gr M.2.2.2 (0, o.1, o.2) 0 0 0 [(0, .int x0), (1, .int x1)] [] M
  unfold fX7_checkIndex at h
  refine zV_iload_n (j := 0) dX7_checkIndex_0 rfl rfl ?_
  refine zV_if_lt (tgt := 9) dX7_checkIndex_1 (by decide) (fun c1 => ?_) (fun c1 => ?_)
  · replace h := z_t c1 h
    refine zV_pk [] rfl ?_
    exact vX7_checkIndex_9 M _ h
  · replace h := z_f c1 h
    refine zV_iload_n (j := 0) dX7_checkIndex_4 rfl rfl ?_
    refine zV_iload_n (j := 1) dX7_checkIndex_5 rfl rfl ?_
    refine zV_icmp_lt (tgt := 19) dX7_checkIndex_6 (by decide) (fun c2 => ?_) (fun c2 => ?_)
    · replace h := z_t c2 h
      exact zV_vret (x := 0) rfl dX7_checkIndex_19 (by decide) (by decide) (z_ret0 h)
    · replace h := z_f c2 h
      refine zV_pk [] rfl ?_
      exact vX7_checkIndex_9 M _ h
set_option maxHeartbeats 4000000 in
set_option maxRecDepth 100000 in
theorem vX7_slot_104 {l : Launch} {D : va_G} {T : Nat → ClassId} {b : Nat} {gr : Bool} {n0 : Nat} (x0 : Nat) (x4 : Int32) (x6 : Nat) (s0 : Nat) (s1 : Int32) (M : zM) (o : Int32 × zM) (h : fX7_slot_104 x0 x4 x6 s0 s1 M = some (0, o)) : zV false l RX7 cX7_slot 8 (some .int) false 122 0 0 D T zE0 b gr n0 (0, o.1, o.2) 0 0 104 [(0, zr b x0), (4, .int x4), (6, zr b x6)] [.int s1, zr b s0] M := by
  unfold fX7_slot_104 at h
  refine zV_iload (j := 1) dX7_slot_104 rfl ?_
  obtain ⟨g1, h⟩ := zg_of h
  obtain ⟨r2, M3, q4, h⟩ := zb_of h
  refine zV_callVv (ci := 1) (As := [.int s1, .int x4]) (rest := []) (vX1_addSlot l D T b gr s0 s1 x4 M _ _ q4) zm_yX1_addSlot zl_RX7_77 zi_yX1_addSlot ze_yX1_addSlot zcI1 g1 rfl rfl (zcs trivial (Nat.le_of_ble_eq_true rfl)) (by decide) (by decide) (by decide) dX7_slot_106 ?_
  refine zV_aload (j := 2) dX7_slot_109 rfl ?_
  obtain ⟨g5, h⟩ := zg_of h
  refine zV_getI zf_RX7_80 dX7_slot_111 rfl g5 ?_
  refine zV_if_eq (tgt := 135) dX7_slot_114 (by decide) (fun c6 => ?_) (fun c6 => ?_)
  · replace h := z_t c6 h
    refine zV_aload_n (j := 0) dX7_slot_135 rfl rfl ?_
    obtain ⟨g7, h⟩ := zg_of h
    refine zV_getR zf_RX7_38 dX7_slot_136 rfl g7 ?_
    obtain ⟨g8, h⟩ := zg_of h
    obtain ⟨r9, M10, q11, h⟩ := zb_of h
    refine zV_callVv (ci := 2) (As := []) (rest := []) (vX2_readText l D T b gr (zR M3 x0 4) M3 _ _ q11) zm_yX2_readText zl_RX7_90 zi_yX2_readText ze_yX2_readText zcI2 g8 rfl rfl (zcs trivial (Nat.le_of_ble_eq_true rfl)) (by decide) (by decide) (by decide) dX7_slot_139 ?_
    refine zV_iconst (v := (-1)) dX7_slot_142 (by decide) ?_
    exact zV_iret rfl dX7_slot_143 (by decide) (by decide) (z_ret0 h)
  · replace h := z_f c6 h
    refine zV_aload (j := 2) dX7_slot_117 rfl ?_
    refine zV_getI zf_RX7_80 dX7_slot_119 rfl g5 ?_
    obtain ⟨r12, M13, q14, h⟩ := zb_of h
    refine zV_callSi (As := [.int (zI M3 x6 6)]) (rest := []) (vX7_lowestOf l D T b gr (zI M3 x6 6) M3 _ _ q14) zm_yX7_lowestOf zl_RX7_83 zs_yX7_lowestOf rfl rfl (zcs trivial (Nat.le_of_ble_eq_true rfl)) (by decide) (by decide) (by decide) dX7_slot_122 ?_
    refine zV_istore [(7, .int r12), (0, zr b x0), (4, .int x4), (6, zr b x6)] dX7_slot_125 (by decide) rfl rfl ?_
    refine zV_aload (j := 3) dX7_slot_127 rfl ?_
    obtain ⟨g15, h⟩ := zg_of h
    obtain ⟨r16, M17, q18, h⟩ := zb_of h
    refine zV_callVv (ci := 1) (As := []) (rest := []) (vX1_dropLastSlot l D T b gr x6 M13 _ _ q18) zm_yX1_dropLastSlot zl_RX7_87 zi_yX1_dropLastSlot ze_yX1_dropLastSlot zcI1 g15 rfl rfl (zcs trivial (Nat.le_of_ble_eq_true rfl)) (by decide) (by decide) (by decide) dX7_slot_129 ?_
    refine zV_iload (j := 0) dX7_slot_132 rfl ?_
    exact zV_iret rfl dX7_slot_134 (by decide) (by decide) (z_ret0 h)
set_option maxHeartbeats 4000000 in
set_option maxRecDepth 100000 in
theorem vX7_slot_48 {l : Launch} {D : va_G} {T : Nat → ClassId} {b : Nat} {gr : Bool} {n0 : Nat} (M : zM) (o : Int32 × zM) (h : fX7_slot_48 M = some (0, o)) : zV false l RX7 cX7_slot 8 (some .int) false 122 0 0 D T zE0 b gr n0 (0, o.1, o.2) 0 0 48 [] [] M := by
  unfold fX7_slot_48 at h
  exact absurd (congrArg Prod.fst (Option.some.inj h)) (show ¬ (2 : Nat) = 0 by decide)
set_option maxHeartbeats 4000000 in
set_option maxRecDepth 100000 in
theorem vX7_slot_19 {l : Launch} {D : va_G} {T : Nat → ClassId} {b : Nat} {gr : Bool} {n0 : Nat} (x0 : Nat) (x1 : Int32) (x2 : Int32) (x3 : Int32) (x4 : Int32) (s0 : Int32) (M : zM) (o : Int32 × zM) (h : fX7_slot_19 x0 x1 x2 x3 x4 s0 M = some (0, o)) : zV false l RX7 cX7_slot 8 (some .int) false 122 0 0 D T zE0 b gr n0 (0, o.1, o.2) 0 0 19 [(0, zr b x0), (1, .int x1), (2, .int x2), (3, .int x3), (4, .int x4)] [.int s0] M := by
  unfold fX7_slot_19 at h
  refine zV_istore [(5, .int s0), (0, zr b x0), (1, .int x1), (2, .int x2), (3, .int x3), (4, .int x4)] dX7_slot_19 (by decide) rfl rfl ?_
  refine zV_iload_n (j := 3) dX7_slot_21 rfl rfl ?_
  refine zV_if_lt (tgt := 48) dX7_slot_22 (by decide) (fun c19 => ?_) (fun c19 => ?_)
  · replace h := z_t c19 h
    refine zV_pk [] rfl ?_
    exact vX7_slot_48 M _ h
  · replace h := z_f c19 h
    refine zV_iload_n (j := 3) dX7_slot_25 rfl rfl ?_
    refine zV_sipush (v := 1024) dX7_slot_26 (by decide) ?_
    refine zV_icmp_ge (tgt := 48) dX7_slot_29 (by decide) (fun c20 => ?_) (fun c20 => ?_)
    · replace h := z_t c20 h
      refine zV_pk [] rfl ?_
      exact vX7_slot_48 M _ h
    · replace h := z_f c20 h
      refine zV_iload (j := 5) dX7_slot_32 rfl ?_
      refine zV_if_lt (tgt := 48) dX7_slot_34 (by decide) (fun c21 => ?_) (fun c21 => ?_)
      · replace h := z_t c21 h
        refine zV_pk [] rfl ?_
        exact vX7_slot_48 M _ h
      · replace h := z_f c21 h
        refine zV_iload (j := 5) dX7_slot_37 rfl ?_
        refine zV_iconst (v := 3) dX7_slot_39 (by decide) ?_
        refine zV_icmp_gt (tgt := 48) dX7_slot_40 (by decide) (fun c22 => ?_) (fun c22 => ?_)
        · replace h := z_t c22 h
          refine zV_pk [] rfl ?_
          exact vX7_slot_48 M _ h
        · replace h := z_f c22 h
          refine zV_iload (j := 0) dX7_slot_43 rfl ?_
          refine zV_if_eq (tgt := 58) dX7_slot_45 (by decide) (fun c23 => ?_) (fun c23 => ?_)
          · replace h := z_t c23 h
            refine zV_aload_n (j := 1) dX7_slot_58 rfl rfl ?_
            obtain ⟨g24, h⟩ := zg_of h
            refine zV_getR zf_RX7_12 dX7_slot_59 rfl g24 ?_
            obtain ⟨g25, h⟩ := zg_of h
            refine zV_getR zf_RX7_62 dX7_slot_62 rfl g25 ?_
            refine zV_iload_n (j := 2) dX7_slot_65 rfl rfl ?_
            obtain ⟨g26, h⟩ := zg_of h
            obtain ⟨g27, h⟩ := zg_of h
            refine zV_aald 110 4 dX7_slot_66 g26 ⟨by decide, by decide⟩ rfl g27 ?_
            refine zV_topr (fun u28 e29 => ?_)
            replace h := zlet_of h e29
            refine zV_astore [(6, zr b u28), (5, .int s0), (0, zr b x0), (1, .int x1), (2, .int x2), (3, .int x3), (4, .int x4)] dX7_slot_67 (by decide) rfl rfl ?_
            refine zV_aload (j := 0) dX7_slot_69 rfl ?_
            obtain ⟨g30, h⟩ := zg_of h
            refine zV_getI zf_RX7_66 dX7_slot_71 rfl g30 ?_
            refine zV_bipush (v := 6) dX7_slot_74 (by decide) ?_
            refine zV_icmp_lt (tgt := 89) dX7_slot_76 (by decide) (fun c31 => ?_) (fun c31 => ?_)
            · replace h := z_t c31 h
              refine zV_aload (j := 0) dX7_slot_89 rfl ?_
              refine zV_iload_n (j := 5) dX7_slot_91 rfl rfl ?_
              refine zV_if_eq (tgt := 103) dX7_slot_92 (by decide) (fun c32 => ?_) (fun c32 => ?_)
              · replace h := z_t c32 h
                refine zV_iload_n (j := 4) dX7_slot_103 rfl rfl ?_
                refine zV_pk [2, 6, 0] rfl ?_
                exact vX7_slot_104 x0 x4 u28 u28 x2 M _ h
              · replace h := z_f c32 h
                refine zV_iload_n (j := 4) dX7_slot_95 rfl rfl ?_
                refine zV_sipush (v := 1024) dX7_slot_96 (by decide) ?_
                refine zV_ior dX7_slot_99 ?_
                refine zV_goto (tgt := 104) dX7_slot_100 (by decide) ?_
                refine zV_pk [2, 6, 0] rfl ?_
                exact vX7_slot_104 x0 x4 u28 u28 (x2 ||| 1024) M _ h
            · replace h := z_f c31 h
              exact absurd (congrArg Prod.fst (Option.some.inj h)) (show ¬ (3 : Nat) = 0 by decide)
          · replace h := z_f c23 h
            refine zV_pk [] rfl ?_
            exact vX7_slot_48 M _ h
set_option maxHeartbeats 4000000 in
set_option maxRecDepth 100000 in
theorem vX7_slot_18 {l : Launch} {D : va_G} {T : Nat → ClassId} {b : Nat} {gr : Bool} {n0 : Nat} (x0 : Nat) (x1 : Int32) (x2 : Int32) (x3 : Int32) (x4 : Int32) (M : zM) (o : Int32 × zM) (h : fX7_slot_18 x0 x1 x2 x3 x4 M = some (0, o)) : zV false l RX7 cX7_slot 8 (some .int) false 122 0 0 D T zE0 b gr n0 (0, o.1, o.2) 0 0 18 [(0, zr b x0), (1, .int x1), (2, .int x2), (3, .int x3), (4, .int x4)] [] M := by
  unfold fX7_slot_18 at h
  refine zV_iconst (v := 0) dX7_slot_18 (by decide) ?_
  exact vX7_slot_19 x0 x1 x2 x3 x4 0 M _ h
set_option maxHeartbeats 4000000 in
set_option maxRecDepth 100000 in
theorem vX7_slot (l : Launch) (D : va_G) (T : Nat → ClassId) (b : Nat) (gr : Bool) (x0 : Nat) (x1 : Int32) (x2 : Int32) (x3 : Int32) (x4 : Int32) (M : zM) (r : Int32) (M' : zM) (h : fX7_slot x0 x1 x2 x3 x4 M = some (0, r, M')) : zMet l D T b gr yX7_slot cX7_slot 8 (some .int) 122 0 0 [zr b x0, .int x1, .int x2, .int x3, .int x4] M (0, r, M') := by
  refine zEntry2 (ev := zE0) rfl false (fun h9 => nomatch h9) zp_yX7_slot ⟨zr_cat _ _, rfl, rfl, rfl, rfl, trivial⟩ (Nat.le_of_ble_eq_true rfl) ?_
  obtain ⟨o, ho⟩ : ∃ o : Int32 × zM, o = (r, M') := ⟨_, rfl⟩
  rw [← ho] at h
  rw [show ((0, r, M') : Nat × Int32 × zM) = (0, o.1, o.2) by rw [ho]]
  show zV false l RX7 cX7_slot 8 (some .int) false 122 0 0 D T zE0 b gr M.2.2.2 (0, o.1, o.2) 0 0 0 [(0, zr b x0), (1, .int x1), (2, .int x2), (3, .int x3), (4, .int x4)] [] M
  unfold fX7_slot at h
  refine zV_iload_n (j := 1) dX7_slot_0 rfl rfl ?_
  refine zV_bipush (v := 10) dX7_slot_1 (by decide) ?_
  rcases zbx_of h with ⟨r33, M34, q35, h⟩ | ⟨t9, r33, M34, q35, h⟩
  rotate_left
  · exact absurd (congrArg Prod.fst h) (Nat.succ_ne_zero _).symm
  refine zV_callSv (As := [.int x1, .int 10]) (rest := []) (vX7_checkIndex l D T b gr x1 10 M _ _ q35) zm_yX7_checkIndex zl_RX7_51 zs_yX7_checkIndex rfl rfl (zcs trivial (Nat.le_of_ble_eq_true rfl)) (by decide) (by decide) (by decide) dX7_slot_3 ?_
  refine zV_iload_n (j := 2) dX7_slot_6 rfl rfl ?_
  refine zV_if_ne (tgt := 18) dX7_slot_7 (by decide) (fun c36 => ?_) (fun c36 => ?_)
  · replace h := z_f c36 h
    exact vX7_slot_18 x0 x1 x2 x3 x4 M34 _ h
  · replace h := z_t c36 h
    refine zV_iload_n (j := 3) dX7_slot_10 rfl rfl ?_
    refine zV_if_ne (tgt := 18) dX7_slot_11 (by decide) (fun c37 => ?_) (fun c37 => ?_)
    · replace h := z_f c37 h
      exact vX7_slot_18 x0 x1 x2 x3 x4 M34 _ h
    · replace h := z_t c37 h
      refine zV_iconst (v := 1) dX7_slot_14 (by decide) ?_
      refine zV_goto (tgt := 19) dX7_slot_15 (by decide) ?_
      exact vX7_slot_19 x0 x1 x2 x3 x4 1 M34 _ h
set_option maxHeartbeats 4000000 in
set_option maxRecDepth 100000 in
theorem vX7_empty (l : Launch) (D : va_G) (T : Nat → ClassId) (b : Nat) (gr : Bool) (x0 : Nat) (x1 : Int32) (M : zM) (r : Int32) (M' : zM) (h : fX7_empty x0 x1 M = some (0, r, M')) : zMet l D T b gr yX7_empty cX7_empty 3 (some .int) 122 0 0 [zr b x0, .int x1] M (0, r, M') := by
  refine zEntry2 (ev := zE0) rfl false (fun h9 => nomatch h9) zp_yX7_empty ⟨zr_cat _ _, rfl, trivial⟩ (Nat.le_of_ble_eq_true rfl) ?_
  obtain ⟨o, ho⟩ : ∃ o : Int32 × zM, o = (r, M') := ⟨_, rfl⟩
  rw [← ho] at h
  rw [show ((0, r, M') : Nat × Int32 × zM) = (0, o.1, o.2) by rw [ho]]
  show zV false l RX7 cX7_empty 3 (some .int) false 122 0 0 D T zE0 b gr M.2.2.2 (0, o.1, o.2) 0 0 0 [(0, zr b x0), (1, .int x1)] [] M
  unfold fX7_empty at h
  refine zV_iload_n (j := 1) dX7_empty_0 rfl rfl ?_
  refine zV_bipush (v := 10) dX7_empty_1 (by decide) ?_
  rcases zbx_of h with ⟨r1, M2, q3, h⟩ | ⟨t9, r1, M2, q3, h⟩
  rotate_left
  · exact absurd (congrArg Prod.fst h) (Nat.succ_ne_zero _).symm
  refine zV_callSv (As := [.int x1, .int 10]) (rest := []) (vX7_checkIndex l D T b gr x1 10 M _ _ q3) zm_yX7_checkIndex zl_RX7_51 zs_yX7_checkIndex rfl rfl (zcs trivial (Nat.le_of_ble_eq_true rfl)) (by decide) (by decide) (by decide) dX7_empty_3 ?_
  refine zV_aload_n (j := 0) dX7_empty_6 rfl rfl ?_
  obtain ⟨g4, h⟩ := zg_of h
  refine zV_getR zf_RX7_12 dX7_empty_7 rfl g4 ?_
  obtain ⟨g5, h⟩ := zg_of h
  refine zV_getR zf_RX7_62 dX7_empty_10 rfl g5 ?_
  refine zV_iload_n (j := 1) dX7_empty_13 rfl rfl ?_
  obtain ⟨g6, h⟩ := zg_of h
  obtain ⟨g7, h⟩ := zg_of h
  refine zV_aald 110 4 dX7_empty_14 g6 ⟨by decide, by decide⟩ rfl g7 ?_
  obtain ⟨g8, h⟩ := zg_of h
  refine zV_getI zf_RX7_66 dX7_empty_15 rfl g8 ?_
  refine zV_top (fun u9 e10 => ?_)
  replace h := zlet_of h e10
  refine zV_istore_n [(2, .int u9), (0, zr b x0), (1, .int x1)] dX7_empty_18 rfl (by decide) rfl rfl ?_
  refine zV_aload_n (j := 1) dX7_empty_19 rfl rfl ?_
  refine zV_getR zf_RX7_12 dX7_empty_20 rfl g4 ?_
  refine zV_getR zf_RX7_62 dX7_empty_23 rfl g5 ?_
  refine zV_iload_n (j := 2) dX7_empty_26 rfl rfl ?_
  obtain ⟨g11, h⟩ := zg_of h
  refine zV_aald 110 4 dX7_empty_27 g6 ⟨by decide, by decide⟩ rfl g11 ?_
  obtain ⟨r12, M13, q14, h⟩ := zb_of h
  refine zV_callVv (ci := 1) (As := []) (rest := []) (vX1_dropSlots l D T b gr (zR M2 (zR M2 (zR M2 x0 0) 0) x1.toNatClampNeg) M2 _ _ q14) zm_yX1_dropSlots zl_RX7_93 zi_yX1_dropSlots ze_yX1_dropSlots zcI1 g8 rfl rfl (zcs trivial (Nat.le_of_ble_eq_true rfl)) (by decide) (by decide) (by decide) dX7_empty_28 ?_
  refine zV_aload_n (j := 1) dX7_empty_31 rfl rfl ?_
  obtain ⟨g15, h⟩ := zg_of h
  refine zV_getR zf_RX7_38 dX7_empty_32 rfl g15 ?_
  obtain ⟨g16, h⟩ := zg_of h
  obtain ⟨r17, M18, q19, h⟩ := zb_of h
  refine zV_callVv (ci := 2) (As := []) (rest := []) (vX2_readText l D T b gr (zR M13 x0 4) M13 _ _ q19) zm_yX2_readText zl_RX7_90 zi_yX2_readText ze_yX2_readText zcI2 g16 rfl rfl (zcs trivial (Nat.le_of_ble_eq_true rfl)) (by decide) (by decide) (by decide) dX7_empty_35 ?_
  refine zV_iload_n (j := 0) dX7_empty_38 rfl rfl ?_
  exact zV_iret rfl dX7_empty_39 (by decide) (by decide) (z_ret0 h)
set_option maxHeartbeats 4000000 in
set_option maxRecDepth 100000 in
theorem vX7_except_28 {l : Launch} {D : va_G} {T : Nat → ClassId} {b : Nat} {gr : Bool} {n0 : Nat} (M : zM) (o : Int32 × zM) (h : fX7_except_28 M = some (0, o)) : zV false l RX7 cX7_except 4 none false 122 0 0 D T zE0 b gr n0 (0, o.1, o.2) 0 0 28 [] [] M := by
  unfold fX7_except_28 at h
  exact absurd (congrArg Prod.fst (Option.some.inj h)) (show ¬ (2 : Nat) = 0 by decide)
set_option maxHeartbeats 4000000 in
set_option maxRecDepth 100000 in
theorem vX7_except (l : Launch) (D : va_G) (T : Nat → ClassId) (b : Nat) (gr : Bool) (x0 : Nat) (x1 : Int32) (x2 : Int32) (x3 : Int32) (M : zM) (r : Int32) (M' : zM) (h : fX7_except x0 x1 x2 x3 M = some (0, r, M')) : zMet l D T b gr yX7_except cX7_except 4 none 122 0 0 [zr b x0, .int x1, .int x2, .int x3] M (0, r, M') := by
  refine zEntry2 (ev := zE0) rfl false (fun h9 => nomatch h9) zp_yX7_except ⟨zr_cat _ _, rfl, rfl, rfl, trivial⟩ (Nat.le_of_ble_eq_true rfl) ?_
  obtain ⟨o, ho⟩ : ∃ o : Int32 × zM, o = (r, M') := ⟨_, rfl⟩
  rw [← ho] at h
  rw [show ((0, r, M') : Nat × Int32 × zM) = (0, o.1, o.2) by rw [ho]]
  show zV false l RX7 cX7_except 4 none false 122 0 0 D T zE0 b gr M.2.2.2 (0, o.1, o.2) 0 0 0 [(0, zr b x0), (1, .int x1), (2, .int x2), (3, .int x3)] [] M
  unfold fX7_except at h
  refine zV_iload_n (j := 1) dX7_except_0 rfl rfl ?_
  refine zV_bipush (v := 10) dX7_except_1 (by decide) ?_
  rcases zbx_of h with ⟨r1, M2, q3, h⟩ | ⟨t9, r1, M2, q3, h⟩
  rotate_left
  · exact absurd (congrArg Prod.fst h) (Nat.succ_ne_zero _).symm
  refine zV_callSv (As := [.int x1, .int 10]) (rest := []) (vX7_checkIndex l D T b gr x1 10 M _ _ q3) zm_yX7_checkIndex zl_RX7_51 zs_yX7_checkIndex rfl rfl (zcs trivial (Nat.le_of_ble_eq_true rfl)) (by decide) (by decide) (by decide) dX7_except_3 ?_
  refine zV_iload_n (j := 2) dX7_except_6 rfl rfl ?_
  refine zV_if_lt (tgt := 28) dX7_except_7 (by decide) (fun c4 => ?_) (fun c4 => ?_)
  · replace h := z_t c4 h
    refine zV_pk [] rfl ?_
    exact vX7_except_28 M2 _ h
  · replace h := z_f c4 h
    refine zV_iload_n (j := 2) dX7_except_10 rfl rfl ?_
    refine zV_sipush (v := 1024) dX7_except_11 (by decide) ?_
    refine zV_icmp_ge (tgt := 28) dX7_except_14 (by decide) (fun c5 => ?_) (fun c5 => ?_)
    · replace h := z_t c5 h
      refine zV_pk [] rfl ?_
      exact vX7_except_28 M2 _ h
    · replace h := z_f c5 h
      refine zV_iload_n (j := 3) dX7_except_17 rfl rfl ?_
      refine zV_if_lt (tgt := 28) dX7_except_18 (by decide) (fun c6 => ?_) (fun c6 => ?_)
      · replace h := z_t c6 h
        refine zV_pk [] rfl ?_
        exact vX7_except_28 M2 _ h
      · replace h := z_f c6 h
        refine zV_iload_n (j := 3) dX7_except_21 rfl rfl ?_
        refine zV_sipush (v := 1024) dX7_except_22 (by decide) ?_
        refine zV_icmp_lt (tgt := 38) dX7_except_25 (by decide) (fun c7 => ?_) (fun c7 => ?_)
        · replace h := z_t c7 h
          refine zV_aload_n (j := 0) dX7_except_38 rfl rfl ?_
          obtain ⟨g8, h⟩ := zg_of h
          refine zV_getR zf_RX7_12 dX7_except_39 rfl g8 ?_
          obtain ⟨g9, h⟩ := zg_of h
          refine zV_getR zf_RX7_98 dX7_except_42 rfl g9 ?_
          refine zV_iload_n (j := 1) dX7_except_45 rfl rfl ?_
          refine zV_iload_n (j := 2) dX7_except_46 rfl rfl ?_
          obtain ⟨g10, h⟩ := zg_of h
          obtain ⟨g11, h⟩ := zg_of h
          refine zV_iast dX7_except_47 g10 g11 ?_
          refine zV_mem (fun M12 e13 => ?_)
          replace h := zlet_of h e13
          refine zV_aload_n (j := 0) dX7_except_48 rfl rfl ?_
          refine zV_getR zf_RX7_12 dX7_except_49 rfl (zkI e13 g8) ?_
          obtain ⟨g14, h⟩ := zg_of h
          refine zV_getR zf_RX7_101 dX7_except_52 rfl g14 ?_
          refine zV_iload_n (j := 1) dX7_except_55 rfl rfl ?_
          refine zV_iload_n (j := 3) dX7_except_56 rfl rfl ?_
          obtain ⟨g15, h⟩ := zg_of h
          obtain ⟨g16, h⟩ := zg_of h
          refine zV_iast dX7_except_57 g15 g16 ?_
          refine zV_mem (fun M17 e18 => ?_)
          replace h := zlet_of h e18
          refine zV_aload_n (j := 0) dX7_except_58 rfl rfl ?_
          refine zV_getR zf_RX7_38 dX7_except_59 rfl (zkI e18 (zkI e13 g8)) ?_
          obtain ⟨g19, h⟩ := zg_of h
          obtain ⟨r20, M21, q22, h⟩ := zb_of h
          refine zV_callVv (ci := 2) (As := []) (rest := []) (vX2_readText l D T b gr (zR M17 x0 4) M17 _ _ q22) zm_yX2_readText zl_RX7_90 zi_yX2_readText ze_yX2_readText zcI2 g19 rfl rfl (zcs trivial (Nat.le_of_ble_eq_true rfl)) (by decide) (by decide) (by decide) dX7_except_62 ?_
          exact zV_vret (x := 0) rfl dX7_except_65 (by decide) (by decide) (z_ret0 h)
        · replace h := z_f c7 h
          refine zV_pk [] rfl ?_
          exact vX7_except_28 M2 _ h
set_option maxHeartbeats 4000000 in
set_option maxRecDepth 100000 in
theorem vX7_omit (l : Launch) (D : va_G) (T : Nat → ClassId) (b : Nat) (gr : Bool) (x0 : Nat) (x1 : Int32) (x2 : Int32) (x3 : Int32) (M : zM) (r : Int32) (M' : zM) (h : fX7_omit x0 x1 x2 x3 M = some (0, r, M')) : zMet l D T b gr yX7_omit cX7_omit 4 none 122 0 0 [zr b x0, .int x1, .int x2, .int x3] M (0, r, M') := by
  refine zEntry2 (ev := zE0) rfl false (fun h9 => nomatch h9) zp_yX7_omit ⟨zr_cat _ _, rfl, rfl, rfl, trivial⟩ (Nat.le_of_ble_eq_true rfl) ?_
  obtain ⟨o, ho⟩ : ∃ o : Int32 × zM, o = (r, M') := ⟨_, rfl⟩
  rw [← ho] at h
  rw [show ((0, r, M') : Nat × Int32 × zM) = (0, o.1, o.2) by rw [ho]]
  show zV false l RX7 cX7_omit 4 none false 122 0 0 D T zE0 b gr M.2.2.2 (0, o.1, o.2) 0 0 0 [(0, zr b x0), (1, .int x1), (2, .int x2), (3, .int x3)] [] M
  unfold fX7_omit at h
  refine zV_iload_n (j := 1) dX7_omit_0 rfl rfl ?_
  refine zV_bipush (v := 10) dX7_omit_1 (by decide) ?_
  rcases zbx_of h with ⟨r1, M2, q3, h⟩ | ⟨t9, r1, M2, q3, h⟩
  rotate_left
  · exact absurd (congrArg Prod.fst h) (Nat.succ_ne_zero _).symm
  refine zV_callSv (As := [.int x1, .int 10]) (rest := []) (vX7_checkIndex l D T b gr x1 10 M _ _ q3) zm_yX7_checkIndex zl_RX7_51 zs_yX7_checkIndex rfl rfl (zcs trivial (Nat.le_of_ble_eq_true rfl)) (by decide) (by decide) (by decide) dX7_omit_3 ?_
  refine zV_aload_n (j := 0) dX7_omit_6 rfl rfl ?_
  obtain ⟨g4, h⟩ := zg_of h
  refine zV_getR zf_RX7_12 dX7_omit_7 rfl g4 ?_
  obtain ⟨g5, h⟩ := zg_of h
  refine zV_getR zf_RX7_104 dX7_omit_10 rfl g5 ?_
  refine zV_iload_n (j := 1) dX7_omit_13 rfl rfl ?_
  refine zV_iload_n (j := 2) dX7_omit_14 rfl rfl ?_
  obtain ⟨g6, h⟩ := zg_of h
  obtain ⟨g7, h⟩ := zg_of h
  obtain ⟨g8, h⟩ := zg_of h
  refine zV_zast dX7_omit_15 g6 g7 g8 ?_
  refine zV_mem (fun M9 e10 => ?_)
  replace h := zlet_of h e10
  refine zV_aload_n (j := 0) dX7_omit_16 rfl rfl ?_
  refine zV_getR zf_RX7_12 dX7_omit_17 rfl (zkI e10 g4) ?_
  obtain ⟨g11, h⟩ := zg_of h
  refine zV_getR zf_RX7_108 dX7_omit_20 rfl g11 ?_
  refine zV_iload_n (j := 1) dX7_omit_23 rfl rfl ?_
  refine zV_iload_n (j := 3) dX7_omit_24 rfl rfl ?_
  obtain ⟨g12, h⟩ := zg_of h
  obtain ⟨g13, h⟩ := zg_of h
  obtain ⟨g14, h⟩ := zg_of h
  refine zV_zast dX7_omit_25 g12 g13 g14 ?_
  refine zV_mem (fun M15 e16 => ?_)
  replace h := zlet_of h e16
  refine zV_aload_n (j := 0) dX7_omit_26 rfl rfl ?_
  refine zV_getR zf_RX7_38 dX7_omit_27 rfl (zkI e16 (zkI e10 g4)) ?_
  obtain ⟨g17, h⟩ := zg_of h
  obtain ⟨r18, M19, q20, h⟩ := zb_of h
  refine zV_callVv (ci := 2) (As := []) (rest := []) (vX2_readText l D T b gr (zR M15 x0 4) M15 _ _ q20) zm_yX2_readText zl_RX7_90 zi_yX2_readText ze_yX2_readText zcI2 g17 rfl rfl (zcs trivial (Nat.le_of_ble_eq_true rfl)) (by decide) (by decide) (by decide) dX7_omit_30 ?_
  exact zV_vret (x := 0) rfl dX7_omit_33 (by decide) (by decide) (z_ret0 h)
set_option maxHeartbeats 4000000 in
set_option maxRecDepth 100000 in
theorem vX7_isValueOf (l : Launch) (D : va_G) (T : Nat → ClassId) (b : Nat) (gr : Bool) (x0 : Int32) (x1 : Int32) (M : zM) (r : Int32) (M' : zM) (h : fX7_isValueOf x0 x1 M = some (r, M')) : zMet l D T b gr yX7_isValueOf cX7_isValueOf 2 (some .boolean) 0 0 0 [.int x0, .int x1] M (0, r, M') := by
  refine zEntry2 (ev := zE0) rfl false (fun h9 => nomatch h9) zp_yX7_isValueOf ⟨rfl, rfl, trivial⟩ (Nat.le_of_ble_eq_true rfl) ?_
  obtain ⟨o, ho⟩ : ∃ o : Int32 × zM, o = (r, M') := ⟨_, rfl⟩
  rw [← ho] at h
  rw [show ((0, r, M') : Nat × Int32 × zM) = (0, o.1, o.2) by rw [ho]]
  show zV false l RX7 cX7_isValueOf 2 (some .boolean) false 0 0 0 D T zE0 b gr M.2.2.2 (0, o.1, o.2) 0 0 0 [(0, .int x0), (1, .int x1)] [] M
  unfold fX7_isValueOf at h
  refine zV_iload_n (j := 0) dX7_isValueOf_0 rfl rfl ?_
  by_cases c1 : x0 = 0
  · replace h := z_t c1 h
    refine zV_tin (v := 0) (tgt := 48) dX7_isValueOf_1 c1 (by decide) (by decide) rfl (by decide) ?_
    refine zV_iload_n (j := 1) dX7_isValueOf_48 rfl rfl ?_
    refine zV_if_lt (tgt := 62) dX7_isValueOf_49 (by decide) (fun c2 => ?_) (fun c2 => ?_)
    · replace h := z_t c2 h
      refine zV_iconst (v := 0) dX7_isValueOf_62 (by decide) ?_
      exact zV_zret rfl dX7_isValueOf_63 (by decide) (by decide) (Or.inl rfl) (z_ret h)
    · replace h := z_f c2 h
      refine zV_iload_n (j := 1) dX7_isValueOf_52 rfl rfl ?_
      refine zV_bipush (v := 10) dX7_isValueOf_53 (by decide) ?_
      refine zV_icmp_ge (tgt := 62) dX7_isValueOf_55 (by decide) (fun c3 => ?_) (fun c3 => ?_)
      · replace h := z_t c3 h
        refine zV_iconst (v := 0) dX7_isValueOf_62 (by decide) ?_
        exact zV_zret rfl dX7_isValueOf_63 (by decide) (by decide) (Or.inl rfl) (z_ret h)
      · replace h := z_f c3 h
        refine zV_iconst (v := 1) dX7_isValueOf_58 (by decide) ?_
        refine zV_goto (tgt := 63) dX7_isValueOf_59 (by decide) ?_
        exact zV_zret rfl dX7_isValueOf_63 (by decide) (by decide) (Or.inr rfl) (z_ret h)
  · replace h := z_f c1 h
    by_cases c4 : x0 = 1
    · replace h := z_t c4 h
      refine zV_tin (v := 1) (tgt := 48) dX7_isValueOf_1 c4 (by decide) (by decide) rfl (by decide) ?_
      refine zV_iload_n (j := 1) dX7_isValueOf_48 rfl rfl ?_
      refine zV_if_lt (tgt := 62) dX7_isValueOf_49 (by decide) (fun c5 => ?_) (fun c5 => ?_)
      · replace h := z_t c5 h
        refine zV_iconst (v := 0) dX7_isValueOf_62 (by decide) ?_
        exact zV_zret rfl dX7_isValueOf_63 (by decide) (by decide) (Or.inl rfl) (z_ret h)
      · replace h := z_f c5 h
        refine zV_iload_n (j := 1) dX7_isValueOf_52 rfl rfl ?_
        refine zV_bipush (v := 10) dX7_isValueOf_53 (by decide) ?_
        refine zV_icmp_ge (tgt := 62) dX7_isValueOf_55 (by decide) (fun c6 => ?_) (fun c6 => ?_)
        · replace h := z_t c6 h
          refine zV_iconst (v := 0) dX7_isValueOf_62 (by decide) ?_
          exact zV_zret rfl dX7_isValueOf_63 (by decide) (by decide) (Or.inl rfl) (z_ret h)
        · replace h := z_f c6 h
          refine zV_iconst (v := 1) dX7_isValueOf_58 (by decide) ?_
          refine zV_goto (tgt := 63) dX7_isValueOf_59 (by decide) ?_
          exact zV_zret rfl dX7_isValueOf_63 (by decide) (by decide) (Or.inr rfl) (z_ret h)
    · replace h := z_f c4 h
      by_cases c7 : x0 = 2
      · replace h := z_t c7 h
        refine zV_tin (v := 2) (tgt := 113) dX7_isValueOf_1 c7 (by decide) (by decide) rfl (by decide) ?_
        refine zV_iconst (v := 1) dX7_isValueOf_113 (by decide) ?_
        exact zV_zret rfl dX7_isValueOf_114 (by decide) (by decide) (Or.inr rfl) (z_ret h)
      · replace h := z_f c7 h
        by_cases c8 : x0 = 3
        · replace h := z_t c8 h
          refine zV_tin (v := 3) (tgt := 113) dX7_isValueOf_1 c8 (by decide) (by decide) rfl (by decide) ?_
          refine zV_iconst (v := 1) dX7_isValueOf_113 (by decide) ?_
          exact zV_zret rfl dX7_isValueOf_114 (by decide) (by decide) (Or.inr rfl) (z_ret h)
        · replace h := z_f c8 h
          by_cases c9 : x0 = 4
          · replace h := z_t c9 h
            refine zV_tin (v := 4) (tgt := 64) dX7_isValueOf_1 c9 (by decide) (by decide) rfl (by decide) ?_
            refine zV_iload_n (j := 1) dX7_isValueOf_64 rfl rfl ?_
            refine zV_bipush (v := 32) dX7_isValueOf_65 (by decide) ?_
            refine zV_icmp_lt (tgt := 80) dX7_isValueOf_67 (by decide) (fun c10 => ?_) (fun c10 => ?_)
            · replace h := z_t c10 h
              refine zV_iconst (v := 0) dX7_isValueOf_80 (by decide) ?_
              exact zV_zret rfl dX7_isValueOf_81 (by decide) (by decide) (Or.inl rfl) (z_ret h)
            · replace h := z_f c10 h
              refine zV_iload_n (j := 1) dX7_isValueOf_70 rfl rfl ?_
              refine zV_bipush (v := 126) dX7_isValueOf_71 (by decide) ?_
              refine zV_icmp_gt (tgt := 80) dX7_isValueOf_73 (by decide) (fun c11 => ?_) (fun c11 => ?_)
              · replace h := z_t c11 h
                refine zV_iconst (v := 0) dX7_isValueOf_80 (by decide) ?_
                exact zV_zret rfl dX7_isValueOf_81 (by decide) (by decide) (Or.inl rfl) (z_ret h)
              · replace h := z_f c11 h
                refine zV_iconst (v := 1) dX7_isValueOf_76 (by decide) ?_
                refine zV_goto (tgt := 81) dX7_isValueOf_77 (by decide) ?_
                exact zV_zret rfl dX7_isValueOf_81 (by decide) (by decide) (Or.inr rfl) (z_ret h)
          · replace h := z_f c9 h
            by_cases c12 : x0 = 5
            · replace h := z_t c12 h
              refine zV_tin (v := 5) (tgt := 113) dX7_isValueOf_1 c12 (by decide) (by decide) rfl (by decide) ?_
              refine zV_iconst (v := 1) dX7_isValueOf_113 (by decide) ?_
              exact zV_zret rfl dX7_isValueOf_114 (by decide) (by decide) (Or.inr rfl) (z_ret h)
            · replace h := z_f c12 h
              by_cases c13 : x0 = 6
              · replace h := z_t c13 h
                refine zV_tin (v := 6) (tgt := 82) dX7_isValueOf_1 c13 (by decide) (by decide) rfl (by decide) ?_
                refine zV_iload_n (j := 1) dX7_isValueOf_82 rfl rfl ?_
                refine zV_if_lt (tgt := 96) dX7_isValueOf_83 (by decide) (fun c14 => ?_) (fun c14 => ?_)
                · replace h := z_t c14 h
                  refine zV_iconst (v := 0) dX7_isValueOf_96 (by decide) ?_
                  exact zV_zret rfl dX7_isValueOf_97 (by decide) (by decide) (Or.inl rfl) (z_ret h)
                · replace h := z_f c14 h
                  refine zV_iload_n (j := 1) dX7_isValueOf_86 rfl rfl ?_
                  refine zV_bipush (v := 6) dX7_isValueOf_87 (by decide) ?_
                  refine zV_icmp_ge (tgt := 96) dX7_isValueOf_89 (by decide) (fun c15 => ?_) (fun c15 => ?_)
                  · replace h := z_t c15 h
                    refine zV_iconst (v := 0) dX7_isValueOf_96 (by decide) ?_
                    exact zV_zret rfl dX7_isValueOf_97 (by decide) (by decide) (Or.inl rfl) (z_ret h)
                  · replace h := z_f c15 h
                    refine zV_iconst (v := 1) dX7_isValueOf_92 (by decide) ?_
                    refine zV_goto (tgt := 97) dX7_isValueOf_93 (by decide) ?_
                    exact zV_zret rfl dX7_isValueOf_97 (by decide) (by decide) (Or.inr rfl) (z_ret h)
              · replace h := z_f c13 h
                by_cases c16 : x0 = 7
                · replace h := z_t c16 h
                  refine zV_tin (v := 7) (tgt := 98) dX7_isValueOf_1 c16 (by decide) (by decide) rfl (by decide) ?_
                  refine zV_iload_n (j := 1) dX7_isValueOf_98 rfl rfl ?_
                  refine zV_if_lt (tgt := 111) dX7_isValueOf_99 (by decide) (fun c17 => ?_) (fun c17 => ?_)
                  · replace h := z_t c17 h
                    refine zV_iconst (v := 0) dX7_isValueOf_111 (by decide) ?_
                    exact zV_zret rfl dX7_isValueOf_112 (by decide) (by decide) (Or.inl rfl) (z_ret h)
                  · replace h := z_f c17 h
                    refine zV_iload_n (j := 1) dX7_isValueOf_102 rfl rfl ?_
                    refine zV_iconst (v := 4) dX7_isValueOf_103 (by decide) ?_
                    refine zV_icmp_ge (tgt := 111) dX7_isValueOf_104 (by decide) (fun c18 => ?_) (fun c18 => ?_)
                    · replace h := z_t c18 h
                      refine zV_iconst (v := 0) dX7_isValueOf_111 (by decide) ?_
                      exact zV_zret rfl dX7_isValueOf_112 (by decide) (by decide) (Or.inl rfl) (z_ret h)
                    · replace h := z_f c18 h
                      refine zV_iconst (v := 1) dX7_isValueOf_107 (by decide) ?_
                      refine zV_goto (tgt := 112) dX7_isValueOf_108 (by decide) ?_
                      exact zV_zret rfl dX7_isValueOf_112 (by decide) (by decide) (Or.inr rfl) (z_ret h)
                · replace h := z_f c16 h
                  refine zV_tout (tgt := 113) dX7_isValueOf_1 (z_out_0_7 c1 c4 c7 c8 c9 c12 c13 c16) (by decide) ?_
                  refine zV_iconst (v := 1) dX7_isValueOf_113 (by decide) ?_
                  exact zV_zret rfl dX7_isValueOf_114 (by decide) (by decide) (Or.inr rfl) (z_ret h)
set_option maxHeartbeats 4000000 in
set_option maxRecDepth 100000 in
theorem vX7_checkToken_18 {l : Launch} {D : va_G} {T : Nat → ClassId} {b : Nat} {gr : Bool} {n0 : Nat} (M : zM) (o : Int32 × zM) (h : fX7_checkToken_18 M = some (0, o)) : zV false l RX7 cX7_checkToken 2 none false 6 0 0 D T zE0 b gr n0 (0, o.1, o.2) 0 0 18 [] [] M := by
  unfold fX7_checkToken_18 at h
  exact absurd (congrArg Prod.fst (Option.some.inj h)) (show ¬ (2 : Nat) = 0 by decide)
set_option maxHeartbeats 4000000 in
set_option maxRecDepth 100000 in
theorem vX7_checkToken (l : Launch) (D : va_G) (T : Nat → ClassId) (b : Nat) (gr : Bool) (x0 : Int32) (x1 : Int32) (M : zM) (r : Int32) (M' : zM) (h : fX7_checkToken x0 x1 M = some (0, r, M')) : zMet l D T b gr yX7_checkToken cX7_checkToken 2 none 6 0 0 [.int x0, .int x1] M (0, r, M') := by
  refine zEntry2 (ev := zE0) rfl false (fun h9 => nomatch h9) zp_yX7_checkToken ⟨rfl, rfl, trivial⟩ (Nat.le_of_ble_eq_true rfl) ?_
  obtain ⟨o, ho⟩ : ∃ o : Int32 × zM, o = (r, M') := ⟨_, rfl⟩
  rw [← ho] at h
  rw [show ((0, r, M') : Nat × Int32 × zM) = (0, o.1, o.2) by rw [ho]]
  show zV false l RX7 cX7_checkToken 2 none false 6 0 0 D T zE0 b gr M.2.2.2 (0, o.1, o.2) 0 0 0 [(0, .int x0), (1, .int x1)] [] M
  unfold fX7_checkToken at h
  refine zV_iload_n (j := 0) dX7_checkToken_0 rfl rfl ?_
  refine zV_if_lt (tgt := 18) dX7_checkToken_1 (by decide) (fun c1 => ?_) (fun c1 => ?_)
  · replace h := z_t c1 h
    refine zV_pk [] rfl ?_
    exact vX7_checkToken_18 M _ h
  · replace h := z_f c1 h
    refine zV_iload_n (j := 0) dX7_checkToken_4 rfl rfl ?_
    refine zV_bipush (v := 8) dX7_checkToken_5 (by decide) ?_
    refine zV_icmp_gt (tgt := 18) dX7_checkToken_7 (by decide) (fun c2 => ?_) (fun c2 => ?_)
    · replace h := z_t c2 h
      refine zV_pk [] rfl ?_
      exact vX7_checkToken_18 M _ h
    · replace h := z_f c2 h
      refine zV_iload_n (j := 0) dX7_checkToken_10 rfl rfl ?_
      refine zV_iload_n (j := 1) dX7_checkToken_11 rfl rfl ?_
      obtain ⟨r3, M4, q5, h⟩ := zb_of h
      refine zV_callSi (As := [.int x0, .int x1]) (rest := []) (vX7_isValueOf l D T b gr x0 x1 M _ _ q5) zm_yX7_isValueOf zl_RX7_218 zs_yX7_isValueOf rfl rfl (zcs trivial (Nat.le_of_ble_eq_true rfl)) (by decide) (by decide) (by decide) dX7_checkToken_12 ?_
      refine zV_if_ne (tgt := 28) dX7_checkToken_15 (by decide) (fun c6 => ?_) (fun c6 => ?_)
      · replace h := z_f c6 h
        exact zV_vret (x := 0) rfl dX7_checkToken_28 (by decide) (by decide) (z_ret0 h)
      · replace h := z_t c6 h
        refine zV_pk [] rfl ?_
        exact vX7_checkToken_18 M4 _ h
