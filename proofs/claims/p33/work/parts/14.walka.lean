set_option maxHeartbeats 4000000 in
set_option maxRecDepth 100000 in
theorem vX1_init (l : Launch) (D : va_G) (T : Nat → ClassId) (b : Nat) (gr : Bool) (hgr : gr = true) (x0 : Nat) (M : zM) (r : Int32) (M' : zM) (h : fX1_init x0 M = some (r, M')) : zMet l D T b gr yX1_init cX1_init 1 none 1 5 42 [zr b x0] M (0, r, M') := by
  refine zEntry2 (ev := zE0) rfl true (fun _ => rfl) zp_yX1_init ⟨zr_cat _ _, trivial⟩ (Nat.le_of_ble_eq_true rfl) ?_
  obtain ⟨o, ho⟩ : ∃ o : Int32 × zM, o = (r, M') := ⟨_, rfl⟩
  rw [← ho] at h
  rw [show ((0, r, M') : Nat × Int32 × zM) = (0, o.1, o.2) by rw [ho]]
  show zV false l RX1 cX1_init 1 none true 1 5 42 D T zE0 b gr M.2.2.2 (0, o.1, o.2) 0 0 0 [(0, zr b x0)] [] M
  unfold fX1_init at h
  refine zV_aload_n (j := 0) dX1_init_0 rfl rfl ?_
  obtain ⟨g1, h⟩ := zg_of h
  refine zV_objInit zl_RX1_3 zi_obj zm_obj (by decide) g1 (zcs trivial (Nat.le_of_ble_eq_true rfl)) dX1_init_1 ?_
  refine zV_aload_n (j := 0) dX1_init_4 rfl rfl ?_
  refine zV_bipush (v := 6) dX1_init_5 (by decide) ?_
  refine zV_newa_int (n := 6) hgr zar_int (by decide) (by decide) (by decide) (Nat.le_of_ble_eq_true rfl) (Nat.le_of_ble_eq_true rfl) dX1_init_7 ?_
  refine zV_mem (fun M4 e5 => ?_)
  replace h := zlet_of h e5
  refine zV_topr (fun u2 e3 => ?_)
  replace h := zlet_of h e3
  obtain ⟨g6, h⟩ := zg_of h
  refine zV_putRF zf_RX1_9 dX1_init_9 rfl rfl rfl zfl_RX1_9 rfl g6 ?_
  refine zV_mem (fun M7 e8 => ?_)
  replace h := zlet_of h e8
  refine zV_aload_n (j := 0) dX1_init_12 rfl rfl ?_
  refine zV_bipush (v := 6) dX1_init_13 (by decide) ?_
  refine zV_newa_bool (n := 6) hgr zar_boolean (by decide) (by decide) (by decide) (Nat.le_of_ble_eq_true rfl) (Nat.le_of_ble_eq_true rfl) dX1_init_15 ?_
  refine zV_mem (fun M11 e12 => ?_)
  replace h := zlet_of h e12
  refine zV_topr (fun u9 e10 => ?_)
  replace h := zlet_of h e10
  refine zV_putRF zf_RX1_15 dX1_init_17 rfl rfl rfl zfl_RX1_15 rfl (zkN e12 (zkR e8 g6)) ?_
  refine zV_mem (fun M13 e14 => ?_)
  replace h := zlet_of h e14
  refine zV_aload_n (j := 0) dX1_init_20 rfl rfl ?_
  refine zV_bipush (v := 6) dX1_init_21 (by decide) ?_
  refine zV_newa_bool (n := 6) hgr zar_boolean (by decide) (by decide) (by decide) (Nat.le_of_ble_eq_true rfl) (Nat.le_of_ble_eq_true rfl) dX1_init_23 ?_
  refine zV_mem (fun M17 e18 => ?_)
  replace h := zlet_of h e18
  refine zV_topr (fun u15 e16 => ?_)
  replace h := zlet_of h e16
  refine zV_putRF zf_RX1_19 dX1_init_25 rfl rfl rfl zfl_RX1_19 rfl (zkN e18 (zkR e14 (zkN e12 (zkR e8 g6)))) ?_
  refine zV_mem (fun M19 e20 => ?_)
  replace h := zlet_of h e20
  refine zV_aload_n (j := 0) dX1_init_28 rfl rfl ?_
  refine zV_bipush (v := 12) dX1_init_29 (by decide) ?_
  refine zV_newa_int (n := 12) hgr zar_int (by decide) (by decide) (by decide) (Nat.le_of_ble_eq_true rfl) (Nat.le_of_ble_eq_true rfl) dX1_init_31 ?_
  refine zV_mem (fun M23 e24 => ?_)
  replace h := zlet_of h e24
  refine zV_topr (fun u21 e22 => ?_)
  replace h := zlet_of h e22
  refine zV_putRF zf_RX1_22 dX1_init_33 rfl rfl rfl zfl_RX1_22 rfl (zkN e24 (zkR e20 (zkN e18 (zkR e14 (zkN e12 (zkR e8 g6)))))) ?_
  refine zV_mem (fun M25 e26 => ?_)
  replace h := zlet_of h e26
  refine zV_aload_n (j := 0) dX1_init_36 rfl rfl ?_
  refine zV_bipush (v := 12) dX1_init_37 (by decide) ?_
  refine zV_newa_bool (n := 12) hgr zar_boolean (by decide) (by decide) (by decide) (Nat.le_of_ble_eq_true rfl) (Nat.le_of_ble_eq_true rfl) dX1_init_39 ?_
  refine zV_mem (fun M29 e30 => ?_)
  replace h := zlet_of h e30
  refine zV_topr (fun u27 e28 => ?_)
  replace h := zlet_of h e28
  refine zV_putRF zf_RX1_25 dX1_init_41 rfl rfl rfl zfl_RX1_25 rfl (zkN e30 (zkR e26 (zkN e24 (zkR e20 (zkN e18 (zkR e14 (zkN e12 (zkR e8 g6)))))))) ?_
  refine zV_mem (fun M31 e32 => ?_)
  replace h := zlet_of h e32
  exact zV_vret (x := 0) rfl dX1_init_44 (Nat.le_of_ble_eq_true rfl) (Nat.le_of_ble_eq_true rfl) (z_ret h)
set_option maxHeartbeats 4000000 in
set_option maxRecDepth 100000 in
theorem vX0_init_47 {l : Launch} {D : va_G} {T : Nat → ClassId} {b : Nat} {gr : Bool} {n0 : Nat} (hgr : gr = true) : ∀ (n : Nat) (x0 : Nat) (x1 : Int32) (cc ss : Nat) (M : zM) (o : Int32 × zM), fX0_init_47 n x0 x1 cc ss M = some o → zV false l RX0 cX0_init 2 none true 2 65 540 D T zE0 b gr n0 (0, o.1, o.2) cc ss 47 [(0, zr b x0), (1, .int x1)] [] M := by
  intro n
  induction n with
  | zero =>
    intro x0 x1 cc ss M o h
    rw [fX0_init_47] at h
    cases h
  | succ n ih =>
    intro x0 x1 cc ss M o h
    rw [fX0_init_47] at h
    refine zV_iload_n (j := 1) dX0_init_47 rfl rfl ?_
    refine zV_bipush (v := 10) dX0_init_48 (by decide) ?_
    refine zV_icmp_ge (tgt := 72) dX0_init_50 (by decide) (fun c1 => ?_) (fun c1 => ?_)
    · replace h := z_t c1 h
      obtain ⟨g2, h⟩ := zg_of h
      exact zV_vret (x := 0) rfl dX0_init_72 g2.1 g2.2 (z_ret h)
    · replace h := z_f c1 h
      refine zV_aload_n (j := 0) dX0_init_53 rfl rfl ?_
      obtain ⟨g3, h⟩ := zg_of h
      refine zV_getR zf_RX0_11 dX0_init_54 rfl g3 ?_
      refine zV_iload_n (j := 1) dX0_init_57 rfl rfl ?_
      obtain ⟨g4, h⟩ := zg_of h
      refine zV_new (ci := 1) zcI1 hgr zcU1 zcT1 zcD1 zk_RX0_9 zcV1 zcK1 g4.1 g4.2 dX0_init_58 ?_
      refine zV_mem (fun M7 e8 => ?_)
      replace h := zlet_of h e8
      refine zV_topr (fun u5 e6 => ?_)
      replace h := zlet_of h e6
      refine zV_dup dX0_init_61 (zr_cat _ _) ?_
      obtain ⟨g9, h⟩ := zg_of h
      obtain ⟨g13, h⟩ := zg_of h
      obtain ⟨r10, M11, q12, h⟩ := zb_of h
      refine zV_callINv (As := []) (rest := [zr b u5, .int x1, zr b (zR M x0 0)]) (vX1_init l D T b gr hgr u5 M7 _ _ q12) zm_yX1_init zl_RX0_31 zi_yX1_init rfl g9 rfl rfl (zcs ⟨zr_cat _ _, rfl, zr_cat _ _, trivial⟩ (Nat.le_of_ble_eq_true rfl)) (by decide) g13.1 g13.2 dX0_init_62 ?_
      obtain ⟨g14, h⟩ := zg_of h
      obtain ⟨g15, h⟩ := zg_of h
      obtain ⟨g16, h⟩ := zg_of h
      refine zV_aast 110 4 dX0_init_65 g14 ⟨by decide, by decide⟩ rfl zcI1 g15 g16 ?_
      refine zV_mem (fun M17 e18 => ?_)
      replace h := zlet_of h e18
      obtain ⟨u19, e20⟩ : ∃ y : Int32, y = x1 + 1 := ⟨_, rfl⟩
      replace h := zlet_of h e20
      refine zV_iinc (j := 1) (v := u19) [(1, .int u19), (0, zr b x0)] dX0_init_66 rfl (by rw [e20]; rfl) (by decide) rfl rfl ?_
      refine zV_goto (tgt := 47) dX0_init_69 (by decide) ?_
      refine zV_pk [1, 0] rfl ?_
      exact ih x0 u19 ((cc + 1) + 5) ((ss + 7) + 42) M17 _ h
set_option maxHeartbeats 4000000 in
set_option maxRecDepth 100000 in
theorem vX0_init (l : Launch) (D : va_G) (T : Nat → ClassId) (b : Nat) (gr : Bool) (hgr : gr = true) (x0 : Nat) (M : zM) (r : Int32) (M' : zM) (h : fX0_init x0 M = some (r, M')) : zMet l D T b gr yX0_init cX0_init 2 none 2 65 540 [zr b x0] M (0, r, M') := by
  refine zEntry2 (ev := zE0) rfl true (fun _ => rfl) zp_yX0_init ⟨zr_cat _ _, trivial⟩ (Nat.le_of_ble_eq_true rfl) ?_
  obtain ⟨o, ho⟩ : ∃ o : Int32 × zM, o = (r, M') := ⟨_, rfl⟩
  rw [← ho] at h
  rw [show ((0, r, M') : Nat × Int32 × zM) = (0, o.1, o.2) by rw [ho]]
  show zV false l RX0 cX0_init 2 none true 2 65 540 D T zE0 b gr M.2.2.2 (0, o.1, o.2) 0 0 0 [(0, zr b x0)] [] M
  unfold fX0_init at h
  refine zV_aload_n (j := 0) dX0_init_0 rfl rfl ?_
  obtain ⟨g21, h⟩ := zg_of h
  refine zV_objInit zl_RX0_3 zi_obj zm_obj (by decide) g21 (zcs trivial (Nat.le_of_ble_eq_true rfl)) dX0_init_1 ?_
  refine zV_aload_n (j := 0) dX0_init_4 rfl rfl ?_
  refine zV_bipush (v := 10) dX0_init_5 (by decide) ?_
  refine zV_newq (n := 10) 110 4 ⟨by decide, by decide⟩ rfl hgr zk_RX0_9 (fun _ h9 => h9.1) (by decide) (by decide) (by decide) (Nat.le_of_ble_eq_true rfl) (Nat.le_of_ble_eq_true rfl) dX0_init_7 ?_
  refine zV_mem (fun M24 e25 => ?_)
  replace h := zlet_of h e25
  refine zV_topr (fun u22 e23 => ?_)
  replace h := zlet_of h e23
  obtain ⟨g26, h⟩ := zg_of h
  refine zV_putRF zf_RX0_11 dX0_init_10 rfl rfl rfl zfl_RX0_11 rfl g26 ?_
  refine zV_mem (fun M27 e28 => ?_)
  replace h := zlet_of h e28
  refine zV_aload_n (j := 0) dX0_init_13 rfl rfl ?_
  refine zV_bipush (v := 10) dX0_init_14 (by decide) ?_
  refine zV_newa_int (n := 10) hgr zar_int (by decide) (by decide) (by decide) (Nat.le_of_ble_eq_true rfl) (Nat.le_of_ble_eq_true rfl) dX0_init_16 ?_
  refine zV_mem (fun M31 e32 => ?_)
  replace h := zlet_of h e32
  refine zV_topr (fun u29 e30 => ?_)
  replace h := zlet_of h e30
  refine zV_putRF zf_RX0_17 dX0_init_18 rfl rfl rfl zfl_RX0_17 rfl (zkN e32 (zkR e28 g26)) ?_
  refine zV_mem (fun M33 e34 => ?_)
  replace h := zlet_of h e34
  refine zV_aload_n (j := 0) dX0_init_21 rfl rfl ?_
  refine zV_bipush (v := 10) dX0_init_22 (by decide) ?_
  refine zV_newa_int (n := 10) hgr zar_int (by decide) (by decide) (by decide) (Nat.le_of_ble_eq_true rfl) (Nat.le_of_ble_eq_true rfl) dX0_init_24 ?_
  refine zV_mem (fun M37 e38 => ?_)
  replace h := zlet_of h e38
  refine zV_topr (fun u35 e36 => ?_)
  replace h := zlet_of h e36
  refine zV_putRF zf_RX0_21 dX0_init_26 rfl rfl rfl zfl_RX0_21 rfl (zkN e38 (zkR e34 (zkN e32 (zkR e28 g26)))) ?_
  refine zV_mem (fun M39 e40 => ?_)
  replace h := zlet_of h e40
  refine zV_aload_n (j := 0) dX0_init_29 rfl rfl ?_
  refine zV_bipush (v := 10) dX0_init_30 (by decide) ?_
  refine zV_newa_bool (n := 10) hgr zar_boolean (by decide) (by decide) (by decide) (Nat.le_of_ble_eq_true rfl) (Nat.le_of_ble_eq_true rfl) dX0_init_32 ?_
  refine zV_mem (fun M43 e44 => ?_)
  replace h := zlet_of h e44
  refine zV_topr (fun u41 e42 => ?_)
  replace h := zlet_of h e42
  refine zV_putRF zf_RX0_24 dX0_init_34 rfl rfl rfl zfl_RX0_24 rfl (zkN e44 (zkR e40 (zkN e38 (zkR e34 (zkN e32 (zkR e28 g26)))))) ?_
  refine zV_mem (fun M45 e46 => ?_)
  replace h := zlet_of h e46
  refine zV_aload_n (j := 0) dX0_init_37 rfl rfl ?_
  refine zV_bipush (v := 10) dX0_init_38 (by decide) ?_
  refine zV_newa_bool (n := 10) hgr zar_boolean (by decide) (by decide) (by decide) (Nat.le_of_ble_eq_true rfl) (Nat.le_of_ble_eq_true rfl) dX0_init_40 ?_
  refine zV_mem (fun M49 e50 => ?_)
  replace h := zlet_of h e50
  refine zV_topr (fun u47 e48 => ?_)
  replace h := zlet_of h e48
  refine zV_putRF zf_RX0_28 dX0_init_42 rfl rfl rfl zfl_RX0_28 rfl (zkN e50 (zkR e46 (zkN e44 (zkR e40 (zkN e38 (zkR e34 (zkN e32 (zkR e28 g26)))))))) ?_
  refine zV_mem (fun M51 e52 => ?_)
  replace h := zlet_of h e52
  refine zV_iconst (v := 0) dX0_init_45 (by decide) ?_
  refine zV_istore_n [(1, .int 0), (0, zr b x0)] dX0_init_46 rfl (by decide) rfl rfl ?_
  refine zV_pk [1, 0] rfl ?_
  exact vX0_init_47 hgr 10000 x0 0 5 50 M51 _ h
set_option maxHeartbeats 4000000 in
set_option maxRecDepth 100000 in
theorem vX1_workOutReach_111 {l : Launch} {D : va_G} {T : Nat → ClassId} {b : Nat} {gr : Bool} {n0 : Nat} (x0 : Nat) (x1 : Int32) (x2 : Int32) (x4 : Int32) (M : zM) (o : Int32 × zM) (h : fX1_workOutReach_111 x0 x1 x2 x4 M = some o) : zV false l RX1 cX1_workOutReach 7 none false 0 0 0 D T zE0 b gr n0 (0, o.1, o.2) 0 0 111 [(0, zr b x0), (1, .int x1), (2, .int x2), (4, .int x4)] [] M := by
  unfold fX1_workOutReach_111 at h
  refine zV_aload_n (j := 0) dX1_workOutReach_111 rfl rfl ?_
  obtain ⟨g1, h⟩ := zg_of h
  refine zV_getR zf_RX1_22 dX1_workOutReach_112 rfl g1 ?_
  refine zV_iload_n (j := 1) dX1_workOutReach_115 rfl rfl ?_
  refine zV_iload_n (j := 2) dX1_workOutReach_116 rfl rfl ?_
  obtain ⟨g2, h⟩ := zg_of h
  obtain ⟨g3, h⟩ := zg_of h
  refine zV_iast dX1_workOutReach_117 g2 g3 ?_
  refine zV_mem (fun M4 e5 => ?_)
  replace h := zlet_of h e5
  refine zV_aload_n (j := 0) dX1_workOutReach_118 rfl rfl ?_
  refine zV_getR zf_RX1_25 dX1_workOutReach_119 rfl (zkI e5 g1) ?_
  refine zV_iload_n (j := 1) dX1_workOutReach_122 rfl rfl ?_
  refine zV_iload (j := 3) dX1_workOutReach_123 rfl ?_
  obtain ⟨g6, h⟩ := zg_of h
  obtain ⟨g7, h⟩ := zg_of h
  obtain ⟨g8, h⟩ := zg_of h
  refine zV_zast dX1_workOutReach_125 g6 g7 g8 ?_
  refine zV_mem (fun M9 e10 => ?_)
  replace h := zlet_of h e10
  exact zV_vret (x := 0) rfl dX1_workOutReach_126 (by decide) (by decide) (z_ret h)
set_option maxHeartbeats 4000000 in
set_option maxRecDepth 100000 in
theorem vX1_workOutReach_101 {l : Launch} {D : va_G} {T : Nat → ClassId} {b : Nat} {gr : Bool} {n0 : Nat} (k23 : Nat → Int32 → Int32 → Int32 → Int32 → Int32 → zM → Option (Int32 × zM)) (hk23 : ∀ (z0 : Nat) (z1 : Int32) (z2 : Int32) (z3 : Int32) (z4 : Int32) (z5 : Int32) (N : zM) (o : Int32 × zM), k23 z0 z1 z2 z3 z4 z5 N = some o → zV false l RX1 cX1_workOutReach 7 none false 0 0 0 D T zE0 b gr n0 (0, o.1, o.2) 0 0 23 [(0, zr b z0), (1, .int z1), (2, .int z2), (3, .int z3), (4, .int z4), (5, .int z5)] [] N) (x0 : Nat) (x1 : Int32) (x2 : Int32) (x5 : Int32) (s0 : Int32) (M : zM) (o : Int32 × zM) (h : fX1_workOutReach_101 k23 x0 x1 x2 x5 s0 M = some o) : zV false l RX1 cX1_workOutReach 7 none false 0 0 0 D T zE0 b gr n0 (0, o.1, o.2) 0 0 101 [(0, zr b x0), (1, .int x1), (2, .int x2), (5, .int x5)] [.int s0] M := by
  unfold fX1_workOutReach_101 at h
  refine zV_istore [(4, .int s0), (0, zr b x0), (1, .int x1), (2, .int x2), (5, .int x5)] dX1_workOutReach_101 (by decide) rfl rfl ?_
  refine zV_iconst (v := 0) dX1_workOutReach_103 (by decide) ?_
  refine zV_istore_n [(3, .int 0), (4, .int s0), (0, zr b x0), (1, .int x1), (2, .int x2), (5, .int x5)] dX1_workOutReach_104 rfl (by decide) rfl rfl ?_
  obtain ⟨u11, e12⟩ : ∃ y : Int32, y = x5 + 1 := ⟨_, rfl⟩
  replace h := zlet_of h e12
  refine zV_iinc (j := 5) (v := u11) [(5, .int u11), (3, .int 0), (4, .int s0), (0, zr b x0), (1, .int x1), (2, .int x2)] dX1_workOutReach_105 rfl (by rw [e12]; rfl) (by decide) rfl rfl ?_
  refine zV_goto (tgt := 23) dX1_workOutReach_108 (by decide) ?_
  refine zV_pk [3, 4, 5, 1, 2, 0] rfl ?_
  exact hk23 x0 x1 x2 0 s0 u11 M _ h
set_option maxHeartbeats 4000000 in
set_option maxRecDepth 100000 in
theorem vX1_workOutReach_96 {l : Launch} {D : va_G} {T : Nat → ClassId} {b : Nat} {gr : Bool} {n0 : Nat} (k23 : Nat → Int32 → Int32 → Int32 → Int32 → Int32 → zM → Option (Int32 × zM)) (hk23 : ∀ (z0 : Nat) (z1 : Int32) (z2 : Int32) (z3 : Int32) (z4 : Int32) (z5 : Int32) (N : zM) (o : Int32 × zM), k23 z0 z1 z2 z3 z4 z5 N = some o → zV false l RX1 cX1_workOutReach 7 none false 0 0 0 D T zE0 b gr n0 (0, o.1, o.2) 0 0 23 [(0, zr b z0), (1, .int z1), (2, .int z2), (3, .int z3), (4, .int z4), (5, .int z5)] [] N) (x0 : Nat) (x1 : Int32) (x2 : Int32) (x5 : Int32) (M : zM) (o : Int32 × zM) (h : fX1_workOutReach_96 k23 x0 x1 x2 x5 M = some o) : zV false l RX1 cX1_workOutReach 7 none false 0 0 0 D T zE0 b gr n0 (0, o.1, o.2) 0 0 96 [(0, zr b x0), (1, .int x1), (2, .int x2), (5, .int x5)] [] M := by
  unfold fX1_workOutReach_96 at h
  refine zV_iconst (v := 1) dX1_workOutReach_96 (by decide) ?_
  refine zV_goto (tgt := 101) dX1_workOutReach_97 (by decide) ?_
  exact vX1_workOutReach_101 k23 hk23 x0 x1 x2 x5 1 M _ h
set_option maxHeartbeats 4000000 in
set_option maxRecDepth 100000 in
theorem vX1_workOutReach_62 {l : Launch} {D : va_G} {T : Nat → ClassId} {b : Nat} {gr : Bool} {n0 : Nat} (k23 : Nat → Int32 → Int32 → Int32 → Int32 → Int32 → zM → Option (Int32 × zM)) (hk23 : ∀ (z0 : Nat) (z1 : Int32) (z2 : Int32) (z3 : Int32) (z4 : Int32) (z5 : Int32) (N : zM) (o : Int32 × zM), k23 z0 z1 z2 z3 z4 z5 N = some o → zV false l RX1 cX1_workOutReach 7 none false 0 0 0 D T zE0 b gr n0 (0, o.1, o.2) 0 0 23 [(0, zr b z0), (1, .int z1), (2, .int z2), (3, .int z3), (4, .int z4), (5, .int z5)] [] N) (x0 : Nat) (x1 : Int32) (x2 : Int32) (x3 : Int32) (x5 : Int32) (s0 : Int32) (M : zM) (o : Int32 × zM) (h : fX1_workOutReach_62 k23 x0 x1 x2 x3 x5 s0 M = some o) : zV false l RX1 cX1_workOutReach 7 none false 0 0 0 D T zE0 b gr n0 (0, o.1, o.2) 0 0 62 [(0, zr b x0), (1, .int x1), (2, .int x2), (3, .int x3), (5, .int x5)] [.int s0] M := by
  unfold fX1_workOutReach_62 at h
  refine zV_istore [(6, .int s0), (0, zr b x0), (1, .int x1), (2, .int x2), (3, .int x3), (5, .int x5)] dX1_workOutReach_62 (by decide) rfl rfl ?_
  refine zV_aload_n (j := 1) dX1_workOutReach_64 rfl rfl ?_
  refine zV_dup dX1_workOutReach_65 (zr_cat _ _) ?_
  obtain ⟨g13, h⟩ := zg_of h
  refine zV_getI zf_RX1_35 dX1_workOutReach_66 rfl g13 ?_
  refine zV_iload_n (j := 3) dX1_workOutReach_69 rfl rfl ?_
  refine zV_iload (j := 0) dX1_workOutReach_70 rfl ?_
  refine zV_iand dX1_workOutReach_72 ?_
  refine zV_ior dX1_workOutReach_73 ?_
  refine zV_putI zf_RX1_35 dX1_workOutReach_74 rfl rfl g13 ?_
  refine zV_mem (fun M14 e15 => ?_)
  replace h := zlet_of h e15
  refine zV_iload_n (j := 3) dX1_workOutReach_77 rfl rfl ?_
  refine zV_iload (j := 0) dX1_workOutReach_78 rfl ?_
  refine zV_ior dX1_workOutReach_80 ?_
  refine zV_top (fun u16 e17 => ?_)
  replace h := zlet_of h e17
  refine zV_istore_n [(2, .int u16), (6, .int s0), (0, zr b x0), (1, .int x1), (3, .int x3), (5, .int x5)] dX1_workOutReach_81 rfl (by decide) rfl rfl ?_
  refine zV_iload_n (j := 4) dX1_workOutReach_82 rfl rfl ?_
  refine zV_if_ne (tgt := 96) dX1_workOutReach_83 (by decide) (fun c18 => ?_) (fun c18 => ?_)
  · replace h := z_f c18 h
    refine zV_pk [2, 3, 0, 5] rfl ?_
    exact vX1_workOutReach_96 k23 hk23 x0 x1 u16 x5 M14 _ h
  · replace h := z_t c18 h
    refine zV_aload_n (j := 2) dX1_workOutReach_86 rfl rfl ?_
    refine zV_getR zf_RX1_19 dX1_workOutReach_87 rfl (zkI e15 g13) ?_
    refine zV_iload (j := 5) dX1_workOutReach_90 rfl ?_
    obtain ⟨g19, h⟩ := zg_of h
    obtain ⟨g20, h⟩ := zg_of h
    refine zV_zald dX1_workOutReach_92 g19 g20 ?_
    refine zV_if_eq (tgt := 100) dX1_workOutReach_93 (by decide) (fun c21 => ?_) (fun c21 => ?_)
    · replace h := z_t c21 h
      refine zV_iconst (v := 0) dX1_workOutReach_100 (by decide) ?_
      refine zV_pk [2, 3, 0, 5] rfl ?_
      exact vX1_workOutReach_101 k23 hk23 x0 x1 u16 x5 0 M14 _ h
    · replace h := z_f c21 h
      refine zV_pk [2, 3, 0, 5] rfl ?_
      exact vX1_workOutReach_96 k23 hk23 x0 x1 u16 x5 M14 _ h
set_option maxHeartbeats 4000000 in
set_option maxRecDepth 100000 in
theorem vX1_workOutReach_51 {l : Launch} {D : va_G} {T : Nat → ClassId} {b : Nat} {gr : Bool} {n0 : Nat} (k23 : Nat → Int32 → Int32 → Int32 → Int32 → Int32 → zM → Option (Int32 × zM)) (hk23 : ∀ (z0 : Nat) (z1 : Int32) (z2 : Int32) (z3 : Int32) (z4 : Int32) (z5 : Int32) (N : zM) (o : Int32 × zM), k23 z0 z1 z2 z3 z4 z5 N = some o → zV false l RX1 cX1_workOutReach 7 none false 0 0 0 D T zE0 b gr n0 (0, o.1, o.2) 0 0 23 [(0, zr b z0), (1, .int z1), (2, .int z2), (3, .int z3), (4, .int z4), (5, .int z5)] [] N) (x0 : Nat) (x1 : Int32) (x2 : Int32) (x3 : Int32) (x5 : Int32) (M : zM) (o : Int32 × zM) (h : fX1_workOutReach_51 k23 x0 x1 x2 x3 x5 M = some o) : zV false l RX1 cX1_workOutReach 7 none false 0 0 0 D T zE0 b gr n0 (0, o.1, o.2) 0 0 51 [(0, zr b x0), (1, .int x1), (2, .int x2), (3, .int x3), (5, .int x5)] [] M := by
  unfold fX1_workOutReach_51 at h
  refine zV_aload_n (j := 0) dX1_workOutReach_51 rfl rfl ?_
  obtain ⟨g22, h⟩ := zg_of h
  refine zV_getR zf_RX1_9 dX1_workOutReach_52 rfl g22 ?_
  refine zV_iload (j := 4) dX1_workOutReach_55 rfl ?_
  obtain ⟨g23, h⟩ := zg_of h
  obtain ⟨g24, h⟩ := zg_of h
  refine zV_iald dX1_workOutReach_57 g23 g24 ?_
  refine zV_goto (tgt := 62) dX1_workOutReach_58 (by decide) ?_
  exact vX1_workOutReach_62 k23 hk23 x0 x1 x2 x3 x5 (zI M (zR M x0 0) x5.toNatClampNeg) M _ h
set_option maxHeartbeats 4000000 in
set_option maxRecDepth 100000 in
theorem vX1_workOutReach_23 {l : Launch} {D : va_G} {T : Nat → ClassId} {b : Nat} {gr : Bool} {n0 : Nat} : ∀ (n : Nat) (x0 : Nat) (x1 : Int32) (x2 : Int32) (x3 : Int32) (x4 : Int32) (x5 : Int32) (M : zM) (o : Int32 × zM), fX1_workOutReach_23 n x0 x1 x2 x3 x4 x5 M = some o → zV false l RX1 cX1_workOutReach 7 none false 0 0 0 D T zE0 b gr n0 (0, o.1, o.2) 0 0 23 [(0, zr b x0), (1, .int x1), (2, .int x2), (3, .int x3), (4, .int x4), (5, .int x5)] [] M := by
  intro n
  induction n with
  | zero =>
    intro x0 x1 x2 x3 x4 x5 M o h
    rw [fX1_workOutReach_23] at h
    cases h
  | succ n ih =>
    intro x0 x1 x2 x3 x4 x5 M o h
    rw [fX1_workOutReach_23] at h
    refine zV_iload (j := 5) dX1_workOutReach_23 rfl ?_
    refine zV_aload_n (j := 0) dX1_workOutReach_25 rfl rfl ?_
    obtain ⟨g25, h⟩ := zg_of h
    refine zV_getI zf_RX1_28 dX1_workOutReach_26 rfl g25 ?_
    refine zV_icmp_ge (tgt := 111) dX1_workOutReach_29 (by decide) (fun c26 => ?_) (fun c26 => ?_)
    · replace h := z_t c26 h
      refine zV_pk [0, 1, 2, 4] rfl ?_
      exact vX1_workOutReach_111 x0 x1 x2 x4 M _ h
    · replace h := z_f c26 h
      refine zV_iload (j := 4) dX1_workOutReach_32 rfl ?_
      refine zV_if_eq (tgt := 111) dX1_workOutReach_34 (by decide) (fun c27 => ?_) (fun c27 => ?_)
      · replace h := z_t c27 h
        refine zV_pk [0, 1, 2, 4] rfl ?_
        exact vX1_workOutReach_111 x0 x1 x2 x4 M _ h
      · replace h := z_f c27 h
        refine zV_iload_n (j := 3) dX1_workOutReach_37 rfl rfl ?_
        refine zV_if_eq (tgt := 51) dX1_workOutReach_38 (by decide) (fun c28 => ?_) (fun c28 => ?_)
        · replace h := z_t c28 h
          refine zV_pk [0, 1, 2, 3, 5] rfl ?_
          exact vX1_workOutReach_51 (fX1_workOutReach_23 n) ih x0 x1 x2 x3 x5 M _ h
        · replace h := z_f c28 h
          refine zV_aload_n (j := 0) dX1_workOutReach_41 rfl rfl ?_
          refine zV_getR zf_RX1_15 dX1_workOutReach_42 rfl g25 ?_
          refine zV_iload (j := 5) dX1_workOutReach_45 rfl ?_
          obtain ⟨g29, h⟩ := zg_of h
          obtain ⟨g30, h⟩ := zg_of h
          refine zV_zald dX1_workOutReach_47 g29 g30 ?_
          refine zV_if_eq (tgt := 61) dX1_workOutReach_48 (by decide) (fun c31 => ?_) (fun c31 => ?_)
          · replace h := z_t c31 h
            refine zV_iconst (v := 0) dX1_workOutReach_61 (by decide) ?_
            refine zV_pk [0, 1, 2, 3, 5] rfl ?_
            exact vX1_workOutReach_62 (fX1_workOutReach_23 n) ih x0 x1 x2 x3 x5 0 M _ h
          · replace h := z_f c31 h
            refine zV_pk [0, 1, 2, 3, 5] rfl ?_
            exact vX1_workOutReach_51 (fX1_workOutReach_23 n) ih x0 x1 x2 x3 x5 M _ h
set_option maxHeartbeats 4000000 in
set_option maxRecDepth 100000 in
theorem vX1_workOutReach_14 {l : Launch} {D : va_G} {T : Nat → ClassId} {b : Nat} {gr : Bool} {n0 : Nat} (x0 : Nat) (x1 : Int32) (x2 : Int32) (s0 : Int32) (M : zM) (o : Int32 × zM) (h : fX1_workOutReach_14 x0 x1 x2 s0 M = some o) : zV false l RX1 cX1_workOutReach 7 none false 0 0 0 D T zE0 b gr n0 (0, o.1, o.2) 0 0 14 [(0, zr b x0), (1, .int x1), (2, .int x2)] [.int s0] M := by
  unfold fX1_workOutReach_14 at h
  refine zV_istore_n [(3, .int s0), (0, zr b x0), (1, .int x1), (2, .int x2)] dX1_workOutReach_14 rfl (by decide) rfl rfl ?_
  refine zV_iconst (v := 1) dX1_workOutReach_15 (by decide) ?_
  refine zV_istore [(4, .int 1), (3, .int s0), (0, zr b x0), (1, .int x1), (2, .int x2)] dX1_workOutReach_16 (by decide) rfl rfl ?_
  refine zV_iload_n (j := 3) dX1_workOutReach_18 rfl rfl ?_
  refine zV_iconst (v := 2) dX1_workOutReach_19 (by decide) ?_
  refine zV_idiv dX1_workOutReach_20 (by decide) ?_
  refine zV_top (fun u32 e33 => ?_)
  replace h := zlet_of h e33
  refine zV_istore [(5, .int u32), (4, .int 1), (3, .int s0), (0, zr b x0), (1, .int x1), (2, .int x2)] dX1_workOutReach_21 (by decide) rfl rfl ?_
  refine zV_pk [3, 4, 5, 2, 1, 0] rfl ?_
  exact vX1_workOutReach_23 10000 x0 x1 x2 s0 1 u32 M _ h
set_option maxHeartbeats 4000000 in
set_option maxRecDepth 100000 in
theorem vX1_workOutReach (l : Launch) (D : va_G) (T : Nat → ClassId) (b : Nat) (gr : Bool) (x0 : Nat) (x1 : Int32) (M : zM) (r : Int32) (M' : zM) (h : fX1_workOutReach x0 x1 M = some (r, M')) : zMet l D T b gr yX1_workOutReach cX1_workOutReach 7 none 0 0 0 [zr b x0, .int x1] M (0, r, M') := by
  refine zEntry2 (ev := zE0) rfl false (fun h9 => nomatch h9) zp_yX1_workOutReach ⟨zr_cat _ _, rfl, trivial⟩ (Nat.le_of_ble_eq_true rfl) ?_
  obtain ⟨o, ho⟩ : ∃ o : Int32 × zM, o = (r, M') := ⟨_, rfl⟩
  rw [← ho] at h
  rw [show ((0, r, M') : Nat × Int32 × zM) = (0, o.1, o.2) by rw [ho]]
  show zV false l RX1 cX1_workOutReach 7 none false 0 0 0 D T zE0 b gr M.2.2.2 (0, o.1, o.2) 0 0 0 [(0, zr b x0), (1, .int x1)] [] M
  unfold fX1_workOutReach at h
  refine zV_iconst (v := 0) dX1_workOutReach_0 (by decide) ?_
  refine zV_istore_n [(2, .int 0), (0, zr b x0), (1, .int x1)] dX1_workOutReach_1 rfl (by decide) rfl rfl ?_
  refine zV_iload_n (j := 2) dX1_workOutReach_2 rfl rfl ?_
  refine zV_iconst (v := 2) dX1_workOutReach_3 (by decide) ?_
  refine zV_irem dX1_workOutReach_4 (by decide) ?_
  refine zV_iconst (v := 1) dX1_workOutReach_5 (by decide) ?_
  refine zV_icmp_ne (tgt := 13) dX1_workOutReach_6 (by decide) (fun c34 => ?_) (fun c34 => ?_)
  · replace h := z_f c34 h
    refine zV_iconst (v := 0) dX1_workOutReach_13 (by decide) ?_
    refine zV_pk [1, 2, 0] rfl ?_
    exact vX1_workOutReach_14 x0 x1 0 0 M _ h
  · replace h := z_t c34 h
    refine zV_iconst (v := 1) dX1_workOutReach_9 (by decide) ?_
    refine zV_goto (tgt := 14) dX1_workOutReach_10 (by decide) ?_
    refine zV_pk [1, 2, 0] rfl ?_
    exact vX1_workOutReach_14 x0 x1 0 1 M _ h
set_option maxHeartbeats 4000000 in
set_option maxRecDepth 100000 in
theorem vX1_workOut_7 {l : Launch} {D : va_G} {T : Nat → ClassId} {b : Nat} {gr : Bool} {n0 : Nat} : ∀ (n : Nat) (x0 : Nat) (x1 : Int32) (M : zM) (o : Int32 × zM), fX1_workOut_7 n x0 x1 M = some o → zV false l RX1 cX1_workOut 2 none false 1 0 0 D T zE0 b gr n0 (0, o.1, o.2) 0 0 7 [(0, zr b x0), (1, .int x1)] [] M := by
  intro n
  induction n with
  | zero =>
    intro x0 x1 M o h
    rw [fX1_workOut_7] at h
    cases h
  | succ n ih =>
    intro x0 x1 M o h
    rw [fX1_workOut_7] at h
    refine zV_iload_n (j := 1) dX1_workOut_7 rfl rfl ?_
    refine zV_iconst (v := 2) dX1_workOut_8 (by decide) ?_
    refine zV_aload_n (j := 0) dX1_workOut_9 rfl rfl ?_
    obtain ⟨g1, h⟩ := zg_of h
    refine zV_getI zf_RX1_28 dX1_workOut_10 rfl g1 ?_
    refine zV_imul dX1_workOut_13 ?_
    refine zV_icmp_ge (tgt := 34) dX1_workOut_14 (by decide) (fun c2 => ?_) (fun c2 => ?_)
    · replace h := z_t c2 h
      exact zV_vret (x := 0) rfl dX1_workOut_34 (by decide) (by decide) (z_ret h)
    · replace h := z_f c2 h
      refine zV_iload_n (j := 1) dX1_workOut_17 rfl rfl ?_
      refine zV_bipush (v := 12) dX1_workOut_18 (by decide) ?_
      refine zV_icmp_ge (tgt := 34) dX1_workOut_20 (by decide) (fun c3 => ?_) (fun c3 => ?_)
      · replace h := z_t c3 h
        exact zV_vret (x := 0) rfl dX1_workOut_34 (by decide) (by decide) (z_ret h)
      · replace h := z_f c3 h
        refine zV_aload_n (j := 0) dX1_workOut_23 rfl rfl ?_
        refine zV_iload_n (j := 1) dX1_workOut_24 rfl rfl ?_
        obtain ⟨r4, M5, q6, h⟩ := zb_of h
        refine zV_callVv (ci := 1) (As := [.int x1]) (rest := []) (vX1_workOutReach l D T b gr x0 x1 M _ _ q6) zm_yX1_workOutReach zl_RX1_38 zi_yX1_workOutReach ze_yX1_workOutReach zcI1 g1 rfl rfl (zcs trivial (Nat.le_of_ble_eq_true rfl)) (by decide) (by decide) (by decide) dX1_workOut_25 ?_
        obtain ⟨u7, e8⟩ : ∃ y : Int32, y = x1 + 1 := ⟨_, rfl⟩
        replace h := zlet_of h e8
        refine zV_iinc (j := 1) (v := u7) [(1, .int u7), (0, zr b x0)] dX1_workOut_28 rfl (by rw [e8]; rfl) (by decide) rfl rfl ?_
        refine zV_goto (tgt := 7) dX1_workOut_31 (by decide) ?_
        refine zV_pk [1, 0] rfl ?_
        exact ih x0 u7 M5 _ h
set_option maxHeartbeats 4000000 in
set_option maxRecDepth 100000 in
theorem vX1_workOut (l : Launch) (D : va_G) (T : Nat → ClassId) (b : Nat) (gr : Bool) (x0 : Nat) (M : zM) (r : Int32) (M' : zM) (h : fX1_workOut x0 M = some (r, M')) : zMet l D T b gr yX1_workOut cX1_workOut 2 none 1 0 0 [zr b x0] M (0, r, M') := by
  refine zEntry2 (ev := zE0) rfl false (fun h9 => nomatch h9) zp_yX1_workOut ⟨zr_cat _ _, trivial⟩ (Nat.le_of_ble_eq_true rfl) ?_
  obtain ⟨o, ho⟩ : ∃ o : Int32 × zM, o = (r, M') := ⟨_, rfl⟩
  rw [← ho] at h
  rw [show ((0, r, M') : Nat × Int32 × zM) = (0, o.1, o.2) by rw [ho]]
  show zV false l RX1 cX1_workOut 2 none false 1 0 0 D T zE0 b gr M.2.2.2 (0, o.1, o.2) 0 0 0 [(0, zr b x0)] [] M
  unfold fX1_workOut at h
  refine zV_aload_n (j := 0) dX1_workOut_0 rfl rfl ?_
  refine zV_iconst (v := 0) dX1_workOut_1 (by decide) ?_
  obtain ⟨g9, h⟩ := zg_of h
  refine zV_putI zf_RX1_35 dX1_workOut_2 rfl rfl g9 ?_
  refine zV_mem (fun M10 e11 => ?_)
  replace h := zlet_of h e11
  refine zV_iconst (v := 0) dX1_workOut_5 (by decide) ?_
  refine zV_istore_n [(1, .int 0), (0, zr b x0)] dX1_workOut_6 rfl (by decide) rfl rfl ?_
  refine zV_pk [1, 0] rfl ?_
  exact vX1_workOut_7 10000 x0 0 M10 _ h
set_option maxHeartbeats 4000000 in
set_option maxRecDepth 100000 in
theorem vX1_addSlot_66 {l : Launch} {D : va_G} {T : Nat → ClassId} {b : Nat} {gr : Bool} {n0 : Nat} (x0 : Nat) (s0 : Nat) (s1 : Int32) (s2 : Int32) (M : zM) (o : Int32 × zM) (h : fX1_addSlot_66 x0 s0 s1 s2 M = some o) : zV false l RX1 cX1_addSlot 3 none false 2 0 0 D T zE0 b gr n0 (0, o.1, o.2) 0 0 66 [(0, zr b x0)] [.int s2, .int s1, zr b s0] M := by
  unfold fX1_addSlot_66 at h
  obtain ⟨g1, h⟩ := zg_of h
  obtain ⟨g2, h⟩ := zg_of h
  obtain ⟨g3, h⟩ := zg_of h
  refine zV_zast dX1_addSlot_66 g1 g2 g3 ?_
  refine zV_mem (fun M4 e5 => ?_)
  replace h := zlet_of h e5
  refine zV_aload_n (j := 0) dX1_addSlot_67 rfl rfl ?_
  refine zV_dup dX1_addSlot_68 (zr_cat _ _) ?_
  obtain ⟨g6, h⟩ := zg_of h
  refine zV_getI zf_RX1_28 dX1_addSlot_69 rfl g6 ?_
  refine zV_iconst (v := 1) dX1_addSlot_72 (by decide) ?_
  refine zV_iadd dX1_addSlot_73 ?_
  refine zV_putI zf_RX1_28 dX1_addSlot_74 rfl rfl g6 ?_
  refine zV_mem (fun M7 e8 => ?_)
  replace h := zlet_of h e8
  refine zV_aload_n (j := 0) dX1_addSlot_77 rfl rfl ?_
  obtain ⟨r9, M10, q11, h⟩ := zb_of h
  refine zV_callVv (ci := 1) (As := []) (rest := []) (vX1_workOut l D T b gr x0 M7 _ _ q11) zm_yX1_workOut zl_RX1_32 zi_yX1_workOut ze_yX1_workOut zcI1 (zkI e8 g6) rfl rfl (zcs trivial (Nat.le_of_ble_eq_true rfl)) (by decide) (by decide) (by decide) dX1_addSlot_78 ?_
  exact zV_vret (x := 0) rfl dX1_addSlot_81 (by decide) (by decide) (z_ret h)
set_option maxHeartbeats 4000000 in
set_option maxRecDepth 100000 in
theorem vX1_addSlot_61 {l : Launch} {D : va_G} {T : Nat → ClassId} {b : Nat} {gr : Bool} {n0 : Nat} (x0 : Nat) (s0 : Nat) (s1 : Int32) (M : zM) (o : Int32 × zM) (h : fX1_addSlot_61 x0 s0 s1 M = some o) : zV false l RX1 cX1_addSlot 3 none false 2 0 0 D T zE0 b gr n0 (0, o.1, o.2) 0 0 61 [(0, zr b x0)] [.int s1, zr b s0] M := by
  unfold fX1_addSlot_61 at h
  refine zV_iconst (v := 1) dX1_addSlot_61 (by decide) ?_
  refine zV_goto (tgt := 66) dX1_addSlot_62 (by decide) ?_
  exact vX1_addSlot_66 x0 s0 s1 1 M _ h
set_option maxHeartbeats 4000000 in
set_option maxRecDepth 100000 in
theorem vX1_addSlot_42 {l : Launch} {D : va_G} {T : Nat → ClassId} {b : Nat} {gr : Bool} {n0 : Nat} (x0 : Nat) (x2 : Int32) (s0 : Nat) (s1 : Int32) (s2 : Int32) (M : zM) (o : Int32 × zM) (h : fX1_addSlot_42 x0 x2 s0 s1 s2 M = some o) : zV false l RX1 cX1_addSlot 3 none false 2 0 0 D T zE0 b gr n0 (0, o.1, o.2) 0 0 42 [(0, zr b x0), (2, .int x2)] [.int s2, .int s1, zr b s0] M := by
  unfold fX1_addSlot_42 at h
  obtain ⟨g12, h⟩ := zg_of h
  obtain ⟨g13, h⟩ := zg_of h
  obtain ⟨g14, h⟩ := zg_of h
  refine zV_zast dX1_addSlot_42 g12 g13 g14 ?_
  refine zV_mem (fun M15 e16 => ?_)
  replace h := zlet_of h e16
  refine zV_aload_n (j := 0) dX1_addSlot_43 rfl rfl ?_
  obtain ⟨g17, h⟩ := zg_of h
  refine zV_getR zf_RX1_19 dX1_addSlot_44 rfl g17 ?_
  refine zV_aload_n (j := 0) dX1_addSlot_47 rfl rfl ?_
  refine zV_getI zf_RX1_28 dX1_addSlot_48 rfl g17 ?_
  refine zV_iload_n (j := 1) dX1_addSlot_51 rfl rfl ?_
  refine zV_iconst (v := 1) dX1_addSlot_52 (by decide) ?_
  refine zV_icmp_eq (tgt := 61) dX1_addSlot_53 (by decide) (fun c18 => ?_) (fun c18 => ?_)
  · replace h := z_t c18 h
    refine zV_pk [0] rfl ?_
    exact vX1_addSlot_61 x0 (zR M15 x0 2) (zI M15 x0 3) M15 _ h
  · replace h := z_f c18 h
    refine zV_iload_n (j := 1) dX1_addSlot_56 rfl rfl ?_
    refine zV_iconst (v := 2) dX1_addSlot_57 (by decide) ?_
    refine zV_icmp_ne (tgt := 65) dX1_addSlot_58 (by decide) (fun c19 => ?_) (fun c19 => ?_)
    · replace h := z_f c19 h
      refine zV_iconst (v := 0) dX1_addSlot_65 (by decide) ?_
      refine zV_pk [0] rfl ?_
      exact vX1_addSlot_66 x0 (zR M15 x0 2) (zI M15 x0 3) 0 M15 _ h
    · replace h := z_t c19 h
      refine zV_pk [0] rfl ?_
      exact vX1_addSlot_61 x0 (zR M15 x0 2) (zI M15 x0 3) M15 _ h
set_option maxHeartbeats 4000000 in
set_option maxRecDepth 100000 in
theorem vX1_addSlot_37 {l : Launch} {D : va_G} {T : Nat → ClassId} {b : Nat} {gr : Bool} {n0 : Nat} (x0 : Nat) (x2 : Int32) (s0 : Nat) (s1 : Int32) (M : zM) (o : Int32 × zM) (h : fX1_addSlot_37 x0 x2 s0 s1 M = some o) : zV false l RX1 cX1_addSlot 3 none false 2 0 0 D T zE0 b gr n0 (0, o.1, o.2) 0 0 37 [(0, zr b x0), (2, .int x2)] [.int s1, zr b s0] M := by
  unfold fX1_addSlot_37 at h
  refine zV_iconst (v := 1) dX1_addSlot_37 (by decide) ?_
  refine zV_goto (tgt := 42) dX1_addSlot_38 (by decide) ?_
  exact vX1_addSlot_42 x0 x2 s0 s1 1 M _ h
set_option maxHeartbeats 4000000 in
set_option maxRecDepth 100000 in
theorem vX1_addSlot (l : Launch) (D : va_G) (T : Nat → ClassId) (b : Nat) (gr : Bool) (x0 : Nat) (x1 : Int32) (x2 : Int32) (M : zM) (r : Int32) (M' : zM) (h : fX1_addSlot x0 x1 x2 M = some (r, M')) : zMet l D T b gr yX1_addSlot cX1_addSlot 3 none 2 0 0 [zr b x0, .int x1, .int x2] M (0, r, M') := by
  refine zEntry2 (ev := zE0) rfl false (fun h9 => nomatch h9) zp_yX1_addSlot ⟨zr_cat _ _, rfl, rfl, trivial⟩ (Nat.le_of_ble_eq_true rfl) ?_
  obtain ⟨o, ho⟩ : ∃ o : Int32 × zM, o = (r, M') := ⟨_, rfl⟩
  rw [← ho] at h
  rw [show ((0, r, M') : Nat × Int32 × zM) = (0, o.1, o.2) by rw [ho]]
  show zV false l RX1 cX1_addSlot 3 none false 2 0 0 D T zE0 b gr M.2.2.2 (0, o.1, o.2) 0 0 0 [(0, zr b x0), (1, .int x1), (2, .int x2)] [] M
  unfold fX1_addSlot at h
  refine zV_aload_n (j := 0) dX1_addSlot_0 rfl rfl ?_
  obtain ⟨g20, h⟩ := zg_of h
  refine zV_getI zf_RX1_28 dX1_addSlot_1 rfl g20 ?_
  refine zV_bipush (v := 6) dX1_addSlot_4 (by decide) ?_
  refine zV_icmp_ge (tgt := 81) dX1_addSlot_6 (by decide) (fun c21 => ?_) (fun c21 => ?_)
  · replace h := z_t c21 h
    exact zV_vret (x := 0) rfl dX1_addSlot_81 (by decide) (by decide) (z_ret h)
  · replace h := z_f c21 h
    refine zV_aload_n (j := 0) dX1_addSlot_9 rfl rfl ?_
    refine zV_getR zf_RX1_9 dX1_addSlot_10 rfl g20 ?_
    refine zV_aload_n (j := 0) dX1_addSlot_13 rfl rfl ?_
    refine zV_getI zf_RX1_28 dX1_addSlot_14 rfl g20 ?_
    refine zV_iload_n (j := 1) dX1_addSlot_17 rfl rfl ?_
    obtain ⟨g22, h⟩ := zg_of h
    obtain ⟨g23, h⟩ := zg_of h
    refine zV_iast dX1_addSlot_18 g22 g23 ?_
    refine zV_mem (fun M24 e25 => ?_)
    replace h := zlet_of h e25
    refine zV_aload_n (j := 0) dX1_addSlot_19 rfl rfl ?_
    refine zV_getR zf_RX1_15 dX1_addSlot_20 rfl (zkI e25 g20) ?_
    refine zV_aload_n (j := 0) dX1_addSlot_23 rfl rfl ?_
    refine zV_getI zf_RX1_28 dX1_addSlot_24 rfl (zkI e25 g20) ?_
    refine zV_iload_n (j := 2) dX1_addSlot_27 rfl rfl ?_
    refine zV_iconst (v := 2) dX1_addSlot_28 (by decide) ?_
    refine zV_icmp_eq (tgt := 37) dX1_addSlot_29 (by decide) (fun c26 => ?_) (fun c26 => ?_)
    · replace h := z_t c26 h
      refine zV_pk [0, 2] rfl ?_
      exact vX1_addSlot_37 x0 x2 (zR M24 x0 1) (zI M24 x0 3) M24 _ h
    · replace h := z_f c26 h
      refine zV_iload_n (j := 2) dX1_addSlot_32 rfl rfl ?_
      refine zV_iconst (v := 3) dX1_addSlot_33 (by decide) ?_
      refine zV_icmp_ne (tgt := 41) dX1_addSlot_34 (by decide) (fun c27 => ?_) (fun c27 => ?_)
      · replace h := z_f c27 h
        refine zV_iconst (v := 0) dX1_addSlot_41 (by decide) ?_
        refine zV_pk [0, 2] rfl ?_
        exact vX1_addSlot_42 x0 x2 (zR M24 x0 1) (zI M24 x0 3) 0 M24 _ h
      · replace h := z_t c27 h
        refine zV_pk [0, 2] rfl ?_
        exact vX1_addSlot_37 x0 x2 (zR M24 x0 1) (zI M24 x0 3) M24 _ h
set_option maxHeartbeats 4000000 in
set_option maxRecDepth 100000 in
theorem vX1_dropLastSlot (l : Launch) (D : va_G) (T : Nat → ClassId) (b : Nat) (gr : Bool) (x0 : Nat) (M : zM) (r : Int32) (M' : zM) (h : fX1_dropLastSlot x0 M = some (r, M')) : zMet l D T b gr yX1_dropLastSlot cX1_dropLastSlot 1 none 2 0 0 [zr b x0] M (0, r, M') := by
  refine zEntry2 (ev := zE0) rfl false (fun h9 => nomatch h9) zp_yX1_dropLastSlot ⟨zr_cat _ _, trivial⟩ (Nat.le_of_ble_eq_true rfl) ?_
  obtain ⟨o, ho⟩ : ∃ o : Int32 × zM, o = (r, M') := ⟨_, rfl⟩
  rw [← ho] at h
  rw [show ((0, r, M') : Nat × Int32 × zM) = (0, o.1, o.2) by rw [ho]]
  show zV false l RX1 cX1_dropLastSlot 1 none false 2 0 0 D T zE0 b gr M.2.2.2 (0, o.1, o.2) 0 0 0 [(0, zr b x0)] [] M
  unfold fX1_dropLastSlot at h
  refine zV_aload_n (j := 0) dX1_dropLastSlot_0 rfl rfl ?_
  obtain ⟨g1, h⟩ := zg_of h
  refine zV_getI zf_RX1_28 dX1_dropLastSlot_1 rfl g1 ?_
  refine zV_if_le (tgt := 21) dX1_dropLastSlot_4 (by decide) (fun c2 => ?_) (fun c2 => ?_)
  · replace h := z_t c2 h
    exact zV_vret (x := 0) rfl dX1_dropLastSlot_21 (by decide) (by decide) (z_ret h)
  · replace h := z_f c2 h
    refine zV_aload_n (j := 0) dX1_dropLastSlot_7 rfl rfl ?_
    refine zV_dup dX1_dropLastSlot_8 (zr_cat _ _) ?_
    refine zV_getI zf_RX1_28 dX1_dropLastSlot_9 rfl g1 ?_
    refine zV_iconst (v := 1) dX1_dropLastSlot_12 (by decide) ?_
    refine zV_isub dX1_dropLastSlot_13 ?_
    refine zV_putI zf_RX1_28 dX1_dropLastSlot_14 rfl rfl g1 ?_
    refine zV_mem (fun M3 e4 => ?_)
    replace h := zlet_of h e4
    refine zV_aload_n (j := 0) dX1_dropLastSlot_17 rfl rfl ?_
    obtain ⟨r5, M6, q7, h⟩ := zb_of h
    refine zV_callVv (ci := 1) (As := []) (rest := []) (vX1_workOut l D T b gr x0 M3 _ _ q7) zm_yX1_workOut zl_RX1_32 zi_yX1_workOut ze_yX1_workOut zcI1 (zkI e4 g1) rfl rfl (zcs trivial (Nat.le_of_ble_eq_true rfl)) (by decide) (by decide) (by decide) dX1_dropLastSlot_18 ?_
    exact zV_vret (x := 0) rfl dX1_dropLastSlot_21 (by decide) (by decide) (z_ret h)
set_option maxHeartbeats 4000000 in
set_option maxRecDepth 100000 in
theorem vX1_dropSlots (l : Launch) (D : va_G) (T : Nat → ClassId) (b : Nat) (gr : Bool) (x0 : Nat) (M : zM) (r : Int32) (M' : zM) (h : fX1_dropSlots x0 M = some (r, M')) : zMet l D T b gr yX1_dropSlots cX1_dropSlots 1 none 0 0 0 [zr b x0] M (0, r, M') := by
  refine zEntry2 (ev := zE0) rfl false (fun h9 => nomatch h9) zp_yX1_dropSlots ⟨zr_cat _ _, trivial⟩ (Nat.le_of_ble_eq_true rfl) ?_
  obtain ⟨o, ho⟩ : ∃ o : Int32 × zM, o = (r, M') := ⟨_, rfl⟩
  rw [← ho] at h
  rw [show ((0, r, M') : Nat × Int32 × zM) = (0, o.1, o.2) by rw [ho]]
  show zV false l RX1 cX1_dropSlots 1 none false 0 0 0 D T zE0 b gr M.2.2.2 (0, o.1, o.2) 0 0 0 [(0, zr b x0)] [] M
  unfold fX1_dropSlots at h
  refine zV_aload_n (j := 0) dX1_dropSlots_0 rfl rfl ?_
  refine zV_iconst (v := 0) dX1_dropSlots_1 (by decide) ?_
  obtain ⟨g1, h⟩ := zg_of h
  refine zV_putI zf_RX1_28 dX1_dropSlots_2 rfl rfl g1 ?_
  refine zV_mem (fun M2 e3 => ?_)
  replace h := zlet_of h e3
  refine zV_aload_n (j := 0) dX1_dropSlots_5 rfl rfl ?_
  refine zV_iconst (v := 0) dX1_dropSlots_6 (by decide) ?_
  refine zV_putI zf_RX1_35 dX1_dropSlots_7 rfl rfl (zkI e3 g1) ?_
  refine zV_mem (fun M4 e5 => ?_)
  replace h := zlet_of h e5
  exact zV_vret (x := 0) rfl dX1_dropSlots_10 (by decide) (by decide) (z_ret h)
set_option maxHeartbeats 4000000 in
set_option maxRecDepth 100000 in
theorem vX1_slotFor_88 {l : Launch} {D : va_G} {T : Nat → ClassId} {b : Nat} {gr : Bool} {n0 : Nat} (k29 : Nat → Int32 → Int32 → Int32 → zM → Option (Int32 × zM)) (hk29 : ∀ (z0 : Nat) (z1 : Int32) (z2 : Int32) (z3 : Int32) (N : zM) (o : Int32 × zM), k29 z0 z1 z2 z3 N = some o → zV false l RX1 cX1_slotFor 5 (some .int) false 0 0 0 D T zE0 b gr n0 (0, o.1, o.2) 0 0 29 [(0, zr b z0), (1, .int z1), (2, .int z2), (3, .int z3)] [] N) (x0 : Nat) (x1 : Int32) (x2 : Int32) (x3 : Int32) (M : zM) (o : Int32 × zM) (h : fX1_slotFor_88 k29 x0 x1 x2 x3 M = some o) : zV false l RX1 cX1_slotFor 5 (some .int) false 0 0 0 D T zE0 b gr n0 (0, o.1, o.2) 0 0 88 [(0, zr b x0), (1, .int x1), (2, .int x2), (3, .int x3)] [] M := by
  unfold fX1_slotFor_88 at h
  obtain ⟨u1, e2⟩ : ∃ y : Int32, y = x3 + 1 := ⟨_, rfl⟩
  replace h := zlet_of h e2
  refine zV_iinc (j := 3) (v := u1) [(3, .int u1), (0, zr b x0), (1, .int x1), (2, .int x2)] dX1_slotFor_88 rfl (by rw [e2]; rfl) (by decide) rfl rfl ?_
  refine zV_goto (tgt := 29) dX1_slotFor_91 (by decide) ?_
  refine zV_pk [1, 2, 3, 0] rfl ?_
  exact hk29 x0 x1 x2 u1 M _ h
set_option maxHeartbeats 4000000 in
set_option maxRecDepth 100000 in
theorem vX1_slotFor_56 {l : Launch} {D : va_G} {T : Nat → ClassId} {b : Nat} {gr : Bool} {n0 : Nat} (k29 : Nat → Int32 → Int32 → Int32 → zM → Option (Int32 × zM)) (hk29 : ∀ (z0 : Nat) (z1 : Int32) (z2 : Int32) (z3 : Int32) (N : zM) (o : Int32 × zM), k29 z0 z1 z2 z3 N = some o → zV false l RX1 cX1_slotFor 5 (some .int) false 0 0 0 D T zE0 b gr n0 (0, o.1, o.2) 0 0 29 [(0, zr b z0), (1, .int z1), (2, .int z2), (3, .int z3)] [] N) (x0 : Nat) (x1 : Int32) (x2 : Int32) (x3 : Int32) (s0 : Int32) (M : zM) (o : Int32 × zM) (h : fX1_slotFor_56 k29 x0 x1 x2 x3 s0 M = some o) : zV false l RX1 cX1_slotFor 5 (some .int) false 0 0 0 D T zE0 b gr n0 (0, o.1, o.2) 0 0 56 [(0, zr b x0), (1, .int x1), (2, .int x2), (3, .int x3)] [.int s0] M := by
  unfold fX1_slotFor_56 at h
  refine zV_istore [(4, .int s0), (0, zr b x0), (1, .int x1), (2, .int x2), (3, .int x3)] dX1_slotFor_56 (by decide) rfl rfl ?_
  refine zV_aload_n (j := 1) dX1_slotFor_58 rfl rfl ?_
  obtain ⟨g3, h⟩ := zg_of h
  refine zV_getR zf_RX1_9 dX1_slotFor_59 rfl g3 ?_
  refine zV_iload_n (j := 4) dX1_slotFor_62 rfl rfl ?_
  obtain ⟨g4, h⟩ := zg_of h
  obtain ⟨g5, h⟩ := zg_of h
  refine zV_iald dX1_slotFor_63 g4 g5 ?_
  refine zV_iload_n (j := 3) dX1_slotFor_64 rfl rfl ?_
  refine zV_ishr dX1_slotFor_65 ?_
  refine zV_iconst (v := 1) dX1_slotFor_66 (by decide) ?_
  refine zV_iand dX1_slotFor_67 ?_
  refine zV_iconst (v := 1) dX1_slotFor_68 (by decide) ?_
  refine zV_icmp_ne (tgt := 88) dX1_slotFor_69 (by decide) (fun c6 => ?_) (fun c6 => ?_)
  · replace h := z_f c6 h
    refine zV_pk [1, 2, 3, 4] rfl ?_
    exact vX1_slotFor_88 k29 hk29 x0 x1 x2 x3 M _ h
  · replace h := z_t c6 h
    refine zV_iload (j := 0) dX1_slotFor_72 rfl ?_
    refine zV_if_eq (tgt := 86) dX1_slotFor_74 (by decide) (fun c7 => ?_) (fun c7 => ?_)
    · replace h := z_t c7 h
      refine zV_iload_n (j := 4) dX1_slotFor_86 rfl rfl ?_
      exact zV_iret rfl dX1_slotFor_87 (by decide) (by decide) (z_ret h)
    · replace h := z_f c7 h
      refine zV_aload_n (j := 1) dX1_slotFor_77 rfl rfl ?_
      refine zV_getR zf_RX1_15 dX1_slotFor_78 rfl g3 ?_
      refine zV_iload_n (j := 4) dX1_slotFor_81 rfl rfl ?_
      obtain ⟨g8, h⟩ := zg_of h
      obtain ⟨g9, h⟩ := zg_of h
      refine zV_zald dX1_slotFor_82 g8 g9 ?_
      refine zV_if_eq (tgt := 88) dX1_slotFor_83 (by decide) (fun c10 => ?_) (fun c10 => ?_)
      · replace h := z_t c10 h
        refine zV_pk [1, 2, 3, 4] rfl ?_
        exact vX1_slotFor_88 k29 hk29 x0 x1 x2 x3 M _ h
      · replace h := z_f c10 h
        refine zV_iload_n (j := 4) dX1_slotFor_86 rfl rfl ?_
        exact zV_iret rfl dX1_slotFor_87 (by decide) (by decide) (z_ret h)
set_option maxHeartbeats 4000000 in
set_option maxRecDepth 100000 in
theorem vX1_slotFor_55 {l : Launch} {D : va_G} {T : Nat → ClassId} {b : Nat} {gr : Bool} {n0 : Nat} (k29 : Nat → Int32 → Int32 → Int32 → zM → Option (Int32 × zM)) (hk29 : ∀ (z0 : Nat) (z1 : Int32) (z2 : Int32) (z3 : Int32) (N : zM) (o : Int32 × zM), k29 z0 z1 z2 z3 N = some o → zV false l RX1 cX1_slotFor 5 (some .int) false 0 0 0 D T zE0 b gr n0 (0, o.1, o.2) 0 0 29 [(0, zr b z0), (1, .int z1), (2, .int z2), (3, .int z3)] [] N) (x0 : Nat) (x1 : Int32) (x2 : Int32) (x3 : Int32) (M : zM) (o : Int32 × zM) (h : fX1_slotFor_55 k29 x0 x1 x2 x3 M = some o) : zV false l RX1 cX1_slotFor 5 (some .int) false 0 0 0 D T zE0 b gr n0 (0, o.1, o.2) 0 0 55 [(0, zr b x0), (1, .int x1), (2, .int x2), (3, .int x3)] [] M := by
  unfold fX1_slotFor_55 at h
  refine zV_iconst (v := 0) dX1_slotFor_55 (by decide) ?_
  exact vX1_slotFor_56 k29 hk29 x0 x1 x2 x3 0 M _ h
set_option maxHeartbeats 4000000 in
set_option maxRecDepth 100000 in
theorem vX1_slotFor_29 {l : Launch} {D : va_G} {T : Nat → ClassId} {b : Nat} {gr : Bool} {n0 : Nat} : ∀ (n : Nat) (x0 : Nat) (x1 : Int32) (x2 : Int32) (x3 : Int32) (M : zM) (o : Int32 × zM), fX1_slotFor_29 n x0 x1 x2 x3 M = some o → zV false l RX1 cX1_slotFor 5 (some .int) false 0 0 0 D T zE0 b gr n0 (0, o.1, o.2) 0 0 29 [(0, zr b x0), (1, .int x1), (2, .int x2), (3, .int x3)] [] M := by
  intro n
  induction n with
  | zero =>
    intro x0 x1 x2 x3 M o h
    rw [fX1_slotFor_29] at h
    cases h
  | succ n ih =>
    intro x0 x1 x2 x3 M o h
    rw [fX1_slotFor_29] at h
    refine zV_iload_n (j := 3) dX1_slotFor_29 rfl rfl ?_
    refine zV_aload_n (j := 0) dX1_slotFor_30 rfl rfl ?_
    obtain ⟨g11, h⟩ := zg_of h
    refine zV_getI zf_RX1_28 dX1_slotFor_31 rfl g11 ?_
    refine zV_icmp_ge (tgt := 94) dX1_slotFor_34 (by decide) (fun c12 => ?_) (fun c12 => ?_)
    · replace h := z_t c12 h
      refine zV_iconst (v := (-1)) dX1_slotFor_94 (by decide) ?_
      exact zV_iret rfl dX1_slotFor_95 (by decide) (by decide) (z_ret h)
    · replace h := z_f c12 h
      refine zV_iload_n (j := 3) dX1_slotFor_37 rfl rfl ?_
      refine zV_iload_n (j := 1) dX1_slotFor_38 rfl rfl ?_
      refine zV_iconst (v := 2) dX1_slotFor_39 (by decide) ?_
      refine zV_idiv dX1_slotFor_40 (by decide) ?_
      refine zV_icmp_ne (tgt := 55) dX1_slotFor_41 (by decide) (fun c13 => ?_) (fun c13 => ?_)
      · replace h := z_f c13 h
        exact vX1_slotFor_55 (fX1_slotFor_29 n) ih x0 x1 x2 x3 M _ h
      · replace h := z_t c13 h
        refine zV_iload_n (j := 1) dX1_slotFor_44 rfl rfl ?_
        refine zV_iconst (v := 2) dX1_slotFor_45 (by decide) ?_
        refine zV_irem dX1_slotFor_46 (by decide) ?_
        refine zV_iconst (v := 1) dX1_slotFor_47 (by decide) ?_
        refine zV_icmp_ne (tgt := 55) dX1_slotFor_48 (by decide) (fun c14 => ?_) (fun c14 => ?_)
        · replace h := z_f c14 h
          exact vX1_slotFor_55 (fX1_slotFor_29 n) ih x0 x1 x2 x3 M _ h
        · replace h := z_t c14 h
          refine zV_iconst (v := 1) dX1_slotFor_51 (by decide) ?_
          refine zV_goto (tgt := 56) dX1_slotFor_52 (by decide) ?_
          exact vX1_slotFor_56 (fX1_slotFor_29 n) ih x0 x1 x2 x3 1 M _ h
set_option maxHeartbeats 4000000 in
set_option maxRecDepth 100000 in
theorem vX1_slotFor (l : Launch) (D : va_G) (T : Nat → ClassId) (b : Nat) (gr : Bool) (x0 : Nat) (x1 : Int32) (x2 : Int32) (M : zM) (r : Int32) (M' : zM) (h : fX1_slotFor x0 x1 x2 M = some (r, M')) : zMet l D T b gr yX1_slotFor cX1_slotFor 5 (some .int) 0 0 0 [zr b x0, .int x1, .int x2] M (0, r, M') := by
  refine zEntry2 (ev := zE0) rfl false (fun h9 => nomatch h9) zp_yX1_slotFor ⟨zr_cat _ _, rfl, rfl, trivial⟩ (Nat.le_of_ble_eq_true rfl) ?_
  obtain ⟨o, ho⟩ : ∃ o : Int32 × zM, o = (r, M') := ⟨_, rfl⟩
  rw [← ho] at h
  rw [show ((0, r, M') : Nat × Int32 × zM) = (0, o.1, o.2) by rw [ho]]
  show zV false l RX1 cX1_slotFor 5 (some .int) false 0 0 0 D T zE0 b gr M.2.2.2 (0, o.1, o.2) 0 0 0 [(0, zr b x0), (1, .int x1), (2, .int x2)] [] M
  unfold fX1_slotFor at h
  refine zV_iload_n (j := 1) dX1_slotFor_0 rfl rfl ?_
  refine zV_if_lt (tgt := 23) dX1_slotFor_1 (by decide) (fun c15 => ?_) (fun c15 => ?_)
  · replace h := z_t c15 h
    refine zV_iconst (v := (-1)) dX1_slotFor_23 (by decide) ?_
    exact zV_iret rfl dX1_slotFor_24 (by decide) (by decide) (z_ret h)
  · replace h := z_f c15 h
    refine zV_iload_n (j := 1) dX1_slotFor_4 rfl rfl ?_
    refine zV_bipush (v := 12) dX1_slotFor_5 (by decide) ?_
    refine zV_icmp_ge (tgt := 23) dX1_slotFor_7 (by decide) (fun c16 => ?_) (fun c16 => ?_)
    · replace h := z_t c16 h
      refine zV_iconst (v := (-1)) dX1_slotFor_23 (by decide) ?_
      exact zV_iret rfl dX1_slotFor_24 (by decide) (by decide) (z_ret h)
    · replace h := z_f c16 h
      refine zV_aload_n (j := 0) dX1_slotFor_10 rfl rfl ?_
      obtain ⟨g17, h⟩ := zg_of h
      refine zV_getR zf_RX1_22 dX1_slotFor_11 rfl g17 ?_
      refine zV_iload_n (j := 1) dX1_slotFor_14 rfl rfl ?_
      obtain ⟨g18, h⟩ := zg_of h
      obtain ⟨g19, h⟩ := zg_of h
      refine zV_iald dX1_slotFor_15 g18 g19 ?_
      refine zV_iload_n (j := 2) dX1_slotFor_16 rfl rfl ?_
      refine zV_ishr dX1_slotFor_17 ?_
      refine zV_iconst (v := 1) dX1_slotFor_18 (by decide) ?_
      refine zV_iand dX1_slotFor_19 ?_
      refine zV_if_ne (tgt := 25) dX1_slotFor_20 (by decide) (fun c20 => ?_) (fun c20 => ?_)
      · replace h := z_f c20 h
        refine zV_iload_n (j := 1) dX1_slotFor_25 rfl rfl ?_
        refine zV_iconst (v := 2) dX1_slotFor_26 (by decide) ?_
        refine zV_idiv dX1_slotFor_27 (by decide) ?_
        refine zV_top (fun u21 e22 => ?_)
        replace h := zlet_of h e22
        refine zV_istore_n [(3, .int u21), (0, zr b x0), (1, .int x1), (2, .int x2)] dX1_slotFor_28 rfl (by decide) rfl rfl ?_
        refine zV_pk [1, 2, 3, 0] rfl ?_
        exact vX1_slotFor_29 10000 x0 x1 x2 u21 M _ h
      · replace h := z_t c20 h
        refine zV_iconst (v := (-1)) dX1_slotFor_23 (by decide) ?_
        exact zV_iret rfl dX1_slotFor_24 (by decide) (by decide) (z_ret h)
set_option maxHeartbeats 4000000 in
set_option maxRecDepth 100000 in
theorem vX5_init (l : Launch) (D : va_G) (T : Nat → ClassId) (b : Nat) (gr : Bool) (hgr : gr = true) (x0 : Nat) (M : zM) (r : Int32) (M' : zM) (h : fX5_init x0 M = some (r, M')) : zMet l D T b gr yX5_init cX5_init 1 none 1 5 1500 [zr b x0] M (0, r, M') := by
  refine zEntry2 (ev := zE0) rfl true (fun _ => rfl) zp_yX5_init ⟨zr_cat _ _, trivial⟩ (Nat.le_of_ble_eq_true rfl) ?_
  obtain ⟨o, ho⟩ : ∃ o : Int32 × zM, o = (r, M') := ⟨_, rfl⟩
  rw [← ho] at h
  rw [show ((0, r, M') : Nat × Int32 × zM) = (0, o.1, o.2) by rw [ho]]
  show zV false l RX5 cX5_init 1 none true 1 5 1500 D T zE0 b gr M.2.2.2 (0, o.1, o.2) 0 0 0 [(0, zr b x0)] [] M
  unfold fX5_init at h
  refine zV_aload_n (j := 0) dX5_init_0 rfl rfl ?_
  obtain ⟨g1, h⟩ := zg_of h
  refine zV_objInit zl_RX5_3 zi_obj zm_obj (by decide) g1 (zcs trivial (Nat.le_of_ble_eq_true rfl)) dX5_init_1 ?_
  refine zV_aload_n (j := 0) dX5_init_4 rfl rfl ?_
  refine zV_sipush (v := 300) dX5_init_5 (by decide) ?_
  refine zV_newa_int (n := 300) hgr zar_int (by decide) (by decide) (by decide) (Nat.le_of_ble_eq_true rfl) (Nat.le_of_ble_eq_true rfl) dX5_init_8 ?_
  refine zV_mem (fun M4 e5 => ?_)
  replace h := zlet_of h e5
  refine zV_topr (fun u2 e3 => ?_)
  replace h := zlet_of h e3
  obtain ⟨g6, h⟩ := zg_of h
  refine zV_putRF zf_RX5_9 dX5_init_10 rfl rfl rfl zfl_RX5_9 rfl g6 ?_
  refine zV_mem (fun M7 e8 => ?_)
  replace h := zlet_of h e8
  refine zV_aload_n (j := 0) dX5_init_13 rfl rfl ?_
  refine zV_sipush (v := 300) dX5_init_14 (by decide) ?_
  refine zV_newa_int (n := 300) hgr zar_int (by decide) (by decide) (by decide) (Nat.le_of_ble_eq_true rfl) (Nat.le_of_ble_eq_true rfl) dX5_init_17 ?_
  refine zV_mem (fun M11 e12 => ?_)
  replace h := zlet_of h e12
  refine zV_topr (fun u9 e10 => ?_)
  replace h := zlet_of h e10
  refine zV_putRF zf_RX5_15 dX5_init_19 rfl rfl rfl zfl_RX5_15 rfl (zkN e12 (zkR e8 g6)) ?_
  refine zV_mem (fun M13 e14 => ?_)
  replace h := zlet_of h e14
  refine zV_aload_n (j := 0) dX5_init_22 rfl rfl ?_
  refine zV_sipush (v := 300) dX5_init_23 (by decide) ?_
  refine zV_newa_char (n := 300) hgr zar_char (by decide) (by decide) (by decide) (Nat.le_of_ble_eq_true rfl) (Nat.le_of_ble_eq_true rfl) dX5_init_26 ?_
  refine zV_mem (fun M17 e18 => ?_)
  replace h := zlet_of h e18
  refine zV_topr (fun u15 e16 => ?_)
  replace h := zlet_of h e16
  refine zV_putRF zf_RX5_18 dX5_init_28 rfl rfl rfl zfl_RX5_18 rfl (zkN e18 (zkR e14 (zkN e12 (zkR e8 g6)))) ?_
  refine zV_mem (fun M19 e20 => ?_)
  replace h := zlet_of h e20
  refine zV_aload_n (j := 0) dX5_init_31 rfl rfl ?_
  refine zV_sipush (v := 300) dX5_init_32 (by decide) ?_
  refine zV_newa_int (n := 300) hgr zar_int (by decide) (by decide) (by decide) (Nat.le_of_ble_eq_true rfl) (Nat.le_of_ble_eq_true rfl) dX5_init_35 ?_
  refine zV_mem (fun M23 e24 => ?_)
  replace h := zlet_of h e24
  refine zV_topr (fun u21 e22 => ?_)
  replace h := zlet_of h e22
  refine zV_putRF zf_RX5_22 dX5_init_37 rfl rfl rfl zfl_RX5_22 rfl (zkN e24 (zkR e20 (zkN e18 (zkR e14 (zkN e12 (zkR e8 g6)))))) ?_
  refine zV_mem (fun M25 e26 => ?_)
  replace h := zlet_of h e26
  refine zV_aload_n (j := 0) dX5_init_40 rfl rfl ?_
  refine zV_sipush (v := 300) dX5_init_41 (by decide) ?_
  refine zV_newa_bool (n := 300) hgr zar_boolean (by decide) (by decide) (by decide) (Nat.le_of_ble_eq_true rfl) (Nat.le_of_ble_eq_true rfl) dX5_init_44 ?_
  refine zV_mem (fun M29 e30 => ?_)
  replace h := zlet_of h e30
  refine zV_topr (fun u27 e28 => ?_)
  replace h := zlet_of h e28
  refine zV_putRF zf_RX5_25 dX5_init_46 rfl rfl rfl zfl_RX5_25 rfl (zkN e30 (zkR e26 (zkN e24 (zkR e20 (zkN e18 (zkR e14 (zkN e12 (zkR e8 g6)))))))) ?_
  refine zV_mem (fun M31 e32 => ?_)
  replace h := zlet_of h e32
  exact zV_vret (x := 0) rfl dX5_init_49 (Nat.le_of_ble_eq_true rfl) (Nat.le_of_ble_eq_true rfl) (z_ret h)
set_option maxHeartbeats 4000000 in
set_option maxRecDepth 100000 in
theorem vX3_init (l : Launch) (D : va_G) (T : Nat → ClassId) (b : Nat) (gr : Bool) (hgr : gr = true) (x0 : Nat) (x1 : Int32) (M : zM) (r : Int32) (M' : zM) (h : fX3_init x0 x1 M = some (r, M')) : zMet l D T b gr yX3_init cX3_init 2 none 1 2 (2 * x1.toNatClampNeg) [zr b x0, .int x1] M (0, r, M') := by
  refine zEntry2 (ev := zE0) rfl true (fun _ => rfl) zp_yX3_init ⟨zr_cat _ _, rfl, trivial⟩ (Nat.le_of_ble_eq_true rfl) ?_
  obtain ⟨o, ho⟩ : ∃ o : Int32 × zM, o = (r, M') := ⟨_, rfl⟩
  rw [← ho] at h
  rw [show ((0, r, M') : Nat × Int32 × zM) = (0, o.1, o.2) by rw [ho]]
  show zV false l RX3 cX3_init 2 none true 1 2 (2 * x1.toNatClampNeg) D T zE0 b gr M.2.2.2 (0, o.1, o.2) 0 0 0 [(0, zr b x0), (1, .int x1)] [] M
  unfold fX3_init at h
  refine zV_aload_n (j := 0) dX3_init_0 rfl rfl ?_
  obtain ⟨g1, h⟩ := zg_of h
  refine zV_objInit zl_RX3_3 zi_obj zm_obj (by decide) g1 (zcs trivial (Nat.le_of_ble_eq_true rfl)) dX3_init_1 ?_
  refine zV_aload_n (j := 0) dX3_init_4 rfl rfl ?_
  refine zV_iload_n (j := 1) dX3_init_5 rfl rfl ?_
  obtain ⟨g2, h⟩ := zg_of h
  obtain ⟨g3, h⟩ := zg_of h
  refine zV_newa_int (n := x1.toNatClampNeg) hgr zar_int g3.1 rfl g3.2 g2.1 g2.2 dX3_init_6 ?_
  refine zV_mem (fun M6 e7 => ?_)
  replace h := zlet_of h e7
  refine zV_topr (fun u4 e5 => ?_)
  replace h := zlet_of h e5
  obtain ⟨g8, h⟩ := zg_of h
  refine zV_putRF zf_RX3_9 dX3_init_8 rfl rfl rfl zfl_RX3_9 rfl g8 ?_
  refine zV_mem (fun M9 e10 => ?_)
  replace h := zlet_of h e10
  refine zV_aload_n (j := 0) dX3_init_11 rfl rfl ?_
  refine zV_iload_n (j := 1) dX3_init_12 rfl rfl ?_
  obtain ⟨g11, h⟩ := zg_of h
  obtain ⟨g12, h⟩ := zg_of h
  refine zV_newa_int (n := x1.toNatClampNeg) hgr zar_int g12.1 rfl g12.2 g11.1 g11.2 dX3_init_13 ?_
  refine zV_mem (fun M15 e16 => ?_)
  replace h := zlet_of h e16
  refine zV_topr (fun u13 e14 => ?_)
  replace h := zlet_of h e14
  refine zV_putRF zf_RX3_15 dX3_init_15 rfl rfl rfl zfl_RX3_15 rfl (zkN e16 (zkR e10 g8)) ?_
  refine zV_mem (fun M17 e18 => ?_)
  replace h := zlet_of h e18
  obtain ⟨g19, h⟩ := zg_of h
  exact zV_vret (x := 0) rfl dX3_init_18 g19.1 g19.2 (z_ret h)
set_option maxHeartbeats 4000000 in
set_option maxRecDepth 100000 in
theorem vX4_init (l : Launch) (D : va_G) (T : Nat → ClassId) (b : Nat) (gr : Bool) (hgr : gr = true) (x0 : Nat) (x1 : Nat) (M : zM) (r : Int32) (M' : zM) (h : fX4_init x0 x1 M = some (r, M')) : zMet l D T b gr yX4_init cX4_init 2 none 1 2 40 [zr b x0, zr b x1] M (0, r, M') := by
  refine zEntry2 (ev := zE0) rfl true (fun _ => rfl) zp_yX4_init ⟨zr_cat _ _, zr_cat _ _, trivial⟩ (Nat.le_of_ble_eq_true rfl) ?_
  obtain ⟨o, ho⟩ : ∃ o : Int32 × zM, o = (r, M') := ⟨_, rfl⟩
  rw [← ho] at h
  rw [show ((0, r, M') : Nat × Int32 × zM) = (0, o.1, o.2) by rw [ho]]
  show zV false l RX4 cX4_init 2 none true 1 2 40 D T zE0 b gr M.2.2.2 (0, o.1, o.2) 0 0 0 [(0, zr b x0), (1, zr b x1)] [] M
  unfold fX4_init at h
  refine zV_aload_n (j := 0) dX4_init_0 rfl rfl ?_
  obtain ⟨g1, h⟩ := zg_of h
  refine zV_objInit zl_RX4_3 zi_obj zm_obj (by decide) g1 (zcs trivial (Nat.le_of_ble_eq_true rfl)) dX4_init_1 ?_
  refine zV_aload_n (j := 0) dX4_init_4 rfl rfl ?_
  refine zV_bipush (v := 20) dX4_init_5 (by decide) ?_
  refine zV_newa_int (n := 20) hgr zar_int (by decide) (by decide) (by decide) (Nat.le_of_ble_eq_true rfl) (Nat.le_of_ble_eq_true rfl) dX4_init_7 ?_
  refine zV_mem (fun M4 e5 => ?_)
  replace h := zlet_of h e5
  refine zV_topr (fun u2 e3 => ?_)
  replace h := zlet_of h e3
  obtain ⟨g6, h⟩ := zg_of h
  refine zV_putRF zf_RX4_9 dX4_init_9 rfl rfl rfl zfl_RX4_9 rfl g6 ?_
  refine zV_mem (fun M7 e8 => ?_)
  replace h := zlet_of h e8
  refine zV_aload_n (j := 0) dX4_init_12 rfl rfl ?_
  refine zV_bipush (v := 20) dX4_init_13 (by decide) ?_
  refine zV_newa_int (n := 20) hgr zar_int (by decide) (by decide) (by decide) (Nat.le_of_ble_eq_true rfl) (Nat.le_of_ble_eq_true rfl) dX4_init_15 ?_
  refine zV_mem (fun M11 e12 => ?_)
  replace h := zlet_of h e12
  refine zV_topr (fun u9 e10 => ?_)
  replace h := zlet_of h e10
  refine zV_putRF zf_RX4_15 dX4_init_17 rfl rfl rfl zfl_RX4_15 rfl (zkN e12 (zkR e8 g6)) ?_
  refine zV_mem (fun M13 e14 => ?_)
  replace h := zlet_of h e14
  refine zV_aload_n (j := 0) dX4_init_20 rfl rfl ?_
  refine zV_iconst (v := (-1)) dX4_init_21 (by decide) ?_
  refine zV_putI zf_RX4_18 dX4_init_22 rfl rfl (zkR e14 (zkN e12 (zkR e8 g6))) ?_
  refine zV_mem (fun M15 e16 => ?_)
  replace h := zlet_of h e16
  refine zV_aload_n (j := 0) dX4_init_25 rfl rfl ?_
  refine zV_aload_n (j := 1) dX4_init_26 rfl rfl ?_
  refine zV_putRF zf_RX4_22 dX4_init_27 rfl rfl rfl zfl_RX4_22 rfl (zkI e16 (zkR e14 (zkN e12 (zkR e8 g6)))) ?_
  refine zV_mem (fun M17 e18 => ?_)
  replace h := zlet_of h e18
  exact zV_vret (x := 0) rfl dX4_init_30 (Nat.le_of_ble_eq_true rfl) (Nat.le_of_ble_eq_true rfl) (z_ret h)
set_option maxHeartbeats 4000000 in
set_option maxRecDepth 100000 in
theorem vX2_init_116 {l : Launch} {D : va_G} {T : Nat → ClassId} {b : Nat} {gr : Bool} {n0 : Nat} (hgr : gr = true) : ∀ (n : Nat) (x0 : Nat) (x1 : Nat) (x5 : Int32) (cc ss : Nat) (M : zM) (o : Int32 × zM), fX2_init_116 n x0 x1 x5 cc ss M = some o → zV false l RX2 cX2_init 6 none true 2 384 18351 D T zE0 b gr n0 (0, o.1, o.2) cc ss 116 [(0, zr b x0), (1, zr b x1), (5, .int x5)] [] M := by
  intro n
  induction n with
  | zero =>
    intro x0 x1 x5 cc ss M o h
    rw [fX2_init_116] at h
    cases h
  | succ n ih =>
    intro x0 x1 x5 cc ss M o h
    rw [fX2_init_116] at h
    refine zV_iload (j := 2) dX2_init_116 rfl ?_
    refine zV_bipush (v := 60) dX2_init_118 (by decide) ?_
    refine zV_icmp_gt (tgt := 159) dX2_init_120 (by decide) (fun c1 => ?_) (fun c1 => ?_)
    · replace h := z_t c1 h
      obtain ⟨g2, h⟩ := zg_of h
      exact zV_vret (x := 0) rfl dX2_init_159 g2.1 g2.2 (z_ret h)
    · replace h := z_f c1 h
      refine zV_aload_n (j := 0) dX2_init_123 rfl rfl ?_
      obtain ⟨g3, h⟩ := zg_of h
      refine zV_getR zf_RX2_39 dX2_init_124 rfl g3 ?_
      refine zV_iload (j := 2) dX2_init_127 rfl ?_
      obtain ⟨g4, h⟩ := zg_of h
      refine zV_new (ci := 4) zcI4 hgr zcU4 zcT4 zcD4 zk_RX2_37 zcV4 zcK4 g4.1 g4.2 dX2_init_129 ?_
      refine zV_mem (fun M7 e8 => ?_)
      replace h := zlet_of h e8
      refine zV_topr (fun u5 e6 => ?_)
      replace h := zlet_of h e6
      refine zV_dup dX2_init_132 (zr_cat _ _) ?_
      refine zV_aload_n (j := 1) dX2_init_133 rfl rfl ?_
      obtain ⟨g9, h⟩ := zg_of h
      obtain ⟨g13, h⟩ := zg_of h
      obtain ⟨r10, M11, q12, h⟩ := zb_of h
      refine zV_callIv (As := [zr b x1]) (rest := [zr b u5, .int x5, zr b (zR M x0 12)]) (vX4_init l D T b gr hgr u5 x1 M7 _ _ q12) zm_yX4_init zl_RX2_63 zi_yX4_init rfl g9 rfl rfl (zcs ⟨zr_cat _ _, rfl, zr_cat _ _, trivial⟩ (Nat.le_of_ble_eq_true rfl)) (by decide) g13.1 g13.2 dX2_init_134 ?_
      obtain ⟨g14, h⟩ := zg_of h
      obtain ⟨g15, h⟩ := zg_of h
      obtain ⟨g16, h⟩ := zg_of h
      refine zV_aast 112 6 dX2_init_137 g14 ⟨by decide, by decide⟩ rfl zcI4 g15 g16 ?_
      refine zV_mem (fun M17 e18 => ?_)
      replace h := zlet_of h e18
      refine zV_aload_n (j := 0) dX2_init_138 rfl rfl ?_
      obtain ⟨g19, h⟩ := zg_of h
      refine zV_getR zf_RX2_43 dX2_init_139 rfl g19 ?_
      refine zV_iload (j := 2) dX2_init_142 rfl ?_
      obtain ⟨g20, h⟩ := zg_of h
      refine zV_new (ci := 4) zcI4 hgr zcU4 zcT4 zcD4 zk_RX2_37 zcV4 zcK4 g20.1 g20.2 dX2_init_144 ?_
      refine zV_mem (fun M23 e24 => ?_)
      replace h := zlet_of h e24
      refine zV_topr (fun u21 e22 => ?_)
      replace h := zlet_of h e22
      refine zV_dup dX2_init_147 (zr_cat _ _) ?_
      refine zV_aload_n (j := 1) dX2_init_148 rfl rfl ?_
      obtain ⟨g25, h⟩ := zg_of h
      obtain ⟨g29, h⟩ := zg_of h
      obtain ⟨r26, M27, q28, h⟩ := zb_of h
      refine zV_callIv (As := [zr b x1]) (rest := [zr b u21, .int x5, zr b (zR M17 x0 13)]) (vX4_init l D T b gr hgr u21 x1 M23 _ _ q28) zm_yX4_init zl_RX2_63 zi_yX4_init rfl g25 rfl rfl (zcs ⟨zr_cat _ _, rfl, zr_cat _ _, trivial⟩ (Nat.le_of_ble_eq_true rfl)) (by decide) g29.1 g29.2 dX2_init_149 ?_
      obtain ⟨g30, h⟩ := zg_of h
      obtain ⟨g31, h⟩ := zg_of h
      obtain ⟨g32, h⟩ := zg_of h
      refine zV_aast 112 6 dX2_init_152 g30 ⟨by decide, by decide⟩ rfl zcI4 g31 g32 ?_
      refine zV_mem (fun M33 e34 => ?_)
      replace h := zlet_of h e34
      obtain ⟨u35, e36⟩ : ∃ y : Int32, y = x5 + 1 := ⟨_, rfl⟩
      replace h := zlet_of h e36
      refine zV_iinc (j := 2) (v := u35) [(5, .int u35), (0, zr b x0), (1, zr b x1)] dX2_init_153 rfl (by rw [e36]; rfl) (by decide) rfl rfl ?_
      refine zV_goto (tgt := 116) dX2_init_156 (by decide) ?_
      refine zV_pk [1, 2, 0] rfl ?_
      exact ih x0 x1 u35 ((((cc + 1) + 2) + 1) + 2) ((((ss + 6) + 40) + 6) + 40) M33 _ h
set_option maxHeartbeats 4000000 in
set_option maxRecDepth 100000 in
theorem vX2_init (l : Launch) (D : va_G) (T : Nat → ClassId) (b : Nat) (gr : Bool) (hgr : gr = true) (x0 : Nat) (x1 : Nat) (x2 : Nat) (x3 : Nat) (x4 : Nat) (M : zM) (r : Int32) (M' : zM) (h : fX2_init x0 x1 x2 x3 x4 M = some (r, M')) : zMet l D T b gr yX2_init cX2_init 6 none 2 384 18351 [zr b x0, zr b x1, zr b x2, zr b x3, zr b x4] M (0, r, M') := by
  refine zEntry2 (ev := zE0) rfl true (fun _ => rfl) zp_yX2_init ⟨zr_cat _ _, zr_cat _ _, zr_cat _ _, zr_cat _ _, zr_cat _ _, trivial⟩ (Nat.le_of_ble_eq_true rfl) ?_
  obtain ⟨o, ho⟩ : ∃ o : Int32 × zM, o = (r, M') := ⟨_, rfl⟩
  rw [← ho] at h
  rw [show ((0, r, M') : Nat × Int32 × zM) = (0, o.1, o.2) by rw [ho]]
  show zV false l RX2 cX2_init 6 none true 2 384 18351 D T zE0 b gr M.2.2.2 (0, o.1, o.2) 0 0 0 [(0, zr b x0), (1, zr b x1), (2, zr b x2), (3, zr b x3), (4, zr b x4)] [] M
  unfold fX2_init at h
  refine zV_aload_n (j := 0) dX2_init_0 rfl rfl ?_
  obtain ⟨g37, h⟩ := zg_of h
  refine zV_objInit zl_RX2_3 zi_obj zm_obj (by decide) g37 (zcs trivial (Nat.le_of_ble_eq_true rfl)) dX2_init_1 ?_
  refine zV_aload_n (j := 0) dX2_init_4 rfl rfl ?_
  refine zV_new (ci := 5) zcI5 hgr zcU5 zcT5 zcD5 zk_RX2_9 zcV5 zcK5 (Nat.le_of_ble_eq_true rfl) (Nat.le_of_ble_eq_true rfl) dX2_init_5 ?_
  refine zV_mem (fun M40 e41 => ?_)
  replace h := zlet_of h e41
  refine zV_topr (fun u38 e39 => ?_)
  replace h := zlet_of h e39
  refine zV_dup dX2_init_8 (zr_cat _ _) ?_
  obtain ⟨g42, h⟩ := zg_of h
  obtain ⟨r43, M44, q45, h⟩ := zb_of h
  refine zV_callINv (As := []) (rest := [zr b u38, zr b x0]) (vX5_init l D T b gr hgr u38 M40 _ _ q45) zm_yX5_init zl_RX2_11 zi_yX5_init rfl g42 rfl rfl (zcs ⟨zr_cat _ _, zr_cat _ _, trivial⟩ (Nat.le_of_ble_eq_true rfl)) (by decide) (Nat.le_of_ble_eq_true rfl) (Nat.le_of_ble_eq_true rfl) dX2_init_9 ?_
  obtain ⟨g46, h⟩ := zg_of h
  refine zV_putRF zf_RX2_12 dX2_init_12 rfl rfl rfl zfl_RX2_12 rfl g46 ?_
  refine zV_mem (fun M47 e48 => ?_)
  replace h := zlet_of h e48
  refine zV_aload_n (j := 0) dX2_init_15 rfl rfl ?_
  refine zV_new (ci := 3) zcI3 hgr zcU3 zcT3 zcD3 zk_RX2_18 zcV3 zcK3 (Nat.le_of_ble_eq_true rfl) (Nat.le_of_ble_eq_true rfl) dX2_init_16 ?_
  refine zV_mem (fun M51 e52 => ?_)
  replace h := zlet_of h e52
  refine zV_topr (fun u49 e50 => ?_)
  replace h := zlet_of h e50
  refine zV_dup dX2_init_19 (zr_cat _ _) ?_
  refine zV_sipush (v := 600) dX2_init_20 (by decide) ?_
  obtain ⟨g53, h⟩ := zg_of h
  obtain ⟨r54, M55, q56, h⟩ := zb_of h
  refine zV_callIv (As := [.int 600]) (rest := [zr b u49, zr b x0]) (vX3_init l D T b gr hgr u49 600 M51 _ _ q56) zm_yX3_init zl_RX2_20 zi_yX3_init rfl g53 rfl rfl (zcs ⟨zr_cat _ _, zr_cat _ _, trivial⟩ (Nat.le_of_ble_eq_true rfl)) (by decide) (Nat.le_of_ble_eq_true rfl) (Nat.le_of_ble_eq_true rfl) dX2_init_23 ?_
  obtain ⟨g57, h⟩ := zg_of h
  refine zV_putRF zf_RX2_23 dX2_init_26 rfl rfl rfl zfl_RX2_23 rfl g57 ?_
  refine zV_mem (fun M58 e59 => ?_)
  replace h := zlet_of h e59
  refine zV_aload_n (j := 0) dX2_init_29 rfl rfl ?_
  refine zV_sipush (v := 4920) dX2_init_30 (by decide) ?_
  refine zV_newa_int (n := 4920) hgr zar_int (by decide) (by decide) (by decide) (Nat.le_of_ble_eq_true rfl) (Nat.le_of_ble_eq_true rfl) dX2_init_33 ?_
  refine zV_mem (fun M62 e63 => ?_)
  replace h := zlet_of h e63
  refine zV_topr (fun u60 e61 => ?_)
  replace h := zlet_of h e61
  refine zV_putRF zf_RX2_27 dX2_init_35 rfl rfl rfl zfl_RX2_27 rfl (zkN e63 (zkR e59 g57)) ?_
  refine zV_mem (fun M64 e65 => ?_)
  replace h := zlet_of h e65
  refine zV_aload_n (j := 0) dX2_init_38 rfl rfl ?_
  refine zV_sipush (v := 4920) dX2_init_39 (by decide) ?_
  refine zV_newa_int (n := 4920) hgr zar_int (by decide) (by decide) (by decide) (Nat.le_of_ble_eq_true rfl) (Nat.le_of_ble_eq_true rfl) dX2_init_42 ?_
  refine zV_mem (fun M68 e69 => ?_)
  replace h := zlet_of h e69
  refine zV_topr (fun u66 e67 => ?_)
  replace h := zlet_of h e67
  refine zV_putRF zf_RX2_31 dX2_init_44 rfl rfl rfl zfl_RX2_31 rfl (zkN e69 (zkR e65 (zkN e63 (zkR e59 g57)))) ?_
  refine zV_mem (fun M70 e71 => ?_)
  replace h := zlet_of h e71
  refine zV_aload_n (j := 0) dX2_init_47 rfl rfl ?_
  refine zV_bipush (v := 20) dX2_init_48 (by decide) ?_
  refine zV_newa_int (n := 20) hgr zar_int (by decide) (by decide) (by decide) (Nat.le_of_ble_eq_true rfl) (Nat.le_of_ble_eq_true rfl) dX2_init_50 ?_
  refine zV_mem (fun M74 e75 => ?_)
  replace h := zlet_of h e75
  refine zV_topr (fun u72 e73 => ?_)
  replace h := zlet_of h e73
  refine zV_putRF zf_RX2_34 dX2_init_52 rfl rfl rfl zfl_RX2_34 rfl (zkN e75 (zkR e71 (zkN e69 (zkR e65 (zkN e63 (zkR e59 g57)))))) ?_
  refine zV_mem (fun M76 e77 => ?_)
  replace h := zlet_of h e77
  refine zV_aload_n (j := 0) dX2_init_55 rfl rfl ?_
  refine zV_bipush (v := 61) dX2_init_56 (by decide) ?_
  refine zV_newq (n := 61) 112 6 ⟨by decide, by decide⟩ rfl hgr zk_RX2_37 (fun _ h9 => h9.2.2) (by decide) (by decide) (by decide) (Nat.le_of_ble_eq_true rfl) (Nat.le_of_ble_eq_true rfl) dX2_init_58 ?_
  refine zV_mem (fun M80 e81 => ?_)
  replace h := zlet_of h e81
  refine zV_topr (fun u78 e79 => ?_)
  replace h := zlet_of h e79
  refine zV_putR zf_RX2_39 dX2_init_61 rfl rfl (zkN e81 (zkR e77 (zkN e75 (zkR e71 (zkN e69 (zkR e65 (zkN e63 (zkR e59 g57)))))))) ?_
  refine zV_mem (fun M82 e83 => ?_)
  replace h := zlet_of h e83
  refine zV_aload_n (j := 0) dX2_init_64 rfl rfl ?_
  refine zV_bipush (v := 61) dX2_init_65 (by decide) ?_
  refine zV_newq (n := 61) 112 6 ⟨by decide, by decide⟩ rfl hgr zk_RX2_37 (fun _ h9 => h9.2.2) (by decide) (by decide) (by decide) (Nat.le_of_ble_eq_true rfl) (Nat.le_of_ble_eq_true rfl) dX2_init_67 ?_
  refine zV_mem (fun M86 e87 => ?_)
  replace h := zlet_of h e87
  refine zV_topr (fun u84 e85 => ?_)
  replace h := zlet_of h e85
  refine zV_putR zf_RX2_43 dX2_init_70 rfl rfl (zkN e87 (zkR e83 (zkN e81 (zkR e77 (zkN e75 (zkR e71 (zkN e69 (zkR e65 (zkN e63 (zkR e59 g57)))))))))) ?_
  refine zV_mem (fun M88 e89 => ?_)
  replace h := zlet_of h e89
  refine zV_aload_n (j := 0) dX2_init_73 rfl rfl ?_
  refine zV_iconst (v := 2) dX2_init_74 (by decide) ?_
  refine zV_newa_int (n := 2) hgr zar_int (by decide) (by decide) (by decide) (Nat.le_of_ble_eq_true rfl) (Nat.le_of_ble_eq_true rfl) dX2_init_75 ?_
  refine zV_mem (fun M92 e93 => ?_)
  replace h := zlet_of h e93
  refine zV_topr (fun u90 e91 => ?_)
  replace h := zlet_of h e91
  refine zV_putRF zf_RX2_46 dX2_init_77 rfl rfl rfl zfl_RX2_46 rfl (zkN e93 (zkR e89 (zkN e87 (zkR e83 (zkN e81 (zkR e77 (zkN e75 (zkR e71 (zkN e69 (zkR e65 (zkN e63 (zkR e59 g57)))))))))))) ?_
  refine zV_mem (fun M94 e95 => ?_)
  replace h := zlet_of h e95
  refine zV_aload_n (j := 0) dX2_init_80 rfl rfl ?_
  refine zV_aload_n (j := 1) dX2_init_81 rfl rfl ?_
  refine zV_putRF zf_RX2_49 dX2_init_82 rfl rfl rfl zfl_RX2_49 rfl (zkR e95 (zkN e93 (zkR e89 (zkN e87 (zkR e83 (zkN e81 (zkR e77 (zkN e75 (zkR e71 (zkN e69 (zkR e65 (zkN e63 (zkR e59 g57))))))))))))) ?_
  refine zV_mem (fun M96 e97 => ?_)
  replace h := zlet_of h e97
  refine zV_aload_n (j := 0) dX2_init_85 rfl rfl ?_
  refine zV_aload_n (j := 2) dX2_init_86 rfl rfl ?_
  refine zV_putRF zf_RX2_53 dX2_init_87 rfl rfl rfl zfl_RX2_53 rfl (zkR e97 (zkR e95 (zkN e93 (zkR e89 (zkN e87 (zkR e83 (zkN e81 (zkR e77 (zkN e75 (zkR e71 (zkN e69 (zkR e65 (zkN e63 (zkR e59 g57)))))))))))))) ?_
  refine zV_mem (fun M98 e99 => ?_)
  replace h := zlet_of h e99
  refine zV_aload_n (j := 0) dX2_init_90 rfl rfl ?_
  refine zV_aload_n (j := 3) dX2_init_91 rfl rfl ?_
  refine zV_putRF zf_RX2_56 dX2_init_92 rfl rfl rfl zfl_RX2_56 rfl (zkR e99 (zkR e97 (zkR e95 (zkN e93 (zkR e89 (zkN e87 (zkR e83 (zkN e81 (zkR e77 (zkN e75 (zkR e71 (zkN e69 (zkR e65 (zkN e63 (zkR e59 g57))))))))))))))) ?_
  refine zV_mem (fun M100 e101 => ?_)
  replace h := zlet_of h e101
  refine zV_aload_n (j := 0) dX2_init_95 rfl rfl ?_
  refine zV_aload (j := 4) dX2_init_96 rfl ?_
  refine zV_putRF zf_RX2_60 dX2_init_98 rfl rfl rfl zfl_RX2_60 rfl (zkR e101 (zkR e99 (zkR e97 (zkR e95 (zkN e93 (zkR e89 (zkN e87 (zkR e83 (zkN e81 (zkR e77 (zkN e75 (zkR e71 (zkN e69 (zkR e65 (zkN e63 (zkR e59 g57)))))))))))))))) ?_
  refine zV_mem (fun M102 e103 => ?_)
  replace h := zlet_of h e103
  refine zV_aload_n (j := 0) dX2_init_101 rfl rfl ?_
  refine zV_new (ci := 4) zcI4 hgr zcU4 zcT4 zcD4 zk_RX2_37 zcV4 zcK4 (Nat.le_of_ble_eq_true rfl) (Nat.le_of_ble_eq_true rfl) dX2_init_102 ?_
  refine zV_mem (fun M106 e107 => ?_)
  replace h := zlet_of h e107
  refine zV_topr (fun u104 e105 => ?_)
  replace h := zlet_of h e105
  refine zV_dup dX2_init_105 (zr_cat _ _) ?_
  refine zV_aload_n (j := 1) dX2_init_106 rfl rfl ?_
  obtain ⟨g108, h⟩ := zg_of h
  obtain ⟨r109, M110, q111, h⟩ := zb_of h
  refine zV_callIv (As := [zr b x1]) (rest := [zr b u104, zr b x0]) (vX4_init l D T b gr hgr u104 x1 M106 _ _ q111) zm_yX4_init zl_RX2_63 zi_yX4_init rfl g108 rfl rfl (zcs ⟨zr_cat _ _, zr_cat _ _, trivial⟩ (Nat.le_of_ble_eq_true rfl)) (by decide) (Nat.le_of_ble_eq_true rfl) (Nat.le_of_ble_eq_true rfl) dX2_init_107 ?_
  obtain ⟨g112, h⟩ := zg_of h
  refine zV_putRF zf_RX2_66 dX2_init_110 rfl rfl rfl zfl_RX2_66 rfl g112 ?_
  refine zV_mem (fun M113 e114 => ?_)
  replace h := zlet_of h e114
  refine zV_iconst (v := 0) dX2_init_113 (by decide) ?_
  refine zV_istore [(5, .int 0), (0, zr b x0), (1, zr b x1), (2, zr b x2), (3, zr b x3), (4, zr b x4)] dX2_init_114 (by decide) rfl rfl ?_
  refine zV_pk [1, 2, 0] rfl ?_
  exact vX2_init_116 hgr 10000 x0 x1 0 18 12739 M113 _ h
set_option maxHeartbeats 4000000 in
set_option maxRecDepth 100000 in
theorem vX4_restart (l : Launch) (D : va_G) (T : Nat → ClassId) (b : Nat) (gr : Bool) (x0 : Nat) (M : zM) (r : Int32) (M' : zM) (h : fX4_restart x0 M = some (r, M')) : zMet l D T b gr yX4_restart cX4_restart 1 none 0 0 0 [zr b x0] M (0, r, M') := by
  refine zEntry2 (ev := zE0) rfl false (fun h9 => nomatch h9) zp_yX4_restart ⟨zr_cat _ _, trivial⟩ (Nat.le_of_ble_eq_true rfl) ?_
  obtain ⟨o, ho⟩ : ∃ o : Int32 × zM, o = (r, M') := ⟨_, rfl⟩
  rw [← ho] at h
  rw [show ((0, r, M') : Nat × Int32 × zM) = (0, o.1, o.2) by rw [ho]]
  show zV false l RX4 cX4_restart 1 none false 0 0 0 D T zE0 b gr M.2.2.2 (0, o.1, o.2) 0 0 0 [(0, zr b x0)] [] M
  unfold fX4_restart at h
  refine zV_aload_n (j := 0) dX4_restart_0 rfl rfl ?_
  refine zV_iconst (v := 0) dX4_restart_1 (by decide) ?_
  obtain ⟨g1, h⟩ := zg_of h
  refine zV_putI zf_RX4_26 dX4_restart_2 rfl rfl g1 ?_
  refine zV_mem (fun M2 e3 => ?_)
  replace h := zlet_of h e3
  refine zV_aload_n (j := 0) dX4_restart_5 rfl rfl ?_
  refine zV_iconst (v := (-1)) dX4_restart_6 (by decide) ?_
  refine zV_putI zf_RX4_18 dX4_restart_7 rfl rfl (zkI e3 g1) ?_
  refine zV_mem (fun M4 e5 => ?_)
  replace h := zlet_of h e5
  refine zV_aload_n (j := 0) dX4_restart_10 rfl rfl ?_
  refine zV_iconst (v := 0) dX4_restart_11 (by decide) ?_
  refine zV_putI zf_RX4_29 dX4_restart_12 rfl rfl (zkI e5 (zkI e3 g1)) ?_
  refine zV_mem (fun M6 e7 => ?_)
  replace h := zlet_of h e7
  exact zV_vret (x := 0) rfl dX4_restart_15 (by decide) (by decide) (z_ret h)
set_option maxHeartbeats 4000000 in
set_option maxRecDepth 100000 in
theorem vX4_copyFrom_26 {l : Launch} {D : va_G} {T : Nat → ClassId} {b : Nat} {gr : Bool} {n0 : Nat} : ∀ (n : Nat) (x0 : Nat) (x1 : Nat) (x2 : Int32) (M : zM) (o : Int32 × zM), fX4_copyFrom_26 n x0 x1 x2 M = some o → zV false l RX4 cX4_copyFrom 3 none false 0 0 0 D T zE0 b gr n0 (0, o.1, o.2) 0 0 26 [(0, zr b x0), (1, zr b x1), (2, .int x2)] [] M := by
  intro n
  induction n with
  | zero =>
    intro x0 x1 x2 M o h
    rw [fX4_copyFrom_26] at h
    cases h
  | succ n ih =>
    intro x0 x1 x2 M o h
    rw [fX4_copyFrom_26] at h
    refine zV_iload_n (j := 2) dX4_copyFrom_26 rfl rfl ?_
    refine zV_aload_n (j := 0) dX4_copyFrom_27 rfl rfl ?_
    obtain ⟨g1, h⟩ := zg_of h
    refine zV_getI zf_RX4_26 dX4_copyFrom_28 rfl g1 ?_
    refine zV_icmp_ge (tgt := 64) dX4_copyFrom_31 (by decide) (fun c2 => ?_) (fun c2 => ?_)
    · replace h := z_t c2 h
      exact zV_vret (x := 0) rfl dX4_copyFrom_64 (by decide) (by decide) (z_ret h)
    · replace h := z_f c2 h
      refine zV_aload_n (j := 0) dX4_copyFrom_34 rfl rfl ?_
      refine zV_getR zf_RX4_9 dX4_copyFrom_35 rfl g1 ?_
      refine zV_iload_n (j := 2) dX4_copyFrom_38 rfl rfl ?_
      refine zV_aload_n (j := 1) dX4_copyFrom_39 rfl rfl ?_
      obtain ⟨g3, h⟩ := zg_of h
      refine zV_getR zf_RX4_9 dX4_copyFrom_40 rfl g3 ?_
      refine zV_iload_n (j := 2) dX4_copyFrom_43 rfl rfl ?_
      obtain ⟨g4, h⟩ := zg_of h
      obtain ⟨g5, h⟩ := zg_of h
      refine zV_iald dX4_copyFrom_44 g4 g5 ?_
      obtain ⟨g6, h⟩ := zg_of h
      obtain ⟨g7, h⟩ := zg_of h
      refine zV_iast dX4_copyFrom_45 g6 g7 ?_
      refine zV_mem (fun M8 e9 => ?_)
      replace h := zlet_of h e9
      refine zV_aload_n (j := 0) dX4_copyFrom_46 rfl rfl ?_
      refine zV_getR zf_RX4_15 dX4_copyFrom_47 rfl (zkI e9 g1) ?_
      refine zV_iload_n (j := 2) dX4_copyFrom_50 rfl rfl ?_
      refine zV_aload_n (j := 1) dX4_copyFrom_51 rfl rfl ?_
      refine zV_getR zf_RX4_15 dX4_copyFrom_52 rfl (zkI e9 g3) ?_
      refine zV_iload_n (j := 2) dX4_copyFrom_55 rfl rfl ?_
      obtain ⟨g10, h⟩ := zg_of h
      obtain ⟨g11, h⟩ := zg_of h
      refine zV_iald dX4_copyFrom_56 g10 g11 ?_
      obtain ⟨g12, h⟩ := zg_of h
      obtain ⟨g13, h⟩ := zg_of h
      refine zV_iast dX4_copyFrom_57 g12 g13 ?_
      refine zV_mem (fun M14 e15 => ?_)
      replace h := zlet_of h e15
      obtain ⟨u16, e17⟩ : ∃ y : Int32, y = x2 + 1 := ⟨_, rfl⟩
      replace h := zlet_of h e17
      refine zV_iinc (j := 2) (v := u16) [(2, .int u16), (0, zr b x0), (1, zr b x1)] dX4_copyFrom_58 rfl (by rw [e17]; rfl) (by decide) rfl rfl ?_
      refine zV_goto (tgt := 26) dX4_copyFrom_61 (by decide) ?_
      refine zV_pk [1, 2, 0] rfl ?_
      exact ih x0 x1 u16 M14 _ h
set_option maxHeartbeats 4000000 in
set_option maxRecDepth 100000 in
theorem vX4_copyFrom (l : Launch) (D : va_G) (T : Nat → ClassId) (b : Nat) (gr : Bool) (x0 : Nat) (x1 : Nat) (M : zM) (r : Int32) (M' : zM) (h : fX4_copyFrom x0 x1 M = some (r, M')) : zMet l D T b gr yX4_copyFrom cX4_copyFrom 3 none 0 0 0 [zr b x0, zr b x1] M (0, r, M') := by
  refine zEntry2 (ev := zE0) rfl false (fun h9 => nomatch h9) zp_yX4_copyFrom ⟨zr_cat _ _, zr_cat _ _, trivial⟩ (Nat.le_of_ble_eq_true rfl) ?_
  obtain ⟨o, ho⟩ : ∃ o : Int32 × zM, o = (r, M') := ⟨_, rfl⟩
  rw [← ho] at h
  rw [show ((0, r, M') : Nat × Int32 × zM) = (0, o.1, o.2) by rw [ho]]
  show zV false l RX4 cX4_copyFrom 3 none false 0 0 0 D T zE0 b gr M.2.2.2 (0, o.1, o.2) 0 0 0 [(0, zr b x0), (1, zr b x1)] [] M
  unfold fX4_copyFrom at h
  refine zV_aload_n (j := 0) dX4_copyFrom_0 rfl rfl ?_
  refine zV_aload_n (j := 1) dX4_copyFrom_1 rfl rfl ?_
  obtain ⟨g18, h⟩ := zg_of h
  refine zV_getI zf_RX4_26 dX4_copyFrom_2 rfl g18 ?_
  obtain ⟨g19, h⟩ := zg_of h
  refine zV_putI zf_RX4_26 dX4_copyFrom_5 rfl rfl g19 ?_
  refine zV_mem (fun M20 e21 => ?_)
  replace h := zlet_of h e21
  refine zV_aload_n (j := 0) dX4_copyFrom_8 rfl rfl ?_
  refine zV_aload_n (j := 1) dX4_copyFrom_9 rfl rfl ?_
  refine zV_getI zf_RX4_18 dX4_copyFrom_10 rfl (zkI e21 g18) ?_
  refine zV_putI zf_RX4_18 dX4_copyFrom_13 rfl rfl (zkI e21 g19) ?_
  refine zV_mem (fun M22 e23 => ?_)
  replace h := zlet_of h e23
  refine zV_aload_n (j := 0) dX4_copyFrom_16 rfl rfl ?_
  refine zV_aload_n (j := 1) dX4_copyFrom_17 rfl rfl ?_
  refine zV_getI zf_RX4_29 dX4_copyFrom_18 rfl (zkI e23 (zkI e21 g18)) ?_
  refine zV_putI zf_RX4_29 dX4_copyFrom_21 rfl rfl (zkI e23 (zkI e21 g19)) ?_
  refine zV_mem (fun M24 e25 => ?_)
  replace h := zlet_of h e25
  refine zV_iconst (v := 0) dX4_copyFrom_24 (by decide) ?_
  refine zV_istore_n [(2, .int 0), (0, zr b x0), (1, zr b x1)] dX4_copyFrom_25 rfl (by decide) rfl rfl ?_
  refine zV_pk [1, 2, 0] rfl ?_
  exact vX4_copyFrom_26 10000 x0 x1 0 M24 _ h
set_option maxHeartbeats 4000000 in
set_option maxRecDepth 100000 in
theorem vX2_plainLetter (l : Launch) (D : va_G) (T : Nat → ClassId) (b : Nat) (gr : Bool) (x0 : Int32) (x1 : Int32) (M : zM) (r : Int32) (M' : zM) (h : fX2_plainLetter x0 x1 M = some (r, M')) : zMet l D T b gr yX2_plainLetter cX2_plainLetter 2 (some .char) 0 0 0 [.int x0, .int x1] M (0, r, M') := by
  refine zEntry2 (ev := zE0) rfl false (fun h9 => nomatch h9) zp_yX2_plainLetter ⟨rfl, rfl, trivial⟩ (Nat.le_of_ble_eq_true rfl) ?_
  obtain ⟨o, ho⟩ : ∃ o : Int32 × zM, o = (r, M') := ⟨_, rfl⟩
  rw [← ho] at h
  rw [show ((0, r, M') : Nat × Int32 × zM) = (0, o.1, o.2) by rw [ho]]
  show zV false l RX2 cX2_plainLetter 2 (some .char) false 0 0 0 D T zE0 b gr M.2.2.2 (0, o.1, o.2) 0 0 0 [(0, .int x0), (1, .int x1)] [] M
  unfold fX2_plainLetter at h
  refine zV_iload_n (j := 0) dX2_plainLetter_0 rfl rfl ?_
  refine zV_iconst (v := 4) dX2_plainLetter_1 (by decide) ?_
  refine zV_icmp_ne (tgt := 10) dX2_plainLetter_2 (by decide) (fun c1 => ?_) (fun c1 => ?_)
  · replace h := z_f c1 h
    refine zV_iload_n (j := 0) dX2_plainLetter_10 rfl rfl ?_
    refine zV_iconst (v := 5) dX2_plainLetter_11 (by decide) ?_
    refine zV_icmp_ne (tgt := 20) dX2_plainLetter_12 (by decide) (fun c2 => ?_) (fun c2 => ?_)
    · replace h := z_f c2 h
      refine zV_bipush (v := 42) dX2_plainLetter_20 (by decide) ?_
      obtain ⟨g3, h⟩ := zg_of h
      exact zV_cret rfl dX2_plainLetter_22 (by decide) (by decide) g3 (z_ret h)
    · replace h := z_t c2 h
      refine zV_bipush (v := 32) dX2_plainLetter_15 (by decide) ?_
      refine zV_goto (tgt := 22) dX2_plainLetter_17 (by decide) ?_
      obtain ⟨g4, h⟩ := zg_of h
      exact zV_cret rfl dX2_plainLetter_22 (by decide) (by decide) g4 (z_ret h)
  · replace h := z_t c1 h
    refine zV_iload_n (j := 1) dX2_plainLetter_5 rfl rfl ?_
    refine zV_i2c dX2_plainLetter_6 ?_
    refine zV_goto (tgt := 22) dX2_plainLetter_7 (by decide) ?_
    obtain ⟨g5, h⟩ := zg_of h
    exact zV_cret rfl dX2_plainLetter_22 (by decide) (by decide) g5 (z_ret h)
set_option maxHeartbeats 4000000 in
set_option maxRecDepth 100000 in
theorem vX2_addError (l : Launch) (D : va_G) (T : Nat → ClassId) (b : Nat) (gr : Bool) (x0 : Nat) (x1 : Int32) (M : zM) (r : Int32) (M' : zM) (h : fX2_addError x0 x1 M = some (r, M')) : zMet l D T b gr yX2_addError cX2_addError 2 none 0 0 0 [zr b x0, .int x1] M (0, r, M') := by
  refine zEntry2 (ev := zE0) rfl false (fun h9 => nomatch h9) zp_yX2_addError ⟨zr_cat _ _, rfl, trivial⟩ (Nat.le_of_ble_eq_true rfl) ?_
  obtain ⟨o, ho⟩ : ∃ o : Int32 × zM, o = (r, M') := ⟨_, rfl⟩
  rw [← ho] at h
  rw [show ((0, r, M') : Nat × Int32 × zM) = (0, o.1, o.2) by rw [ho]]
  show zV false l RX2 cX2_addError 2 none false 0 0 0 D T zE0 b gr M.2.2.2 (0, o.1, o.2) 0 0 0 [(0, zr b x0), (1, .int x1)] [] M
  unfold fX2_addError at h
  refine zV_aload_n (j := 0) dX2_addError_0 rfl rfl ?_
  obtain ⟨g1, h⟩ := zg_of h
  refine zV_getI zf_RX2_78 dX2_addError_1 rfl g1 ?_
  refine zV_sipush (v := 4920) dX2_addError_4 (by decide) ?_
  refine zV_icmp_ge (tgt := 43) dX2_addError_7 (by decide) (fun c2 => ?_) (fun c2 => ?_)
  · replace h := z_t c2 h
    exact zV_vret (x := 0) rfl dX2_addError_43 (by decide) (by decide) (z_ret h)
  · replace h := z_f c2 h
    refine zV_aload_n (j := 0) dX2_addError_10 rfl rfl ?_
    refine zV_getR zf_RX2_27 dX2_addError_11 rfl g1 ?_
    refine zV_aload_n (j := 0) dX2_addError_14 rfl rfl ?_
    refine zV_getI zf_RX2_78 dX2_addError_15 rfl g1 ?_
    refine zV_iload_n (j := 1) dX2_addError_18 rfl rfl ?_
    obtain ⟨g3, h⟩ := zg_of h
    obtain ⟨g4, h⟩ := zg_of h
    refine zV_iast dX2_addError_19 g3 g4 ?_
    refine zV_mem (fun M5 e6 => ?_)
    replace h := zlet_of h e6
    refine zV_aload_n (j := 0) dX2_addError_20 rfl rfl ?_
    refine zV_getR zf_RX2_31 dX2_addError_21 rfl (zkI e6 g1) ?_
    refine zV_aload_n (j := 0) dX2_addError_24 rfl rfl ?_
    refine zV_getI zf_RX2_78 dX2_addError_25 rfl (zkI e6 g1) ?_
    refine zV_aload_n (j := 0) dX2_addError_28 rfl rfl ?_
    refine zV_getI zf_RX2_123 dX2_addError_29 rfl (zkI e6 g1) ?_
    obtain ⟨g7, h⟩ := zg_of h
    obtain ⟨g8, h⟩ := zg_of h
    refine zV_iast dX2_addError_32 g7 g8 ?_
    refine zV_mem (fun M9 e10 => ?_)
    replace h := zlet_of h e10
    refine zV_aload_n (j := 0) dX2_addError_33 rfl rfl ?_
    refine zV_dup dX2_addError_34 (zr_cat _ _) ?_
    refine zV_getI zf_RX2_78 dX2_addError_35 rfl (zkI e10 (zkI e6 g1)) ?_
    refine zV_iconst (v := 1) dX2_addError_38 (by decide) ?_
    refine zV_iadd dX2_addError_39 ?_
    refine zV_putI zf_RX2_78 dX2_addError_40 rfl rfl (zkI e10 (zkI e6 g1)) ?_
    refine zV_mem (fun M11 e12 => ?_)
    replace h := zlet_of h e12
    exact zV_vret (x := 0) rfl dX2_addError_43 (by decide) (by decide) (z_ret h)
set_option maxHeartbeats 4000000 in
set_option maxRecDepth 100000 in
theorem vX4_isExcluded_2 {l : Launch} {D : va_G} {T : Nat → ClassId} {b : Nat} {gr : Bool} {n0 : Nat} : ∀ (n : Nat) (x0 : Nat) (x1 : Int32) (x2 : Int32) (M : zM) (o : Int32 × zM), fX4_isExcluded_2 n x0 x1 x2 M = some o → zV false l RX4 cX4_isExcluded 3 (some .boolean) false 0 0 0 D T zE0 b gr n0 (0, o.1, o.2) 0 0 2 [(0, zr b x0), (1, .int x1), (2, .int x2)] [] M := by
  intro n
  induction n with
  | zero =>
    intro x0 x1 x2 M o h
    rw [fX4_isExcluded_2] at h
    cases h
  | succ n ih =>
    intro x0 x1 x2 M o h
    rw [fX4_isExcluded_2] at h
    refine zV_iload_n (j := 2) dX4_isExcluded_2 rfl rfl ?_
    refine zV_aload_n (j := 0) dX4_isExcluded_3 rfl rfl ?_
    obtain ⟨g1, h⟩ := zg_of h
    refine zV_getI zf_RX4_26 dX4_isExcluded_4 rfl g1 ?_
    refine zV_icmp_ge (tgt := 40) dX4_isExcluded_7 (by decide) (fun c2 => ?_) (fun c2 => ?_)
    · replace h := z_t c2 h
      refine zV_iconst (v := 0) dX4_isExcluded_40 (by decide) ?_
      exact zV_zret rfl dX4_isExcluded_41 (by decide) (by decide) (Or.inl rfl) (z_ret h)
    · replace h := z_f c2 h
      refine zV_aload_n (j := 0) dX4_isExcluded_10 rfl rfl ?_
      refine zV_getR zf_RX4_22 dX4_isExcluded_11 rfl g1 ?_
      obtain ⟨g3, h⟩ := zg_of h
      refine zV_getR zf_RX4_58 dX4_isExcluded_14 rfl g3 ?_
      refine zV_aload_n (j := 0) dX4_isExcluded_17 rfl rfl ?_
      refine zV_getR zf_RX4_9 dX4_isExcluded_18 rfl g1 ?_
      refine zV_iload_n (j := 2) dX4_isExcluded_21 rfl rfl ?_
      obtain ⟨g4, h⟩ := zg_of h
      obtain ⟨g5, h⟩ := zg_of h
      refine zV_iald dX4_isExcluded_22 g4 g5 ?_
      obtain ⟨g6, h⟩ := zg_of h
      obtain ⟨g7, h⟩ := zg_of h
      refine zV_iald dX4_isExcluded_23 g6 g7 ?_
      refine zV_iload_n (j := 1) dX4_isExcluded_24 rfl rfl ?_
      refine zV_ishr dX4_isExcluded_25 ?_
      refine zV_iconst (v := 1) dX4_isExcluded_26 (by decide) ?_
      refine zV_iand dX4_isExcluded_27 ?_
      refine zV_iconst (v := 1) dX4_isExcluded_28 (by decide) ?_
      refine zV_icmp_ne (tgt := 34) dX4_isExcluded_29 (by decide) (fun c8 => ?_) (fun c8 => ?_)
      · replace h := z_f c8 h
        obtain ⟨u9, e10⟩ : ∃ y : Int32, y = x2 + 1 := ⟨_, rfl⟩
        replace h := zlet_of h e10
        refine zV_iinc (j := 2) (v := u9) [(2, .int u9), (0, zr b x0), (1, .int x1)] dX4_isExcluded_34 rfl (by rw [e10]; rfl) (by decide) rfl rfl ?_
        refine zV_goto (tgt := 2) dX4_isExcluded_37 (by decide) ?_
        refine zV_pk [1, 2, 0] rfl ?_
        exact ih x0 x1 u9 M _ h
      · replace h := z_t c8 h
        refine zV_iconst (v := 1) dX4_isExcluded_32 (by decide) ?_
        exact zV_zret rfl dX4_isExcluded_33 (by decide) (by decide) (Or.inr rfl) (z_ret h)
set_option maxHeartbeats 4000000 in
set_option maxRecDepth 100000 in
theorem vX4_isExcluded (l : Launch) (D : va_G) (T : Nat → ClassId) (b : Nat) (gr : Bool) (x0 : Nat) (x1 : Int32) (M : zM) (r : Int32) (M' : zM) (h : fX4_isExcluded x0 x1 M = some (r, M')) : zMet l D T b gr yX4_isExcluded cX4_isExcluded 3 (some .boolean) 0 0 0 [zr b x0, .int x1] M (0, r, M') := by
  refine zEntry2 (ev := zE0) rfl false (fun h9 => nomatch h9) zp_yX4_isExcluded ⟨zr_cat _ _, rfl, trivial⟩ (Nat.le_of_ble_eq_true rfl) ?_
  obtain ⟨o, ho⟩ : ∃ o : Int32 × zM, o = (r, M') := ⟨_, rfl⟩
  rw [← ho] at h
  rw [show ((0, r, M') : Nat × Int32 × zM) = (0, o.1, o.2) by rw [ho]]
  show zV false l RX4 cX4_isExcluded 3 (some .boolean) false 0 0 0 D T zE0 b gr M.2.2.2 (0, o.1, o.2) 0 0 0 [(0, zr b x0), (1, .int x1)] [] M
  unfold fX4_isExcluded at h
  refine zV_iconst (v := 0) dX4_isExcluded_0 (by decide) ?_
  refine zV_istore_n [(2, .int 0), (0, zr b x0), (1, .int x1)] dX4_isExcluded_1 rfl (by decide) rfl rfl ?_
  refine zV_pk [1, 2, 0] rfl ?_
  exact vX4_isExcluded_2 10000 x0 x1 0 M _ h
set_option maxHeartbeats 4000000 in
set_option maxRecDepth 100000 in
theorem vX4_isIncluded_2 {l : Launch} {D : va_G} {T : Nat → ClassId} {b : Nat} {gr : Bool} {n0 : Nat} : ∀ (n : Nat) (x0 : Nat) (x1 : Int32) (x2 : Int32) (M : zM) (o : Int32 × zM), fX4_isIncluded_2 n x0 x1 x2 M = some o → zV false l RX4 cX4_isIncluded 3 (some .boolean) false 0 0 0 D T zE0 b gr n0 (0, o.1, o.2) 0 0 2 [(0, zr b x0), (1, .int x1), (2, .int x2)] [] M := by
  intro n
  induction n with
  | zero =>
    intro x0 x1 x2 M o h
    rw [fX4_isIncluded_2] at h
    cases h
  | succ n ih =>
    intro x0 x1 x2 M o h
    rw [fX4_isIncluded_2] at h
    refine zV_iload_n (j := 2) dX4_isIncluded_2 rfl rfl ?_
    refine zV_aload_n (j := 0) dX4_isIncluded_3 rfl rfl ?_
    obtain ⟨g1, h⟩ := zg_of h
    refine zV_getI zf_RX4_26 dX4_isIncluded_4 rfl g1 ?_
    refine zV_icmp_ge (tgt := 40) dX4_isIncluded_7 (by decide) (fun c2 => ?_) (fun c2 => ?_)
    · replace h := z_t c2 h
      refine zV_iconst (v := 0) dX4_isIncluded_40 (by decide) ?_
      exact zV_zret rfl dX4_isIncluded_41 (by decide) (by decide) (Or.inl rfl) (z_ret h)
    · replace h := z_f c2 h
      refine zV_aload_n (j := 0) dX4_isIncluded_10 rfl rfl ?_
      refine zV_getR zf_RX4_22 dX4_isIncluded_11 rfl g1 ?_
      obtain ⟨g3, h⟩ := zg_of h
      refine zV_getR zf_RX4_61 dX4_isIncluded_14 rfl g3 ?_
      refine zV_aload_n (j := 0) dX4_isIncluded_17 rfl rfl ?_
      refine zV_getR zf_RX4_9 dX4_isIncluded_18 rfl g1 ?_
      refine zV_iload_n (j := 2) dX4_isIncluded_21 rfl rfl ?_
      obtain ⟨g4, h⟩ := zg_of h
      obtain ⟨g5, h⟩ := zg_of h
      refine zV_iald dX4_isIncluded_22 g4 g5 ?_
      obtain ⟨g6, h⟩ := zg_of h
      obtain ⟨g7, h⟩ := zg_of h
      refine zV_iald dX4_isIncluded_23 g6 g7 ?_
      refine zV_iload_n (j := 1) dX4_isIncluded_24 rfl rfl ?_
      refine zV_ishr dX4_isIncluded_25 ?_
      refine zV_iconst (v := 1) dX4_isIncluded_26 (by decide) ?_
      refine zV_iand dX4_isIncluded_27 ?_
      refine zV_iconst (v := 1) dX4_isIncluded_28 (by decide) ?_
      refine zV_icmp_ne (tgt := 34) dX4_isIncluded_29 (by decide) (fun c8 => ?_) (fun c8 => ?_)
      · replace h := z_f c8 h
        obtain ⟨u9, e10⟩ : ∃ y : Int32, y = x2 + 1 := ⟨_, rfl⟩
        replace h := zlet_of h e10
        refine zV_iinc (j := 2) (v := u9) [(2, .int u9), (0, zr b x0), (1, .int x1)] dX4_isIncluded_34 rfl (by rw [e10]; rfl) (by decide) rfl rfl ?_
        refine zV_goto (tgt := 2) dX4_isIncluded_37 (by decide) ?_
        refine zV_pk [1, 2, 0] rfl ?_
        exact ih x0 x1 u9 M _ h
      · replace h := z_t c8 h
        refine zV_iconst (v := 1) dX4_isIncluded_32 (by decide) ?_
        exact zV_zret rfl dX4_isIncluded_33 (by decide) (by decide) (Or.inr rfl) (z_ret h)
set_option maxHeartbeats 4000000 in
set_option maxRecDepth 100000 in
theorem vX4_isIncluded (l : Launch) (D : va_G) (T : Nat → ClassId) (b : Nat) (gr : Bool) (x0 : Nat) (x1 : Int32) (M : zM) (r : Int32) (M' : zM) (h : fX4_isIncluded x0 x1 M = some (r, M')) : zMet l D T b gr yX4_isIncluded cX4_isIncluded 3 (some .boolean) 0 0 0 [zr b x0, .int x1] M (0, r, M') := by
  refine zEntry2 (ev := zE0) rfl false (fun h9 => nomatch h9) zp_yX4_isIncluded ⟨zr_cat _ _, rfl, trivial⟩ (Nat.le_of_ble_eq_true rfl) ?_
  obtain ⟨o, ho⟩ : ∃ o : Int32 × zM, o = (r, M') := ⟨_, rfl⟩
  rw [← ho] at h
  rw [show ((0, r, M') : Nat × Int32 × zM) = (0, o.1, o.2) by rw [ho]]
  show zV false l RX4 cX4_isIncluded 3 (some .boolean) false 0 0 0 D T zE0 b gr M.2.2.2 (0, o.1, o.2) 0 0 0 [(0, zr b x0), (1, .int x1)] [] M
  unfold fX4_isIncluded at h
  refine zV_iconst (v := 0) dX4_isIncluded_0 (by decide) ?_
  refine zV_istore_n [(2, .int 0), (0, zr b x0), (1, .int x1)] dX4_isIncluded_1 rfl (by decide) rfl rfl ?_
  refine zV_pk [1, 2, 0] rfl ?_
  exact vX4_isIncluded_2 10000 x0 x1 0 M _ h
set_option maxHeartbeats 4000000 in
set_option maxRecDepth 100000 in
theorem vX4_accept (l : Launch) (D : va_G) (T : Nat → ClassId) (b : Nat) (gr : Bool) (x0 : Nat) (x1 : Int32) (M : zM) (r : Int32) (M' : zM) (h : fX4_accept x0 x1 M = some (r, M')) : zMet l D T b gr yX4_accept cX4_accept 3 (some .boolean) 1 0 0 [zr b x0, .int x1] M (0, r, M') := by
  refine zEntry2 (ev := zE0) rfl false (fun h9 => nomatch h9) zp_yX4_accept ⟨zr_cat _ _, rfl, trivial⟩ (Nat.le_of_ble_eq_true rfl) ?_
  obtain ⟨o, ho⟩ : ∃ o : Int32 × zM, o = (r, M') := ⟨_, rfl⟩
  rw [← ho] at h
  rw [show ((0, r, M') : Nat × Int32 × zM) = (0, o.1, o.2) by rw [ho]]
  show zV false l RX4 cX4_accept 3 (some .boolean) false 1 0 0 D T zE0 b gr M.2.2.2 (0, o.1, o.2) 0 0 0 [(0, zr b x0), (1, .int x1)] [] M
  unfold fX4_accept at h
  refine zV_aload_n (j := 0) dX4_accept_0 rfl rfl ?_
  obtain ⟨g1, h⟩ := zg_of h
  refine zV_getI zf_RX4_18 dX4_accept_1 rfl g1 ?_
  refine zV_iconst (v := (-1)) dX4_accept_4 (by decide) ?_
  refine zV_icmp_ne (tgt := 18) dX4_accept_5 (by decide) (fun c2 => ?_) (fun c2 => ?_)
  · replace h := z_f c2 h
    refine zV_aload_n (j := 0) dX4_accept_18 rfl rfl ?_
    refine zV_getI zf_RX4_26 dX4_accept_19 rfl g1 ?_
    refine zV_if_eq (tgt := 33) dX4_accept_22 (by decide) (fun c3 => ?_) (fun c3 => ?_)
    · replace h := z_t c3 h
      refine zV_iconst (v := 0) dX4_accept_33 (by decide) ?_
      exact zV_zret rfl dX4_accept_34 (by decide) (by decide) (Or.inl rfl) (z_ret h)
    · replace h := z_f c3 h
      refine zV_aload_n (j := 0) dX4_accept_25 rfl rfl ?_
      refine zV_iload_n (j := 1) dX4_accept_26 rfl rfl ?_
      obtain ⟨r4, M5, q6, h⟩ := zb_of h
      refine zV_callVi (ci := 4) (As := [.int x1]) (rest := []) (vX4_isExcluded l D T b gr x0 x1 M _ _ q6) zm_yX4_isExcluded zl_RX4_47 zi_yX4_isExcluded ze_yX4_isExcluded zcI4 g1 rfl rfl (zcs trivial (Nat.le_of_ble_eq_true rfl)) (by decide) (by decide) (by decide) dX4_accept_27 ?_
      refine zV_if_eq (tgt := 35) dX4_accept_30 (by decide) (fun c7 => ?_) (fun c7 => ?_)
      · replace h := z_t c7 h
        refine zV_aload_n (j := 0) dX4_accept_35 rfl rfl ?_
        obtain ⟨g8, h⟩ := zg_of h
        refine zV_getR zf_RX4_22 dX4_accept_36 rfl g8 ?_
        obtain ⟨g9, h⟩ := zg_of h
        refine zV_getR zf_RX4_32 dX4_accept_39 rfl g9 ?_
        refine zV_aload_n (j := 0) dX4_accept_42 rfl rfl ?_
        refine zV_getR zf_RX4_9 dX4_accept_43 rfl g8 ?_
        refine zV_aload_n (j := 0) dX4_accept_46 rfl rfl ?_
        refine zV_getI zf_RX4_26 dX4_accept_47 rfl g8 ?_
        refine zV_iconst (v := 1) dX4_accept_50 (by decide) ?_
        refine zV_isub dX4_accept_51 ?_
        obtain ⟨g10, h⟩ := zg_of h
        obtain ⟨g11, h⟩ := zg_of h
        refine zV_iald dX4_accept_52 g10 g11 ?_
        obtain ⟨g12, h⟩ := zg_of h
        obtain ⟨g13, h⟩ := zg_of h
        refine zV_aald 110 4 dX4_accept_53 g12 ⟨by decide, by decide⟩ rfl g13 ?_
        refine zV_aload_n (j := 0) dX4_accept_54 rfl rfl ?_
        refine zV_getR zf_RX4_15 dX4_accept_55 rfl g8 ?_
        refine zV_aload_n (j := 0) dX4_accept_58 rfl rfl ?_
        refine zV_getI zf_RX4_26 dX4_accept_59 rfl g8 ?_
        refine zV_iconst (v := 1) dX4_accept_62 (by decide) ?_
        refine zV_isub dX4_accept_63 ?_
        obtain ⟨g14, h⟩ := zg_of h
        obtain ⟨g15, h⟩ := zg_of h
        refine zV_iald dX4_accept_64 g14 g15 ?_
        refine zV_iload_n (j := 1) dX4_accept_65 rfl rfl ?_
        obtain ⟨g16, h⟩ := zg_of h
        obtain ⟨r17, M18, q19, h⟩ := zb_of h
        refine zV_callVi (ci := 1) (As := [.int (zI M5 (zR M5 x0 2) ((zI M5 x0 3) - 1).toNatClampNeg), .int x1]) (rest := []) (vX1_slotFor l D T b gr (zR M5 (zR M5 (zR M5 x0 0) 0) (zI M5 (zR M5 x0 1) ((zI M5 x0 3) - 1).toNatClampNeg).toNatClampNeg) (zI M5 (zR M5 x0 2) ((zI M5 x0 3) - 1).toNatClampNeg) x1 M5 _ _ q19) zm_yX1_slotFor zl_RX4_51 zi_yX1_slotFor ze_yX1_slotFor zcI1 g16 rfl rfl (zcs trivial (Nat.le_of_ble_eq_true rfl)) (by decide) (by decide) (by decide) dX4_accept_66 ?_
        refine zV_istore_n [(2, .int r17), (0, zr b x0), (1, .int x1)] dX4_accept_69 rfl (by decide) rfl rfl ?_
        refine zV_iload_n (j := 0) dX4_accept_70 rfl rfl ?_
        refine zV_iconst (v := (-1)) dX4_accept_71 (by decide) ?_
        refine zV_icmp_eq (tgt := 93) dX4_accept_72 (by decide) (fun c20 => ?_) (fun c20 => ?_)
        · replace h := z_t c20 h
          refine zV_aload_n (j := 1) dX4_accept_93 rfl rfl ?_
          refine zV_iload_n (j := 2) dX4_accept_94 rfl rfl ?_
          obtain ⟨g21, h⟩ := zg_of h
          obtain ⟨r22, M23, q24, h⟩ := zb_of h
          refine zV_callVi (ci := 4) (As := [.int x1]) (rest := []) (vX4_isIncluded l D T b gr x0 x1 M18 _ _ q24) zm_yX4_isIncluded zl_RX4_55 zi_yX4_isIncluded ze_yX4_isIncluded zcI4 g21 rfl rfl (zcs trivial (Nat.le_of_ble_eq_true rfl)) (by decide) (by decide) (by decide) dX4_accept_95 ?_
          obtain ⟨g25, h⟩ := zg_of h
          exact zV_zret rfl dX4_accept_98 (by decide) (by decide) g25 (z_ret h)
        · replace h := z_f c20 h
          refine zV_aload_n (j := 1) dX4_accept_75 rfl rfl ?_
          obtain ⟨g26, h⟩ := zg_of h
          refine zV_getR zf_RX4_15 dX4_accept_76 rfl g26 ?_
          refine zV_aload_n (j := 1) dX4_accept_79 rfl rfl ?_
          refine zV_getI zf_RX4_26 dX4_accept_80 rfl g26 ?_
          refine zV_iconst (v := 1) dX4_accept_83 (by decide) ?_
          refine zV_isub dX4_accept_84 ?_
          refine zV_iconst (v := 2) dX4_accept_85 (by decide) ?_
          refine zV_iload_n (j := 0) dX4_accept_86 rfl rfl ?_
          refine zV_imul dX4_accept_87 ?_
          refine zV_iconst (v := 1) dX4_accept_88 (by decide) ?_
          refine zV_iadd dX4_accept_89 ?_
          obtain ⟨g27, h⟩ := zg_of h
          obtain ⟨g28, h⟩ := zg_of h
          refine zV_iast dX4_accept_90 g27 g28 ?_
          refine zV_mem (fun M29 e30 => ?_)
          replace h := zlet_of h e30
          refine zV_iconst (v := 1) dX4_accept_91 (by decide) ?_
          exact zV_zret rfl dX4_accept_92 (by decide) (by decide) (Or.inr rfl) (z_ret h)
      · replace h := z_f c7 h
        refine zV_iconst (v := 0) dX4_accept_33 (by decide) ?_
        exact zV_zret rfl dX4_accept_34 (by decide) (by decide) (Or.inl rfl) (z_ret h)
  · replace h := z_t c2 h
    refine zV_iload_n (j := 1) dX4_accept_8 rfl rfl ?_
    refine zV_if_ne (tgt := 16) dX4_accept_9 (by decide) (fun c31 => ?_) (fun c31 => ?_)
    · replace h := z_f c31 h
      refine zV_iconst (v := 0) dX4_accept_16 (by decide) ?_
      exact zV_zret rfl dX4_accept_17 (by decide) (by decide) (Or.inl rfl) (z_ret h)
    · replace h := z_t c31 h
      refine zV_iconst (v := 1) dX4_accept_12 (by decide) ?_
      refine zV_goto (tgt := 17) dX4_accept_13 (by decide) ?_
      exact zV_zret rfl dX4_accept_17 (by decide) (by decide) (Or.inr rfl) (z_ret h)
set_option maxHeartbeats 4000000 in
set_option maxRecDepth 100000 in
theorem vX5_addThing (l : Launch) (D : va_G) (T : Nat → ClassId) (b : Nat) (gr : Bool) (x0 : Nat) (x1 : Int32) (x2 : Int32) (x3 : Int32) (x4 : Int32) (x5 : Int32) (M : zM) (r : Int32) (M' : zM) (h : fX5_addThing x0 x1 x2 x3 x4 x5 M = some (r, M')) : zMet l D T b gr yX5_addThing cX5_addThing 6 none 0 0 0 [zr b x0, .int x1, .int x2, .int x3, .int x4, .int x5] M (0, r, M') := by
  refine zEntry2 (ev := zE0) rfl false (fun h9 => nomatch h9) zp_yX5_addThing ⟨zr_cat _ _, rfl, rfl, rfl, rfl, rfl, trivial⟩ (Nat.le_of_ble_eq_true rfl) ?_
  obtain ⟨o, ho⟩ : ∃ o : Int32 × zM, o = (r, M') := ⟨_, rfl⟩
  rw [← ho] at h
  rw [show ((0, r, M') : Nat × Int32 × zM) = (0, o.1, o.2) by rw [ho]]
  show zV false l RX5 cX5_addThing 6 none false 0 0 0 D T zE0 b gr M.2.2.2 (0, o.1, o.2) 0 0 0 [(0, zr b x0), (1, .int x1), (2, .int x2), (3, .int x3), (4, .int x4), (5, .int x5)] [] M
  unfold fX5_addThing at h
  refine zV_aload_n (j := 0) dX5_addThing_0 rfl rfl ?_
  obtain ⟨g1, h⟩ := zg_of h
  refine zV_getI zf_RX5_29 dX5_addThing_1 rfl g1 ?_
  refine zV_sipush (v := 300) dX5_addThing_4 (by decide) ?_
  refine zV_icmp_ge (tgt := 72) dX5_addThing_7 (by decide) (fun c2 => ?_) (fun c2 => ?_)
  · replace h := z_t c2 h
    exact zV_vret (x := 0) rfl dX5_addThing_72 (by decide) (by decide) (z_ret h)
  · replace h := z_f c2 h
    refine zV_aload_n (j := 0) dX5_addThing_10 rfl rfl ?_
    refine zV_getR zf_RX5_9 dX5_addThing_11 rfl g1 ?_
    refine zV_aload_n (j := 0) dX5_addThing_14 rfl rfl ?_
    refine zV_getI zf_RX5_29 dX5_addThing_15 rfl g1 ?_
    refine zV_iload_n (j := 1) dX5_addThing_18 rfl rfl ?_
    obtain ⟨g3, h⟩ := zg_of h
    obtain ⟨g4, h⟩ := zg_of h
    refine zV_iast dX5_addThing_19 g3 g4 ?_
    refine zV_mem (fun M5 e6 => ?_)
    replace h := zlet_of h e6
    refine zV_aload_n (j := 0) dX5_addThing_20 rfl rfl ?_
    refine zV_getR zf_RX5_15 dX5_addThing_21 rfl (zkI e6 g1) ?_
    refine zV_aload_n (j := 0) dX5_addThing_24 rfl rfl ?_
    refine zV_getI zf_RX5_29 dX5_addThing_25 rfl (zkI e6 g1) ?_
    refine zV_iload_n (j := 2) dX5_addThing_28 rfl rfl ?_
    obtain ⟨g7, h⟩ := zg_of h
    obtain ⟨g8, h⟩ := zg_of h
    refine zV_iast dX5_addThing_29 g7 g8 ?_
    refine zV_mem (fun M9 e10 => ?_)
    replace h := zlet_of h e10
    refine zV_aload_n (j := 0) dX5_addThing_30 rfl rfl ?_
    refine zV_getR zf_RX5_18 dX5_addThing_31 rfl (zkI e10 (zkI e6 g1)) ?_
    refine zV_aload_n (j := 0) dX5_addThing_34 rfl rfl ?_
    refine zV_getI zf_RX5_29 dX5_addThing_35 rfl (zkI e10 (zkI e6 g1)) ?_
    refine zV_iload_n (j := 3) dX5_addThing_38 rfl rfl ?_
    obtain ⟨g11, h⟩ := zg_of h
    obtain ⟨g12, h⟩ := zg_of h
    obtain ⟨g13, h⟩ := zg_of h
    refine zV_cast dX5_addThing_39 g11 g12 g13 ?_
    refine zV_mem (fun M14 e15 => ?_)
    replace h := zlet_of h e15
    refine zV_aload_n (j := 0) dX5_addThing_40 rfl rfl ?_
    refine zV_getR zf_RX5_22 dX5_addThing_41 rfl (zkI e15 (zkI e10 (zkI e6 g1))) ?_
    refine zV_aload_n (j := 0) dX5_addThing_44 rfl rfl ?_
    refine zV_getI zf_RX5_29 dX5_addThing_45 rfl (zkI e15 (zkI e10 (zkI e6 g1))) ?_
    refine zV_iload (j := 4) dX5_addThing_48 rfl ?_
    obtain ⟨g16, h⟩ := zg_of h
    obtain ⟨g17, h⟩ := zg_of h
    refine zV_iast dX5_addThing_50 g16 g17 ?_
    refine zV_mem (fun M18 e19 => ?_)
    replace h := zlet_of h e19
    refine zV_aload_n (j := 0) dX5_addThing_51 rfl rfl ?_
    refine zV_getR zf_RX5_25 dX5_addThing_52 rfl (zkI e19 (zkI e15 (zkI e10 (zkI e6 g1)))) ?_
    refine zV_aload_n (j := 0) dX5_addThing_55 rfl rfl ?_
    refine zV_getI zf_RX5_29 dX5_addThing_56 rfl (zkI e19 (zkI e15 (zkI e10 (zkI e6 g1)))) ?_
    refine zV_iload (j := 5) dX5_addThing_59 rfl ?_
    obtain ⟨g20, h⟩ := zg_of h
    obtain ⟨g21, h⟩ := zg_of h
    obtain ⟨g22, h⟩ := zg_of h
    refine zV_zast dX5_addThing_61 g20 g21 g22 ?_
    refine zV_mem (fun M23 e24 => ?_)
    replace h := zlet_of h e24
    refine zV_aload_n (j := 0) dX5_addThing_62 rfl rfl ?_
    refine zV_dup dX5_addThing_63 (zr_cat _ _) ?_
    refine zV_getI zf_RX5_29 dX5_addThing_64 rfl (zkI e24 (zkI e19 (zkI e15 (zkI e10 (zkI e6 g1))))) ?_
    refine zV_iconst (v := 1) dX5_addThing_67 (by decide) ?_
    refine zV_iadd dX5_addThing_68 ?_
    refine zV_putI zf_RX5_29 dX5_addThing_69 rfl rfl (zkI e24 (zkI e19 (zkI e15 (zkI e10 (zkI e6 g1))))) ?_
    refine zV_mem (fun M25 e26 => ?_)
    replace h := zlet_of h e26
    exact zV_vret (x := 0) rfl dX5_addThing_72 (by decide) (by decide) (z_ret h)
set_option maxHeartbeats 4000000 in
set_option maxRecDepth 100000 in
theorem vX4_enter (l : Launch) (D : va_G) (T : Nat → ClassId) (b : Nat) (gr : Bool) (x0 : Nat) (x1 : Int32) (M : zM) (r : Int32) (M' : zM) (h : fX4_enter x0 x1 M = some (r, M')) : zMet l D T b gr yX4_enter cX4_enter 2 none 0 0 0 [zr b x0, .int x1] M (0, r, M') := by
  refine zEntry2 (ev := zE0) rfl false (fun h9 => nomatch h9) zp_yX4_enter ⟨zr_cat _ _, rfl, trivial⟩ (Nat.le_of_ble_eq_true rfl) ?_
  obtain ⟨o, ho⟩ : ∃ o : Int32 × zM, o = (r, M') := ⟨_, rfl⟩
  rw [← ho] at h
  rw [show ((0, r, M') : Nat × Int32 × zM) = (0, o.1, o.2) by rw [ho]]
  show zV false l RX4 cX4_enter 2 none false 0 0 0 D T zE0 b gr M.2.2.2 (0, o.1, o.2) 0 0 0 [(0, zr b x0), (1, .int x1)] [] M
  unfold fX4_enter at h
  refine zV_aload_n (j := 0) dX4_enter_0 rfl rfl ?_
  refine zV_iload_n (j := 1) dX4_enter_1 rfl rfl ?_
  obtain ⟨g1, h⟩ := zg_of h
  refine zV_putI zf_RX4_18 dX4_enter_2 rfl rfl g1 ?_
  refine zV_mem (fun M2 e3 => ?_)
  replace h := zlet_of h e3
  refine zV_aload_n (j := 0) dX4_enter_5 rfl rfl ?_
  refine zV_getR zf_RX4_22 dX4_enter_6 rfl (zkI e3 g1) ?_
  obtain ⟨g4, h⟩ := zg_of h
  refine zV_getR zf_RX4_32 dX4_enter_9 rfl g4 ?_
  refine zV_iload_n (j := 1) dX4_enter_12 rfl rfl ?_
  obtain ⟨g5, h⟩ := zg_of h
  obtain ⟨g6, h⟩ := zg_of h
  refine zV_aald 110 4 dX4_enter_13 g5 ⟨by decide, by decide⟩ rfl g6 ?_
  obtain ⟨g7, h⟩ := zg_of h
  refine zV_getI zf_RX4_84 dX4_enter_14 rfl g7 ?_
  refine zV_if_le (tgt := 59) dX4_enter_17 (by decide) (fun c8 => ?_) (fun c8 => ?_)
  · replace h := z_t c8 h
    exact zV_vret (x := 0) rfl dX4_enter_59 (by decide) (by decide) (z_ret h)
  · replace h := z_f c8 h
    refine zV_aload_n (j := 0) dX4_enter_20 rfl rfl ?_
    refine zV_getI zf_RX4_26 dX4_enter_21 rfl (zkI e3 g1) ?_
    refine zV_bipush (v := 20) dX4_enter_24 (by decide) ?_
    refine zV_icmp_ge (tgt := 59) dX4_enter_26 (by decide) (fun c9 => ?_) (fun c9 => ?_)
    · replace h := z_t c9 h
      exact zV_vret (x := 0) rfl dX4_enter_59 (by decide) (by decide) (z_ret h)
    · replace h := z_f c9 h
      refine zV_aload_n (j := 0) dX4_enter_29 rfl rfl ?_
      refine zV_getR zf_RX4_9 dX4_enter_30 rfl (zkI e3 g1) ?_
      refine zV_aload_n (j := 0) dX4_enter_33 rfl rfl ?_
      refine zV_getI zf_RX4_26 dX4_enter_34 rfl (zkI e3 g1) ?_
      refine zV_iload_n (j := 1) dX4_enter_37 rfl rfl ?_
      obtain ⟨g10, h⟩ := zg_of h
      obtain ⟨g11, h⟩ := zg_of h
      refine zV_iast dX4_enter_38 g10 g11 ?_
      refine zV_mem (fun M12 e13 => ?_)
      replace h := zlet_of h e13
      refine zV_aload_n (j := 0) dX4_enter_39 rfl rfl ?_
      refine zV_getR zf_RX4_15 dX4_enter_40 rfl (zkI e13 (zkI e3 g1)) ?_
      refine zV_aload_n (j := 0) dX4_enter_43 rfl rfl ?_
      refine zV_getI zf_RX4_26 dX4_enter_44 rfl (zkI e13 (zkI e3 g1)) ?_
      refine zV_iconst (v := 0) dX4_enter_47 (by decide) ?_
      obtain ⟨g14, h⟩ := zg_of h
      obtain ⟨g15, h⟩ := zg_of h
      refine zV_iast dX4_enter_48 g14 g15 ?_
      refine zV_mem (fun M16 e17 => ?_)
      replace h := zlet_of h e17
      refine zV_aload_n (j := 0) dX4_enter_49 rfl rfl ?_
      refine zV_dup dX4_enter_50 (zr_cat _ _) ?_
      refine zV_getI zf_RX4_26 dX4_enter_51 rfl (zkI e17 (zkI e13 (zkI e3 g1))) ?_
      refine zV_iconst (v := 1) dX4_enter_54 (by decide) ?_
      refine zV_iadd dX4_enter_55 ?_
      refine zV_putI zf_RX4_26 dX4_enter_56 rfl rfl (zkI e17 (zkI e13 (zkI e3 g1))) ?_
      refine zV_mem (fun M18 e19 => ?_)
      replace h := zlet_of h e19
      exact zV_vret (x := 0) rfl dX4_enter_59 (by decide) (by decide) (z_ret h)
set_option maxHeartbeats 4000000 in
set_option maxRecDepth 100000 in
theorem vX2_addThing_88 {l : Launch} {D : va_G} {T : Nat → ClassId} {b : Nat} {gr : Bool} {n0 : Nat} (x0 : Nat) (x1 : Int32) (M : zM) (o : Int32 × zM) (h : fX2_addThing_88 x0 x1 M = some o) : zV false l RX2 cX2_addThing 6 none false 1 0 0 D T zE0 b gr n0 (0, o.1, o.2) 0 0 88 [(0, zr b x0), (1, .int x1)] [] M := by
  unfold fX2_addThing_88 at h
  refine zV_aload_n (j := 0) dX2_addThing_88 rfl rfl ?_
  obtain ⟨g1, h⟩ := zg_of h
  refine zV_getR zf_RX2_66 dX2_addThing_89 rfl g1 ?_
  refine zV_iload_n (j := 1) dX2_addThing_92 rfl rfl ?_
  obtain ⟨g2, h⟩ := zg_of h
  obtain ⟨r3, M4, q5, h⟩ := zb_of h
  refine zV_callVv (ci := 4) (As := [.int x1]) (rest := []) (vX4_enter l D T b gr (zR M x0 10) x1 M _ _ q5) zm_yX4_enter zl_RX2_195 zi_yX4_enter ze_yX4_enter zcI4 g2 rfl rfl (zcs trivial (Nat.le_of_ble_eq_true rfl)) (by decide) (by decide) (by decide) dX2_addThing_93 ?_
  exact zV_vret (x := 0) rfl dX2_addThing_96 (by decide) (by decide) (z_ret h)
set_option maxHeartbeats 4000000 in
set_option maxRecDepth 100000 in
theorem vX2_addThing_28 {l : Launch} {D : va_G} {T : Nat → ClassId} {b : Nat} {gr : Bool} {n0 : Nat} (x0 : Nat) (x1 : Int32) (x2 : Int32) (x3 : Int32) (s0 : Int32) (M : zM) (o : Int32 × zM) (h : fX2_addThing_28 x0 x1 x2 x3 s0 M = some o) : zV false l RX2 cX2_addThing 6 none false 1 0 0 D T zE0 b gr n0 (0, o.1, o.2) 0 0 28 [(0, zr b x0), (1, .int x1), (2, .int x2), (3, .int x3)] [.int s0] M := by
  unfold fX2_addThing_28 at h
  refine zV_istore [(4, .int s0), (0, zr b x0), (1, .int x1), (2, .int x2), (3, .int x3)] dX2_addThing_28 (by decide) rfl rfl ?_
  refine zV_aload_n (j := 1) dX2_addThing_30 rfl rfl ?_
  obtain ⟨g6, h⟩ := zg_of h
  refine zV_getR zf_RX2_12 dX2_addThing_31 rfl g6 ?_
  obtain ⟨g7, h⟩ := zg_of h
  refine zV_getI zf_RX2_77 dX2_addThing_34 rfl g7 ?_
  refine zV_top (fun u8 e9 => ?_)
  replace h := zlet_of h e9
  refine zV_istore [(5, .int u8), (4, .int s0), (0, zr b x0), (1, .int x1), (2, .int x2), (3, .int x3)] dX2_addThing_37 (by decide) rfl rfl ?_
  refine zV_aload_n (j := 2) dX2_addThing_39 rfl rfl ?_
  refine zV_getR zf_RX2_12 dX2_addThing_40 rfl g6 ?_
  refine zV_iload_n (j := 3) dX2_addThing_43 rfl rfl ?_
  refine zV_iload (j := 1) dX2_addThing_44 rfl ?_
  refine zV_iload_n (j := 4) dX2_addThing_46 rfl rfl ?_
  refine zV_aload_n (j := 2) dX2_addThing_47 rfl rfl ?_
  refine zV_getI zf_RX2_123 dX2_addThing_48 rfl g6 ?_
  refine zV_iload_n (j := 5) dX2_addThing_51 rfl rfl ?_
  obtain ⟨r10, M11, q12, h⟩ := zb_of h
  refine zV_callVv (ci := 5) (As := [.int x1, .int s0, .int x2, .int (zI M x0 15), .int x3]) (rest := []) (vX5_addThing l D T b gr (zR M x0 4) x1 s0 x2 (zI M x0 15) x3 M _ _ q12) zm_yX5_addThing zl_RX2_192 zi_yX5_addThing ze_yX5_addThing zcI5 g7 rfl rfl (zcs trivial (Nat.le_of_ble_eq_true rfl)) (by decide) (by decide) (by decide) dX2_addThing_52 ?_
  refine zV_iload_n (j := 3) dX2_addThing_55 rfl rfl ?_
  refine zV_bipush (v := 10) dX2_addThing_56 (by decide) ?_
  refine zV_icmp_ne (tgt := 62) dX2_addThing_58 (by decide) (fun c13 => ?_) (fun c13 => ?_)
  · replace h := z_f c13 h
    refine zV_aload_n (j := 2) dX2_addThing_62 rfl rfl ?_
    obtain ⟨g14, h⟩ := zg_of h
    refine zV_getR zf_RX2_66 dX2_addThing_63 rfl g14 ?_
    obtain ⟨g15, h⟩ := zg_of h
    refine zV_getI zf_RX2_165 dX2_addThing_66 rfl g15 ?_
    refine zV_bipush (v := 20) dX2_addThing_69 (by decide) ?_
    refine zV_icmp_ge (tgt := 88) dX2_addThing_71 (by decide) (fun c16 => ?_) (fun c16 => ?_)
    · replace h := z_t c16 h
      refine zV_pk [2, 3] rfl ?_
      exact vX2_addThing_88 x0 x1 M11 _ h
    · replace h := z_f c16 h
      refine zV_aload_n (j := 2) dX2_addThing_74 rfl rfl ?_
      refine zV_getR zf_RX2_34 dX2_addThing_75 rfl g14 ?_
      refine zV_aload_n (j := 2) dX2_addThing_78 rfl rfl ?_
      refine zV_getR zf_RX2_66 dX2_addThing_79 rfl g14 ?_
      refine zV_getI zf_RX2_165 dX2_addThing_82 rfl g15 ?_
      refine zV_iload (j := 0) dX2_addThing_85 rfl ?_
      obtain ⟨g17, h⟩ := zg_of h
      obtain ⟨g18, h⟩ := zg_of h
      refine zV_iast dX2_addThing_87 g17 g18 ?_
      refine zV_mem (fun M19 e20 => ?_)
      replace h := zlet_of h e20
      refine zV_pk [2, 3] rfl ?_
      exact vX2_addThing_88 x0 x1 M19 _ h
  · replace h := z_t c13 h
    exact zV_vret (x := 0) rfl dX2_addThing_61 (by decide) (by decide) (z_ret h)
set_option maxHeartbeats 4000000 in
set_option maxRecDepth 100000 in
theorem vX2_addThing (l : Launch) (D : va_G) (T : Nat → ClassId) (b : Nat) (gr : Bool) (x0 : Nat) (x1 : Int32) (x2 : Int32) (x3 : Int32) (M : zM) (r : Int32) (M' : zM) (h : fX2_addThing x0 x1 x2 x3 M = some (r, M')) : zMet l D T b gr yX2_addThing cX2_addThing 6 none 1 0 0 [zr b x0, .int x1, .int x2, .int x3] M (0, r, M') := by
  refine zEntry2 (ev := zE0) rfl false (fun h9 => nomatch h9) zp_yX2_addThing ⟨zr_cat _ _, rfl, rfl, rfl, trivial⟩ (Nat.le_of_ble_eq_true rfl) ?_
  obtain ⟨o, ho⟩ : ∃ o : Int32 × zM, o = (r, M') := ⟨_, rfl⟩
  rw [← ho] at h
  rw [show ((0, r, M') : Nat × Int32 × zM) = (0, o.1, o.2) by rw [ho]]
  show zV false l RX2 cX2_addThing 6 none false 1 0 0 D T zE0 b gr M.2.2.2 (0, o.1, o.2) 0 0 0 [(0, zr b x0), (1, .int x1), (2, .int x2), (3, .int x3)] [] M
  unfold fX2_addThing at h
  refine zV_aload_n (j := 0) dX2_addThing_0 rfl rfl ?_
  obtain ⟨g21, h⟩ := zg_of h
  refine zV_getR zf_RX2_66 dX2_addThing_1 rfl g21 ?_
  obtain ⟨g22, h⟩ := zg_of h
  refine zV_getI zf_RX2_165 dX2_addThing_4 rfl g22 ?_
  refine zV_if_le (tgt := 27) dX2_addThing_7 (by decide) (fun c23 => ?_) (fun c23 => ?_)
  · replace h := z_t c23 h
    refine zV_iconst (v := (-1)) dX2_addThing_27 (by decide) ?_
    exact vX2_addThing_28 x0 x1 x2 x3 (-1) M _ h
  · replace h := z_f c23 h
    refine zV_aload_n (j := 0) dX2_addThing_10 rfl rfl ?_
    refine zV_getR zf_RX2_34 dX2_addThing_11 rfl g21 ?_
    refine zV_aload_n (j := 0) dX2_addThing_14 rfl rfl ?_
    refine zV_getR zf_RX2_66 dX2_addThing_15 rfl g21 ?_
    refine zV_getI zf_RX2_165 dX2_addThing_18 rfl g22 ?_
    refine zV_iconst (v := 1) dX2_addThing_21 (by decide) ?_
    refine zV_isub dX2_addThing_22 ?_
    obtain ⟨g24, h⟩ := zg_of h
    obtain ⟨g25, h⟩ := zg_of h
    refine zV_iald dX2_addThing_23 g24 g25 ?_
    refine zV_goto (tgt := 28) dX2_addThing_24 (by decide) ?_
    exact vX2_addThing_28 x0 x1 x2 x3 (zI M (zR M x0 11) ((zI M (zR M x0 10) 3) - 1).toNatClampNeg) M _ h
