set_option maxHeartbeats 4000000 in
set_option maxRecDepth 100000 in
theorem vL_from_28 {l : Launch} {D : va_G} {T : Nat → ClassId} {b : Nat} {gr : Bool} {n0 : Nat} (xs : Nat → Int32) (L b0 : Nat) (x2 : Int32) (s0 : Int32) (M : zM) (o : Int32 × zM) (h : fL_from_28 xs L x2 s0 M = some o) : zV false l RL cL_from 4 (some .int) false 0 0 0 D T (zEs b0 L xs) b gr n0 (0, o.1, o.2) 0 0 28 [(2, .int x2)] [.int s0] M := by
  unfold fL_from_28 at h
  refine zV_istore_n [(3, .int s0), (2, .int x2)] dL_from_28 rfl (by decide) rfl rfl ?_
  refine zV_iload_n (j := 0) dL_from_29 rfl rfl ?_
  refine zV_ldc (v := 2147483647) dL_from_30 zd_RL_8 ?_
  refine zV_iand dL_from_32 ?_
  refine zV_iload_n (j := 1) dL_from_33 rfl rfl ?_
  obtain ⟨g1, h⟩ := zg_of h
  refine zV_irem dL_from_34 g1 ?_
  exact zV_iret rfl dL_from_35 (by decide) (by decide) (z_ret h)
set_option maxHeartbeats 4000000 in
set_option maxRecDepth 100000 in
theorem vL_from (l : Launch) (D : va_G) (T : Nat → ClassId) (b : Nat) (gr : Bool) (xs : Nat → Int32) (L b0 : Nat) (x1 : Int32) (x2 : Int32) (M : zM) (r : Int32) (M' : zM) (h : fL_from xs L x1 x2 M = some (r, M')) : zMetS l D T b gr b0 L xs yL_from cL_from 4 (some .int) 0 0 0 [.ref b0, .int x1, .int x2] M (0, r, M') := by
  refine zEntryS zp_yL_from ⟨rfl, rfl, rfl, trivial⟩ (Nat.le_of_ble_eq_true rfl) ?_
  obtain ⟨o, ho⟩ : ∃ o : Int32 × zM, o = (r, M') := ⟨_, rfl⟩
  rw [← ho] at h
  rw [show ((0, r, M') : Nat × Int32 × zM) = (0, o.1, o.2) by rw [ho]]
  show zV false l RL cL_from 4 (some .int) false 0 0 0 D T (zEs b0 L xs) b gr M.2.2.2 (0, o.1, o.2) 0 0 0 [(0, .ref b0), (1, .int x1), (2, .int x2)] [] M
  unfold fL_from at h
  refine zV_sload_n (j := 0) dL_from_0 rfl rfl ?_
  refine zV_salen rfl dL_from_1 ?_
  refine zV_if_ne (tgt := 17) dL_from_2 (by decide) (fun c2 => ?_) (fun c2 => ?_)
  · replace h := z_f c2 h
    refine zV_sload_n (j := 0) dL_from_17 rfl rfl ?_
    refine zV_iload_n (j := 1) dL_from_18 rfl rfl ?_
    refine zV_sload_n (j := 0) dL_from_19 rfl rfl ?_
    refine zV_salen rfl dL_from_20 ?_
    obtain ⟨g3, h⟩ := zg_of h
    refine zV_irem dL_from_21 g3 ?_
    obtain ⟨g4, h⟩ := zg_of h
    refine zV_sald rfl dL_from_22 g4 ?_
    refine zV_ldc (v := 241051) dL_from_23 zd_RL_7 ?_
    refine zV_iload_n (j := 1) dL_from_25 rfl rfl ?_
    refine zV_imul dL_from_26 ?_
    refine zV_ixor dL_from_27 ?_
    refine zV_pk [2] rfl ?_
    exact vL_from_28 xs L b0 x2 ((xs (zrem x1 (Int32.ofNat L)).toNatClampNeg) ^^^ (241051 * x1)) M _ h
  · replace h := z_t c2 h
    refine zV_sipush (v := 331) dL_from_5 (by decide) ?_
    refine zV_iload_n (j := 1) dL_from_8 rfl rfl ?_
    refine zV_imul dL_from_9 ?_
    refine zV_sipush (v := 293) dL_from_10 (by decide) ?_
    refine zV_iadd dL_from_13 ?_
    refine zV_goto (tgt := 28) dL_from_14 (by decide) ?_
    refine zV_pk [2] rfl ?_
    exact vL_from_28 xs L b0 x2 ((331 * x1) + 293) M _ h
set_option maxHeartbeats 4000000 in
set_option maxRecDepth 100000 in
theorem vL_enough_27 {l : Launch} {D : va_G} {T : Nat → ClassId} {b : Nat} {gr : Bool} {n0 : Nat} (M : zM) (o : Int32 × zM) (h : fL_enough_27 M = some o) : zV false l RL cL_enough 3 (some .boolean) false 0 0 0 D T zE0 b gr n0 (0, o.1, o.2) 0 0 27 [] [] M := by
  unfold fL_enough_27 at h
  refine zV_iconst (v := 1) dL_enough_27 (by decide) ?_
  refine zV_goto (tgt := 32) dL_enough_28 (by decide) ?_
  exact zV_zret rfl dL_enough_32 (by decide) (by decide) (Or.inr rfl) (z_ret h)
set_option maxHeartbeats 4000000 in
set_option maxRecDepth 100000 in
theorem vL_enough (l : Launch) (D : va_G) (T : Nat → ClassId) (b : Nat) (gr : Bool) (x0 : Nat) (x1 : Int32) (x2 : Int32) (M : zM) (r : Int32) (M' : zM) (h : fL_enough x0 x1 x2 M = some (r, M')) : zMet l D T b gr yL_enough cL_enough 3 (some .boolean) 0 0 0 [zr b x0, .int x1, .int x2] M (0, r, M') := by
  refine zEntry2 (ev := zE0) rfl false (fun h9 => nomatch h9) zp_yL_enough ⟨zr_cat _ _, rfl, rfl, trivial⟩ (Nat.le_of_ble_eq_true rfl) ?_
  obtain ⟨o, ho⟩ : ∃ o : Int32 × zM, o = (r, M') := ⟨_, rfl⟩
  rw [← ho] at h
  rw [show ((0, r, M') : Nat × Int32 × zM) = (0, o.1, o.2) by rw [ho]]
  show zV false l RL cL_enough 3 (some .boolean) false 0 0 0 D T zE0 b gr M.2.2.2 (0, o.1, o.2) 0 0 0 [(0, zr b x0), (1, .int x1), (2, .int x2)] [] M
  unfold fL_enough at h
  refine zV_iload_n (j := 2) dL_enough_0 rfl rfl ?_
  refine zV_iconst (v := 1) dL_enough_1 (by decide) ?_
  refine zV_icmp_eq (tgt := 27) dL_enough_2 (by decide) (fun c1 => ?_) (fun c1 => ?_)
  · replace h := z_t c1 h
    refine zV_pk [] rfl ?_
    exact vL_enough_27 M _ h
  · replace h := z_f c1 h
    refine zV_aload_n (j := 0) dL_enough_5 rfl rfl ?_
    refine zV_iload_n (j := 1) dL_enough_6 rfl rfl ?_
    obtain ⟨g2, h⟩ := zg_of h
    obtain ⟨g3, h⟩ := zg_of h
    refine zV_iald dL_enough_7 g2 g3 ?_
    refine zV_sipush (v := 2048) dL_enough_8 (by decide) ?_
    refine zV_idiv dL_enough_11 (by decide) ?_
    refine zV_iconst (v := 1) dL_enough_12 (by decide) ?_
    refine zV_icmp_eq (tgt := 27) dL_enough_13 (by decide) (fun c4 => ?_) (fun c4 => ?_)
    · replace h := z_t c4 h
      refine zV_pk [] rfl ?_
      exact vL_enough_27 M _ h
    · replace h := z_f c4 h
      refine zV_aload_n (j := 0) dL_enough_16 rfl rfl ?_
      refine zV_iload_n (j := 1) dL_enough_17 rfl rfl ?_
      obtain ⟨g5, h⟩ := zg_of h
      refine zV_iald dL_enough_18 g2 g5 ?_
      refine zV_sipush (v := 2048) dL_enough_19 (by decide) ?_
      refine zV_idiv dL_enough_22 (by decide) ?_
      refine zV_iconst (v := 2) dL_enough_23 (by decide) ?_
      refine zV_icmp_ne (tgt := 31) dL_enough_24 (by decide) (fun c6 => ?_) (fun c6 => ?_)
      · replace h := z_f c6 h
        refine zV_iconst (v := 0) dL_enough_31 (by decide) ?_
        exact zV_zret rfl dL_enough_32 (by decide) (by decide) (Or.inl rfl) (z_ret h)
      · replace h := z_t c6 h
        refine zV_pk [] rfl ?_
        exact vL_enough_27 M _ h
set_option maxHeartbeats 4000000 in
set_option maxRecDepth 100000 in
theorem vL_step_108 {l : Launch} {D : va_G} {T : Nat → ClassId} {b : Nat} {gr : Bool} {n0 : Nat} (k22 : Nat → Nat → Int32 → Int32 → Int32 → Int32 → Int32 → zM → Option (Int32 × zM)) (hk22 : ∀ (z0 : Nat) (z1 : Nat) (z3 : Int32) (z4 : Int32) (z5 : Int32) (z6 : Int32) (z7 : Int32) (N : zM) (o : Int32 × zM), k22 z0 z1 z3 z4 z5 z6 z7 N = some o → zV false l RL cL_step 9 (some .int) false 1 0 0 D T zE0 b gr n0 (0, o.1, o.2) 0 0 22 [(0, zr b z0), (1, zr b z1), (3, .int z3), (4, .int z4), (5, .int z5), (6, .int z6), (7, .int z7)] [] N) (x0 : Nat) (x1 : Nat) (x3 : Int32) (x4 : Int32) (x7 : Int32) (s0 : Int32) (M : zM) (o : Int32 × zM) (h : fL_step_108 k22 x0 x1 x3 x4 x7 s0 M = some o) : zV false l RL cL_step 9 (some .int) false 1 0 0 D T zE0 b gr n0 (0, o.1, o.2) 0 0 108 [(0, zr b x0), (1, zr b x1), (3, .int x3), (4, .int x4), (7, .int x7)] [.int s0] M := by
  unfold fL_step_108 at h
  refine zV_istore [(5, .int s0), (0, zr b x0), (1, zr b x1), (3, .int x3), (4, .int x4), (7, .int x7)] dL_step_108 (by decide) rfl rfl ?_
  refine zV_iconst (v := 0) dL_step_110 (by decide) ?_
  refine zV_istore [(6, .int 0), (5, .int s0), (0, zr b x0), (1, zr b x1), (3, .int x3), (4, .int x4), (7, .int x7)] dL_step_111 (by decide) rfl rfl ?_
  refine zV_goto (tgt := 22) dL_step_113 (by decide) ?_
  refine zV_pk [2, 3, 4, 5, 1, 0, 6] rfl ?_
  exact hk22 x0 x1 x3 x4 s0 0 x7 M _ h
set_option maxHeartbeats 4000000 in
set_option maxRecDepth 100000 in
theorem vL_step_88 {l : Launch} {D : va_G} {T : Nat → ClassId} {b : Nat} {gr : Bool} {n0 : Nat} (k22 : Nat → Nat → Int32 → Int32 → Int32 → Int32 → Int32 → zM → Option (Int32 × zM)) (hk22 : ∀ (z0 : Nat) (z1 : Nat) (z3 : Int32) (z4 : Int32) (z5 : Int32) (z6 : Int32) (z7 : Int32) (N : zM) (o : Int32 × zM), k22 z0 z1 z3 z4 z5 z6 z7 N = some o → zV false l RL cL_step 9 (some .int) false 1 0 0 D T zE0 b gr n0 (0, o.1, o.2) 0 0 22 [(0, zr b z0), (1, zr b z1), (3, .int z3), (4, .int z4), (5, .int z5), (6, .int z6), (7, .int z7)] [] N) (x0 : Nat) (x1 : Nat) (x3 : Int32) (x4 : Int32) (x5 : Int32) (x6 : Int32) (x7 : Int32) (x8 : Int32) (M : zM) (o : Int32 × zM) (h : fL_step_88 k22 x0 x1 x3 x4 x5 x6 x7 x8 M = some o) : zV false l RL cL_step 9 (some .int) false 1 0 0 D T zE0 b gr n0 (0, o.1, o.2) 0 0 88 [(0, zr b x0), (1, zr b x1), (3, .int x3), (4, .int x4), (5, .int x5), (6, .int x6), (7, .int x7), (8, .int x8)] [] M := by
  unfold fL_step_88 at h
  refine zV_aload_n (j := 0) dL_step_88 rfl rfl ?_
  refine zV_iload (j := 7) dL_step_89 rfl ?_
  refine zV_iload (j := 5) dL_step_91 rfl ?_
  obtain ⟨r1, M2, q3, h⟩ := zb_of h
  refine zV_callSi (As := [zr b x0, .int x8, .int x6]) (rest := []) (vL_enough l D T b gr x0 x8 x6 M _ _ q3) zm_yL_enough zl_RL_9 zs_yL_enough rfl rfl (zcs trivial (Nat.le_of_ble_eq_true rfl)) (by decide) (by decide) (by decide) dL_step_93 ?_
  refine zV_if_eq (tgt := 106) dL_step_96 (by decide) (fun c4 => ?_) (fun c4 => ?_)
  · replace h := z_t c4 h
    refine zV_bipush (v := 9) dL_step_106 (by decide) ?_
    refine zV_pk [0, 1, 2, 3, 6] rfl ?_
    exact vL_step_108 k22 hk22 x0 x1 x3 x4 x7 9 M2 _ h
  · replace h := z_f c4 h
    refine zV_iload (j := 4) dL_step_99 rfl ?_
    refine zV_iconst (v := 1) dL_step_101 (by decide) ?_
    refine zV_iadd dL_step_102 ?_
    refine zV_goto (tgt := 108) dL_step_103 (by decide) ?_
    refine zV_pk [0, 1, 2, 3, 6] rfl ?_
    exact vL_step_108 k22 hk22 x0 x1 x3 x4 x7 (x5 + 1) M2 _ h
set_option maxHeartbeats 4000000 in
set_option maxRecDepth 100000 in
theorem vL_step_74 {l : Launch} {D : va_G} {T : Nat → ClassId} {b : Nat} {gr : Bool} {n0 : Nat} (k22 : Nat → Nat → Int32 → Int32 → Int32 → Int32 → Int32 → zM → Option (Int32 × zM)) (hk22 : ∀ (z0 : Nat) (z1 : Nat) (z3 : Int32) (z4 : Int32) (z5 : Int32) (z6 : Int32) (z7 : Int32) (N : zM) (o : Int32 × zM), k22 z0 z1 z3 z4 z5 z6 z7 N = some o → zV false l RL cL_step 9 (some .int) false 1 0 0 D T zE0 b gr n0 (0, o.1, o.2) 0 0 22 [(0, zr b z0), (1, zr b z1), (3, .int z3), (4, .int z4), (5, .int z5), (6, .int z6), (7, .int z7)] [] N) (x0 : Nat) (x1 : Nat) (x3 : Int32) (x4 : Int32) (x5 : Int32) (x6 : Int32) (x8 : Int32) (M : zM) (o : Int32 × zM) (h : fL_step_74 k22 x0 x1 x3 x4 x5 x6 x8 M = some o) : zV false l RL cL_step 9 (some .int) false 1 0 0 D T zE0 b gr n0 (0, o.1, o.2) 0 0 74 [(0, zr b x0), (1, zr b x1), (3, .int x3), (4, .int x4), (5, .int x5), (6, .int x6), (8, .int x8)] [] M := by
  unfold fL_step_74 at h
  refine zV_bipush (v := 16) dL_step_74 (by decide) ?_
  refine zV_iload (j := 3) dL_step_76 rfl ?_
  refine zV_imul dL_step_78 ?_
  refine zV_iconst (v := 2) dL_step_79 (by decide) ?_
  refine zV_iload (j := 4) dL_step_80 rfl ?_
  refine zV_imul dL_step_82 ?_
  refine zV_iadd dL_step_83 ?_
  refine zV_iconst (v := 1) dL_step_84 (by decide) ?_
  refine zV_iadd dL_step_85 ?_
  refine zV_top (fun u5 e6 => ?_)
  replace h := zlet_of h e6
  refine zV_istore [(7, .int u5), (0, zr b x0), (1, zr b x1), (3, .int x3), (4, .int x4), (5, .int x5), (6, .int x6), (8, .int x8)] dL_step_86 (by decide) rfl rfl ?_
  refine zV_pk [1, 2, 3, 4, 5, 6, 0, 7] rfl ?_
  exact vL_step_88 k22 hk22 x0 x1 x3 x4 x5 x6 u5 x8 M _ h
set_option maxHeartbeats 4000000 in
set_option maxRecDepth 100000 in
theorem vL_step_22 {l : Launch} {D : va_G} {T : Nat → ClassId} {b : Nat} {gr : Bool} {n0 : Nat} : ∀ (n : Nat) (x0 : Nat) (x1 : Nat) (x3 : Int32) (x4 : Int32) (x5 : Int32) (x6 : Int32) (x7 : Int32) (M : zM) (o : Int32 × zM), fL_step_22 n x0 x1 x3 x4 x5 x6 x7 M = some o → zV false l RL cL_step 9 (some .int) false 1 0 0 D T zE0 b gr n0 (0, o.1, o.2) 0 0 22 [(0, zr b x0), (1, zr b x1), (3, .int x3), (4, .int x4), (5, .int x5), (6, .int x6), (7, .int x7)] [] M := by
  intro n
  induction n with
  | zero =>
    intro x0 x1 x3 x4 x5 x6 x7 M o h
    rw [fL_step_22] at h
    cases h
  | succ n ih =>
    intro x0 x1 x3 x4 x5 x6 x7 M o h
    rw [fL_step_22] at h
    refine zV_iload (j := 4) dL_step_22 rfl ?_
    refine zV_aload_n (j := 1) dL_step_24 rfl rfl ?_
    refine zV_iload (j := 3) dL_step_25 rfl ?_
    obtain ⟨g7, h⟩ := zg_of h
    obtain ⟨g8, h⟩ := zg_of h
    refine zV_iald dL_step_27 g7 g8 ?_
    refine zV_icmp_ge (tgt := 116) dL_step_28 (by decide) (fun c9 => ?_) (fun c9 => ?_)
    · replace h := z_t c9 h
      refine zV_iload (j := 6) dL_step_116 rfl ?_
      exact zV_iret rfl dL_step_118 (by decide) (by decide) (z_ret h)
    · replace h := z_f c9 h
      refine zV_iload (j := 6) dL_step_31 rfl ?_
      refine zV_if_ge (tgt := 116) dL_step_33 (by decide) (fun c10 => ?_) (fun c10 => ?_)
      · replace h := z_t c10 h
        refine zV_iload (j := 6) dL_step_116 rfl ?_
        exact zV_iret rfl dL_step_118 (by decide) (by decide) (z_ret h)
      · replace h := z_f c10 h
        refine zV_iconst (v := 4) dL_step_36 (by decide) ?_
        refine zV_iload (j := 3) dL_step_37 rfl ?_
        refine zV_imul dL_step_39 ?_
        refine zV_iload (j := 4) dL_step_40 rfl ?_
        refine zV_iadd dL_step_42 ?_
        refine zV_top (fun u11 e12 => ?_)
        replace h := zlet_of h e12
        refine zV_istore [(8, .int u11), (0, zr b x0), (1, zr b x1), (3, .int x3), (4, .int x4), (5, .int x5), (6, .int x6), (7, .int x7)] dL_step_43 (by decide) rfl rfl ?_
        refine zV_aload_n (j := 1) dL_step_45 rfl rfl ?_
        refine zV_iload (j := 0) dL_step_46 rfl ?_
        obtain ⟨g13, h⟩ := zg_of h
        obtain ⟨g14, h⟩ := zg_of h
        refine zV_iald dL_step_48 g13 g14 ?_
        refine zV_iload_n (j := 3) dL_step_49 rfl rfl ?_
        refine zV_ishr dL_step_50 ?_
        refine zV_iconst (v := 1) dL_step_51 (by decide) ?_
        refine zV_iand dL_step_52 ?_
        refine zV_iconst (v := 1) dL_step_53 (by decide) ?_
        refine zV_icmp_ne (tgt := 88) dL_step_54 (by decide) (fun c15 => ?_) (fun c15 => ?_)
        · replace h := z_f c15 h
          refine zV_pk [1, 2, 3, 4, 5, 6, 7, 0] rfl ?_
          exact vL_step_88 (fL_step_22 n) ih x0 x1 x3 x4 x5 x6 x7 u11 M _ h
        · replace h := z_t c15 h
          refine zV_iload (j := 6) dL_step_57 rfl ?_
          refine zV_if_eq (tgt := 74) dL_step_59 (by decide) (fun c16 => ?_) (fun c16 => ?_)
          · replace h := z_t c16 h
            refine zV_pk [1, 2, 3, 4, 5, 6, 0] rfl ?_
            exact vL_step_74 (fL_step_22 n) ih x0 x1 x3 x4 x5 x6 u11 M _ h
          · replace h := z_f c16 h
            refine zV_aload_n (j := 1) dL_step_62 rfl rfl ?_
            refine zV_iload (j := 0) dL_step_63 rfl ?_
            obtain ⟨g17, h⟩ := zg_of h
            refine zV_iald dL_step_65 g13 g17 ?_
            refine zV_sipush (v := 2048) dL_step_66 (by decide) ?_
            refine zV_idiv dL_step_69 (by decide) ?_
            refine zV_iconst (v := 1) dL_step_70 (by decide) ?_
            refine zV_icmp_le (tgt := 88) dL_step_71 (by decide) (fun c18 => ?_) (fun c18 => ?_)
            · replace h := z_t c18 h
              refine zV_pk [1, 2, 3, 4, 5, 6, 7, 0] rfl ?_
              exact vL_step_88 (fL_step_22 n) ih x0 x1 x3 x4 x5 x6 x7 u11 M _ h
            · replace h := z_f c18 h
              refine zV_pk [1, 2, 3, 4, 5, 6, 0] rfl ?_
              exact vL_step_74 (fL_step_22 n) ih x0 x1 x3 x4 x5 x6 u11 M _ h
set_option maxHeartbeats 4000000 in
set_option maxRecDepth 100000 in
theorem vL_step (l : Launch) (D : va_G) (T : Nat → ClassId) (b : Nat) (gr : Bool) (x0 : Nat) (x1 : Nat) (x2 : Int32) (x3 : Int32) (M : zM) (r : Int32) (M' : zM) (h : fL_step x0 x1 x2 x3 M = some (r, M')) : zMet l D T b gr yL_step cL_step 9 (some .int) 1 0 0 [zr b x0, zr b x1, .int x2, .int x3] M (0, r, M') := by
  refine zEntry2 (ev := zE0) rfl false (fun h9 => nomatch h9) zp_yL_step ⟨zr_cat _ _, zr_cat _ _, rfl, rfl, trivial⟩ (Nat.le_of_ble_eq_true rfl) ?_
  obtain ⟨o, ho⟩ : ∃ o : Int32 × zM, o = (r, M') := ⟨_, rfl⟩
  rw [← ho] at h
  rw [show ((0, r, M') : Nat × Int32 × zM) = (0, o.1, o.2) by rw [ho]]
  show zV false l RL cL_step 9 (some .int) false 1 0 0 D T zE0 b gr M.2.2.2 (0, o.1, o.2) 0 0 0 [(0, zr b x0), (1, zr b x1), (2, .int x2), (3, .int x3)] [] M
  unfold fL_step at h
  refine zV_iload_n (j := 2) dL_step_0 rfl rfl ?_
  refine zV_bipush (v := 16) dL_step_1 (by decide) ?_
  refine zV_idiv dL_step_3 (by decide) ?_
  refine zV_top (fun u19 e20 => ?_)
  replace h := zlet_of h e20
  refine zV_istore [(4, .int u19), (0, zr b x0), (1, zr b x1), (2, .int x2), (3, .int x3)] dL_step_4 (by decide) rfl rfl ?_
  refine zV_iload_n (j := 3) dL_step_6 rfl rfl ?_
  refine zV_iconst (v := 2) dL_step_7 (by decide) ?_
  refine zV_idiv dL_step_8 (by decide) ?_
  refine zV_bipush (v := 8) dL_step_9 (by decide) ?_
  refine zV_irem dL_step_11 (by decide) ?_
  refine zV_top (fun u21 e22 => ?_)
  replace h := zlet_of h e22
  refine zV_istore [(5, .int u21), (4, .int u19), (0, zr b x0), (1, zr b x1), (2, .int x2), (3, .int x3)] dL_step_12 (by decide) rfl rfl ?_
  refine zV_iload_n (j := 4) dL_step_14 rfl rfl ?_
  refine zV_iconst (v := 2) dL_step_15 (by decide) ?_
  refine zV_irem dL_step_16 (by decide) ?_
  refine zV_top (fun u23 e24 => ?_)
  replace h := zlet_of h e24
  refine zV_istore [(6, .int u23), (5, .int u21), (4, .int u19), (0, zr b x0), (1, zr b x1), (2, .int x2), (3, .int x3)] dL_step_17 (by decide) rfl rfl ?_
  refine zV_iconst (v := (-1)) dL_step_19 (by decide) ?_
  refine zV_istore [(7, .int (-1)), (6, .int u23), (5, .int u21), (4, .int u19), (0, zr b x0), (1, zr b x1), (2, .int x2), (3, .int x3)] dL_step_20 (by decide) rfl rfl ?_
  refine zV_pk [4, 5, 7, 3, 2, 1, 0] rfl ?_
  exact vL_step_22 10000 x0 x1 x3 u19 u21 u23 (-1) M _ h
set_option maxHeartbeats 4000000 in
set_option maxRecDepth 100000 in
theorem vL_ends_53 {l : Launch} {D : va_G} {T : Nat → ClassId} {b : Nat} {gr : Bool} {n0 : Nat} (k15 : Nat → Nat → Int32 → Int32 → Int32 → Int32 → zM → Option (Int32 × zM)) (hk15 : ∀ (z0 : Nat) (z1 : Nat) (z2 : Int32) (z3 : Int32) (z4 : Int32) (z5 : Int32) (N : zM) (o : Int32 × zM), k15 z0 z1 z2 z3 z4 z5 N = some o → zV false l RL cL_ends 6 (some .boolean) false 1 0 0 D T zE0 b gr n0 (0, o.1, o.2) 0 0 15 [(0, zr b z0), (1, zr b z1), (2, .int z2), (3, .int z3), (4, .int z4), (5, .int z5)] [] N) (x0 : Nat) (x1 : Nat) (x2 : Int32) (x5 : Int32) (s0 : Int32) (M : zM) (o : Int32 × zM) (h : fL_ends_53 k15 x0 x1 x2 x5 s0 M = some o) : zV false l RL cL_ends 6 (some .boolean) false 1 0 0 D T zE0 b gr n0 (0, o.1, o.2) 0 0 53 [(0, zr b x0), (1, zr b x1), (2, .int x2), (5, .int x5)] [.int s0] M := by
  unfold fL_ends_53 at h
  refine zV_istore [(4, .int s0), (0, zr b x0), (1, zr b x1), (2, .int x2), (5, .int x5)] dL_ends_53 (by decide) rfl rfl ?_
  refine zV_iconst (v := 0) dL_ends_55 (by decide) ?_
  refine zV_istore_n [(3, .int 0), (4, .int s0), (0, zr b x0), (1, zr b x1), (2, .int x2), (5, .int x5)] dL_ends_56 rfl (by decide) rfl rfl ?_
  obtain ⟨u1, e2⟩ : ∃ y : Int32, y = x5 + 1 := ⟨_, rfl⟩
  replace h := zlet_of h e2
  refine zV_iinc (j := 5) (v := u1) [(5, .int u1), (3, .int 0), (4, .int s0), (0, zr b x0), (1, zr b x1), (2, .int x2)] dL_ends_57 rfl (by rw [e2]; rfl) (by decide) rfl rfl ?_
  refine zV_goto (tgt := 15) dL_ends_60 (by decide) ?_
  refine zV_pk [3, 4, 5, 1, 2, 0] rfl ?_
  exact hk15 x0 x1 x2 0 s0 u1 M _ h
set_option maxHeartbeats 4000000 in
set_option maxRecDepth 100000 in
theorem vL_ends_52 {l : Launch} {D : va_G} {T : Nat → ClassId} {b : Nat} {gr : Bool} {n0 : Nat} (k15 : Nat → Nat → Int32 → Int32 → Int32 → Int32 → zM → Option (Int32 × zM)) (hk15 : ∀ (z0 : Nat) (z1 : Nat) (z2 : Int32) (z3 : Int32) (z4 : Int32) (z5 : Int32) (N : zM) (o : Int32 × zM), k15 z0 z1 z2 z3 z4 z5 N = some o → zV false l RL cL_ends 6 (some .boolean) false 1 0 0 D T zE0 b gr n0 (0, o.1, o.2) 0 0 15 [(0, zr b z0), (1, zr b z1), (2, .int z2), (3, .int z3), (4, .int z4), (5, .int z5)] [] N) (x0 : Nat) (x1 : Nat) (x2 : Int32) (x5 : Int32) (M : zM) (o : Int32 × zM) (h : fL_ends_52 k15 x0 x1 x2 x5 M = some o) : zV false l RL cL_ends 6 (some .boolean) false 1 0 0 D T zE0 b gr n0 (0, o.1, o.2) 0 0 52 [(0, zr b x0), (1, zr b x1), (2, .int x2), (5, .int x5)] [] M := by
  unfold fL_ends_52 at h
  refine zV_iconst (v := 0) dL_ends_52 (by decide) ?_
  exact vL_ends_53 k15 hk15 x0 x1 x2 x5 0 M _ h
set_option maxHeartbeats 4000000 in
set_option maxRecDepth 100000 in
theorem vL_ends_15 {l : Launch} {D : va_G} {T : Nat → ClassId} {b : Nat} {gr : Bool} {n0 : Nat} : ∀ (n : Nat) (x0 : Nat) (x1 : Nat) (x2 : Int32) (x3 : Int32) (x4 : Int32) (x5 : Int32) (M : zM) (o : Int32 × zM), fL_ends_15 n x0 x1 x2 x3 x4 x5 M = some o → zV false l RL cL_ends 6 (some .boolean) false 1 0 0 D T zE0 b gr n0 (0, o.1, o.2) 0 0 15 [(0, zr b x0), (1, zr b x1), (2, .int x2), (3, .int x3), (4, .int x4), (5, .int x5)] [] M := by
  intro n
  induction n with
  | zero =>
    intro x0 x1 x2 x3 x4 x5 M o h
    rw [fL_ends_15] at h
    cases h
  | succ n ih =>
    intro x0 x1 x2 x3 x4 x5 M o h
    rw [fL_ends_15] at h
    refine zV_iload (j := 5) dL_ends_15 rfl ?_
    refine zV_aload_n (j := 1) dL_ends_17 rfl rfl ?_
    refine zV_iload_n (j := 2) dL_ends_18 rfl rfl ?_
    refine zV_bipush (v := 16) dL_ends_19 (by decide) ?_
    refine zV_idiv dL_ends_21 (by decide) ?_
    obtain ⟨g3, h⟩ := zg_of h
    obtain ⟨g4, h⟩ := zg_of h
    refine zV_iald dL_ends_22 g3 g4 ?_
    refine zV_icmp_ge (tgt := 63) dL_ends_23 (by decide) (fun c5 => ?_) (fun c5 => ?_)
    · replace h := z_t c5 h
      refine zV_iload (j := 4) dL_ends_63 rfl ?_
      obtain ⟨g6, h⟩ := zg_of h
      exact zV_zret rfl dL_ends_65 (by decide) (by decide) g6 (z_ret h)
    · replace h := z_f c5 h
      refine zV_iload (j := 4) dL_ends_26 rfl ?_
      refine zV_if_eq (tgt := 52) dL_ends_28 (by decide) (fun c7 => ?_) (fun c7 => ?_)
      · replace h := z_t c7 h
        refine zV_pk [0, 1, 2, 5] rfl ?_
        exact vL_ends_52 (fL_ends_15 n) ih x0 x1 x2 x5 M _ h
      · replace h := z_f c7 h
        refine zV_aload_n (j := 0) dL_ends_31 rfl rfl ?_
        refine zV_iconst (v := 4) dL_ends_32 (by decide) ?_
        refine zV_iload_n (j := 2) dL_ends_33 rfl rfl ?_
        refine zV_bipush (v := 16) dL_ends_34 (by decide) ?_
        refine zV_idiv dL_ends_36 (by decide) ?_
        refine zV_imul dL_ends_37 ?_
        refine zV_iload (j := 5) dL_ends_38 rfl ?_
        refine zV_iadd dL_ends_40 ?_
        refine zV_iload_n (j := 3) dL_ends_41 rfl rfl ?_
        obtain ⟨r8, M9, q10, h⟩ := zb_of h
        refine zV_callSi (As := [zr b x0, .int ((4 * (x2 / 16)) + x5), .int x3]) (rest := []) (vL_enough l D T b gr x0 ((4 * (x2 / 16)) + x5) x3 M _ _ q10) zm_yL_enough zl_RL_9 zs_yL_enough rfl rfl (zcs trivial (Nat.le_of_ble_eq_true rfl)) (by decide) (by decide) (by decide) dL_ends_42 ?_
        refine zV_if_eq (tgt := 52) dL_ends_45 (by decide) (fun c11 => ?_) (fun c11 => ?_)
        · replace h := z_t c11 h
          refine zV_pk [0, 1, 2, 5] rfl ?_
          exact vL_ends_52 (fL_ends_15 n) ih x0 x1 x2 x5 M9 _ h
        · replace h := z_f c11 h
          refine zV_iconst (v := 1) dL_ends_48 (by decide) ?_
          refine zV_goto (tgt := 53) dL_ends_49 (by decide) ?_
          refine zV_pk [0, 1, 2, 5] rfl ?_
          exact vL_ends_53 (fL_ends_15 n) ih x0 x1 x2 x5 1 M9 _ h
set_option maxHeartbeats 4000000 in
set_option maxRecDepth 100000 in
theorem vL_ends (l : Launch) (D : va_G) (T : Nat → ClassId) (b : Nat) (gr : Bool) (x0 : Nat) (x1 : Nat) (x2 : Int32) (M : zM) (r : Int32) (M' : zM) (h : fL_ends x0 x1 x2 M = some (r, M')) : zMet l D T b gr yL_ends cL_ends 6 (some .boolean) 1 0 0 [zr b x0, zr b x1, .int x2] M (0, r, M') := by
  refine zEntry2 (ev := zE0) rfl false (fun h9 => nomatch h9) zp_yL_ends ⟨zr_cat _ _, zr_cat _ _, rfl, trivial⟩ (Nat.le_of_ble_eq_true rfl) ?_
  obtain ⟨o, ho⟩ : ∃ o : Int32 × zM, o = (r, M') := ⟨_, rfl⟩
  rw [← ho] at h
  rw [show ((0, r, M') : Nat × Int32 × zM) = (0, o.1, o.2) by rw [ho]]
  show zV false l RL cL_ends 6 (some .boolean) false 1 0 0 D T zE0 b gr M.2.2.2 (0, o.1, o.2) 0 0 0 [(0, zr b x0), (1, zr b x1), (2, .int x2)] [] M
  unfold fL_ends at h
  refine zV_iload_n (j := 2) dL_ends_0 rfl rfl ?_
  refine zV_iconst (v := 2) dL_ends_1 (by decide) ?_
  refine zV_irem dL_ends_2 (by decide) ?_
  refine zV_top (fun u12 e13 => ?_)
  replace h := zlet_of h e13
  refine zV_istore_n [(3, .int u12), (0, zr b x0), (1, zr b x1), (2, .int x2)] dL_ends_3 rfl (by decide) rfl rfl ?_
  refine zV_iconst (v := 1) dL_ends_4 (by decide) ?_
  refine zV_istore [(4, .int 1), (3, .int u12), (0, zr b x0), (1, zr b x1), (2, .int x2)] dL_ends_5 (by decide) rfl rfl ?_
  refine zV_iload_n (j := 4) dL_ends_7 rfl rfl ?_
  refine zV_iconst (v := 2) dL_ends_8 (by decide) ?_
  refine zV_idiv dL_ends_9 (by decide) ?_
  refine zV_bipush (v := 8) dL_ends_10 (by decide) ?_
  refine zV_irem dL_ends_12 (by decide) ?_
  refine zV_top (fun u14 e15 => ?_)
  replace h := zlet_of h e15
  refine zV_istore [(5, .int u14), (4, .int 1), (3, .int u12), (0, zr b x0), (1, zr b x1), (2, .int x2)] dL_ends_13 (by decide) rfl rfl ?_
  refine zV_pk [3, 4, 5, 2, 1, 0] rfl ?_
  exact vL_ends_15 10000 x0 x1 x2 u12 1 u14 M _ h
set_option maxHeartbeats 4000000 in
set_option maxRecDepth 100000 in
theorem vL_next_32 {l : Launch} {D : va_G} {T : Nat → ClassId} {b : Nat} {gr : Bool} {n0 : Nat} (k5 : Nat → Nat → Int32 → Int32 → Int32 → zM → Option (Int32 × zM)) (hk5 : ∀ (z0 : Nat) (z1 : Nat) (z2 : Int32) (z3 : Int32) (z4 : Int32) (N : zM) (o : Int32 × zM), k5 z0 z1 z2 z3 z4 N = some o → zV false l RL cL_next 5 (some .int) false 2 0 0 D T zE0 b gr n0 (0, o.1, o.2) 0 0 5 [(0, zr b z0), (1, zr b z1), (2, .int z2), (3, .int z3), (4, .int z4)] [] N) (x0 : Nat) (x1 : Nat) (x2 : Int32) (x4 : Int32) (s0 : Int32) (s1 : Int32) (M : zM) (o : Int32 × zM) (h : fL_next_32 k5 x0 x1 x2 x4 s0 s1 M = some o) : zV false l RL cL_next 5 (some .int) false 2 0 0 D T zE0 b gr n0 (0, o.1, o.2) 0 0 32 [(0, zr b x0), (1, zr b x1), (2, .int x2), (4, .int x4)] [.int s1, .int s0] M := by
  unfold fL_next_32 at h
  refine zV_ior dL_next_32 ?_
  refine zV_top (fun u1 e2 => ?_)
  replace h := zlet_of h e2
  refine zV_istore_n [(3, .int u1), (0, zr b x0), (1, zr b x1), (2, .int x2), (4, .int x4)] dL_next_33 rfl (by decide) rfl rfl ?_
  obtain ⟨u3, e4⟩ : ∃ y : Int32, y = x4 + 1 := ⟨_, rfl⟩
  replace h := zlet_of h e4
  refine zV_iinc (j := 4) (v := u3) [(4, .int u3), (3, .int u1), (0, zr b x0), (1, zr b x1), (2, .int x2)] dL_next_34 rfl (by rw [e4]; rfl) (by decide) rfl rfl ?_
  refine zV_goto (tgt := 5) dL_next_37 (by decide) ?_
  refine zV_pk [2, 3, 4, 1, 0] rfl ?_
  exact hk5 x0 x1 x2 u1 u3 M _ h
set_option maxHeartbeats 4000000 in
set_option maxRecDepth 100000 in
theorem vL_next_5 {l : Launch} {D : va_G} {T : Nat → ClassId} {b : Nat} {gr : Bool} {n0 : Nat} : ∀ (n : Nat) (x0 : Nat) (x1 : Nat) (x2 : Int32) (x3 : Int32) (x4 : Int32) (M : zM) (o : Int32 × zM), fL_next_5 n x0 x1 x2 x3 x4 M = some o → zV false l RL cL_next 5 (some .int) false 2 0 0 D T zE0 b gr n0 (0, o.1, o.2) 0 0 5 [(0, zr b x0), (1, zr b x1), (2, .int x2), (3, .int x3), (4, .int x4)] [] M := by
  intro n
  induction n with
  | zero =>
    intro x0 x1 x2 x3 x4 M o h
    rw [fL_next_5] at h
    cases h
  | succ n ih =>
    intro x0 x1 x2 x3 x4 M o h
    rw [fL_next_5] at h
    refine zV_iload (j := 4) dL_next_5 rfl ?_
    refine zV_bipush (v := 11) dL_next_7 (by decide) ?_
    refine zV_icmp_ge (tgt := 40) dL_next_9 (by decide) (fun c5 => ?_) (fun c5 => ?_)
    · replace h := z_t c5 h
      refine zV_iload_n (j := 3) dL_next_40 rfl rfl ?_
      exact zV_iret rfl dL_next_41 (by decide) (by decide) (z_ret h)
    · replace h := z_f c5 h
      refine zV_iload_n (j := 3) dL_next_12 rfl rfl ?_
      refine zV_aload_n (j := 0) dL_next_13 rfl rfl ?_
      refine zV_aload_n (j := 1) dL_next_14 rfl rfl ?_
      refine zV_iload_n (j := 2) dL_next_15 rfl rfl ?_
      refine zV_iload (j := 4) dL_next_16 rfl ?_
      obtain ⟨r6, M7, q8, h⟩ := zb_of h
      refine zV_callSi (As := [zr b x0, zr b x1, .int x2, .int x4]) (rest := [.int x3]) (vL_step l D T b gr x0 x1 x2 x4 M _ _ q8) zm_yL_step zl_RL_15 zs_yL_step rfl rfl (zcs ⟨rfl, trivial⟩ (Nat.le_of_ble_eq_true rfl)) (by decide) (by decide) (by decide) dL_next_18 ?_
      refine zV_if_ge (tgt := 28) dL_next_21 (by decide) (fun c9 => ?_) (fun c9 => ?_)
      · replace h := z_t c9 h
        refine zV_iconst (v := 1) dL_next_28 (by decide) ?_
        refine zV_iload (j := 4) dL_next_29 rfl ?_
        refine zV_ishl dL_next_31 ?_
        refine zV_pk [0, 1, 2, 4] rfl ?_
        exact vL_next_32 (fL_next_5 n) ih x0 x1 x2 x4 x3 ((1 : Int32) <<< (x4 &&& 31)) M7 _ h
      · replace h := z_f c9 h
        refine zV_iconst (v := 0) dL_next_24 (by decide) ?_
        refine zV_goto (tgt := 32) dL_next_25 (by decide) ?_
        refine zV_pk [0, 1, 2, 4] rfl ?_
        exact vL_next_32 (fL_next_5 n) ih x0 x1 x2 x4 x3 0 M7 _ h
set_option maxHeartbeats 4000000 in
set_option maxRecDepth 100000 in
theorem vL_next (l : Launch) (D : va_G) (T : Nat → ClassId) (b : Nat) (gr : Bool) (x0 : Nat) (x1 : Nat) (x2 : Int32) (M : zM) (r : Int32) (M' : zM) (h : fL_next x0 x1 x2 M = some (r, M')) : zMet l D T b gr yL_next cL_next 5 (some .int) 2 0 0 [zr b x0, zr b x1, .int x2] M (0, r, M') := by
  refine zEntry2 (ev := zE0) rfl false (fun h9 => nomatch h9) zp_yL_next ⟨zr_cat _ _, zr_cat _ _, rfl, trivial⟩ (Nat.le_of_ble_eq_true rfl) ?_
  obtain ⟨o, ho⟩ : ∃ o : Int32 × zM, o = (r, M') := ⟨_, rfl⟩
  rw [← ho] at h
  rw [show ((0, r, M') : Nat × Int32 × zM) = (0, o.1, o.2) by rw [ho]]
  show zV false l RL cL_next 5 (some .int) false 2 0 0 D T zE0 b gr M.2.2.2 (0, o.1, o.2) 0 0 0 [(0, zr b x0), (1, zr b x1), (2, .int x2)] [] M
  unfold fL_next at h
  refine zV_iconst (v := 0) dL_next_0 (by decide) ?_
  refine zV_istore_n [(3, .int 0), (0, zr b x0), (1, zr b x1), (2, .int x2)] dL_next_1 rfl (by decide) rfl rfl ?_
  refine zV_iconst (v := 0) dL_next_2 (by decide) ?_
  refine zV_istore [(4, .int 0), (3, .int 0), (0, zr b x0), (1, zr b x1), (2, .int x2)] dL_next_3 (by decide) rfl rfl ?_
  refine zV_pk [2, 3, 4, 1, 0] rfl ?_
  exact vL_next_5 10000 x0 x1 x2 0 0 M _ h
set_option maxHeartbeats 4000000 in
set_option maxRecDepth 100000 in
theorem vL_fails (l : Launch) (D : va_G) (T : Nat → ClassId) (b : Nat) (gr : Bool) (x0 : Nat) (x1 : Nat) (x2 : Int32) (M : zM) (r : Int32) (M' : zM) (h : fL_fails x0 x1 x2 M = some (r, M')) : zMet l D T b gr yL_fails cL_fails 3 none 0 0 0 [zr b x0, zr b x1, .int x2] M (0, r, M') := by
  refine zEntry2 (ev := zE0) rfl false (fun h9 => nomatch h9) zp_yL_fails ⟨zr_cat _ _, zr_cat _ _, rfl, trivial⟩ (Nat.le_of_ble_eq_true rfl) ?_
  obtain ⟨o, ho⟩ : ∃ o : Int32 × zM, o = (r, M') := ⟨_, rfl⟩
  rw [← ho] at h
  rw [show ((0, r, M') : Nat × Int32 × zM) = (0, o.1, o.2) by rw [ho]]
  show zV false l RL cL_fails 3 none false 0 0 0 D T zE0 b gr M.2.2.2 (0, o.1, o.2) 0 0 0 [(0, zr b x0), (1, zr b x1), (2, .int x2)] [] M
  unfold fL_fails at h
  refine zV_aload_n (j := 0) dL_fails_0 rfl rfl ?_
  refine zV_iconst (v := 5) dL_fails_1 (by decide) ?_
  obtain ⟨g1, h⟩ := zg_of h
  obtain ⟨g2, h⟩ := zg_of h
  refine zV_iald dL_fails_2 g1 g2 ?_
  refine zV_bipush (v := 60) dL_fails_3 (by decide) ?_
  refine zV_icmp_ne (tgt := 16) dL_fails_5 (by decide) (fun c3 => ?_) (fun c3 => ?_)
  · replace h := z_f c3 h
    refine zV_aload_n (j := 1) dL_fails_16 rfl rfl ?_
    refine zV_aload_n (j := 0) dL_fails_17 rfl rfl ?_
    refine zV_iconst (v := 5) dL_fails_18 (by decide) ?_
    obtain ⟨g4, h⟩ := zg_of h
    refine zV_iald dL_fails_19 g1 g4 ?_
    refine zV_bipush (v := 64) dL_fails_20 (by decide) ?_
    refine zV_iload_n (j := 2) dL_fails_22 rfl rfl ?_
    refine zV_imul dL_fails_23 ?_
    refine zV_aload_n (j := 0) dL_fails_24 rfl rfl ?_
    refine zV_bipush (v := 18) dL_fails_25 (by decide) ?_
    obtain ⟨g5, h⟩ := zg_of h
    refine zV_iald dL_fails_27 g1 g5 ?_
    refine zV_iadd dL_fails_28 ?_
    obtain ⟨g6, h⟩ := zg_of h
    obtain ⟨g7, h⟩ := zg_of h
    refine zV_iast dL_fails_29 g6 g7 ?_
    refine zV_mem (fun M8 e9 => ?_)
    replace h := zlet_of h e9
    refine zV_aload_n (j := 0) dL_fails_30 rfl rfl ?_
    refine zV_iconst (v := 5) dL_fails_31 (by decide) ?_
    refine zV_dup2 dL_fails_32 rfl (zr_cat _ _) ?_
    obtain ⟨g10, h⟩ := zg_of h
    refine zV_iald dL_fails_33 (zkI e9 g1) g10 ?_
    refine zV_iconst (v := 1) dL_fails_34 (by decide) ?_
    refine zV_iadd dL_fails_35 ?_
    obtain ⟨g11, h⟩ := zg_of h
    refine zV_iast dL_fails_36 (zkI e9 g1) g11 ?_
    refine zV_mem (fun M12 e13 => ?_)
    replace h := zlet_of h e13
    exact zV_vret (x := 0) rfl dL_fails_37 (by decide) (by decide) (z_ret h)
  · replace h := z_t c3 h
    refine zV_aload_n (j := 0) dL_fails_8 rfl rfl ?_
    refine zV_bipush (v := 6) dL_fails_9 (by decide) ?_
    refine zV_iconst (v := 1) dL_fails_11 (by decide) ?_
    obtain ⟨g14, h⟩ := zg_of h
    refine zV_iast dL_fails_12 g1 g14 ?_
    refine zV_mem (fun M15 e16 => ?_)
    replace h := zlet_of h e16
    refine zV_goto (tgt := 37) dL_fails_13 (by decide) ?_
    exact zV_vret (x := 0) rfl dL_fails_37 (by decide) (by decide) (z_ret h)
set_option maxHeartbeats 4000000 in
set_option maxRecDepth 100000 in
theorem vL_put_43 {l : Launch} {D : va_G} {T : Nat → ClassId} {b : Nat} {gr : Bool} {n0 : Nat} (x0 : Nat) (x4 : Nat) (x5 : Nat) (x7 : Int32) (s0 : Nat) (s1 : Int32) (s2 : Int32) (M : zM) (o : Int32 × zM) (h : fL_put_43 x0 x4 x5 x7 s0 s1 s2 M = some o) : zV false l RL cL_put 8 none false 0 0 0 D T zE0 b gr n0 (0, o.1, o.2) 0 0 43 [(0, zr b x0), (4, zr b x4), (5, zr b x5), (7, .int x7)] [.int s2, .int s1, zr b s0] M := by
  unfold fL_put_43 at h
  obtain ⟨g1, h⟩ := zg_of h
  obtain ⟨g2, h⟩ := zg_of h
  refine zV_iast dL_put_43 g1 g2 ?_
  refine zV_mem (fun M3 e4 => ?_)
  replace h := zlet_of h e4
  refine zV_aload (j := 1) dL_put_44 rfl ?_
  refine zV_aload_n (j := 0) dL_put_46 rfl rfl ?_
  refine zV_iconst (v := 3) dL_put_47 (by decide) ?_
  obtain ⟨g5, h⟩ := zg_of h
  obtain ⟨g6, h⟩ := zg_of h
  refine zV_iald dL_put_48 g5 g6 ?_
  refine zV_iload (j := 3) dL_put_49 rfl ?_
  obtain ⟨g7, h⟩ := zg_of h
  obtain ⟨g8, h⟩ := zg_of h
  refine zV_iast dL_put_51 g7 g8 ?_
  refine zV_mem (fun M9 e10 => ?_)
  replace h := zlet_of h e10
  refine zV_aload (j := 2) dL_put_52 rfl ?_
  refine zV_aload_n (j := 0) dL_put_54 rfl rfl ?_
  refine zV_iconst (v := 3) dL_put_55 (by decide) ?_
  obtain ⟨g11, h⟩ := zg_of h
  refine zV_iald dL_put_56 (zkI e10 g5) g11 ?_
  refine zV_aload_n (j := 0) dL_put_57 rfl rfl ?_
  refine zV_bipush (v := 18) dL_put_58 (by decide) ?_
  obtain ⟨g12, h⟩ := zg_of h
  refine zV_iald dL_put_60 (zkI e10 g5) g12 ?_
  obtain ⟨g13, h⟩ := zg_of h
  obtain ⟨g14, h⟩ := zg_of h
  refine zV_iast dL_put_61 g13 g14 ?_
  refine zV_mem (fun M15 e16 => ?_)
  replace h := zlet_of h e16
  refine zV_aload_n (j := 0) dL_put_62 rfl rfl ?_
  refine zV_iconst (v := 3) dL_put_63 (by decide) ?_
  refine zV_dup2 dL_put_64 rfl (zr_cat _ _) ?_
  obtain ⟨g17, h⟩ := zg_of h
  refine zV_iald dL_put_65 (zkI e16 (zkI e10 g5)) g17 ?_
  refine zV_iconst (v := 1) dL_put_66 (by decide) ?_
  refine zV_iadd dL_put_67 ?_
  obtain ⟨g18, h⟩ := zg_of h
  refine zV_iast dL_put_68 (zkI e16 (zkI e10 g5)) g18 ?_
  refine zV_mem (fun M19 e20 => ?_)
  replace h := zlet_of h e20
  exact zV_vret (x := 0) rfl dL_put_69 (by decide) (by decide) (z_ret h)
set_option maxHeartbeats 4000000 in
set_option maxRecDepth 100000 in
theorem vL_put (l : Launch) (D : va_G) (T : Nat → ClassId) (b : Nat) (gr : Bool) (x0 : Nat) (x1 : Nat) (x2 : Nat) (x3 : Nat) (x4 : Nat) (x5 : Nat) (x6 : Int32) (x7 : Int32) (M : zM) (r : Int32) (M' : zM) (h : fL_put x0 x1 x2 x3 x4 x5 x6 x7 M = some (r, M')) : zMet l D T b gr yL_put cL_put 8 none 0 0 0 [zr b x0, zr b x1, zr b x2, zr b x3, zr b x4, zr b x5, .int x6, .int x7] M (0, r, M') := by
  refine zEntry2 (ev := zE0) rfl false (fun h9 => nomatch h9) zp_yL_put ⟨zr_cat _ _, zr_cat _ _, zr_cat _ _, zr_cat _ _, zr_cat _ _, zr_cat _ _, rfl, rfl, trivial⟩ (Nat.le_of_ble_eq_true rfl) ?_
  obtain ⟨o, ho⟩ : ∃ o : Int32 × zM, o = (r, M') := ⟨_, rfl⟩
  rw [← ho] at h
  rw [show ((0, r, M') : Nat × Int32 × zM) = (0, o.1, o.2) by rw [ho]]
  show zV false l RL cL_put 8 none false 0 0 0 D T zE0 b gr M.2.2.2 (0, o.1, o.2) 0 0 0 [(0, zr b x0), (1, zr b x1), (2, zr b x2), (3, zr b x3), (4, zr b x4), (5, zr b x5), (6, .int x6), (7, .int x7)] [] M
  unfold fL_put at h
  refine zV_aload_n (j := 0) dL_put_0 rfl rfl ?_
  refine zV_iconst (v := 3) dL_put_1 (by decide) ?_
  obtain ⟨g21, h⟩ := zg_of h
  obtain ⟨g22, h⟩ := zg_of h
  refine zV_iald dL_put_2 g21 g22 ?_
  refine zV_bipush (v := 60) dL_put_3 (by decide) ?_
  refine zV_icmp_ne (tgt := 14) dL_put_5 (by decide) (fun c23 => ?_) (fun c23 => ?_)
  · replace h := z_f c23 h
    refine zV_aload_n (j := 2) dL_put_14 rfl rfl ?_
    refine zV_aload_n (j := 0) dL_put_15 rfl rfl ?_
    refine zV_iconst (v := 3) dL_put_16 (by decide) ?_
    obtain ⟨g24, h⟩ := zg_of h
    refine zV_iald dL_put_17 g21 g24 ?_
    refine zV_iload (j := 6) dL_put_18 rfl ?_
    obtain ⟨g25, h⟩ := zg_of h
    obtain ⟨g26, h⟩ := zg_of h
    refine zV_iast dL_put_20 g25 g26 ?_
    refine zV_mem (fun M27 e28 => ?_)
    replace h := zlet_of h e28
    refine zV_aload_n (j := 3) dL_put_21 rfl rfl ?_
    refine zV_aload_n (j := 0) dL_put_22 rfl rfl ?_
    refine zV_iconst (v := 3) dL_put_23 (by decide) ?_
    obtain ⟨g29, h⟩ := zg_of h
    refine zV_iald dL_put_24 (zkI e28 g21) g29 ?_
    refine zV_aload_n (j := 0) dL_put_25 rfl rfl ?_
    refine zV_iconst (v := 0) dL_put_26 (by decide) ?_
    obtain ⟨g30, h⟩ := zg_of h
    refine zV_iald dL_put_27 (zkI e28 g21) g30 ?_
    refine zV_if_ne (tgt := 35) dL_put_28 (by decide) (fun c31 => ?_) (fun c31 => ?_)
    · replace h := z_f c31 h
      refine zV_aload_n (j := 1) dL_put_35 rfl rfl ?_
      refine zV_bipush (v := 19) dL_put_36 (by decide) ?_
      refine zV_aload_n (j := 0) dL_put_38 rfl rfl ?_
      refine zV_iconst (v := 0) dL_put_39 (by decide) ?_
      obtain ⟨g32, h⟩ := zg_of h
      refine zV_iald dL_put_40 (zkI e28 g21) g32 ?_
      refine zV_iadd dL_put_41 ?_
      obtain ⟨g33, h⟩ := zg_of h
      obtain ⟨g34, h⟩ := zg_of h
      refine zV_iald dL_put_42 g33 g34 ?_
      refine zV_pk [0, 4, 5, 7] rfl ?_
      exact vL_put_43 x0 x4 x5 x7 x3 (zI M27 x0 (3 : Int32).toNatClampNeg) (zI M27 x1 (19 + (zI M27 x0 (0 : Int32).toNatClampNeg)).toNatClampNeg) M27 _ h
    · replace h := z_t c31 h
      refine zV_iconst (v := (-1)) dL_put_31 (by decide) ?_
      refine zV_goto (tgt := 43) dL_put_32 (by decide) ?_
      refine zV_pk [0, 4, 5, 7] rfl ?_
      exact vL_put_43 x0 x4 x5 x7 x3 (zI M27 x0 (3 : Int32).toNatClampNeg) (-1) M27 _ h
  · replace h := z_t c23 h
    refine zV_aload_n (j := 0) dL_put_8 rfl rfl ?_
    refine zV_bipush (v := 6) dL_put_9 (by decide) ?_
    refine zV_iconst (v := 1) dL_put_11 (by decide) ?_
    obtain ⟨g35, h⟩ := zg_of h
    refine zV_iast dL_put_12 g21 g35 ?_
    refine zV_mem (fun M36 e37 => ?_)
    replace h := zlet_of h e37
    exact zV_vret (x := 0) rfl dL_put_13 (by decide) (by decide) (z_ret h)
set_option maxHeartbeats 4000000 in
set_option maxRecDepth 100000 in
theorem vL_open_44 {l : Launch} {D : va_G} {T : Nat → ClassId} {b : Nat} {gr : Bool} {n0 : Nat} (x0 : Nat) (x1 : Nat) (x2 : Nat) (x7 : Int32) (s0 : Nat) (s1 : Int32) (s2 : Int32) (s3 : Int32) (M : zM) (o : Int32 × zM) (h : fL_open_44 x0 x1 x2 x7 s0 s1 s2 s3 M = some o) : zV false l RL cL_open 9 none false 1 0 0 D T zE0 b gr n0 (0, o.1, o.2) 0 0 44 [(0, zr b x0), (1, zr b x1), (2, zr b x2), (7, .int x7)] [.int s3, .int s2, .int s1, zr b s0] M := by
  unfold fL_open_44 at h
  refine zV_iadd dL_open_44 ?_
  obtain ⟨g1, h⟩ := zg_of h
  obtain ⟨g2, h⟩ := zg_of h
  refine zV_iast dL_open_45 g1 g2 ?_
  refine zV_mem (fun M3 e4 => ?_)
  replace h := zlet_of h e4
  refine zV_aload_n (j := 1) dL_open_46 rfl rfl ?_
  refine zV_iconst (v := 1) dL_open_47 (by decide) ?_
  refine zV_iload (j := 3) dL_open_48 rfl ?_
  refine zV_iconst (v := 1) dL_open_50 (by decide) ?_
  refine zV_iadd dL_open_51 ?_
  obtain ⟨g5, h⟩ := zg_of h
  obtain ⟨g6, h⟩ := zg_of h
  refine zV_iast dL_open_52 g5 g6 ?_
  refine zV_mem (fun M7 e8 => ?_)
  replace h := zlet_of h e8
  refine zV_aload_n (j := 1) dL_open_53 rfl rfl ?_
  refine zV_iconst (v := 2) dL_open_54 (by decide) ?_
  refine zV_iconst (v := 1) dL_open_55 (by decide) ?_
  obtain ⟨g9, h⟩ := zg_of h
  refine zV_iast dL_open_56 (zkI e8 g5) g9 ?_
  refine zV_mem (fun M10 e11 => ?_)
  replace h := zlet_of h e11
  refine zV_aload_n (j := 0) dL_open_57 rfl rfl ?_
  refine zV_iload (j := 3) dL_open_58 rfl ?_
  obtain ⟨g12, h⟩ := zg_of h
  obtain ⟨g13, h⟩ := zg_of h
  refine zV_iald dL_open_60 g12 g13 ?_
  refine zV_if_le (tgt := 110) dL_open_61 (by decide) (fun c14 => ?_) (fun c14 => ?_)
  · replace h := z_t c14 h
    exact zV_vret (x := 0) rfl dL_open_110 (by decide) (by decide) (z_ret h)
  · replace h := z_f c14 h
    refine zV_aload_n (j := 1) dL_open_64 rfl rfl ?_
    refine zV_iconst (v := 0) dL_open_65 (by decide) ?_
    obtain ⟨g15, h⟩ := zg_of h
    refine zV_iald dL_open_66 (zkI e11 (zkI e8 g5)) g15 ?_
    refine zV_bipush (v := 8) dL_open_67 (by decide) ?_
    refine zV_icmp_le (tgt := 80) dL_open_69 (by decide) (fun c16 => ?_) (fun c16 => ?_)
    · replace h := z_t c16 h
      refine zV_aload_n (j := 2) dL_open_80 rfl rfl ?_
      refine zV_aload_n (j := 1) dL_open_81 rfl rfl ?_
      refine zV_iconst (v := 0) dL_open_82 (by decide) ?_
      obtain ⟨g17, h⟩ := zg_of h
      refine zV_iald dL_open_83 (zkI e11 (zkI e8 g5)) g17 ?_
      refine zV_bipush (v := 16) dL_open_84 (by decide) ?_
      refine zV_iload (j := 3) dL_open_86 rfl ?_
      refine zV_imul dL_open_88 ?_
      obtain ⟨g18, h⟩ := zg_of h
      obtain ⟨g19, h⟩ := zg_of h
      refine zV_iast dL_open_89 g18 g19 ?_
      refine zV_mem (fun M20 e21 => ?_)
      replace h := zlet_of h e21
      refine zV_aload_n (j := 2) dL_open_90 rfl rfl ?_
      refine zV_bipush (v := 20) dL_open_91 (by decide) ?_
      refine zV_aload_n (j := 1) dL_open_93 rfl rfl ?_
      refine zV_iconst (v := 0) dL_open_94 (by decide) ?_
      obtain ⟨g22, h⟩ := zg_of h
      refine zV_iald dL_open_95 (zkI e21 (zkI e11 (zkI e8 g5))) g22 ?_
      refine zV_iadd dL_open_96 ?_
      refine zV_aload_n (j := 1) dL_open_97 rfl rfl ?_
      refine zV_iconst (v := 3) dL_open_98 (by decide) ?_
      obtain ⟨g23, h⟩ := zg_of h
      refine zV_iald dL_open_99 (zkI e21 (zkI e11 (zkI e8 g5))) g23 ?_
      refine zV_iconst (v := 1) dL_open_100 (by decide) ?_
      refine zV_isub dL_open_101 ?_
      obtain ⟨g24, h⟩ := zg_of h
      refine zV_iast dL_open_102 (zkI e21 g18) g24 ?_
      refine zV_mem (fun M25 e26 => ?_)
      replace h := zlet_of h e26
      refine zV_aload_n (j := 1) dL_open_103 rfl rfl ?_
      refine zV_iconst (v := 0) dL_open_104 (by decide) ?_
      refine zV_dup2 dL_open_105 rfl (zr_cat _ _) ?_
      obtain ⟨g27, h⟩ := zg_of h
      refine zV_iald dL_open_106 (zkI e26 (zkI e21 (zkI e11 (zkI e8 g5)))) g27 ?_
      refine zV_iconst (v := 1) dL_open_107 (by decide) ?_
      refine zV_iadd dL_open_108 ?_
      obtain ⟨g28, h⟩ := zg_of h
      refine zV_iast dL_open_109 (zkI e26 (zkI e21 (zkI e11 (zkI e8 g5)))) g28 ?_
      refine zV_mem (fun M29 e30 => ?_)
      replace h := zlet_of h e30
      exact zV_vret (x := 0) rfl dL_open_110 (by decide) (by decide) (z_ret h)
    · replace h := z_f c16 h
      refine zV_aload_n (j := 1) dL_open_72 rfl rfl ?_
      refine zV_bipush (v := 6) dL_open_73 (by decide) ?_
      refine zV_iconst (v := 1) dL_open_75 (by decide) ?_
      obtain ⟨g31, h⟩ := zg_of h
      refine zV_iast dL_open_76 (zkI e11 (zkI e8 g5)) g31 ?_
      refine zV_mem (fun M32 e33 => ?_)
      replace h := zlet_of h e33
      refine zV_goto (tgt := 110) dL_open_77 (by decide) ?_
      exact zV_vret (x := 0) rfl dL_open_110 (by decide) (by decide) (z_ret h)
set_option maxHeartbeats 4000000 in
set_option maxRecDepth 100000 in
theorem vL_open_24 {l : Launch} {D : va_G} {T : Nat → ClassId} {b : Nat} {gr : Bool} {n0 : Nat} (x0 : Nat) (x1 : Nat) (x2 : Nat) (x7 : Int32) (x8 : Int32) (s0 : Nat) (s1 : Nat) (s2 : Nat) (s3 : Nat) (s4 : Nat) (s5 : Nat) (s6 : Int32) (M : zM) (o : Int32 × zM) (h : fL_open_24 x0 x1 x2 x7 x8 s0 s1 s2 s3 s4 s5 s6 M = some o) : zV false l RL cL_open 9 none false 1 0 0 D T zE0 b gr n0 (0, o.1, o.2) 0 0 24 [(0, zr b x0), (1, zr b x1), (2, zr b x2), (7, .int x7), (8, .int x8)] [.int s6, zr b s5, zr b s4, zr b s3, zr b s2, zr b s1, zr b s0] M := by
  unfold fL_open_24 at h
  refine zV_bipush (v := 60) dL_open_24 (by decide) ?_
  obtain ⟨r34, M35, q36, h⟩ := zb_of h
  refine zV_callSv (As := [zr b s0, zr b s1, zr b s2, zr b s3, zr b s4, zr b s5, .int s6, .int 60]) (rest := []) (vL_put l D T b gr s0 s1 s2 s3 s4 s5 s6 60 M _ _ q36) zm_yL_put zl_RL_19 zs_yL_put rfl rfl (zcs trivial (Nat.le_of_ble_eq_true rfl)) (by decide) (by decide) (by decide) dL_open_26 ?_
  refine zV_aload_n (j := 1) dL_open_29 rfl rfl ?_
  refine zV_bipush (v := 17) dL_open_30 (by decide) ?_
  refine zV_dup2 dL_open_32 rfl (zr_cat _ _) ?_
  obtain ⟨g37, h⟩ := zg_of h
  obtain ⟨g38, h⟩ := zg_of h
  refine zV_iald dL_open_33 g37 g38 ?_
  refine zV_iload (j := 4) dL_open_34 rfl ?_
  refine zV_if_eq (tgt := 43) dL_open_36 (by decide) (fun c39 => ?_) (fun c39 => ?_)
  · replace h := z_t c39 h
    refine zV_iconst (v := 0) dL_open_43 (by decide) ?_
    refine zV_pk [0, 1, 2, 3] rfl ?_
    exact vL_open_44 x0 x1 x2 x7 x1 17 (zI M35 x1 (17 : Int32).toNatClampNeg) 0 M35 _ h
  · replace h := z_f c39 h
    refine zV_iconst (v := 1) dL_open_39 (by decide) ?_
    refine zV_goto (tgt := 44) dL_open_40 (by decide) ?_
    refine zV_pk [0, 1, 2, 3] rfl ?_
    exact vL_open_44 x0 x1 x2 x7 x1 17 (zI M35 x1 (17 : Int32).toNatClampNeg) 1 M35 _ h
set_option maxHeartbeats 4000000 in
set_option maxRecDepth 100000 in
theorem vL_open (l : Launch) (D : va_G) (T : Nat → ClassId) (b : Nat) (gr : Bool) (x0 : Nat) (x1 : Nat) (x2 : Nat) (x3 : Nat) (x4 : Nat) (x5 : Nat) (x6 : Nat) (x7 : Int32) (x8 : Int32) (M : zM) (r : Int32) (M' : zM) (h : fL_open x0 x1 x2 x3 x4 x5 x6 x7 x8 M = some (r, M')) : zMet l D T b gr yL_open cL_open 9 none 1 0 0 [zr b x0, zr b x1, zr b x2, zr b x3, zr b x4, zr b x5, zr b x6, .int x7, .int x8] M (0, r, M') := by
  refine zEntry2 (ev := zE0) rfl false (fun h9 => nomatch h9) zp_yL_open ⟨zr_cat _ _, zr_cat _ _, zr_cat _ _, zr_cat _ _, zr_cat _ _, zr_cat _ _, zr_cat _ _, rfl, rfl, trivial⟩ (Nat.le_of_ble_eq_true rfl) ?_
  obtain ⟨o, ho⟩ : ∃ o : Int32 × zM, o = (r, M') := ⟨_, rfl⟩
  rw [← ho] at h
  rw [show ((0, r, M') : Nat × Int32 × zM) = (0, o.1, o.2) by rw [ho]]
  show zV false l RL cL_open 9 none false 1 0 0 D T zE0 b gr M.2.2.2 (0, o.1, o.2) 0 0 0 [(0, zr b x0), (1, zr b x1), (2, zr b x2), (3, zr b x3), (4, zr b x4), (5, zr b x5), (6, zr b x6), (7, .int x7), (8, .int x8)] [] M
  unfold fL_open at h
  refine zV_aload_n (j := 1) dL_open_0 rfl rfl ?_
  refine zV_aload_n (j := 2) dL_open_1 rfl rfl ?_
  refine zV_aload_n (j := 3) dL_open_2 rfl rfl ?_
  refine zV_aload (j := 4) dL_open_3 rfl ?_
  refine zV_aload (j := 5) dL_open_5 rfl ?_
  refine zV_aload (j := 6) dL_open_7 rfl ?_
  refine zV_iload (j := 8) dL_open_9 rfl ?_
  refine zV_if_eq (tgt := 22) dL_open_11 (by decide) (fun c40 => ?_) (fun c40 => ?_)
  · replace h := z_t c40 h
    refine zV_iload (j := 7) dL_open_22 rfl ?_
    refine zV_pk [0, 1, 2, 7, 8] rfl ?_
    exact vL_open_24 x0 x1 x2 x7 x8 x1 x2 x3 x4 x5 x6 x7 M _ h
  · replace h := z_f c40 h
    refine zV_iload (j := 7) dL_open_14 rfl ?_
    refine zV_bipush (v := 32) dL_open_16 (by decide) ?_
    refine zV_iadd dL_open_18 ?_
    refine zV_goto (tgt := 24) dL_open_19 (by decide) ?_
    refine zV_pk [0, 1, 2, 7, 8] rfl ?_
    exact vL_open_24 x0 x1 x2 x7 x8 x1 x2 x3 x4 x5 x6 (x7 + 32) M _ h
set_option maxHeartbeats 4000000 in
set_option maxRecDepth 100000 in
theorem vL_has_44 {l : Launch} {D : va_G} {T : Nat → ClassId} {b : Nat} {gr : Bool} {n0 : Nat} (k6 : Nat → Nat → Nat → Int32 → Int32 → Int32 → Int32 → zM → Option (Int32 × zM)) (hk6 : ∀ (z0 : Nat) (z1 : Nat) (z2 : Nat) (z3 : Int32) (z4 : Int32) (z5 : Int32) (z6 : Int32) (N : zM) (o : Int32 × zM), k6 z0 z1 z2 z3 z4 z5 z6 N = some o → zV false l RL cL_has 7 (some .boolean) false 0 0 0 D T zE0 b gr n0 (0, o.1, o.2) 0 0 6 [(0, zr b z0), (1, zr b z1), (2, zr b z2), (3, .int z3), (4, .int z4), (5, .int z5), (6, .int z6)] [] N) (x0 : Nat) (x1 : Nat) (x2 : Nat) (x3 : Int32) (x4 : Int32) (x6 : Int32) (s0 : Int32) (M : zM) (o : Int32 × zM) (h : fL_has_44 k6 x0 x1 x2 x3 x4 x6 s0 M = some o) : zV false l RL cL_has 7 (some .boolean) false 0 0 0 D T zE0 b gr n0 (0, o.1, o.2) 0 0 44 [(0, zr b x0), (1, zr b x1), (2, zr b x2), (3, .int x3), (4, .int x4), (6, .int x6)] [.int s0] M := by
  unfold fL_has_44 at h
  refine zV_istore [(5, .int s0), (0, zr b x0), (1, zr b x1), (2, zr b x2), (3, .int x3), (4, .int x4), (6, .int x6)] dL_has_44 (by decide) rfl rfl ?_
  obtain ⟨u1, e2⟩ : ∃ y : Int32, y = x6 + 1 := ⟨_, rfl⟩
  replace h := zlet_of h e2
  refine zV_iinc (j := 6) (v := u1) [(6, .int u1), (5, .int s0), (0, zr b x0), (1, zr b x1), (2, zr b x2), (3, .int x3), (4, .int x4)] dL_has_46 rfl (by rw [e2]; rfl) (by decide) rfl rfl ?_
  refine zV_goto (tgt := 6) dL_has_49 (by decide) ?_
  refine zV_pk [2, 3, 4, 5, 6, 1, 0] rfl ?_
  exact hk6 x0 x1 x2 x3 x4 s0 u1 M _ h
set_option maxHeartbeats 4000000 in
set_option maxRecDepth 100000 in
theorem vL_has_39 {l : Launch} {D : va_G} {T : Nat → ClassId} {b : Nat} {gr : Bool} {n0 : Nat} (k6 : Nat → Nat → Nat → Int32 → Int32 → Int32 → Int32 → zM → Option (Int32 × zM)) (hk6 : ∀ (z0 : Nat) (z1 : Nat) (z2 : Nat) (z3 : Int32) (z4 : Int32) (z5 : Int32) (z6 : Int32) (N : zM) (o : Int32 × zM), k6 z0 z1 z2 z3 z4 z5 z6 N = some o → zV false l RL cL_has 7 (some .boolean) false 0 0 0 D T zE0 b gr n0 (0, o.1, o.2) 0 0 6 [(0, zr b z0), (1, zr b z1), (2, zr b z2), (3, .int z3), (4, .int z4), (5, .int z5), (6, .int z6)] [] N) (x0 : Nat) (x1 : Nat) (x2 : Nat) (x3 : Int32) (x4 : Int32) (x6 : Int32) (M : zM) (o : Int32 × zM) (h : fL_has_39 k6 x0 x1 x2 x3 x4 x6 M = some o) : zV false l RL cL_has 7 (some .boolean) false 0 0 0 D T zE0 b gr n0 (0, o.1, o.2) 0 0 39 [(0, zr b x0), (1, zr b x1), (2, zr b x2), (3, .int x3), (4, .int x4), (6, .int x6)] [] M := by
  unfold fL_has_39 at h
  refine zV_iconst (v := 1) dL_has_39 (by decide) ?_
  refine zV_goto (tgt := 44) dL_has_40 (by decide) ?_
  exact vL_has_44 k6 hk6 x0 x1 x2 x3 x4 x6 1 M _ h
set_option maxHeartbeats 4000000 in
set_option maxRecDepth 100000 in
theorem vL_has_6 {l : Launch} {D : va_G} {T : Nat → ClassId} {b : Nat} {gr : Bool} {n0 : Nat} : ∀ (n : Nat) (x0 : Nat) (x1 : Nat) (x2 : Nat) (x3 : Int32) (x4 : Int32) (x5 : Int32) (x6 : Int32) (M : zM) (o : Int32 × zM), fL_has_6 n x0 x1 x2 x3 x4 x5 x6 M = some o → zV false l RL cL_has 7 (some .boolean) false 0 0 0 D T zE0 b gr n0 (0, o.1, o.2) 0 0 6 [(0, zr b x0), (1, zr b x1), (2, zr b x2), (3, .int x3), (4, .int x4), (5, .int x5), (6, .int x6)] [] M := by
  intro n
  induction n with
  | zero =>
    intro x0 x1 x2 x3 x4 x5 x6 M o h
    rw [fL_has_6] at h
    cases h
  | succ n ih =>
    intro x0 x1 x2 x3 x4 x5 x6 M o h
    rw [fL_has_6] at h
    refine zV_iload (j := 6) dL_has_6 rfl ?_
    refine zV_aload_n (j := 1) dL_has_8 rfl rfl ?_
    refine zV_iconst (v := 0) dL_has_9 (by decide) ?_
    obtain ⟨g3, h⟩ := zg_of h
    obtain ⟨g4, h⟩ := zg_of h
    refine zV_iald dL_has_10 g3 g4 ?_
    refine zV_icmp_ge (tgt := 52) dL_has_11 (by decide) (fun c5 => ?_) (fun c5 => ?_)
    · replace h := z_t c5 h
      refine zV_iload (j := 5) dL_has_52 rfl ?_
      obtain ⟨g6, h⟩ := zg_of h
      exact zV_zret rfl dL_has_54 (by decide) (by decide) g6 (z_ret h)
    · replace h := z_f c5 h
      refine zV_iload (j := 5) dL_has_14 rfl ?_
      refine zV_if_ne (tgt := 39) dL_has_16 (by decide) (fun c7 => ?_) (fun c7 => ?_)
      · replace h := z_f c7 h
        refine zV_pk [0, 1, 2, 3, 4, 6] rfl ?_
        exact vL_has_39 (fL_has_6 n) ih x0 x1 x2 x3 x4 x6 M _ h
      · replace h := z_t c7 h
        refine zV_aload_n (j := 0) dL_has_19 rfl rfl ?_
        refine zV_aload_n (j := 2) dL_has_20 rfl rfl ?_
        refine zV_iload (j := 6) dL_has_21 rfl ?_
        obtain ⟨g8, h⟩ := zg_of h
        obtain ⟨g9, h⟩ := zg_of h
        refine zV_iald dL_has_23 g8 g9 ?_
        refine zV_bipush (v := 16) dL_has_24 (by decide) ?_
        refine zV_idiv dL_has_26 (by decide) ?_
        obtain ⟨g10, h⟩ := zg_of h
        obtain ⟨g11, h⟩ := zg_of h
        refine zV_iald dL_has_27 g10 g11 ?_
        refine zV_iload (j := 4) dL_has_28 rfl ?_
        refine zV_iload_n (j := 3) dL_has_30 rfl rfl ?_
        refine zV_iadd dL_has_31 ?_
        refine zV_ishr dL_has_32 ?_
        refine zV_iconst (v := 1) dL_has_33 (by decide) ?_
        refine zV_iand dL_has_34 ?_
        refine zV_iconst (v := 1) dL_has_35 (by decide) ?_
        refine zV_icmp_ne (tgt := 43) dL_has_36 (by decide) (fun c12 => ?_) (fun c12 => ?_)
        · replace h := z_f c12 h
          refine zV_iconst (v := 0) dL_has_43 (by decide) ?_
          refine zV_pk [0, 1, 2, 3, 4, 6] rfl ?_
          exact vL_has_44 (fL_has_6 n) ih x0 x1 x2 x3 x4 x6 0 M _ h
        · replace h := z_t c12 h
          refine zV_pk [0, 1, 2, 3, 4, 6] rfl ?_
          exact vL_has_39 (fL_has_6 n) ih x0 x1 x2 x3 x4 x6 M _ h
set_option maxHeartbeats 4000000 in
set_option maxRecDepth 100000 in
theorem vL_has (l : Launch) (D : va_G) (T : Nat → ClassId) (b : Nat) (gr : Bool) (x0 : Nat) (x1 : Nat) (x2 : Nat) (x3 : Int32) (x4 : Int32) (M : zM) (r : Int32) (M' : zM) (h : fL_has x0 x1 x2 x3 x4 M = some (r, M')) : zMet l D T b gr yL_has cL_has 7 (some .boolean) 0 0 0 [zr b x0, zr b x1, zr b x2, .int x3, .int x4] M (0, r, M') := by
  refine zEntry2 (ev := zE0) rfl false (fun h9 => nomatch h9) zp_yL_has ⟨zr_cat _ _, zr_cat _ _, zr_cat _ _, rfl, rfl, trivial⟩ (Nat.le_of_ble_eq_true rfl) ?_
  obtain ⟨o, ho⟩ : ∃ o : Int32 × zM, o = (r, M') := ⟨_, rfl⟩
  rw [← ho] at h
  rw [show ((0, r, M') : Nat × Int32 × zM) = (0, o.1, o.2) by rw [ho]]
  show zV false l RL cL_has 7 (some .boolean) false 0 0 0 D T zE0 b gr M.2.2.2 (0, o.1, o.2) 0 0 0 [(0, zr b x0), (1, zr b x1), (2, zr b x2), (3, .int x3), (4, .int x4)] [] M
  unfold fL_has at h
  refine zV_iconst (v := 0) dL_has_0 (by decide) ?_
  refine zV_istore [(5, .int 0), (0, zr b x0), (1, zr b x1), (2, zr b x2), (3, .int x3), (4, .int x4)] dL_has_1 (by decide) rfl rfl ?_
  refine zV_iconst (v := 0) dL_has_3 (by decide) ?_
  refine zV_istore [(6, .int 0), (5, .int 0), (0, zr b x0), (1, zr b x1), (2, zr b x2), (3, .int x3), (4, .int x4)] dL_has_4 (by decide) rfl rfl ?_
  refine zV_pk [2, 3, 4, 5, 6, 1, 0] rfl ?_
  exact vL_has_6 10000 x0 x1 x2 x3 x4 0 0 M _ h
set_option maxHeartbeats 4000000 in
set_option maxRecDepth 100000 in
theorem vL_takes_118 {l : Launch} {D : va_G} {T : Nat → ClassId} {b : Nat} {gr : Bool} {n0 : Nat} (M : zM) (o : Int32 × zM) (h : fL_takes_118 M = some o) : zV false l RL cL_takes 8 (some .boolean) false 2 0 0 D T zE0 b gr n0 (0, o.1, o.2) 0 0 118 [] [] M := by
  unfold fL_takes_118 at h
  refine zV_iconst (v := 1) dL_takes_118 (by decide) ?_
  refine zV_goto (tgt := 123) dL_takes_119 (by decide) ?_
  exact zV_zret rfl dL_takes_123 (by decide) (by decide) (Or.inr rfl) (z_ret h)
set_option maxHeartbeats 4000000 in
set_option maxRecDepth 100000 in
theorem vL_takes_88 {l : Launch} {D : va_G} {T : Nat → ClassId} {b : Nat} {gr : Bool} {n0 : Nat} (x2 : Nat) (x3 : Nat) (x4 : Nat) (x5 : Int32) (x6 : Int32) (x7 : Int32) (M : zM) (o : Int32 × zM) (h : fL_takes_88 x2 x3 x4 x5 x6 x7 M = some o) : zV false l RL cL_takes 8 (some .boolean) false 2 0 0 D T zE0 b gr n0 (0, o.1, o.2) 0 0 88 [(2, zr b x2), (3, zr b x3), (4, zr b x4), (5, .int x5), (6, .int x6), (7, .int x7)] [] M := by
  unfold fL_takes_88 at h
  refine zV_iload (j := 5) dL_takes_88 rfl ?_
  refine zV_if_ne (tgt := 122) dL_takes_90 (by decide) (fun c1 => ?_) (fun c1 => ?_)
  · replace h := z_f c1 h
    refine zV_iconst (v := 0) dL_takes_122 (by decide) ?_
    exact zV_zret rfl dL_takes_123 (by decide) (by decide) (Or.inl rfl) (z_ret h)
  · replace h := z_t c1 h
    refine zV_iload (j := 4) dL_takes_93 rfl ?_
    refine zV_if_ge (tgt := 118) dL_takes_95 (by decide) (fun c2 => ?_) (fun c2 => ?_)
    · replace h := z_t c2 h
      refine zV_pk [] rfl ?_
      exact vL_takes_118 M _ h
    · replace h := z_f c2 h
      refine zV_iload (j := 3) dL_takes_98 rfl ?_
      refine zV_bipush (v := 10) dL_takes_100 (by decide) ?_
      refine zV_icmp_ge (tgt := 122) dL_takes_102 (by decide) (fun c3 => ?_) (fun c3 => ?_)
      · replace h := z_t c3 h
        refine zV_iconst (v := 0) dL_takes_122 (by decide) ?_
        exact zV_zret rfl dL_takes_123 (by decide) (by decide) (Or.inl rfl) (z_ret h)
      · replace h := z_f c3 h
        refine zV_aload_n (j := 0) dL_takes_105 rfl rfl ?_
        refine zV_aload_n (j := 1) dL_takes_106 rfl rfl ?_
        refine zV_aload (j := 2) dL_takes_107 rfl ?_
        refine zV_iload (j := 3) dL_takes_109 rfl ?_
        refine zV_iconst (v := 0) dL_takes_111 (by decide) ?_
        obtain ⟨r4, M5, q6, h⟩ := zb_of h
        refine zV_callSi (As := [zr b x2, zr b x3, zr b x4, .int x5, .int 0]) (rest := []) (vL_has l D T b gr x2 x3 x4 x5 0 M _ _ q6) zm_yL_has zl_RL_23 zs_yL_has rfl rfl (zcs trivial (Nat.le_of_ble_eq_true rfl)) (by decide) (by decide) (by decide) dL_takes_112 ?_
        refine zV_if_eq (tgt := 122) dL_takes_115 (by decide) (fun c7 => ?_) (fun c7 => ?_)
        · replace h := z_t c7 h
          refine zV_iconst (v := 0) dL_takes_122 (by decide) ?_
          exact zV_zret rfl dL_takes_123 (by decide) (by decide) (Or.inl rfl) (z_ret h)
        · replace h := z_f c7 h
          refine zV_pk [] rfl ?_
          exact vL_takes_118 M5 _ h
set_option maxHeartbeats 4000000 in
set_option maxRecDepth 100000 in
theorem vL_takes_66 {l : Launch} {D : va_G} {T : Nat → ClassId} {b : Nat} {gr : Bool} {n0 : Nat} (x2 : Nat) (x3 : Nat) (x4 : Nat) (x5 : Int32) (x6 : Int32) (s0 : Int32) (M : zM) (o : Int32 × zM) (h : fL_takes_66 x2 x3 x4 x5 x6 s0 M = some o) : zV false l RL cL_takes 8 (some .boolean) false 2 0 0 D T zE0 b gr n0 (0, o.1, o.2) 0 0 66 [(2, zr b x2), (3, zr b x3), (4, zr b x4), (5, .int x5), (6, .int x6)] [.int s0] M := by
  unfold fL_takes_66 at h
  refine zV_istore [(7, .int s0), (2, zr b x2), (3, zr b x3), (4, zr b x4), (5, .int x5), (6, .int x6)] dL_takes_66 (by decide) rfl rfl ?_
  refine zV_iload (j := 0) dL_takes_68 rfl ?_
  refine zV_if_ne (tgt := 88) dL_takes_70 (by decide) (fun c8 => ?_) (fun c8 => ?_)
  · replace h := z_f c8 h
    refine zV_pk [1, 2, 3, 4, 5, 0] rfl ?_
    exact vL_takes_88 x2 x3 x4 x5 x6 s0 M _ h
  · replace h := z_t c8 h
    refine zV_iload (j := 5) dL_takes_73 rfl ?_
    refine zV_if_lt (tgt := 88) dL_takes_75 (by decide) (fun c9 => ?_) (fun c9 => ?_)
    · replace h := z_t c9 h
      refine zV_pk [1, 2, 3, 4, 5, 0] rfl ?_
      exact vL_takes_88 x2 x3 x4 x5 x6 s0 M _ h
    · replace h := z_f c9 h
      refine zV_aload (j := 3) dL_takes_78 rfl ?_
      refine zV_aload_n (j := 2) dL_takes_80 rfl rfl ?_
      refine zV_iconst (v := 0) dL_takes_81 (by decide) ?_
      obtain ⟨g10, h⟩ := zg_of h
      obtain ⟨g11, h⟩ := zg_of h
      refine zV_iald dL_takes_82 g10 g11 ?_
      refine zV_iconst (v := 1) dL_takes_83 (by decide) ?_
      refine zV_isub dL_takes_84 ?_
      refine zV_iload (j := 5) dL_takes_85 rfl ?_
      obtain ⟨g12, h⟩ := zg_of h
      obtain ⟨g13, h⟩ := zg_of h
      refine zV_iast dL_takes_87 g12 g13 ?_
      refine zV_mem (fun M14 e15 => ?_)
      replace h := zlet_of h e15
      refine zV_pk [1, 2, 3, 4, 5, 0] rfl ?_
      exact vL_takes_88 x2 x3 x4 x5 x6 s0 M14 _ h
set_option maxHeartbeats 4000000 in
set_option maxRecDepth 100000 in
theorem vL_takes_65 {l : Launch} {D : va_G} {T : Nat → ClassId} {b : Nat} {gr : Bool} {n0 : Nat} (x2 : Nat) (x3 : Nat) (x4 : Nat) (x5 : Int32) (x6 : Int32) (M : zM) (o : Int32 × zM) (h : fL_takes_65 x2 x3 x4 x5 x6 M = some o) : zV false l RL cL_takes 8 (some .boolean) false 2 0 0 D T zE0 b gr n0 (0, o.1, o.2) 0 0 65 [(2, zr b x2), (3, zr b x3), (4, zr b x4), (5, .int x5), (6, .int x6)] [] M := by
  unfold fL_takes_65 at h
  refine zV_iconst (v := 0) dL_takes_65 (by decide) ?_
  exact vL_takes_66 x2 x3 x4 x5 x6 0 M _ h
set_option maxHeartbeats 4000000 in
set_option maxRecDepth 100000 in
theorem vL_takes (l : Launch) (D : va_G) (T : Nat → ClassId) (b : Nat) (gr : Bool) (x0 : Nat) (x1 : Nat) (x2 : Nat) (x3 : Nat) (x4 : Nat) (x5 : Int32) (M : zM) (r : Int32) (M' : zM) (h : fL_takes x0 x1 x2 x3 x4 x5 M = some (r, M')) : zMet l D T b gr yL_takes cL_takes 8 (some .boolean) 2 0 0 [zr b x0, zr b x1, zr b x2, zr b x3, zr b x4, .int x5] M (0, r, M') := by
  refine zEntry2 (ev := zE0) rfl false (fun h9 => nomatch h9) zp_yL_takes ⟨zr_cat _ _, zr_cat _ _, zr_cat _ _, zr_cat _ _, zr_cat _ _, rfl, trivial⟩ (Nat.le_of_ble_eq_true rfl) ?_
  obtain ⟨o, ho⟩ : ∃ o : Int32 × zM, o = (r, M') := ⟨_, rfl⟩
  rw [← ho] at h
  rw [show ((0, r, M') : Nat × Int32 × zM) = (0, o.1, o.2) by rw [ho]]
  show zV false l RL cL_takes 8 (some .boolean) false 2 0 0 D T zE0 b gr M.2.2.2 (0, o.1, o.2) 0 0 0 [(0, zr b x0), (1, zr b x1), (2, zr b x2), (3, zr b x3), (4, zr b x4), (5, .int x5)] [] M
  unfold fL_takes at h
  refine zV_aload_n (j := 3) dL_takes_0 rfl rfl ?_
  refine zV_iconst (v := 0) dL_takes_1 (by decide) ?_
  obtain ⟨g16, h⟩ := zg_of h
  obtain ⟨g17, h⟩ := zg_of h
  refine zV_iald dL_takes_2 g16 g17 ?_
  refine zV_if_ne (tgt := 23) dL_takes_3 (by decide) (fun c18 => ?_) (fun c18 => ?_)
  · replace h := z_f c18 h
    refine zV_aload_n (j := 0) dL_takes_23 rfl rfl ?_
    refine zV_aload_n (j := 1) dL_takes_24 rfl rfl ?_
    refine zV_aload (j := 4) dL_takes_25 rfl ?_
    refine zV_aload_n (j := 3) dL_takes_27 rfl rfl ?_
    refine zV_iconst (v := 0) dL_takes_28 (by decide) ?_
    obtain ⟨g19, h⟩ := zg_of h
    refine zV_iald dL_takes_29 g16 g19 ?_
    refine zV_iconst (v := 1) dL_takes_30 (by decide) ?_
    refine zV_isub dL_takes_31 ?_
    obtain ⟨g20, h⟩ := zg_of h
    obtain ⟨g21, h⟩ := zg_of h
    refine zV_iald dL_takes_32 g20 g21 ?_
    refine zV_iload (j := 5) dL_takes_33 rfl ?_
    obtain ⟨r22, M23, q24, h⟩ := zb_of h
    refine zV_callSi (As := [zr b x0, zr b x1, .int (zI M x4 ((zI M x3 (0 : Int32).toNatClampNeg) - 1).toNatClampNeg), .int x5]) (rest := []) (vL_step l D T b gr x0 x1 (zI M x4 ((zI M x3 (0 : Int32).toNatClampNeg) - 1).toNatClampNeg) x5 M _ _ q24) zm_yL_step zl_RL_15 zs_yL_step rfl rfl (zcs trivial (Nat.le_of_ble_eq_true rfl)) (by decide) (by decide) (by decide) dL_takes_35 ?_
    refine zV_istore [(6, .int r22), (0, zr b x0), (1, zr b x1), (2, zr b x2), (3, zr b x3), (4, zr b x4), (5, .int x5)] dL_takes_38 (by decide) rfl rfl ?_
    refine zV_iload (j := 6) dL_takes_40 rfl ?_
    refine zV_bipush (v := 10) dL_takes_42 (by decide) ?_
    refine zV_icmp_ge (tgt := 65) dL_takes_44 (by decide) (fun c25 => ?_) (fun c25 => ?_)
    · replace h := z_t c25 h
      refine zV_pk [3, 4, 5, 6, 0] rfl ?_
      exact vL_takes_65 x2 x3 x4 x5 r22 M23 _ h
    · replace h := z_f c25 h
      refine zV_aload_n (j := 3) dL_takes_47 rfl rfl ?_
      refine zV_aload_n (j := 4) dL_takes_48 rfl rfl ?_
      refine zV_aload (j := 5) dL_takes_49 rfl ?_
      refine zV_iload (j := 6) dL_takes_51 rfl ?_
      refine zV_bipush (v := 10) dL_takes_53 (by decide) ?_
      obtain ⟨r26, M27, q28, h⟩ := zb_of h
      refine zV_callSi (As := [zr b x2, zr b x3, zr b x4, .int x5, .int 10]) (rest := []) (vL_has l D T b gr x2 x3 x4 x5 10 M23 _ _ q28) zm_yL_has zl_RL_23 zs_yL_has rfl rfl (zcs trivial (Nat.le_of_ble_eq_true rfl)) (by decide) (by decide) (by decide) dL_takes_55 ?_
      refine zV_if_eq (tgt := 65) dL_takes_58 (by decide) (fun c29 => ?_) (fun c29 => ?_)
      · replace h := z_t c29 h
        refine zV_pk [3, 4, 5, 6, 0] rfl ?_
        exact vL_takes_65 x2 x3 x4 x5 r22 M27 _ h
      · replace h := z_f c29 h
        refine zV_iconst (v := 1) dL_takes_61 (by decide) ?_
        refine zV_goto (tgt := 66) dL_takes_62 (by decide) ?_
        refine zV_pk [3, 4, 5, 6, 0] rfl ?_
        exact vL_takes_66 x2 x3 x4 x5 r22 1 M27 _ h
  · replace h := z_t c18 h
    refine zV_aload_n (j := 3) dL_takes_6 rfl rfl ?_
    refine zV_iconst (v := 2) dL_takes_7 (by decide) ?_
    obtain ⟨g30, h⟩ := zg_of h
    refine zV_iald dL_takes_8 g16 g30 ?_
    refine zV_if_ne (tgt := 21) dL_takes_9 (by decide) (fun c31 => ?_) (fun c31 => ?_)
    · replace h := z_f c31 h
      refine zV_iconst (v := 0) dL_takes_21 (by decide) ?_
      exact zV_zret rfl dL_takes_22 (by decide) (by decide) (Or.inl rfl) (z_ret h)
    · replace h := z_t c31 h
      refine zV_iload (j := 5) dL_takes_12 rfl ?_
      refine zV_if_ne (tgt := 21) dL_takes_14 (by decide) (fun c32 => ?_) (fun c32 => ?_)
      · replace h := z_f c32 h
        refine zV_iconst (v := 0) dL_takes_21 (by decide) ?_
        exact zV_zret rfl dL_takes_22 (by decide) (by decide) (Or.inl rfl) (z_ret h)
      · replace h := z_t c32 h
        refine zV_iconst (v := 1) dL_takes_17 (by decide) ?_
        refine zV_goto (tgt := 22) dL_takes_18 (by decide) ?_
        exact zV_zret rfl dL_takes_22 (by decide) (by decide) (Or.inr rfl) (z_ret h)
