set_option maxHeartbeats 4000000 in
set_option maxRecDepth 100000 in
theorem vL_wanted_103 {l : Launch} {D : va_G} {T : Nat → ClassId} {b : Nat} {gr : Bool} {n0 : Nat} (k47 : Nat → Nat → Nat → Nat → Int32 → Int32 → Int32 → zM → Option (Int32 × zM)) (hk47 : ∀ (z1 : Nat) (z2 : Nat) (z3 : Nat) (z4 : Nat) (z5 : Int32) (z6 : Int32) (z7 : Int32) (N : zM) (o : Int32 × zM), k47 z1 z2 z3 z4 z5 z6 z7 N = some o → zV false l RL cL_wanted 8 (some .int) false 3 0 0 D T zE0 b gr n0 (0, o.1, o.2) 0 0 47 [(1, zr b z1), (2, zr b z2), (3, zr b z3), (4, zr b z4), (5, .int z5), (6, .int z6), (7, .int z7)] [] N) (x1 : Nat) (x2 : Nat) (x3 : Nat) (x4 : Nat) (x5 : Int32) (x7 : Int32) (s0 : Int32) (M : zM) (o : Int32 × zM) (h : fL_wanted_103 k47 x1 x2 x3 x4 x5 x7 s0 M = some o) : zV false l RL cL_wanted 8 (some .int) false 3 0 0 D T zE0 b gr n0 (0, o.1, o.2) 0 0 103 [(1, zr b x1), (2, zr b x2), (3, zr b x3), (4, zr b x4), (5, .int x5), (7, .int x7)] [.int s0] M := by
  unfold fL_wanted_103 at h
  refine zV_istore [(6, .int s0), (1, zr b x1), (2, zr b x2), (3, zr b x3), (4, zr b x4), (5, .int x5), (7, .int x7)] dL_wanted_103 (by decide) rfl rfl ?_
  obtain ⟨u1, e2⟩ : ∃ y : Int32, y = x7 + 1 := ⟨_, rfl⟩
  replace h := zlet_of h e2
  refine zV_iinc (j := 6) (v := u1) [(7, .int u1), (6, .int s0), (1, zr b x1), (2, zr b x2), (3, zr b x3), (4, zr b x4), (5, .int x5)] dL_wanted_105 rfl (by rw [e2]; rfl) (by decide) rfl rfl ?_
  refine zV_goto (tgt := 47) dL_wanted_108 (by decide) ?_
  refine zV_pk [2, 3, 4, 5, 6, 1, 0] rfl ?_
  exact hk47 x1 x2 x3 x4 x5 s0 u1 M _ h
set_option maxHeartbeats 4000000 in
set_option maxRecDepth 100000 in
theorem vL_wanted_101 {l : Launch} {D : va_G} {T : Nat → ClassId} {b : Nat} {gr : Bool} {n0 : Nat} (k47 : Nat → Nat → Nat → Nat → Int32 → Int32 → Int32 → zM → Option (Int32 × zM)) (hk47 : ∀ (z1 : Nat) (z2 : Nat) (z3 : Nat) (z4 : Nat) (z5 : Int32) (z6 : Int32) (z7 : Int32) (N : zM) (o : Int32 × zM), k47 z1 z2 z3 z4 z5 z6 z7 N = some o → zV false l RL cL_wanted 8 (some .int) false 3 0 0 D T zE0 b gr n0 (0, o.1, o.2) 0 0 47 [(1, zr b z1), (2, zr b z2), (3, zr b z3), (4, zr b z4), (5, .int z5), (6, .int z6), (7, .int z7)] [] N) (x1 : Nat) (x2 : Nat) (x3 : Nat) (x4 : Nat) (x5 : Int32) (x6 : Int32) (x7 : Int32) (M : zM) (o : Int32 × zM) (h : fL_wanted_101 k47 x1 x2 x3 x4 x5 x6 x7 M = some o) : zV false l RL cL_wanted 8 (some .int) false 3 0 0 D T zE0 b gr n0 (0, o.1, o.2) 0 0 101 [(1, zr b x1), (2, zr b x2), (3, zr b x3), (4, zr b x4), (5, .int x5), (6, .int x6), (7, .int x7)] [] M := by
  unfold fL_wanted_101 at h
  refine zV_iload (j := 5) dL_wanted_101 rfl ?_
  refine zV_pk [0, 1, 2, 3, 4, 6] rfl ?_
  exact vL_wanted_103 k47 hk47 x1 x2 x3 x4 x5 x7 x6 M _ h
set_option maxHeartbeats 4000000 in
set_option maxRecDepth 100000 in
theorem vL_wanted_47 {l : Launch} {D : va_G} {T : Nat → ClassId} {b : Nat} {gr : Bool} {n0 : Nat} : ∀ (n : Nat) (x1 : Nat) (x2 : Nat) (x3 : Nat) (x4 : Nat) (x5 : Int32) (x6 : Int32) (x7 : Int32) (M : zM) (o : Int32 × zM), fL_wanted_47 n x1 x2 x3 x4 x5 x6 x7 M = some o → zV false l RL cL_wanted 8 (some .int) false 3 0 0 D T zE0 b gr n0 (0, o.1, o.2) 0 0 47 [(1, zr b x1), (2, zr b x2), (3, zr b x3), (4, zr b x4), (5, .int x5), (6, .int x6), (7, .int x7)] [] M := by
  intro n
  induction n with
  | zero =>
    intro x1 x2 x3 x4 x5 x6 x7 M o h
    rw [fL_wanted_47] at h
    cases h
  | succ n ih =>
    intro x1 x2 x3 x4 x5 x6 x7 M o h
    rw [fL_wanted_47] at h
    refine zV_iload (j := 6) dL_wanted_47 rfl ?_
    refine zV_iconst (v := 5) dL_wanted_49 (by decide) ?_
    refine zV_icmp_ge (tgt := 111) dL_wanted_50 (by decide) (fun c3 => ?_) (fun c3 => ?_)
    · replace h := z_t c3 h
      refine zV_iload (j := 5) dL_wanted_111 rfl ?_
      exact zV_iret rfl dL_wanted_113 (by decide) (by decide) (z_ret h)
    · replace h := z_f c3 h
      refine zV_iload (j := 4) dL_wanted_53 rfl ?_
      refine zV_iconst (v := 1) dL_wanted_55 (by decide) ?_
      refine zV_iload (j := 6) dL_wanted_56 rfl ?_
      refine zV_ishl dL_wanted_58 ?_
      refine zV_icmp_ne (tgt := 101) dL_wanted_59 (by decide) (fun c4 => ?_) (fun c4 => ?_)
      · replace h := z_f c4 h
        exact vL_wanted_101 (fL_wanted_47 n) ih x1 x2 x3 x4 x5 x6 x7 M _ h
      · replace h := z_t c4 h
        refine zV_aload_n (j := 0) dL_wanted_62 rfl rfl ?_
        refine zV_iload (j := 6) dL_wanted_63 rfl ?_
        obtain ⟨g5, h⟩ := zg_of h
        obtain ⟨g6, h⟩ := zg_of h
        refine zV_iald dL_wanted_65 g5 g6 ?_
        refine zV_if_le (tgt := 101) dL_wanted_66 (by decide) (fun c7 => ?_) (fun c7 => ?_)
        · replace h := z_t c7 h
          exact vL_wanted_101 (fL_wanted_47 n) ih x1 x2 x3 x4 x5 x6 x7 M _ h
        · replace h := z_f c7 h
          refine zV_aload_n (j := 1) dL_wanted_69 rfl rfl ?_
          refine zV_iload (j := 6) dL_wanted_70 rfl ?_
          obtain ⟨g8, h⟩ := zg_of h
          obtain ⟨g9, h⟩ := zg_of h
          refine zV_iald dL_wanted_72 g8 g9 ?_
          refine zV_bipush (v := 20) dL_wanted_73 (by decide) ?_
          refine zV_ishr dL_wanted_75 ?_
          refine zV_iconst (v := 1) dL_wanted_76 (by decide) ?_
          refine zV_iand dL_wanted_77 ?_
          refine zV_iconst (v := 1) dL_wanted_78 (by decide) ?_
          refine zV_icmp_ne (tgt := 101) dL_wanted_79 (by decide) (fun c10 => ?_) (fun c10 => ?_)
          · replace h := z_f c10 h
            exact vL_wanted_101 (fL_wanted_47 n) ih x1 x2 x3 x4 x5 x6 x7 M _ h
          · replace h := z_t c10 h
            refine zV_aload_n (j := 1) dL_wanted_82 rfl rfl ?_
            refine zV_aload_n (j := 2) dL_wanted_83 rfl rfl ?_
            refine zV_aload (j := 3) dL_wanted_84 rfl ?_
            refine zV_iload (j := 6) dL_wanted_86 rfl ?_
            refine zV_bipush (v := 10) dL_wanted_88 (by decide) ?_
            obtain ⟨r11, M12, q13, h⟩ := zb_of h
            refine zV_callSi (As := [zr b x2, zr b x3, zr b x4, .int x7, .int 10]) (rest := []) (vL_has l D T b gr x2 x3 x4 x7 10 M _ _ q13) zm_yL_has zl_RL_23 zs_yL_has rfl rfl (zcs trivial (Nat.le_of_ble_eq_true rfl)) (by decide) (by decide) (by decide) dL_wanted_90 ?_
            refine zV_if_ne (tgt := 101) dL_wanted_93 (by decide) (fun c14 => ?_) (fun c14 => ?_)
            · replace h := z_f c14 h
              exact vL_wanted_101 (fL_wanted_47 n) ih x1 x2 x3 x4 x5 x6 x7 M12 _ h
            · replace h := z_t c14 h
              refine zV_iload (j := 6) dL_wanted_96 rfl ?_
              refine zV_goto (tgt := 103) dL_wanted_98 (by decide) ?_
              refine zV_pk [0, 1, 2, 3, 4, 6] rfl ?_
              exact vL_wanted_103 (fL_wanted_47 n) ih x1 x2 x3 x4 x5 x7 x7 M12 _ h
set_option maxHeartbeats 4000000 in
set_option maxRecDepth 100000 in
theorem vL_wanted_39 {l : Launch} {D : va_G} {T : Nat → ClassId} {b : Nat} {gr : Bool} {n0 : Nat} (x1 : Nat) (x2 : Nat) (x3 : Nat) (x4 : Nat) (s0 : Int32) (M : zM) (o : Int32 × zM) (h : fL_wanted_39 x1 x2 x3 x4 s0 M = some o) : zV false l RL cL_wanted 8 (some .int) false 3 0 0 D T zE0 b gr n0 (0, o.1, o.2) 0 0 39 [(1, zr b x1), (2, zr b x2), (3, zr b x3), (4, zr b x4)] [.int s0] M := by
  unfold fL_wanted_39 at h
  refine zV_istore [(5, .int s0), (1, zr b x1), (2, zr b x2), (3, zr b x3), (4, zr b x4)] dL_wanted_39 (by decide) rfl rfl ?_
  refine zV_iconst (v := (-1)) dL_wanted_41 (by decide) ?_
  refine zV_istore [(6, .int (-1)), (5, .int s0), (1, zr b x1), (2, zr b x2), (3, zr b x3), (4, zr b x4)] dL_wanted_42 (by decide) rfl rfl ?_
  refine zV_iconst (v := 0) dL_wanted_44 (by decide) ?_
  refine zV_istore [(7, .int 0), (6, .int (-1)), (5, .int s0), (1, zr b x1), (2, zr b x2), (3, zr b x3), (4, zr b x4)] dL_wanted_45 (by decide) rfl rfl ?_
  refine zV_pk [3, 4, 5, 6, 2, 1, 0] rfl ?_
  exact vL_wanted_47 10000 x1 x2 x3 x4 s0 (-1) 0 M _ h
set_option maxHeartbeats 4000000 in
set_option maxRecDepth 100000 in
theorem vL_wanted_22 {l : Launch} {D : va_G} {T : Nat → ClassId} {b : Nat} {gr : Bool} {n0 : Nat} (x1 : Nat) (x2 : Nat) (x3 : Nat) (x4 : Nat) (M : zM) (o : Int32 × zM) (h : fL_wanted_22 x1 x2 x3 x4 M = some o) : zV false l RL cL_wanted 8 (some .int) false 3 0 0 D T zE0 b gr n0 (0, o.1, o.2) 0 0 22 [(1, zr b x1), (2, zr b x2), (3, zr b x3), (4, zr b x4)] [] M := by
  unfold fL_wanted_22 at h
  refine zV_iconst (v := 0) dL_wanted_22 (by decide) ?_
  refine zV_goto (tgt := 39) dL_wanted_23 (by decide) ?_
  exact vL_wanted_39 x1 x2 x3 x4 0 M _ h
set_option maxHeartbeats 4000000 in
set_option maxRecDepth 100000 in
theorem vL_wanted (l : Launch) (D : va_G) (T : Nat → ClassId) (b : Nat) (gr : Bool) (x0 : Nat) (x1 : Nat) (x2 : Nat) (x3 : Nat) (x4 : Nat) (M : zM) (r : Int32) (M' : zM) (h : fL_wanted x0 x1 x2 x3 x4 M = some (r, M')) : zMet l D T b gr yL_wanted cL_wanted 8 (some .int) 3 0 0 [zr b x0, zr b x1, zr b x2, zr b x3, zr b x4] M (0, r, M') := by
  refine zEntry2 (ev := zE0) rfl false (fun h9 => nomatch h9) zp_yL_wanted ⟨zr_cat _ _, zr_cat _ _, zr_cat _ _, zr_cat _ _, zr_cat _ _, trivial⟩ (Nat.le_of_ble_eq_true rfl) ?_
  obtain ⟨o, ho⟩ : ∃ o : Int32 × zM, o = (r, M') := ⟨_, rfl⟩
  rw [← ho] at h
  rw [show ((0, r, M') : Nat × Int32 × zM) = (0, o.1, o.2) by rw [ho]]
  show zV false l RL cL_wanted 8 (some .int) false 3 0 0 D T zE0 b gr M.2.2.2 (0, o.1, o.2) 0 0 0 [(0, zr b x0), (1, zr b x1), (2, zr b x2), (3, zr b x3), (4, zr b x4)] [] M
  unfold fL_wanted at h
  refine zV_aload_n (j := 3) dL_wanted_0 rfl rfl ?_
  refine zV_iconst (v := 0) dL_wanted_1 (by decide) ?_
  obtain ⟨g15, h⟩ := zg_of h
  obtain ⟨g16, h⟩ := zg_of h
  refine zV_iald dL_wanted_2 g15 g16 ?_
  refine zV_if_eq (tgt := 22) dL_wanted_3 (by decide) (fun c17 => ?_) (fun c17 => ?_)
  · replace h := z_t c17 h
    refine zV_pk [1, 2, 3, 4] rfl ?_
    exact vL_wanted_22 x1 x2 x3 x4 M _ h
  · replace h := z_f c17 h
    refine zV_aload_n (j := 0) dL_wanted_6 rfl rfl ?_
    refine zV_aload_n (j := 1) dL_wanted_7 rfl rfl ?_
    refine zV_aload (j := 4) dL_wanted_8 rfl ?_
    refine zV_aload_n (j := 3) dL_wanted_10 rfl rfl ?_
    refine zV_iconst (v := 0) dL_wanted_11 (by decide) ?_
    obtain ⟨g18, h⟩ := zg_of h
    refine zV_iald dL_wanted_12 g15 g18 ?_
    refine zV_iconst (v := 1) dL_wanted_13 (by decide) ?_
    refine zV_isub dL_wanted_14 ?_
    obtain ⟨g19, h⟩ := zg_of h
    obtain ⟨g20, h⟩ := zg_of h
    refine zV_iald dL_wanted_15 g19 g20 ?_
    obtain ⟨r21, M22, q23, h⟩ := zb_of h
    refine zV_callSi (As := [zr b x0, zr b x1, .int (zI M x4 ((zI M x3 (0 : Int32).toNatClampNeg) - 1).toNatClampNeg)]) (rest := []) (vL_ends l D T b gr x0 x1 (zI M x4 ((zI M x3 (0 : Int32).toNatClampNeg) - 1).toNatClampNeg) M _ _ q23) zm_yL_ends zl_RL_27 zs_yL_ends rfl rfl (zcs trivial (Nat.le_of_ble_eq_true rfl)) (by decide) (by decide) (by decide) dL_wanted_16 ?_
    refine zV_if_eq (tgt := 26) dL_wanted_19 (by decide) (fun c24 => ?_) (fun c24 => ?_)
    · replace h := z_t c24 h
      refine zV_aload_n (j := 0) dL_wanted_26 rfl rfl ?_
      refine zV_aload_n (j := 1) dL_wanted_27 rfl rfl ?_
      refine zV_aload (j := 4) dL_wanted_28 rfl ?_
      refine zV_aload_n (j := 3) dL_wanted_30 rfl rfl ?_
      refine zV_iconst (v := 0) dL_wanted_31 (by decide) ?_
      obtain ⟨g25, h⟩ := zg_of h
      obtain ⟨g26, h⟩ := zg_of h
      refine zV_iald dL_wanted_32 g25 g26 ?_
      refine zV_iconst (v := 1) dL_wanted_33 (by decide) ?_
      refine zV_isub dL_wanted_34 ?_
      obtain ⟨g27, h⟩ := zg_of h
      obtain ⟨g28, h⟩ := zg_of h
      refine zV_iald dL_wanted_35 g27 g28 ?_
      obtain ⟨r29, M30, q31, h⟩ := zb_of h
      refine zV_callSi (As := [zr b x0, zr b x1, .int (zI M22 x4 ((zI M22 x3 (0 : Int32).toNatClampNeg) - 1).toNatClampNeg)]) (rest := []) (vL_next l D T b gr x0 x1 (zI M22 x4 ((zI M22 x3 (0 : Int32).toNatClampNeg) - 1).toNatClampNeg) M22 _ _ q31) zm_yL_next zl_RL_31 zs_yL_next rfl rfl (zcs trivial (Nat.le_of_ble_eq_true rfl)) (by decide) (by decide) (by decide) dL_wanted_36 ?_
      refine zV_pk [1, 2, 3, 4] rfl ?_
      exact vL_wanted_39 x1 x2 x3 x4 r29 M30 _ h
    · replace h := z_f c24 h
      refine zV_pk [1, 2, 3, 4] rfl ?_
      exact vL_wanted_22 x1 x2 x3 x4 M22 _ h
set_option maxHeartbeats 4000000 in
set_option maxRecDepth 100000 in
theorem vL_thing_268 {l : Launch} {D : va_G} {T : Nat → ClassId} {b : Nat} {gr : Bool} {n0 : Nat} (k6 : Nat → Nat → Nat → Nat → Nat → Nat → Nat → Nat → Nat → Nat → Int32 → Int32 → Int32 → Int32 → zM → Option (Int32 × zM)) (hk6 : ∀ (z0 : Nat) (z1 : Nat) (z2 : Nat) (z3 : Nat) (z4 : Nat) (z5 : Nat) (z6 : Nat) (z7 : Nat) (z8 : Nat) (z9 : Nat) (z10 : Int32) (z11 : Int32) (z12 : Int32) (z13 : Int32) (N : zM) (o : Int32 × zM), k6 z0 z1 z2 z3 z4 z5 z6 z7 z8 z9 z10 z11 z12 z13 N = some o → zV false l RL cL_thing 15 none false 4 0 0 D T zE0 b gr n0 (0, o.1, o.2) 0 0 6 [(0, zr b z0), (1, zr b z1), (2, zr b z2), (3, zr b z3), (4, zr b z4), (5, zr b z5), (6, zr b z6), (7, zr b z7), (8, zr b z8), (9, zr b z9), (10, .int z10), (11, .int z11), (12, .int z12), (13, .int z13)] [] N) (x0 : Nat) (x1 : Nat) (x2 : Nat) (x3 : Nat) (x4 : Nat) (x5 : Nat) (x6 : Nat) (x7 : Nat) (x8 : Nat) (x9 : Nat) (x10 : Int32) (x11 : Int32) (x12 : Int32) (x13 : Int32) (M : zM) (o : Int32 × zM) (h : fL_thing_268 k6 x0 x1 x2 x3 x4 x5 x6 x7 x8 x9 x10 x11 x12 x13 M = some o) : zV false l RL cL_thing 15 none false 4 0 0 D T zE0 b gr n0 (0, o.1, o.2) 0 0 268 [(0, zr b x0), (1, zr b x1), (2, zr b x2), (3, zr b x3), (4, zr b x4), (5, zr b x5), (6, zr b x6), (7, zr b x7), (8, zr b x8), (9, zr b x9), (10, .int x10), (11, .int x11), (12, .int x12), (13, .int x13)] [] M := by
  unfold fL_thing_268 at h
  refine zV_goto (tgt := 6) dL_thing_268 (by decide) ?_
  exact hk6 x0 x1 x2 x3 x4 x5 x6 x7 x8 x9 x10 x11 x12 x13 M _ h
set_option maxHeartbeats 4000000 in
set_option maxRecDepth 100000 in
theorem vL_thing_258 {l : Launch} {D : va_G} {T : Nat → ClassId} {b : Nat} {gr : Bool} {n0 : Nat} (k6 : Nat → Nat → Nat → Nat → Nat → Nat → Nat → Nat → Nat → Nat → Int32 → Int32 → Int32 → Int32 → zM → Option (Int32 × zM)) (hk6 : ∀ (z0 : Nat) (z1 : Nat) (z2 : Nat) (z3 : Nat) (z4 : Nat) (z5 : Nat) (z6 : Nat) (z7 : Nat) (z8 : Nat) (z9 : Nat) (z10 : Int32) (z11 : Int32) (z12 : Int32) (z13 : Int32) (N : zM) (o : Int32 × zM), k6 z0 z1 z2 z3 z4 z5 z6 z7 z8 z9 z10 z11 z12 z13 N = some o → zV false l RL cL_thing 15 none false 4 0 0 D T zE0 b gr n0 (0, o.1, o.2) 0 0 6 [(0, zr b z0), (1, zr b z1), (2, zr b z2), (3, zr b z3), (4, zr b z4), (5, zr b z5), (6, zr b z6), (7, zr b z7), (8, zr b z8), (9, zr b z9), (10, .int z10), (11, .int z11), (12, .int z12), (13, .int z13)] [] N) (x0 : Nat) (x1 : Nat) (x2 : Nat) (x3 : Nat) (x4 : Nat) (x5 : Nat) (x6 : Nat) (x7 : Nat) (x8 : Nat) (x9 : Nat) (x10 : Int32) (x11 : Int32) (x13 : Int32) (M : zM) (o : Int32 × zM) (h : fL_thing_258 k6 x0 x1 x2 x3 x4 x5 x6 x7 x8 x9 x10 x11 x13 M = some o) : zV false l RL cL_thing 15 none false 4 0 0 D T zE0 b gr n0 (0, o.1, o.2) 0 0 258 [(0, zr b x0), (1, zr b x1), (2, zr b x2), (3, zr b x3), (4, zr b x4), (5, zr b x5), (6, zr b x6), (7, zr b x7), (8, zr b x8), (9, zr b x9), (10, .int x10), (11, .int x11), (13, .int x13)] [] M := by
  unfold fL_thing_258 at h
  refine zV_aload_n (j := 3) dL_thing_258 rfl rfl ?_
  refine zV_aload (j := 9) dL_thing_259 rfl ?_
  refine zV_iconst (v := 0) dL_thing_261 (by decide) ?_
  obtain ⟨r1, M2, q3, h⟩ := zb_of h
  refine zV_callSv (As := [zr b x3, zr b x9, .int 0]) (rest := []) (vL_fails l D T b gr x3 x9 0 M _ _ q3) zm_yL_fails zl_RL_47 zs_yL_fails rfl rfl (zcs trivial (Nat.le_of_ble_eq_true rfl)) (by decide) (by decide) (by decide) dL_thing_262 ?_
  refine zV_iconst (v := 0) dL_thing_265 (by decide) ?_
  refine zV_istore [(12, .int 0), (0, zr b x0), (1, zr b x1), (2, zr b x2), (3, zr b x3), (4, zr b x4), (5, zr b x5), (6, zr b x6), (7, zr b x7), (8, zr b x8), (9, zr b x9), (10, .int x10), (11, .int x11), (13, .int x13)] dL_thing_266 (by decide) rfl rfl ?_
  refine zV_pk [1, 2, 3, 4, 5, 6, 7, 8, 9, 10, 11, 12, 0, 13] rfl ?_
  exact vL_thing_268 k6 hk6 x0 x1 x2 x3 x4 x5 x6 x7 x8 x9 x10 x11 0 x13 M2 _ h
set_option maxHeartbeats 4000000 in
set_option maxRecDepth 100000 in
theorem vL_thing_144 {l : Launch} {D : va_G} {T : Nat → ClassId} {b : Nat} {gr : Bool} {n0 : Nat} (k6 : Nat → Nat → Nat → Nat → Nat → Nat → Nat → Nat → Nat → Nat → Int32 → Int32 → Int32 → Int32 → zM → Option (Int32 × zM)) (hk6 : ∀ (z0 : Nat) (z1 : Nat) (z2 : Nat) (z3 : Nat) (z4 : Nat) (z5 : Nat) (z6 : Nat) (z7 : Nat) (z8 : Nat) (z9 : Nat) (z10 : Int32) (z11 : Int32) (z12 : Int32) (z13 : Int32) (N : zM) (o : Int32 × zM), k6 z0 z1 z2 z3 z4 z5 z6 z7 z8 z9 z10 z11 z12 z13 N = some o → zV false l RL cL_thing 15 none false 4 0 0 D T zE0 b gr n0 (0, o.1, o.2) 0 0 6 [(0, zr b z0), (1, zr b z1), (2, zr b z2), (3, zr b z3), (4, zr b z4), (5, zr b z5), (6, zr b z6), (7, zr b z7), (8, zr b z8), (9, zr b z9), (10, .int z10), (11, .int z11), (12, .int z12), (13, .int z13)] [] N) (x0 : Nat) (x1 : Nat) (x2 : Nat) (x3 : Nat) (x4 : Nat) (x5 : Nat) (x6 : Nat) (x7 : Nat) (x8 : Nat) (x9 : Nat) (x10 : Int32) (x11 : Int32) (x12 : Int32) (x13 : Int32) (x14 : Int32) (M : zM) (o : Int32 × zM) (h : fL_thing_144 k6 x0 x1 x2 x3 x4 x5 x6 x7 x8 x9 x10 x11 x12 x13 x14 M = some o) : zV false l RL cL_thing 15 none false 4 0 0 D T zE0 b gr n0 (0, o.1, o.2) 0 0 144 [(0, zr b x0), (1, zr b x1), (2, zr b x2), (3, zr b x3), (4, zr b x4), (5, zr b x5), (6, zr b x6), (7, zr b x7), (8, zr b x8), (9, zr b x9), (10, .int x10), (11, .int x11), (12, .int x12), (13, .int x13), (14, .int x14)] [] M := by
  unfold fL_thing_144 at h
  refine zV_iload (j := 14) dL_thing_144 rfl ?_
  refine zV_if_lt (tgt := 196) dL_thing_146 (by decide) (fun c4 => ?_) (fun c4 => ?_)
  · replace h := z_t c4 h
    refine zV_aload_n (j := 3) dL_thing_196 rfl rfl ?_
    refine zV_iconst (v := 0) dL_thing_197 (by decide) ?_
    obtain ⟨g5, h⟩ := zg_of h
    obtain ⟨g6, h⟩ := zg_of h
    refine zV_iald dL_thing_198 g5 g6 ?_
    refine zV_iconst (v := 1) dL_thing_199 (by decide) ?_
    refine zV_icmp_le (tgt := 258) dL_thing_200 (by decide) (fun c7 => ?_) (fun c7 => ?_)
    · replace h := z_t c7 h
      refine zV_pk [0, 1, 2, 3, 4, 5, 6, 7, 8, 9, 10, 11, 13] rfl ?_
      exact vL_thing_258 k6 hk6 x0 x1 x2 x3 x4 x5 x6 x7 x8 x9 x10 x11 x13 M _ h
    · replace h := z_f c7 h
      refine zV_aload_n (j := 0) dL_thing_203 rfl rfl ?_
      refine zV_aload_n (j := 1) dL_thing_204 rfl rfl ?_
      refine zV_aload (j := 4) dL_thing_205 rfl ?_
      refine zV_aload_n (j := 3) dL_thing_207 rfl rfl ?_
      refine zV_iconst (v := 0) dL_thing_208 (by decide) ?_
      obtain ⟨g8, h⟩ := zg_of h
      refine zV_iald dL_thing_209 g5 g8 ?_
      refine zV_iconst (v := 1) dL_thing_210 (by decide) ?_
      refine zV_isub dL_thing_211 ?_
      obtain ⟨g9, h⟩ := zg_of h
      obtain ⟨g10, h⟩ := zg_of h
      refine zV_iald dL_thing_212 g9 g10 ?_
      obtain ⟨r11, M12, q13, h⟩ := zb_of h
      refine zV_callSi (As := [zr b x0, zr b x1, .int (zI M x4 ((zI M x3 (0 : Int32).toNatClampNeg) - 1).toNatClampNeg)]) (rest := []) (vL_ends l D T b gr x0 x1 (zI M x4 ((zI M x3 (0 : Int32).toNatClampNeg) - 1).toNatClampNeg) M _ _ q13) zm_yL_ends zl_RL_27 zs_yL_ends rfl rfl (zcs trivial (Nat.le_of_ble_eq_true rfl)) (by decide) (by decide) (by decide) dL_thing_213 ?_
      refine zV_if_eq (tgt := 258) dL_thing_216 (by decide) (fun c14 => ?_) (fun c14 => ?_)
      · replace h := z_t c14 h
        refine zV_pk [0, 1, 2, 3, 4, 5, 6, 7, 8, 9, 10, 11, 13] rfl ?_
        exact vL_thing_258 k6 hk6 x0 x1 x2 x3 x4 x5 x6 x7 x8 x9 x10 x11 x13 M12 _ h
      · replace h := z_f c14 h
        refine zV_aload_n (j := 2) dL_thing_219 rfl rfl ?_
        refine zV_aload (j := 4) dL_thing_220 rfl ?_
        refine zV_aload_n (j := 3) dL_thing_222 rfl rfl ?_
        refine zV_iconst (v := 0) dL_thing_223 (by decide) ?_
        obtain ⟨g15, h⟩ := zg_of h
        obtain ⟨g16, h⟩ := zg_of h
        refine zV_iald dL_thing_224 g15 g16 ?_
        refine zV_iconst (v := 1) dL_thing_225 (by decide) ?_
        refine zV_isub dL_thing_226 ?_
        obtain ⟨g17, h⟩ := zg_of h
        obtain ⟨g18, h⟩ := zg_of h
        refine zV_iald dL_thing_227 g17 g18 ?_
        refine zV_bipush (v := 16) dL_thing_228 (by decide) ?_
        refine zV_idiv dL_thing_230 (by decide) ?_
        obtain ⟨g19, h⟩ := zg_of h
        obtain ⟨g20, h⟩ := zg_of h
        refine zV_iald dL_thing_231 g19 g20 ?_
        refine zV_bipush (v := 21) dL_thing_232 (by decide) ?_
        refine zV_ishr dL_thing_234 ?_
        refine zV_iconst (v := 1) dL_thing_235 (by decide) ?_
        refine zV_iand dL_thing_236 ?_
        refine zV_iconst (v := 1) dL_thing_237 (by decide) ?_
        refine zV_icmp_ne (tgt := 258) dL_thing_238 (by decide) (fun c21 => ?_) (fun c21 => ?_)
        · replace h := z_f c21 h
          refine zV_pk [0, 1, 2, 3, 4, 5, 6, 7, 8, 9, 10, 11, 13] rfl ?_
          exact vL_thing_258 k6 hk6 x0 x1 x2 x3 x4 x5 x6 x7 x8 x9 x10 x11 x13 M12 _ h
        · replace h := z_t c21 h
          refine zV_aload_n (j := 3) dL_thing_241 rfl rfl ?_
          refine zV_iconst (v := 0) dL_thing_242 (by decide) ?_
          refine zV_dup2 dL_thing_243 rfl (zr_cat _ _) ?_
          obtain ⟨g22, h⟩ := zg_of h
          refine zV_iald dL_thing_244 g15 g22 ?_
          refine zV_iconst (v := 1) dL_thing_245 (by decide) ?_
          refine zV_isub dL_thing_246 ?_
          obtain ⟨g23, h⟩ := zg_of h
          refine zV_iast dL_thing_247 g15 g23 ?_
          refine zV_mem (fun M24 e25 => ?_)
          replace h := zlet_of h e25
          refine zV_aload_n (j := 3) dL_thing_248 rfl rfl ?_
          refine zV_iconst (v := 4) dL_thing_249 (by decide) ?_
          refine zV_dup2 dL_thing_250 rfl (zr_cat _ _) ?_
          obtain ⟨g26, h⟩ := zg_of h
          refine zV_iald dL_thing_251 (zkI e25 g15) g26 ?_
          refine zV_iconst (v := 1) dL_thing_252 (by decide) ?_
          refine zV_iadd dL_thing_253 ?_
          obtain ⟨g27, h⟩ := zg_of h
          refine zV_iast dL_thing_254 (zkI e25 g15) g27 ?_
          refine zV_mem (fun M28 e29 => ?_)
          replace h := zlet_of h e29
          refine zV_goto (tgt := 268) dL_thing_255 (by decide) ?_
          refine zV_pk [0, 1, 2, 3, 4, 5, 6, 7, 8, 9, 10, 11, 12, 13] rfl ?_
          exact vL_thing_268 k6 hk6 x0 x1 x2 x3 x4 x5 x6 x7 x8 x9 x10 x11 x12 x13 M28 _ h
  · replace h := z_f c4 h
    refine zV_aload (j := 4) dL_thing_149 rfl ?_
    refine zV_aload_n (j := 3) dL_thing_151 rfl rfl ?_
    refine zV_iconst (v := 0) dL_thing_152 (by decide) ?_
    obtain ⟨g30, h⟩ := zg_of h
    obtain ⟨g31, h⟩ := zg_of h
    refine zV_iald dL_thing_153 g30 g31 ?_
    refine zV_iconst (v := 1) dL_thing_154 (by decide) ?_
    refine zV_isub dL_thing_155 ?_
    refine zV_aload_n (j := 0) dL_thing_156 rfl rfl ?_
    refine zV_aload_n (j := 1) dL_thing_157 rfl rfl ?_
    refine zV_aload (j := 4) dL_thing_158 rfl ?_
    refine zV_aload_n (j := 3) dL_thing_160 rfl rfl ?_
    refine zV_iconst (v := 0) dL_thing_161 (by decide) ?_
    obtain ⟨g32, h⟩ := zg_of h
    refine zV_iald dL_thing_162 g30 g32 ?_
    refine zV_iconst (v := 1) dL_thing_163 (by decide) ?_
    refine zV_isub dL_thing_164 ?_
    obtain ⟨g33, h⟩ := zg_of h
    obtain ⟨g34, h⟩ := zg_of h
    refine zV_iald dL_thing_165 g33 g34 ?_
    refine zV_iload (j := 14) dL_thing_166 rfl ?_
    obtain ⟨r35, M36, q37, h⟩ := zb_of h
    refine zV_callSi (As := [zr b x0, zr b x1, .int (zI M x4 ((zI M x3 (0 : Int32).toNatClampNeg) - 1).toNatClampNeg), .int x14]) (rest := [.int ((zI M x3 (0 : Int32).toNatClampNeg) - 1), zr b x4]) (vL_step l D T b gr x0 x1 (zI M x4 ((zI M x3 (0 : Int32).toNatClampNeg) - 1).toNatClampNeg) x14 M _ _ q37) zm_yL_step zl_RL_15 zs_yL_step rfl rfl (zcs ⟨rfl, zr_cat _ _, trivial⟩ (Nat.le_of_ble_eq_true rfl)) (by decide) (by decide) (by decide) dL_thing_168 ?_
    obtain ⟨g38, h⟩ := zg_of h
    obtain ⟨g39, h⟩ := zg_of h
    refine zV_iast dL_thing_171 g38 g39 ?_
    refine zV_mem (fun M40 e41 => ?_)
    replace h := zlet_of h e41
    refine zV_aload_n (j := 1) dL_thing_172 rfl rfl ?_
    refine zV_aload_n (j := 3) dL_thing_173 rfl rfl ?_
    refine zV_aload (j := 4) dL_thing_174 rfl ?_
    refine zV_aload (j := 5) dL_thing_176 rfl ?_
    refine zV_aload (j := 6) dL_thing_178 rfl ?_
    refine zV_aload (j := 7) dL_thing_180 rfl ?_
    refine zV_aload (j := 8) dL_thing_182 rfl ?_
    refine zV_iload (j := 14) dL_thing_184 rfl ?_
    refine zV_iconst (v := 1) dL_thing_186 (by decide) ?_
    obtain ⟨r42, M43, q44, h⟩ := zb_of h
    refine zV_callSv (As := [zr b x1, zr b x3, zr b x4, zr b x5, zr b x6, zr b x7, zr b x8, .int x14, .int 1]) (rest := []) (vL_open l D T b gr x1 x3 x4 x5 x6 x7 x8 x14 1 M40 _ _ q44) zm_yL_open zl_RL_43 zs_yL_open rfl rfl (zcs trivial (Nat.le_of_ble_eq_true rfl)) (by decide) (by decide) (by decide) dL_thing_187 ?_
    obtain ⟨u45, e46⟩ : ∃ y : Int32, y = x13 + 1 := ⟨_, rfl⟩
    replace h := zlet_of h e46
    refine zV_iinc (j := 13) (v := u45) [(13, .int u45), (0, zr b x0), (1, zr b x1), (2, zr b x2), (3, zr b x3), (4, zr b x4), (5, zr b x5), (6, zr b x6), (7, zr b x7), (8, zr b x8), (9, zr b x9), (10, .int x10), (11, .int x11), (12, .int x12), (14, .int x14)] dL_thing_190 rfl (by rw [e46]; rfl) (by decide) rfl rfl ?_
    refine zV_goto (tgt := 268) dL_thing_193 (by decide) ?_
    refine zV_pk [1, 2, 3, 4, 5, 6, 7, 8, 9, 10, 11, 12, 13, 0] rfl ?_
    exact vL_thing_268 k6 hk6 x0 x1 x2 x3 x4 x5 x6 x7 x8 x9 x10 x11 x12 u45 M43 _ h
set_option maxHeartbeats 4000000 in
set_option maxRecDepth 100000 in
theorem vL_thing_100 {l : Launch} {D : va_G} {T : Nat → ClassId} {b : Nat} {gr : Bool} {n0 : Nat} (k6 : Nat → Nat → Nat → Nat → Nat → Nat → Nat → Nat → Nat → Nat → Int32 → Int32 → Int32 → Int32 → zM → Option (Int32 × zM)) (hk6 : ∀ (z0 : Nat) (z1 : Nat) (z2 : Nat) (z3 : Nat) (z4 : Nat) (z5 : Nat) (z6 : Nat) (z7 : Nat) (z8 : Nat) (z9 : Nat) (z10 : Int32) (z11 : Int32) (z12 : Int32) (z13 : Int32) (N : zM) (o : Int32 × zM), k6 z0 z1 z2 z3 z4 z5 z6 z7 z8 z9 z10 z11 z12 z13 N = some o → zV false l RL cL_thing 15 none false 4 0 0 D T zE0 b gr n0 (0, o.1, o.2) 0 0 6 [(0, zr b z0), (1, zr b z1), (2, zr b z2), (3, zr b z3), (4, zr b z4), (5, zr b z5), (6, zr b z6), (7, zr b z7), (8, zr b z8), (9, zr b z9), (10, .int z10), (11, .int z11), (12, .int z12), (13, .int z13)] [] N) (x0 : Nat) (x1 : Nat) (x2 : Nat) (x3 : Nat) (x4 : Nat) (x5 : Nat) (x6 : Nat) (x7 : Nat) (x8 : Nat) (x9 : Nat) (x10 : Int32) (x11 : Int32) (x13 : Int32) (M : zM) (o : Int32 × zM) (h : fL_thing_100 k6 x0 x1 x2 x3 x4 x5 x6 x7 x8 x9 x10 x11 x13 M = some o) : zV false l RL cL_thing 15 none false 4 0 0 D T zE0 b gr n0 (0, o.1, o.2) 0 0 100 [(0, zr b x0), (1, zr b x1), (2, zr b x2), (3, zr b x3), (4, zr b x4), (5, zr b x5), (6, zr b x6), (7, zr b x7), (8, zr b x8), (9, zr b x9), (10, .int x10), (11, .int x11), (13, .int x13)] [] M := by
  unfold fL_thing_100 at h
  refine zV_iconst (v := 0) dL_thing_100 (by decide) ?_
  refine zV_istore [(12, .int 0), (0, zr b x0), (1, zr b x1), (2, zr b x2), (3, zr b x3), (4, zr b x4), (5, zr b x5), (6, zr b x6), (7, zr b x7), (8, zr b x8), (9, zr b x9), (10, .int x10), (11, .int x11), (13, .int x13)] dL_thing_101 (by decide) rfl rfl ?_
  refine zV_goto (tgt := 268) dL_thing_103 (by decide) ?_
  refine zV_pk [1, 2, 3, 4, 5, 6, 7, 8, 9, 10, 11, 12, 0, 13] rfl ?_
  exact vL_thing_268 k6 hk6 x0 x1 x2 x3 x4 x5 x6 x7 x8 x9 x10 x11 0 x13 M _ h
set_option maxHeartbeats 4000000 in
set_option maxRecDepth 100000 in
theorem vL_thing_38 {l : Launch} {D : va_G} {T : Nat → ClassId} {b : Nat} {gr : Bool} {n0 : Nat} (k6 : Nat → Nat → Nat → Nat → Nat → Nat → Nat → Nat → Nat → Nat → Int32 → Int32 → Int32 → Int32 → zM → Option (Int32 × zM)) (hk6 : ∀ (z0 : Nat) (z1 : Nat) (z2 : Nat) (z3 : Nat) (z4 : Nat) (z5 : Nat) (z6 : Nat) (z7 : Nat) (z8 : Nat) (z9 : Nat) (z10 : Int32) (z11 : Int32) (z12 : Int32) (z13 : Int32) (N : zM) (o : Int32 × zM), k6 z0 z1 z2 z3 z4 z5 z6 z7 z8 z9 z10 z11 z12 z13 N = some o → zV false l RL cL_thing 15 none false 4 0 0 D T zE0 b gr n0 (0, o.1, o.2) 0 0 6 [(0, zr b z0), (1, zr b z1), (2, zr b z2), (3, zr b z3), (4, zr b z4), (5, zr b z5), (6, zr b z6), (7, zr b z7), (8, zr b z8), (9, zr b z9), (10, .int z10), (11, .int z11), (12, .int z12), (13, .int z13)] [] N) (x0 : Nat) (x1 : Nat) (x2 : Nat) (x3 : Nat) (x4 : Nat) (x5 : Nat) (x6 : Nat) (x7 : Nat) (x8 : Nat) (x9 : Nat) (x10 : Int32) (x11 : Int32) (x12 : Int32) (x13 : Int32) (s0 : Int32) (M : zM) (o : Int32 × zM) (h : fL_thing_38 k6 x0 x1 x2 x3 x4 x5 x6 x7 x8 x9 x10 x11 x12 x13 s0 M = some o) : zV false l RL cL_thing 15 none false 4 0 0 D T zE0 b gr n0 (0, o.1, o.2) 0 0 38 [(0, zr b x0), (1, zr b x1), (2, zr b x2), (3, zr b x3), (4, zr b x4), (5, zr b x5), (6, zr b x6), (7, zr b x7), (8, zr b x8), (9, zr b x9), (10, .int x10), (11, .int x11), (12, .int x12), (13, .int x13)] [.int s0] M := by
  unfold fL_thing_38 at h
  refine zV_istore [(14, .int s0), (0, zr b x0), (1, zr b x1), (2, zr b x2), (3, zr b x3), (4, zr b x4), (5, zr b x5), (6, zr b x6), (7, zr b x7), (8, zr b x8), (9, zr b x9), (10, .int x10), (11, .int x11), (12, .int x12), (13, .int x13)] dL_thing_38 (by decide) rfl rfl ?_
  refine zV_aload_n (j := 1) dL_thing_40 rfl rfl ?_
  refine zV_aload_n (j := 2) dL_thing_41 rfl rfl ?_
  refine zV_aload_n (j := 3) dL_thing_42 rfl rfl ?_
  refine zV_aload_n (j := 4) dL_thing_43 rfl rfl ?_
  refine zV_aload (j := 5) dL_thing_44 rfl ?_
  refine zV_iload (j := 11) dL_thing_46 rfl ?_
  obtain ⟨r47, M48, q49, h⟩ := zb_of h
  refine zV_callSi (As := [zr b x0, zr b x1, zr b x2, zr b x3, zr b x4, .int x10]) (rest := []) (vL_takes l D T b gr x0 x1 x2 x3 x4 x10 M _ _ q49) zm_yL_takes zl_RL_39 zs_yL_takes rfl rfl (zcs trivial (Nat.le_of_ble_eq_true rfl)) (by decide) (by decide) (by decide) dL_thing_48 ?_
  refine zV_if_eq (tgt := 106) dL_thing_51 (by decide) (fun c50 => ?_) (fun c50 => ?_)
  · replace h := z_t c50 h
    refine zV_aload_n (j := 4) dL_thing_106 rfl rfl ?_
    refine zV_iconst (v := 2) dL_thing_107 (by decide) ?_
    obtain ⟨g51, h⟩ := zg_of h
    obtain ⟨g52, h⟩ := zg_of h
    refine zV_iald dL_thing_108 g51 g52 ?_
    refine zV_if_ne (tgt := 144) dL_thing_109 (by decide) (fun c53 => ?_) (fun c53 => ?_)
    · replace h := z_f c53 h
      refine zV_pk [1, 2, 3, 4, 5, 6, 7, 8, 9, 10, 11, 12, 13, 14, 0] rfl ?_
      exact vL_thing_144 k6 hk6 x0 x1 x2 x3 x4 x5 x6 x7 x8 x9 x10 x11 x12 x13 s0 M48 _ h
    · replace h := z_t c53 h
      refine zV_aload_n (j := 3) dL_thing_112 rfl rfl ?_
      refine zV_iconst (v := 0) dL_thing_113 (by decide) ?_
      obtain ⟨g54, h⟩ := zg_of h
      obtain ⟨g55, h⟩ := zg_of h
      refine zV_iald dL_thing_114 g54 g55 ?_
      refine zV_bipush (v := 20) dL_thing_115 (by decide) ?_
      refine zV_ishr dL_thing_117 ?_
      refine zV_iconst (v := 1) dL_thing_118 (by decide) ?_
      refine zV_iand dL_thing_119 ?_
      refine zV_iconst (v := 1) dL_thing_120 (by decide) ?_
      refine zV_icmp_ne (tgt := 144) dL_thing_121 (by decide) (fun c56 => ?_) (fun c56 => ?_)
      · replace h := z_f c56 h
        refine zV_pk [1, 2, 3, 4, 5, 6, 7, 8, 9, 10, 11, 12, 13, 14, 0] rfl ?_
        exact vL_thing_144 k6 hk6 x0 x1 x2 x3 x4 x5 x6 x7 x8 x9 x10 x11 x12 x13 s0 M48 _ h
      · replace h := z_t c56 h
        refine zV_aload_n (j := 2) dL_thing_124 rfl rfl ?_
        refine zV_aload_n (j := 4) dL_thing_125 rfl rfl ?_
        refine zV_aload (j := 5) dL_thing_126 rfl ?_
        refine zV_aload (j := 6) dL_thing_128 rfl ?_
        refine zV_aload (j := 7) dL_thing_130 rfl ?_
        refine zV_aload (j := 8) dL_thing_132 rfl ?_
        refine zV_aload (j := 9) dL_thing_134 rfl ?_
        refine zV_iconst (v := 0) dL_thing_136 (by decide) ?_
        refine zV_iconst (v := 1) dL_thing_137 (by decide) ?_
        obtain ⟨r57, M58, q59, h⟩ := zb_of h
        refine zV_callSv (As := [zr b x1, zr b x3, zr b x4, zr b x5, zr b x6, zr b x7, zr b x8, .int 0, .int 1]) (rest := []) (vL_open l D T b gr x1 x3 x4 x5 x6 x7 x8 0 1 M48 _ _ q59) zm_yL_open zl_RL_43 zs_yL_open rfl rfl (zcs trivial (Nat.le_of_ble_eq_true rfl)) (by decide) (by decide) (by decide) dL_thing_138 ?_
        refine zV_goto (tgt := 268) dL_thing_141 (by decide) ?_
        refine zV_pk [1, 2, 3, 4, 5, 6, 7, 8, 9, 10, 11, 12, 13, 14] rfl ?_
        exact vL_thing_268 k6 hk6 x0 x1 x2 x3 x4 x5 x6 x7 x8 x9 x10 x11 x12 x13 M58 _ h
  · replace h := z_f c50 h
    refine zV_iload (j := 11) dL_thing_54 rfl ?_
    refine zV_bipush (v := 10) dL_thing_56 (by decide) ?_
    refine zV_icmp_ge (tgt := 82) dL_thing_58 (by decide) (fun c60 => ?_) (fun c60 => ?_)
    · replace h := z_t c60 h
      refine zV_aload_n (j := 4) dL_thing_82 rfl rfl ?_
      refine zV_aload (j := 5) dL_thing_83 rfl ?_
      refine zV_aload (j := 6) dL_thing_85 rfl ?_
      refine zV_aload (j := 7) dL_thing_87 rfl ?_
      refine zV_aload (j := 8) dL_thing_89 rfl ?_
      refine zV_aload (j := 9) dL_thing_91 rfl ?_
      refine zV_bipush (v := 10) dL_thing_93 (by decide) ?_
      refine zV_iload (j := 12) dL_thing_95 rfl ?_
      obtain ⟨r61, M62, q63, h⟩ := zb_of h
      refine zV_callSv (As := [zr b x3, zr b x4, zr b x5, zr b x6, zr b x7, zr b x8, .int 10, .int x11]) (rest := []) (vL_put l D T b gr x3 x4 x5 x6 x7 x8 10 x11 M48 _ _ q63) zm_yL_put zl_RL_19 zs_yL_put rfl rfl (zcs trivial (Nat.le_of_ble_eq_true rfl)) (by decide) (by decide) (by decide) dL_thing_97 ?_
      refine zV_pk [1, 2, 3, 4, 5, 6, 7, 8, 9, 10, 11, 12, 14] rfl ?_
      exact vL_thing_100 k6 hk6 x0 x1 x2 x3 x4 x5 x6 x7 x8 x9 x10 x11 x13 M62 _ h
    · replace h := z_f c60 h
      refine zV_aload_n (j := 2) dL_thing_61 rfl rfl ?_
      refine zV_aload_n (j := 4) dL_thing_62 rfl rfl ?_
      refine zV_aload (j := 5) dL_thing_63 rfl ?_
      refine zV_aload (j := 6) dL_thing_65 rfl ?_
      refine zV_aload (j := 7) dL_thing_67 rfl ?_
      refine zV_aload (j := 8) dL_thing_69 rfl ?_
      refine zV_aload (j := 9) dL_thing_71 rfl ?_
      refine zV_iload (j := 11) dL_thing_73 rfl ?_
      refine zV_iconst (v := 0) dL_thing_75 (by decide) ?_
      obtain ⟨r64, M65, q66, h⟩ := zb_of h
      refine zV_callSv (As := [zr b x1, zr b x3, zr b x4, zr b x5, zr b x6, zr b x7, zr b x8, .int x10, .int 0]) (rest := []) (vL_open l D T b gr x1 x3 x4 x5 x6 x7 x8 x10 0 M48 _ _ q66) zm_yL_open zl_RL_43 zs_yL_open rfl rfl (zcs trivial (Nat.le_of_ble_eq_true rfl)) (by decide) (by decide) (by decide) dL_thing_76 ?_
      refine zV_goto (tgt := 100) dL_thing_79 (by decide) ?_
      refine zV_pk [1, 2, 3, 4, 5, 6, 7, 8, 9, 10, 11, 12, 14] rfl ?_
      exact vL_thing_100 k6 hk6 x0 x1 x2 x3 x4 x5 x6 x7 x8 x9 x10 x11 x13 M65 _ h
set_option maxHeartbeats 4000000 in
set_option maxRecDepth 100000 in
theorem vL_thing_6 {l : Launch} {D : va_G} {T : Nat → ClassId} {b : Nat} {gr : Bool} {n0 : Nat} : ∀ (n : Nat) (x0 : Nat) (x1 : Nat) (x2 : Nat) (x3 : Nat) (x4 : Nat) (x5 : Nat) (x6 : Nat) (x7 : Nat) (x8 : Nat) (x9 : Nat) (x10 : Int32) (x11 : Int32) (x12 : Int32) (x13 : Int32) (M : zM) (o : Int32 × zM), fL_thing_6 n x0 x1 x2 x3 x4 x5 x6 x7 x8 x9 x10 x11 x12 x13 M = some o → zV false l RL cL_thing 15 none false 4 0 0 D T zE0 b gr n0 (0, o.1, o.2) 0 0 6 [(0, zr b x0), (1, zr b x1), (2, zr b x2), (3, zr b x3), (4, zr b x4), (5, zr b x5), (6, zr b x6), (7, zr b x7), (8, zr b x8), (9, zr b x9), (10, .int x10), (11, .int x11), (12, .int x12), (13, .int x13)] [] M := by
  intro n
  induction n with
  | zero =>
    intro x0 x1 x2 x3 x4 x5 x6 x7 x8 x9 x10 x11 x12 x13 M o h
    rw [fL_thing_6] at h
    cases h
  | succ n ih =>
    intro x0 x1 x2 x3 x4 x5 x6 x7 x8 x9 x10 x11 x12 x13 M o h
    rw [fL_thing_6] at h
    refine zV_iload (j := 12) dL_thing_6 rfl ?_
    refine zV_if_eq (tgt := 271) dL_thing_8 (by decide) (fun c67 => ?_) (fun c67 => ?_)
    · replace h := z_t c67 h
      exact zV_vret (x := 0) rfl dL_thing_271 (by decide) (by decide) (z_ret h)
    · replace h := z_f c67 h
      refine zV_aload_n (j := 3) dL_thing_11 rfl rfl ?_
      refine zV_bipush (v := 6) dL_thing_12 (by decide) ?_
      obtain ⟨g68, h⟩ := zg_of h
      obtain ⟨g69, h⟩ := zg_of h
      refine zV_iald dL_thing_14 g68 g69 ?_
      refine zV_if_ne (tgt := 271) dL_thing_15 (by decide) (fun c70 => ?_) (fun c70 => ?_)
      · replace h := z_f c70 h
        exact zV_vret (x := 0) rfl dL_thing_271 (by decide) (by decide) (z_ret h)
      · replace h := z_t c70 h
        refine zV_iload (j := 13) dL_thing_18 rfl ?_
        refine zV_bipush (v := 8) dL_thing_20 (by decide) ?_
        refine zV_icmp_ge (tgt := 37) dL_thing_22 (by decide) (fun c71 => ?_) (fun c71 => ?_)
        · replace h := z_t c71 h
          refine zV_iconst (v := (-1)) dL_thing_37 (by decide) ?_
          exact vL_thing_38 (fL_thing_6 n) ih x0 x1 x2 x3 x4 x5 x6 x7 x8 x9 x10 x11 x12 x13 (-1) M _ h
        · replace h := z_f c71 h
          refine zV_aload_n (j := 0) dL_thing_25 rfl rfl ?_
          refine zV_aload_n (j := 1) dL_thing_26 rfl rfl ?_
          refine zV_aload_n (j := 2) dL_thing_27 rfl rfl ?_
          refine zV_aload_n (j := 3) dL_thing_28 rfl rfl ?_
          refine zV_aload (j := 4) dL_thing_29 rfl ?_
          obtain ⟨r72, M73, q74, h⟩ := zb_of h
          refine zV_callSi (As := [zr b x0, zr b x1, zr b x2, zr b x3, zr b x4]) (rest := []) (vL_wanted l D T b gr x0 x1 x2 x3 x4 M _ _ q74) zm_yL_wanted zl_RL_35 zs_yL_wanted rfl rfl (zcs trivial (Nat.le_of_ble_eq_true rfl)) (by decide) (by decide) (by decide) dL_thing_31 ?_
          refine zV_goto (tgt := 38) dL_thing_34 (by decide) ?_
          exact vL_thing_38 (fL_thing_6 n) ih x0 x1 x2 x3 x4 x5 x6 x7 x8 x9 x10 x11 x12 x13 r72 M73 _ h
set_option maxHeartbeats 4000000 in
set_option maxRecDepth 100000 in
theorem vL_thing (l : Launch) (D : va_G) (T : Nat → ClassId) (b : Nat) (gr : Bool) (x0 : Nat) (x1 : Nat) (x2 : Nat) (x3 : Nat) (x4 : Nat) (x5 : Nat) (x6 : Nat) (x7 : Nat) (x8 : Nat) (x9 : Nat) (x10 : Int32) (x11 : Int32) (M : zM) (r : Int32) (M' : zM) (h : fL_thing x0 x1 x2 x3 x4 x5 x6 x7 x8 x9 x10 x11 M = some (r, M')) : zMet l D T b gr yL_thing cL_thing 15 none 4 0 0 [zr b x0, zr b x1, zr b x2, zr b x3, zr b x4, zr b x5, zr b x6, zr b x7, zr b x8, zr b x9, .int x10, .int x11] M (0, r, M') := by
  refine zEntry2 (ev := zE0) rfl false (fun h9 => nomatch h9) zp_yL_thing ⟨zr_cat _ _, zr_cat _ _, zr_cat _ _, zr_cat _ _, zr_cat _ _, zr_cat _ _, zr_cat _ _, zr_cat _ _, zr_cat _ _, zr_cat _ _, rfl, rfl, trivial⟩ (Nat.le_of_ble_eq_true rfl) ?_
  obtain ⟨o, ho⟩ : ∃ o : Int32 × zM, o = (r, M') := ⟨_, rfl⟩
  rw [← ho] at h
  rw [show ((0, r, M') : Nat × Int32 × zM) = (0, o.1, o.2) by rw [ho]]
  show zV false l RL cL_thing 15 none false 4 0 0 D T zE0 b gr M.2.2.2 (0, o.1, o.2) 0 0 0 [(0, zr b x0), (1, zr b x1), (2, zr b x2), (3, zr b x3), (4, zr b x4), (5, zr b x5), (6, zr b x6), (7, zr b x7), (8, zr b x8), (9, zr b x9), (10, .int x10), (11, .int x11)] [] M
  unfold fL_thing at h
  refine zV_iconst (v := 1) dL_thing_0 (by decide) ?_
  refine zV_istore [(12, .int 1), (0, zr b x0), (1, zr b x1), (2, zr b x2), (3, zr b x3), (4, zr b x4), (5, zr b x5), (6, zr b x6), (7, zr b x7), (8, zr b x8), (9, zr b x9), (10, .int x10), (11, .int x11)] dL_thing_1 (by decide) rfl rfl ?_
  refine zV_iconst (v := 0) dL_thing_3 (by decide) ?_
  refine zV_istore [(13, .int 0), (12, .int 1), (0, zr b x0), (1, zr b x1), (2, zr b x2), (3, zr b x3), (4, zr b x4), (5, zr b x5), (6, zr b x6), (7, zr b x7), (8, zr b x8), (9, zr b x9), (10, .int x10), (11, .int x11)] dL_thing_4 (by decide) rfl rfl ?_
  refine zV_pk [2, 3, 4, 5, 6, 7, 8, 9, 10, 11, 12, 13, 1, 0] rfl ?_
  exact vL_thing_6 10000 x0 x1 x2 x3 x4 x5 x6 x7 x8 x9 x10 x11 1 0 M _ h
set_option maxHeartbeats 4000000 in
set_option maxRecDepth 100000 in
theorem vL_close_100 {l : Launch} {D : va_G} {T : Nat → ClassId} {b : Nat} {gr : Bool} {n0 : Nat} (k0 : Nat → Nat → Nat → Nat → Nat → Nat → Int32 → Int32 → zM → Option (Int32 × zM)) (hk0 : ∀ (z0 : Nat) (z1 : Nat) (z2 : Nat) (z3 : Nat) (z4 : Nat) (z5 : Nat) (z6 : Int32) (z7 : Int32) (N : zM) (o : Int32 × zM), k0 z0 z1 z2 z3 z4 z5 z6 z7 N = some o → zV false l RL cL_close 10 none false 2 0 0 D T zE0 b gr n0 (0, o.1, o.2) 0 0 0 [(0, zr b z0), (1, zr b z1), (2, zr b z2), (3, zr b z3), (4, zr b z4), (5, zr b z5), (6, .int z6), (7, .int z7)] [] N) (x0 : Nat) (x1 : Nat) (x2 : Nat) (x3 : Nat) (x4 : Nat) (x5 : Nat) (x6 : Int32) (x7 : Int32) (M : zM) (o : Int32 × zM) (h : fL_close_100 k0 x0 x1 x2 x3 x4 x5 x6 x7 M = some o) : zV false l RL cL_close 10 none false 2 0 0 D T zE0 b gr n0 (0, o.1, o.2) 0 0 100 [(0, zr b x0), (1, zr b x1), (2, zr b x2), (3, zr b x3), (4, zr b x4), (5, zr b x5), (6, .int x6), (7, .int x7)] [] M := by
  unfold fL_close_100 at h
  refine zV_aload_n (j := 3) dL_close_100 rfl rfl ?_
  refine zV_iconst (v := 0) dL_close_101 (by decide) ?_
  refine zV_dup2 dL_close_102 rfl (zr_cat _ _) ?_
  obtain ⟨g1, h⟩ := zg_of h
  obtain ⟨g2, h⟩ := zg_of h
  refine zV_iald dL_close_103 g1 g2 ?_
  refine zV_iconst (v := 1) dL_close_104 (by decide) ?_
  refine zV_isub dL_close_105 ?_
  obtain ⟨g3, h⟩ := zg_of h
  refine zV_iast dL_close_106 g1 g3 ?_
  refine zV_mem (fun M4 e5 => ?_)
  replace h := zlet_of h e5
  refine zV_goto (tgt := 0) dL_close_107 (by decide) ?_
  exact hk0 x0 x1 x2 x3 x4 x5 x6 x7 M4 _ h
set_option maxHeartbeats 4000000 in
set_option maxRecDepth 100000 in
theorem vL_close_71 {l : Launch} {D : va_G} {T : Nat → ClassId} {b : Nat} {gr : Bool} {n0 : Nat} (k0 : Nat → Nat → Nat → Nat → Nat → Nat → Int32 → Int32 → zM → Option (Int32 × zM)) (hk0 : ∀ (z0 : Nat) (z1 : Nat) (z2 : Nat) (z3 : Nat) (z4 : Nat) (z5 : Nat) (z6 : Int32) (z7 : Int32) (N : zM) (o : Int32 × zM), k0 z0 z1 z2 z3 z4 z5 z6 z7 N = some o → zV false l RL cL_close 10 none false 2 0 0 D T zE0 b gr n0 (0, o.1, o.2) 0 0 0 [(0, zr b z0), (1, zr b z1), (2, zr b z2), (3, zr b z3), (4, zr b z4), (5, zr b z5), (6, .int z6), (7, .int z7)] [] N) (x0 : Nat) (x1 : Nat) (x2 : Nat) (x3 : Nat) (x4 : Nat) (x5 : Nat) (x6 : Int32) (x7 : Int32) (x8 : Int32) (x9 : Int32) (s0 : Nat) (s1 : Int32) (s2 : Int32) (s3 : Int32) (M : zM) (o : Int32 × zM) (h : fL_close_71 k0 x0 x1 x2 x3 x4 x5 x6 x7 x8 x9 s0 s1 s2 s3 M = some o) : zV false l RL cL_close 10 none false 2 0 0 D T zE0 b gr n0 (0, o.1, o.2) 0 0 71 [(0, zr b x0), (1, zr b x1), (2, zr b x2), (3, zr b x3), (4, zr b x4), (5, zr b x5), (6, .int x6), (7, .int x7), (8, .int x8), (9, .int x9)] [.int s3, .int s2, .int s1, zr b s0] M := by
  unfold fL_close_71 at h
  refine zV_iadd dL_close_71 ?_
  obtain ⟨g6, h⟩ := zg_of h
  obtain ⟨g7, h⟩ := zg_of h
  refine zV_iast dL_close_72 g6 g7 ?_
  refine zV_mem (fun M8 e9 => ?_)
  replace h := zlet_of h e9
  refine zV_iload (j := 9) dL_close_73 rfl ?_
  refine zV_if_eq (tgt := 100) dL_close_75 (by decide) (fun c10 => ?_) (fun c10 => ?_)
  · replace h := z_t c10 h
    refine zV_pk [0, 1, 2, 3, 4, 5, 6, 7] rfl ?_
    exact vL_close_100 k0 hk0 x0 x1 x2 x3 x4 x5 x6 x7 M8 _ h
  · replace h := z_f c10 h
    refine zV_aload_n (j := 2) dL_close_78 rfl rfl ?_
    refine zV_iload (j := 8) dL_close_79 rfl ?_
    refine zV_bipush (v := 16) dL_close_81 (by decide) ?_
    refine zV_idiv dL_close_83 (by decide) ?_
    obtain ⟨g11, h⟩ := zg_of h
    obtain ⟨g12, h⟩ := zg_of h
    refine zV_iald dL_close_84 g11 g12 ?_
    refine zV_bipush (v := 21) dL_close_85 (by decide) ?_
    refine zV_ishr dL_close_87 ?_
    refine zV_iconst (v := 1) dL_close_88 (by decide) ?_
    refine zV_iand dL_close_89 ?_
    refine zV_if_ne (tgt := 100) dL_close_90 (by decide) (fun c13 => ?_) (fun c13 => ?_)
    · replace h := z_f c13 h
      refine zV_pk [0, 1, 2, 3, 4, 5, 6, 7] rfl ?_
      exact vL_close_100 k0 hk0 x0 x1 x2 x3 x4 x5 x6 x7 M8 _ h
    · replace h := z_t c13 h
      refine zV_aload_n (j := 3) dL_close_93 rfl rfl ?_
      refine zV_aload (j := 5) dL_close_94 rfl ?_
      refine zV_iconst (v := 3) dL_close_96 (by decide) ?_
      obtain ⟨r14, M15, q16, h⟩ := zb_of h
      refine zV_callSv (As := [zr b x3, zr b x5, .int 3]) (rest := []) (vL_fails l D T b gr x3 x5 3 M8 _ _ q16) zm_yL_fails zl_RL_47 zs_yL_fails rfl rfl (zcs trivial (Nat.le_of_ble_eq_true rfl)) (by decide) (by decide) (by decide) dL_close_97 ?_
      refine zV_pk [0, 1, 2, 3, 4, 5, 6, 7] rfl ?_
      exact vL_close_100 k0 hk0 x0 x1 x2 x3 x4 x5 x6 x7 M15 _ h
set_option maxHeartbeats 4000000 in
set_option maxRecDepth 100000 in
theorem vL_close_57 {l : Launch} {D : va_G} {T : Nat → ClassId} {b : Nat} {gr : Bool} {n0 : Nat} (k0 : Nat → Nat → Nat → Nat → Nat → Nat → Int32 → Int32 → zM → Option (Int32 × zM)) (hk0 : ∀ (z0 : Nat) (z1 : Nat) (z2 : Nat) (z3 : Nat) (z4 : Nat) (z5 : Nat) (z6 : Int32) (z7 : Int32) (N : zM) (o : Int32 × zM), k0 z0 z1 z2 z3 z4 z5 z6 z7 N = some o → zV false l RL cL_close 10 none false 2 0 0 D T zE0 b gr n0 (0, o.1, o.2) 0 0 0 [(0, zr b z0), (1, zr b z1), (2, zr b z2), (3, zr b z3), (4, zr b z4), (5, zr b z5), (6, .int z6), (7, .int z7)] [] N) (x0 : Nat) (x1 : Nat) (x2 : Nat) (x3 : Nat) (x4 : Nat) (x5 : Nat) (x6 : Int32) (x7 : Int32) (x8 : Int32) (x9 : Int32) (M : zM) (o : Int32 × zM) (h : fL_close_57 k0 x0 x1 x2 x3 x4 x5 x6 x7 x8 x9 M = some o) : zV false l RL cL_close 10 none false 2 0 0 D T zE0 b gr n0 (0, o.1, o.2) 0 0 57 [(0, zr b x0), (1, zr b x1), (2, zr b x2), (3, zr b x3), (4, zr b x4), (5, zr b x5), (6, .int x6), (7, .int x7), (8, .int x8), (9, .int x9)] [] M := by
  unfold fL_close_57 at h
  refine zV_aload_n (j := 3) dL_close_57 rfl rfl ?_
  refine zV_iconst (v := 4) dL_close_58 (by decide) ?_
  refine zV_dup2 dL_close_59 rfl (zr_cat _ _) ?_
  obtain ⟨g17, h⟩ := zg_of h
  obtain ⟨g18, h⟩ := zg_of h
  refine zV_iald dL_close_60 g17 g18 ?_
  refine zV_iload (j := 9) dL_close_61 rfl ?_
  refine zV_if_eq (tgt := 70) dL_close_63 (by decide) (fun c19 => ?_) (fun c19 => ?_)
  · replace h := z_t c19 h
    refine zV_iconst (v := 0) dL_close_70 (by decide) ?_
    exact vL_close_71 k0 hk0 x0 x1 x2 x3 x4 x5 x6 x7 x8 x9 x3 4 (zI M x3 (4 : Int32).toNatClampNeg) 0 M _ h
  · replace h := z_f c19 h
    refine zV_iconst (v := 1) dL_close_66 (by decide) ?_
    refine zV_goto (tgt := 71) dL_close_67 (by decide) ?_
    exact vL_close_71 k0 hk0 x0 x1 x2 x3 x4 x5 x6 x7 x8 x9 x3 4 (zI M x3 (4 : Int32).toNatClampNeg) 1 M _ h
set_option maxHeartbeats 4000000 in
set_option maxRecDepth 100000 in
theorem vL_close_38 {l : Launch} {D : va_G} {T : Nat → ClassId} {b : Nat} {gr : Bool} {n0 : Nat} (k0 : Nat → Nat → Nat → Nat → Nat → Nat → Int32 → Int32 → zM → Option (Int32 × zM)) (hk0 : ∀ (z0 : Nat) (z1 : Nat) (z2 : Nat) (z3 : Nat) (z4 : Nat) (z5 : Nat) (z6 : Int32) (z7 : Int32) (N : zM) (o : Int32 × zM), k0 z0 z1 z2 z3 z4 z5 z6 z7 N = some o → zV false l RL cL_close 10 none false 2 0 0 D T zE0 b gr n0 (0, o.1, o.2) 0 0 0 [(0, zr b z0), (1, zr b z1), (2, zr b z2), (3, zr b z3), (4, zr b z4), (5, zr b z5), (6, .int z6), (7, .int z7)] [] N) (x0 : Nat) (x1 : Nat) (x2 : Nat) (x3 : Nat) (x4 : Nat) (x5 : Nat) (x6 : Int32) (x7 : Int32) (x8 : Int32) (s0 : Int32) (M : zM) (o : Int32 × zM) (h : fL_close_38 k0 x0 x1 x2 x3 x4 x5 x6 x7 x8 s0 M = some o) : zV false l RL cL_close 10 none false 2 0 0 D T zE0 b gr n0 (0, o.1, o.2) 0 0 38 [(0, zr b x0), (1, zr b x1), (2, zr b x2), (3, zr b x3), (4, zr b x4), (5, zr b x5), (6, .int x6), (7, .int x7), (8, .int x8)] [.int s0] M := by
  unfold fL_close_38 at h
  refine zV_istore [(9, .int s0), (0, zr b x0), (1, zr b x1), (2, zr b x2), (3, zr b x3), (4, zr b x4), (5, zr b x5), (6, .int x6), (7, .int x7), (8, .int x8)] dL_close_38 (by decide) rfl rfl ?_
  refine zV_aload_n (j := 1) dL_close_40 rfl rfl ?_
  refine zV_aload_n (j := 2) dL_close_41 rfl rfl ?_
  refine zV_iload (j := 9) dL_close_42 rfl ?_
  obtain ⟨r20, M21, q22, h⟩ := zb_of h
  refine zV_callSi (As := [zr b x0, zr b x1, .int x8]) (rest := []) (vL_ends l D T b gr x0 x1 x8 M _ _ q22) zm_yL_ends zl_RL_27 zs_yL_ends rfl rfl (zcs trivial (Nat.le_of_ble_eq_true rfl)) (by decide) (by decide) (by decide) dL_close_44 ?_
  refine zV_if_ne (tgt := 57) dL_close_47 (by decide) (fun c23 => ?_) (fun c23 => ?_)
  · replace h := z_f c23 h
    refine zV_pk [1, 2, 3, 4, 5, 6, 7, 8, 9, 0] rfl ?_
    exact vL_close_57 k0 hk0 x0 x1 x2 x3 x4 x5 x6 x7 x8 s0 M21 _ h
  · replace h := z_t c23 h
    refine zV_aload_n (j := 4) dL_close_50 rfl rfl ?_
    refine zV_aload (j := 6) dL_close_51 rfl ?_
    refine zV_iconst (v := 2) dL_close_53 (by decide) ?_
    obtain ⟨r24, M25, q26, h⟩ := zb_of h
    refine zV_callSv (As := [zr b x3, zr b x5, .int 2]) (rest := []) (vL_fails l D T b gr x3 x5 2 M21 _ _ q26) zm_yL_fails zl_RL_47 zs_yL_fails rfl rfl (zcs trivial (Nat.le_of_ble_eq_true rfl)) (by decide) (by decide) (by decide) dL_close_54 ?_
    refine zV_pk [1, 2, 3, 4, 5, 6, 7, 8, 9, 0] rfl ?_
    exact vL_close_57 k0 hk0 x0 x1 x2 x3 x4 x5 x6 x7 x8 s0 M25 _ h
set_option maxHeartbeats 4000000 in
set_option maxRecDepth 100000 in
theorem vL_close_33 {l : Launch} {D : va_G} {T : Nat → ClassId} {b : Nat} {gr : Bool} {n0 : Nat} (k0 : Nat → Nat → Nat → Nat → Nat → Nat → Int32 → Int32 → zM → Option (Int32 × zM)) (hk0 : ∀ (z0 : Nat) (z1 : Nat) (z2 : Nat) (z3 : Nat) (z4 : Nat) (z5 : Nat) (z6 : Int32) (z7 : Int32) (N : zM) (o : Int32 × zM), k0 z0 z1 z2 z3 z4 z5 z6 z7 N = some o → zV false l RL cL_close 10 none false 2 0 0 D T zE0 b gr n0 (0, o.1, o.2) 0 0 0 [(0, zr b z0), (1, zr b z1), (2, zr b z2), (3, zr b z3), (4, zr b z4), (5, zr b z5), (6, .int z6), (7, .int z7)] [] N) (x0 : Nat) (x1 : Nat) (x2 : Nat) (x3 : Nat) (x4 : Nat) (x5 : Nat) (x6 : Int32) (x7 : Int32) (x8 : Int32) (M : zM) (o : Int32 × zM) (h : fL_close_33 k0 x0 x1 x2 x3 x4 x5 x6 x7 x8 M = some o) : zV false l RL cL_close 10 none false 2 0 0 D T zE0 b gr n0 (0, o.1, o.2) 0 0 33 [(0, zr b x0), (1, zr b x1), (2, zr b x2), (3, zr b x3), (4, zr b x4), (5, zr b x5), (6, .int x6), (7, .int x7), (8, .int x8)] [] M := by
  unfold fL_close_33 at h
  refine zV_iconst (v := 1) dL_close_33 (by decide) ?_
  refine zV_goto (tgt := 38) dL_close_34 (by decide) ?_
  exact vL_close_38 k0 hk0 x0 x1 x2 x3 x4 x5 x6 x7 x8 1 M _ h
set_option maxHeartbeats 4000000 in
set_option maxRecDepth 100000 in
theorem vL_close_0 {l : Launch} {D : va_G} {T : Nat → ClassId} {b : Nat} {gr : Bool} {n0 : Nat} : ∀ (n : Nat) (x0 : Nat) (x1 : Nat) (x2 : Nat) (x3 : Nat) (x4 : Nat) (x5 : Nat) (x6 : Int32) (x7 : Int32) (M : zM) (o : Int32 × zM), fL_close_0 n x0 x1 x2 x3 x4 x5 x6 x7 M = some o → zV false l RL cL_close 10 none false 2 0 0 D T zE0 b gr n0 (0, o.1, o.2) 0 0 0 [(0, zr b x0), (1, zr b x1), (2, zr b x2), (3, zr b x3), (4, zr b x4), (5, zr b x5), (6, .int x6), (7, .int x7)] [] M := by
  intro n
  induction n with
  | zero =>
    intro x0 x1 x2 x3 x4 x5 x6 x7 M o h
    rw [fL_close_0] at h
    cases h
  | succ n ih =>
    intro x0 x1 x2 x3 x4 x5 x6 x7 M o h
    rw [fL_close_0] at h
    refine zV_aload_n (j := 3) dL_close_0 rfl rfl ?_
    refine zV_iconst (v := 0) dL_close_1 (by decide) ?_
    obtain ⟨g27, h⟩ := zg_of h
    obtain ⟨g28, h⟩ := zg_of h
    refine zV_iald dL_close_2 g27 g28 ?_
    refine zV_iload (j := 6) dL_close_3 rfl ?_
    refine zV_icmp_le (tgt := 110) dL_close_5 (by decide) (fun c29 => ?_) (fun c29 => ?_)
    · replace h := z_t c29 h
      exact zV_vret (x := 0) rfl dL_close_110 (by decide) (by decide) (z_ret h)
    · replace h := z_f c29 h
      refine zV_aload (j := 4) dL_close_8 rfl ?_
      refine zV_aload_n (j := 3) dL_close_10 rfl rfl ?_
      refine zV_iconst (v := 0) dL_close_11 (by decide) ?_
      obtain ⟨g30, h⟩ := zg_of h
      refine zV_iald dL_close_12 g27 g30 ?_
      refine zV_iconst (v := 1) dL_close_13 (by decide) ?_
      refine zV_isub dL_close_14 ?_
      obtain ⟨g31, h⟩ := zg_of h
      obtain ⟨g32, h⟩ := zg_of h
      refine zV_iald dL_close_15 g31 g32 ?_
      refine zV_top (fun u33 e34 => ?_)
      replace h := zlet_of h e34
      refine zV_istore [(8, .int u33), (0, zr b x0), (1, zr b x1), (2, zr b x2), (3, zr b x3), (4, zr b x4), (5, zr b x5), (6, .int x6), (7, .int x7)] dL_close_16 (by decide) rfl rfl ?_
      refine zV_aload_n (j := 4) dL_close_18 rfl rfl ?_
      refine zV_iconst (v := 0) dL_close_19 (by decide) ?_
      obtain ⟨g35, h⟩ := zg_of h
      refine zV_iald dL_close_20 g27 g35 ?_
      refine zV_iload (j := 7) dL_close_21 rfl ?_
      refine zV_iconst (v := 1) dL_close_23 (by decide) ?_
      refine zV_iadd dL_close_24 ?_
      refine zV_icmp_gt (tgt := 33) dL_close_25 (by decide) (fun c36 => ?_) (fun c36 => ?_)
      · replace h := z_t c36 h
        refine zV_pk [1, 2, 3, 4, 5, 6, 7, 8, 0] rfl ?_
        exact vL_close_33 (fL_close_0 n) ih x0 x1 x2 x3 x4 x5 x6 x7 u33 M _ h
      · replace h := z_f c36 h
        refine zV_iload (j := 8) dL_close_28 rfl ?_
        refine zV_if_ne (tgt := 37) dL_close_30 (by decide) (fun c37 => ?_) (fun c37 => ?_)
        · replace h := z_f c37 h
          refine zV_iconst (v := 0) dL_close_37 (by decide) ?_
          refine zV_pk [1, 2, 3, 4, 5, 6, 7, 8, 0] rfl ?_
          exact vL_close_38 (fL_close_0 n) ih x0 x1 x2 x3 x4 x5 x6 x7 u33 0 M _ h
        · replace h := z_t c37 h
          refine zV_pk [1, 2, 3, 4, 5, 6, 7, 8, 0] rfl ?_
          exact vL_close_33 (fL_close_0 n) ih x0 x1 x2 x3 x4 x5 x6 x7 u33 M _ h
set_option maxHeartbeats 4000000 in
set_option maxRecDepth 100000 in
theorem vL_close (l : Launch) (D : va_G) (T : Nat → ClassId) (b : Nat) (gr : Bool) (x0 : Nat) (x1 : Nat) (x2 : Nat) (x3 : Nat) (x4 : Nat) (x5 : Nat) (x6 : Int32) (x7 : Int32) (M : zM) (r : Int32) (M' : zM) (h : fL_close x0 x1 x2 x3 x4 x5 x6 x7 M = some (r, M')) : zMet l D T b gr yL_close cL_close 10 none 2 0 0 [zr b x0, zr b x1, zr b x2, zr b x3, zr b x4, zr b x5, .int x6, .int x7] M (0, r, M') := by
  refine zEntry2 (ev := zE0) rfl false (fun h9 => nomatch h9) zp_yL_close ⟨zr_cat _ _, zr_cat _ _, zr_cat _ _, zr_cat _ _, zr_cat _ _, zr_cat _ _, rfl, rfl, trivial⟩ (Nat.le_of_ble_eq_true rfl) ?_
  obtain ⟨o, ho⟩ : ∃ o : Int32 × zM, o = (r, M') := ⟨_, rfl⟩
  rw [← ho] at h
  rw [show ((0, r, M') : Nat × Int32 × zM) = (0, o.1, o.2) by rw [ho]]
  show zV false l RL cL_close 10 none false 2 0 0 D T zE0 b gr M.2.2.2 (0, o.1, o.2) 0 0 0 [(0, zr b x0), (1, zr b x1), (2, zr b x2), (3, zr b x3), (4, zr b x4), (5, zr b x5), (6, .int x6), (7, .int x7)] [] M
  unfold fL_close at h
  exact vL_close_0 10000 x0 x1 x2 x3 x4 x5 x6 x7 M _ h
set_option maxHeartbeats 4000000 in
set_option maxRecDepth 100000 in
theorem vL_token_53 {l : Launch} {D : va_G} {T : Nat → ClassId} {b : Nat} {gr : Bool} {n0 : Nat} (M : zM) (o : Int32 × zM) (h : fL_token_53 M = some o) : zV false l RL cL_token 5 (some .int) false 0 0 0 D T zE0 b gr n0 (0, o.1, o.2) 0 0 53 [] [] M := by
  unfold fL_token_53 at h
  refine zV_iconst (v := (-1)) dL_token_53 (by decide) ?_
  refine zV_goto (tgt := 65) dL_token_54 (by decide) ?_
  exact zV_iret rfl dL_token_65 (by decide) (by decide) (z_ret h)
set_option maxHeartbeats 4000000 in
set_option maxRecDepth 100000 in
theorem vL_token_19 {l : Launch} {D : va_G} {T : Nat → ClassId} {b : Nat} {gr : Bool} {n0 : Nat} (M : zM) (o : Int32 × zM) (h : fL_token_19 M = some o) : zV false l RL cL_token 5 (some .int) false 0 0 0 D T zE0 b gr n0 (0, o.1, o.2) 0 0 19 [] [] M := by
  unfold fL_token_19 at h
  refine zV_iconst (v := (-1)) dL_token_19 (by decide) ?_
  refine zV_goto (tgt := 26) dL_token_20 (by decide) ?_
  exact zV_iret rfl dL_token_26 (by decide) (by decide) (z_ret h)
set_option maxHeartbeats 4000000 in
set_option maxRecDepth 100000 in
theorem vL_token (l : Launch) (D : va_G) (T : Nat → ClassId) (b : Nat) (gr : Bool) (x0 : Nat) (x1 : Nat) (x2 : Nat) (x3 : Int32) (M : zM) (r : Int32) (M' : zM) (h : fL_token x0 x1 x2 x3 M = some (r, M')) : zMet l D T b gr yL_token cL_token 5 (some .int) 0 0 0 [zr b x0, zr b x1, zr b x2, .int x3] M (0, r, M') := by
  refine zEntry2 (ev := zE0) rfl false (fun h9 => nomatch h9) zp_yL_token ⟨zr_cat _ _, zr_cat _ _, zr_cat _ _, rfl, trivial⟩ (Nat.le_of_ble_eq_true rfl) ?_
  obtain ⟨o, ho⟩ : ∃ o : Int32 × zM, o = (r, M') := ⟨_, rfl⟩
  rw [← ho] at h
  rw [show ((0, r, M') : Nat × Int32 × zM) = (0, o.1, o.2) by rw [ho]]
  show zV false l RL cL_token 5 (some .int) false 0 0 0 D T zE0 b gr M.2.2.2 (0, o.1, o.2) 0 0 0 [(0, zr b x0), (1, zr b x1), (2, zr b x2), (3, .int x3)] [] M
  unfold fL_token at h
  refine zV_aload_n (j := 2) dL_token_0 rfl rfl ?_
  refine zV_bipush (v := 7) dL_token_1 (by decide) ?_
  obtain ⟨g1, h⟩ := zg_of h
  obtain ⟨g2, h⟩ := zg_of h
  refine zV_iald dL_token_3 g1 g2 ?_
  refine zV_if_ne (tgt := 27) dL_token_4 (by decide) (fun c3 => ?_) (fun c3 => ?_)
  · replace h := z_f c3 h
    refine zV_aload_n (j := 2) dL_token_27 rfl rfl ?_
    refine zV_bipush (v := 11) dL_token_28 (by decide) ?_
    refine zV_aload_n (j := 2) dL_token_30 rfl rfl ?_
    refine zV_bipush (v := 7) dL_token_31 (by decide) ?_
    obtain ⟨g4, h⟩ := zg_of h
    refine zV_iald dL_token_33 g1 g4 ?_
    refine zV_iadd dL_token_34 ?_
    obtain ⟨g5, h⟩ := zg_of h
    refine zV_iald dL_token_35 g1 g5 ?_
    refine zV_top (fun u6 e7 => ?_)
    replace h := zlet_of h e7
    refine zV_istore [(4, .int u6), (0, zr b x0), (1, zr b x1), (2, zr b x2), (3, .int x3)] dL_token_36 (by decide) rfl rfl ?_
    refine zV_iload_n (j := 4) dL_token_38 rfl rfl ?_
    refine zV_if_lt (tgt := 53) dL_token_39 (by decide) (fun c8 => ?_) (fun c8 => ?_)
    · replace h := z_t c8 h
      refine zV_pk [] rfl ?_
      exact vL_token_53 M _ h
    · replace h := z_f c8 h
      refine zV_iload_n (j := 4) dL_token_42 rfl rfl ?_
      refine zV_aload_n (j := 1) dL_token_43 rfl rfl ?_
      refine zV_bipush (v := 8) dL_token_44 (by decide) ?_
      refine zV_iload (j := 0) dL_token_46 rfl ?_
      refine zV_iadd dL_token_48 ?_
      obtain ⟨g9, h⟩ := zg_of h
      obtain ⟨g10, h⟩ := zg_of h
      refine zV_iald dL_token_49 g9 g10 ?_
      refine zV_icmp_lt (tgt := 57) dL_token_50 (by decide) (fun c11 => ?_) (fun c11 => ?_)
      · replace h := z_t c11 h
        refine zV_aload_n (j := 1) dL_token_57 rfl rfl ?_
        refine zV_iconst (v := 4) dL_token_58 (by decide) ?_
        refine zV_iload (j := 0) dL_token_59 rfl ?_
        refine zV_imul dL_token_61 ?_
        refine zV_iload_n (j := 4) dL_token_62 rfl rfl ?_
        refine zV_iadd dL_token_63 ?_
        obtain ⟨g12, h⟩ := zg_of h
        refine zV_iald dL_token_64 g9 g12 ?_
        exact zV_iret rfl dL_token_65 (by decide) (by decide) (z_ret h)
      · replace h := z_f c11 h
        refine zV_pk [] rfl ?_
        exact vL_token_53 M _ h
  · replace h := z_t c3 h
    refine zV_iload_n (j := 3) dL_token_7 rfl rfl ?_
    refine zV_if_lt (tgt := 19) dL_token_8 (by decide) (fun c13 => ?_) (fun c13 => ?_)
    · replace h := z_t c13 h
      refine zV_pk [] rfl ?_
      exact vL_token_19 M _ h
    · replace h := z_f c13 h
      refine zV_iload_n (j := 3) dL_token_11 rfl rfl ?_
      refine zV_aload_n (j := 1) dL_token_12 rfl rfl ?_
      refine zV_bipush (v := 20) dL_token_13 (by decide) ?_
      obtain ⟨g14, h⟩ := zg_of h
      obtain ⟨g15, h⟩ := zg_of h
      refine zV_iald dL_token_15 g14 g15 ?_
      refine zV_icmp_lt (tgt := 23) dL_token_16 (by decide) (fun c16 => ?_) (fun c16 => ?_)
      · replace h := z_t c16 h
        refine zV_aload_n (j := 1) dL_token_23 rfl rfl ?_
        refine zV_iload_n (j := 3) dL_token_24 rfl rfl ?_
        obtain ⟨g17, h⟩ := zg_of h
        refine zV_iald dL_token_25 g14 g17 ?_
        exact zV_iret rfl dL_token_26 (by decide) (by decide) (z_ret h)
      · replace h := z_f c16 h
        refine zV_pk [] rfl ?_
        exact vL_token_19 M _ h
set_option maxHeartbeats 4000000 in
set_option maxRecDepth 100000 in
theorem vL_one_768 {l : Launch} {D : va_G} {T : Nat → ClassId} {b : Nat} {gr : Bool} {n0 : Nat} (x5 : Nat) (x15 : Int32) (x16 : Int32) (x17 : Int32) (M : zM) (o : Int32 × zM) (h : fL_one_768 x5 x15 x16 x17 M = some o) : zV false l RL cL_one 23 none false 5 0 0 D T zE0 b gr n0 (0, o.1, o.2) 0 0 768 [(5, zr b x5), (15, .int x15), (16, .int x16), (17, .int x17)] [] M := by
  unfold fL_one_768 at h
  refine zV_iload (j := 3) dL_one_768 rfl ?_
  refine zV_if_ne (tgt := 826) dL_one_770 (by decide) (fun c1 => ?_) (fun c1 => ?_)
  · replace h := z_f c1 h
    exact zV_vret (x := 0) rfl dL_one_826 (by decide) (by decide) (z_ret h)
  · replace h := z_t c1 h
    refine zV_iload (j := 1) dL_one_773 rfl ?_
    refine zV_bipush (v := 6) dL_one_775 (by decide) ?_
    refine zV_icmp_ne (tgt := 826) dL_one_777 (by decide) (fun c2 => ?_) (fun c2 => ?_)
    · replace h := z_f c2 h
      exact zV_vret (x := 0) rfl dL_one_826 (by decide) (by decide) (z_ret h)
    · replace h := z_t c2 h
      refine zV_aload (j := 0) dL_one_780 rfl ?_
      refine zV_bipush (v := 7) dL_one_782 (by decide) ?_
      refine zV_dup2 dL_one_784 rfl (zr_cat _ _) ?_
      obtain ⟨g3, h⟩ := zg_of h
      obtain ⟨g4, h⟩ := zg_of h
      refine zV_iald dL_one_785 g3 g4 ?_
      refine zV_iconst (v := 1) dL_one_786 (by decide) ?_
      refine zV_iadd dL_one_787 ?_
      obtain ⟨g5, h⟩ := zg_of h
      refine zV_iast dL_one_788 g3 g5 ?_
      refine zV_mem (fun M6 e7 => ?_)
      replace h := zlet_of h e7
      refine zV_aload (j := 0) dL_one_789 rfl ?_
      refine zV_bipush (v := 8) dL_one_791 (by decide) ?_
      refine zV_aload (j := 0) dL_one_793 rfl ?_
      refine zV_bipush (v := 7) dL_one_795 (by decide) ?_
      obtain ⟨g8, h⟩ := zg_of h
      refine zV_iald dL_one_797 (zkI e7 g3) g8 ?_
      refine zV_iadd dL_one_798 ?_
      refine zV_iconst (v := 0) dL_one_799 (by decide) ?_
      obtain ⟨g9, h⟩ := zg_of h
      refine zV_iast dL_one_800 (zkI e7 g3) g9 ?_
      refine zV_mem (fun M10 e11 => ?_)
      replace h := zlet_of h e11
      refine zV_aload (j := 0) dL_one_801 rfl ?_
      refine zV_bipush (v := 11) dL_one_803 (by decide) ?_
      refine zV_aload (j := 0) dL_one_805 rfl ?_
      refine zV_bipush (v := 7) dL_one_807 (by decide) ?_
      obtain ⟨g12, h⟩ := zg_of h
      refine zV_iald dL_one_809 (zkI e11 (zkI e7 g3)) g12 ?_
      refine zV_iadd dL_one_810 ?_
      refine zV_iload (j := 2) dL_one_811 rfl ?_
      obtain ⟨g13, h⟩ := zg_of h
      refine zV_iast dL_one_813 (zkI e11 (zkI e7 g3)) g13 ?_
      refine zV_mem (fun M14 e15 => ?_)
      replace h := zlet_of h e15
      refine zV_aload (j := 0) dL_one_814 rfl ?_
      refine zV_bipush (v := 14) dL_one_816 (by decide) ?_
      refine zV_aload (j := 0) dL_one_818 rfl ?_
      refine zV_bipush (v := 7) dL_one_820 (by decide) ?_
      obtain ⟨g16, h⟩ := zg_of h
      refine zV_iald dL_one_822 (zkI e15 (zkI e11 (zkI e7 g3))) g16 ?_
      refine zV_iadd dL_one_823 ?_
      refine zV_iconst (v := 0) dL_one_824 (by decide) ?_
      obtain ⟨g17, h⟩ := zg_of h
      refine zV_iast dL_one_825 (zkI e15 (zkI e11 (zkI e7 g3))) g17 ?_
      refine zV_mem (fun M18 e19 => ?_)
      replace h := zlet_of h e19
      exact zV_vret (x := 0) rfl dL_one_826 (by decide) (by decide) (z_ret h)
set_option maxHeartbeats 4000000 in
set_option maxRecDepth 100000 in
theorem vL_one_757 {l : Launch} {D : va_G} {T : Nat → ClassId} {b : Nat} {gr : Bool} {n0 : Nat} (x5 : Nat) (x12 : Nat) (M : zM) (o : Int32 × zM) (h : fL_one_757 x5 x12 M = some o) : zV false l RL cL_one 23 none false 5 0 0 D T zE0 b gr n0 (0, o.1, o.2) 0 0 757 [(5, zr b x5), (12, zr b x12)] [] M := by
  unfold fL_one_757 at h
  refine zV_aload (j := 0) dL_one_757 rfl ?_
  refine zV_aload (j := 1) dL_one_759 rfl ?_
  refine zV_iconst (v := 4) dL_one_761 (by decide) ?_
  obtain ⟨r20, M21, q22, h⟩ := zb_of h
  refine zV_callSv (As := [zr b x5, zr b x12, .int 4]) (rest := []) (vL_fails l D T b gr x5 x12 4 M _ _ q22) zm_yL_fails zl_RL_47 zs_yL_fails rfl rfl (zcs trivial (Nat.le_of_ble_eq_true rfl)) (by decide) (by decide) (by decide) dL_one_762 ?_
  refine zV_goto (tgt := 826) dL_one_765 (by decide) ?_
  exact zV_vret (x := 0) rfl dL_one_826 (by decide) (by decide) (z_ret h)
set_option maxHeartbeats 4000000 in
set_option maxRecDepth 100000 in
theorem vL_one_717 {l : Launch} {D : va_G} {T : Nat → ClassId} {b : Nat} {gr : Bool} {n0 : Nat} (x5 : Nat) (x12 : Nat) (x15 : Int32) (x16 : Int32) (x17 : Int32) (M : zM) (o : Int32 × zM) (h : fL_one_717 x5 x12 x15 x16 x17 M = some o) : zV false l RL cL_one 23 none false 5 0 0 D T zE0 b gr n0 (0, o.1, o.2) 0 0 717 [(5, zr b x5), (12, zr b x12), (15, .int x15), (16, .int x16), (17, .int x17)] [] M := by
  unfold fL_one_717 at h
  refine zV_iload (j := 4) dL_one_717 rfl ?_
  refine zV_if_ne (tgt := 768) dL_one_719 (by decide) (fun c23 => ?_) (fun c23 => ?_)
  · replace h := z_f c23 h
    refine zV_pk [0, 2, 3, 4] rfl ?_
    exact vL_one_768 x5 x15 x16 x17 M _ h
  · replace h := z_t c23 h
    refine zV_iload (j := 2) dL_one_722 rfl ?_
    refine zV_bipush (v := 6) dL_one_724 (by decide) ?_
    refine zV_icmp_ne (tgt := 768) dL_one_726 (by decide) (fun c24 => ?_) (fun c24 => ?_)
    · replace h := z_f c24 h
      refine zV_pk [0, 2, 3, 4] rfl ?_
      exact vL_one_768 x5 x15 x16 x17 M _ h
    · replace h := z_t c24 h
      refine zV_aload (j := 0) dL_one_729 rfl ?_
      refine zV_bipush (v := 7) dL_one_731 (by decide) ?_
      obtain ⟨g25, h⟩ := zg_of h
      obtain ⟨g26, h⟩ := zg_of h
      refine zV_iald dL_one_733 g25 g26 ?_
      refine zV_iconst (v := 2) dL_one_734 (by decide) ?_
      refine zV_icmp_eq (tgt := 757) dL_one_735 (by decide) (fun c27 => ?_) (fun c27 => ?_)
      · replace h := z_t c27 h
        refine zV_pk [0, 1] rfl ?_
        exact vL_one_757 x5 x12 M _ h
      · replace h := z_f c27 h
        refine zV_aload (j := 0) dL_one_738 rfl ?_
        refine zV_bipush (v := 7) dL_one_740 (by decide) ?_
        obtain ⟨g28, h⟩ := zg_of h
        refine zV_iald dL_one_742 g25 g28 ?_
        refine zV_iconst (v := 1) dL_one_743 (by decide) ?_
        refine zV_icmp_ne (tgt := 768) dL_one_744 (by decide) (fun c29 => ?_) (fun c29 => ?_)
        · replace h := z_f c29 h
          refine zV_pk [0, 2, 3, 4] rfl ?_
          exact vL_one_768 x5 x15 x16 x17 M _ h
        · replace h := z_t c29 h
          refine zV_aload (j := 0) dL_one_747 rfl ?_
          refine zV_bipush (v := 12) dL_one_749 (by decide) ?_
          obtain ⟨g30, h⟩ := zg_of h
          refine zV_iald dL_one_751 g25 g30 ?_
          refine zV_iload (j := 3) dL_one_752 rfl ?_
          refine zV_icmp_ne (tgt := 768) dL_one_754 (by decide) (fun c31 => ?_) (fun c31 => ?_)
          · replace h := z_f c31 h
            refine zV_pk [0, 2, 3, 4] rfl ?_
            exact vL_one_768 x5 x15 x16 x17 M _ h
          · replace h := z_t c31 h
            refine zV_pk [0, 1] rfl ?_
            exact vL_one_757 x5 x12 M _ h
set_option maxHeartbeats 4000000 in
set_option maxRecDepth 100000 in
theorem vL_one_714 {l : Launch} {D : va_G} {T : Nat → ClassId} {b : Nat} {gr : Bool} {n0 : Nat} (M : zM) (o : Int32 × zM) (h : fL_one_714 M = some o) : zV false l RL cL_one 23 none false 5 0 0 D T zE0 b gr n0 (0, o.1, o.2) 0 0 714 [] [] M := by
  unfold fL_one_714 at h
  refine zV_goto (tgt := 826) dL_one_714 (by decide) ?_
  exact zV_vret (x := 0) rfl dL_one_826 (by decide) (by decide) (z_ret h)
set_option maxHeartbeats 4000000 in
set_option maxRecDepth 100000 in
theorem vL_one_683 {l : Launch} {D : va_G} {T : Nat → ClassId} {b : Nat} {gr : Bool} {n0 : Nat} (x0 : Nat) (x1 : Nat) (x2 : Nat) (x5 : Nat) (x6 : Nat) (x8 : Nat) (x9 : Nat) (x10 : Nat) (x11 : Nat) (x12 : Nat) (s0 : Int32) (M : zM) (o : Int32 × zM) (h : fL_one_683 x0 x1 x2 x5 x6 x8 x9 x10 x11 x12 s0 M = some o) : zV false l RL cL_one 23 none false 5 0 0 D T zE0 b gr n0 (0, o.1, o.2) 0 0 683 [(0, zr b x0), (1, zr b x1), (2, zr b x2), (5, zr b x5), (6, zr b x6), (8, zr b x8), (9, zr b x9), (10, zr b x10), (11, zr b x11), (12, zr b x12)] [.int s0] M := by
  unfold fL_one_683 at h
  refine zV_istore [(22, .int s0), (0, zr b x0), (1, zr b x1), (2, zr b x2), (5, zr b x5), (6, zr b x6), (8, zr b x8), (9, zr b x9), (10, zr b x10), (11, zr b x11), (12, zr b x12)] dL_one_683 (by decide) rfl rfl ?_
  refine zV_iload (j := 0) dL_one_685 rfl ?_
  refine zV_if_ne (tgt := 714) dL_one_687 (by decide) (fun c32 => ?_) (fun c32 => ?_)
  · replace h := z_f c32 h
    refine zV_pk [] rfl ?_
    exact vL_one_714 M _ h
  · replace h := z_t c32 h
    refine zV_aload_n (j := 1) dL_one_690 rfl rfl ?_
    refine zV_aload_n (j := 2) dL_one_691 rfl rfl ?_
    refine zV_aload_n (j := 3) dL_one_692 rfl rfl ?_
    refine zV_aload (j := 4) dL_one_693 rfl ?_
    refine zV_aload (j := 5) dL_one_695 rfl ?_
    refine zV_aload (j := 6) dL_one_697 rfl ?_
    refine zV_aload (j := 7) dL_one_699 rfl ?_
    refine zV_aload (j := 8) dL_one_701 rfl ?_
    refine zV_aload (j := 9) dL_one_703 rfl ?_
    refine zV_aload (j := 10) dL_one_705 rfl ?_
    refine zV_bipush (v := 10) dL_one_707 (by decide) ?_
    refine zV_bipush (v := 32) dL_one_709 (by decide) ?_
    obtain ⟨r33, M34, q35, h⟩ := zb_of h
    refine zV_callSv (As := [zr b x0, zr b x1, zr b x2, zr b x5, zr b x6, zr b x8, zr b x9, zr b x10, zr b x11, zr b x12, .int 10, .int 32]) (rest := []) (vL_thing l D T b gr x0 x1 x2 x5 x6 x8 x9 x10 x11 x12 10 32 M _ _ q35) zm_yL_thing zl_RL_55 zs_yL_thing rfl rfl (zcs trivial (Nat.le_of_ble_eq_true rfl)) (by decide) (by decide) (by decide) dL_one_711 ?_
    refine zV_pk [] rfl ?_
    exact vL_one_714 M34 _ h
set_option maxHeartbeats 4000000 in
set_option maxRecDepth 100000 in
theorem vL_one_678 {l : Launch} {D : va_G} {T : Nat → ClassId} {b : Nat} {gr : Bool} {n0 : Nat} (x0 : Nat) (x1 : Nat) (x2 : Nat) (x5 : Nat) (x6 : Nat) (x8 : Nat) (x9 : Nat) (x10 : Nat) (x11 : Nat) (x12 : Nat) (M : zM) (o : Int32 × zM) (h : fL_one_678 x0 x1 x2 x5 x6 x8 x9 x10 x11 x12 M = some o) : zV false l RL cL_one 23 none false 5 0 0 D T zE0 b gr n0 (0, o.1, o.2) 0 0 678 [(0, zr b x0), (1, zr b x1), (2, zr b x2), (5, zr b x5), (6, zr b x6), (8, zr b x8), (9, zr b x9), (10, zr b x10), (11, zr b x11), (12, zr b x12)] [] M := by
  unfold fL_one_678 at h
  refine zV_iconst (v := 1) dL_one_678 (by decide) ?_
  refine zV_goto (tgt := 683) dL_one_679 (by decide) ?_
  exact vL_one_683 x0 x1 x2 x5 x6 x8 x9 x10 x11 x12 1 M _ h
set_option maxHeartbeats 4000000 in
set_option maxRecDepth 100000 in
theorem vL_one_682 {l : Launch} {D : va_G} {T : Nat → ClassId} {b : Nat} {gr : Bool} {n0 : Nat} (x0 : Nat) (x1 : Nat) (x2 : Nat) (x5 : Nat) (x6 : Nat) (x8 : Nat) (x9 : Nat) (x10 : Nat) (x11 : Nat) (x12 : Nat) (M : zM) (o : Int32 × zM) (h : fL_one_682 x0 x1 x2 x5 x6 x8 x9 x10 x11 x12 M = some o) : zV false l RL cL_one 23 none false 5 0 0 D T zE0 b gr n0 (0, o.1, o.2) 0 0 682 [(0, zr b x0), (1, zr b x1), (2, zr b x2), (5, zr b x5), (6, zr b x6), (8, zr b x8), (9, zr b x9), (10, zr b x10), (11, zr b x11), (12, zr b x12)] [] M := by
  unfold fL_one_682 at h
  refine zV_iconst (v := 0) dL_one_682 (by decide) ?_
  exact vL_one_683 x0 x1 x2 x5 x6 x8 x9 x10 x11 x12 0 M _ h
set_option maxHeartbeats 4000000 in
set_option maxRecDepth 100000 in
theorem vL_one_653 {l : Launch} {D : va_G} {T : Nat → ClassId} {b : Nat} {gr : Bool} {n0 : Nat} (x0 : Nat) (x1 : Nat) (x2 : Nat) (x5 : Nat) (x6 : Nat) (x8 : Nat) (x9 : Nat) (x10 : Nat) (x11 : Nat) (x12 : Nat) (x21 : Int32) (M : zM) (o : Int32 × zM) (h : fL_one_653 x0 x1 x2 x5 x6 x8 x9 x10 x11 x12 x21 M = some o) : zV false l RL cL_one 23 none false 5 0 0 D T zE0 b gr n0 (0, o.1, o.2) 0 0 653 [(0, zr b x0), (1, zr b x1), (2, zr b x2), (5, zr b x5), (6, zr b x6), (8, zr b x8), (9, zr b x9), (10, zr b x10), (11, zr b x11), (12, zr b x12), (21, .int x21)] [] M := by
  unfold fL_one_653 at h
  refine zV_iload (j := 10) dL_one_653 rfl ?_
  refine zV_if_lt (tgt := 682) dL_one_655 (by decide) (fun c36 => ?_) (fun c36 => ?_)
  · replace h := z_t c36 h
    refine zV_pk [0, 1, 2, 3, 4, 5, 6, 7, 8, 9] rfl ?_
    exact vL_one_682 x0 x1 x2 x5 x6 x8 x9 x10 x11 x12 M _ h
  · replace h := z_f c36 h
    refine zV_iload (j := 10) dL_one_658 rfl ?_
    refine zV_sipush (v := 128) dL_one_660 (by decide) ?_
    refine zV_idiv dL_one_663 (by decide) ?_
    refine zV_iconst (v := 1) dL_one_664 (by decide) ?_
    refine zV_icmp_eq (tgt := 678) dL_one_665 (by decide) (fun c37 => ?_) (fun c37 => ?_)
    · replace h := z_t c37 h
      refine zV_pk [0, 1, 2, 3, 4, 5, 6, 7, 8, 9] rfl ?_
      exact vL_one_678 x0 x1 x2 x5 x6 x8 x9 x10 x11 x12 M _ h
    · replace h := z_f c37 h
      refine zV_iload (j := 10) dL_one_668 rfl ?_
      refine zV_sipush (v := 128) dL_one_670 (by decide) ?_
      refine zV_idiv dL_one_673 (by decide) ?_
      refine zV_iconst (v := 3) dL_one_674 (by decide) ?_
      refine zV_icmp_ne (tgt := 682) dL_one_675 (by decide) (fun c38 => ?_) (fun c38 => ?_)
      · replace h := z_f c38 h
        refine zV_pk [0, 1, 2, 3, 4, 5, 6, 7, 8, 9] rfl ?_
        exact vL_one_682 x0 x1 x2 x5 x6 x8 x9 x10 x11 x12 M _ h
      · replace h := z_t c38 h
        refine zV_pk [0, 1, 2, 3, 4, 5, 6, 7, 8, 9] rfl ?_
        exact vL_one_678 x0 x1 x2 x5 x6 x8 x9 x10 x11 x12 M _ h
set_option maxHeartbeats 4000000 in
set_option maxRecDepth 100000 in
theorem vL_one_590 {l : Launch} {D : va_G} {T : Nat → ClassId} {b : Nat} {gr : Bool} {n0 : Nat} (x0 : Nat) (x1 : Nat) (x2 : Nat) (x3 : Nat) (x4 : Nat) (x5 : Nat) (x6 : Nat) (x8 : Nat) (x9 : Nat) (x10 : Nat) (x11 : Nat) (x12 : Nat) (x13 : Int32) (x15 : Int32) (x16 : Int32) (x17 : Int32) (M : zM) (o : Int32 × zM) (h : fL_one_590 x0 x1 x2 x3 x4 x5 x6 x8 x9 x10 x11 x12 x13 x15 x16 x17 M = some o) : zV false l RL cL_one 23 none false 5 0 0 D T zE0 b gr n0 (0, o.1, o.2) 0 0 590 [(0, zr b x0), (1, zr b x1), (2, zr b x2), (3, zr b x3), (4, zr b x4), (5, zr b x5), (6, zr b x6), (8, zr b x8), (9, zr b x9), (10, zr b x10), (11, zr b x11), (12, zr b x12), (13, .int x13), (15, .int x15), (16, .int x16), (17, .int x17)] [] M := by
  unfold fL_one_590 at h
  refine zV_iload (j := 15) dL_one_590 rfl ?_
  refine zV_if_ne (tgt := 717) dL_one_592 (by decide) (fun c39 => ?_) (fun c39 => ?_)
  · replace h := z_f c39 h
    refine zV_pk [5, 11, 13, 14, 15] rfl ?_
    exact vL_one_717 x5 x12 x15 x16 x17 M _ h
  · replace h := z_t c39 h
    refine zV_iload (j := 13) dL_one_595 rfl ?_
    refine zV_iconst (v := 5) dL_one_597 (by decide) ?_
    refine zV_icmp_ne (tgt := 717) dL_one_598 (by decide) (fun c40 => ?_) (fun c40 => ?_)
    · replace h := z_f c40 h
      refine zV_pk [5, 11, 13, 14, 15] rfl ?_
      exact vL_one_717 x5 x12 x15 x16 x17 M _ h
    · replace h := z_t c40 h
      refine zV_aload_n (j := 3) dL_one_601 rfl rfl ?_
      refine zV_aload (j := 4) dL_one_602 rfl ?_
      refine zV_aload (j := 5) dL_one_604 rfl ?_
      refine zV_iload (j := 12) dL_one_606 rfl ?_
      refine zV_iconst (v := 1) dL_one_608 (by decide) ?_
      refine zV_isub dL_one_609 ?_
      obtain ⟨r41, M42, q43, h⟩ := zb_of h
      refine zV_callSi (As := [zr b x3, zr b x4, zr b x5, .int (x13 - 1)]) (rest := []) (vL_token l D T b gr x3 x4 x5 (x13 - 1) M _ _ q43) zm_yL_token zl_RL_51 zs_yL_token rfl rfl (zcs trivial (Nat.le_of_ble_eq_true rfl)) (by decide) (by decide) (by decide) dL_one_610 ?_
      refine zV_istore [(20, .int r41), (0, zr b x0), (1, zr b x1), (2, zr b x2), (3, zr b x3), (4, zr b x4), (5, zr b x5), (6, zr b x6), (8, zr b x8), (9, zr b x9), (10, zr b x10), (11, zr b x11), (12, zr b x12), (13, .int x13), (15, .int x15), (16, .int x16), (17, .int x17)] dL_one_613 (by decide) rfl rfl ?_
      refine zV_aload_n (j := 4) dL_one_615 rfl rfl ?_
      refine zV_aload (j := 5) dL_one_616 rfl ?_
      refine zV_aload (j := 6) dL_one_618 rfl ?_
      refine zV_iload (j := 13) dL_one_620 rfl ?_
      refine zV_iconst (v := 1) dL_one_622 (by decide) ?_
      refine zV_iadd dL_one_623 ?_
      obtain ⟨r44, M45, q46, h⟩ := zb_of h
      refine zV_callSi (As := [zr b x3, zr b x4, zr b x5, .int (x13 + 1)]) (rest := []) (vL_token l D T b gr x3 x4 x5 (x13 + 1) M42 _ _ q46) zm_yL_token zl_RL_51 zs_yL_token rfl rfl (zcs trivial (Nat.le_of_ble_eq_true rfl)) (by decide) (by decide) (by decide) dL_one_624 ?_
      refine zV_istore [(21, .int r44), (20, .int r41), (0, zr b x0), (1, zr b x1), (2, zr b x2), (3, zr b x3), (4, zr b x4), (5, zr b x5), (6, zr b x6), (8, zr b x8), (9, zr b x9), (10, zr b x10), (11, zr b x11), (12, zr b x12), (13, .int x13), (15, .int x15), (16, .int x16), (17, .int x17)] dL_one_627 (by decide) rfl rfl ?_
      refine zV_iload (j := 1) dL_one_629 rfl ?_
      refine zV_if_lt (tgt := 653) dL_one_631 (by decide) (fun c47 => ?_) (fun c47 => ?_)
      · replace h := z_t c47 h
        refine zV_pk [2, 3, 4, 7, 8, 9, 10, 11, 12, 13, 0] rfl ?_
        exact vL_one_653 x0 x1 x2 x5 x6 x8 x9 x10 x11 x12 r44 M45 _ h
      · replace h := z_f c47 h
        refine zV_iload (j := 1) dL_one_634 rfl ?_
        refine zV_sipush (v := 128) dL_one_636 (by decide) ?_
        refine zV_idiv dL_one_639 (by decide) ?_
        refine zV_if_eq (tgt := 678) dL_one_640 (by decide) (fun c48 => ?_) (fun c48 => ?_)
        · replace h := z_t c48 h
          refine zV_pk [2, 3, 4, 7, 8, 9, 10, 11, 12, 13] rfl ?_
          exact vL_one_678 x0 x1 x2 x5 x6 x8 x9 x10 x11 x12 M45 _ h
        · replace h := z_f c48 h
          refine zV_iload (j := 1) dL_one_643 rfl ?_
          refine zV_sipush (v := 128) dL_one_645 (by decide) ?_
          refine zV_idiv dL_one_648 (by decide) ?_
          refine zV_iconst (v := 2) dL_one_649 (by decide) ?_
          refine zV_icmp_eq (tgt := 678) dL_one_650 (by decide) (fun c49 => ?_) (fun c49 => ?_)
          · replace h := z_t c49 h
            refine zV_pk [2, 3, 4, 7, 8, 9, 10, 11, 12, 13] rfl ?_
            exact vL_one_678 x0 x1 x2 x5 x6 x8 x9 x10 x11 x12 M45 _ h
          · replace h := z_f c49 h
            refine zV_pk [2, 3, 4, 7, 8, 9, 10, 11, 12, 13, 0] rfl ?_
            exact vL_one_653 x0 x1 x2 x5 x6 x8 x9 x10 x11 x12 r44 M45 _ h
set_option maxHeartbeats 4000000 in
set_option maxRecDepth 100000 in
theorem vL_one_552 {l : Launch} {D : va_G} {T : Nat → ClassId} {b : Nat} {gr : Bool} {n0 : Nat} (x0 : Nat) (x1 : Nat) (x2 : Nat) (x3 : Nat) (x4 : Nat) (x5 : Nat) (x6 : Nat) (x8 : Nat) (x9 : Nat) (x10 : Nat) (x11 : Nat) (x12 : Nat) (x13 : Int32) (x15 : Int32) (x16 : Int32) (x17 : Int32) (M : zM) (o : Int32 × zM) (h : fL_one_552 x0 x1 x2 x3 x4 x5 x6 x8 x9 x10 x11 x12 x13 x15 x16 x17 M = some o) : zV false l RL cL_one 23 none false 5 0 0 D T zE0 b gr n0 (0, o.1, o.2) 0 0 552 [(0, zr b x0), (1, zr b x1), (2, zr b x2), (3, zr b x3), (4, zr b x4), (5, zr b x5), (6, zr b x6), (8, zr b x8), (9, zr b x9), (10, zr b x10), (11, zr b x11), (12, zr b x12), (13, .int x13), (15, .int x15), (16, .int x16), (17, .int x17)] [] M := by
  unfold fL_one_552 at h
  refine zV_iload (j := 15) dL_one_552 rfl ?_
  refine zV_if_ne (tgt := 590) dL_one_554 (by decide) (fun c50 => ?_) (fun c50 => ?_)
  · replace h := z_f c50 h
    exact vL_one_590 x0 x1 x2 x3 x4 x5 x6 x8 x9 x10 x11 x12 x13 x15 x16 x17 M _ h
  · replace h := z_t c50 h
    refine zV_iload (j := 13) dL_one_557 rfl ?_
    refine zV_iconst (v := 4) dL_one_559 (by decide) ?_
    refine zV_icmp_ne (tgt := 590) dL_one_560 (by decide) (fun c51 => ?_) (fun c51 => ?_)
    · replace h := z_f c51 h
      exact vL_one_590 x0 x1 x2 x3 x4 x5 x6 x8 x9 x10 x11 x12 x13 x15 x16 x17 M _ h
    · replace h := z_t c51 h
      refine zV_aload_n (j := 0) dL_one_563 rfl rfl ?_
      refine zV_aload_n (j := 1) dL_one_564 rfl rfl ?_
      refine zV_aload_n (j := 2) dL_one_565 rfl rfl ?_
      refine zV_aload (j := 5) dL_one_566 rfl ?_
      refine zV_aload (j := 6) dL_one_568 rfl ?_
      refine zV_aload (j := 7) dL_one_570 rfl ?_
      refine zV_aload (j := 8) dL_one_572 rfl ?_
      refine zV_aload (j := 9) dL_one_574 rfl ?_
      refine zV_aload (j := 10) dL_one_576 rfl ?_
      refine zV_aload (j := 11) dL_one_578 rfl ?_
      refine zV_bipush (v := 10) dL_one_580 (by decide) ?_
      refine zV_iload (j := 14) dL_one_582 rfl ?_
      obtain ⟨r52, M53, q54, h⟩ := zb_of h
      refine zV_callSv (As := [zr b x0, zr b x1, zr b x2, zr b x5, zr b x6, zr b x8, zr b x9, zr b x10, zr b x11, zr b x12, .int 10, .int x16]) (rest := []) (vL_thing l D T b gr x0 x1 x2 x5 x6 x8 x9 x10 x11 x12 10 x16 M _ _ q54) zm_yL_thing zl_RL_55 zs_yL_thing rfl rfl (zcs trivial (Nat.le_of_ble_eq_true rfl)) (by decide) (by decide) (by decide) dL_one_584 ?_
      refine zV_goto (tgt := 826) dL_one_587 (by decide) ?_
      exact zV_vret (x := 0) rfl dL_one_826 (by decide) (by decide) (z_ret h)
set_option maxHeartbeats 4000000 in
set_option maxRecDepth 100000 in
theorem vL_one_549 {l : Launch} {D : va_G} {T : Nat → ClassId} {b : Nat} {gr : Bool} {n0 : Nat} (M : zM) (o : Int32 × zM) (h : fL_one_549 M = some o) : zV false l RL cL_one 23 none false 5 0 0 D T zE0 b gr n0 (0, o.1, o.2) 0 0 549 [] [] M := by
  unfold fL_one_549 at h
  refine zV_goto (tgt := 826) dL_one_549 (by decide) ?_
  exact zV_vret (x := 0) rfl dL_one_826 (by decide) (by decide) (z_ret h)
set_option maxHeartbeats 4000000 in
set_option maxRecDepth 100000 in
theorem vL_one_518 {l : Launch} {D : va_G} {T : Nat → ClassId} {b : Nat} {gr : Bool} {n0 : Nat} (x0 : Nat) (x1 : Nat) (x2 : Nat) (x5 : Nat) (x6 : Nat) (x12 : Nat) (x20 : Int32) (M : zM) (o : Int32 × zM) (h : fL_one_518 x0 x1 x2 x5 x6 x12 x20 M = some o) : zV false l RL cL_one 23 none false 5 0 0 D T zE0 b gr n0 (0, o.1, o.2) 0 0 518 [(0, zr b x0), (1, zr b x1), (2, zr b x2), (5, zr b x5), (6, zr b x6), (12, zr b x12), (20, .int x20)] [] M := by
  unfold fL_one_518 at h
  refine zV_iload (j := 6) dL_one_518 rfl ?_
  refine zV_if_ge (tgt := 534) dL_one_520 (by decide) (fun c55 => ?_) (fun c55 => ?_)
  · replace h := z_t c55 h
    refine zV_aload_n (j := 0) dL_one_534 rfl rfl ?_
    refine zV_aload_n (j := 1) dL_one_535 rfl rfl ?_
    refine zV_aload_n (j := 2) dL_one_536 rfl rfl ?_
    refine zV_aload (j := 3) dL_one_537 rfl ?_
    refine zV_aload (j := 4) dL_one_539 rfl ?_
    refine zV_aload (j := 5) dL_one_541 rfl ?_
    refine zV_iload (j := 6) dL_one_543 rfl ?_
    refine zV_iconst (v := 1) dL_one_545 (by decide) ?_
    obtain ⟨r56, M57, q58, h⟩ := zb_of h
    refine zV_callSv (As := [zr b x0, zr b x1, zr b x2, zr b x5, zr b x6, zr b x12, .int x20, .int 1]) (rest := []) (vL_close l D T b gr x0 x1 x2 x5 x6 x12 x20 1 M _ _ q58) zm_yL_close zl_RL_59 zs_yL_close rfl rfl (zcs trivial (Nat.le_of_ble_eq_true rfl)) (by decide) (by decide) (by decide) dL_one_546 ?_
    refine zV_pk [] rfl ?_
    exact vL_one_549 M57 _ h
  · replace h := z_f c55 h
    refine zV_aload (j := 3) dL_one_523 rfl ?_
    refine zV_aload (j := 5) dL_one_525 rfl ?_
    refine zV_iconst (v := 1) dL_one_527 (by decide) ?_
    obtain ⟨r59, M60, q61, h⟩ := zb_of h
    refine zV_callSv (As := [zr b x5, zr b x12, .int 1]) (rest := []) (vL_fails l D T b gr x5 x12 1 M _ _ q61) zm_yL_fails zl_RL_47 zs_yL_fails rfl rfl (zcs trivial (Nat.le_of_ble_eq_true rfl)) (by decide) (by decide) (by decide) dL_one_528 ?_
    refine zV_goto (tgt := 549) dL_one_531 (by decide) ?_
    refine zV_pk [] rfl ?_
    exact vL_one_549 M60 _ h
set_option maxHeartbeats 4000000 in
set_option maxRecDepth 100000 in
theorem vL_one_510 {l : Launch} {D : va_G} {T : Nat → ClassId} {b : Nat} {gr : Bool} {n0 : Nat} (k475 : Nat → Nat → Nat → Nat → Nat → Nat → Int32 → Int32 → Int32 → Int32 → zM → Option (Int32 × zM)) (hk475 : ∀ (z0 : Nat) (z1 : Nat) (z2 : Nat) (z5 : Nat) (z6 : Nat) (z12 : Nat) (z15 : Int32) (z16 : Int32) (z20 : Int32) (z21 : Int32) (N : zM) (o : Int32 × zM), k475 z0 z1 z2 z5 z6 z12 z15 z16 z20 z21 N = some o → zV false l RL cL_one 23 none false 5 0 0 D T zE0 b gr n0 (0, o.1, o.2) 0 0 475 [(0, zr b z0), (1, zr b z1), (2, zr b z2), (5, zr b z5), (6, zr b z6), (12, zr b z12), (15, .int z15), (16, .int z16), (20, .int z20), (21, .int z21)] [] N) (x0 : Nat) (x1 : Nat) (x2 : Nat) (x5 : Nat) (x6 : Nat) (x12 : Nat) (x15 : Int32) (x16 : Int32) (x21 : Int32) (s0 : Int32) (M : zM) (o : Int32 × zM) (h : fL_one_510 k475 x0 x1 x2 x5 x6 x12 x15 x16 x21 s0 M = some o) : zV false l RL cL_one 23 none false 5 0 0 D T zE0 b gr n0 (0, o.1, o.2) 0 0 510 [(0, zr b x0), (1, zr b x1), (2, zr b x2), (5, zr b x5), (6, zr b x6), (12, zr b x12), (15, .int x15), (16, .int x16), (21, .int x21)] [.int s0] M := by
  unfold fL_one_510 at h
  refine zV_istore [(20, .int s0), (0, zr b x0), (1, zr b x1), (2, zr b x2), (5, zr b x5), (6, zr b x6), (12, zr b x12), (15, .int x15), (16, .int x16), (21, .int x21)] dL_one_510 (by decide) rfl rfl ?_
  obtain ⟨u62, e63⟩ : ∃ y : Int32, y = x21 + 1 := ⟨_, rfl⟩
  replace h := zlet_of h e63
  refine zV_iinc (j := 9) (v := u62) [(21, .int u62), (20, .int s0), (0, zr b x0), (1, zr b x1), (2, zr b x2), (5, zr b x5), (6, zr b x6), (12, zr b x12), (15, .int x15), (16, .int x16)] dL_one_512 rfl (by rw [e63]; rfl) (by decide) rfl rfl ?_
  refine zV_goto (tgt := 475) dL_one_515 (by decide) ?_
  refine zV_pk [2, 3, 4, 5, 6, 7, 8, 9, 1, 0] rfl ?_
  exact hk475 x0 x1 x2 x5 x6 x12 x15 x16 s0 u62 M _ h
set_option maxHeartbeats 4000000 in
set_option maxRecDepth 100000 in
theorem vL_one_475 {l : Launch} {D : va_G} {T : Nat → ClassId} {b : Nat} {gr : Bool} {n0 : Nat} : ∀ (n : Nat) (x0 : Nat) (x1 : Nat) (x2 : Nat) (x5 : Nat) (x6 : Nat) (x12 : Nat) (x15 : Int32) (x16 : Int32) (x20 : Int32) (x21 : Int32) (M : zM) (o : Int32 × zM), fL_one_475 n x0 x1 x2 x5 x6 x12 x15 x16 x20 x21 M = some o → zV false l RL cL_one 23 none false 5 0 0 D T zE0 b gr n0 (0, o.1, o.2) 0 0 475 [(0, zr b x0), (1, zr b x1), (2, zr b x2), (5, zr b x5), (6, zr b x6), (12, zr b x12), (15, .int x15), (16, .int x16), (20, .int x20), (21, .int x21)] [] M := by
  intro n
  induction n with
  | zero =>
    intro x0 x1 x2 x5 x6 x12 x15 x16 x20 x21 M o h
    rw [fL_one_475] at h
    cases h
  | succ n ih =>
    intro x0 x1 x2 x5 x6 x12 x15 x16 x20 x21 M o h
    rw [fL_one_475] at h
    refine zV_iload (j := 9) dL_one_475 rfl ?_
    refine zV_aload (j := 3) dL_one_477 rfl ?_
    refine zV_iconst (v := 0) dL_one_479 (by decide) ?_
    obtain ⟨g64, h⟩ := zg_of h
    obtain ⟨g65, h⟩ := zg_of h
    refine zV_iald dL_one_480 g64 g65 ?_
    refine zV_icmp_ge (tgt := 518) dL_one_481 (by decide) (fun c66 => ?_) (fun c66 => ?_)
    · replace h := z_t c66 h
      refine zV_pk [0, 1, 2, 3, 4, 5, 8] rfl ?_
      exact vL_one_518 x0 x1 x2 x5 x6 x12 x20 M _ h
    · replace h := z_f c66 h
      refine zV_iload (j := 6) dL_one_484 rfl ?_
      refine zV_iconst (v := 1) dL_one_486 (by decide) ?_
      refine zV_icmp_ne (tgt := 518) dL_one_487 (by decide) (fun c67 => ?_) (fun c67 => ?_)
      · replace h := z_f c67 h
        refine zV_pk [0, 1, 2, 3, 4, 5, 8] rfl ?_
        exact vL_one_518 x0 x1 x2 x5 x6 x12 x20 M _ h
      · replace h := z_t c67 h
        refine zV_aload (j := 4) dL_one_490 rfl ?_
        refine zV_iload (j := 9) dL_one_492 rfl ?_
        obtain ⟨g68, h⟩ := zg_of h
        obtain ⟨g69, h⟩ := zg_of h
        refine zV_iald dL_one_494 g68 g69 ?_
        refine zV_bipush (v := 16) dL_one_495 (by decide) ?_
        refine zV_idiv dL_one_497 (by decide) ?_
        refine zV_iload (j := 7) dL_one_498 rfl ?_
        refine zV_icmp_ne (tgt := 508) dL_one_500 (by decide) (fun c70 => ?_) (fun c70 => ?_)
        · replace h := z_f c70 h
          refine zV_iload (j := 8) dL_one_508 rfl ?_
          refine zV_pk [0, 1, 2, 3, 4, 5, 6, 7, 9] rfl ?_
          exact vL_one_510 (fL_one_475 n) ih x0 x1 x2 x5 x6 x12 x15 x16 x21 x20 M _ h
        · replace h := z_t c70 h
          refine zV_iload (j := 9) dL_one_503 rfl ?_
          refine zV_goto (tgt := 510) dL_one_505 (by decide) ?_
          refine zV_pk [0, 1, 2, 3, 4, 5, 6, 7, 9] rfl ?_
          exact vL_one_510 (fL_one_475 n) ih x0 x1 x2 x5 x6 x12 x15 x16 x21 x21 M _ h
set_option maxHeartbeats 4000000 in
set_option maxRecDepth 100000 in
theorem vL_one_470 {l : Launch} {D : va_G} {T : Nat → ClassId} {b : Nat} {gr : Bool} {n0 : Nat} (x0 : Nat) (x1 : Nat) (x2 : Nat) (x5 : Nat) (x6 : Nat) (x12 : Nat) (x15 : Int32) (x16 : Int32) (s0 : Int32) (M : zM) (o : Int32 × zM) (h : fL_one_470 x0 x1 x2 x5 x6 x12 x15 x16 s0 M = some o) : zV false l RL cL_one 23 none false 5 0 0 D T zE0 b gr n0 (0, o.1, o.2) 0 0 470 [(0, zr b x0), (1, zr b x1), (2, zr b x2), (5, zr b x5), (6, zr b x6), (12, zr b x12), (15, .int x15), (16, .int x16)] [.int s0] M := by
  unfold fL_one_470 at h
  refine zV_istore [(20, .int s0), (0, zr b x0), (1, zr b x1), (2, zr b x2), (5, zr b x5), (6, zr b x6), (12, zr b x12), (15, .int x15), (16, .int x16)] dL_one_470 (by decide) rfl rfl ?_
  refine zV_iconst (v := 0) dL_one_472 (by decide) ?_
  refine zV_istore [(21, .int 0), (20, .int s0), (0, zr b x0), (1, zr b x1), (2, zr b x2), (5, zr b x5), (6, zr b x6), (12, zr b x12), (15, .int x15), (16, .int x16)] dL_one_473 (by decide) rfl rfl ?_
  refine zV_pk [2, 3, 4, 5, 6, 7, 8, 9, 1, 0] rfl ?_
  exact vL_one_475 10000 x0 x1 x2 x5 x6 x12 x15 x16 s0 0 M _ h
set_option maxHeartbeats 4000000 in
set_option maxRecDepth 100000 in
theorem vL_one_454 {l : Launch} {D : va_G} {T : Nat → ClassId} {b : Nat} {gr : Bool} {n0 : Nat} (x0 : Nat) (x1 : Nat) (x2 : Nat) (x5 : Nat) (x6 : Nat) (x12 : Nat) (x15 : Int32) (x16 : Int32) (M : zM) (o : Int32 × zM) (h : fL_one_454 x0 x1 x2 x5 x6 x12 x15 x16 M = some o) : zV false l RL cL_one 23 none false 5 0 0 D T zE0 b gr n0 (0, o.1, o.2) 0 0 454 [(0, zr b x0), (1, zr b x1), (2, zr b x2), (5, zr b x5), (6, zr b x6), (12, zr b x12), (15, .int x15), (16, .int x16)] [] M := by
  unfold fL_one_454 at h
  refine zV_iload (j := 6) dL_one_454 rfl ?_
  refine zV_iconst (v := 3) dL_one_456 (by decide) ?_
  refine zV_icmp_ne (tgt := 469) dL_one_457 (by decide) (fun c71 => ?_) (fun c71 => ?_)
  · replace h := z_f c71 h
    refine zV_iconst (v := (-1)) dL_one_469 (by decide) ?_
    exact vL_one_470 x0 x1 x2 x5 x6 x12 x15 x16 (-1) M _ h
  · replace h := z_t c71 h
    refine zV_aload (j := 3) dL_one_460 rfl ?_
    refine zV_iconst (v := 0) dL_one_462 (by decide) ?_
    obtain ⟨g72, h⟩ := zg_of h
    obtain ⟨g73, h⟩ := zg_of h
    refine zV_iald dL_one_463 g72 g73 ?_
    refine zV_iconst (v := 1) dL_one_464 (by decide) ?_
    refine zV_isub dL_one_465 ?_
    refine zV_goto (tgt := 470) dL_one_466 (by decide) ?_
    exact vL_one_470 x0 x1 x2 x5 x6 x12 x15 x16 ((zI M x5 (0 : Int32).toNatClampNeg) - 1) M _ h
set_option maxHeartbeats 4000000 in
set_option maxRecDepth 100000 in
theorem vL_one_437 {l : Launch} {D : va_G} {T : Nat → ClassId} {b : Nat} {gr : Bool} {n0 : Nat} (x0 : Nat) (x1 : Nat) (x2 : Nat) (x3 : Nat) (x4 : Nat) (x5 : Nat) (x6 : Nat) (x8 : Nat) (x9 : Nat) (x10 : Nat) (x11 : Nat) (x12 : Nat) (x13 : Int32) (x15 : Int32) (x16 : Int32) (x17 : Int32) (M : zM) (o : Int32 × zM) (h : fL_one_437 x0 x1 x2 x3 x4 x5 x6 x8 x9 x10 x11 x12 x13 x15 x16 x17 M = some o) : zV false l RL cL_one 23 none false 5 0 0 D T zE0 b gr n0 (0, o.1, o.2) 0 0 437 [(0, zr b x0), (1, zr b x1), (2, zr b x2), (3, zr b x3), (4, zr b x4), (5, zr b x5), (6, zr b x6), (8, zr b x8), (9, zr b x9), (10, zr b x10), (11, zr b x11), (12, zr b x12), (13, .int x13), (15, .int x15), (16, .int x16), (17, .int x17)] [] M := by
  unfold fL_one_437 at h
  refine zV_iload (j := 15) dL_one_437 rfl ?_
  refine zV_if_ne (tgt := 552) dL_one_439 (by decide) (fun c74 => ?_) (fun c74 => ?_)
  · replace h := z_f c74 h
    exact vL_one_552 x0 x1 x2 x3 x4 x5 x6 x8 x9 x10 x11 x12 x13 x15 x16 x17 M _ h
  · replace h := z_t c74 h
    refine zV_iload (j := 13) dL_one_442 rfl ?_
    refine zV_iconst (v := 1) dL_one_444 (by decide) ?_
    refine zV_icmp_eq (tgt := 454) dL_one_445 (by decide) (fun c75 => ?_) (fun c75 => ?_)
    · replace h := z_t c75 h
      refine zV_pk [0, 1, 2, 5, 6, 11, 13, 14] rfl ?_
      exact vL_one_454 x0 x1 x2 x5 x6 x12 x15 x16 M _ h
    · replace h := z_f c75 h
      refine zV_iload (j := 13) dL_one_448 rfl ?_
      refine zV_iconst (v := 3) dL_one_450 (by decide) ?_
      refine zV_icmp_ne (tgt := 552) dL_one_451 (by decide) (fun c76 => ?_) (fun c76 => ?_)
      · replace h := z_f c76 h
        exact vL_one_552 x0 x1 x2 x3 x4 x5 x6 x8 x9 x10 x11 x12 x13 x15 x16 x17 M _ h
      · replace h := z_t c76 h
        refine zV_pk [0, 1, 2, 5, 6, 11, 13, 14] rfl ?_
        exact vL_one_454 x0 x1 x2 x5 x6 x12 x15 x16 M _ h
set_option maxHeartbeats 4000000 in
set_option maxRecDepth 100000 in
theorem vL_one_415 {l : Launch} {D : va_G} {T : Nat → ClassId} {b : Nat} {gr : Bool} {n0 : Nat} (x0 : Nat) (x1 : Nat) (x2 : Nat) (x3 : Nat) (x4 : Nat) (x5 : Nat) (x6 : Nat) (x8 : Nat) (x9 : Nat) (x10 : Nat) (x11 : Nat) (x12 : Nat) (x13 : Int32) (x15 : Int32) (x16 : Int32) (x17 : Int32) (M : zM) (o : Int32 × zM) (h : fL_one_415 x0 x1 x2 x3 x4 x5 x6 x8 x9 x10 x11 x12 x13 x15 x16 x17 M = some o) : zV false l RL cL_one 23 none false 5 0 0 D T zE0 b gr n0 (0, o.1, o.2) 0 0 415 [(0, zr b x0), (1, zr b x1), (2, zr b x2), (3, zr b x3), (4, zr b x4), (5, zr b x5), (6, zr b x6), (8, zr b x8), (9, zr b x9), (10, zr b x10), (11, zr b x11), (12, zr b x12), (13, .int x13), (15, .int x15), (16, .int x16), (17, .int x17)] [] M := by
  unfold fL_one_415 at h
  refine zV_iload (j := 15) dL_one_415 rfl ?_
  refine zV_if_ne (tgt := 437) dL_one_417 (by decide) (fun c77 => ?_) (fun c77 => ?_)
  · replace h := z_f c77 h
    exact vL_one_437 x0 x1 x2 x3 x4 x5 x6 x8 x9 x10 x11 x12 x13 x15 x16 x17 M _ h
  · replace h := z_t c77 h
    refine zV_iload (j := 13) dL_one_420 rfl ?_
    refine zV_iconst (v := 2) dL_one_422 (by decide) ?_
    refine zV_icmp_ne (tgt := 437) dL_one_423 (by decide) (fun c78 => ?_) (fun c78 => ?_)
    · replace h := z_f c78 h
      exact vL_one_437 x0 x1 x2 x3 x4 x5 x6 x8 x9 x10 x11 x12 x13 x15 x16 x17 M _ h
    · replace h := z_t c78 h
      refine zV_aload (j := 5) dL_one_426 rfl ?_
      refine zV_aload (j := 11) dL_one_428 rfl ?_
      refine zV_iconst (v := 1) dL_one_430 (by decide) ?_
      obtain ⟨r79, M80, q81, h⟩ := zb_of h
      refine zV_callSv (As := [zr b x5, zr b x12, .int 1]) (rest := []) (vL_fails l D T b gr x5 x12 1 M _ _ q81) zm_yL_fails zl_RL_47 zs_yL_fails rfl rfl (zcs trivial (Nat.le_of_ble_eq_true rfl)) (by decide) (by decide) (by decide) dL_one_431 ?_
      refine zV_goto (tgt := 826) dL_one_434 (by decide) ?_
      exact zV_vret (x := 0) rfl dL_one_826 (by decide) (by decide) (z_ret h)
set_option maxHeartbeats 4000000 in
set_option maxRecDepth 100000 in
theorem vL_one_408 {l : Launch} {D : va_G} {T : Nat → ClassId} {b : Nat} {gr : Bool} {n0 : Nat} (s0 : Nat) (s1 : Nat) (s2 : Nat) (s3 : Nat) (s4 : Nat) (s5 : Nat) (s6 : Nat) (s7 : Nat) (s8 : Nat) (s9 : Nat) (s10 : Int32) (M : zM) (o : Int32 × zM) (h : fL_one_408 s0 s1 s2 s3 s4 s5 s6 s7 s8 s9 s10 M = some o) : zV false l RL cL_one 23 none false 5 0 0 D T zE0 b gr n0 (0, o.1, o.2) 0 0 408 [] [.int s10, zr b s9, zr b s8, zr b s7, zr b s6, zr b s5, zr b s4, zr b s3, zr b s2, zr b s1, zr b s0] M := by
  unfold fL_one_408 at h
  refine zV_iconst (v := 0) dL_one_408 (by decide) ?_
  obtain ⟨r82, M83, q84, h⟩ := zb_of h
  refine zV_callSv (As := [zr b s0, zr b s1, zr b s2, zr b s3, zr b s4, zr b s5, zr b s6, zr b s7, zr b s8, zr b s9, .int s10, .int 0]) (rest := []) (vL_thing l D T b gr s0 s1 s2 s3 s4 s5 s6 s7 s8 s9 s10 0 M _ _ q84) zm_yL_thing zl_RL_55 zs_yL_thing rfl rfl (zcs trivial (Nat.le_of_ble_eq_true rfl)) (by decide) (by decide) (by decide) dL_one_409 ?_
  refine zV_goto (tgt := 826) dL_one_412 (by decide) ?_
  exact zV_vret (x := 0) rfl dL_one_826 (by decide) (by decide) (z_ret h)
set_option maxHeartbeats 4000000 in
set_option maxRecDepth 100000 in
theorem vL_one_375 {l : Launch} {D : va_G} {T : Nat → ClassId} {b : Nat} {gr : Bool} {n0 : Nat} (x0 : Nat) (x1 : Nat) (x2 : Nat) (x5 : Nat) (x6 : Nat) (x8 : Nat) (x9 : Nat) (x10 : Nat) (x11 : Nat) (x12 : Nat) (x15 : Int32) (x16 : Int32) (M : zM) (o : Int32 × zM) (h : fL_one_375 x0 x1 x2 x5 x6 x8 x9 x10 x11 x12 x15 x16 M = some o) : zV false l RL cL_one 23 none false 5 0 0 D T zE0 b gr n0 (0, o.1, o.2) 0 0 375 [(0, zr b x0), (1, zr b x1), (2, zr b x2), (5, zr b x5), (6, zr b x6), (8, zr b x8), (9, zr b x9), (10, zr b x10), (11, zr b x11), (12, zr b x12), (15, .int x15), (16, .int x16)] [] M := by
  unfold fL_one_375 at h
  refine zV_aload_n (j := 0) dL_one_375 rfl rfl ?_
  refine zV_aload_n (j := 1) dL_one_376 rfl rfl ?_
  refine zV_aload_n (j := 2) dL_one_377 rfl rfl ?_
  refine zV_aload (j := 3) dL_one_378 rfl ?_
  refine zV_aload (j := 4) dL_one_380 rfl ?_
  refine zV_aload (j := 5) dL_one_382 rfl ?_
  refine zV_aload (j := 6) dL_one_384 rfl ?_
  refine zV_aload (j := 7) dL_one_386 rfl ?_
  refine zV_aload (j := 8) dL_one_388 rfl ?_
  refine zV_aload (j := 9) dL_one_390 rfl ?_
  refine zV_iload (j := 10) dL_one_392 rfl ?_
  refine zV_if_ne (tgt := 402) dL_one_394 (by decide) (fun c85 => ?_) (fun c85 => ?_)
  · replace h := z_f c85 h
    refine zV_aload (j := 3) dL_one_402 rfl ?_
    refine zV_iconst (v := 1) dL_one_404 (by decide) ?_
    obtain ⟨g86, h⟩ := zg_of h
    obtain ⟨g87, h⟩ := zg_of h
    refine zV_iald dL_one_405 g86 g87 ?_
    refine zV_iconst (v := 1) dL_one_406 (by decide) ?_
    refine zV_isub dL_one_407 ?_
    refine zV_pk [] rfl ?_
    exact vL_one_408 x0 x1 x2 x5 x6 x8 x9 x10 x11 x12 ((zI M x5 (1 : Int32).toNatClampNeg) - 1) M _ h
  · replace h := z_t c85 h
    refine zV_iload (j := 11) dL_one_397 rfl ?_
    refine zV_goto (tgt := 408) dL_one_399 (by decide) ?_
    refine zV_pk [] rfl ?_
    exact vL_one_408 x0 x1 x2 x5 x6 x8 x9 x10 x11 x12 x16 M _ h
set_option maxHeartbeats 4000000 in
set_option maxRecDepth 100000 in
theorem vL_one_352 {l : Launch} {D : va_G} {T : Nat → ClassId} {b : Nat} {gr : Bool} {n0 : Nat} (x0 : Nat) (x1 : Nat) (x2 : Nat) (x3 : Nat) (x4 : Nat) (x5 : Nat) (x6 : Nat) (x8 : Nat) (x9 : Nat) (x10 : Nat) (x11 : Nat) (x12 : Nat) (x13 : Int32) (x15 : Int32) (x16 : Int32) (x17 : Int32) (M : zM) (o : Int32 × zM) (h : fL_one_352 x0 x1 x2 x3 x4 x5 x6 x8 x9 x10 x11 x12 x13 x15 x16 x17 M = some o) : zV false l RL cL_one 23 none false 5 0 0 D T zE0 b gr n0 (0, o.1, o.2) 0 0 352 [(0, zr b x0), (1, zr b x1), (2, zr b x2), (3, zr b x3), (4, zr b x4), (5, zr b x5), (6, zr b x6), (8, zr b x8), (9, zr b x9), (10, zr b x10), (11, zr b x11), (12, zr b x12), (13, .int x13), (15, .int x15), (16, .int x16), (17, .int x17)] [] M := by
  unfold fL_one_352 at h
  refine zV_iload (j := 15) dL_one_352 rfl ?_
  refine zV_if_ne (tgt := 415) dL_one_354 (by decide) (fun c88 => ?_) (fun c88 => ?_)
  · replace h := z_f c88 h
    exact vL_one_415 x0 x1 x2 x3 x4 x5 x6 x8 x9 x10 x11 x12 x13 x15 x16 x17 M _ h
  · replace h := z_t c88 h
    refine zV_iload (j := 13) dL_one_357 rfl ?_
    refine zV_if_eq (tgt := 375) dL_one_359 (by decide) (fun c89 => ?_) (fun c89 => ?_)
    · replace h := z_t c89 h
      refine zV_pk [0, 1, 2, 5, 6, 7, 8, 9, 10, 11, 13, 14] rfl ?_
      exact vL_one_375 x0 x1 x2 x5 x6 x8 x9 x10 x11 x12 x15 x16 M _ h
    · replace h := z_f c89 h
      refine zV_iload (j := 13) dL_one_362 rfl ?_
      refine zV_iconst (v := 2) dL_one_364 (by decide) ?_
      refine zV_icmp_ne (tgt := 415) dL_one_365 (by decide) (fun c90 => ?_) (fun c90 => ?_)
      · replace h := z_f c90 h
        exact vL_one_415 x0 x1 x2 x3 x4 x5 x6 x8 x9 x10 x11 x12 x13 x15 x16 x17 M _ h
      · replace h := z_t c90 h
        refine zV_aload (j := 5) dL_one_368 rfl ?_
        refine zV_iconst (v := 1) dL_one_370 (by decide) ?_
        obtain ⟨g91, h⟩ := zg_of h
        obtain ⟨g92, h⟩ := zg_of h
        refine zV_iald dL_one_371 g91 g92 ?_
        refine zV_if_le (tgt := 415) dL_one_372 (by decide) (fun c93 => ?_) (fun c93 => ?_)
        · replace h := z_t c93 h
          exact vL_one_415 x0 x1 x2 x3 x4 x5 x6 x8 x9 x10 x11 x12 x13 x15 x16 x17 M _ h
        · replace h := z_f c93 h
          refine zV_pk [0, 1, 2, 5, 6, 7, 8, 9, 10, 11, 13, 14] rfl ?_
          exact vL_one_375 x0 x1 x2 x5 x6 x8 x9 x10 x11 x12 x15 x16 M _ h
set_option maxHeartbeats 4000000 in
set_option maxRecDepth 100000 in
theorem vL_one_346 {l : Launch} {D : va_G} {T : Nat → ClassId} {b : Nat} {gr : Bool} {n0 : Nat} (s0 : Nat) (s1 : Nat) (s2 : Nat) (s3 : Nat) (s4 : Nat) (s5 : Nat) (s6 : Nat) (s7 : Nat) (s8 : Nat) (s9 : Nat) (s10 : Int32) (s11 : Int32) (M : zM) (o : Int32 × zM) (h : fL_one_346 s0 s1 s2 s3 s4 s5 s6 s7 s8 s9 s10 s11 M = some o) : zV false l RL cL_one 23 none false 5 0 0 D T zE0 b gr n0 (0, o.1, o.2) 0 0 346 [] [.int s11, .int s10, zr b s9, zr b s8, zr b s7, zr b s6, zr b s5, zr b s4, zr b s3, zr b s2, zr b s1, zr b s0] M := by
  unfold fL_one_346 at h
  obtain ⟨r94, M95, q96, h⟩ := zb_of h
  refine zV_callSv (As := [zr b s0, zr b s1, zr b s2, zr b s3, zr b s4, zr b s5, zr b s6, zr b s7, zr b s8, zr b s9, .int s10, .int s11]) (rest := []) (vL_thing l D T b gr s0 s1 s2 s3 s4 s5 s6 s7 s8 s9 s10 s11 M _ _ q96) zm_yL_thing zl_RL_55 zs_yL_thing rfl rfl (zcs trivial (Nat.le_of_ble_eq_true rfl)) (by decide) (by decide) (by decide) dL_one_346 ?_
  refine zV_goto (tgt := 826) dL_one_349 (by decide) ?_
  exact zV_vret (x := 0) rfl dL_one_826 (by decide) (by decide) (z_ret h)
set_option maxHeartbeats 4000000 in
set_option maxRecDepth 100000 in
theorem vL_one_303 {l : Launch} {D : va_G} {T : Nat → ClassId} {b : Nat} {gr : Bool} {n0 : Nat} (x0 : Nat) (x1 : Nat) (x2 : Nat) (x5 : Nat) (x6 : Nat) (x8 : Nat) (x9 : Nat) (x10 : Nat) (x11 : Nat) (x12 : Nat) (x15 : Int32) (x16 : Int32) (M : zM) (o : Int32 × zM) (h : fL_one_303 x0 x1 x2 x5 x6 x8 x9 x10 x11 x12 x15 x16 M = some o) : zV false l RL cL_one 23 none false 5 0 0 D T zE0 b gr n0 (0, o.1, o.2) 0 0 303 [(0, zr b x0), (1, zr b x1), (2, zr b x2), (5, zr b x5), (6, zr b x6), (8, zr b x8), (9, zr b x9), (10, zr b x10), (11, zr b x11), (12, zr b x12), (15, .int x15), (16, .int x16)] [] M := by
  unfold fL_one_303 at h
  refine zV_aload_n (j := 0) dL_one_303 rfl rfl ?_
  refine zV_aload_n (j := 1) dL_one_304 rfl rfl ?_
  refine zV_aload_n (j := 2) dL_one_305 rfl rfl ?_
  refine zV_aload (j := 3) dL_one_306 rfl ?_
  refine zV_aload (j := 4) dL_one_308 rfl ?_
  refine zV_aload (j := 5) dL_one_310 rfl ?_
  refine zV_aload (j := 6) dL_one_312 rfl ?_
  refine zV_aload (j := 7) dL_one_314 rfl ?_
  refine zV_aload (j := 8) dL_one_316 rfl ?_
  refine zV_aload (j := 9) dL_one_318 rfl ?_
  refine zV_bipush (v := 10) dL_one_320 (by decide) ?_
  refine zV_iload (j := 10) dL_one_322 rfl ?_
  refine zV_iconst (v := 4) dL_one_324 (by decide) ?_
  refine zV_icmp_ne (tgt := 333) dL_one_325 (by decide) (fun c97 => ?_) (fun c97 => ?_)
  · replace h := z_f c97 h
    refine zV_iload (j := 10) dL_one_333 rfl ?_
    refine zV_iconst (v := 5) dL_one_335 (by decide) ?_
    refine zV_icmp_ne (tgt := 344) dL_one_336 (by decide) (fun c98 => ?_) (fun c98 => ?_)
    · replace h := z_f c98 h
      refine zV_bipush (v := 42) dL_one_344 (by decide) ?_
      refine zV_pk [] rfl ?_
      exact vL_one_346 x0 x1 x2 x5 x6 x8 x9 x10 x11 x12 10 42 M _ h
    · replace h := z_t c98 h
      refine zV_bipush (v := 32) dL_one_339 (by decide) ?_
      refine zV_goto (tgt := 346) dL_one_341 (by decide) ?_
      refine zV_pk [] rfl ?_
      exact vL_one_346 x0 x1 x2 x5 x6 x8 x9 x10 x11 x12 10 32 M _ h
  · replace h := z_t c97 h
    refine zV_iload (j := 11) dL_one_328 rfl ?_
    refine zV_goto (tgt := 346) dL_one_330 (by decide) ?_
    refine zV_pk [] rfl ?_
    exact vL_one_346 x0 x1 x2 x5 x6 x8 x9 x10 x11 x12 10 x16 M _ h
set_option maxHeartbeats 4000000 in
set_option maxRecDepth 100000 in
theorem vL_one_283 {l : Launch} {D : va_G} {T : Nat → ClassId} {b : Nat} {gr : Bool} {n0 : Nat} (x0 : Nat) (x1 : Nat) (x2 : Nat) (x3 : Nat) (x4 : Nat) (x5 : Nat) (x6 : Nat) (x8 : Nat) (x9 : Nat) (x10 : Nat) (x11 : Nat) (x12 : Nat) (x13 : Int32) (x15 : Int32) (x16 : Int32) (x17 : Int32) (s0 : Int32) (M : zM) (o : Int32 × zM) (h : fL_one_283 x0 x1 x2 x3 x4 x5 x6 x8 x9 x10 x11 x12 x13 x15 x16 x17 s0 M = some o) : zV false l RL cL_one 23 none false 5 0 0 D T zE0 b gr n0 (0, o.1, o.2) 0 0 283 [(0, zr b x0), (1, zr b x1), (2, zr b x2), (3, zr b x3), (4, zr b x4), (5, zr b x5), (6, zr b x6), (8, zr b x8), (9, zr b x9), (10, zr b x10), (11, zr b x11), (12, zr b x12), (13, .int x13), (15, .int x15), (16, .int x16), (17, .int x17)] [.int s0] M := by
  unfold fL_one_283 at h
  refine zV_istore [(19, .int s0), (0, zr b x0), (1, zr b x1), (2, zr b x2), (3, zr b x3), (4, zr b x4), (5, zr b x5), (6, zr b x6), (8, zr b x8), (9, zr b x9), (10, zr b x10), (11, zr b x11), (12, zr b x12), (13, .int x13), (15, .int x15), (16, .int x16), (17, .int x17)] dL_one_283 (by decide) rfl rfl ?_
  refine zV_iload (j := 0) dL_one_285 rfl ?_
  refine zV_if_eq (tgt := 352) dL_one_287 (by decide) (fun c99 => ?_) (fun c99 => ?_)
  · replace h := z_t c99 h
    refine zV_pk [1, 2, 3, 4, 5, 6, 7, 8, 9, 10, 11, 12, 13, 14, 15, 16] rfl ?_
    exact vL_one_352 x0 x1 x2 x3 x4 x5 x6 x8 x9 x10 x11 x12 x13 x15 x16 x17 M _ h
  · replace h := z_f c99 h
    refine zV_iload (j := 14) dL_one_290 rfl ?_
    refine zV_bipush (v := 8) dL_one_292 (by decide) ?_
    refine zV_icmp_ne (tgt := 303) dL_one_294 (by decide) (fun c100 => ?_) (fun c100 => ?_)
    · replace h := z_f c100 h
      refine zV_pk [1, 2, 3, 6, 7, 8, 9, 10, 11, 12, 14, 15] rfl ?_
      exact vL_one_303 x0 x1 x2 x5 x6 x8 x9 x10 x11 x12 x15 x16 M _ h
    · replace h := z_t c100 h
      refine zV_iload (j := 16) dL_one_297 rfl ?_
      refine zV_iconst (v := 4) dL_one_299 (by decide) ?_
      refine zV_icmp_ne (tgt := 352) dL_one_300 (by decide) (fun c101 => ?_) (fun c101 => ?_)
      · replace h := z_f c101 h
        refine zV_pk [1, 2, 3, 4, 5, 6, 7, 8, 9, 10, 11, 12, 13, 14, 15, 16] rfl ?_
        exact vL_one_352 x0 x1 x2 x3 x4 x5 x6 x8 x9 x10 x11 x12 x13 x15 x16 x17 M _ h
      · replace h := z_t c101 h
        refine zV_pk [1, 2, 3, 6, 7, 8, 9, 10, 11, 12, 14, 15] rfl ?_
        exact vL_one_303 x0 x1 x2 x5 x6 x8 x9 x10 x11 x12 x15 x16 M _ h
set_option maxHeartbeats 4000000 in
set_option maxRecDepth 100000 in
theorem vL_one_278 {l : Launch} {D : va_G} {T : Nat → ClassId} {b : Nat} {gr : Bool} {n0 : Nat} (x0 : Nat) (x1 : Nat) (x2 : Nat) (x3 : Nat) (x4 : Nat) (x5 : Nat) (x6 : Nat) (x8 : Nat) (x9 : Nat) (x10 : Nat) (x11 : Nat) (x12 : Nat) (x13 : Int32) (x15 : Int32) (x16 : Int32) (x17 : Int32) (M : zM) (o : Int32 × zM) (h : fL_one_278 x0 x1 x2 x3 x4 x5 x6 x8 x9 x10 x11 x12 x13 x15 x16 x17 M = some o) : zV false l RL cL_one 23 none false 5 0 0 D T zE0 b gr n0 (0, o.1, o.2) 0 0 278 [(0, zr b x0), (1, zr b x1), (2, zr b x2), (3, zr b x3), (4, zr b x4), (5, zr b x5), (6, zr b x6), (8, zr b x8), (9, zr b x9), (10, zr b x10), (11, zr b x11), (12, zr b x12), (13, .int x13), (15, .int x15), (16, .int x16), (17, .int x17)] [] M := by
  unfold fL_one_278 at h
  refine zV_iconst (v := 1) dL_one_278 (by decide) ?_
  refine zV_goto (tgt := 283) dL_one_279 (by decide) ?_
  exact vL_one_283 x0 x1 x2 x3 x4 x5 x6 x8 x9 x10 x11 x12 x13 x15 x16 x17 1 M _ h
set_option maxHeartbeats 4000000 in
set_option maxRecDepth 100000 in
theorem vL_one_266 {l : Launch} {D : va_G} {T : Nat → ClassId} {b : Nat} {gr : Bool} {n0 : Nat} (x0 : Nat) (x1 : Nat) (x2 : Nat) (x3 : Nat) (x4 : Nat) (x5 : Nat) (x6 : Nat) (x8 : Nat) (x9 : Nat) (x10 : Nat) (x11 : Nat) (x12 : Nat) (x13 : Int32) (x15 : Int32) (x16 : Int32) (x17 : Int32) (M : zM) (o : Int32 × zM) (h : fL_one_266 x0 x1 x2 x3 x4 x5 x6 x8 x9 x10 x11 x12 x13 x15 x16 x17 M = some o) : zV false l RL cL_one 23 none false 5 0 0 D T zE0 b gr n0 (0, o.1, o.2) 0 0 266 [(0, zr b x0), (1, zr b x1), (2, zr b x2), (3, zr b x3), (4, zr b x4), (5, zr b x5), (6, zr b x6), (8, zr b x8), (9, zr b x9), (10, zr b x10), (11, zr b x11), (12, zr b x12), (13, .int x13), (15, .int x15), (16, .int x16), (17, .int x17)] [] M := by
  unfold fL_one_266 at h
  refine zV_iload (j := 15) dL_one_266 rfl ?_
  refine zV_iconst (v := 2) dL_one_268 (by decide) ?_
  refine zV_icmp_eq (tgt := 278) dL_one_269 (by decide) (fun c102 => ?_) (fun c102 => ?_)
  · replace h := z_t c102 h
    exact vL_one_278 x0 x1 x2 x3 x4 x5 x6 x8 x9 x10 x11 x12 x13 x15 x16 x17 M _ h
  · replace h := z_f c102 h
    refine zV_iload (j := 15) dL_one_272 rfl ?_
    refine zV_iconst (v := 4) dL_one_274 (by decide) ?_
    refine zV_icmp_ne (tgt := 282) dL_one_275 (by decide) (fun c103 => ?_) (fun c103 => ?_)
    · replace h := z_f c103 h
      refine zV_iconst (v := 0) dL_one_282 (by decide) ?_
      exact vL_one_283 x0 x1 x2 x3 x4 x5 x6 x8 x9 x10 x11 x12 x13 x15 x16 x17 0 M _ h
    · replace h := z_t c103 h
      exact vL_one_278 x0 x1 x2 x3 x4 x5 x6 x8 x9 x10 x11 x12 x13 x15 x16 x17 M _ h
set_option maxHeartbeats 4000000 in
set_option maxRecDepth 100000 in
theorem vL_one_251 {l : Launch} {D : va_G} {T : Nat → ClassId} {b : Nat} {gr : Bool} {n0 : Nat} (x0 : Nat) (x1 : Nat) (x2 : Nat) (x3 : Nat) (x4 : Nat) (x5 : Nat) (x6 : Nat) (x8 : Nat) (x9 : Nat) (x10 : Nat) (x11 : Nat) (x12 : Nat) (x13 : Int32) (x15 : Int32) (x16 : Int32) (x17 : Int32) (M : zM) (o : Int32 × zM) (h : fL_one_251 x0 x1 x2 x3 x4 x5 x6 x8 x9 x10 x11 x12 x13 x15 x16 x17 M = some o) : zV false l RL cL_one 23 none false 5 0 0 D T zE0 b gr n0 (0, o.1, o.2) 0 0 251 [(0, zr b x0), (1, zr b x1), (2, zr b x2), (3, zr b x3), (4, zr b x4), (5, zr b x5), (6, zr b x6), (8, zr b x8), (9, zr b x9), (10, zr b x10), (11, zr b x11), (12, zr b x12), (13, .int x13), (15, .int x15), (16, .int x16), (17, .int x17)] [] M := by
  unfold fL_one_251 at h
  refine zV_iload (j := 13) dL_one_251 rfl ?_
  refine zV_bipush (v := 8) dL_one_253 (by decide) ?_
  refine zV_icmp_ne (tgt := 266) dL_one_255 (by decide) (fun c104 => ?_) (fun c104 => ?_)
  · replace h := z_f c104 h
    exact vL_one_266 x0 x1 x2 x3 x4 x5 x6 x8 x9 x10 x11 x12 x13 x15 x16 x17 M _ h
  · replace h := z_t c104 h
    refine zV_aload (j := 5) dL_one_258 rfl ?_
    refine zV_aload (j := 11) dL_one_260 rfl ?_
    refine zV_iconst (v := 5) dL_one_262 (by decide) ?_
    obtain ⟨r105, M106, q107, h⟩ := zb_of h
    refine zV_callSv (As := [zr b x5, zr b x12, .int 5]) (rest := []) (vL_fails l D T b gr x5 x12 5 M _ _ q107) zm_yL_fails zl_RL_47 zs_yL_fails rfl rfl (zcs trivial (Nat.le_of_ble_eq_true rfl)) (by decide) (by decide) (by decide) dL_one_263 ?_
    exact vL_one_266 x0 x1 x2 x3 x4 x5 x6 x8 x9 x10 x11 x12 x13 x15 x16 x17 M106 _ h
set_option maxHeartbeats 4000000 in
set_option maxRecDepth 100000 in
theorem vL_one_212 {l : Launch} {D : va_G} {T : Nat → ClassId} {b : Nat} {gr : Bool} {n0 : Nat} (x0 : Nat) (x1 : Nat) (x2 : Nat) (x3 : Nat) (x4 : Nat) (x5 : Nat) (x6 : Nat) (x8 : Nat) (x9 : Nat) (x10 : Nat) (x11 : Nat) (x12 : Nat) (x13 : Int32) (x15 : Int32) (x16 : Int32) (x17 : Int32) (M : zM) (o : Int32 × zM) (h : fL_one_212 x0 x1 x2 x3 x4 x5 x6 x8 x9 x10 x11 x12 x13 x15 x16 x17 M = some o) : zV false l RL cL_one 23 none false 5 0 0 D T zE0 b gr n0 (0, o.1, o.2) 0 0 212 [(0, zr b x0), (1, zr b x1), (2, zr b x2), (3, zr b x3), (4, zr b x4), (5, zr b x5), (6, zr b x6), (8, zr b x8), (9, zr b x9), (10, zr b x10), (11, zr b x11), (12, zr b x12), (13, .int x13), (15, .int x15), (16, .int x16), (17, .int x17)] [] M := by
  unfold fL_one_212 at h
  refine zV_iload (j := 13) dL_one_212 rfl ?_
  refine zV_bipush (v := 8) dL_one_214 (by decide) ?_
  refine zV_icmp_ne (tgt := 251) dL_one_216 (by decide) (fun c108 => ?_) (fun c108 => ?_)
  · replace h := z_f c108 h
    exact vL_one_251 x0 x1 x2 x3 x4 x5 x6 x8 x9 x10 x11 x12 x13 x15 x16 x17 M _ h
  · replace h := z_t c108 h
    refine zV_aload (j := 5) dL_one_219 rfl ?_
    refine zV_bipush (v := 14) dL_one_221 (by decide) ?_
    refine zV_aload (j := 5) dL_one_223 rfl ?_
    refine zV_bipush (v := 7) dL_one_225 (by decide) ?_
    obtain ⟨g109, h⟩ := zg_of h
    obtain ⟨g110, h⟩ := zg_of h
    refine zV_iald dL_one_227 g109 g110 ?_
    refine zV_iadd dL_one_228 ?_
    obtain ⟨g111, h⟩ := zg_of h
    refine zV_iald dL_one_229 g109 g111 ?_
    refine zV_if_le (tgt := 251) dL_one_230 (by decide) (fun c112 => ?_) (fun c112 => ?_)
    · replace h := z_t c112 h
      exact vL_one_251 x0 x1 x2 x3 x4 x5 x6 x8 x9 x10 x11 x12 x13 x15 x16 x17 M _ h
    · replace h := z_f c112 h
      refine zV_aload (j := 5) dL_one_233 rfl ?_
      refine zV_bipush (v := 14) dL_one_235 (by decide) ?_
      refine zV_aload (j := 5) dL_one_237 rfl ?_
      refine zV_bipush (v := 7) dL_one_239 (by decide) ?_
      obtain ⟨g113, h⟩ := zg_of h
      refine zV_iald dL_one_241 g109 g113 ?_
      refine zV_iadd dL_one_242 ?_
      refine zV_dup2 dL_one_243 rfl (zr_cat _ _) ?_
      obtain ⟨g114, h⟩ := zg_of h
      refine zV_iald dL_one_244 g109 g114 ?_
      refine zV_iconst (v := 1) dL_one_245 (by decide) ?_
      refine zV_isub dL_one_246 ?_
      obtain ⟨g115, h⟩ := zg_of h
      refine zV_iast dL_one_247 g109 g115 ?_
      refine zV_mem (fun M116 e117 => ?_)
      replace h := zlet_of h e117
      refine zV_goto (tgt := 266) dL_one_248 (by decide) ?_
      exact vL_one_266 x0 x1 x2 x3 x4 x5 x6 x8 x9 x10 x11 x12 x13 x15 x16 x17 M116 _ h
set_option maxHeartbeats 4000000 in
set_option maxRecDepth 100000 in
theorem vL_one_196 {l : Launch} {D : va_G} {T : Nat → ClassId} {b : Nat} {gr : Bool} {n0 : Nat} (x0 : Nat) (x1 : Nat) (x2 : Nat) (x3 : Nat) (x4 : Nat) (x5 : Nat) (x6 : Nat) (x8 : Nat) (x9 : Nat) (x10 : Nat) (x11 : Nat) (x12 : Nat) (x13 : Int32) (x15 : Int32) (x16 : Int32) (x17 : Int32) (s0 : Nat) (s1 : Int32) (s2 : Int32) (M : zM) (o : Int32 × zM) (h : fL_one_196 x0 x1 x2 x3 x4 x5 x6 x8 x9 x10 x11 x12 x13 x15 x16 x17 s0 s1 s2 M = some o) : zV false l RL cL_one 23 none false 5 0 0 D T zE0 b gr n0 (0, o.1, o.2) 0 0 196 [(0, zr b x0), (1, zr b x1), (2, zr b x2), (3, zr b x3), (4, zr b x4), (5, zr b x5), (6, zr b x6), (8, zr b x8), (9, zr b x9), (10, zr b x10), (11, zr b x11), (12, zr b x12), (13, .int x13), (15, .int x15), (16, .int x16), (17, .int x17)] [.int s2, .int s1, zr b s0] M := by
  unfold fL_one_196 at h
  obtain ⟨g118, h⟩ := zg_of h
  obtain ⟨g119, h⟩ := zg_of h
  refine zV_iast dL_one_196 g118 g119 ?_
  refine zV_mem (fun M120 e121 => ?_)
  replace h := zlet_of h e121
  refine zV_aload (j := 5) dL_one_197 rfl ?_
  refine zV_bipush (v := 14) dL_one_199 (by decide) ?_
  refine zV_aload (j := 5) dL_one_201 rfl ?_
  refine zV_bipush (v := 7) dL_one_203 (by decide) ?_
  obtain ⟨g122, h⟩ := zg_of h
  obtain ⟨g123, h⟩ := zg_of h
  refine zV_iald dL_one_205 g122 g123 ?_
  refine zV_iadd dL_one_206 ?_
  refine zV_dup2 dL_one_207 rfl (zr_cat _ _) ?_
  obtain ⟨g124, h⟩ := zg_of h
  refine zV_iald dL_one_208 g122 g124 ?_
  refine zV_iconst (v := 1) dL_one_209 (by decide) ?_
  refine zV_iadd dL_one_210 ?_
  obtain ⟨g125, h⟩ := zg_of h
  refine zV_iast dL_one_211 g122 g125 ?_
  refine zV_mem (fun M126 e127 => ?_)
  replace h := zlet_of h e127
  exact vL_one_212 x0 x1 x2 x3 x4 x5 x6 x8 x9 x10 x11 x12 x13 x15 x16 x17 M126 _ h
set_option maxHeartbeats 4000000 in
set_option maxRecDepth 100000 in
theorem vL_one_148 {l : Launch} {D : va_G} {T : Nat → ClassId} {b : Nat} {gr : Bool} {n0 : Nat} (x0 : Nat) (x1 : Nat) (x2 : Nat) (x3 : Nat) (x4 : Nat) (x5 : Nat) (x6 : Nat) (x7 : Nat) (x8 : Nat) (x9 : Nat) (x10 : Nat) (x11 : Nat) (x12 : Nat) (x13 : Int32) (x15 : Int32) (x16 : Int32) (x17 : Int32) (s0 : Int32) (M : zM) (o : Int32 × zM) (h : fL_one_148 x0 x1 x2 x3 x4 x5 x6 x7 x8 x9 x10 x11 x12 x13 x15 x16 x17 s0 M = some o) : zV false l RL cL_one 23 none false 5 0 0 D T zE0 b gr n0 (0, o.1, o.2) 0 0 148 [(0, zr b x0), (1, zr b x1), (2, zr b x2), (3, zr b x3), (4, zr b x4), (5, zr b x5), (6, zr b x6), (7, zr b x7), (8, zr b x8), (9, zr b x9), (10, zr b x10), (11, zr b x11), (12, zr b x12), (13, .int x13), (15, .int x15), (16, .int x16), (17, .int x17)] [.int s0] M := by
  unfold fL_one_148 at h
  refine zV_istore [(18, .int s0), (0, zr b x0), (1, zr b x1), (2, zr b x2), (3, zr b x3), (4, zr b x4), (5, zr b x5), (6, zr b x6), (7, zr b x7), (8, zr b x8), (9, zr b x9), (10, zr b x10), (11, zr b x11), (12, zr b x12), (13, .int x13), (15, .int x15), (16, .int x16), (17, .int x17)] dL_one_148 (by decide) rfl rfl ?_
  refine zV_iload (j := 15) dL_one_150 rfl ?_
  refine zV_bipush (v := 7) dL_one_152 (by decide) ?_
  refine zV_icmp_ne (tgt := 212) dL_one_154 (by decide) (fun c128 => ?_) (fun c128 => ?_)
  · replace h := z_f c128 h
    refine zV_pk [1, 2, 3, 4, 5, 6, 7, 9, 10, 11, 12, 13, 14, 15, 16, 17] rfl ?_
    exact vL_one_212 x0 x1 x2 x3 x4 x5 x6 x8 x9 x10 x11 x12 x13 x15 x16 x17 M _ h
  · replace h := z_t c128 h
    refine zV_aload (j := 8) dL_one_157 rfl ?_
    refine zV_bipush (v := 20) dL_one_159 (by decide) ?_
    refine zV_aload (j := 6) dL_one_161 rfl ?_
    refine zV_bipush (v := 7) dL_one_163 (by decide) ?_
    obtain ⟨g129, h⟩ := zg_of h
    obtain ⟨g130, h⟩ := zg_of h
    refine zV_iald dL_one_165 g129 g130 ?_
    refine zV_imul dL_one_166 ?_
    refine zV_aload (j := 6) dL_one_167 rfl ?_
    refine zV_bipush (v := 14) dL_one_169 (by decide) ?_
    refine zV_aload (j := 6) dL_one_171 rfl ?_
    refine zV_bipush (v := 7) dL_one_173 (by decide) ?_
    obtain ⟨g131, h⟩ := zg_of h
    refine zV_iald dL_one_175 g129 g131 ?_
    refine zV_iadd dL_one_176 ?_
    obtain ⟨g132, h⟩ := zg_of h
    refine zV_iald dL_one_177 g129 g132 ?_
    refine zV_iadd dL_one_178 ?_
    refine zV_iload (j := 0) dL_one_179 rfl ?_
    refine zV_if_ge (tgt := 194) dL_one_181 (by decide) (fun c133 => ?_) (fun c133 => ?_)
    · replace h := z_t c133 h
      refine zV_iload (j := 0) dL_one_194 rfl ?_
      refine zV_pk [1, 2, 3, 4, 5, 6, 7, 9, 10, 11, 12, 13, 14, 15, 16, 17] rfl ?_
      exact vL_one_196 x0 x1 x2 x3 x4 x5 x6 x8 x9 x10 x11 x12 x13 x15 x16 x17 x7 ((20 * (zI M x5 (7 : Int32).toNatClampNeg)) + (zI M x5 (14 + (zI M x5 (7 : Int32).toNatClampNeg)).toNatClampNeg)) s0 M _ h
    · replace h := z_f c133 h
      refine zV_aload_n (j := 4) dL_one_184 rfl rfl ?_
      refine zV_bipush (v := 10) dL_one_185 (by decide) ?_
      refine zV_iload (j := 16) dL_one_187 rfl ?_
      refine zV_iadd dL_one_189 ?_
      obtain ⟨g134, h⟩ := zg_of h
      obtain ⟨g135, h⟩ := zg_of h
      refine zV_iald dL_one_190 g134 g135 ?_
      refine zV_goto (tgt := 196) dL_one_191 (by decide) ?_
      refine zV_pk [1, 2, 3, 4, 5, 6, 7, 9, 10, 11, 12, 13, 14, 15, 16, 17] rfl ?_
      exact vL_one_196 x0 x1 x2 x3 x4 x5 x6 x8 x9 x10 x11 x12 x13 x15 x16 x17 x7 ((20 * (zI M x5 (7 : Int32).toNatClampNeg)) + (zI M x5 (14 + (zI M x5 (7 : Int32).toNatClampNeg)).toNatClampNeg)) (zI M x3 (10 + x16).toNatClampNeg) M _ h
set_option maxHeartbeats 4000000 in
set_option maxRecDepth 100000 in
theorem vL_one_107 {l : Launch} {D : va_G} {T : Nat → ClassId} {b : Nat} {gr : Bool} {n0 : Nat} (x0 : Nat) (x1 : Nat) (x2 : Nat) (x3 : Nat) (x4 : Nat) (x5 : Nat) (x6 : Nat) (x7 : Nat) (x8 : Nat) (x9 : Nat) (x10 : Nat) (x11 : Nat) (x12 : Nat) (x13 : Int32) (x15 : Int32) (x16 : Int32) (s0 : Int32) (M : zM) (o : Int32 × zM) (h : fL_one_107 x0 x1 x2 x3 x4 x5 x6 x7 x8 x9 x10 x11 x12 x13 x15 x16 s0 M = some o) : zV false l RL cL_one 23 none false 5 0 0 D T zE0 b gr n0 (0, o.1, o.2) 0 0 107 [(0, zr b x0), (1, zr b x1), (2, zr b x2), (3, zr b x3), (4, zr b x4), (5, zr b x5), (6, zr b x6), (7, zr b x7), (8, zr b x8), (9, zr b x9), (10, zr b x10), (11, zr b x11), (12, zr b x12), (13, .int x13), (15, .int x15), (16, .int x16)] [.int s0] M := by
  unfold fL_one_107 at h
  refine zV_istore [(17, .int s0), (0, zr b x0), (1, zr b x1), (2, zr b x2), (3, zr b x3), (4, zr b x4), (5, zr b x5), (6, zr b x6), (7, zr b x7), (8, zr b x8), (9, zr b x9), (10, zr b x10), (11, zr b x11), (12, zr b x12), (13, .int x13), (15, .int x15), (16, .int x16)] dL_one_107 (by decide) rfl rfl ?_
  refine zV_aload (j := 6) dL_one_109 rfl ?_
  refine zV_bipush (v := 8) dL_one_111 (by decide) ?_
  refine zV_aload (j := 6) dL_one_113 rfl ?_
  refine zV_bipush (v := 7) dL_one_115 (by decide) ?_
  obtain ⟨g136, h⟩ := zg_of h
  obtain ⟨g137, h⟩ := zg_of h
  refine zV_iald dL_one_117 g136 g137 ?_
  refine zV_iadd dL_one_118 ?_
  refine zV_dup2 dL_one_119 rfl (zr_cat _ _) ?_
  obtain ⟨g138, h⟩ := zg_of h
  refine zV_iald dL_one_120 g136 g138 ?_
  refine zV_iconst (v := 1) dL_one_121 (by decide) ?_
  refine zV_iadd dL_one_122 ?_
  obtain ⟨g139, h⟩ := zg_of h
  refine zV_iast dL_one_123 g136 g139 ?_
  refine zV_mem (fun M140 e141 => ?_)
  replace h := zlet_of h e141
  refine zV_iload (j := 0) dL_one_124 rfl ?_
  refine zV_if_ne (tgt := 133) dL_one_126 (by decide) (fun c142 => ?_) (fun c142 => ?_)
  · replace h := z_f c142 h
    refine zV_iload (j := 0) dL_one_133 rfl ?_
    refine zV_iconst (v := 2) dL_one_135 (by decide) ?_
    refine zV_icmp_le (tgt := 144) dL_one_136 (by decide) (fun c143 => ?_) (fun c143 => ?_)
    · replace h := z_t c143 h
      refine zV_iload (j := 0) dL_one_144 rfl ?_
      refine zV_iconst (v := 2) dL_one_146 (by decide) ?_
      refine zV_iadd dL_one_147 ?_
      refine zV_pk [1, 2, 3, 4, 5, 6, 7, 8, 9, 10, 11, 12, 13, 14, 15, 16, 0] rfl ?_
      exact vL_one_148 x0 x1 x2 x3 x4 x5 x6 x7 x8 x9 x10 x11 x12 x13 x15 x16 s0 (s0 + 2) M140 _ h
    · replace h := z_f c143 h
      refine zV_iload (j := 0) dL_one_139 rfl ?_
      refine zV_goto (tgt := 148) dL_one_141 (by decide) ?_
      refine zV_pk [1, 2, 3, 4, 5, 6, 7, 8, 9, 10, 11, 12, 13, 14, 15, 16, 0] rfl ?_
      exact vL_one_148 x0 x1 x2 x3 x4 x5 x6 x7 x8 x9 x10 x11 x12 x13 x15 x16 s0 s0 M140 _ h
  · replace h := z_t c142 h
    refine zV_iconst (v := (-1)) dL_one_129 (by decide) ?_
    refine zV_goto (tgt := 148) dL_one_130 (by decide) ?_
    refine zV_pk [1, 2, 3, 4, 5, 6, 7, 8, 9, 10, 11, 12, 13, 14, 15, 16, 0] rfl ?_
    exact vL_one_148 x0 x1 x2 x3 x4 x5 x6 x7 x8 x9 x10 x11 x12 x13 x15 x16 s0 (-1) M140 _ h
set_option maxHeartbeats 4000000 in
set_option maxRecDepth 100000 in
theorem vL_one_47 {l : Launch} {D : va_G} {T : Nat → ClassId} {b : Nat} {gr : Bool} {n0 : Nat} (x0 : Nat) (x1 : Nat) (x2 : Nat) (x3 : Nat) (x4 : Nat) (x5 : Nat) (x6 : Nat) (x7 : Nat) (x8 : Nat) (x9 : Nat) (x10 : Nat) (x11 : Nat) (x12 : Nat) (x13 : Int32) (x14 : Int32) (s0 : Nat) (s1 : Int32) (s2 : Int32) (M : zM) (o : Int32 × zM) (h : fL_one_47 x0 x1 x2 x3 x4 x5 x6 x7 x8 x9 x10 x11 x12 x13 x14 s0 s1 s2 M = some o) : zV false l RL cL_one 23 none false 5 0 0 D T zE0 b gr n0 (0, o.1, o.2) 0 0 47 [(0, zr b x0), (1, zr b x1), (2, zr b x2), (3, zr b x3), (4, zr b x4), (5, zr b x5), (6, zr b x6), (7, zr b x7), (8, zr b x8), (9, zr b x9), (10, zr b x10), (11, zr b x11), (12, zr b x12), (13, .int x13), (14, .int x14)] [.int s2, .int s1, zr b s0] M := by
  unfold fL_one_47 at h
  obtain ⟨g144, h⟩ := zg_of h
  obtain ⟨g145, h⟩ := zg_of h
  refine zV_iast dL_one_47 g144 g145 ?_
  refine zV_mem (fun M146 e147 => ?_)
  replace h := zlet_of h e147
  refine zV_iload (j := 14) dL_one_48 rfl ?_
  refine zV_sipush (v := 128) dL_one_50 (by decide) ?_
  refine zV_idiv dL_one_53 (by decide) ?_
  refine zV_top (fun u148 e149 => ?_)
  replace h := zlet_of h e149
  refine zV_istore [(15, .int u148), (0, zr b x0), (1, zr b x1), (2, zr b x2), (3, zr b x3), (4, zr b x4), (5, zr b x5), (6, zr b x6), (7, zr b x7), (8, zr b x8), (9, zr b x9), (10, zr b x10), (11, zr b x11), (12, zr b x12), (13, .int x13), (14, .int x14)] dL_one_54 (by decide) rfl rfl ?_
  refine zV_iload (j := 15) dL_one_56 rfl ?_
  refine zV_sipush (v := 128) dL_one_58 (by decide) ?_
  refine zV_irem dL_one_61 (by decide) ?_
  refine zV_top (fun u150 e151 => ?_)
  replace h := zlet_of h e151
  refine zV_istore [(16, .int u150), (15, .int u148), (0, zr b x0), (1, zr b x1), (2, zr b x2), (3, zr b x3), (4, zr b x4), (5, zr b x5), (6, zr b x6), (7, zr b x7), (8, zr b x8), (9, zr b x9), (10, zr b x10), (11, zr b x11), (12, zr b x12), (13, .int x13), (14, .int x14)] dL_one_62 (by decide) rfl rfl ?_
  refine zV_aload (j := 7) dL_one_64 rfl ?_
  refine zV_bipush (v := 14) dL_one_66 (by decide) ?_
  refine zV_aload (j := 7) dL_one_68 rfl ?_
  refine zV_bipush (v := 7) dL_one_70 (by decide) ?_
  obtain ⟨g152, h⟩ := zg_of h
  obtain ⟨g153, h⟩ := zg_of h
  refine zV_iald dL_one_72 g152 g153 ?_
  refine zV_iadd dL_one_73 ?_
  obtain ⟨g154, h⟩ := zg_of h
  refine zV_iald dL_one_74 g152 g154 ?_
  refine zV_if_ne (tgt := 82) dL_one_75 (by decide) (fun c155 => ?_) (fun c155 => ?_)
  · replace h := z_f c155 h
    refine zV_aload (j := 9) dL_one_82 rfl ?_
    refine zV_bipush (v := 20) dL_one_84 (by decide) ?_
    refine zV_aload (j := 7) dL_one_86 rfl ?_
    refine zV_bipush (v := 7) dL_one_88 (by decide) ?_
    obtain ⟨g156, h⟩ := zg_of h
    refine zV_iald dL_one_90 g152 g156 ?_
    refine zV_imul dL_one_91 ?_
    refine zV_aload (j := 7) dL_one_92 rfl ?_
    refine zV_bipush (v := 14) dL_one_94 (by decide) ?_
    refine zV_aload (j := 7) dL_one_96 rfl ?_
    refine zV_bipush (v := 7) dL_one_98 (by decide) ?_
    obtain ⟨g157, h⟩ := zg_of h
    refine zV_iald dL_one_100 g152 g157 ?_
    refine zV_iadd dL_one_101 ?_
    obtain ⟨g158, h⟩ := zg_of h
    refine zV_iald dL_one_102 g152 g158 ?_
    refine zV_iadd dL_one_103 ?_
    refine zV_iconst (v := 1) dL_one_104 (by decide) ?_
    refine zV_isub dL_one_105 ?_
    obtain ⟨g159, h⟩ := zg_of h
    obtain ⟨g160, h⟩ := zg_of h
    refine zV_iald dL_one_106 g159 g160 ?_
    refine zV_pk [2, 3, 4, 5, 6, 7, 8, 9, 10, 11, 12, 13, 14, 15, 1, 0] rfl ?_
    exact vL_one_107 x0 x1 x2 x3 x4 x5 x6 x7 x8 x9 x10 x11 x12 x13 u148 u150 (zI M146 x7 (((20 * (zI M146 x5 (7 : Int32).toNatClampNeg)) + (zI M146 x5 (14 + (zI M146 x5 (7 : Int32).toNatClampNeg)).toNatClampNeg)) - 1).toNatClampNeg) M146 _ h
  · replace h := z_t c155 h
    refine zV_iconst (v := 0) dL_one_78 (by decide) ?_
    refine zV_goto (tgt := 107) dL_one_79 (by decide) ?_
    refine zV_pk [2, 3, 4, 5, 6, 7, 8, 9, 10, 11, 12, 13, 14, 15, 1, 0] rfl ?_
    exact vL_one_107 x0 x1 x2 x3 x4 x5 x6 x7 x8 x9 x10 x11 x12 x13 u148 u150 0 M146 _ h
set_option maxHeartbeats 4000000 in
set_option maxRecDepth 100000 in
theorem vL_one (l : Launch) (D : va_G) (T : Nat → ClassId) (b : Nat) (gr : Bool) (x0 : Nat) (x1 : Nat) (x2 : Nat) (x3 : Nat) (x4 : Nat) (x5 : Nat) (x6 : Nat) (x7 : Nat) (x8 : Nat) (x9 : Nat) (x10 : Nat) (x11 : Nat) (x12 : Nat) (M : zM) (r : Int32) (M' : zM) (h : fL_one x0 x1 x2 x3 x4 x5 x6 x7 x8 x9 x10 x11 x12 M = some (r, M')) : zMet l D T b gr yL_one cL_one 23 none 5 0 0 [zr b x0, zr b x1, zr b x2, zr b x3, zr b x4, zr b x5, zr b x6, zr b x7, zr b x8, zr b x9, zr b x10, zr b x11, zr b x12] M (0, r, M') := by
  refine zEntry2 (ev := zE0) rfl false (fun h9 => nomatch h9) zp_yL_one ⟨zr_cat _ _, zr_cat _ _, zr_cat _ _, zr_cat _ _, zr_cat _ _, zr_cat _ _, zr_cat _ _, zr_cat _ _, zr_cat _ _, zr_cat _ _, zr_cat _ _, zr_cat _ _, zr_cat _ _, trivial⟩ (Nat.le_of_ble_eq_true rfl) ?_
  obtain ⟨o, ho⟩ : ∃ o : Int32 × zM, o = (r, M') := ⟨_, rfl⟩
  rw [← ho] at h
  rw [show ((0, r, M') : Nat × Int32 × zM) = (0, o.1, o.2) by rw [ho]]
  show zV false l RL cL_one 23 none false 5 0 0 D T zE0 b gr M.2.2.2 (0, o.1, o.2) 0 0 0 [(0, zr b x0), (1, zr b x1), (2, zr b x2), (3, zr b x3), (4, zr b x4), (5, zr b x5), (6, zr b x6), (7, zr b x7), (8, zr b x8), (9, zr b x9), (10, zr b x10), (11, zr b x11), (12, zr b x12)] [] M
  unfold fL_one at h
  refine zV_aload (j := 5) dL_one_0 rfl ?_
  refine zV_bipush (v := 8) dL_one_2 (by decide) ?_
  refine zV_aload (j := 5) dL_one_4 rfl ?_
  refine zV_bipush (v := 7) dL_one_6 (by decide) ?_
  obtain ⟨g161, h⟩ := zg_of h
  obtain ⟨g162, h⟩ := zg_of h
  refine zV_iald dL_one_8 g161 g162 ?_
  refine zV_iadd dL_one_9 ?_
  obtain ⟨g163, h⟩ := zg_of h
  refine zV_iald dL_one_10 g161 g163 ?_
  refine zV_top (fun u164 e165 => ?_)
  replace h := zlet_of h e165
  refine zV_istore [(13, .int u164), (0, zr b x0), (1, zr b x1), (2, zr b x2), (3, zr b x3), (4, zr b x4), (5, zr b x5), (6, zr b x6), (7, zr b x7), (8, zr b x8), (9, zr b x9), (10, zr b x10), (11, zr b x11), (12, zr b x12)] dL_one_11 (by decide) rfl rfl ?_
  refine zV_aload_n (j := 4) dL_one_13 rfl rfl ?_
  refine zV_aload (j := 5) dL_one_14 rfl ?_
  refine zV_aload (j := 6) dL_one_16 rfl ?_
  refine zV_iload (j := 0) dL_one_18 rfl ?_
  obtain ⟨r166, M167, q168, h⟩ := zb_of h
  refine zV_callSi (As := [zr b x3, zr b x4, zr b x5, .int u164]) (rest := []) (vL_token l D T b gr x3 x4 x5 u164 M _ _ q168) zm_yL_token zl_RL_51 zs_yL_token rfl rfl (zcs trivial (Nat.le_of_ble_eq_true rfl)) (by decide) (by decide) (by decide) dL_one_20 ?_
  refine zV_istore [(14, .int r166), (13, .int u164), (0, zr b x0), (1, zr b x1), (2, zr b x2), (3, zr b x3), (4, zr b x4), (5, zr b x5), (6, zr b x6), (7, zr b x7), (8, zr b x8), (9, zr b x9), (10, zr b x10), (11, zr b x11), (12, zr b x12)] dL_one_23 (by decide) rfl rfl ?_
  refine zV_aload (j := 7) dL_one_25 rfl ?_
  refine zV_bipush (v := 18) dL_one_27 (by decide) ?_
  refine zV_aload (j := 7) dL_one_29 rfl ?_
  refine zV_bipush (v := 7) dL_one_31 (by decide) ?_
  obtain ⟨g169, h⟩ := zg_of h
  obtain ⟨g170, h⟩ := zg_of h
  refine zV_iald dL_one_33 g169 g170 ?_
  refine zV_if_ne (tgt := 42) dL_one_34 (by decide) (fun c171 => ?_) (fun c171 => ?_)
  · replace h := z_f c171 h
    refine zV_aload (j := 7) dL_one_42 rfl ?_
    refine zV_bipush (v := 18) dL_one_44 (by decide) ?_
    obtain ⟨g172, h⟩ := zg_of h
    refine zV_iald dL_one_46 g169 g172 ?_
    refine zV_pk [2, 3, 4, 5, 6, 7, 8, 9, 10, 11, 12, 13, 14, 1, 0] rfl ?_
    exact vL_one_47 x0 x1 x2 x3 x4 x5 x6 x7 x8 x9 x10 x11 x12 u164 r166 x5 18 (zI M167 x5 (18 : Int32).toNatClampNeg) M167 _ h
  · replace h := z_t c171 h
    refine zV_iload (j := 1) dL_one_37 rfl ?_
    refine zV_goto (tgt := 47) dL_one_39 (by decide) ?_
    refine zV_pk [2, 3, 4, 5, 6, 7, 8, 9, 10, 11, 12, 13, 14, 1, 0] rfl ?_
    exact vL_one_47 x0 x1 x2 x3 x4 x5 x6 x7 x8 x9 x10 x11 x12 u164 r166 x5 18 u164 M167 _ h
