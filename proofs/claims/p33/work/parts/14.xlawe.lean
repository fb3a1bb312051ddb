set_option maxHeartbeats 4000000 in
set_option maxRecDepth 100000 in
theorem vL_isEdited_136 {l : Launch} {D : va_G} {T : Nat → ClassId} {b : Nat} {gr : Bool} {n0 : Nat} (x0 : Nat) (x1 : Nat) (x5 : Int32) (M : zM) (o : Int32 × zM) (h : fL_isEdited_136 x0 x1 x5 M = some o) : zV false l RL cL_isEdited 7 (some .boolean) false 123 0 0 D T zE0 b gr n0 (0, o.1, o.2) 0 0 136 [(0, zr b x0), (1, zr b x1), (5, .int x5)] [] M := by
  unfold fL_isEdited_136 at h
  refine zV_aload_n (j := 1) dL_isEdited_136 rfl rfl ?_
  refine zV_bipush (v := 20) dL_isEdited_137 (by decide) ?_
  refine zV_dup2 dL_isEdited_139 rfl (zr_cat _ _) ?_
  obtain ⟨g1, h⟩ := zg_of h
  obtain ⟨g2, h⟩ := zg_of h
  refine zV_iald dL_isEdited_140 g1 g2 ?_
  refine zV_iconst (v := 1) dL_isEdited_141 (by decide) ?_
  refine zV_isub dL_isEdited_142 ?_
  obtain ⟨g3, h⟩ := zg_of h
  refine zV_iast dL_isEdited_143 g1 g3 ?_
  refine zV_mem (fun M4 e5 => ?_)
  replace h := zlet_of h e5
  refine zV_aload_n (j := 0) dL_isEdited_144 rfl rfl ?_
  refine zV_iload (j := 2) dL_isEdited_145 rfl ?_
  obtain ⟨g6, h⟩ := zg_of h
  obtain ⟨g10, h⟩ := zg_of h
  obtain ⟨r7, M8z, q9, h⟩ := zbc_of h
  refine zV_cutVi (ci := 7) (As := [.int x5]) (rest := []) (vX7_erase l D T b false x0 x5 (zcut M4) _ _ q9) zm_yX7_erase zl_RL_161 zi_yX7_erase ze_yX7_erase zcI7 g6 g10 rfl rfl (zcs trivial (Nat.le_of_ble_eq_true rfl)) (by decide) (Nat.le_of_ble_eq_true rfl) (Nat.le_of_ble_eq_true rfl) dL_isEdited_147 ?_
  refine zV_mem (fun M8 M8e => ?_)
  rw [← M8e] at h
  refine zV_aload_n (j := 1) dL_isEdited_150 rfl rfl ?_
  refine zV_bipush (v := 20) dL_isEdited_151 (by decide) ?_
  obtain ⟨g11, h⟩ := zg_of h
  obtain ⟨g12, h⟩ := zg_of h
  refine zV_iald dL_isEdited_153 g11 g12 ?_
  refine zV_icmp_ne (tgt := 161) dL_isEdited_154 (by decide) (fun c13 => ?_) (fun c13 => ?_)
  · replace h := z_f c13 h
    refine zV_iconst (v := 0) dL_isEdited_161 (by decide) ?_
    exact zV_zret rfl dL_isEdited_162 (by decide) (by decide) (Or.inl rfl) (z_ret h)
  · replace h := z_t c13 h
    refine zV_iconst (v := 1) dL_isEdited_157 (by decide) ?_
    refine zV_goto (tgt := 162) dL_isEdited_158 (by decide) ?_
    exact zV_zret rfl dL_isEdited_162 (by decide) (by decide) (Or.inr rfl) (z_ret h)
set_option maxHeartbeats 4000000 in
set_option maxRecDepth 100000 in
theorem vL_isEdited_109 {l : Launch} {D : va_G} {T : Nat → ClassId} {b : Nat} {gr : Bool} {n0 : Nat} : ∀ (n : Nat) (x0 : Nat) (x1 : Nat) (x5 : Int32) (x6 : Int32) (M : zM) (o : Int32 × zM), fL_isEdited_109 n x0 x1 x5 x6 M = some o → zV false l RL cL_isEdited 7 (some .boolean) false 123 0 0 D T zE0 b gr n0 (0, o.1, o.2) 0 0 109 [(0, zr b x0), (1, zr b x1), (5, .int x5), (6, .int x6)] [] M := by
  intro n
  induction n with
  | zero =>
    intro x0 x1 x5 x6 M o h
    rw [fL_isEdited_109] at h
    cases h
  | succ n ih =>
    intro x0 x1 x5 x6 M o h
    rw [fL_isEdited_109] at h
    refine zV_iload (j := 3) dL_isEdited_109 rfl ?_
    refine zV_iconst (v := 1) dL_isEdited_111 (by decide) ?_
    refine zV_iadd dL_isEdited_112 ?_
    refine zV_aload_n (j := 1) dL_isEdited_113 rfl rfl ?_
    refine zV_bipush (v := 20) dL_isEdited_114 (by decide) ?_
    obtain ⟨g14, h⟩ := zg_of h
    obtain ⟨g15, h⟩ := zg_of h
    refine zV_iald dL_isEdited_116 g14 g15 ?_
    refine zV_icmp_ge (tgt := 136) dL_isEdited_117 (by decide) (fun c16 => ?_) (fun c16 => ?_)
    · replace h := z_t c16 h
      refine zV_pk [0, 1, 2] rfl ?_
      exact vL_isEdited_136 x0 x1 x5 M _ h
    · replace h := z_f c16 h
      refine zV_aload_n (j := 1) dL_isEdited_120 rfl rfl ?_
      refine zV_iload (j := 3) dL_isEdited_121 rfl ?_
      refine zV_aload_n (j := 1) dL_isEdited_123 rfl rfl ?_
      refine zV_iload (j := 3) dL_isEdited_124 rfl ?_
      refine zV_iconst (v := 1) dL_isEdited_126 (by decide) ?_
      refine zV_iadd dL_isEdited_127 ?_
      obtain ⟨g17, h⟩ := zg_of h
      refine zV_iald dL_isEdited_128 g14 g17 ?_
      obtain ⟨g18, h⟩ := zg_of h
      refine zV_iast dL_isEdited_129 g14 g18 ?_
      refine zV_mem (fun M19 e20 => ?_)
      replace h := zlet_of h e20
      obtain ⟨u21, e22⟩ : ∃ y : Int32, y = x6 + 1 := ⟨_, rfl⟩
      replace h := zlet_of h e22
      refine zV_iinc (j := 3) (v := u21) [(6, .int u21), (0, zr b x0), (1, zr b x1), (5, .int x5)] dL_isEdited_130 rfl (by rw [e22]; rfl) (by decide) rfl rfl ?_
      refine zV_goto (tgt := 109) dL_isEdited_133 (by decide) ?_
      refine zV_pk [1, 2, 3, 0] rfl ?_
      exact ih x0 x1 x5 u21 M19 _ h
set_option maxHeartbeats 4000000 in
set_option maxRecDepth 100000 in
theorem vL_isEdited_60 {l : Launch} {D : va_G} {T : Nat → ClassId} {b : Nat} {gr : Bool} {n0 : Nat} (x0 : Nat) (x1 : Nat) (x4 : Int32) (x5 : Int32) (M : zM) (o : Int32 × zM) (h : fL_isEdited_60 x0 x1 x4 x5 M = some o) : zV false l RL cL_isEdited 7 (some .boolean) false 123 0 0 D T zE0 b gr n0 (0, o.1, o.2) 0 0 60 [(0, zr b x0), (1, zr b x1), (4, .int x4), (5, .int x5)] [] M := by
  unfold fL_isEdited_60 at h
  refine zV_aload_n (j := 1) dL_isEdited_60 rfl rfl ?_
  refine zV_iload (j := 3) dL_isEdited_61 rfl ?_
  refine zV_iload (j := 2) dL_isEdited_63 rfl ?_
  obtain ⟨g23, h⟩ := zg_of h
  obtain ⟨g24, h⟩ := zg_of h
  refine zV_iast dL_isEdited_65 g23 g24 ?_
  refine zV_mem (fun M25 e26 => ?_)
  replace h := zlet_of h e26
  refine zV_aload_n (j := 1) dL_isEdited_66 rfl rfl ?_
  refine zV_bipush (v := 20) dL_isEdited_67 (by decide) ?_
  refine zV_dup2 dL_isEdited_69 rfl (zr_cat _ _) ?_
  obtain ⟨g27, h⟩ := zg_of h
  refine zV_iald dL_isEdited_70 (zkI e26 g23) g27 ?_
  refine zV_iconst (v := 1) dL_isEdited_71 (by decide) ?_
  refine zV_iadd dL_isEdited_72 ?_
  obtain ⟨g28, h⟩ := zg_of h
  refine zV_iast dL_isEdited_73 (zkI e26 g23) g28 ?_
  refine zV_mem (fun M29 e30 => ?_)
  replace h := zlet_of h e30
  refine zV_aload_n (j := 0) dL_isEdited_74 rfl rfl ?_
  refine zV_iload (j := 3) dL_isEdited_75 rfl ?_
  refine zV_iload (j := 2) dL_isEdited_77 rfl ?_
  refine zV_sipush (v := 128) dL_isEdited_79 (by decide) ?_
  refine zV_idiv dL_isEdited_82 (by decide) ?_
  refine zV_iload (j := 2) dL_isEdited_83 rfl ?_
  refine zV_sipush (v := 128) dL_isEdited_85 (by decide) ?_
  refine zV_irem dL_isEdited_88 (by decide) ?_
  obtain ⟨g31, h⟩ := zg_of h
  obtain ⟨g35, h⟩ := zg_of h
  obtain ⟨r32, M33z, q34, h⟩ := zbc_of h
  refine zV_cutVi (ci := 7) (As := [.int x5, .int (x4 / 128), .int (zrem x4 128)]) (rest := []) (vX7_insert l D T b false x0 x5 (x4 / 128) (zrem x4 128) (zcut M29) _ _ q34) zm_yX7_insert zl_RL_157 zi_yX7_insert ze_yX7_insert zcI7 g31 g35 rfl rfl (zcs trivial (Nat.le_of_ble_eq_true rfl)) (by decide) (Nat.le_of_ble_eq_true rfl) (Nat.le_of_ble_eq_true rfl) dL_isEdited_89 ?_
  refine zV_mem (fun M33 M33e => ?_)
  rw [← M33e] at h
  refine zV_aload_n (j := 1) dL_isEdited_92 rfl rfl ?_
  refine zV_bipush (v := 20) dL_isEdited_93 (by decide) ?_
  obtain ⟨g36, h⟩ := zg_of h
  obtain ⟨g37, h⟩ := zg_of h
  refine zV_iald dL_isEdited_95 g36 g37 ?_
  refine zV_icmp_ne (tgt := 103) dL_isEdited_96 (by decide) (fun c38 => ?_) (fun c38 => ?_)
  · replace h := z_f c38 h
    refine zV_iconst (v := 0) dL_isEdited_103 (by decide) ?_
    exact zV_zret rfl dL_isEdited_104 (by decide) (by decide) (Or.inl rfl) (z_ret h)
  · replace h := z_t c38 h
    refine zV_iconst (v := 1) dL_isEdited_99 (by decide) ?_
    refine zV_goto (tgt := 104) dL_isEdited_100 (by decide) ?_
    exact zV_zret rfl dL_isEdited_104 (by decide) (by decide) (Or.inr rfl) (z_ret h)
set_option maxHeartbeats 4000000 in
set_option maxRecDepth 100000 in
theorem vL_isEdited_37 {l : Launch} {D : va_G} {T : Nat → ClassId} {b : Nat} {gr : Bool} {n0 : Nat} : ∀ (n : Nat) (x0 : Nat) (x1 : Nat) (x4 : Int32) (x5 : Int32) (x6 : Int32) (M : zM) (o : Int32 × zM), fL_isEdited_37 n x0 x1 x4 x5 x6 M = some o → zV false l RL cL_isEdited 7 (some .boolean) false 123 0 0 D T zE0 b gr n0 (0, o.1, o.2) 0 0 37 [(0, zr b x0), (1, zr b x1), (4, .int x4), (5, .int x5), (6, .int x6)] [] M := by
  intro n
  induction n with
  | zero =>
    intro x0 x1 x4 x5 x6 M o h
    rw [fL_isEdited_37] at h
    cases h
  | succ n ih =>
    intro x0 x1 x4 x5 x6 M o h
    rw [fL_isEdited_37] at h
    refine zV_iload (j := 4) dL_isEdited_37 rfl ?_
    refine zV_iload (j := 3) dL_isEdited_39 rfl ?_
    refine zV_icmp_le (tgt := 60) dL_isEdited_41 (by decide) (fun c39 => ?_) (fun c39 => ?_)
    · replace h := z_t c39 h
      refine zV_pk [0, 1, 2, 3] rfl ?_
      exact vL_isEdited_60 x0 x1 x4 x5 M _ h
    · replace h := z_f c39 h
      refine zV_aload_n (j := 1) dL_isEdited_44 rfl rfl ?_
      refine zV_iload (j := 4) dL_isEdited_45 rfl ?_
      refine zV_aload_n (j := 1) dL_isEdited_47 rfl rfl ?_
      refine zV_iload (j := 4) dL_isEdited_48 rfl ?_
      refine zV_iconst (v := 1) dL_isEdited_50 (by decide) ?_
      refine zV_isub dL_isEdited_51 ?_
      obtain ⟨g40, h⟩ := zg_of h
      obtain ⟨g41, h⟩ := zg_of h
      refine zV_iald dL_isEdited_52 g40 g41 ?_
      obtain ⟨g42, h⟩ := zg_of h
      refine zV_iast dL_isEdited_53 g40 g42 ?_
      refine zV_mem (fun M43 e44 => ?_)
      replace h := zlet_of h e44
      obtain ⟨u45, e46⟩ : ∃ y : Int32, y = x6 + (-1) := ⟨_, rfl⟩
      replace h := zlet_of h e46
      refine zV_iinc (j := 4) (v := u45) [(6, .int u45), (0, zr b x0), (1, zr b x1), (4, .int x4), (5, .int x5)] dL_isEdited_54 rfl (by rw [e46]; rfl) (by decide) rfl rfl ?_
      refine zV_goto (tgt := 37) dL_isEdited_57 (by decide) ?_
      refine zV_pk [1, 2, 3, 4, 0] rfl ?_
      exact ih x0 x1 x4 x5 u45 M43 _ h
set_option maxHeartbeats 4000000 in
set_option maxRecDepth 100000 in
theorem vL_isEdited_23 {l : Launch} {D : va_G} {T : Nat → ClassId} {b : Nat} {gr : Bool} {n0 : Nat} (x0 : Nat) (x1 : Nat) (x2 : Int32) (x4 : Int32) (s0 : Int32) (s1 : Int32) (s2 : Int32) (M : zM) (o : Int32 × zM) (h : fL_isEdited_23 x0 x1 x2 x4 s0 s1 s2 M = some o) : zV false l RL cL_isEdited 7 (some .boolean) false 123 0 0 D T zE0 b gr n0 (0, o.1, o.2) 0 0 23 [(0, zr b x0), (1, zr b x1), (2, .int x2), (4, .int x4)] [.int s2, .int s1, .int s0] M := by
  unfold fL_isEdited_23 at h
  refine zV_iadd dL_isEdited_23 ?_
  obtain ⟨g47, h⟩ := zg_of h
  refine zV_irem dL_isEdited_24 g47 ?_
  refine zV_top (fun u48 e49 => ?_)
  replace h := zlet_of h e49
  refine zV_istore [(5, .int u48), (0, zr b x0), (1, zr b x1), (2, .int x2), (4, .int x4)] dL_isEdited_25 (by decide) rfl rfl ?_
  refine zV_iload_n (j := 3) dL_isEdited_27 rfl rfl ?_
  refine zV_if_eq (tgt := 105) dL_isEdited_28 (by decide) (fun c50 => ?_) (fun c50 => ?_)
  · replace h := z_t c50 h
    refine zV_iload (j := 0) dL_isEdited_105 rfl ?_
    refine zV_istore [(6, .int u48), (5, .int u48), (0, zr b x0), (1, zr b x1), (2, .int x2), (4, .int x4)] dL_isEdited_107 (by decide) rfl rfl ?_
    refine zV_pk [2, 3, 1, 0] rfl ?_
    exact vL_isEdited_109 10000 x0 x1 u48 u48 M _ h
  · replace h := z_f c50 h
    refine zV_aload_n (j := 2) dL_isEdited_31 rfl rfl ?_
    refine zV_bipush (v := 20) dL_isEdited_32 (by decide) ?_
    obtain ⟨g51, h⟩ := zg_of h
    obtain ⟨g52, h⟩ := zg_of h
    refine zV_iald dL_isEdited_34 g51 g52 ?_
    refine zV_top (fun u53 e54 => ?_)
    replace h := zlet_of h e54
    refine zV_istore [(6, .int u53), (5, .int u48), (0, zr b x0), (1, zr b x1), (2, .int x2), (4, .int x4)] dL_isEdited_35 (by decide) rfl rfl ?_
    refine zV_pk [2, 3, 5, 1, 0] rfl ?_
    exact vL_isEdited_37 10000 x0 x1 x4 u48 u53 M _ h
set_option maxHeartbeats 4000000 in
set_option maxRecDepth 100000 in
theorem vL_isEdited (l : Launch) (D : va_G) (T : Nat → ClassId) (b : Nat) (gr : Bool) (x0 : Nat) (x1 : Nat) (x2 : Int32) (x3 : Int32) (M : zM) (r : Int32) (M' : zM) (h : fL_isEdited x0 x1 x2 x3 M = some (r, M')) : zMet l D T b gr yL_isEdited cL_isEdited 7 (some .boolean) 123 0 0 [zr b x0, zr b x1, .int x2, .int x3] M (0, r, M') := by
  refine zEntry2 (ev := zE0) rfl false (fun h9 => nomatch h9) zp_yL_isEdited ⟨zr_cat _ _, zr_cat _ _, rfl, rfl, trivial⟩ (Nat.le_of_ble_eq_true rfl) ?_
  obtain ⟨o, ho⟩ : ∃ o : Int32 × zM, o = (r, M') := ⟨_, rfl⟩
  rw [← ho] at h
  rw [show ((0, r, M') : Nat × Int32 × zM) = (0, o.1, o.2) by rw [ho]]
  show zV false l RL cL_isEdited 7 (some .boolean) false 123 0 0 D T zE0 b gr M.2.2.2 (0, o.1, o.2) 0 0 0 [(0, zr b x0), (1, zr b x1), (2, .int x2), (3, .int x3)] [] M
  unfold fL_isEdited at h
  refine zV_iload_n (j := 3) dL_isEdited_0 rfl rfl ?_
  refine zV_bipush (v := 32) dL_isEdited_1 (by decide) ?_
  refine zV_idiv dL_isEdited_3 (by decide) ?_
  obtain ⟨r55, M56, q57, h⟩ := zb_of h
  refine zV_callSi (As := [.int (x3 / 32)]) (rest := []) (vL_drawn l D T b gr (x3 / 32) M _ _ q57) zm_yL_drawn zl_RL_154 zs_yL_drawn rfl rfl (zcs trivial (Nat.le_of_ble_eq_true rfl)) (by decide) (by decide) (by decide) dL_isEdited_4 ?_
  refine zV_istore [(4, .int r55), (0, zr b x0), (1, zr b x1), (2, .int x2), (3, .int x3)] dL_isEdited_7 (by decide) rfl rfl ?_
  refine zV_iload_n (j := 4) dL_isEdited_9 rfl rfl ?_
  refine zV_aload_n (j := 2) dL_isEdited_10 rfl rfl ?_
  refine zV_bipush (v := 20) dL_isEdited_11 (by decide) ?_
  obtain ⟨g58, h⟩ := zg_of h
  obtain ⟨g59, h⟩ := zg_of h
  refine zV_iald dL_isEdited_13 g58 g59 ?_
  refine zV_iload_n (j := 3) dL_isEdited_14 rfl rfl ?_
  refine zV_if_eq (tgt := 22) dL_isEdited_15 (by decide) (fun c60 => ?_) (fun c60 => ?_)
  · replace h := z_t c60 h
    refine zV_iconst (v := 0) dL_isEdited_22 (by decide) ?_
    refine zV_pk [1, 2, 3, 0] rfl ?_
    exact vL_isEdited_23 x0 x1 x2 r55 x3 (zI M56 x1 (20 : Int32).toNatClampNeg) 0 M56 _ h
  · replace h := z_f c60 h
    refine zV_iconst (v := 1) dL_isEdited_18 (by decide) ?_
    refine zV_goto (tgt := 23) dL_isEdited_19 (by decide) ?_
    refine zV_pk [1, 2, 3, 0] rfl ?_
    exact vL_isEdited_23 x0 x1 x2 r55 x3 (zI M56 x1 (20 : Int32).toNatClampNeg) 1 M56 _ h
set_option maxHeartbeats 4000000 in
set_option maxRecDepth 100000 in
theorem vL_anew_132 {l : Launch} {D : va_G} {T : Nat → ClassId} {b : Nat} {gr : Bool} {n0 : Nat} (k71 : Nat → Nat → Nat → Int32 → Int32 → Int32 → zM → Option (Int32 × zM)) (hk71 : ∀ (z0 : Nat) (z1 : Nat) (z2 : Nat) (z4 : Int32) (z5 : Int32) (z6 : Int32) (N : zM) (o : Int32 × zM), k71 z0 z1 z2 z4 z5 z6 N = some o → zV false l RL cL_anew 7 (some .int) false 0 0 0 D T zE0 b gr n0 (0, o.1, o.2) 0 0 71 [(0, zr b z0), (1, zr b z1), (2, zr b z2), (4, .int z4), (5, .int z5), (6, .int z6)] [] N) (x0 : Nat) (x1 : Nat) (x2 : Nat) (x4 : Int32) (x5 : Int32) (x6 : Int32) (M : zM) (o : Int32 × zM) (h : fL_anew_132 k71 x0 x1 x2 x4 x5 x6 M = some o) : zV false l RL cL_anew 7 (some .int) false 0 0 0 D T zE0 b gr n0 (0, o.1, o.2) 0 0 132 [(0, zr b x0), (1, zr b x1), (2, zr b x2), (4, .int x4), (5, .int x5), (6, .int x6)] [] M := by
  unfold fL_anew_132 at h
  obtain ⟨u1, e2⟩ : ∃ y : Int32, y = x6 + 1 := ⟨_, rfl⟩
  replace h := zlet_of h e2
  refine zV_iinc (j := 5) (v := u1) [(6, .int u1), (0, zr b x0), (1, zr b x1), (2, zr b x2), (4, .int x4), (5, .int x5)] dL_anew_132 rfl (by rw [e2]; rfl) (by decide) rfl rfl ?_
  refine zV_goto (tgt := 71) dL_anew_135 (by decide) ?_
  refine zV_pk [1, 2, 3, 4, 5, 0] rfl ?_
  exact hk71 x0 x1 x2 x4 x5 u1 M _ h
set_option maxHeartbeats 4000000 in
set_option maxRecDepth 100000 in
theorem vL_anew_71 {l : Launch} {D : va_G} {T : Nat → ClassId} {b : Nat} {gr : Bool} {n0 : Nat} : ∀ (n : Nat) (x0 : Nat) (x1 : Nat) (x2 : Nat) (x4 : Int32) (x5 : Int32) (x6 : Int32) (M : zM) (o : Int32 × zM), fL_anew_71 n x0 x1 x2 x4 x5 x6 M = some o → zV false l RL cL_anew 7 (some .int) false 0 0 0 D T zE0 b gr n0 (0, o.1, o.2) 0 0 71 [(0, zr b x0), (1, zr b x1), (2, zr b x2), (4, .int x4), (5, .int x5), (6, .int x6)] [] M := by
  intro n
  induction n with
  | zero =>
    intro x0 x1 x2 x4 x5 x6 M o h
    rw [fL_anew_71] at h
    cases h
  | succ n ih =>
    intro x0 x1 x2 x4 x5 x6 M o h
    rw [fL_anew_71] at h
    refine zV_iload (j := 5) dL_anew_71 rfl ?_
    refine zV_aload_n (j := 0) dL_anew_73 rfl rfl ?_
    refine zV_bipush (v := 20) dL_anew_74 (by decide) ?_
    obtain ⟨g3, h⟩ := zg_of h
    obtain ⟨g4, h⟩ := zg_of h
    refine zV_iald dL_anew_76 g3 g4 ?_
    refine zV_icmp_ge (tgt := 138) dL_anew_77 (by decide) (fun c5 => ?_) (fun c5 => ?_)
    · replace h := z_t c5 h
      refine zV_iload (j := 5) dL_anew_138 rfl ?_
      refine zV_iload (j := 4) dL_anew_140 rfl ?_
      refine zV_isub dL_anew_142 ?_
      exact zV_iret rfl dL_anew_143 (by decide) (by decide) (z_ret h)
    · replace h := z_f c5 h
      refine zV_aload_n (j := 1) dL_anew_80 rfl rfl ?_
      refine zV_iload (j := 5) dL_anew_81 rfl ?_
      obtain ⟨g6, h⟩ := zg_of h
      obtain ⟨g7, h⟩ := zg_of h
      refine zV_lald dL_anew_83 g6 g7 ?_
      refine zV_aload_n (j := 2) dL_anew_84 rfl rfl ?_
      refine zV_iload (j := 5) dL_anew_85 rfl ?_
      refine zV_iload (j := 3) dL_anew_87 rfl ?_
      refine zV_isub dL_anew_89 ?_
      obtain ⟨g8, h⟩ := zg_of h
      obtain ⟨g9, h⟩ := zg_of h
      refine zV_lald dL_anew_90 g8 g9 ?_
      refine zV_lcmp dL_anew_91 ?_
      refine zV_if_ne (tgt := 132) dL_anew_92 (by decide) (fun c10 => ?_) (fun c10 => ?_)
      · replace h := z_f c10 h
        exact vL_anew_132 (fL_anew_71 n) ih x0 x1 x2 x4 x5 x6 M _ h
      · replace h := z_t c10 h
        refine zV_aload_n (j := 1) dL_anew_95 rfl rfl ?_
        refine zV_bipush (v := 24) dL_anew_96 (by decide) ?_
        refine zV_iload (j := 5) dL_anew_98 rfl ?_
        refine zV_iadd dL_anew_100 ?_
        obtain ⟨g11, h⟩ := zg_of h
        refine zV_lald dL_anew_101 g6 g11 ?_
        refine zV_aload_n (j := 2) dL_anew_102 rfl rfl ?_
        refine zV_bipush (v := 24) dL_anew_103 (by decide) ?_
        refine zV_iload (j := 5) dL_anew_105 rfl ?_
        refine zV_iadd dL_anew_107 ?_
        refine zV_iload (j := 3) dL_anew_108 rfl ?_
        refine zV_isub dL_anew_110 ?_
        obtain ⟨g12, h⟩ := zg_of h
        refine zV_lald dL_anew_111 g8 g12 ?_
        refine zV_lcmp dL_anew_112 ?_
        refine zV_if_ne (tgt := 132) dL_anew_113 (by decide) (fun c13 => ?_) (fun c13 => ?_)
        · replace h := z_f c13 h
          exact vL_anew_132 (fL_anew_71 n) ih x0 x1 x2 x4 x5 x6 M _ h
        · replace h := z_t c13 h
          refine zV_aload_n (j := 1) dL_anew_116 rfl rfl ?_
          refine zV_bipush (v := 24) dL_anew_117 (by decide) ?_
          refine zV_iload (j := 5) dL_anew_119 rfl ?_
          refine zV_iadd dL_anew_121 ?_
          obtain ⟨g14, h⟩ := zg_of h
          refine zV_lald dL_anew_122 g6 g14 ?_
          refine zV_ldc2 (v := 2) dL_anew_123 zd_RL_65 ?_
          refine zV_lrem dL_anew_126 (by decide) ?_
          refine zV_lconst (v := 0) dL_anew_127 (by decide) ?_
          refine zV_lcmp dL_anew_128 ?_
          refine zV_if_eq (tgt := 138) dL_anew_129 (by decide) (fun c15 => ?_) (fun c15 => ?_)
          · replace h := z_t c15 h
            refine zV_iload (j := 5) dL_anew_138 rfl ?_
            refine zV_iload (j := 4) dL_anew_140 rfl ?_
            refine zV_isub dL_anew_142 ?_
            exact zV_iret rfl dL_anew_143 (by decide) (by decide) (z_ret h)
          · replace h := z_f c15 h
            exact vL_anew_132 (fL_anew_71 n) ih x0 x1 x2 x4 x5 x6 M _ h
set_option maxHeartbeats 4000000 in
set_option maxRecDepth 100000 in
theorem vL_anew_68 {l : Launch} {D : va_G} {T : Nat → ClassId} {b : Nat} {gr : Bool} {n0 : Nat} (x0 : Nat) (x1 : Nat) (x2 : Nat) (x4 : Int32) (x5 : Int32) (s0 : Int32) (s1 : Int32) (M : zM) (o : Int32 × zM) (h : fL_anew_68 x0 x1 x2 x4 x5 s0 s1 M = some o) : zV false l RL cL_anew 7 (some .int) false 0 0 0 D T zE0 b gr n0 (0, o.1, o.2) 0 0 68 [(0, zr b x0), (1, zr b x1), (2, zr b x2), (4, .int x4), (5, .int x5)] [.int s1, .int s0] M := by
  unfold fL_anew_68 at h
  refine zV_iadd dL_anew_68 ?_
  refine zV_top (fun u16 e17 => ?_)
  replace h := zlet_of h e17
  refine zV_istore [(6, .int u16), (0, zr b x0), (1, zr b x1), (2, zr b x2), (4, .int x4), (5, .int x5)] dL_anew_69 (by decide) rfl rfl ?_
  refine zV_pk [1, 2, 3, 4, 5, 0] rfl ?_
  exact vL_anew_71 10000 x0 x1 x2 x4 x5 u16 M _ h
set_option maxHeartbeats 4000000 in
set_option maxRecDepth 100000 in
theorem vL_anew_67 {l : Launch} {D : va_G} {T : Nat → ClassId} {b : Nat} {gr : Bool} {n0 : Nat} (x0 : Nat) (x1 : Nat) (x2 : Nat) (x4 : Int32) (x5 : Int32) (s0 : Int32) (M : zM) (o : Int32 × zM) (h : fL_anew_67 x0 x1 x2 x4 x5 s0 M = some o) : zV false l RL cL_anew 7 (some .int) false 0 0 0 D T zE0 b gr n0 (0, o.1, o.2) 0 0 67 [(0, zr b x0), (1, zr b x1), (2, zr b x2), (4, .int x4), (5, .int x5)] [.int s0] M := by
  unfold fL_anew_67 at h
  refine zV_iconst (v := 0) dL_anew_67 (by decide) ?_
  exact vL_anew_68 x0 x1 x2 x4 x5 s0 0 M _ h
set_option maxHeartbeats 4000000 in
set_option maxRecDepth 100000 in
theorem vL_anew_38 {l : Launch} {D : va_G} {T : Nat → ClassId} {b : Nat} {gr : Bool} {n0 : Nat} (x0 : Nat) (x1 : Nat) (x2 : Nat) (x4 : Int32) (x5 : Int32) (s0 : Int32) (M : zM) (o : Int32 × zM) (h : fL_anew_38 x0 x1 x2 x4 x5 s0 M = some o) : zV false l RL cL_anew 7 (some .int) false 0 0 0 D T zE0 b gr n0 (0, o.1, o.2) 0 0 38 [(0, zr b x0), (1, zr b x1), (2, zr b x2), (4, .int x4), (5, .int x5)] [.int s0] M := by
  unfold fL_anew_38 at h
  refine zV_istore [(6, .int s0), (0, zr b x0), (1, zr b x1), (2, zr b x2), (4, .int x4), (5, .int x5)] dL_anew_38 (by decide) rfl rfl ?_
  refine zV_iload (j := 0) dL_anew_40 rfl ?_
  refine zV_iload (j := 0) dL_anew_42 rfl ?_
  refine zV_aload_n (j := 1) dL_anew_44 rfl rfl ?_
  refine zV_bipush (v := 20) dL_anew_45 (by decide) ?_
  obtain ⟨g18, h⟩ := zg_of h
  obtain ⟨g19, h⟩ := zg_of h
  refine zV_iald dL_anew_47 g18 g19 ?_
  refine zV_icmp_ge (tgt := 67) dL_anew_48 (by decide) (fun c20 => ?_) (fun c20 => ?_)
  · replace h := z_t c20 h
    refine zV_pk [1, 2, 3, 4, 5] rfl ?_
    exact vL_anew_67 x0 x1 x2 x4 x5 s0 M _ h
  · replace h := z_f c20 h
    refine zV_aload_n (j := 1) dL_anew_51 rfl rfl ?_
    refine zV_iload (j := 0) dL_anew_52 rfl ?_
    obtain ⟨g21, h⟩ := zg_of h
    refine zV_iald dL_anew_54 g18 g21 ?_
    refine zV_sipush (v := 128) dL_anew_55 (by decide) ?_
    refine zV_idiv dL_anew_58 (by decide) ?_
    refine zV_iconst (v := 5) dL_anew_59 (by decide) ?_
    refine zV_icmp_ne (tgt := 67) dL_anew_60 (by decide) (fun c22 => ?_) (fun c22 => ?_)
    · replace h := z_f c22 h
      refine zV_pk [1, 2, 3, 4, 5] rfl ?_
      exact vL_anew_67 x0 x1 x2 x4 x5 s0 M _ h
    · replace h := z_t c22 h
      refine zV_iconst (v := 1) dL_anew_63 (by decide) ?_
      refine zV_goto (tgt := 68) dL_anew_64 (by decide) ?_
      refine zV_pk [1, 2, 3, 4, 5] rfl ?_
      exact vL_anew_68 x0 x1 x2 x4 x5 s0 1 M _ h
set_option maxHeartbeats 4000000 in
set_option maxRecDepth 100000 in
theorem vL_anew_24 {l : Launch} {D : va_G} {T : Nat → ClassId} {b : Nat} {gr : Bool} {n0 : Nat} (x0 : Nat) (x1 : Nat) (x2 : Nat) (x3 : Int32) (x4 : Int32) (s0 : Int32) (M : zM) (o : Int32 × zM) (h : fL_anew_24 x0 x1 x2 x3 x4 s0 M = some o) : zV false l RL cL_anew 7 (some .int) false 0 0 0 D T zE0 b gr n0 (0, o.1, o.2) 0 0 24 [(0, zr b x0), (1, zr b x1), (2, zr b x2), (3, .int x3), (4, .int x4)] [.int s0] M := by
  unfold fL_anew_24 at h
  refine zV_istore [(5, .int s0), (0, zr b x0), (1, zr b x1), (2, zr b x2), (3, .int x3), (4, .int x4)] dL_anew_24 (by decide) rfl rfl ?_
  refine zV_iload (j := 5) dL_anew_26 rfl ?_
  refine zV_if_le (tgt := 37) dL_anew_28 (by decide) (fun c23 => ?_) (fun c23 => ?_)
  · replace h := z_t c23 h
    refine zV_iload_n (j := 4) dL_anew_37 rfl rfl ?_
    refine zV_pk [1, 2, 3, 5, 0] rfl ?_
    exact vL_anew_38 x0 x1 x2 x4 s0 x3 M _ h
  · replace h := z_f c23 h
    refine zV_iload_n (j := 4) dL_anew_31 rfl rfl ?_
    refine zV_iconst (v := 1) dL_anew_32 (by decide) ?_
    refine zV_iadd dL_anew_33 ?_
    refine zV_goto (tgt := 38) dL_anew_34 (by decide) ?_
    refine zV_pk [1, 2, 3, 5, 0] rfl ?_
    exact vL_anew_38 x0 x1 x2 x4 s0 (x3 + 1) M _ h
set_option maxHeartbeats 4000000 in
set_option maxRecDepth 100000 in
theorem vL_anew_23 {l : Launch} {D : va_G} {T : Nat → ClassId} {b : Nat} {gr : Bool} {n0 : Nat} (x0 : Nat) (x1 : Nat) (x2 : Nat) (x3 : Int32) (x4 : Int32) (M : zM) (o : Int32 × zM) (h : fL_anew_23 x0 x1 x2 x3 x4 M = some o) : zV false l RL cL_anew 7 (some .int) false 0 0 0 D T zE0 b gr n0 (0, o.1, o.2) 0 0 23 [(0, zr b x0), (1, zr b x1), (2, zr b x2), (3, .int x3), (4, .int x4)] [] M := by
  unfold fL_anew_23 at h
  refine zV_iload_n (j := 3) dL_anew_23 rfl rfl ?_
  exact vL_anew_24 x0 x1 x2 x3 x4 x3 M _ h
set_option maxHeartbeats 4000000 in
set_option maxRecDepth 100000 in
theorem vL_anew (l : Launch) (D : va_G) (T : Nat → ClassId) (b : Nat) (gr : Bool) (x0 : Nat) (x1 : Nat) (x2 : Nat) (x3 : Int32) (x4 : Int32) (M : zM) (r : Int32) (M' : zM) (h : fL_anew x0 x1 x2 x3 x4 M = some (r, M')) : zMet l D T b gr yL_anew cL_anew 7 (some .int) 0 0 0 [zr b x0, zr b x1, zr b x2, .int x3, .int x4] M (0, r, M') := by
  refine zEntry2 (ev := zE0) rfl false (fun h9 => nomatch h9) zp_yL_anew ⟨zr_cat _ _, zr_cat _ _, zr_cat _ _, rfl, rfl, trivial⟩ (Nat.le_of_ble_eq_true rfl) ?_
  obtain ⟨o, ho⟩ : ∃ o : Int32 × zM, o = (r, M') := ⟨_, rfl⟩
  rw [← ho] at h
  rw [show ((0, r, M') : Nat × Int32 × zM) = (0, o.1, o.2) by rw [ho]]
  show zV false l RL cL_anew 7 (some .int) false 0 0 0 D T zE0 b gr M.2.2.2 (0, o.1, o.2) 0 0 0 [(0, zr b x0), (1, zr b x1), (2, zr b x2), (3, .int x3), (4, .int x4)] [] M
  unfold fL_anew at h
  refine zV_iload_n (j := 3) dL_anew_0 rfl rfl ?_
  refine zV_if_le (tgt := 23) dL_anew_1 (by decide) (fun c24 => ?_) (fun c24 => ?_)
  · replace h := z_t c24 h
    exact vL_anew_23 x0 x1 x2 x3 x4 M _ h
  · replace h := z_f c24 h
    refine zV_aload_n (j := 0) dL_anew_4 rfl rfl ?_
    refine zV_iload_n (j := 3) dL_anew_5 rfl rfl ?_
    refine zV_iconst (v := 1) dL_anew_6 (by decide) ?_
    refine zV_isub dL_anew_7 ?_
    obtain ⟨g25, h⟩ := zg_of h
    obtain ⟨g26, h⟩ := zg_of h
    refine zV_iald dL_anew_8 g25 g26 ?_
    refine zV_sipush (v := 128) dL_anew_9 (by decide) ?_
    refine zV_idiv dL_anew_12 (by decide) ?_
    refine zV_iconst (v := 5) dL_anew_13 (by decide) ?_
    refine zV_icmp_ne (tgt := 23) dL_anew_14 (by decide) (fun c27 => ?_) (fun c27 => ?_)
    · replace h := z_f c27 h
      exact vL_anew_23 x0 x1 x2 x3 x4 M _ h
    · replace h := z_t c27 h
      refine zV_iload_n (j := 3) dL_anew_17 rfl rfl ?_
      refine zV_iconst (v := 1) dL_anew_18 (by decide) ?_
      refine zV_isub dL_anew_19 ?_
      refine zV_goto (tgt := 24) dL_anew_20 (by decide) ?_
      exact vL_anew_24 x0 x1 x2 x3 x4 (x3 - 1) M _ h
set_option maxHeartbeats 4000000 in
set_option maxRecDepth 100000 in
theorem vL_isTurned_84 {l : Launch} {D : va_G} {T : Nat → ClassId} {b : Nat} {gr : Bool} {n0 : Nat} (x0 : Nat) (x1 : Nat) (x4 : Int32) (M : zM) (o : Int32 × zM) (h : fL_isTurned_84 x0 x1 x4 M = some o) : zV false l RL cL_isTurned 6 (some .boolean) false 123 0 0 D T zE0 b gr n0 (0, o.1, o.2) 0 0 84 [(0, zr b x0), (1, zr b x1), (4, .int x4)] [] M := by
  unfold fL_isTurned_84 at h
  refine zV_aload_n (j := 1) dL_isTurned_84 rfl rfl ?_
  refine zV_bipush (v := 8) dL_isTurned_85 (by decide) ?_
  refine zV_iload (j := 2) dL_isTurned_87 rfl ?_
  refine zV_iconst (v := 2) dL_isTurned_89 (by decide) ?_
  refine zV_irem dL_isTurned_90 (by decide) ?_
  refine zV_iadd dL_isTurned_91 ?_
  obtain ⟨g1, h⟩ := zg_of h
  obtain ⟨g2, h⟩ := zg_of h
  refine zV_iald dL_isTurned_92 g1 g2 ?_
  refine zV_top (fun u3 e4 => ?_)
  replace h := zlet_of h e4
  refine zV_istore [(5, .int u3), (0, zr b x0), (1, zr b x1), (4, .int x4)] dL_isTurned_93 (by decide) rfl rfl ?_
  refine zV_aload_n (j := 2) dL_isTurned_95 rfl rfl ?_
  refine zV_bipush (v := 8) dL_isTurned_96 (by decide) ?_
  refine zV_iload (j := 3) dL_isTurned_98 rfl ?_
  refine zV_iconst (v := 2) dL_isTurned_100 (by decide) ?_
  refine zV_irem dL_isTurned_101 (by decide) ?_
  refine zV_iadd dL_isTurned_102 ?_
  refine zV_iconst (v := 0) dL_isTurned_103 (by decide) ?_
  obtain ⟨g5, h⟩ := zg_of h
  refine zV_iast dL_isTurned_104 g1 g5 ?_
  refine zV_mem (fun M6 e7 => ?_)
  replace h := zlet_of h e7
  refine zV_aload_n (j := 1) dL_isTurned_105 rfl rfl ?_
  refine zV_iload (j := 3) dL_isTurned_106 rfl ?_
  refine zV_iconst (v := 2) dL_isTurned_108 (by decide) ?_
  refine zV_irem dL_isTurned_109 (by decide) ?_
  obtain ⟨g8, h⟩ := zg_of h
  obtain ⟨g12, h⟩ := zg_of h
  obtain ⟨r9, M10z, q11, h⟩ := zbc_of h
  refine zV_cutVi (ci := 7) (As := [.int (zrem x4 2)]) (rest := []) (vX7_clear l D T b false x0 (zrem x4 2) (zcut M6) _ _ q11) zm_yX7_clear zl_RL_171 zi_yX7_clear ze_yX7_clear zcI7 g8 g12 rfl rfl (zcs trivial (Nat.le_of_ble_eq_true rfl)) (by decide) (Nat.le_of_ble_eq_true rfl) (Nat.le_of_ble_eq_true rfl) dL_isTurned_110 ?_
  refine zV_mem (fun M10 M10e => ?_)
  rw [← M10e] at h
  refine zV_iload (j := 0) dL_isTurned_113 rfl ?_
  refine zV_icmp_ne (tgt := 122) dL_isTurned_115 (by decide) (fun c13 => ?_) (fun c13 => ?_)
  · replace h := z_f c13 h
    refine zV_iconst (v := 0) dL_isTurned_122 (by decide) ?_
    exact zV_zret rfl dL_isTurned_123 (by decide) (by decide) (Or.inl rfl) (z_ret h)
  · replace h := z_t c13 h
    refine zV_iconst (v := 1) dL_isTurned_118 (by decide) ?_
    refine zV_goto (tgt := 123) dL_isTurned_119 (by decide) ?_
    exact zV_zret rfl dL_isTurned_123 (by decide) (by decide) (Or.inr rfl) (z_ret h)
set_option maxHeartbeats 4000000 in
set_option maxRecDepth 100000 in
theorem vL_isTurned (l : Launch) (D : va_G) (T : Nat → ClassId) (b : Nat) (gr : Bool) (x0 : Nat) (x1 : Nat) (x2 : Nat) (x3 : Int32) (x4 : Int32) (M : zM) (r : Int32) (M' : zM) (h : fL_isTurned x0 x1 x2 x3 x4 M = some (r, M')) : zMet l D T b gr yL_isTurned cL_isTurned 6 (some .boolean) 123 0 0 [zr b x0, zr b x1, zr b x2, .int x3, .int x4] M (0, r, M') := by
  refine zEntry2 (ev := zE0) rfl false (fun h9 => nomatch h9) zp_yL_isTurned ⟨zr_cat _ _, zr_cat _ _, zr_cat _ _, rfl, rfl, trivial⟩ (Nat.le_of_ble_eq_true rfl) ?_
  obtain ⟨o, ho⟩ : ∃ o : Int32 × zM, o = (r, M') := ⟨_, rfl⟩
  rw [← ho] at h
  rw [show ((0, r, M') : Nat × Int32 × zM) = (0, o.1, o.2) by rw [ho]]
  show zV false l RL cL_isTurned 6 (some .boolean) false 123 0 0 D T zE0 b gr M.2.2.2 (0, o.1, o.2) 0 0 0 [(0, zr b x0), (1, zr b x1), (2, zr b x2), (3, .int x3), (4, .int x4)] [] M
  unfold fL_isTurned at h
  refine zV_iload_n (j := 3) dL_isTurned_0 rfl rfl ?_
  refine zV_if_ne (tgt := 66) dL_isTurned_1 (by decide) (fun c14 => ?_) (fun c14 => ?_)
  · replace h := z_f c14 h
    refine zV_iload_n (j := 3) dL_isTurned_66 rfl rfl ?_
    refine zV_iconst (v := 1) dL_isTurned_67 (by decide) ?_
    refine zV_icmp_eq (tgt := 84) dL_isTurned_68 (by decide) (fun c15 => ?_) (fun c15 => ?_)
    · replace h := z_t c15 h
      refine zV_pk [0, 1, 4] rfl ?_
      exact vL_isTurned_84 x0 x1 x4 M _ h
    · replace h := z_f c15 h
      refine zV_aload_n (j := 1) dL_isTurned_71 rfl rfl ?_
      refine zV_bipush (v := 8) dL_isTurned_72 (by decide) ?_
      refine zV_iload (j := 4) dL_isTurned_74 rfl ?_
      refine zV_iconst (v := 2) dL_isTurned_76 (by decide) ?_
      refine zV_irem dL_isTurned_77 (by decide) ?_
      refine zV_iadd dL_isTurned_78 ?_
      obtain ⟨g16, h⟩ := zg_of h
      obtain ⟨g17, h⟩ := zg_of h
      refine zV_iald dL_isTurned_79 g16 g17 ?_
      refine zV_iconst (v := 4) dL_isTurned_80 (by decide) ?_
      refine zV_icmp_ne (tgt := 124) dL_isTurned_81 (by decide) (fun c18 => ?_) (fun c18 => ?_)
      · replace h := z_f c18 h
        refine zV_iload (j := 4) dL_isTurned_124 rfl ?_
        refine zV_iconst (v := 2) dL_isTurned_126 (by decide) ?_
        refine zV_idiv dL_isTurned_127 (by decide) ?_
        obtain ⟨r19, M20, q21, h⟩ := zb_of h
        refine zV_callSi (As := [.int (x4 / 2)]) (rest := []) (vL_drawn l D T b gr (x4 / 2) M _ _ q21) zm_yL_drawn zl_RL_154 zs_yL_drawn rfl rfl (zcs trivial (Nat.le_of_ble_eq_true rfl)) (by decide) (by decide) (by decide) dL_isTurned_128 ?_
        refine zV_istore [(5, .int r19), (0, zr b x0), (1, zr b x1), (2, zr b x2), (3, .int x3), (4, .int x4)] dL_isTurned_131 (by decide) rfl rfl ?_
        refine zV_aload_n (j := 2) dL_isTurned_133 rfl rfl ?_
        refine zV_iconst (v := 4) dL_isTurned_134 (by decide) ?_
        refine zV_iload (j := 5) dL_isTurned_135 rfl ?_
        refine zV_iconst (v := 2) dL_isTurned_137 (by decide) ?_
        refine zV_irem dL_isTurned_138 (by decide) ?_
        refine zV_imul dL_isTurned_139 ?_
        refine zV_aload_n (j := 2) dL_isTurned_140 rfl rfl ?_
        refine zV_bipush (v := 8) dL_isTurned_141 (by decide) ?_
        refine zV_iload (j := 5) dL_isTurned_143 rfl ?_
        refine zV_iconst (v := 2) dL_isTurned_145 (by decide) ?_
        refine zV_irem dL_isTurned_146 (by decide) ?_
        refine zV_iadd dL_isTurned_147 ?_
        obtain ⟨g22, h⟩ := zg_of h
        obtain ⟨g23, h⟩ := zg_of h
        refine zV_iald dL_isTurned_148 g22 g23 ?_
        refine zV_iadd dL_isTurned_149 ?_
        refine zV_iload (j := 0) dL_isTurned_150 rfl ?_
        obtain ⟨g24, h⟩ := zg_of h
        refine zV_iast dL_isTurned_152 g22 g24 ?_
        refine zV_mem (fun M25 e26 => ?_)
        replace h := zlet_of h e26
        refine zV_aload_n (j := 2) dL_isTurned_153 rfl rfl ?_
        refine zV_bipush (v := 8) dL_isTurned_154 (by decide) ?_
        refine zV_iload (j := 5) dL_isTurned_156 rfl ?_
        refine zV_iconst (v := 2) dL_isTurned_158 (by decide) ?_
        refine zV_irem dL_isTurned_159 (by decide) ?_
        refine zV_iadd dL_isTurned_160 ?_
        refine zV_dup2 dL_isTurned_161 rfl (zr_cat _ _) ?_
        obtain ⟨g27, h⟩ := zg_of h
        refine zV_iald dL_isTurned_162 (zkI e26 g22) g27 ?_
        refine zV_iconst (v := 1) dL_isTurned_163 (by decide) ?_
        refine zV_iadd dL_isTurned_164 ?_
        obtain ⟨g28, h⟩ := zg_of h
        refine zV_iast dL_isTurned_165 (zkI e26 g22) g28 ?_
        refine zV_mem (fun M29 e30 => ?_)
        replace h := zlet_of h e30
        refine zV_aload_n (j := 1) dL_isTurned_166 rfl rfl ?_
        refine zV_iload (j := 5) dL_isTurned_167 rfl ?_
        refine zV_iconst (v := 2) dL_isTurned_169 (by decide) ?_
        refine zV_irem dL_isTurned_170 (by decide) ?_
        refine zV_iload (j := 0) dL_isTurned_171 rfl ?_
        refine zV_sipush (v := 128) dL_isTurned_173 (by decide) ?_
        refine zV_idiv dL_isTurned_176 (by decide) ?_
        refine zV_iload (j := 0) dL_isTurned_177 rfl ?_
        refine zV_sipush (v := 128) dL_isTurned_179 (by decide) ?_
        refine zV_irem dL_isTurned_182 (by decide) ?_
        obtain ⟨g31, h⟩ := zg_of h
        obtain ⟨g35, h⟩ := zg_of h
        obtain ⟨r32, M33z, q34, h⟩ := zbc_of h
        refine zV_cutVi (ci := 7) (As := [.int (zrem x4 2), .int (r19 / 128), .int (zrem r19 128)]) (rest := []) (vX7_entity l D T b false x0 (zrem x4 2) (r19 / 128) (zrem r19 128) (zcut M29) _ _ q34) zm_yX7_entity zl_RL_174 zi_yX7_entity ze_yX7_entity zcI7 g31 g35 rfl rfl (zcs trivial (Nat.le_of_ble_eq_true rfl)) (by decide) (Nat.le_of_ble_eq_true rfl) (Nat.le_of_ble_eq_true rfl) dL_isTurned_183 ?_
        refine zV_mem (fun M33 M33e => ?_)
        rw [← M33e] at h
        refine zV_aload_n (j := 2) dL_isTurned_186 rfl rfl ?_
        refine zV_bipush (v := 8) dL_isTurned_187 (by decide) ?_
        refine zV_iload (j := 5) dL_isTurned_189 rfl ?_
        refine zV_iconst (v := 2) dL_isTurned_191 (by decide) ?_
        refine zV_irem dL_isTurned_192 (by decide) ?_
        refine zV_iadd dL_isTurned_193 ?_
        obtain ⟨g36, h⟩ := zg_of h
        obtain ⟨g37, h⟩ := zg_of h
        refine zV_iald dL_isTurned_194 g36 g37 ?_
        refine zV_icmp_ne (tgt := 202) dL_isTurned_195 (by decide) (fun c38 => ?_) (fun c38 => ?_)
        · replace h := z_f c38 h
          refine zV_iconst (v := 0) dL_isTurned_202 (by decide) ?_
          exact zV_zret rfl dL_isTurned_203 (by decide) (by decide) (Or.inl rfl) (z_ret h)
        · replace h := z_t c38 h
          refine zV_iconst (v := 1) dL_isTurned_198 (by decide) ?_
          refine zV_goto (tgt := 203) dL_isTurned_199 (by decide) ?_
          exact zV_zret rfl dL_isTurned_203 (by decide) (by decide) (Or.inr rfl) (z_ret h)
      · replace h := z_t c18 h
        refine zV_pk [0, 1, 4] rfl ?_
        exact vL_isTurned_84 x0 x1 x4 M _ h
  · replace h := z_t c14 h
    refine zV_aload_n (j := 1) dL_isTurned_4 rfl rfl ?_
    refine zV_bipush (v := 10) dL_isTurned_5 (by decide) ?_
    refine zV_iload (j := 4) dL_isTurned_7 rfl ?_
    refine zV_iconst (v := 2) dL_isTurned_9 (by decide) ?_
    refine zV_irem dL_isTurned_10 (by decide) ?_
    refine zV_iadd dL_isTurned_11 ?_
    obtain ⟨g39, h⟩ := zg_of h
    obtain ⟨g40, h⟩ := zg_of h
    refine zV_iald dL_isTurned_12 g39 g40 ?_
    refine zV_top (fun u41 e42 => ?_)
    replace h := zlet_of h e42
    refine zV_istore [(5, .int u41), (0, zr b x0), (1, zr b x1), (2, zr b x2), (3, .int x3), (4, .int x4)] dL_isTurned_13 (by decide) rfl rfl ?_
    refine zV_aload_n (j := 2) dL_isTurned_15 rfl rfl ?_
    refine zV_bipush (v := 10) dL_isTurned_16 (by decide) ?_
    refine zV_iload (j := 5) dL_isTurned_18 rfl ?_
    refine zV_iconst (v := 2) dL_isTurned_20 (by decide) ?_
    refine zV_irem dL_isTurned_21 (by decide) ?_
    refine zV_iadd dL_isTurned_22 ?_
    refine zV_iload (j := 5) dL_isTurned_23 rfl ?_
    refine zV_iconst (v := 2) dL_isTurned_25 (by decide) ?_
    refine zV_idiv dL_isTurned_26 (by decide) ?_
    refine zV_iconst (v := 3) dL_isTurned_27 (by decide) ?_
    refine zV_irem dL_isTurned_28 (by decide) ?_
    obtain ⟨g43, h⟩ := zg_of h
    refine zV_iast dL_isTurned_29 g39 g43 ?_
    refine zV_mem (fun M44 e45 => ?_)
    replace h := zlet_of h e45
    refine zV_aload_n (j := 1) dL_isTurned_30 rfl rfl ?_
    refine zV_iload (j := 5) dL_isTurned_31 rfl ?_
    refine zV_iconst (v := 2) dL_isTurned_33 (by decide) ?_
    refine zV_irem dL_isTurned_34 (by decide) ?_
    refine zV_iload (j := 5) dL_isTurned_35 rfl ?_
    refine zV_iconst (v := 2) dL_isTurned_37 (by decide) ?_
    refine zV_idiv dL_isTurned_38 (by decide) ?_
    refine zV_iconst (v := 3) dL_isTurned_39 (by decide) ?_
    refine zV_irem dL_isTurned_40 (by decide) ?_
    obtain ⟨g46, h⟩ := zg_of h
    obtain ⟨g50, h⟩ := zg_of h
    obtain ⟨r47, M48z, q49, h⟩ := zbc_of h
    refine zV_cutVi (ci := 7) (As := [.int (zrem x4 2), .int (zrem (x4 / 2) 3)]) (rest := []) (vX7_flip l D T b false x0 (zrem x4 2) (zrem (x4 / 2) 3) (zcut M44) _ _ q49) zm_yX7_flip zl_RL_164 zi_yX7_flip ze_yX7_flip zcI7 g46 g50 rfl rfl (zcs trivial (Nat.le_of_ble_eq_true rfl)) (by decide) (Nat.le_of_ble_eq_true rfl) (Nat.le_of_ble_eq_true rfl) dL_isTurned_41 ?_
    refine zV_mem (fun M48 M48e => ?_)
    rw [← M48e] at h
    refine zV_iload (j := 0) dL_isTurned_44 rfl ?_
    refine zV_icmp_ne (tgt := 64) dL_isTurned_46 (by decide) (fun c51 => ?_) (fun c51 => ?_)
    · replace h := z_f c51 h
      refine zV_iconst (v := 0) dL_isTurned_64 (by decide) ?_
      exact zV_zret rfl dL_isTurned_65 (by decide) (by decide) (Or.inl rfl) (z_ret h)
    · replace h := z_t c51 h
      refine zV_aload_n (j := 1) dL_isTurned_49 rfl rfl ?_
      obtain ⟨g52, h⟩ := zg_of h
      obtain ⟨g56, h⟩ := zg_of h
      obtain ⟨r53, M54z, q55, h⟩ := zbd_of h
      refine zV_cutVi (ci := 7) (As := []) (rest := []) (vX7_anew l D T b false x0 (zcut M48) _ _ q55) zm_yX7_anew zl_RL_168 zi_yX7_anew ze_yX7_anew zcI7 g52 g56 rfl rfl (zcs trivial (Nat.le_of_ble_eq_true rfl)) (by decide) (Nat.le_of_ble_eq_true rfl) (Nat.le_of_ble_eq_true rfl) dL_isTurned_50 ?_
      refine zV_mem (fun M54 M54e => ?_)
      rw [← M54e] at h
      refine zV_aload_n (j := 3) dL_isTurned_53 rfl rfl ?_
      refine zV_bipush (v := 20) dL_isTurned_54 (by decide) ?_
      obtain ⟨g57, h⟩ := zg_of h
      obtain ⟨g58, h⟩ := zg_of h
      refine zV_iald dL_isTurned_56 g57 g58 ?_
      refine zV_icmp_ne (tgt := 64) dL_isTurned_57 (by decide) (fun c59 => ?_) (fun c59 => ?_)
      · replace h := z_f c59 h
        refine zV_iconst (v := 0) dL_isTurned_64 (by decide) ?_
        exact zV_zret rfl dL_isTurned_65 (by decide) (by decide) (Or.inl rfl) (z_ret h)
      · replace h := z_t c59 h
        refine zV_iconst (v := 1) dL_isTurned_60 (by decide) ?_
        refine zV_goto (tgt := 65) dL_isTurned_61 (by decide) ?_
        exact zV_zret rfl dL_isTurned_65 (by decide) (by decide) (Or.inr rfl) (z_ret h)
set_option maxHeartbeats 4000000 in
set_option maxRecDepth 100000 in
theorem vL_holds_574 {l : Launch} {D : va_G} {T : Nat → ClassId} {b : Nat} {gr : Bool} {n0 : Nat} (xs : Nat → Int32) (L b0 : Nat) (hgr : gr = true) (k164 : Nat → Nat → Nat → Nat → Nat → Nat → Nat → Nat → Nat → Nat → Nat → Nat → Nat → Nat → Nat → Nat → Int32 → Int32 → Int32 → Nat → Nat → zM → Option (Int32 × zM)) (hk164 : ∀ (z1 : Nat) (z2 : Nat) (z3 : Nat) (z4 : Nat) (z5 : Nat) (z6 : Nat) (z7 : Nat) (z8 : Nat) (z9 : Nat) (z10 : Nat) (z11 : Nat) (z12 : Nat) (z13 : Nat) (z14 : Nat) (z15 : Nat) (z16 : Nat) (z17 : Int32) (z18 : Int32) (z19 : Int32) (cc ss : Nat) (N : zM) (o : Int32 × zM), k164 z1 z2 z3 z4 z5 z6 z7 z8 z9 z10 z11 z12 z13 z14 z15 z16 z17 z18 z19 cc ss N = some o → zV false l RL cL_holds 25 (some .boolean) false 125 519 20148 D T (zEs b0 L xs) b gr n0 (0, o.1, o.2) cc ss 164 [(0, .ref b0), (1, zr b z1), (2, zr b z2), (3, zr b z3), (4, zr b z4), (5, zr b z5), (6, zr b z6), (7, zr b z7), (8, zr b z8), (9, zr b z9), (10, zr b z10), (11, zr b z11), (12, zr b z12), (13, zr b z13), (14, zr b z14), (15, zr b z15), (16, zr b z16), (17, .int z17), (18, .int z18), (19, .int z19)] [] N) (x1 : Nat) (x2 : Nat) (x3 : Nat) (x4 : Nat) (x5 : Nat) (x6 : Nat) (x7 : Nat) (x8 : Nat) (x9 : Nat) (x10 : Nat) (x11 : Nat) (x12 : Nat) (x13 : Nat) (x14 : Nat) (x15 : Nat) (x16 : Nat) (x17 : Int32) (x18 : Int32) (x19 : Int32) (cc ss : Nat) (M : zM) (o : Int32 × zM) (h : fL_holds_574 xs L k164 x1 x2 x3 x4 x5 x6 x7 x8 x9 x10 x11 x12 x13 x14 x15 x16 x17 x18 x19 cc ss M = some o) : zV false l RL cL_holds 25 (some .boolean) false 125 519 20148 D T (zEs b0 L xs) b gr n0 (0, o.1, o.2) cc ss 574 [(0, .ref b0), (1, zr b x1), (2, zr b x2), (3, zr b x3), (4, zr b x4), (5, zr b x5), (6, zr b x6), (7, zr b x7), (8, zr b x8), (9, zr b x9), (10, zr b x10), (11, zr b x11), (12, zr b x12), (13, zr b x13), (14, zr b x14), (15, zr b x15), (16, zr b x16), (17, .int x17), (18, .int x18), (19, .int x19)] [] M := by
  unfold fL_holds_574 at h
  obtain ⟨u1, e2⟩ : ∃ y : Int32, y = x19 + 1 := ⟨_, rfl⟩
  replace h := zlet_of h e2
  refine zV_iinc (j := 19) (v := u1) [(19, .int u1), (0, .ref b0), (1, zr b x1), (2, zr b x2), (3, zr b x3), (4, zr b x4), (5, zr b x5), (6, zr b x6), (7, zr b x7), (8, zr b x8), (9, zr b x9), (10, zr b x10), (11, zr b x11), (12, zr b x12), (13, zr b x13), (14, zr b x14), (15, zr b x15), (16, zr b x16), (17, .int x17), (18, .int x18)] dL_holds_574 rfl (by rw [e2]; rfl) (by decide) rfl rfl ?_
  refine zV_goto (tgt := 164) dL_holds_577 (by decide) ?_
  refine zV_pk [1, 2, 3, 4, 5, 6, 7, 8, 9, 10, 11, 12, 13, 14, 15, 16, 17, 18, 19, 0] rfl ?_
  exact hk164 x1 x2 x3 x4 x5 x6 x7 x8 x9 x10 x11 x12 x13 x14 x15 x16 x17 x18 u1 cc ss M _ h
set_option maxHeartbeats 4000000 in
set_option maxRecDepth 100000 in
theorem vL_holds_572 {l : Launch} {D : va_G} {T : Nat → ClassId} {b : Nat} {gr : Bool} {n0 : Nat} (xs : Nat → Int32) (L b0 : Nat) (hgr : gr = true) (k164 : Nat → Nat → Nat → Nat → Nat → Nat → Nat → Nat → Nat → Nat → Nat → Nat → Nat → Nat → Nat → Nat → Int32 → Int32 → Int32 → Nat → Nat → zM → Option (Int32 × zM)) (hk164 : ∀ (z1 : Nat) (z2 : Nat) (z3 : Nat) (z4 : Nat) (z5 : Nat) (z6 : Nat) (z7 : Nat) (z8 : Nat) (z9 : Nat) (z10 : Nat) (z11 : Nat) (z12 : Nat) (z13 : Nat) (z14 : Nat) (z15 : Nat) (z16 : Nat) (z17 : Int32) (z18 : Int32) (z19 : Int32) (cc ss : Nat) (N : zM) (o : Int32 × zM), k164 z1 z2 z3 z4 z5 z6 z7 z8 z9 z10 z11 z12 z13 z14 z15 z16 z17 z18 z19 cc ss N = some o → zV false l RL cL_holds 25 (some .boolean) false 125 519 20148 D T (zEs b0 L xs) b gr n0 (0, o.1, o.2) cc ss 164 [(0, .ref b0), (1, zr b z1), (2, zr b z2), (3, zr b z3), (4, zr b z4), (5, zr b z5), (6, zr b z6), (7, zr b z7), (8, zr b z8), (9, zr b z9), (10, zr b z10), (11, zr b z11), (12, zr b z12), (13, zr b z13), (14, zr b z14), (15, zr b z15), (16, zr b z16), (17, .int z17), (18, .int z18), (19, .int z19)] [] N) (x1 : Nat) (x2 : Nat) (x3 : Nat) (x4 : Nat) (x5 : Nat) (x6 : Nat) (x7 : Nat) (x8 : Nat) (x9 : Nat) (x10 : Nat) (x11 : Nat) (x12 : Nat) (x13 : Nat) (x14 : Nat) (x15 : Nat) (x16 : Nat) (x18 : Int32) (x19 : Int32) (s0 : Int32) (cc ss : Nat) (M : zM) (o : Int32 × zM) (h : fL_holds_572 xs L k164 x1 x2 x3 x4 x5 x6 x7 x8 x9 x10 x11 x12 x13 x14 x15 x16 x18 x19 s0 cc ss M = some o) : zV false l RL cL_holds 25 (some .boolean) false 125 519 20148 D T (zEs b0 L xs) b gr n0 (0, o.1, o.2) cc ss 572 [(0, .ref b0), (1, zr b x1), (2, zr b x2), (3, zr b x3), (4, zr b x4), (5, zr b x5), (6, zr b x6), (7, zr b x7), (8, zr b x8), (9, zr b x9), (10, zr b x10), (11, zr b x11), (12, zr b x12), (13, zr b x13), (14, zr b x14), (15, zr b x15), (16, zr b x16), (18, .int x18), (19, .int x19)] [.int s0] M := by
  unfold fL_holds_572 at h
  refine zV_istore [(17, .int s0), (0, .ref b0), (1, zr b x1), (2, zr b x2), (3, zr b x3), (4, zr b x4), (5, zr b x5), (6, zr b x6), (7, zr b x7), (8, zr b x8), (9, zr b x9), (10, zr b x10), (11, zr b x11), (12, zr b x12), (13, zr b x13), (14, zr b x14), (15, zr b x15), (16, zr b x16), (18, .int x18), (19, .int x19)] dL_holds_572 (by decide) rfl rfl ?_
  refine zV_pk [1, 2, 3, 4, 5, 6, 7, 8, 9, 10, 11, 12, 13, 14, 15, 16, 17, 0, 18, 19] rfl ?_
  exact vL_holds_574 xs L b0 hgr k164 hk164 x1 x2 x3 x4 x5 x6 x7 x8 x9 x10 x11 x12 x13 x14 x15 x16 s0 x18 x19 cc ss M _ h
set_option maxHeartbeats 4000000 in
set_option maxRecDepth 100000 in
theorem vL_holds_571 {l : Launch} {D : va_G} {T : Nat → ClassId} {b : Nat} {gr : Bool} {n0 : Nat} (xs : Nat → Int32) (L b0 : Nat) (hgr : gr = true) (k164 : Nat → Nat → Nat → Nat → Nat → Nat → Nat → Nat → Nat → Nat → Nat → Nat → Nat → Nat → Nat → Nat → Int32 → Int32 → Int32 → Nat → Nat → zM → Option (Int32 × zM)) (hk164 : ∀ (z1 : Nat) (z2 : Nat) (z3 : Nat) (z4 : Nat) (z5 : Nat) (z6 : Nat) (z7 : Nat) (z8 : Nat) (z9 : Nat) (z10 : Nat) (z11 : Nat) (z12 : Nat) (z13 : Nat) (z14 : Nat) (z15 : Nat) (z16 : Nat) (z17 : Int32) (z18 : Int32) (z19 : Int32) (cc ss : Nat) (N : zM) (o : Int32 × zM), k164 z1 z2 z3 z4 z5 z6 z7 z8 z9 z10 z11 z12 z13 z14 z15 z16 z17 z18 z19 cc ss N = some o → zV false l RL cL_holds 25 (some .boolean) false 125 519 20148 D T (zEs b0 L xs) b gr n0 (0, o.1, o.2) cc ss 164 [(0, .ref b0), (1, zr b z1), (2, zr b z2), (3, zr b z3), (4, zr b z4), (5, zr b z5), (6, zr b z6), (7, zr b z7), (8, zr b z8), (9, zr b z9), (10, zr b z10), (11, zr b z11), (12, zr b z12), (13, zr b z13), (14, zr b z14), (15, zr b z15), (16, zr b z16), (17, .int z17), (18, .int z18), (19, .int z19)] [] N) (x1 : Nat) (x2 : Nat) (x3 : Nat) (x4 : Nat) (x5 : Nat) (x6 : Nat) (x7 : Nat) (x8 : Nat) (x9 : Nat) (x10 : Nat) (x11 : Nat) (x12 : Nat) (x13 : Nat) (x14 : Nat) (x15 : Nat) (x16 : Nat) (x18 : Int32) (x19 : Int32) (cc ss : Nat) (M : zM) (o : Int32 × zM) (h : fL_holds_571 xs L k164 x1 x2 x3 x4 x5 x6 x7 x8 x9 x10 x11 x12 x13 x14 x15 x16 x18 x19 cc ss M = some o) : zV false l RL cL_holds 25 (some .boolean) false 125 519 20148 D T (zEs b0 L xs) b gr n0 (0, o.1, o.2) cc ss 571 [(0, .ref b0), (1, zr b x1), (2, zr b x2), (3, zr b x3), (4, zr b x4), (5, zr b x5), (6, zr b x6), (7, zr b x7), (8, zr b x8), (9, zr b x9), (10, zr b x10), (11, zr b x11), (12, zr b x12), (13, zr b x13), (14, zr b x14), (15, zr b x15), (16, zr b x16), (18, .int x18), (19, .int x19)] [] M := by
  unfold fL_holds_571 at h
  refine zV_iconst (v := 0) dL_holds_571 (by decide) ?_
  exact vL_holds_572 xs L b0 hgr k164 hk164 x1 x2 x3 x4 x5 x6 x7 x8 x9 x10 x11 x12 x13 x14 x15 x16 x18 x19 0 cc ss M _ h
set_option maxHeartbeats 4000000 in
set_option maxRecDepth 100000 in
theorem vL_holds_567 {l : Launch} {D : va_G} {T : Nat → ClassId} {b : Nat} {gr : Bool} {n0 : Nat} (xs : Nat → Int32) (L b0 : Nat) (hgr : gr = true) (k164 : Nat → Nat → Nat → Nat → Nat → Nat → Nat → Nat → Nat → Nat → Nat → Nat → Nat → Nat → Nat → Nat → Int32 → Int32 → Int32 → Nat → Nat → zM → Option (Int32 × zM)) (hk164 : ∀ (z1 : Nat) (z2 : Nat) (z3 : Nat) (z4 : Nat) (z5 : Nat) (z6 : Nat) (z7 : Nat) (z8 : Nat) (z9 : Nat) (z10 : Nat) (z11 : Nat) (z12 : Nat) (z13 : Nat) (z14 : Nat) (z15 : Nat) (z16 : Nat) (z17 : Int32) (z18 : Int32) (z19 : Int32) (cc ss : Nat) (N : zM) (o : Int32 × zM), k164 z1 z2 z3 z4 z5 z6 z7 z8 z9 z10 z11 z12 z13 z14 z15 z16 z17 z18 z19 cc ss N = some o → zV false l RL cL_holds 25 (some .boolean) false 125 519 20148 D T (zEs b0 L xs) b gr n0 (0, o.1, o.2) cc ss 164 [(0, .ref b0), (1, zr b z1), (2, zr b z2), (3, zr b z3), (4, zr b z4), (5, zr b z5), (6, zr b z6), (7, zr b z7), (8, zr b z8), (9, zr b z9), (10, zr b z10), (11, zr b z11), (12, zr b z12), (13, zr b z13), (14, zr b z14), (15, zr b z15), (16, zr b z16), (17, .int z17), (18, .int z18), (19, .int z19)] [] N) (x1 : Nat) (x2 : Nat) (x3 : Nat) (x4 : Nat) (x5 : Nat) (x6 : Nat) (x7 : Nat) (x8 : Nat) (x9 : Nat) (x10 : Nat) (x11 : Nat) (x12 : Nat) (x13 : Nat) (x14 : Nat) (x15 : Nat) (x16 : Nat) (x18 : Int32) (x19 : Int32) (cc ss : Nat) (M : zM) (o : Int32 × zM) (h : fL_holds_567 xs L k164 x1 x2 x3 x4 x5 x6 x7 x8 x9 x10 x11 x12 x13 x14 x15 x16 x18 x19 cc ss M = some o) : zV false l RL cL_holds 25 (some .boolean) false 125 519 20148 D T (zEs b0 L xs) b gr n0 (0, o.1, o.2) cc ss 567 [(0, .ref b0), (1, zr b x1), (2, zr b x2), (3, zr b x3), (4, zr b x4), (5, zr b x5), (6, zr b x6), (7, zr b x7), (8, zr b x8), (9, zr b x9), (10, zr b x10), (11, zr b x11), (12, zr b x12), (13, zr b x13), (14, zr b x14), (15, zr b x15), (16, zr b x16), (18, .int x18), (19, .int x19)] [] M := by
  unfold fL_holds_567 at h
  refine zV_iconst (v := 1) dL_holds_567 (by decide) ?_
  refine zV_goto (tgt := 572) dL_holds_568 (by decide) ?_
  exact vL_holds_572 xs L b0 hgr k164 hk164 x1 x2 x3 x4 x5 x6 x7 x8 x9 x10 x11 x12 x13 x14 x15 x16 x18 x19 1 cc ss M _ h
set_option maxHeartbeats 4000000 in
set_option maxRecDepth 100000 in
theorem vL_holds_523 {l : Launch} {D : va_G} {T : Nat → ClassId} {b : Nat} {gr : Bool} {n0 : Nat} (xs : Nat → Int32) (L b0 : Nat) (hgr : gr = true) (k164 : Nat → Nat → Nat → Nat → Nat → Nat → Nat → Nat → Nat → Nat → Nat → Nat → Nat → Nat → Nat → Nat → Int32 → Int32 → Int32 → Nat → Nat → zM → Option (Int32 × zM)) (hk164 : ∀ (z1 : Nat) (z2 : Nat) (z3 : Nat) (z4 : Nat) (z5 : Nat) (z6 : Nat) (z7 : Nat) (z8 : Nat) (z9 : Nat) (z10 : Nat) (z11 : Nat) (z12 : Nat) (z13 : Nat) (z14 : Nat) (z15 : Nat) (z16 : Nat) (z17 : Int32) (z18 : Int32) (z19 : Int32) (cc ss : Nat) (N : zM) (o : Int32 × zM), k164 z1 z2 z3 z4 z5 z6 z7 z8 z9 z10 z11 z12 z13 z14 z15 z16 z17 z18 z19 cc ss N = some o → zV false l RL cL_holds 25 (some .boolean) false 125 519 20148 D T (zEs b0 L xs) b gr n0 (0, o.1, o.2) cc ss 164 [(0, .ref b0), (1, zr b z1), (2, zr b z2), (3, zr b z3), (4, zr b z4), (5, zr b z5), (6, zr b z6), (7, zr b z7), (8, zr b z8), (9, zr b z9), (10, zr b z10), (11, zr b z11), (12, zr b z12), (13, zr b z13), (14, zr b z14), (15, zr b z15), (16, zr b z16), (17, .int z17), (18, .int z18), (19, .int z19)] [] N) (x1 : Nat) (x2 : Nat) (x3 : Nat) (x4 : Nat) (x5 : Nat) (x6 : Nat) (x7 : Nat) (x8 : Nat) (x9 : Nat) (x10 : Nat) (x11 : Nat) (x12 : Nat) (x13 : Nat) (x14 : Nat) (x15 : Nat) (x16 : Nat) (x18 : Int32) (x19 : Int32) (x20 : Int32) (cc ss : Nat) (M : zM) (o : Int32 × zM) (h : fL_holds_523 xs L k164 x1 x2 x3 x4 x5 x6 x7 x8 x9 x10 x11 x12 x13 x14 x15 x16 x18 x19 x20 cc ss M = some o) : zV false l RL cL_holds 25 (some .boolean) false 125 519 20148 D T (zEs b0 L xs) b gr n0 (0, o.1, o.2) cc ss 523 [(0, .ref b0), (1, zr b x1), (2, zr b x2), (3, zr b x3), (4, zr b x4), (5, zr b x5), (6, zr b x6), (7, zr b x7), (8, zr b x8), (9, zr b x9), (10, zr b x10), (11, zr b x11), (12, zr b x12), (13, zr b x13), (14, zr b x14), (15, zr b x15), (16, zr b x16), (18, .int x18), (19, .int x19), (20, .int x20)] [] M := by
  unfold fL_holds_523 at h
  refine zV_aload_n (j := 1) dL_holds_523 rfl rfl ?_
  refine zV_aload_n (j := 2) dL_holds_524 rfl rfl ?_
  refine zV_aload_n (j := 3) dL_holds_525 rfl rfl ?_
  refine zV_aload (j := 6) dL_holds_526 rfl ?_
  refine zV_aload (j := 15) dL_holds_528 rfl ?_
  refine zV_iload (j := 19) dL_holds_530 rfl ?_
  refine zV_bipush (v := 7) dL_holds_532 (by decide) ?_
  refine zV_idiv dL_holds_534 (by decide) ?_
  obtain ⟨g6, h⟩ := zg_of h
  obtain ⟨r3, M4, q5, h⟩ := zb_of h
  refine zV_callSi (As := [zr b x1, zr b x2, zr b x3, zr b x6, zr b x15, .int (x20 / 7)]) (rest := []) (vL_areStates l D T b gr x1 x2 x3 x6 x15 (x20 / 7) M _ _ q5) zm_yL_areStates zl_RL_201 zs_yL_areStates rfl rfl (zcs trivial (Nat.le_of_ble_eq_true rfl)) (by decide) g6.1 g6.2 dL_holds_535 ?_
  refine zV_if_eq (tgt := 571) dL_holds_538 (by decide) (fun c7 => ?_) (fun c7 => ?_)
  · replace h := z_t c7 h
    refine zV_pk [0, 1, 2, 3, 4, 5, 6, 7, 8, 9, 10, 11, 12, 13, 14, 15, 16, 17, 18] rfl ?_
    exact vL_holds_571 xs L b0 hgr k164 hk164 x1 x2 x3 x4 x5 x6 x7 x8 x9 x10 x11 x12 x13 x14 x15 x16 x18 x19 (cc + 0) (ss + 0) M4 _ h
  · replace h := z_f c7 h
    refine zV_iload (j := 18) dL_holds_541 rfl ?_
    refine zV_iconst (v := 3) dL_holds_543 (by decide) ?_
    refine zV_irem dL_holds_544 (by decide) ?_
    refine zV_if_gt (tgt := 567) dL_holds_545 (by decide) (fun c8 => ?_) (fun c8 => ?_)
    · replace h := z_t c8 h
      refine zV_pk [0, 1, 2, 3, 4, 5, 6, 7, 8, 9, 10, 11, 12, 13, 14, 15, 16, 17, 18] rfl ?_
      exact vL_holds_567 xs L b0 hgr k164 hk164 x1 x2 x3 x4 x5 x6 x7 x8 x9 x10 x11 x12 x13 x14 x15 x16 x18 x19 (cc + 0) (ss + 0) M4 _ h
    · replace h := z_f c8 h
      refine zV_aload_n (j := 1) dL_holds_548 rfl rfl ?_
      refine zV_aload (j := 7) dL_holds_549 rfl ?_
      refine zV_aload (j := 10) dL_holds_551 rfl ?_
      refine zV_aload (j := 11) dL_holds_553 rfl ?_
      refine zV_aload (j := 12) dL_holds_555 rfl ?_
      refine zV_aload (j := 13) dL_holds_557 rfl ?_
      refine zV_aload (j := 14) dL_holds_559 rfl ?_
      obtain ⟨g12, h⟩ := zg_of h
      obtain ⟨r9, M10, q11, h⟩ := zb_of h
      refine zV_callSi (As := [zr b x1, zr b x7, zr b x10, zr b x11, zr b x12, zr b x13, zr b x14]) (rest := []) (vL_isTree l D T b gr x1 x7 x10 x11 x12 x13 x14 M4 _ _ q11) zm_yL_isTree zl_RL_205 zs_yL_isTree rfl rfl (zcs trivial (Nat.le_of_ble_eq_true rfl)) (by decide) g12.1 g12.2 dL_holds_561 ?_
      refine zV_if_eq (tgt := 571) dL_holds_564 (by decide) (fun c13 => ?_) (fun c13 => ?_)
      · replace h := z_t c13 h
        refine zV_pk [0, 1, 2, 3, 4, 5, 6, 7, 8, 9, 10, 11, 12, 13, 14, 15, 16, 17, 18] rfl ?_
        exact vL_holds_571 xs L b0 hgr k164 hk164 x1 x2 x3 x4 x5 x6 x7 x8 x9 x10 x11 x12 x13 x14 x15 x16 x18 x19 ((cc + 0) + 0) ((ss + 0) + 0) M10 _ h
      · replace h := z_f c13 h
        refine zV_pk [0, 1, 2, 3, 4, 5, 6, 7, 8, 9, 10, 11, 12, 13, 14, 15, 16, 17, 18] rfl ?_
        exact vL_holds_567 xs L b0 hgr k164 hk164 x1 x2 x3 x4 x5 x6 x7 x8 x9 x10 x11 x12 x13 x14 x15 x16 x18 x19 ((cc + 0) + 0) ((ss + 0) + 0) M10 _ h
set_option maxHeartbeats 4000000 in
set_option maxRecDepth 100000 in
theorem vL_holds_481 {l : Launch} {D : va_G} {T : Nat → ClassId} {b : Nat} {gr : Bool} {n0 : Nat} (xs : Nat → Int32) (L b0 : Nat) (hgr : gr = true) (k164 : Nat → Nat → Nat → Nat → Nat → Nat → Nat → Nat → Nat → Nat → Nat → Nat → Nat → Nat → Nat → Nat → Int32 → Int32 → Int32 → Nat → Nat → zM → Option (Int32 × zM)) (hk164 : ∀ (z1 : Nat) (z2 : Nat) (z3 : Nat) (z4 : Nat) (z5 : Nat) (z6 : Nat) (z7 : Nat) (z8 : Nat) (z9 : Nat) (z10 : Nat) (z11 : Nat) (z12 : Nat) (z13 : Nat) (z14 : Nat) (z15 : Nat) (z16 : Nat) (z17 : Int32) (z18 : Int32) (z19 : Int32) (cc ss : Nat) (N : zM) (o : Int32 × zM), k164 z1 z2 z3 z4 z5 z6 z7 z8 z9 z10 z11 z12 z13 z14 z15 z16 z17 z18 z19 cc ss N = some o → zV false l RL cL_holds 25 (some .boolean) false 125 519 20148 D T (zEs b0 L xs) b gr n0 (0, o.1, o.2) cc ss 164 [(0, .ref b0), (1, zr b z1), (2, zr b z2), (3, zr b z3), (4, zr b z4), (5, zr b z5), (6, zr b z6), (7, zr b z7), (8, zr b z8), (9, zr b z9), (10, zr b z10), (11, zr b z11), (12, zr b z12), (13, zr b z13), (14, zr b z14), (15, zr b z15), (16, zr b z16), (17, .int z17), (18, .int z18), (19, .int z19)] [] N) (x1 : Nat) (x2 : Nat) (x3 : Nat) (x4 : Nat) (x5 : Nat) (x6 : Nat) (x7 : Nat) (x8 : Nat) (x9 : Nat) (x10 : Nat) (x11 : Nat) (x12 : Nat) (x13 : Nat) (x14 : Nat) (x15 : Nat) (x16 : Nat) (x17 : Int32) (x19 : Int32) (x20 : Int32) (x22 : Int32) (x23 : Int32) (x24 : Int32) (s0 : Int32) (cc ss : Nat) (M : zM) (o : Int32 × zM) (h : fL_holds_481 xs L k164 x1 x2 x3 x4 x5 x6 x7 x8 x9 x10 x11 x12 x13 x14 x15 x16 x17 x19 x20 x22 x23 x24 s0 cc ss M = some o) : zV false l RL cL_holds 25 (some .boolean) false 125 519 20148 D T (zEs b0 L xs) b gr n0 (0, o.1, o.2) cc ss 481 [(0, .ref b0), (1, zr b x1), (2, zr b x2), (3, zr b x3), (4, zr b x4), (5, zr b x5), (6, zr b x6), (7, zr b x7), (8, zr b x8), (9, zr b x9), (10, zr b x10), (11, zr b x11), (12, zr b x12), (13, zr b x13), (14, zr b x14), (15, zr b x15), (16, zr b x16), (17, .int x17), (19, .int x19), (20, .int x20), (22, .int x22), (23, .int x23), (24, .int x24)] [.int s0] M := by
  unfold fL_holds_481 at h
  refine zV_istore [(18, .int s0), (0, .ref b0), (1, zr b x1), (2, zr b x2), (3, zr b x3), (4, zr b x4), (5, zr b x5), (6, zr b x6), (7, zr b x7), (8, zr b x8), (9, zr b x9), (10, zr b x10), (11, zr b x11), (12, zr b x12), (13, zr b x13), (14, zr b x14), (15, zr b x15), (16, zr b x16), (17, .int x17), (19, .int x19), (20, .int x20), (22, .int x22), (23, .int x23), (24, .int x24)] dL_holds_481 (by decide) rfl rfl ?_
  refine zV_iload (j := 18) dL_holds_483 rfl ?_
  refine zV_if_eq (tgt := 574) dL_holds_485 (by decide) (fun c14 => ?_) (fun c14 => ?_)
  · replace h := z_t c14 h
    refine zV_pk [1, 2, 3, 4, 5, 6, 7, 8, 9, 10, 11, 12, 13, 14, 15, 16, 17, 18, 0, 19] rfl ?_
    exact vL_holds_574 xs L b0 hgr k164 hk164 x1 x2 x3 x4 x5 x6 x7 x8 x9 x10 x11 x12 x13 x14 x15 x16 x17 s0 x19 cc ss M _ h
  · replace h := z_f c14 h
    refine zV_iload (j := 0) dL_holds_488 rfl ?_
    refine zV_if_eq (tgt := 574) dL_holds_490 (by decide) (fun c15 => ?_) (fun c15 => ?_)
    · replace h := z_t c15 h
      refine zV_pk [1, 2, 3, 4, 5, 6, 7, 8, 9, 10, 11, 12, 13, 14, 15, 16, 17, 18, 0, 19] rfl ?_
      exact vL_holds_574 xs L b0 hgr k164 hk164 x1 x2 x3 x4 x5 x6 x7 x8 x9 x10 x11 x12 x13 x14 x15 x16 x17 s0 x19 cc ss M _ h
    · replace h := z_f c15 h
      refine zV_iload (j := 23) dL_holds_493 rfl ?_
      refine zV_if_eq (tgt := 523) dL_holds_495 (by decide) (fun c16 => ?_) (fun c16 => ?_)
      · replace h := z_t c16 h
        refine zV_pk [1, 2, 3, 4, 5, 6, 7, 8, 9, 10, 11, 12, 13, 14, 15, 16, 17, 0, 19, 20] rfl ?_
        exact vL_holds_523 xs L b0 hgr k164 hk164 x1 x2 x3 x4 x5 x6 x7 x8 x9 x10 x11 x12 x13 x14 x15 x16 s0 x19 x20 cc ss M _ h
      · replace h := z_f c16 h
        refine zV_iload (j := 22) dL_holds_498 rfl ?_
        refine zV_if_eq (tgt := 523) dL_holds_500 (by decide) (fun c17 => ?_) (fun c17 => ?_)
        · replace h := z_t c17 h
          refine zV_pk [1, 2, 3, 4, 5, 6, 7, 8, 9, 10, 11, 12, 13, 14, 15, 16, 17, 0, 19, 20] rfl ?_
          exact vL_holds_523 xs L b0 hgr k164 hk164 x1 x2 x3 x4 x5 x6 x7 x8 x9 x10 x11 x12 x13 x14 x15 x16 s0 x19 x20 cc ss M _ h
        · replace h := z_f c17 h
          refine zV_aload_n (j := 2) dL_holds_503 rfl rfl ?_
          obtain ⟨g18, h⟩ := zg_of h
          obtain ⟨g22, h⟩ := zg_of h
          obtain ⟨g23, h⟩ := zg_of h
          obtain ⟨r19, M20z, q21, h⟩ := zbd_of h
          refine zV_cutVi (ci := 7) (As := []) (rest := []) (vX7_anew l D T b false x1 (zcut M) _ _ q21) zm_yX7_anew zl_RL_168 zi_yX7_anew ze_yX7_anew zcI7 g18 g22 rfl rfl (zcs trivial (Nat.le_of_ble_eq_true rfl)) (by decide) g23.1 g23.2 dL_holds_504 ?_
          refine zV_mem (fun M20 M20e => ?_)
          rw [← M20e] at h
          refine zV_aload (j := 7) dL_holds_507 rfl ?_
          refine zV_aload (j := 16) dL_holds_509 rfl ?_
          refine zV_aload (j := 17) dL_holds_511 rfl ?_
          refine zV_iload (j := 21) dL_holds_513 rfl ?_
          refine zV_iload (j := 23) dL_holds_515 rfl ?_
          obtain ⟨g27, h⟩ := zg_of h
          obtain ⟨r24, M25, q26, h⟩ := zb_of h
          refine zV_callSi (As := [zr b x6, zr b x15, zr b x16, .int x22, .int x24]) (rest := [.int r19]) (vL_anew l D T b gr x6 x15 x16 x22 x24 M20 _ _ q26) zm_yL_anew zl_RL_198 zs_yL_anew rfl rfl (zcs ⟨rfl, trivial⟩ (Nat.le_of_ble_eq_true rfl)) (by decide) g27.1 g27.2 dL_holds_517 ?_
          refine zV_icmp_ne (tgt := 571) dL_holds_520 (by decide) (fun c28 => ?_) (fun c28 => ?_)
          · replace h := z_f c28 h
            refine zV_pk [1, 2, 3, 4, 5, 6, 7, 8, 9, 10, 11, 12, 13, 14, 15, 16, 17, 0, 19] rfl ?_
            exact vL_holds_571 xs L b0 hgr k164 hk164 x1 x2 x3 x4 x5 x6 x7 x8 x9 x10 x11 x12 x13 x14 x15 x16 s0 x19 (cc + 0) (ss + 0) M25 _ h
          · replace h := z_t c28 h
            refine zV_pk [1, 2, 3, 4, 5, 6, 7, 8, 9, 10, 11, 12, 13, 14, 15, 16, 17, 0, 19, 20] rfl ?_
            exact vL_holds_523 xs L b0 hgr k164 hk164 x1 x2 x3 x4 x5 x6 x7 x8 x9 x10 x11 x12 x13 x14 x15 x16 s0 x19 x20 (cc + 0) (ss + 0) M25 _ h
set_option maxHeartbeats 4000000 in
set_option maxRecDepth 100000 in
theorem vL_holds_437 {l : Launch} {D : va_G} {T : Nat → ClassId} {b : Nat} {gr : Bool} {n0 : Nat} (xs : Nat → Int32) (L b0 : Nat) (hgr : gr = true) (k164 : Nat → Nat → Nat → Nat → Nat → Nat → Nat → Nat → Nat → Nat → Nat → Nat → Nat → Nat → Nat → Nat → Int32 → Int32 → Int32 → Nat → Nat → zM → Option (Int32 × zM)) (hk164 : ∀ (z1 : Nat) (z2 : Nat) (z3 : Nat) (z4 : Nat) (z5 : Nat) (z6 : Nat) (z7 : Nat) (z8 : Nat) (z9 : Nat) (z10 : Nat) (z11 : Nat) (z12 : Nat) (z13 : Nat) (z14 : Nat) (z15 : Nat) (z16 : Nat) (z17 : Int32) (z18 : Int32) (z19 : Int32) (cc ss : Nat) (N : zM) (o : Int32 × zM), k164 z1 z2 z3 z4 z5 z6 z7 z8 z9 z10 z11 z12 z13 z14 z15 z16 z17 z18 z19 cc ss N = some o → zV false l RL cL_holds 25 (some .boolean) false 125 519 20148 D T (zEs b0 L xs) b gr n0 (0, o.1, o.2) cc ss 164 [(0, .ref b0), (1, zr b z1), (2, zr b z2), (3, zr b z3), (4, zr b z4), (5, zr b z5), (6, zr b z6), (7, zr b z7), (8, zr b z8), (9, zr b z9), (10, zr b z10), (11, zr b z11), (12, zr b z12), (13, zr b z13), (14, zr b z14), (15, zr b z15), (16, zr b z16), (17, .int z17), (18, .int z18), (19, .int z19)] [] N) (x1 : Nat) (x2 : Nat) (x3 : Nat) (x4 : Nat) (x5 : Nat) (x6 : Nat) (x7 : Nat) (x8 : Nat) (x9 : Nat) (x10 : Nat) (x11 : Nat) (x12 : Nat) (x13 : Nat) (x14 : Nat) (x15 : Nat) (x16 : Nat) (x19 : Int32) (x20 : Int32) (x22 : Int32) (x23 : Int32) (x24 : Int32) (s0 : Int32) (cc ss : Nat) (M : zM) (o : Int32 × zM) (h : fL_holds_437 xs L k164 x1 x2 x3 x4 x5 x6 x7 x8 x9 x10 x11 x12 x13 x14 x15 x16 x19 x20 x22 x23 x24 s0 cc ss M = some o) : zV false l RL cL_holds 25 (some .boolean) false 125 519 20148 D T (zEs b0 L xs) b gr n0 (0, o.1, o.2) cc ss 437 [(0, .ref b0), (1, zr b x1), (2, zr b x2), (3, zr b x3), (4, zr b x4), (5, zr b x5), (6, zr b x6), (7, zr b x7), (8, zr b x8), (9, zr b x9), (10, zr b x10), (11, zr b x11), (12, zr b x12), (13, zr b x13), (14, zr b x14), (15, zr b x15), (16, zr b x16), (19, .int x19), (20, .int x20), (22, .int x22), (23, .int x23), (24, .int x24)] [.int s0] M := by
  unfold fL_holds_437 at h
  refine zV_istore [(17, .int s0), (0, .ref b0), (1, zr b x1), (2, zr b x2), (3, zr b x3), (4, zr b x4), (5, zr b x5), (6, zr b x6), (7, zr b x7), (8, zr b x8), (9, zr b x9), (10, zr b x10), (11, zr b x11), (12, zr b x12), (13, zr b x13), (14, zr b x14), (15, zr b x15), (16, zr b x16), (19, .int x19), (20, .int x20), (22, .int x22), (23, .int x23), (24, .int x24)] dL_holds_437 (by decide) rfl rfl ?_
  refine zV_aload_n (j := 3) dL_holds_439 rfl rfl ?_
  refine zV_aload_n (j := 4) dL_holds_440 rfl rfl ?_
  refine zV_aload (j := 5) dL_holds_441 rfl ?_
  refine zV_aload (j := 6) dL_holds_443 rfl ?_
  refine zV_aload (j := 7) dL_holds_445 rfl ?_
  refine zV_aload (j := 8) dL_holds_447 rfl ?_
  refine zV_aload (j := 9) dL_holds_449 rfl ?_
  refine zV_aload (j := 10) dL_holds_451 rfl ?_
  refine zV_aload (j := 11) dL_holds_453 rfl ?_
  refine zV_aload (j := 12) dL_holds_455 rfl ?_
  refine zV_aload (j := 13) dL_holds_457 rfl ?_
  refine zV_aload (j := 14) dL_holds_459 rfl ?_
  refine zV_aload (j := 15) dL_holds_461 rfl ?_
  refine zV_aload (j := 16) dL_holds_463 rfl ?_
  obtain ⟨g32, h⟩ := zg_of h
  obtain ⟨r29, M30, q31, h⟩ := zb_of h
  refine zV_callSv (As := [zr b x2, zr b x3, zr b x4, zr b x5, zr b x6, zr b x7, zr b x8, zr b x9, zr b x10, zr b x11, zr b x12, zr b x13, zr b x14, zr b x15]) (rest := []) (vL_reads l D T b gr x2 x3 x4 x5 x6 x7 x8 x9 x10 x11 x12 x13 x14 x15 M _ _ q31) zm_yL_reads zl_RL_178 zs_yL_reads rfl rfl (zcs trivial (Nat.le_of_ble_eq_true rfl)) (by decide) g32.1 g32.2 dL_holds_465 ?_
  refine zV_aload (j := 8) dL_holds_468 rfl ?_
  refine zV_bipush (v := 6) dL_holds_470 (by decide) ?_
  obtain ⟨g33, h⟩ := zg_of h
  obtain ⟨g34, h⟩ := zg_of h
  refine zV_iald dL_holds_472 g33 g34 ?_
  refine zV_if_ne (tgt := 480) dL_holds_473 (by decide) (fun c35 => ?_) (fun c35 => ?_)
  · replace h := z_f c35 h
    refine zV_iconst (v := 0) dL_holds_480 (by decide) ?_
    refine zV_pk [1, 2, 3, 4, 5, 6, 7, 8, 9, 10, 11, 12, 13, 14, 15, 16, 17, 0, 18, 19, 20, 21, 22] rfl ?_
    exact vL_holds_481 xs L b0 hgr k164 hk164 x1 x2 x3 x4 x5 x6 x7 x8 x9 x10 x11 x12 x13 x14 x15 x16 s0 x19 x20 x22 x23 x24 0 (cc + 0) (ss + 0) M30 _ h
  · replace h := z_t c35 h
    refine zV_iconst (v := 1) dL_holds_476 (by decide) ?_
    refine zV_goto (tgt := 481) dL_holds_477 (by decide) ?_
    refine zV_pk [1, 2, 3, 4, 5, 6, 7, 8, 9, 10, 11, 12, 13, 14, 15, 16, 17, 0, 18, 19, 20, 21, 22] rfl ?_
    exact vL_holds_481 xs L b0 hgr k164 hk164 x1 x2 x3 x4 x5 x6 x7 x8 x9 x10 x11 x12 x13 x14 x15 x16 s0 x19 x20 x22 x23 x24 1 (cc + 0) (ss + 0) M30 _ h
set_option maxHeartbeats 4000000 in
set_option maxRecDepth 100000 in
theorem vL_holds_434 {l : Launch} {D : va_G} {T : Nat → ClassId} {b : Nat} {gr : Bool} {n0 : Nat} (xs : Nat → Int32) (L b0 : Nat) (hgr : gr = true) (k164 : Nat → Nat → Nat → Nat → Nat → Nat → Nat → Nat → Nat → Nat → Nat → Nat → Nat → Nat → Nat → Nat → Int32 → Int32 → Int32 → Nat → Nat → zM → Option (Int32 × zM)) (hk164 : ∀ (z1 : Nat) (z2 : Nat) (z3 : Nat) (z4 : Nat) (z5 : Nat) (z6 : Nat) (z7 : Nat) (z8 : Nat) (z9 : Nat) (z10 : Nat) (z11 : Nat) (z12 : Nat) (z13 : Nat) (z14 : Nat) (z15 : Nat) (z16 : Nat) (z17 : Int32) (z18 : Int32) (z19 : Int32) (cc ss : Nat) (N : zM) (o : Int32 × zM), k164 z1 z2 z3 z4 z5 z6 z7 z8 z9 z10 z11 z12 z13 z14 z15 z16 z17 z18 z19 cc ss N = some o → zV false l RL cL_holds 25 (some .boolean) false 125 519 20148 D T (zEs b0 L xs) b gr n0 (0, o.1, o.2) cc ss 164 [(0, .ref b0), (1, zr b z1), (2, zr b z2), (3, zr b z3), (4, zr b z4), (5, zr b z5), (6, zr b z6), (7, zr b z7), (8, zr b z8), (9, zr b z9), (10, zr b z10), (11, zr b z11), (12, zr b z12), (13, zr b z13), (14, zr b z14), (15, zr b z15), (16, zr b z16), (17, .int z17), (18, .int z18), (19, .int z19)] [] N) (x1 : Nat) (x2 : Nat) (x3 : Nat) (x4 : Nat) (x5 : Nat) (x6 : Nat) (x7 : Nat) (x8 : Nat) (x9 : Nat) (x10 : Nat) (x11 : Nat) (x12 : Nat) (x13 : Nat) (x14 : Nat) (x15 : Nat) (x16 : Nat) (x19 : Int32) (x20 : Int32) (x22 : Int32) (x23 : Int32) (x24 : Int32) (s0 : Nat) (s1 : Nat) (s2 : Nat) (s3 : Nat) (s4 : Int32) (s5 : Int32) (cc ss : Nat) (M : zM) (o : Int32 × zM) (h : fL_holds_434 xs L k164 x1 x2 x3 x4 x5 x6 x7 x8 x9 x10 x11 x12 x13 x14 x15 x16 x19 x20 x22 x23 x24 s0 s1 s2 s3 s4 s5 cc ss M = some o) : zV false l RL cL_holds 25 (some .boolean) false 125 519 20148 D T (zEs b0 L xs) b gr n0 (0, o.1, o.2) cc ss 434 [(0, .ref b0), (1, zr b x1), (2, zr b x2), (3, zr b x3), (4, zr b x4), (5, zr b x5), (6, zr b x6), (7, zr b x7), (8, zr b x8), (9, zr b x9), (10, zr b x10), (11, zr b x11), (12, zr b x12), (13, zr b x13), (14, zr b x14), (15, zr b x15), (16, zr b x16), (19, .int x19), (20, .int x20), (22, .int x22), (23, .int x23), (24, .int x24)] [.int s5, .int s4, zr b s3, zr b s2, zr b s1, zr b s0] M := by
  unfold fL_holds_434 at h
  obtain ⟨g39, h⟩ := zg_of h
  obtain ⟨r36, M37, q38, h⟩ := zb_of h
  refine zV_callSi (As := [zr b s0, zr b s1, zr b s2, zr b s3, .int s4, .int s5]) (rest := []) (vL_isGrammar l D T b gr s0 s1 s2 s3 s4 s5 M _ _ q38) zm_yL_isGrammar zl_RL_194 zs_yL_isGrammar rfl rfl (zcs trivial (Nat.le_of_ble_eq_true rfl)) (by decide) g39.1 g39.2 dL_holds_434 ?_
  exact vL_holds_437 xs L b0 hgr k164 hk164 x1 x2 x3 x4 x5 x6 x7 x8 x9 x10 x11 x12 x13 x14 x15 x16 x19 x20 x22 x23 x24 r36 (cc + 0) (ss + 0) M37 _ h
set_option maxHeartbeats 4000000 in
set_option maxRecDepth 100000 in
theorem vL_holds_417 {l : Launch} {D : va_G} {T : Nat → ClassId} {b : Nat} {gr : Bool} {n0 : Nat} (xs : Nat → Int32) (L b0 : Nat) (hgr : gr = true) (k164 : Nat → Nat → Nat → Nat → Nat → Nat → Nat → Nat → Nat → Nat → Nat → Nat → Nat → Nat → Nat → Nat → Int32 → Int32 → Int32 → Nat → Nat → zM → Option (Int32 × zM)) (hk164 : ∀ (z1 : Nat) (z2 : Nat) (z3 : Nat) (z4 : Nat) (z5 : Nat) (z6 : Nat) (z7 : Nat) (z8 : Nat) (z9 : Nat) (z10 : Nat) (z11 : Nat) (z12 : Nat) (z13 : Nat) (z14 : Nat) (z15 : Nat) (z16 : Nat) (z17 : Int32) (z18 : Int32) (z19 : Int32) (cc ss : Nat) (N : zM) (o : Int32 × zM), k164 z1 z2 z3 z4 z5 z6 z7 z8 z9 z10 z11 z12 z13 z14 z15 z16 z17 z18 z19 cc ss N = some o → zV false l RL cL_holds 25 (some .boolean) false 125 519 20148 D T (zEs b0 L xs) b gr n0 (0, o.1, o.2) cc ss 164 [(0, .ref b0), (1, zr b z1), (2, zr b z2), (3, zr b z3), (4, zr b z4), (5, zr b z5), (6, zr b z6), (7, zr b z7), (8, zr b z8), (9, zr b z9), (10, zr b z10), (11, zr b z11), (12, zr b z12), (13, zr b z13), (14, zr b z14), (15, zr b z15), (16, zr b z16), (17, .int z17), (18, .int z18), (19, .int z19)] [] N) (x1 : Nat) (x2 : Nat) (x3 : Nat) (x4 : Nat) (x5 : Nat) (x6 : Nat) (x7 : Nat) (x8 : Nat) (x9 : Nat) (x10 : Nat) (x11 : Nat) (x12 : Nat) (x13 : Nat) (x14 : Nat) (x15 : Nat) (x16 : Nat) (x19 : Int32) (x20 : Int32) (x21 : Int32) (x22 : Int32) (x23 : Int32) (x24 : Int32) (s0 : Nat) (s1 : Nat) (s2 : Nat) (s3 : Nat) (s4 : Int32) (cc ss : Nat) (M : zM) (o : Int32 × zM) (h : fL_holds_417 xs L k164 x1 x2 x3 x4 x5 x6 x7 x8 x9 x10 x11 x12 x13 x14 x15 x16 x19 x20 x21 x22 x23 x24 s0 s1 s2 s3 s4 cc ss M = some o) : zV false l RL cL_holds 25 (some .boolean) false 125 519 20148 D T (zEs b0 L xs) b gr n0 (0, o.1, o.2) cc ss 417 [(0, .ref b0), (1, zr b x1), (2, zr b x2), (3, zr b x3), (4, zr b x4), (5, zr b x5), (6, zr b x6), (7, zr b x7), (8, zr b x8), (9, zr b x9), (10, zr b x10), (11, zr b x11), (12, zr b x12), (13, zr b x13), (14, zr b x14), (15, zr b x15), (16, zr b x16), (19, .int x19), (20, .int x20), (21, .int x21), (22, .int x22), (23, .int x23), (24, .int x24)] [.int s4, zr b s3, zr b s2, zr b s1, zr b s0] M := by
  unfold fL_holds_417 at h
  refine zV_iload (j := 19) dL_holds_417 rfl ?_
  refine zV_iconst (v := 4) dL_holds_419 (by decide) ?_
  refine zV_icmp_ne (tgt := 432) dL_holds_420 (by decide) (fun c40 => ?_) (fun c40 => ?_)
  · replace h := z_f c40 h
    refine zV_iload (j := 18) dL_holds_432 rfl ?_
    refine zV_pk [0, 1, 2, 3, 4, 5, 6, 7, 8, 9, 10, 11, 12, 13, 14, 15, 16, 17, 18, 20, 21, 22] rfl ?_
    exact vL_holds_434 xs L b0 hgr k164 hk164 x1 x2 x3 x4 x5 x6 x7 x8 x9 x10 x11 x12 x13 x14 x15 x16 x19 x20 x22 x23 x24 s0 s1 s2 s3 s4 x20 cc ss M _ h
  · replace h := z_t c40 h
    refine zV_iload (j := 18) dL_holds_423 rfl ?_
    refine zV_iconst (v := 5) dL_holds_425 (by decide) ?_
    refine zV_idiv dL_holds_426 (by decide) ?_
    refine zV_iconst (v := 5) dL_holds_427 (by decide) ?_
    refine zV_imul dL_holds_428 ?_
    refine zV_goto (tgt := 434) dL_holds_429 (by decide) ?_
    refine zV_pk [0, 1, 2, 3, 4, 5, 6, 7, 8, 9, 10, 11, 12, 13, 14, 15, 16, 17, 18, 20, 21, 22] rfl ?_
    exact vL_holds_434 xs L b0 hgr k164 hk164 x1 x2 x3 x4 x5 x6 x7 x8 x9 x10 x11 x12 x13 x14 x15 x16 x19 x20 x22 x23 x24 s0 s1 s2 s3 s4 ((x20 / 5) * 5) cc ss M _ h
set_option maxHeartbeats 4000000 in
set_option maxRecDepth 100000 in
theorem vL_holds_392 {l : Launch} {D : va_G} {T : Nat → ClassId} {b : Nat} {gr : Bool} {n0 : Nat} (xs : Nat → Int32) (L b0 : Nat) (hgr : gr = true) (k164 : Nat → Nat → Nat → Nat → Nat → Nat → Nat → Nat → Nat → Nat → Nat → Nat → Nat → Nat → Nat → Nat → Int32 → Int32 → Int32 → Nat → Nat → zM → Option (Int32 × zM)) (hk164 : ∀ (z1 : Nat) (z2 : Nat) (z3 : Nat) (z4 : Nat) (z5 : Nat) (z6 : Nat) (z7 : Nat) (z8 : Nat) (z9 : Nat) (z10 : Nat) (z11 : Nat) (z12 : Nat) (z13 : Nat) (z14 : Nat) (z15 : Nat) (z16 : Nat) (z17 : Int32) (z18 : Int32) (z19 : Int32) (cc ss : Nat) (N : zM) (o : Int32 × zM), k164 z1 z2 z3 z4 z5 z6 z7 z8 z9 z10 z11 z12 z13 z14 z15 z16 z17 z18 z19 cc ss N = some o → zV false l RL cL_holds 25 (some .boolean) false 125 519 20148 D T (zEs b0 L xs) b gr n0 (0, o.1, o.2) cc ss 164 [(0, .ref b0), (1, zr b z1), (2, zr b z2), (3, zr b z3), (4, zr b z4), (5, zr b z5), (6, zr b z6), (7, zr b z7), (8, zr b z8), (9, zr b z9), (10, zr b z10), (11, zr b z11), (12, zr b z12), (13, zr b z13), (14, zr b z14), (15, zr b z15), (16, zr b z16), (17, .int z17), (18, .int z18), (19, .int z19)] [] N) (x1 : Nat) (x2 : Nat) (x3 : Nat) (x4 : Nat) (x5 : Nat) (x6 : Nat) (x7 : Nat) (x8 : Nat) (x9 : Nat) (x10 : Nat) (x11 : Nat) (x12 : Nat) (x13 : Nat) (x14 : Nat) (x15 : Nat) (x16 : Nat) (x19 : Int32) (x20 : Int32) (x22 : Int32) (x23 : Int32) (x24 : Int32) (s0 : Nat) (s1 : Nat) (s2 : Nat) (s3 : Int32) (cc ss : Nat) (M : zM) (o : Int32 × zM) (h : fL_holds_392 xs L k164 x1 x2 x3 x4 x5 x6 x7 x8 x9 x10 x11 x12 x13 x14 x15 x16 x19 x20 x22 x23 x24 s0 s1 s2 s3 cc ss M = some o) : zV false l RL cL_holds 25 (some .boolean) false 125 519 20148 D T (zEs b0 L xs) b gr n0 (0, o.1, o.2) cc ss 392 [(0, .ref b0), (1, zr b x1), (2, zr b x2), (3, zr b x3), (4, zr b x4), (5, zr b x5), (6, zr b x6), (7, zr b x7), (8, zr b x8), (9, zr b x9), (10, zr b x10), (11, zr b x11), (12, zr b x12), (13, zr b x13), (14, zr b x14), (15, zr b x15), (16, zr b x16), (19, .int x19), (20, .int x20), (22, .int x22), (23, .int x23), (24, .int x24)] [.int s3, zr b s2, zr b s1, zr b s0] M := by
  unfold fL_holds_392 at h
  refine zV_iload (j := 18) dL_holds_392 rfl ?_
  obtain ⟨g44, h⟩ := zg_of h
  obtain ⟨r41, M42, q43, h⟩ := zb_of h
  refine zV_callSi (As := [zr b s0, zr b s1, zr b s2, .int s3, .int x20]) (rest := []) (vL_isTurned l D T b gr s0 s1 s2 s3 x20 M _ _ q43) zm_yL_isTurned zl_RL_190 zs_yL_isTurned rfl rfl (zcs trivial (Nat.le_of_ble_eq_true rfl)) (by decide) g44.1 g44.2 dL_holds_394 ?_
  refine zV_goto (tgt := 437) dL_holds_397 (by decide) ?_
  exact vL_holds_437 xs L b0 hgr k164 hk164 x1 x2 x3 x4 x5 x6 x7 x8 x9 x10 x11 x12 x13 x14 x15 x16 x19 x20 x22 x23 x24 r41 (cc + 0) (ss + 0) M42 _ h
set_option maxHeartbeats 4000000 in
set_option maxRecDepth 100000 in
theorem vL_holds_355 {l : Launch} {D : va_G} {T : Nat → ClassId} {b : Nat} {gr : Bool} {n0 : Nat} (xs : Nat → Int32) (L b0 : Nat) (hgr : gr = true) (k164 : Nat → Nat → Nat → Nat → Nat → Nat → Nat → Nat → Nat → Nat → Nat → Nat → Nat → Nat → Nat → Nat → Int32 → Int32 → Int32 → Nat → Nat → zM → Option (Int32 × zM)) (hk164 : ∀ (z1 : Nat) (z2 : Nat) (z3 : Nat) (z4 : Nat) (z5 : Nat) (z6 : Nat) (z7 : Nat) (z8 : Nat) (z9 : Nat) (z10 : Nat) (z11 : Nat) (z12 : Nat) (z13 : Nat) (z14 : Nat) (z15 : Nat) (z16 : Nat) (z17 : Int32) (z18 : Int32) (z19 : Int32) (cc ss : Nat) (N : zM) (o : Int32 × zM), k164 z1 z2 z3 z4 z5 z6 z7 z8 z9 z10 z11 z12 z13 z14 z15 z16 z17 z18 z19 cc ss N = some o → zV false l RL cL_holds 25 (some .boolean) false 125 519 20148 D T (zEs b0 L xs) b gr n0 (0, o.1, o.2) cc ss 164 [(0, .ref b0), (1, zr b z1), (2, zr b z2), (3, zr b z3), (4, zr b z4), (5, zr b z5), (6, zr b z6), (7, zr b z7), (8, zr b z8), (9, zr b z9), (10, zr b z10), (11, zr b z11), (12, zr b z12), (13, zr b z13), (14, zr b z14), (15, zr b z15), (16, zr b z16), (17, .int z17), (18, .int z18), (19, .int z19)] [] N) (x1 : Nat) (x2 : Nat) (x3 : Nat) (x4 : Nat) (x5 : Nat) (x6 : Nat) (x7 : Nat) (x8 : Nat) (x9 : Nat) (x10 : Nat) (x11 : Nat) (x12 : Nat) (x13 : Nat) (x14 : Nat) (x15 : Nat) (x16 : Nat) (x19 : Int32) (x20 : Int32) (x22 : Int32) (x23 : Int32) (x24 : Int32) (s0 : Nat) (s1 : Nat) (s2 : Int32) (cc ss : Nat) (M : zM) (o : Int32 × zM) (h : fL_holds_355 xs L k164 x1 x2 x3 x4 x5 x6 x7 x8 x9 x10 x11 x12 x13 x14 x15 x16 x19 x20 x22 x23 x24 s0 s1 s2 cc ss M = some o) : zV false l RL cL_holds 25 (some .boolean) false 125 519 20148 D T (zEs b0 L xs) b gr n0 (0, o.1, o.2) cc ss 355 [(0, .ref b0), (1, zr b x1), (2, zr b x2), (3, zr b x3), (4, zr b x4), (5, zr b x5), (6, zr b x6), (7, zr b x7), (8, zr b x8), (9, zr b x9), (10, zr b x10), (11, zr b x11), (12, zr b x12), (13, zr b x13), (14, zr b x14), (15, zr b x15), (16, zr b x16), (19, .int x19), (20, .int x20), (22, .int x22), (23, .int x23), (24, .int x24)] [.int s2, zr b s1, zr b s0] M := by
  unfold fL_holds_355 at h
  refine zV_iload (j := 18) dL_holds_355 rfl ?_
  obtain ⟨g48, h⟩ := zg_of h
  obtain ⟨r45, M46, q47, h⟩ := zb_of h
  refine zV_callSi (As := [zr b s0, zr b s1, .int s2, .int x20]) (rest := []) (vL_isEdited l D T b gr s0 s1 s2 x20 M _ _ q47) zm_yL_isEdited zl_RL_186 zs_yL_isEdited rfl rfl (zcs trivial (Nat.le_of_ble_eq_true rfl)) (by decide) g48.1 g48.2 dL_holds_357 ?_
  refine zV_goto (tgt := 437) dL_holds_360 (by decide) ?_
  exact vL_holds_437 xs L b0 hgr k164 hk164 x1 x2 x3 x4 x5 x6 x7 x8 x9 x10 x11 x12 x13 x14 x15 x16 x19 x20 x22 x23 x24 r45 (cc + 0) (ss + 0) M46 _ h
set_option maxHeartbeats 4000000 in
set_option maxRecDepth 100000 in
theorem vL_holds_335 {l : Launch} {D : va_G} {T : Nat → ClassId} {b : Nat} {gr : Bool} {n0 : Nat} (xs : Nat → Int32) (L b0 : Nat) (hgr : gr = true) (k164 : Nat → Nat → Nat → Nat → Nat → Nat → Nat → Nat → Nat → Nat → Nat → Nat → Nat → Nat → Nat → Nat → Int32 → Int32 → Int32 → Nat → Nat → zM → Option (Int32 × zM)) (hk164 : ∀ (z1 : Nat) (z2 : Nat) (z3 : Nat) (z4 : Nat) (z5 : Nat) (z6 : Nat) (z7 : Nat) (z8 : Nat) (z9 : Nat) (z10 : Nat) (z11 : Nat) (z12 : Nat) (z13 : Nat) (z14 : Nat) (z15 : Nat) (z16 : Nat) (z17 : Int32) (z18 : Int32) (z19 : Int32) (cc ss : Nat) (N : zM) (o : Int32 × zM), k164 z1 z2 z3 z4 z5 z6 z7 z8 z9 z10 z11 z12 z13 z14 z15 z16 z17 z18 z19 cc ss N = some o → zV false l RL cL_holds 25 (some .boolean) false 125 519 20148 D T (zEs b0 L xs) b gr n0 (0, o.1, o.2) cc ss 164 [(0, .ref b0), (1, zr b z1), (2, zr b z2), (3, zr b z3), (4, zr b z4), (5, zr b z5), (6, zr b z6), (7, zr b z7), (8, zr b z8), (9, zr b z9), (10, zr b z10), (11, zr b z11), (12, zr b z12), (13, zr b z13), (14, zr b z14), (15, zr b z15), (16, zr b z16), (17, .int z17), (18, .int z18), (19, .int z19)] [] N) (x1 : Nat) (x2 : Nat) (x3 : Nat) (x4 : Nat) (x5 : Nat) (x6 : Nat) (x7 : Nat) (x8 : Nat) (x9 : Nat) (x10 : Nat) (x11 : Nat) (x12 : Nat) (x13 : Nat) (x14 : Nat) (x15 : Nat) (x16 : Nat) (x19 : Int32) (x20 : Int32) (x21 : Int32) (x23 : Int32) (x24 : Int32) (s0 : Int32) (cc ss : Nat) (M : zM) (o : Int32 × zM) (h : fL_holds_335 xs L k164 x1 x2 x3 x4 x5 x6 x7 x8 x9 x10 x11 x12 x13 x14 x15 x16 x19 x20 x21 x23 x24 s0 cc ss M = some o) : zV false l RL cL_holds 25 (some .boolean) false 125 519 20148 D T (zEs b0 L xs) b gr n0 (0, o.1, o.2) cc ss 335 [(0, .ref b0), (1, zr b x1), (2, zr b x2), (3, zr b x3), (4, zr b x4), (5, zr b x5), (6, zr b x6), (7, zr b x7), (8, zr b x8), (9, zr b x9), (10, zr b x10), (11, zr b x11), (12, zr b x12), (13, zr b x13), (14, zr b x14), (15, zr b x15), (16, zr b x16), (19, .int x19), (20, .int x20), (21, .int x21), (23, .int x23), (24, .int x24)] [.int s0] M := by
  unfold fL_holds_335 at h
  refine zV_istore [(22, .int s0), (0, .ref b0), (1, zr b x1), (2, zr b x2), (3, zr b x3), (4, zr b x4), (5, zr b x5), (6, zr b x6), (7, zr b x7), (8, zr b x8), (9, zr b x9), (10, zr b x10), (11, zr b x11), (12, zr b x12), (13, zr b x13), (14, zr b x14), (15, zr b x15), (16, zr b x16), (19, .int x19), (20, .int x20), (21, .int x21), (23, .int x23), (24, .int x24)] dL_holds_335 (by decide) rfl rfl ?_
  refine zV_iload (j := 22) dL_holds_337 rfl ?_
  refine zV_if_eq (tgt := 363) dL_holds_339 (by decide) (fun c49 => ?_) (fun c49 => ?_)
  · replace h := z_t c49 h
    refine zV_iload (j := 20) dL_holds_363 rfl ?_
    refine zV_bipush (v := 8) dL_holds_365 (by decide) ?_
    refine zV_icmp_le (tgt := 400) dL_holds_367 (by decide) (fun c50 => ?_) (fun c50 => ?_)
    · replace h := z_t c50 h
      refine zV_aload_n (j := 2) dL_holds_400 rfl rfl ?_
      refine zV_aload_n (j := 3) dL_holds_401 rfl rfl ?_
      refine zV_aload_n (j := 4) dL_holds_402 rfl rfl ?_
      refine zV_aload (j := 5) dL_holds_403 rfl ?_
      refine zV_iload (j := 20) dL_holds_405 rfl ?_
      refine zV_iconst (v := 3) dL_holds_407 (by decide) ?_
      refine zV_icmp_le (tgt := 415) dL_holds_408 (by decide) (fun c51 => ?_) (fun c51 => ?_)
      · replace h := z_t c51 h
        refine zV_iload (j := 20) dL_holds_415 rfl ?_
        refine zV_pk [1, 2, 3, 4, 5, 6, 7, 8, 9, 10, 11, 12, 13, 14, 15, 16, 17, 18, 19, 20, 0, 21, 22] rfl ?_
        exact vL_holds_417 xs L b0 hgr k164 hk164 x1 x2 x3 x4 x5 x6 x7 x8 x9 x10 x11 x12 x13 x14 x15 x16 x19 x20 x21 s0 x23 x24 x1 x2 x3 x4 x21 cc ss M _ h
      · replace h := z_f c51 h
        refine zV_iconst (v := 3) dL_holds_411 (by decide) ?_
        refine zV_goto (tgt := 417) dL_holds_412 (by decide) ?_
        refine zV_pk [1, 2, 3, 4, 5, 6, 7, 8, 9, 10, 11, 12, 13, 14, 15, 16, 17, 18, 19, 20, 0, 21, 22] rfl ?_
        exact vL_holds_417 xs L b0 hgr k164 hk164 x1 x2 x3 x4 x5 x6 x7 x8 x9 x10 x11 x12 x13 x14 x15 x16 x19 x20 x21 s0 x23 x24 x1 x2 x3 x4 3 cc ss M _ h
    · replace h := z_f c50 h
      refine zV_aload_n (j := 2) dL_holds_370 rfl rfl ?_
      refine zV_aload (j := 6) dL_holds_371 rfl ?_
      refine zV_aload (j := 7) dL_holds_373 rfl ?_
      refine zV_iload (j := 20) dL_holds_375 rfl ?_
      refine zV_bipush (v := 27) dL_holds_377 (by decide) ?_
      refine zV_isub dL_holds_379 ?_
      refine zV_if_ge (tgt := 387) dL_holds_380 (by decide) (fun c52 => ?_) (fun c52 => ?_)
      · replace h := z_t c52 h
        refine zV_iload (j := 20) dL_holds_387 rfl ?_
        refine zV_bipush (v := 27) dL_holds_389 (by decide) ?_
        refine zV_isub dL_holds_391 ?_
        refine zV_pk [1, 2, 3, 4, 5, 6, 7, 8, 9, 10, 11, 12, 13, 14, 15, 16, 17, 18, 19, 0, 21, 22] rfl ?_
        exact vL_holds_392 xs L b0 hgr k164 hk164 x1 x2 x3 x4 x5 x6 x7 x8 x9 x10 x11 x12 x13 x14 x15 x16 x19 x20 s0 x23 x24 x1 x5 x6 (x21 - 27) cc ss M _ h
      · replace h := z_f c52 h
        refine zV_iconst (v := 2) dL_holds_383 (by decide) ?_
        refine zV_goto (tgt := 392) dL_holds_384 (by decide) ?_
        refine zV_pk [1, 2, 3, 4, 5, 6, 7, 8, 9, 10, 11, 12, 13, 14, 15, 16, 17, 18, 19, 0, 21, 22] rfl ?_
        exact vL_holds_392 xs L b0 hgr k164 hk164 x1 x2 x3 x4 x5 x6 x7 x8 x9 x10 x11 x12 x13 x14 x15 x16 x19 x20 s0 x23 x24 x1 x5 x6 2 cc ss M _ h
  · replace h := z_f c49 h
    refine zV_aload_n (j := 2) dL_holds_342 rfl rfl ?_
    refine zV_aload (j := 7) dL_holds_343 rfl ?_
    refine zV_iload (j := 22) dL_holds_345 rfl ?_
    refine zV_if_le (tgt := 354) dL_holds_347 (by decide) (fun c53 => ?_) (fun c53 => ?_)
    · replace h := z_t c53 h
      refine zV_iconst (v := 0) dL_holds_354 (by decide) ?_
      refine zV_pk [1, 2, 3, 4, 5, 6, 7, 8, 9, 10, 11, 12, 13, 14, 15, 16, 17, 18, 19, 0, 21, 22] rfl ?_
      exact vL_holds_355 xs L b0 hgr k164 hk164 x1 x2 x3 x4 x5 x6 x7 x8 x9 x10 x11 x12 x13 x14 x15 x16 x19 x20 s0 x23 x24 x1 x6 0 cc ss M _ h
    · replace h := z_f c53 h
      refine zV_iconst (v := 1) dL_holds_350 (by decide) ?_
      refine zV_goto (tgt := 355) dL_holds_351 (by decide) ?_
      refine zV_pk [1, 2, 3, 4, 5, 6, 7, 8, 9, 10, 11, 12, 13, 14, 15, 16, 17, 18, 19, 0, 21, 22] rfl ?_
      exact vL_holds_355 xs L b0 hgr k164 hk164 x1 x2 x3 x4 x5 x6 x7 x8 x9 x10 x11 x12 x13 x14 x15 x16 x19 x20 s0 x23 x24 x1 x6 1 cc ss M _ h
set_option maxHeartbeats 4000000 in
set_option maxRecDepth 100000 in
theorem vL_holds_315 {l : Launch} {D : va_G} {T : Nat → ClassId} {b : Nat} {gr : Bool} {n0 : Nat} (xs : Nat → Int32) (L b0 : Nat) (hgr : gr = true) (k164 : Nat → Nat → Nat → Nat → Nat → Nat → Nat → Nat → Nat → Nat → Nat → Nat → Nat → Nat → Nat → Nat → Int32 → Int32 → Int32 → Nat → Nat → zM → Option (Int32 × zM)) (hk164 : ∀ (z1 : Nat) (z2 : Nat) (z3 : Nat) (z4 : Nat) (z5 : Nat) (z6 : Nat) (z7 : Nat) (z8 : Nat) (z9 : Nat) (z10 : Nat) (z11 : Nat) (z12 : Nat) (z13 : Nat) (z14 : Nat) (z15 : Nat) (z16 : Nat) (z17 : Int32) (z18 : Int32) (z19 : Int32) (cc ss : Nat) (N : zM) (o : Int32 × zM), k164 z1 z2 z3 z4 z5 z6 z7 z8 z9 z10 z11 z12 z13 z14 z15 z16 z17 z18 z19 cc ss N = some o → zV false l RL cL_holds 25 (some .boolean) false 125 519 20148 D T (zEs b0 L xs) b gr n0 (0, o.1, o.2) cc ss 164 [(0, .ref b0), (1, zr b z1), (2, zr b z2), (3, zr b z3), (4, zr b z4), (5, zr b z5), (6, zr b z6), (7, zr b z7), (8, zr b z8), (9, zr b z9), (10, zr b z10), (11, zr b z11), (12, zr b z12), (13, zr b z13), (14, zr b z14), (15, zr b z15), (16, zr b z16), (17, .int z17), (18, .int z18), (19, .int z19)] [] N) (x1 : Nat) (x2 : Nat) (x3 : Nat) (x4 : Nat) (x5 : Nat) (x6 : Nat) (x7 : Nat) (x8 : Nat) (x9 : Nat) (x10 : Nat) (x11 : Nat) (x12 : Nat) (x13 : Nat) (x14 : Nat) (x15 : Nat) (x16 : Nat) (x19 : Int32) (x20 : Int32) (x21 : Int32) (x22 : Int32) (x23 : Int32) (s0 : Int32) (cc ss : Nat) (M : zM) (o : Int32 × zM) (h : fL_holds_315 xs L k164 x1 x2 x3 x4 x5 x6 x7 x8 x9 x10 x11 x12 x13 x14 x15 x16 x19 x20 x21 x22 x23 s0 cc ss M = some o) : zV false l RL cL_holds 25 (some .boolean) false 125 519 20148 D T (zEs b0 L xs) b gr n0 (0, o.1, o.2) cc ss 315 [(0, .ref b0), (1, zr b x1), (2, zr b x2), (3, zr b x3), (4, zr b x4), (5, zr b x5), (6, zr b x6), (7, zr b x7), (8, zr b x8), (9, zr b x9), (10, zr b x10), (11, zr b x11), (12, zr b x12), (13, zr b x13), (14, zr b x14), (15, zr b x15), (16, zr b x16), (19, .int x19), (20, .int x20), (21, .int x21), (22, .int x22), (23, .int x23)] [.int s0] M := by
  unfold fL_holds_315 at h
  refine zV_istore [(24, .int s0), (0, .ref b0), (1, zr b x1), (2, zr b x2), (3, zr b x3), (4, zr b x4), (5, zr b x5), (6, zr b x6), (7, zr b x7), (8, zr b x8), (9, zr b x9), (10, zr b x10), (11, zr b x11), (12, zr b x12), (13, zr b x13), (14, zr b x14), (15, zr b x15), (16, zr b x16), (19, .int x19), (20, .int x20), (21, .int x21), (22, .int x22), (23, .int x23)] dL_holds_315 (by decide) rfl rfl ?_
  refine zV_iload (j := 0) dL_holds_317 rfl ?_
  refine zV_if_ge (tgt := 333) dL_holds_319 (by decide) (fun c54 => ?_) (fun c54 => ?_)
  · replace h := z_t c54 h
    refine zV_iload (j := 21) dL_holds_333 rfl ?_
    refine zV_pk [1, 2, 3, 4, 5, 6, 7, 8, 9, 10, 11, 12, 13, 14, 15, 16, 17, 18, 19, 20, 22, 0] rfl ?_
    exact vL_holds_335 xs L b0 hgr k164 hk164 x1 x2 x3 x4 x5 x6 x7 x8 x9 x10 x11 x12 x13 x14 x15 x16 x19 x20 x21 x23 s0 x22 cc ss M _ h
  · replace h := z_f c54 h
    refine zV_iload (j := 19) dL_holds_322 rfl ?_
    refine zV_aload (j := 7) dL_holds_324 rfl ?_
    refine zV_bipush (v := 20) dL_holds_326 (by decide) ?_
    obtain ⟨g55, h⟩ := zg_of h
    obtain ⟨g56, h⟩ := zg_of h
    refine zV_iald dL_holds_328 g55 g56 ?_
    obtain ⟨g57, h⟩ := zg_of h
    refine zV_irem dL_holds_329 g57 ?_
    refine zV_goto (tgt := 335) dL_holds_330 (by decide) ?_
    refine zV_pk [1, 2, 3, 4, 5, 6, 7, 8, 9, 10, 11, 12, 13, 14, 15, 16, 17, 18, 19, 20, 22, 0] rfl ?_
    exact vL_holds_335 xs L b0 hgr k164 hk164 x1 x2 x3 x4 x5 x6 x7 x8 x9 x10 x11 x12 x13 x14 x15 x16 x19 x20 x21 x23 s0 (zrem x20 (zI M x6 (20 : Int32).toNatClampNeg)) cc ss M _ h
set_option maxHeartbeats 4000000 in
set_option maxRecDepth 100000 in
theorem vL_holds_314 {l : Launch} {D : va_G} {T : Nat → ClassId} {b : Nat} {gr : Bool} {n0 : Nat} (xs : Nat → Int32) (L b0 : Nat) (hgr : gr = true) (k164 : Nat → Nat → Nat → Nat → Nat → Nat → Nat → Nat → Nat → Nat → Nat → Nat → Nat → Nat → Nat → Nat → Int32 → Int32 → Int32 → Nat → Nat → zM → Option (Int32 × zM)) (hk164 : ∀ (z1 : Nat) (z2 : Nat) (z3 : Nat) (z4 : Nat) (z5 : Nat) (z6 : Nat) (z7 : Nat) (z8 : Nat) (z9 : Nat) (z10 : Nat) (z11 : Nat) (z12 : Nat) (z13 : Nat) (z14 : Nat) (z15 : Nat) (z16 : Nat) (z17 : Int32) (z18 : Int32) (z19 : Int32) (cc ss : Nat) (N : zM) (o : Int32 × zM), k164 z1 z2 z3 z4 z5 z6 z7 z8 z9 z10 z11 z12 z13 z14 z15 z16 z17 z18 z19 cc ss N = some o → zV false l RL cL_holds 25 (some .boolean) false 125 519 20148 D T (zEs b0 L xs) b gr n0 (0, o.1, o.2) cc ss 164 [(0, .ref b0), (1, zr b z1), (2, zr b z2), (3, zr b z3), (4, zr b z4), (5, zr b z5), (6, zr b z6), (7, zr b z7), (8, zr b z8), (9, zr b z9), (10, zr b z10), (11, zr b z11), (12, zr b z12), (13, zr b z13), (14, zr b z14), (15, zr b z15), (16, zr b z16), (17, .int z17), (18, .int z18), (19, .int z19)] [] N) (x1 : Nat) (x2 : Nat) (x3 : Nat) (x4 : Nat) (x5 : Nat) (x6 : Nat) (x7 : Nat) (x8 : Nat) (x9 : Nat) (x10 : Nat) (x11 : Nat) (x12 : Nat) (x13 : Nat) (x14 : Nat) (x15 : Nat) (x16 : Nat) (x19 : Int32) (x20 : Int32) (x21 : Int32) (x22 : Int32) (x23 : Int32) (cc ss : Nat) (M : zM) (o : Int32 × zM) (h : fL_holds_314 xs L k164 x1 x2 x3 x4 x5 x6 x7 x8 x9 x10 x11 x12 x13 x14 x15 x16 x19 x20 x21 x22 x23 cc ss M = some o) : zV false l RL cL_holds 25 (some .boolean) false 125 519 20148 D T (zEs b0 L xs) b gr n0 (0, o.1, o.2) cc ss 314 [(0, .ref b0), (1, zr b x1), (2, zr b x2), (3, zr b x3), (4, zr b x4), (5, zr b x5), (6, zr b x6), (7, zr b x7), (8, zr b x8), (9, zr b x9), (10, zr b x10), (11, zr b x11), (12, zr b x12), (13, zr b x13), (14, zr b x14), (15, zr b x15), (16, zr b x16), (19, .int x19), (20, .int x20), (21, .int x21), (22, .int x22), (23, .int x23)] [] M := by
  unfold fL_holds_314 at h
  refine zV_iconst (v := 0) dL_holds_314 (by decide) ?_
  exact vL_holds_315 xs L b0 hgr k164 hk164 x1 x2 x3 x4 x5 x6 x7 x8 x9 x10 x11 x12 x13 x14 x15 x16 x19 x20 x21 x22 x23 0 cc ss M _ h
set_option maxHeartbeats 4000000 in
set_option maxRecDepth 100000 in
theorem vL_holds_288 {l : Launch} {D : va_G} {T : Nat → ClassId} {b : Nat} {gr : Bool} {n0 : Nat} (xs : Nat → Int32) (L b0 : Nat) (hgr : gr = true) (k164 : Nat → Nat → Nat → Nat → Nat → Nat → Nat → Nat → Nat → Nat → Nat → Nat → Nat → Nat → Nat → Nat → Int32 → Int32 → Int32 → Nat → Nat → zM → Option (Int32 × zM)) (hk164 : ∀ (z1 : Nat) (z2 : Nat) (z3 : Nat) (z4 : Nat) (z5 : Nat) (z6 : Nat) (z7 : Nat) (z8 : Nat) (z9 : Nat) (z10 : Nat) (z11 : Nat) (z12 : Nat) (z13 : Nat) (z14 : Nat) (z15 : Nat) (z16 : Nat) (z17 : Int32) (z18 : Int32) (z19 : Int32) (cc ss : Nat) (N : zM) (o : Int32 × zM), k164 z1 z2 z3 z4 z5 z6 z7 z8 z9 z10 z11 z12 z13 z14 z15 z16 z17 z18 z19 cc ss N = some o → zV false l RL cL_holds 25 (some .boolean) false 125 519 20148 D T (zEs b0 L xs) b gr n0 (0, o.1, o.2) cc ss 164 [(0, .ref b0), (1, zr b z1), (2, zr b z2), (3, zr b z3), (4, zr b z4), (5, zr b z5), (6, zr b z6), (7, zr b z7), (8, zr b z8), (9, zr b z9), (10, zr b z10), (11, zr b z11), (12, zr b z12), (13, zr b z13), (14, zr b z14), (15, zr b z15), (16, zr b z16), (17, .int z17), (18, .int z18), (19, .int z19)] [] N) (x1 : Nat) (x2 : Nat) (x3 : Nat) (x4 : Nat) (x5 : Nat) (x6 : Nat) (x7 : Nat) (x8 : Nat) (x9 : Nat) (x10 : Nat) (x11 : Nat) (x12 : Nat) (x13 : Nat) (x14 : Nat) (x15 : Nat) (x16 : Nat) (x19 : Int32) (x20 : Int32) (x21 : Int32) (x22 : Int32) (x23 : Int32) (cc ss : Nat) (M : zM) (o : Int32 × zM) (h : fL_holds_288 xs L k164 x1 x2 x3 x4 x5 x6 x7 x8 x9 x10 x11 x12 x13 x14 x15 x16 x19 x20 x21 x22 x23 cc ss M = some o) : zV false l RL cL_holds 25 (some .boolean) false 125 519 20148 D T (zEs b0 L xs) b gr n0 (0, o.1, o.2) cc ss 288 [(0, .ref b0), (1, zr b x1), (2, zr b x2), (3, zr b x3), (4, zr b x4), (5, zr b x5), (6, zr b x6), (7, zr b x7), (8, zr b x8), (9, zr b x9), (10, zr b x10), (11, zr b x11), (12, zr b x12), (13, zr b x13), (14, zr b x14), (15, zr b x15), (16, zr b x16), (19, .int x19), (20, .int x20), (21, .int x21), (22, .int x22), (23, .int x23)] [] M := by
  unfold fL_holds_288 at h
  refine zV_iload (j := 19) dL_holds_288 rfl ?_
  refine zV_bipush (v := 8) dL_holds_290 (by decide) ?_
  refine zV_icmp_le (tgt := 314) dL_holds_292 (by decide) (fun c58 => ?_) (fun c58 => ?_)
  · replace h := z_t c58 h
    exact vL_holds_314 xs L b0 hgr k164 hk164 x1 x2 x3 x4 x5 x6 x7 x8 x9 x10 x11 x12 x13 x14 x15 x16 x19 x20 x21 x22 x23 cc ss M _ h
  · replace h := z_f c58 h
    refine zV_iload (j := 19) dL_holds_295 rfl ?_
    refine zV_bipush (v := 27) dL_holds_297 (by decide) ?_
    refine zV_icmp_ge (tgt := 314) dL_holds_299 (by decide) (fun c59 => ?_) (fun c59 => ?_)
    · replace h := z_t c59 h
      exact vL_holds_314 xs L b0 hgr k164 hk164 x1 x2 x3 x4 x5 x6 x7 x8 x9 x10 x11 x12 x13 x14 x15 x16 x19 x20 x21 x22 x23 cc ss M _ h
    · replace h := z_f c59 h
      refine zV_aload (j := 6) dL_holds_302 rfl ?_
      refine zV_bipush (v := 20) dL_holds_304 (by decide) ?_
      obtain ⟨g60, h⟩ := zg_of h
      obtain ⟨g61, h⟩ := zg_of h
      refine zV_iald dL_holds_306 g60 g61 ?_
      refine zV_if_le (tgt := 314) dL_holds_307 (by decide) (fun c62 => ?_) (fun c62 => ?_)
      · replace h := z_t c62 h
        exact vL_holds_314 xs L b0 hgr k164 hk164 x1 x2 x3 x4 x5 x6 x7 x8 x9 x10 x11 x12 x13 x14 x15 x16 x19 x20 x21 x22 x23 cc ss M _ h
      · replace h := z_f c62 h
        refine zV_iconst (v := (-1)) dL_holds_310 (by decide) ?_
        refine zV_goto (tgt := 315) dL_holds_311 (by decide) ?_
        exact vL_holds_315 xs L b0 hgr k164 hk164 x1 x2 x3 x4 x5 x6 x7 x8 x9 x10 x11 x12 x13 x14 x15 x16 x19 x20 x21 x22 x23 (-1) cc ss M _ h
set_option maxHeartbeats 4000000 in
set_option maxRecDepth 100000 in
theorem vL_holds_256 {l : Launch} {D : va_G} {T : Nat → ClassId} {b : Nat} {gr : Bool} {n0 : Nat} (xs : Nat → Int32) (L b0 : Nat) (hgr : gr = true) (k164 : Nat → Nat → Nat → Nat → Nat → Nat → Nat → Nat → Nat → Nat → Nat → Nat → Nat → Nat → Nat → Nat → Int32 → Int32 → Int32 → Nat → Nat → zM → Option (Int32 × zM)) (hk164 : ∀ (z1 : Nat) (z2 : Nat) (z3 : Nat) (z4 : Nat) (z5 : Nat) (z6 : Nat) (z7 : Nat) (z8 : Nat) (z9 : Nat) (z10 : Nat) (z11 : Nat) (z12 : Nat) (z13 : Nat) (z14 : Nat) (z15 : Nat) (z16 : Nat) (z17 : Int32) (z18 : Int32) (z19 : Int32) (cc ss : Nat) (N : zM) (o : Int32 × zM), k164 z1 z2 z3 z4 z5 z6 z7 z8 z9 z10 z11 z12 z13 z14 z15 z16 z17 z18 z19 cc ss N = some o → zV false l RL cL_holds 25 (some .boolean) false 125 519 20148 D T (zEs b0 L xs) b gr n0 (0, o.1, o.2) cc ss 164 [(0, .ref b0), (1, zr b z1), (2, zr b z2), (3, zr b z3), (4, zr b z4), (5, zr b z5), (6, zr b z6), (7, zr b z7), (8, zr b z8), (9, zr b z9), (10, zr b z10), (11, zr b z11), (12, zr b z12), (13, zr b z13), (14, zr b z14), (15, zr b z15), (16, zr b z16), (17, .int z17), (18, .int z18), (19, .int z19)] [] N) (x1 : Nat) (x2 : Nat) (x3 : Nat) (x4 : Nat) (x5 : Nat) (x6 : Nat) (x7 : Nat) (x8 : Nat) (x9 : Nat) (x10 : Nat) (x11 : Nat) (x12 : Nat) (x13 : Nat) (x14 : Nat) (x15 : Nat) (x16 : Nat) (x18 : Int32) (x19 : Int32) (x20 : Int32) (x21 : Int32) (x22 : Int32) (cc ss : Nat) (M : zM) (o : Int32 × zM) (h : fL_holds_256 xs L k164 x1 x2 x3 x4 x5 x6 x7 x8 x9 x10 x11 x12 x13 x14 x15 x16 x18 x19 x20 x21 x22 cc ss M = some o) : zV false l RL cL_holds 25 (some .boolean) false 125 519 20148 D T (zEs b0 L xs) b gr n0 (0, o.1, o.2) cc ss 256 [(0, .ref b0), (1, zr b x1), (2, zr b x2), (3, zr b x3), (4, zr b x4), (5, zr b x5), (6, zr b x6), (7, zr b x7), (8, zr b x8), (9, zr b x9), (10, zr b x10), (11, zr b x11), (12, zr b x12), (13, zr b x13), (14, zr b x14), (15, zr b x15), (16, zr b x16), (18, .int x18), (19, .int x19), (20, .int x20), (21, .int x21), (22, .int x22)] [] M := by
  unfold fL_holds_256 at h
  refine zV_iload (j := 17) dL_holds_256 rfl ?_
  refine zV_istore [(23, .int x18), (0, .ref b0), (1, zr b x1), (2, zr b x2), (3, zr b x3), (4, zr b x4), (5, zr b x5), (6, zr b x6), (7, zr b x7), (8, zr b x8), (9, zr b x9), (10, zr b x10), (11, zr b x11), (12, zr b x12), (13, zr b x13), (14, zr b x14), (15, zr b x15), (16, zr b x16), (18, .int x18), (19, .int x19), (20, .int x20), (21, .int x21), (22, .int x22)] dL_holds_258 (by decide) rfl rfl ?_
  refine zV_iload (j := 21) dL_holds_260 rfl ?_
  refine zV_bipush (v := 8) dL_holds_262 (by decide) ?_
  refine zV_icmp_le (tgt := 288) dL_holds_264 (by decide) (fun c63 => ?_) (fun c63 => ?_)
  · replace h := z_t c63 h
    refine zV_pk [1, 2, 3, 4, 5, 6, 7, 8, 9, 10, 11, 12, 13, 14, 15, 16, 17, 19, 20, 21, 22, 0] rfl ?_
    exact vL_holds_288 xs L b0 hgr k164 hk164 x1 x2 x3 x4 x5 x6 x7 x8 x9 x10 x11 x12 x13 x14 x15 x16 x19 x20 x21 x22 x18 cc ss M _ h
  · replace h := z_f c63 h
    refine zV_aload (j := 7) dL_holds_267 rfl ?_
    refine zV_bipush (v := 20) dL_holds_269 (by decide) ?_
    obtain ⟨g64, h⟩ := zg_of h
    obtain ⟨g65, h⟩ := zg_of h
    refine zV_iald dL_holds_271 g64 g65 ?_
    refine zV_bipush (v := 18) dL_holds_272 (by decide) ?_
    refine zV_icmp_ge (tgt := 288) dL_holds_274 (by decide) (fun c66 => ?_) (fun c66 => ?_)
    · replace h := z_t c66 h
      refine zV_pk [1, 2, 3, 4, 5, 6, 7, 8, 9, 10, 11, 12, 13, 14, 15, 16, 17, 19, 20, 21, 22, 0] rfl ?_
      exact vL_holds_288 xs L b0 hgr k164 hk164 x1 x2 x3 x4 x5 x6 x7 x8 x9 x10 x11 x12 x13 x14 x15 x16 x19 x20 x21 x22 x18 cc ss M _ h
    · replace h := z_f c66 h
      refine zV_iload (j := 21) dL_holds_277 rfl ?_
      refine zV_bipush (v := 24) dL_holds_279 (by decide) ?_
      refine zV_icmp_ge (tgt := 288) dL_holds_281 (by decide) (fun c67 => ?_) (fun c67 => ?_)
      · replace h := z_t c67 h
        refine zV_pk [1, 2, 3, 4, 5, 6, 7, 8, 9, 10, 11, 12, 13, 14, 15, 16, 17, 19, 20, 21, 22, 0] rfl ?_
        exact vL_holds_288 xs L b0 hgr k164 hk164 x1 x2 x3 x4 x5 x6 x7 x8 x9 x10 x11 x12 x13 x14 x15 x16 x19 x20 x21 x22 x18 cc ss M _ h
      · replace h := z_f c67 h
        refine zV_iconst (v := 1) dL_holds_284 (by decide) ?_
        refine zV_goto (tgt := 315) dL_holds_285 (by decide) ?_
        refine zV_pk [1, 2, 3, 4, 5, 6, 7, 8, 9, 10, 11, 12, 13, 14, 15, 16, 17, 19, 20, 21, 22, 0] rfl ?_
        exact vL_holds_315 xs L b0 hgr k164 hk164 x1 x2 x3 x4 x5 x6 x7 x8 x9 x10 x11 x12 x13 x14 x15 x16 x19 x20 x21 x22 x18 1 cc ss M _ h
set_option maxHeartbeats 4000000 in
set_option maxRecDepth 100000 in
theorem vL_holds_233 {l : Launch} {D : va_G} {T : Nat → ClassId} {b : Nat} {gr : Bool} {n0 : Nat} (xs : Nat → Int32) (L b0 : Nat) (hgr : gr = true) (k164 : Nat → Nat → Nat → Nat → Nat → Nat → Nat → Nat → Nat → Nat → Nat → Nat → Nat → Nat → Nat → Nat → Int32 → Int32 → Int32 → Nat → Nat → zM → Option (Int32 × zM)) (hk164 : ∀ (z1 : Nat) (z2 : Nat) (z3 : Nat) (z4 : Nat) (z5 : Nat) (z6 : Nat) (z7 : Nat) (z8 : Nat) (z9 : Nat) (z10 : Nat) (z11 : Nat) (z12 : Nat) (z13 : Nat) (z14 : Nat) (z15 : Nat) (z16 : Nat) (z17 : Int32) (z18 : Int32) (z19 : Int32) (cc ss : Nat) (N : zM) (o : Int32 × zM), k164 z1 z2 z3 z4 z5 z6 z7 z8 z9 z10 z11 z12 z13 z14 z15 z16 z17 z18 z19 cc ss N = some o → zV false l RL cL_holds 25 (some .boolean) false 125 519 20148 D T (zEs b0 L xs) b gr n0 (0, o.1, o.2) cc ss 164 [(0, .ref b0), (1, zr b z1), (2, zr b z2), (3, zr b z3), (4, zr b z4), (5, zr b z5), (6, zr b z6), (7, zr b z7), (8, zr b z8), (9, zr b z9), (10, zr b z10), (11, zr b z11), (12, zr b z12), (13, zr b z13), (14, zr b z14), (15, zr b z15), (16, zr b z16), (17, .int z17), (18, .int z18), (19, .int z19)] [] N) : ∀ (n : Nat) (x1 : Nat) (x2 : Nat) (x3 : Nat) (x4 : Nat) (x5 : Nat) (x6 : Nat) (x7 : Nat) (x8 : Nat) (x9 : Nat) (x10 : Nat) (x11 : Nat) (x12 : Nat) (x13 : Nat) (x14 : Nat) (x15 : Nat) (x16 : Nat) (x18 : Int32) (x19 : Int32) (x20 : Int32) (x21 : Int32) (x22 : Int32) (x23 : Int32) (cc ss : Nat) (M : zM) (o : Int32 × zM), fL_holds_233 xs L k164 n x1 x2 x3 x4 x5 x6 x7 x8 x9 x10 x11 x12 x13 x14 x15 x16 x18 x19 x20 x21 x22 x23 cc ss M = some o → zV false l RL cL_holds 25 (some .boolean) false 125 519 20148 D T (zEs b0 L xs) b gr n0 (0, o.1, o.2) cc ss 233 [(0, .ref b0), (1, zr b x1), (2, zr b x2), (3, zr b x3), (4, zr b x4), (5, zr b x5), (6, zr b x6), (7, zr b x7), (8, zr b x8), (9, zr b x9), (10, zr b x10), (11, zr b x11), (12, zr b x12), (13, zr b x13), (14, zr b x14), (15, zr b x15), (16, zr b x16), (18, .int x18), (19, .int x19), (20, .int x20), (21, .int x21), (22, .int x22), (23, .int x23)] [] M := by
  intro n
  induction n with
  | zero =>
    intro x1 x2 x3 x4 x5 x6 x7 x8 x9 x10 x11 x12 x13 x14 x15 x16 x18 x19 x20 x21 x22 x23 cc ss M o h
    rw [fL_holds_233] at h
    cases h
  | succ n ih =>
    intro x1 x2 x3 x4 x5 x6 x7 x8 x9 x10 x11 x12 x13 x14 x15 x16 x18 x19 x20 x21 x22 x23 cc ss M o h
    rw [fL_holds_233] at h
    refine zV_iload (j := 22) dL_holds_233 rfl ?_
    refine zV_bipush (v := 48) dL_holds_235 (by decide) ?_
    refine zV_icmp_ge (tgt := 256) dL_holds_237 (by decide) (fun c68 => ?_) (fun c68 => ?_)
    · replace h := z_t c68 h
      refine zV_pk [0, 1, 2, 3, 4, 5, 6, 7, 8, 9, 10, 11, 12, 13, 14, 15, 16, 17, 18, 19, 20, 21] rfl ?_
      exact vL_holds_256 xs L b0 hgr k164 hk164 x1 x2 x3 x4 x5 x6 x7 x8 x9 x10 x11 x12 x13 x14 x15 x16 x18 x19 x20 x21 x22 cc ss M _ h
    · replace h := z_f c68 h
      refine zV_aload (j := 16) dL_holds_240 rfl ?_
      refine zV_iload (j := 22) dL_holds_242 rfl ?_
      refine zV_aload (j := 15) dL_holds_244 rfl ?_
      refine zV_iload (j := 22) dL_holds_246 rfl ?_
      obtain ⟨g69, h⟩ := zg_of h
      obtain ⟨g70, h⟩ := zg_of h
      refine zV_lald dL_holds_248 g69 g70 ?_
      obtain ⟨g71, h⟩ := zg_of h
      obtain ⟨g72, h⟩ := zg_of h
      refine zV_last dL_holds_249 g71 g72 ?_
      refine zV_mem (fun M73 e74 => ?_)
      replace h := zlet_of h e74
      obtain ⟨u75, e76⟩ : ∃ y : Int32, y = x23 + 1 := ⟨_, rfl⟩
      replace h := zlet_of h e76
      refine zV_iinc (j := 22) (v := u75) [(23, .int u75), (0, .ref b0), (1, zr b x1), (2, zr b x2), (3, zr b x3), (4, zr b x4), (5, zr b x5), (6, zr b x6), (7, zr b x7), (8, zr b x8), (9, zr b x9), (10, zr b x10), (11, zr b x11), (12, zr b x12), (13, zr b x13), (14, zr b x14), (15, zr b x15), (16, zr b x16), (18, .int x18), (19, .int x19), (20, .int x20), (21, .int x21), (22, .int x22)] dL_holds_250 rfl (by rw [e76]; rfl) (by decide) rfl rfl ?_
      refine zV_goto (tgt := 233) dL_holds_253 (by decide) ?_
      refine zV_pk [1, 2, 3, 4, 5, 6, 7, 8, 9, 10, 11, 12, 13, 14, 15, 16, 17, 18, 19, 20, 21, 22, 0] rfl ?_
      exact ih x1 x2 x3 x4 x5 x6 x7 x8 x9 x10 x11 x12 x13 x14 x15 x16 x18 x19 x20 x21 x22 u75 cc ss M73 _ h
set_option maxHeartbeats 4000000 in
set_option maxRecDepth 100000 in
theorem vL_holds_216 {l : Launch} {D : va_G} {T : Nat → ClassId} {b : Nat} {gr : Bool} {n0 : Nat} (xs : Nat → Int32) (L b0 : Nat) (hgr : gr = true) (k164 : Nat → Nat → Nat → Nat → Nat → Nat → Nat → Nat → Nat → Nat → Nat → Nat → Nat → Nat → Nat → Nat → Int32 → Int32 → Int32 → Nat → Nat → zM → Option (Int32 × zM)) (hk164 : ∀ (z1 : Nat) (z2 : Nat) (z3 : Nat) (z4 : Nat) (z5 : Nat) (z6 : Nat) (z7 : Nat) (z8 : Nat) (z9 : Nat) (z10 : Nat) (z11 : Nat) (z12 : Nat) (z13 : Nat) (z14 : Nat) (z15 : Nat) (z16 : Nat) (z17 : Int32) (z18 : Int32) (z19 : Int32) (cc ss : Nat) (N : zM) (o : Int32 × zM), k164 z1 z2 z3 z4 z5 z6 z7 z8 z9 z10 z11 z12 z13 z14 z15 z16 z17 z18 z19 cc ss N = some o → zV false l RL cL_holds 25 (some .boolean) false 125 519 20148 D T (zEs b0 L xs) b gr n0 (0, o.1, o.2) cc ss 164 [(0, .ref b0), (1, zr b z1), (2, zr b z2), (3, zr b z3), (4, zr b z4), (5, zr b z5), (6, zr b z6), (7, zr b z7), (8, zr b z8), (9, zr b z9), (10, zr b z10), (11, zr b z11), (12, zr b z12), (13, zr b z13), (14, zr b z14), (15, zr b z15), (16, zr b z16), (17, .int z17), (18, .int z18), (19, .int z19)] [] N) (x1 : Nat) (x2 : Nat) (x3 : Nat) (x4 : Nat) (x5 : Nat) (x6 : Nat) (x7 : Nat) (x8 : Nat) (x9 : Nat) (x10 : Nat) (x11 : Nat) (x12 : Nat) (x13 : Nat) (x14 : Nat) (x15 : Nat) (x16 : Nat) (x18 : Int32) (x19 : Int32) (x20 : Int32) (s0 : Int32) (cc ss : Nat) (M : zM) (o : Int32 × zM) (h : fL_holds_216 xs L k164 x1 x2 x3 x4 x5 x6 x7 x8 x9 x10 x11 x12 x13 x14 x15 x16 x18 x19 x20 s0 cc ss M = some o) : zV false l RL cL_holds 25 (some .boolean) false 125 519 20148 D T (zEs b0 L xs) b gr n0 (0, o.1, o.2) cc ss 216 [(0, .ref b0), (1, zr b x1), (2, zr b x2), (3, zr b x3), (4, zr b x4), (5, zr b x5), (6, zr b x6), (7, zr b x7), (8, zr b x8), (9, zr b x9), (10, zr b x10), (11, zr b x11), (12, zr b x12), (13, zr b x13), (14, zr b x14), (15, zr b x15), (16, zr b x16), (18, .int x18), (19, .int x19), (20, .int x20)] [.int s0] M := by
  unfold fL_holds_216 at h
  refine zV_istore [(21, .int s0), (0, .ref b0), (1, zr b x1), (2, zr b x2), (3, zr b x3), (4, zr b x4), (5, zr b x5), (6, zr b x6), (7, zr b x7), (8, zr b x8), (9, zr b x9), (10, zr b x10), (11, zr b x11), (12, zr b x12), (13, zr b x13), (14, zr b x14), (15, zr b x15), (16, zr b x16), (18, .int x18), (19, .int x19), (20, .int x20)] dL_holds_216 (by decide) rfl rfl ?_
  refine zV_iload (j := 20) dL_holds_218 rfl ?_
  refine zV_aload (j := 7) dL_holds_220 rfl ?_
  refine zV_bipush (v := 20) dL_holds_222 (by decide) ?_
  obtain ⟨g77, h⟩ := zg_of h
  obtain ⟨g78, h⟩ := zg_of h
  refine zV_iald dL_holds_224 g77 g78 ?_
  refine zV_iconst (v := 1) dL_holds_225 (by decide) ?_
  refine zV_iadd dL_holds_226 ?_
  obtain ⟨g79, h⟩ := zg_of h
  refine zV_irem dL_holds_227 g79 ?_
  refine zV_top (fun u80 e81 => ?_)
  replace h := zlet_of h e81
  refine zV_istore [(22, .int u80), (21, .int s0), (0, .ref b0), (1, zr b x1), (2, zr b x2), (3, zr b x3), (4, zr b x4), (5, zr b x5), (6, zr b x6), (7, zr b x7), (8, zr b x8), (9, zr b x9), (10, zr b x10), (11, zr b x11), (12, zr b x12), (13, zr b x13), (14, zr b x14), (15, zr b x15), (16, zr b x16), (18, .int x18), (19, .int x19), (20, .int x20)] dL_holds_228 (by decide) rfl rfl ?_
  refine zV_iconst (v := 0) dL_holds_230 (by decide) ?_
  refine zV_istore [(23, .int 0), (22, .int u80), (21, .int s0), (0, .ref b0), (1, zr b x1), (2, zr b x2), (3, zr b x3), (4, zr b x4), (5, zr b x5), (6, zr b x6), (7, zr b x7), (8, zr b x8), (9, zr b x9), (10, zr b x10), (11, zr b x11), (12, zr b x12), (13, zr b x13), (14, zr b x14), (15, zr b x15), (16, zr b x16), (18, .int x18), (19, .int x19), (20, .int x20)] dL_holds_231 (by decide) rfl rfl ?_
  refine zV_pk [3, 4, 5, 6, 7, 8, 9, 10, 11, 12, 13, 14, 15, 16, 17, 18, 19, 20, 21, 22, 2, 1, 0] rfl ?_
  exact vL_holds_233 xs L b0 hgr k164 hk164 10000 x1 x2 x3 x4 x5 x6 x7 x8 x9 x10 x11 x12 x13 x14 x15 x16 x18 x19 x20 s0 u80 0 cc ss M _ h
set_option maxHeartbeats 4000000 in
set_option maxRecDepth 100000 in
theorem vL_holds_164 {l : Launch} {D : va_G} {T : Nat → ClassId} {b : Nat} {gr : Bool} {n0 : Nat} (xs : Nat → Int32) (L b0 : Nat) (hgr : gr = true) : ∀ (n : Nat) (x1 : Nat) (x2 : Nat) (x3 : Nat) (x4 : Nat) (x5 : Nat) (x6 : Nat) (x7 : Nat) (x8 : Nat) (x9 : Nat) (x10 : Nat) (x11 : Nat) (x12 : Nat) (x13 : Nat) (x14 : Nat) (x15 : Nat) (x16 : Nat) (x17 : Int32) (x18 : Int32) (x19 : Int32) (cc ss : Nat) (M : zM) (o : Int32 × zM), fL_holds_164 xs L n x1 x2 x3 x4 x5 x6 x7 x8 x9 x10 x11 x12 x13 x14 x15 x16 x17 x18 x19 cc ss M = some o → zV false l RL cL_holds 25 (some .boolean) false 125 519 20148 D T (zEs b0 L xs) b gr n0 (0, o.1, o.2) cc ss 164 [(0, .ref b0), (1, zr b x1), (2, zr b x2), (3, zr b x3), (4, zr b x4), (5, zr b x5), (6, zr b x6), (7, zr b x7), (8, zr b x8), (9, zr b x9), (10, zr b x10), (11, zr b x11), (12, zr b x12), (13, zr b x13), (14, zr b x14), (15, zr b x15), (16, zr b x16), (17, .int x17), (18, .int x18), (19, .int x19)] [] M := by
  intro n
  induction n with
  | zero =>
    intro x1 x2 x3 x4 x5 x6 x7 x8 x9 x10 x11 x12 x13 x14 x15 x16 x17 x18 x19 cc ss M o h
    rw [fL_holds_164] at h
    cases h
  | succ n ih =>
    intro x1 x2 x3 x4 x5 x6 x7 x8 x9 x10 x11 x12 x13 x14 x15 x16 x17 x18 x19 cc ss M o h
    rw [fL_holds_164] at h
    refine zV_iload (j := 19) dL_holds_164 rfl ?_
    refine zV_bipush (v := 90) dL_holds_166 (by decide) ?_
    refine zV_icmp_ge (tgt := 580) dL_holds_168 (by decide) (fun c82 => ?_) (fun c82 => ?_)
    · replace h := z_t c82 h
      refine zV_iload (j := 17) dL_holds_580 rfl ?_
      obtain ⟨g83, h⟩ := zg_of h
      obtain ⟨g84, h⟩ := zg_of h
      exact zV_zret rfl dL_holds_582 g84.1 g84.2 g83 (z_ret h)
    · replace h := z_f c82 h
      refine zV_iload (j := 17) dL_holds_171 rfl ?_
      refine zV_if_eq (tgt := 580) dL_holds_173 (by decide) (fun c85 => ?_) (fun c85 => ?_)
      · replace h := z_t c85 h
        refine zV_iload (j := 17) dL_holds_580 rfl ?_
        obtain ⟨g86, h⟩ := zg_of h
        obtain ⟨g87, h⟩ := zg_of h
        exact zV_zret rfl dL_holds_582 g87.1 g87.2 g86 (z_ret h)
      · replace h := z_f c85 h
        refine zV_sload_n (j := 0) dL_holds_176 rfl rfl ?_
        refine zV_iconst (v := 2) dL_holds_177 (by decide) ?_
        refine zV_iload (j := 19) dL_holds_178 rfl ?_
        refine zV_imul dL_holds_180 ?_
        refine zV_iconst (v := 1) dL_holds_181 (by decide) ?_
        refine zV_iadd dL_holds_182 ?_
        refine zV_ldc (v := 100000000) dL_holds_183 zd_RL_182 ?_
        obtain ⟨g91, h⟩ := zg_of h
        obtain ⟨r88, M89, q90, h⟩ := zb_of h
        refine zV_callF rfl hgr (As := [.ref b0, .int ((2 * x19) + 1), .int 100000000]) (rest := []) (vL_from l D T b gr xs L b0 ((2 * x19) + 1) 100000000 M _ _ q90) zm_yL_from zl_RL_183 zs_yL_from rfl rfl (zcs trivial (Nat.le_of_ble_eq_true rfl)) (by decide) g91.1 g91.2 dL_holds_185 ?_
        refine zV_istore [(20, .int r88), (0, .ref b0), (1, zr b x1), (2, zr b x2), (3, zr b x3), (4, zr b x4), (5, zr b x5), (6, zr b x6), (7, zr b x7), (8, zr b x8), (9, zr b x9), (10, zr b x10), (11, zr b x11), (12, zr b x12), (13, zr b x13), (14, zr b x14), (15, zr b x15), (16, zr b x16), (17, .int x17), (18, .int x18), (19, .int x19)] dL_holds_188 (by decide) rfl rfl ?_
        refine zV_iload (j := 20) dL_holds_190 rfl ?_
        refine zV_bipush (v := 14) dL_holds_192 (by decide) ?_
        refine zV_icmp_ge (tgt := 206) dL_holds_194 (by decide) (fun c92 => ?_) (fun c92 => ?_)
        · replace h := z_t c92 h
          refine zV_sload_n (j := 1) dL_holds_206 rfl rfl ?_
          refine zV_iconst (v := 2) dL_holds_207 (by decide) ?_
          refine zV_iload (j := 20) dL_holds_208 rfl ?_
          refine zV_imul dL_holds_210 ?_
          refine zV_bipush (v := 30) dL_holds_211 (by decide) ?_
          obtain ⟨g96, h⟩ := zg_of h
          obtain ⟨r93, M94, q95, h⟩ := zb_of h
          refine zV_callF rfl hgr (As := [.ref b0, .int (2 * x19), .int 30]) (rest := []) (vL_from l D T b gr xs L b0 (2 * x19) 30 M89 _ _ q95) zm_yL_from zl_RL_183 zs_yL_from rfl rfl (zcs trivial (Nat.le_of_ble_eq_true rfl)) (by decide) g96.1 g96.2 dL_holds_213 ?_
          refine zV_pk [1, 2, 3, 4, 5, 6, 7, 8, 9, 10, 11, 12, 13, 14, 15, 16, 17, 19, 20, 0] rfl ?_
          exact vL_holds_216 xs L b0 hgr (fL_holds_164 xs L n) ih x1 x2 x3 x4 x5 x6 x7 x8 x9 x10 x11 x12 x13 x14 x15 x16 x18 x19 r88 r93 cc ss M94 _ h
        · replace h := z_f c92 h
          refine zV_iconst (v := 3) dL_holds_197 (by decide) ?_
          refine zV_iload (j := 20) dL_holds_198 rfl ?_
          refine zV_iconst (v := 2) dL_holds_200 (by decide) ?_
          refine zV_irem dL_holds_201 (by decide) ?_
          refine zV_iadd dL_holds_202 ?_
          refine zV_goto (tgt := 216) dL_holds_203 (by decide) ?_
          refine zV_pk [1, 2, 3, 4, 5, 6, 7, 8, 9, 10, 11, 12, 13, 14, 15, 16, 17, 19, 20, 0] rfl ?_
          exact vL_holds_216 xs L b0 hgr (fL_holds_164 xs L n) ih x1 x2 x3 x4 x5 x6 x7 x8 x9 x10 x11 x12 x13 x14 x15 x16 x18 x19 r88 (3 + (zrem x19 2)) cc ss M89 _ h
set_option maxHeartbeats 4000000 in
set_option maxRecDepth 100000 in
theorem vL_holds_127 {l : Launch} {D : va_G} {T : Nat → ClassId} {b : Nat} {gr : Bool} {n0 : Nat} (xs : Nat → Int32) (L b0 : Nat) (hgr : gr = true) (x1 : Nat) (x2 : Nat) (x3 : Nat) (x4 : Nat) (x5 : Nat) (x6 : Nat) (x7 : Nat) (x8 : Nat) (x9 : Nat) (x10 : Nat) (x11 : Nat) (x12 : Nat) (x13 : Nat) (x14 : Nat) (x15 : Nat) (x16 : Nat) (s0 : Int32) (cc ss : Nat) (M : zM) (o : Int32 × zM) (h : fL_holds_127 xs L x1 x2 x3 x4 x5 x6 x7 x8 x9 x10 x11 x12 x13 x14 x15 x16 s0 cc ss M = some o) : zV false l RL cL_holds 25 (some .boolean) false 125 519 20148 D T (zEs b0 L xs) b gr n0 (0, o.1, o.2) cc ss 127 [(0, .ref b0), (1, zr b x1), (2, zr b x2), (3, zr b x3), (4, zr b x4), (5, zr b x5), (6, zr b x6), (7, zr b x7), (8, zr b x8), (9, zr b x9), (10, zr b x10), (11, zr b x11), (12, zr b x12), (13, zr b x13), (14, zr b x14), (15, zr b x15), (16, zr b x16)] [.int s0] M := by
  unfold fL_holds_127 at h
  refine zV_istore [(17, .int s0), (0, .ref b0), (1, zr b x1), (2, zr b x2), (3, zr b x3), (4, zr b x4), (5, zr b x5), (6, zr b x6), (7, zr b x7), (8, zr b x8), (9, zr b x9), (10, zr b x10), (11, zr b x11), (12, zr b x12), (13, zr b x13), (14, zr b x14), (15, zr b x15), (16, zr b x16)] dL_holds_127 (by decide) rfl rfl ?_
  refine zV_iconst (v := 1) dL_holds_129 (by decide) ?_
  refine zV_istore [(18, .int 1), (17, .int s0), (0, .ref b0), (1, zr b x1), (2, zr b x2), (3, zr b x3), (4, zr b x4), (5, zr b x5), (6, zr b x6), (7, zr b x7), (8, zr b x8), (9, zr b x9), (10, zr b x10), (11, zr b x11), (12, zr b x12), (13, zr b x13), (14, zr b x14), (15, zr b x15), (16, zr b x16)] dL_holds_130 (by decide) rfl rfl ?_
  refine zV_aload_n (j := 4) dL_holds_132 rfl rfl ?_
  refine zV_aload_n (j := 5) dL_holds_133 rfl rfl ?_
  refine zV_aload (j := 6) dL_holds_134 rfl ?_
  refine zV_aload (j := 7) dL_holds_136 rfl ?_
  refine zV_aload (j := 8) dL_holds_138 rfl ?_
  refine zV_aload (j := 9) dL_holds_140 rfl ?_
  refine zV_aload (j := 10) dL_holds_142 rfl ?_
  refine zV_aload (j := 11) dL_holds_144 rfl ?_
  refine zV_aload (j := 12) dL_holds_146 rfl ?_
  refine zV_aload (j := 13) dL_holds_148 rfl ?_
  refine zV_aload (j := 14) dL_holds_150 rfl ?_
  refine zV_aload (j := 15) dL_holds_152 rfl ?_
  refine zV_aload (j := 16) dL_holds_154 rfl ?_
  refine zV_aload (j := 17) dL_holds_156 rfl ?_
  obtain ⟨g100, h⟩ := zg_of h
  obtain ⟨r97, M98, q99, h⟩ := zb_of h
  refine zV_callSv (As := [zr b x2, zr b x3, zr b x4, zr b x5, zr b x6, zr b x7, zr b x8, zr b x9, zr b x10, zr b x11, zr b x12, zr b x13, zr b x14, zr b x15]) (rest := []) (vL_reads l D T b gr x2 x3 x4 x5 x6 x7 x8 x9 x10 x11 x12 x13 x14 x15 M _ _ q99) zm_yL_reads zl_RL_178 zs_yL_reads rfl rfl (zcs trivial (Nat.le_of_ble_eq_true rfl)) (by decide) g100.1 g100.2 dL_holds_158 ?_
  refine zV_iconst (v := 0) dL_holds_161 (by decide) ?_
  refine zV_istore [(19, .int 0), (18, .int 1), (17, .int s0), (0, .ref b0), (1, zr b x1), (2, zr b x2), (3, zr b x3), (4, zr b x4), (5, zr b x5), (6, zr b x6), (7, zr b x7), (8, zr b x8), (9, zr b x9), (10, zr b x10), (11, zr b x11), (12, zr b x12), (13, zr b x13), (14, zr b x14), (15, zr b x15), (16, zr b x16)] dL_holds_162 (by decide) rfl rfl ?_
  refine zV_pk [3, 4, 5, 6, 7, 8, 9, 10, 11, 12, 13, 14, 15, 16, 17, 18, 19, 2, 1, 0] rfl ?_
  exact vL_holds_164 xs L b0 hgr 10000 x1 x2 x3 x4 x5 x6 x7 x8 x9 x10 x11 x12 x13 x14 x15 x16 s0 1 0 (cc + 0) (ss + 0) M98 _ h
set_option maxHeartbeats 4000000 in
set_option maxRecDepth 100000 in
theorem vL_holds_126 {l : Launch} {D : va_G} {T : Nat → ClassId} {b : Nat} {gr : Bool} {n0 : Nat} (xs : Nat → Int32) (L b0 : Nat) (hgr : gr = true) (x1 : Nat) (x2 : Nat) (x3 : Nat) (x4 : Nat) (x5 : Nat) (x6 : Nat) (x7 : Nat) (x8 : Nat) (x9 : Nat) (x10 : Nat) (x11 : Nat) (x12 : Nat) (x13 : Nat) (x14 : Nat) (x15 : Nat) (x16 : Nat) (cc ss : Nat) (M : zM) (o : Int32 × zM) (h : fL_holds_126 xs L x1 x2 x3 x4 x5 x6 x7 x8 x9 x10 x11 x12 x13 x14 x15 x16 cc ss M = some o) : zV false l RL cL_holds 25 (some .boolean) false 125 519 20148 D T (zEs b0 L xs) b gr n0 (0, o.1, o.2) cc ss 126 [(0, .ref b0), (1, zr b x1), (2, zr b x2), (3, zr b x3), (4, zr b x4), (5, zr b x5), (6, zr b x6), (7, zr b x7), (8, zr b x8), (9, zr b x9), (10, zr b x10), (11, zr b x11), (12, zr b x12), (13, zr b x13), (14, zr b x14), (15, zr b x15), (16, zr b x16)] [] M := by
  unfold fL_holds_126 at h
  refine zV_iconst (v := 0) dL_holds_126 (by decide) ?_
  exact vL_holds_127 xs L b0 hgr x1 x2 x3 x4 x5 x6 x7 x8 x9 x10 x11 x12 x13 x14 x15 x16 0 cc ss M _ h
set_option maxHeartbeats 4000000 in
set_option maxRecDepth 100000 in
theorem vL_holds (l : Launch) (D : va_G) (T : Nat → ClassId) (b : Nat) (gr : Bool) (xs : Nat → Int32) (L b0 : Nat) (hgr : gr = true) (M : zM) (r : Int32) (M' : zM) (h : fL_holds xs L M = some (r, M')) : zMetS l D T b gr b0 L xs yL_holds cL_holds 25 (some .boolean) 125 519 20148 [.ref b0] M (0, r, M') := by
  refine zEntryS zp_yL_holds ⟨rfl, trivial⟩ (Nat.le_of_ble_eq_true rfl) ?_
  obtain ⟨o, ho⟩ : ∃ o : Int32 × zM, o = (r, M') := ⟨_, rfl⟩
  rw [← ho] at h
  rw [show ((0, r, M') : Nat × Int32 × zM) = (0, o.1, o.2) by rw [ho]]
  show zV false l RL cL_holds 25 (some .boolean) false 125 519 20148 D T (zEs b0 L xs) b gr M.2.2.2 (0, o.1, o.2) 0 0 0 [(0, .ref b0)] [] M
  unfold fL_holds at h
  refine zV_new (ci := 7) zcI7 hgr zcU7 zcT7 zcD7 zk_RL_76 zcV7 zcK7 (Nat.le_of_ble_eq_true rfl) (Nat.le_of_ble_eq_true rfl) dL_holds_0 ?_
  refine zV_mem (fun M103 e104 => ?_)
  replace h := zlet_of h e104
  refine zV_topr (fun u101 e102 => ?_)
  replace h := zlet_of h e102
  refine zV_dup dL_holds_3 (zr_cat _ _) ?_
  obtain ⟨g105, h⟩ := zg_of h
  obtain ⟨r106, M107, q108, h⟩ := zb_of h
  refine zV_callIv (As := []) (rest := [zr b u101]) (vX7_init l D T b gr hgr u101 M103 _ _ q108) zm_yX7_init zl_RL_177 zi_yX7_init rfl g105 rfl rfl (zcs ⟨zr_cat _ _, trivial⟩ (Nat.le_of_ble_eq_true rfl)) (by decide) (Nat.le_of_ble_eq_true rfl) (Nat.le_of_ble_eq_true rfl) dL_holds_4 ?_
  refine zV_astore_n [(1, zr b u101), (0, .ref b0)] dL_holds_7 rfl (by decide) rfl rfl ?_
  refine zV_bipush (v := 20) dL_holds_8 (by decide) ?_
  refine zV_newa_int (n := 20) hgr zar_int (by decide) (by decide) (by decide) (Nat.le_of_ble_eq_true rfl) (Nat.le_of_ble_eq_true rfl) dL_holds_10 ?_
  refine zV_mem (fun M111 e112 => ?_)
  replace h := zlet_of h e112
  refine zV_topr (fun u109 e110 => ?_)
  replace h := zlet_of h e110
  refine zV_astore_n [(2, zr b u109), (1, zr b u101), (0, .ref b0)] dL_holds_12 rfl (by decide) rfl rfl ?_
  refine zV_iconst (v := 5) dL_holds_13 (by decide) ?_
  refine zV_newa_int (n := 5) hgr zar_int (by decide) (by decide) (by decide) (Nat.le_of_ble_eq_true rfl) (Nat.le_of_ble_eq_true rfl) dL_holds_14 ?_
  refine zV_mem (fun M115 e116 => ?_)
  replace h := zlet_of h e116
  refine zV_topr (fun u113 e114 => ?_)
  replace h := zlet_of h e114
  refine zV_astore_n [(3, zr b u113), (2, zr b u109), (1, zr b u101), (0, .ref b0)] dL_holds_16 rfl (by decide) rfl rfl ?_
  refine zV_iconst (v := 5) dL_holds_17 (by decide) ?_
  refine zV_newa_int (n := 5) hgr zar_int (by decide) (by decide) (by decide) (Nat.le_of_ble_eq_true rfl) (Nat.le_of_ble_eq_true rfl) dL_holds_18 ?_
  refine zV_mem (fun M119 e120 => ?_)
  replace h := zlet_of h e120
  refine zV_topr (fun u117 e118 => ?_)
  replace h := zlet_of h e118
  refine zV_astore [(4, zr b u117), (3, zr b u113), (2, zr b u109), (1, zr b u101), (0, .ref b0)] dL_holds_20 (by decide) rfl rfl ?_
  refine zV_bipush (v := 12) dL_holds_22 (by decide) ?_
  refine zV_newa_int (n := 12) hgr zar_int (by decide) (by decide) (by decide) (Nat.le_of_ble_eq_true rfl) (Nat.le_of_ble_eq_true rfl) dL_holds_24 ?_
  refine zV_mem (fun M123 e124 => ?_)
  replace h := zlet_of h e124
  refine zV_topr (fun u121 e122 => ?_)
  replace h := zlet_of h e122
  refine zV_astore [(5, zr b u121), (4, zr b u117), (3, zr b u113), (2, zr b u109), (1, zr b u101), (0, .ref b0)] dL_holds_26 (by decide) rfl rfl ?_
  refine zV_bipush (v := 21) dL_holds_28 (by decide) ?_
  refine zV_newa_int (n := 21) hgr zar_int (by decide) (by decide) (by decide) (Nat.le_of_ble_eq_true rfl) (Nat.le_of_ble_eq_true rfl) dL_holds_30 ?_
  refine zV_mem (fun M127 e128 => ?_)
  replace h := zlet_of h e128
  refine zV_topr (fun u125 e126 => ?_)
  replace h := zlet_of h e126
  refine zV_astore [(6, zr b u125), (5, zr b u121), (4, zr b u117), (3, zr b u113), (2, zr b u109), (1, zr b u101), (0, .ref b0)] dL_holds_32 (by decide) rfl rfl ?_
  refine zV_bipush (v := 20) dL_holds_34 (by decide) ?_
  refine zV_newa_int (n := 20) hgr zar_int (by decide) (by decide) (by decide) (Nat.le_of_ble_eq_true rfl) (Nat.le_of_ble_eq_true rfl) dL_holds_36 ?_
  refine zV_mem (fun M131 e132 => ?_)
  replace h := zlet_of h e132
  refine zV_topr (fun u129 e130 => ?_)
  replace h := zlet_of h e130
  refine zV_astore [(7, zr b u129), (6, zr b u125), (5, zr b u121), (4, zr b u117), (3, zr b u113), (2, zr b u109), (1, zr b u101), (0, .ref b0)] dL_holds_38 (by decide) rfl rfl ?_
  refine zV_bipush (v := 40) dL_holds_40 (by decide) ?_
  refine zV_newa_int (n := 40) hgr zar_int (by decide) (by decide) (by decide) (Nat.le_of_ble_eq_true rfl) (Nat.le_of_ble_eq_true rfl) dL_holds_42 ?_
  refine zV_mem (fun M135 e136 => ?_)
  replace h := zlet_of h e136
  refine zV_topr (fun u133 e134 => ?_)
  replace h := zlet_of h e134
  refine zV_astore [(8, zr b u133), (7, zr b u129), (6, zr b u125), (5, zr b u121), (4, zr b u117), (3, zr b u113), (2, zr b u109), (1, zr b u101), (0, .ref b0)] dL_holds_44 (by decide) rfl rfl ?_
  refine zV_bipush (v := 60) dL_holds_46 (by decide) ?_
  refine zV_newa_int (n := 60) hgr zar_int (by decide) (by decide) (by decide) (Nat.le_of_ble_eq_true rfl) (Nat.le_of_ble_eq_true rfl) dL_holds_48 ?_
  refine zV_mem (fun M139 e140 => ?_)
  replace h := zlet_of h e140
  refine zV_topr (fun u137 e138 => ?_)
  replace h := zlet_of h e138
  refine zV_astore [(9, zr b u137), (8, zr b u133), (7, zr b u129), (6, zr b u125), (5, zr b u121), (4, zr b u117), (3, zr b u113), (2, zr b u109), (1, zr b u101), (0, .ref b0)] dL_holds_50 (by decide) rfl rfl ?_
  refine zV_bipush (v := 60) dL_holds_52 (by decide) ?_
  refine zV_newa_int (n := 60) hgr zar_int (by decide) (by decide) (by decide) (Nat.le_of_ble_eq_true rfl) (Nat.le_of_ble_eq_true rfl) dL_holds_54 ?_
  refine zV_mem (fun M143 e144 => ?_)
  replace h := zlet_of h e144
  refine zV_topr (fun u141 e142 => ?_)
  replace h := zlet_of h e142
  refine zV_astore [(10, zr b u141), (9, zr b u137), (8, zr b u133), (7, zr b u129), (6, zr b u125), (5, zr b u121), (4, zr b u117), (3, zr b u113), (2, zr b u109), (1, zr b u101), (0, .ref b0)] dL_holds_56 (by decide) rfl rfl ?_
  refine zV_bipush (v := 60) dL_holds_58 (by decide) ?_
  refine zV_newa_int (n := 60) hgr zar_int (by decide) (by decide) (by decide) (Nat.le_of_ble_eq_true rfl) (Nat.le_of_ble_eq_true rfl) dL_holds_60 ?_
  refine zV_mem (fun M147 e148 => ?_)
  replace h := zlet_of h e148
  refine zV_topr (fun u145 e146 => ?_)
  replace h := zlet_of h e146
  refine zV_astore [(11, zr b u145), (10, zr b u141), (9, zr b u137), (8, zr b u133), (7, zr b u129), (6, zr b u125), (5, zr b u121), (4, zr b u117), (3, zr b u113), (2, zr b u109), (1, zr b u101), (0, .ref b0)] dL_holds_62 (by decide) rfl rfl ?_
  refine zV_bipush (v := 60) dL_holds_64 (by decide) ?_
  refine zV_newa_int (n := 60) hgr zar_int (by decide) (by decide) (by decide) (Nat.le_of_ble_eq_true rfl) (Nat.le_of_ble_eq_true rfl) dL_holds_66 ?_
  refine zV_mem (fun M151 e152 => ?_)
  replace h := zlet_of h e152
  refine zV_topr (fun u149 e150 => ?_)
  replace h := zlet_of h e150
  refine zV_astore [(12, zr b u149), (11, zr b u145), (10, zr b u141), (9, zr b u137), (8, zr b u133), (7, zr b u129), (6, zr b u125), (5, zr b u121), (4, zr b u117), (3, zr b u113), (2, zr b u109), (1, zr b u101), (0, .ref b0)] dL_holds_68 (by decide) rfl rfl ?_
  refine zV_bipush (v := 60) dL_holds_70 (by decide) ?_
  refine zV_newa_int (n := 60) hgr zar_int (by decide) (by decide) (by decide) (Nat.le_of_ble_eq_true rfl) (Nat.le_of_ble_eq_true rfl) dL_holds_72 ?_
  refine zV_mem (fun M155 e156 => ?_)
  replace h := zlet_of h e156
  refine zV_topr (fun u153 e154 => ?_)
  replace h := zlet_of h e154
  refine zV_astore [(13, zr b u153), (12, zr b u149), (11, zr b u145), (10, zr b u141), (9, zr b u137), (8, zr b u133), (7, zr b u129), (6, zr b u125), (5, zr b u121), (4, zr b u117), (3, zr b u113), (2, zr b u109), (1, zr b u101), (0, .ref b0)] dL_holds_74 (by decide) rfl rfl ?_
  refine zV_bipush (v := 60) dL_holds_76 (by decide) ?_
  refine zV_newa_int (n := 60) hgr zar_int (by decide) (by decide) (by decide) (Nat.le_of_ble_eq_true rfl) (Nat.le_of_ble_eq_true rfl) dL_holds_78 ?_
  refine zV_mem (fun M159 e160 => ?_)
  replace h := zlet_of h e160
  refine zV_topr (fun u157 e158 => ?_)
  replace h := zlet_of h e158
  refine zV_astore [(14, zr b u157), (13, zr b u153), (12, zr b u149), (11, zr b u145), (10, zr b u141), (9, zr b u137), (8, zr b u133), (7, zr b u129), (6, zr b u125), (5, zr b u121), (4, zr b u117), (3, zr b u113), (2, zr b u109), (1, zr b u101), (0, .ref b0)] dL_holds_80 (by decide) rfl rfl ?_
  refine zV_bipush (v := 48) dL_holds_82 (by decide) ?_
  refine zV_newa_long (n := 48) hgr zar_long (by decide) (by decide) (by decide) (Nat.le_of_ble_eq_true rfl) (Nat.le_of_ble_eq_true rfl) dL_holds_84 ?_
  refine zV_mem (fun M163 e164 => ?_)
  replace h := zlet_of h e164
  refine zV_topr (fun u161 e162 => ?_)
  replace h := zlet_of h e162
  refine zV_astore [(15, zr b u161), (14, zr b u157), (13, zr b u153), (12, zr b u149), (11, zr b u145), (10, zr b u141), (9, zr b u137), (8, zr b u133), (7, zr b u129), (6, zr b u125), (5, zr b u121), (4, zr b u117), (3, zr b u113), (2, zr b u109), (1, zr b u101), (0, .ref b0)] dL_holds_86 (by decide) rfl rfl ?_
  refine zV_bipush (v := 48) dL_holds_88 (by decide) ?_
  refine zV_newa_long (n := 48) hgr zar_long (by decide) (by decide) (by decide) (Nat.le_of_ble_eq_true rfl) (Nat.le_of_ble_eq_true rfl) dL_holds_90 ?_
  refine zV_mem (fun M167 e168 => ?_)
  replace h := zlet_of h e168
  refine zV_topr (fun u165 e166 => ?_)
  replace h := zlet_of h e166
  refine zV_astore [(16, zr b u165), (15, zr b u161), (14, zr b u157), (13, zr b u153), (12, zr b u149), (11, zr b u145), (10, zr b u141), (9, zr b u137), (8, zr b u133), (7, zr b u129), (6, zr b u125), (5, zr b u121), (4, zr b u117), (3, zr b u113), (2, zr b u109), (1, zr b u101), (0, .ref b0)] dL_holds_92 (by decide) rfl rfl ?_
  refine zV_aload_n (j := 15) dL_holds_94 rfl rfl ?_
  obtain ⟨g169, h⟩ := zg_of h
  obtain ⟨g173, h⟩ := zg_of h
  obtain ⟨r170, M171z, q172, h⟩ := zbd_of h
  refine zV_cutVi (ci := 7) (As := []) (rest := []) (vX7_things l D T b false u101 (zcut M167) _ _ q172) zm_yX7_things zl_RL_75 zi_yX7_things ze_yX7_things zcI7 g169 g173 rfl rfl (zcs trivial (Nat.le_of_ble_eq_true rfl)) (by decide) (Nat.le_of_ble_eq_true rfl) (Nat.le_of_ble_eq_true rfl) dL_holds_95 ?_
  refine zV_mem (fun M171 M171e => ?_)
  rw [← M171e] at h
  refine zV_if_ne (tgt := 126) dL_holds_98 (by decide) (fun c174 => ?_) (fun c174 => ?_)
  · replace h := z_f c174 h
    refine zV_pk [16, 15, 14, 13, 12, 11, 10, 9, 8, 7, 6, 5, 4, 3, 2, 1, 0] rfl ?_
    exact vL_holds_126 xs L b0 hgr u101 u109 u113 u117 u121 u125 u129 u133 u137 u141 u145 u149 u153 u157 u161 u165 519 20148 M171 _ h
  · replace h := z_t c174 h
    refine zV_aload_n (j := 15) dL_holds_101 rfl rfl ?_
    obtain ⟨g175, h⟩ := zg_of h
    obtain ⟨g179, h⟩ := zg_of h
    obtain ⟨r176, M177z, q178, h⟩ := zbd_of h
    refine zV_cutVi (ci := 7) (As := []) (rest := []) (vX7_normal l D T b false u101 (zcut M171) _ _ q178) zm_yX7_normal zl_RL_111 zi_yX7_normal ze_yX7_normal zcI7 g175 g179 rfl rfl (zcs trivial (Nat.le_of_ble_eq_true rfl)) (by decide) (Nat.le_of_ble_eq_true rfl) (Nat.le_of_ble_eq_true rfl) dL_holds_102 ?_
    refine zV_mem (fun M177 M177e => ?_)
    rw [← M177e] at h
    refine zV_if_ne (tgt := 126) dL_holds_105 (by decide) (fun c180 => ?_) (fun c180 => ?_)
    · replace h := z_f c180 h
      refine zV_pk [16, 15, 14, 13, 12, 11, 10, 9, 8, 7, 6, 5, 4, 3, 2, 1, 0] rfl ?_
      exact vL_holds_126 xs L b0 hgr u101 u109 u113 u117 u121 u125 u129 u133 u137 u141 u145 u149 u153 u157 u161 u165 519 20148 M177 _ h
    · replace h := z_t c180 h
      refine zV_aload_n (j := 15) dL_holds_108 rfl rfl ?_
      obtain ⟨g181, h⟩ := zg_of h
      obtain ⟨g185, h⟩ := zg_of h
      obtain ⟨r182, M183z, q184, h⟩ := zbd_of h
      refine zV_cutVi (ci := 7) (As := []) (rest := []) (vX7_isSame l D T b false u101 (zcut M177) _ _ q184) zm_yX7_isSame zl_RL_114 zi_yX7_isSame ze_yX7_isSame zcI7 g181 g185 rfl rfl (zcs trivial (Nat.le_of_ble_eq_true rfl)) (by decide) (Nat.le_of_ble_eq_true rfl) (Nat.le_of_ble_eq_true rfl) dL_holds_109 ?_
      refine zV_mem (fun M183 M183e => ?_)
      rw [← M183e] at h
      refine zV_if_eq (tgt := 126) dL_holds_112 (by decide) (fun c186 => ?_) (fun c186 => ?_)
      · replace h := z_t c186 h
        refine zV_pk [16, 15, 14, 13, 12, 11, 10, 9, 8, 7, 6, 5, 4, 3, 2, 1, 0] rfl ?_
        exact vL_holds_126 xs L b0 hgr u101 u109 u113 u117 u121 u125 u129 u133 u137 u141 u145 u149 u153 u157 u161 u165 519 20148 M183 _ h
      · replace h := z_f c186 h
        refine zV_aload_n (j := 15) dL_holds_115 rfl rfl ?_
        obtain ⟨g187, h⟩ := zg_of h
        obtain ⟨g191, h⟩ := zg_of h
        obtain ⟨r188, M189z, q190, h⟩ := zbd_of h
        refine zV_cutVi (ci := 7) (As := []) (rest := []) (vX7_anew l D T b false u101 (zcut M183) _ _ q190) zm_yX7_anew zl_RL_168 zi_yX7_anew ze_yX7_anew zcI7 g187 g191 rfl rfl (zcs trivial (Nat.le_of_ble_eq_true rfl)) (by decide) (Nat.le_of_ble_eq_true rfl) (Nat.le_of_ble_eq_true rfl) dL_holds_116 ?_
        refine zV_mem (fun M189 M189e => ?_)
        rw [← M189e] at h
        refine zV_if_ne (tgt := 126) dL_holds_119 (by decide) (fun c192 => ?_) (fun c192 => ?_)
        · replace h := z_f c192 h
          refine zV_pk [16, 15, 14, 13, 12, 11, 10, 9, 8, 7, 6, 5, 4, 3, 2, 1, 0] rfl ?_
          exact vL_holds_126 xs L b0 hgr u101 u109 u113 u117 u121 u125 u129 u133 u137 u141 u145 u149 u153 u157 u161 u165 519 20148 M189 _ h
        · replace h := z_t c192 h
          refine zV_iconst (v := 1) dL_holds_122 (by decide) ?_
          refine zV_goto (tgt := 127) dL_holds_123 (by decide) ?_
          refine zV_pk [16, 15, 14, 13, 12, 11, 10, 9, 8, 7, 6, 5, 4, 3, 2, 1, 0] rfl ?_
          exact vL_holds_127 xs L b0 hgr u101 u109 u113 u117 u121 u125 u129 u133 u137 u141 u145 u149 u153 u157 u161 u165 1 519 20148 M189 _ h
