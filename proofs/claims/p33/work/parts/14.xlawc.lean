set_option maxHeartbeats 4000000 in
set_option maxRecDepth 100000 in
theorem vL_keep_38 {l : Launch} {D : va_G} {T : Nat → ClassId} {b : Nat} {gr : Bool} {n0 : Nat} (x0 : Nat) (x2 : Nat) (x3 : Int64) (M : zM) (o : Int32 × zM) (h : fL_keep_38 x0 x2 x3 M = some o) : zV false l RL cL_keep 6 none false 0 0 0 D T (zEj 3) b gr n0 (0, o.1, o.2) 0 0 38 [(0, zr b x0), (2, zr b x2), (3, .long x3)] [] M := by
  unfold fL_keep_38 at h
  refine zV_aload_n (j := 1) dL_keep_38 rfl rfl ?_
  refine zV_aload_n (j := 0) dL_keep_39 rfl rfl ?_
  refine zV_bipush (v := 8) dL_keep_40 (by decide) ?_
  obtain ⟨g1, h⟩ := zg_of h
  obtain ⟨g2, h⟩ := zg_of h
  refine zV_iald dL_keep_42 g1 g2 ?_
  refine zV_lload_n (j := 2) dL_keep_43 rfl rfl ?_
  obtain ⟨g3, h⟩ := zg_of h
  obtain ⟨g4, h⟩ := zg_of h
  refine zV_last dL_keep_44 g3 g4 ?_
  refine zV_mem (fun M5 e6 => ?_)
  replace h := zlet_of h e6
  refine zV_aload_n (j := 1) dL_keep_45 rfl rfl ?_
  refine zV_bipush (v := 24) dL_keep_46 (by decide) ?_
  refine zV_aload_n (j := 0) dL_keep_48 rfl rfl ?_
  refine zV_bipush (v := 8) dL_keep_49 (by decide) ?_
  obtain ⟨g7, h⟩ := zg_of h
  refine zV_iald dL_keep_51 (zkL e6 g1) g7 ?_
  refine zV_iadd dL_keep_52 ?_
  refine zV_ldc2 (v := 2) dL_keep_53 zd_RL_65 ?_
  refine zV_aload_n (j := 0) dL_keep_56 rfl rfl ?_
  refine zV_iconst (v := 1) dL_keep_57 (by decide) ?_
  obtain ⟨g8, h⟩ := zg_of h
  refine zV_iald dL_keep_58 (zkL e6 g1) g8 ?_
  refine zV_i2l dL_keep_59 ?_
  refine zV_lmul dL_keep_60 ?_
  refine zV_aload_n (j := 0) dL_keep_61 rfl rfl ?_
  refine zV_bipush (v := 14) dL_keep_62 (by decide) ?_
  obtain ⟨g9, h⟩ := zg_of h
  refine zV_iald dL_keep_64 (zkL e6 g1) g9 ?_
  refine zV_if_le (tgt := 72) dL_keep_65 (by decide) (fun c10 => ?_) (fun c10 => ?_)
  · replace h := z_t c10 h
    refine zV_lconst (v := 0) dL_keep_72 (by decide) ?_
    refine zV_ladd dL_keep_73 ?_
    obtain ⟨g11, h⟩ := zg_of h
    refine zV_last dL_keep_74 (zkL e6 g3) g11 ?_
    refine zV_mem (fun M12 e13 => ?_)
    replace h := zlet_of h e13
    exact zV_vret (x := 0) rfl dL_keep_75 (by decide) (by decide) (z_ret h)
  · replace h := z_f c10 h
    refine zV_lconst (v := 1) dL_keep_68 (by decide) ?_
    refine zV_goto (tgt := 73) dL_keep_69 (by decide) ?_
    refine zV_ladd dL_keep_73 ?_
    obtain ⟨g14, h⟩ := zg_of h
    refine zV_last dL_keep_74 (zkL e6 g3) g14 ?_
    refine zV_mem (fun M15 e16 => ?_)
    replace h := zlet_of h e16
    exact zV_vret (x := 0) rfl dL_keep_75 (by decide) (by decide) (z_ret h)
set_option maxHeartbeats 4000000 in
set_option maxRecDepth 100000 in
theorem vL_keep_12 {l : Launch} {D : va_G} {T : Nat → ClassId} {b : Nat} {gr : Bool} {n0 : Nat} : ∀ (n : Nat) (x0 : Nat) (x1 : Nat) (x2 : Nat) (x3 : Int64) (x5 : Int32) (M : zM) (o : Int32 × zM), fL_keep_12 n x0 x1 x2 x3 x5 M = some o → zV false l RL cL_keep 6 none false 0 0 0 D T (zEj 3) b gr n0 (0, o.1, o.2) 0 0 12 [(0, zr b x0), (1, zr b x1), (2, zr b x2), (3, .long x3), (5, .int x5)] [] M := by
  intro n
  induction n with
  | zero =>
    intro x0 x1 x2 x3 x5 M o h
    rw [fL_keep_12] at h
    cases h
  | succ n ih =>
    intro x0 x1 x2 x3 x5 M o h
    rw [fL_keep_12] at h
    refine zV_iload (j := 4) dL_keep_12 rfl ?_
    refine zV_aload_n (j := 0) dL_keep_14 rfl rfl ?_
    refine zV_iconst (v := 0) dL_keep_15 (by decide) ?_
    obtain ⟨g17, h⟩ := zg_of h
    obtain ⟨g18, h⟩ := zg_of h
    refine zV_iald dL_keep_16 g17 g18 ?_
    refine zV_icmp_ge (tgt := 38) dL_keep_17 (by decide) (fun c19 => ?_) (fun c19 => ?_)
    · replace h := z_t c19 h
      refine zV_pk [0, 2, 3] rfl ?_
      exact vL_keep_38 x0 x2 x3 M _ h
    · replace h := z_f c19 h
      refine zV_lload_n (j := 3) dL_keep_20 rfl rfl ?_
      refine zV_ldc2 (v := 80) dL_keep_21 zd_RL_63 ?_
      refine zV_lmul dL_keep_24 ?_
      refine zV_aload_n (j := 1) dL_keep_25 rfl rfl ?_
      refine zV_iload (j := 4) dL_keep_26 rfl ?_
      obtain ⟨g20, h⟩ := zg_of h
      obtain ⟨g21, h⟩ := zg_of h
      refine zV_iald dL_keep_28 g20 g21 ?_
      refine zV_i2l dL_keep_29 ?_
      refine zV_ladd dL_keep_30 ?_
      refine zV_topl (fun u22 e23 => ?_)
      replace h := zlet_of h e23
      refine zV_lstore_n [(3, .long u22), (0, zr b x0), (1, zr b x1), (2, zr b x2), (5, .int x5)] dL_keep_31 rfl (by decide) rfl rfl ?_
      obtain ⟨u24, e25⟩ : ∃ y : Int32, y = x5 + 1 := ⟨_, rfl⟩
      replace h := zlet_of h e25
      refine zV_iinc (j := 4) (v := u24) [(5, .int u24), (3, .long u22), (0, zr b x0), (1, zr b x1), (2, zr b x2)] dL_keep_32 rfl (by rw [e25]; rfl) (by decide) rfl rfl ?_
      refine zV_goto (tgt := 12) dL_keep_35 (by decide) ?_
      refine zV_pk [2, 3, 4, 1, 0] rfl ?_
      exact ih x0 x1 x2 u22 u24 M _ h
set_option maxHeartbeats 4000000 in
set_option maxRecDepth 100000 in
theorem vL_keep (l : Launch) (D : va_G) (T : Nat → ClassId) (b : Nat) (gr : Bool) (x0 : Nat) (x1 : Nat) (x2 : Nat) (M : zM) (r : Int32) (M' : zM) (h : fL_keep x0 x1 x2 M = some (r, M')) : zMet l D T b gr yL_keep cL_keep 6 none 0 0 0 [zr b x0, zr b x1, zr b x2] M (0, r, M') := by
  refine zEntry2 (ev := (zEj 3)) rfl false (fun h9 => nomatch h9) zp_yL_keep ⟨zr_cat _ _, zr_cat _ _, zr_cat _ _, trivial⟩ (Nat.le_of_ble_eq_true rfl) ?_
  obtain ⟨o, ho⟩ : ∃ o : Int32 × zM, o = (r, M') := ⟨_, rfl⟩
  rw [← ho] at h
  rw [show ((0, r, M') : Nat × Int32 × zM) = (0, o.1, o.2) by rw [ho]]
  show zV false l RL cL_keep 6 none false 0 0 0 D T (zEj 3) b gr M.2.2.2 (0, o.1, o.2) 0 0 0 [(0, zr b x0), (1, zr b x1), (2, zr b x2)] [] M
  unfold fL_keep at h
  refine zV_aload_n (j := 0) dL_keep_0 rfl rfl ?_
  refine zV_bipush (v := 7) dL_keep_1 (by decide) ?_
  obtain ⟨g26, h⟩ := zg_of h
  obtain ⟨g27, h⟩ := zg_of h
  refine zV_iald dL_keep_3 g26 g27 ?_
  refine zV_if_ne (tgt := 75) dL_keep_4 (by decide) (fun c28 => ?_) (fun c28 => ?_)
  · replace h := z_f c28 h
    exact zV_vret (x := 0) rfl dL_keep_75 (by decide) (by decide) (z_ret h)
  · replace h := z_t c28 h
    refine zV_lconst (v := 1) dL_keep_7 (by decide) ?_
    refine zV_lstore_n [(3, .long 1), (0, zr b x0), (1, zr b x1), (2, zr b x2)] dL_keep_8 rfl (by decide) rfl rfl ?_
    refine zV_iconst (v := 0) dL_keep_9 (by decide) ?_
    refine zV_istore [(5, .int 0), (3, .long 1), (0, zr b x0), (1, zr b x1), (2, zr b x2)] dL_keep_10 (by decide) rfl rfl ?_
    refine zV_pk [2, 3, 4, 1, 0] rfl ?_
    exact vL_keep_12 10000 x0 x1 x2 1 0 M _ h
set_option maxHeartbeats 4000000 in
set_option maxRecDepth 100000 in
theorem vL_reads_201 {l : Launch} {D : va_G} {T : Nat → ClassId} {b : Nat} {gr : Bool} {n0 : Nat} (x0 : Nat) (x1 : Nat) (x2 : Nat) (x5 : Nat) (x6 : Nat) (x12 : Nat) (M : zM) (o : Int32 × zM) (h : fL_reads_201 x0 x1 x2 x5 x6 x12 M = some o) : zV false l RL cL_reads 15 none false 6 0 0 D T zE0 b gr n0 (0, o.1, o.2) 0 0 201 [(0, zr b x0), (1, zr b x1), (2, zr b x2), (5, zr b x5), (6, zr b x6), (12, zr b x12)] [] M := by
  unfold fL_reads_201 at h
  refine zV_aload_n (j := 0) dL_reads_201 rfl rfl ?_
  refine zV_aload_n (j := 1) dL_reads_202 rfl rfl ?_
  refine zV_aload_n (j := 2) dL_reads_203 rfl rfl ?_
  refine zV_aload (j := 3) dL_reads_204 rfl ?_
  refine zV_aload (j := 4) dL_reads_206 rfl ?_
  refine zV_aload (j := 5) dL_reads_208 rfl ?_
  refine zV_iconst (v := 0) dL_reads_210 (by decide) ?_
  refine zV_iconst (v := 0) dL_reads_211 (by decide) ?_
  obtain ⟨r1, M2, q3, h⟩ := zb_of h
  refine zV_callSv (As := [zr b x0, zr b x1, zr b x2, zr b x5, zr b x6, zr b x12, .int 0, .int 0]) (rest := []) (vL_close l D T b gr x0 x1 x2 x5 x6 x12 0 0 M _ _ q3) zm_yL_close zl_RL_59 zs_yL_close rfl rfl (zcs trivial (Nat.le_of_ble_eq_true rfl)) (by decide) (by decide) (by decide) dL_reads_212 ?_
  exact zV_vret (x := 0) rfl dL_reads_215 (by decide) (by decide) (z_ret h)
set_option maxHeartbeats 4000000 in
set_option maxRecDepth 100000 in
theorem vL_reads_177 {l : Launch} {D : va_G} {T : Nat → ClassId} {b : Nat} {gr : Bool} {n0 : Nat} : ∀ (n : Nat) (x0 : Nat) (x1 : Nat) (x2 : Nat) (x5 : Nat) (x6 : Nat) (x12 : Nat) (x14 : Int32) (M : zM) (o : Int32 × zM), fL_reads_177 n x0 x1 x2 x5 x6 x12 x14 M = some o → zV false l RL cL_reads 15 none false 6 0 0 D T zE0 b gr n0 (0, o.1, o.2) 0 0 177 [(0, zr b x0), (1, zr b x1), (2, zr b x2), (5, zr b x5), (6, zr b x6), (12, zr b x12), (14, .int x14)] [] M := by
  intro n
  induction n with
  | zero =>
    intro x0 x1 x2 x5 x6 x12 x14 M o h
    rw [fL_reads_177] at h
    cases h
  | succ n ih =>
    intro x0 x1 x2 x5 x6 x12 x14 M o h
    rw [fL_reads_177] at h
    refine zV_iload (j := 6) dL_reads_177 rfl ?_
    refine zV_aload (j := 3) dL_reads_179 rfl ?_
    refine zV_bipush (v := 14) dL_reads_181 (by decide) ?_
    obtain ⟨g4, h⟩ := zg_of h
    obtain ⟨g5, h⟩ := zg_of h
    refine zV_iald dL_reads_183 g4 g5 ?_
    refine zV_icmp_ge (tgt := 201) dL_reads_184 (by decide) (fun c6 => ?_) (fun c6 => ?_)
    · replace h := z_t c6 h
      refine zV_pk [0, 1, 2, 3, 4, 5] rfl ?_
      exact vL_reads_201 x0 x1 x2 x5 x6 x12 M _ h
    · replace h := z_f c6 h
      refine zV_aload (j := 3) dL_reads_187 rfl ?_
      refine zV_aload (j := 5) dL_reads_189 rfl ?_
      refine zV_iconst (v := 5) dL_reads_191 (by decide) ?_
      obtain ⟨r7, M8, q9, h⟩ := zb_of h
      refine zV_callSv (As := [zr b x5, zr b x12, .int 5]) (rest := []) (vL_fails l D T b gr x5 x12 5 M _ _ q9) zm_yL_fails zl_RL_47 zs_yL_fails rfl rfl (zcs trivial (Nat.le_of_ble_eq_true rfl)) (by decide) (by decide) (by decide) dL_reads_192 ?_
      obtain ⟨u10, e11⟩ : ∃ y : Int32, y = x14 + 1 := ⟨_, rfl⟩
      replace h := zlet_of h e11
      refine zV_iinc (j := 6) (v := u10) [(14, .int u10), (0, zr b x0), (1, zr b x1), (2, zr b x2), (5, zr b x5), (6, zr b x6), (12, zr b x12)] dL_reads_195 rfl (by rw [e11]; rfl) (by decide) rfl rfl ?_
      refine zV_goto (tgt := 177) dL_reads_198 (by decide) ?_
      refine zV_pk [1, 2, 3, 4, 5, 6, 0] rfl ?_
      exact ih x0 x1 x2 x5 x6 x12 u10 M8 _ h
set_option maxHeartbeats 4000000 in
set_option maxRecDepth 100000 in
theorem vL_reads_164 {l : Launch} {D : va_G} {T : Nat → ClassId} {b : Nat} {gr : Bool} {n0 : Nat} (x0 : Nat) (x1 : Nat) (x2 : Nat) (x4 : Nat) (x5 : Nat) (x6 : Nat) (x12 : Nat) (M : zM) (o : Int32 × zM) (h : fL_reads_164 x0 x1 x2 x4 x5 x6 x12 M = some o) : zV false l RL cL_reads 15 none false 6 0 0 D T zE0 b gr n0 (0, o.1, o.2) 0 0 164 [(0, zr b x0), (1, zr b x1), (2, zr b x2), (4, zr b x4), (5, zr b x5), (6, zr b x6), (12, zr b x12)] [] M := by
  unfold fL_reads_164 at h
  refine zV_aload (j := 4) dL_reads_164 rfl ?_
  refine zV_bipush (v := 18) dL_reads_166 (by decide) ?_
  refine zV_aload (j := 3) dL_reads_168 rfl ?_
  refine zV_bipush (v := 20) dL_reads_170 (by decide) ?_
  obtain ⟨g12, h⟩ := zg_of h
  obtain ⟨g13, h⟩ := zg_of h
  refine zV_iald dL_reads_172 g12 g13 ?_
  obtain ⟨g14, h⟩ := zg_of h
  obtain ⟨g15, h⟩ := zg_of h
  refine zV_iast dL_reads_173 g14 g15 ?_
  refine zV_mem (fun M16 e17 => ?_)
  replace h := zlet_of h e17
  refine zV_iconst (v := 0) dL_reads_174 (by decide) ?_
  refine zV_istore [(14, .int 0), (0, zr b x0), (1, zr b x1), (2, zr b x2), (4, zr b x4), (5, zr b x5), (6, zr b x6), (12, zr b x12)] dL_reads_175 (by decide) rfl rfl ?_
  refine zV_pk [1, 2, 3, 5, 6, 7, 0] rfl ?_
  exact vL_reads_177 10000 x0 x1 x2 x5 x6 x12 0 M16 _ h
set_option maxHeartbeats 4000000 in
set_option maxRecDepth 100000 in
theorem vL_reads_152 {l : Launch} {D : va_G} {T : Nat → ClassId} {b : Nat} {gr : Bool} {n0 : Nat} (k31 : Nat → Nat → Nat → Nat → Nat → Nat → Nat → Nat → Nat → Nat → Nat → Nat → Nat → Nat → zM → Option (Int32 × zM)) (hk31 : ∀ (z0 : Nat) (z1 : Nat) (z2 : Nat) (z3 : Nat) (z4 : Nat) (z5 : Nat) (z6 : Nat) (z7 : Nat) (z8 : Nat) (z9 : Nat) (z10 : Nat) (z11 : Nat) (z12 : Nat) (z13 : Nat) (N : zM) (o : Int32 × zM), k31 z0 z1 z2 z3 z4 z5 z6 z7 z8 z9 z10 z11 z12 z13 N = some o → zV false l RL cL_reads 15 none false 6 0 0 D T zE0 b gr n0 (0, o.1, o.2) 0 0 31 [(0, zr b z0), (1, zr b z1), (2, zr b z2), (3, zr b z3), (4, zr b z4), (5, zr b z5), (6, zr b z6), (7, zr b z7), (8, zr b z8), (9, zr b z9), (10, zr b z10), (11, zr b z11), (12, zr b z12), (13, zr b z13)] [] N) (x0 : Nat) (x1 : Nat) (x2 : Nat) (x3 : Nat) (x4 : Nat) (x5 : Nat) (x6 : Nat) (x7 : Nat) (x8 : Nat) (x9 : Nat) (x10 : Nat) (x11 : Nat) (x12 : Nat) (x13 : Nat) (M : zM) (o : Int32 × zM) (h : fL_reads_152 k31 x0 x1 x2 x3 x4 x5 x6 x7 x8 x9 x10 x11 x12 x13 M = some o) : zV false l RL cL_reads 15 none false 6 0 0 D T zE0 b gr n0 (0, o.1, o.2) 0 0 152 [(0, zr b x0), (1, zr b x1), (2, zr b x2), (3, zr b x3), (4, zr b x4), (5, zr b x5), (6, zr b x6), (7, zr b x7), (8, zr b x8), (9, zr b x9), (10, zr b x10), (11, zr b x11), (12, zr b x12), (13, zr b x13)] [] M := by
  unfold fL_reads_152 at h
  refine zV_aload (j := 5) dL_reads_152 rfl ?_
  refine zV_aload (j := 6) dL_reads_154 rfl ?_
  refine zV_aload (j := 13) dL_reads_156 rfl ?_
  obtain ⟨r18, M19, q20, h⟩ := zb_of h
  refine zV_callSv (As := [zr b x5, zr b x6, zr b x13]) (rest := []) (vL_keep l D T b gr x5 x6 x13 M _ _ q20) zm_yL_keep zl_RL_67 zs_yL_keep rfl rfl (zcs trivial (Nat.le_of_ble_eq_true rfl)) (by decide) (by decide) (by decide) dL_reads_158 ?_
  refine zV_goto (tgt := 31) dL_reads_161 (by decide) ?_
  exact hk31 x0 x1 x2 x3 x4 x5 x6 x7 x8 x9 x10 x11 x12 x13 M19 _ h
set_option maxHeartbeats 4000000 in
set_option maxRecDepth 100000 in
theorem vL_reads_115 {l : Launch} {D : va_G} {T : Nat → ClassId} {b : Nat} {gr : Bool} {n0 : Nat} (k31 : Nat → Nat → Nat → Nat → Nat → Nat → Nat → Nat → Nat → Nat → Nat → Nat → Nat → Nat → zM → Option (Int32 × zM)) (hk31 : ∀ (z0 : Nat) (z1 : Nat) (z2 : Nat) (z3 : Nat) (z4 : Nat) (z5 : Nat) (z6 : Nat) (z7 : Nat) (z8 : Nat) (z9 : Nat) (z10 : Nat) (z11 : Nat) (z12 : Nat) (z13 : Nat) (N : zM) (o : Int32 × zM), k31 z0 z1 z2 z3 z4 z5 z6 z7 z8 z9 z10 z11 z12 z13 N = some o → zV false l RL cL_reads 15 none false 6 0 0 D T zE0 b gr n0 (0, o.1, o.2) 0 0 31 [(0, zr b z0), (1, zr b z1), (2, zr b z2), (3, zr b z3), (4, zr b z4), (5, zr b z5), (6, zr b z6), (7, zr b z7), (8, zr b z8), (9, zr b z9), (10, zr b z10), (11, zr b z11), (12, zr b z12), (13, zr b z13)] [] N) (x0 : Nat) (x1 : Nat) (x2 : Nat) (x3 : Nat) (x4 : Nat) (x5 : Nat) (x6 : Nat) (x7 : Nat) (x8 : Nat) (x9 : Nat) (x10 : Nat) (x11 : Nat) (x12 : Nat) (x13 : Nat) (M : zM) (o : Int32 × zM) (h : fL_reads_115 k31 x0 x1 x2 x3 x4 x5 x6 x7 x8 x9 x10 x11 x12 x13 M = some o) : zV false l RL cL_reads 15 none false 6 0 0 D T zE0 b gr n0 (0, o.1, o.2) 0 0 115 [(0, zr b x0), (1, zr b x1), (2, zr b x2), (3, zr b x3), (4, zr b x4), (5, zr b x5), (6, zr b x6), (7, zr b x7), (8, zr b x8), (9, zr b x9), (10, zr b x10), (11, zr b x11), (12, zr b x12), (13, zr b x13)] [] M := by
  unfold fL_reads_115 at h
  refine zV_aload (j := 5) dL_reads_115 rfl ?_
  refine zV_bipush (v := 7) dL_reads_117 (by decide) ?_
  refine zV_dup2 dL_reads_119 rfl (zr_cat _ _) ?_
  obtain ⟨g21, h⟩ := zg_of h
  obtain ⟨g22, h⟩ := zg_of h
  refine zV_iald dL_reads_120 g21 g22 ?_
  refine zV_iconst (v := 1) dL_reads_121 (by decide) ?_
  refine zV_isub dL_reads_122 ?_
  obtain ⟨g23, h⟩ := zg_of h
  refine zV_iast dL_reads_123 g21 g23 ?_
  refine zV_mem (fun M24 e25 => ?_)
  replace h := zlet_of h e25
  refine zV_goto (tgt := 152) dL_reads_124 (by decide) ?_
  exact vL_reads_152 k31 hk31 x0 x1 x2 x3 x4 x5 x6 x7 x8 x9 x10 x11 x12 x13 M24 _ h
set_option maxHeartbeats 4000000 in
set_option maxRecDepth 100000 in
theorem vL_reads_85 {l : Launch} {D : va_G} {T : Nat → ClassId} {b : Nat} {gr : Bool} {n0 : Nat} (k31 : Nat → Nat → Nat → Nat → Nat → Nat → Nat → Nat → Nat → Nat → Nat → Nat → Nat → Nat → zM → Option (Int32 × zM)) (hk31 : ∀ (z0 : Nat) (z1 : Nat) (z2 : Nat) (z3 : Nat) (z4 : Nat) (z5 : Nat) (z6 : Nat) (z7 : Nat) (z8 : Nat) (z9 : Nat) (z10 : Nat) (z11 : Nat) (z12 : Nat) (z13 : Nat) (N : zM) (o : Int32 × zM), k31 z0 z1 z2 z3 z4 z5 z6 z7 z8 z9 z10 z11 z12 z13 N = some o → zV false l RL cL_reads 15 none false 6 0 0 D T zE0 b gr n0 (0, o.1, o.2) 0 0 31 [(0, zr b z0), (1, zr b z1), (2, zr b z2), (3, zr b z3), (4, zr b z4), (5, zr b z5), (6, zr b z6), (7, zr b z7), (8, zr b z8), (9, zr b z9), (10, zr b z10), (11, zr b z11), (12, zr b z12), (13, zr b z13)] [] N) : ∀ (n : Nat) (x0 : Nat) (x1 : Nat) (x2 : Nat) (x3 : Nat) (x4 : Nat) (x5 : Nat) (x6 : Nat) (x7 : Nat) (x8 : Nat) (x9 : Nat) (x10 : Nat) (x11 : Nat) (x12 : Nat) (x13 : Nat) (x14 : Int32) (M : zM) (o : Int32 × zM), fL_reads_85 k31 n x0 x1 x2 x3 x4 x5 x6 x7 x8 x9 x10 x11 x12 x13 x14 M = some o → zV false l RL cL_reads 15 none false 6 0 0 D T zE0 b gr n0 (0, o.1, o.2) 0 0 85 [(0, zr b x0), (1, zr b x1), (2, zr b x2), (3, zr b x3), (4, zr b x4), (5, zr b x5), (6, zr b x6), (7, zr b x7), (8, zr b x8), (9, zr b x9), (10, zr b x10), (11, zr b x11), (12, zr b x12), (13, zr b x13), (14, .int x14)] [] M := by
  intro n
  induction n with
  | zero =>
    intro x0 x1 x2 x3 x4 x5 x6 x7 x8 x9 x10 x11 x12 x13 x14 M o h
    rw [fL_reads_85] at h
    cases h
  | succ n ih =>
    intro x0 x1 x2 x3 x4 x5 x6 x7 x8 x9 x10 x11 x12 x13 x14 M o h
    rw [fL_reads_85] at h
    refine zV_iload (j := 14) dL_reads_85 rfl ?_
    refine zV_aload (j := 5) dL_reads_87 rfl ?_
    refine zV_bipush (v := 14) dL_reads_89 (by decide) ?_
    refine zV_aload (j := 5) dL_reads_91 rfl ?_
    refine zV_bipush (v := 7) dL_reads_93 (by decide) ?_
    obtain ⟨g26, h⟩ := zg_of h
    obtain ⟨g27, h⟩ := zg_of h
    refine zV_iald dL_reads_95 g26 g27 ?_
    refine zV_iadd dL_reads_96 ?_
    obtain ⟨g28, h⟩ := zg_of h
    refine zV_iald dL_reads_97 g26 g28 ?_
    refine zV_icmp_ge (tgt := 115) dL_reads_98 (by decide) (fun c29 => ?_) (fun c29 => ?_)
    · replace h := z_t c29 h
      refine zV_pk [0, 1, 2, 3, 4, 5, 6, 7, 8, 9, 10, 11, 12, 13] rfl ?_
      exact vL_reads_115 k31 hk31 x0 x1 x2 x3 x4 x5 x6 x7 x8 x9 x10 x11 x12 x13 M _ h
    · replace h := z_f c29 h
      refine zV_aload (j := 5) dL_reads_101 rfl ?_
      refine zV_aload (j := 12) dL_reads_103 rfl ?_
      refine zV_iconst (v := 5) dL_reads_105 (by decide) ?_
      obtain ⟨r30, M31, q32, h⟩ := zb_of h
      refine zV_callSv (As := [zr b x5, zr b x12, .int 5]) (rest := []) (vL_fails l D T b gr x5 x12 5 M _ _ q32) zm_yL_fails zl_RL_47 zs_yL_fails rfl rfl (zcs trivial (Nat.le_of_ble_eq_true rfl)) (by decide) (by decide) (by decide) dL_reads_106 ?_
      obtain ⟨u33, e34⟩ : ∃ y : Int32, y = x14 + 1 := ⟨_, rfl⟩
      replace h := zlet_of h e34
      refine zV_iinc (j := 14) (v := u33) [(14, .int u33), (0, zr b x0), (1, zr b x1), (2, zr b x2), (3, zr b x3), (4, zr b x4), (5, zr b x5), (6, zr b x6), (7, zr b x7), (8, zr b x8), (9, zr b x9), (10, zr b x10), (11, zr b x11), (12, zr b x12), (13, zr b x13)] dL_reads_109 rfl (by rw [e34]; rfl) (by decide) rfl rfl ?_
      refine zV_goto (tgt := 85) dL_reads_112 (by decide) ?_
      refine zV_pk [1, 2, 3, 4, 5, 6, 7, 8, 9, 10, 11, 12, 13, 14, 0] rfl ?_
      exact ih x0 x1 x2 x3 x4 x5 x6 x7 x8 x9 x10 x11 x12 x13 u33 M31 _ h
set_option maxHeartbeats 4000000 in
set_option maxRecDepth 100000 in
theorem vL_reads_52 {l : Launch} {D : va_G} {T : Nat → ClassId} {b : Nat} {gr : Bool} {n0 : Nat} (k31 : Nat → Nat → Nat → Nat → Nat → Nat → Nat → Nat → Nat → Nat → Nat → Nat → Nat → Nat → zM → Option (Int32 × zM)) (hk31 : ∀ (z0 : Nat) (z1 : Nat) (z2 : Nat) (z3 : Nat) (z4 : Nat) (z5 : Nat) (z6 : Nat) (z7 : Nat) (z8 : Nat) (z9 : Nat) (z10 : Nat) (z11 : Nat) (z12 : Nat) (z13 : Nat) (N : zM) (o : Int32 × zM), k31 z0 z1 z2 z3 z4 z5 z6 z7 z8 z9 z10 z11 z12 z13 N = some o → zV false l RL cL_reads 15 none false 6 0 0 D T zE0 b gr n0 (0, o.1, o.2) 0 0 31 [(0, zr b z0), (1, zr b z1), (2, zr b z2), (3, zr b z3), (4, zr b z4), (5, zr b z5), (6, zr b z6), (7, zr b z7), (8, zr b z8), (9, zr b z9), (10, zr b z10), (11, zr b z11), (12, zr b z12), (13, zr b z13)] [] N) (x0 : Nat) (x1 : Nat) (x2 : Nat) (x3 : Nat) (x4 : Nat) (x5 : Nat) (x6 : Nat) (x7 : Nat) (x8 : Nat) (x9 : Nat) (x10 : Nat) (x11 : Nat) (x12 : Nat) (x13 : Nat) (M : zM) (o : Int32 × zM) (h : fL_reads_52 k31 x0 x1 x2 x3 x4 x5 x6 x7 x8 x9 x10 x11 x12 x13 M = some o) : zV false l RL cL_reads 15 none false 6 0 0 D T zE0 b gr n0 (0, o.1, o.2) 0 0 52 [(0, zr b x0), (1, zr b x1), (2, zr b x2), (3, zr b x3), (4, zr b x4), (5, zr b x5), (6, zr b x6), (7, zr b x7), (8, zr b x8), (9, zr b x9), (10, zr b x10), (11, zr b x11), (12, zr b x12), (13, zr b x13)] [] M := by
  unfold fL_reads_52 at h
  refine zV_aload (j := 5) dL_reads_52 rfl ?_
  refine zV_bipush (v := 6) dL_reads_54 (by decide) ?_
  obtain ⟨g35, h⟩ := zg_of h
  obtain ⟨g36, h⟩ := zg_of h
  refine zV_iald dL_reads_56 g35 g36 ?_
  refine zV_if_ne (tgt := 164) dL_reads_57 (by decide) (fun c37 => ?_) (fun c37 => ?_)
  · replace h := z_f c37 h
    refine zV_pk [0, 1, 2, 4, 5, 6, 12] rfl ?_
    exact vL_reads_164 x0 x1 x2 x4 x5 x6 x12 M _ h
  · replace h := z_t c37 h
    refine zV_aload_n (j := 3) dL_reads_60 rfl rfl ?_
    refine zV_aload (j := 4) dL_reads_61 rfl ?_
    refine zV_aload (j := 5) dL_reads_63 rfl ?_
    refine zV_aload (j := 5) dL_reads_65 rfl ?_
    refine zV_bipush (v := 8) dL_reads_67 (by decide) ?_
    refine zV_aload (j := 5) dL_reads_69 rfl ?_
    refine zV_bipush (v := 7) dL_reads_71 (by decide) ?_
    obtain ⟨g38, h⟩ := zg_of h
    refine zV_iald dL_reads_73 g35 g38 ?_
    refine zV_iadd dL_reads_74 ?_
    obtain ⟨g39, h⟩ := zg_of h
    refine zV_iald dL_reads_75 g35 g39 ?_
    obtain ⟨r40, M41, q42, h⟩ := zb_of h
    refine zV_callSi (As := [zr b x3, zr b x4, zr b x5, .int (zI M x5 (8 + (zI M x5 (7 : Int32).toNatClampNeg)).toNatClampNeg)]) (rest := []) (vL_token l D T b gr x3 x4 x5 (zI M x5 (8 + (zI M x5 (7 : Int32).toNatClampNeg)).toNatClampNeg) M _ _ q42) zm_yL_token zl_RL_51 zs_yL_token rfl rfl (zcs trivial (Nat.le_of_ble_eq_true rfl)) (by decide) (by decide) (by decide) dL_reads_76 ?_
    refine zV_if_ge (tgt := 127) dL_reads_79 (by decide) (fun c43 => ?_) (fun c43 => ?_)
    · replace h := z_t c43 h
      refine zV_aload_n (j := 0) dL_reads_127 rfl rfl ?_
      refine zV_aload_n (j := 1) dL_reads_128 rfl rfl ?_
      refine zV_aload_n (j := 2) dL_reads_129 rfl rfl ?_
      refine zV_aload_n (j := 3) dL_reads_130 rfl rfl ?_
      refine zV_aload (j := 4) dL_reads_131 rfl ?_
      refine zV_aload (j := 5) dL_reads_133 rfl ?_
      refine zV_aload (j := 6) dL_reads_135 rfl ?_
      refine zV_aload (j := 7) dL_reads_137 rfl ?_
      refine zV_aload (j := 8) dL_reads_139 rfl ?_
      refine zV_aload (j := 9) dL_reads_141 rfl ?_
      refine zV_aload (j := 10) dL_reads_143 rfl ?_
      refine zV_aload (j := 11) dL_reads_145 rfl ?_
      refine zV_aload (j := 12) dL_reads_147 rfl ?_
      obtain ⟨r44, M45, q46, h⟩ := zb_of h
      refine zV_callSv (As := [zr b x0, zr b x1, zr b x2, zr b x3, zr b x4, zr b x5, zr b x6, zr b x7, zr b x8, zr b x9, zr b x10, zr b x11, zr b x12]) (rest := []) (vL_one l D T b gr x0 x1 x2 x3 x4 x5 x6 x7 x8 x9 x10 x11 x12 M41 _ _ q46) zm_yL_one zl_RL_71 zs_yL_one rfl rfl (zcs trivial (Nat.le_of_ble_eq_true rfl)) (by decide) (by decide) (by decide) dL_reads_149 ?_
      exact vL_reads_152 k31 hk31 x0 x1 x2 x3 x4 x5 x6 x7 x8 x9 x10 x11 x12 x13 M45 _ h
    · replace h := z_f c43 h
      refine zV_iconst (v := 0) dL_reads_82 (by decide) ?_
      refine zV_istore [(14, .int 0), (0, zr b x0), (1, zr b x1), (2, zr b x2), (3, zr b x3), (4, zr b x4), (5, zr b x5), (6, zr b x6), (7, zr b x7), (8, zr b x8), (9, zr b x9), (10, zr b x10), (11, zr b x11), (12, zr b x12), (13, zr b x13)] dL_reads_83 (by decide) rfl rfl ?_
      refine zV_pk [1, 2, 3, 4, 5, 6, 7, 8, 9, 10, 11, 12, 13, 14, 0] rfl ?_
      exact vL_reads_85 k31 hk31 10000 x0 x1 x2 x3 x4 x5 x6 x7 x8 x9 x10 x11 x12 x13 0 M41 _ h
set_option maxHeartbeats 4000000 in
set_option maxRecDepth 100000 in
theorem vL_reads_31 {l : Launch} {D : va_G} {T : Nat → ClassId} {b : Nat} {gr : Bool} {n0 : Nat} : ∀ (n : Nat) (x0 : Nat) (x1 : Nat) (x2 : Nat) (x3 : Nat) (x4 : Nat) (x5 : Nat) (x6 : Nat) (x7 : Nat) (x8 : Nat) (x9 : Nat) (x10 : Nat) (x11 : Nat) (x12 : Nat) (x13 : Nat) (M : zM) (o : Int32 × zM), fL_reads_31 n x0 x1 x2 x3 x4 x5 x6 x7 x8 x9 x10 x11 x12 x13 M = some o → zV false l RL cL_reads 15 none false 6 0 0 D T zE0 b gr n0 (0, o.1, o.2) 0 0 31 [(0, zr b x0), (1, zr b x1), (2, zr b x2), (3, zr b x3), (4, zr b x4), (5, zr b x5), (6, zr b x6), (7, zr b x7), (8, zr b x8), (9, zr b x9), (10, zr b x10), (11, zr b x11), (12, zr b x12), (13, zr b x13)] [] M := by
  intro n
  induction n with
  | zero =>
    intro x0 x1 x2 x3 x4 x5 x6 x7 x8 x9 x10 x11 x12 x13 M o h
    rw [fL_reads_31] at h
    cases h
  | succ n ih =>
    intro x0 x1 x2 x3 x4 x5 x6 x7 x8 x9 x10 x11 x12 x13 M o h
    rw [fL_reads_31] at h
    refine zV_aload (j := 5) dL_reads_31 rfl ?_
    refine zV_bipush (v := 7) dL_reads_33 (by decide) ?_
    obtain ⟨g47, h⟩ := zg_of h
    obtain ⟨g48, h⟩ := zg_of h
    refine zV_iald dL_reads_35 g47 g48 ?_
    refine zV_if_gt (tgt := 52) dL_reads_36 (by decide) (fun c49 => ?_) (fun c49 => ?_)
    · replace h := z_t c49 h
      exact vL_reads_52 (fL_reads_31 n) ih x0 x1 x2 x3 x4 x5 x6 x7 x8 x9 x10 x11 x12 x13 M _ h
    · replace h := z_f c49 h
      refine zV_aload (j := 5) dL_reads_39 rfl ?_
      refine zV_bipush (v := 8) dL_reads_41 (by decide) ?_
      obtain ⟨g50, h⟩ := zg_of h
      refine zV_iald dL_reads_43 g47 g50 ?_
      refine zV_aload (j := 4) dL_reads_44 rfl ?_
      refine zV_bipush (v := 20) dL_reads_46 (by decide) ?_
      obtain ⟨g51, h⟩ := zg_of h
      obtain ⟨g52, h⟩ := zg_of h
      refine zV_iald dL_reads_48 g51 g52 ?_
      refine zV_icmp_ge (tgt := 164) dL_reads_49 (by decide) (fun c53 => ?_) (fun c53 => ?_)
      · replace h := z_t c53 h
        refine zV_pk [0, 1, 2, 4, 5, 6, 12] rfl ?_
        exact vL_reads_164 x0 x1 x2 x4 x5 x6 x12 M _ h
      · replace h := z_f c53 h
        exact vL_reads_52 (fL_reads_31 n) ih x0 x1 x2 x3 x4 x5 x6 x7 x8 x9 x10 x11 x12 x13 M _ h
set_option maxHeartbeats 4000000 in
set_option maxRecDepth 100000 in
theorem vL_reads_22 {l : Launch} {D : va_G} {T : Nat → ClassId} {b : Nat} {gr : Bool} {n0 : Nat} (x0 : Nat) (x1 : Nat) (x2 : Nat) (x3 : Nat) (x4 : Nat) (x5 : Nat) (x6 : Nat) (x7 : Nat) (x8 : Nat) (x9 : Nat) (x10 : Nat) (x11 : Nat) (x12 : Nat) (x13 : Nat) (M : zM) (o : Int32 × zM) (h : fL_reads_22 x0 x1 x2 x3 x4 x5 x6 x7 x8 x9 x10 x11 x12 x13 M = some o) : zV false l RL cL_reads 15 none false 6 0 0 D T zE0 b gr n0 (0, o.1, o.2) 0 0 22 [(0, zr b x0), (1, zr b x1), (2, zr b x2), (3, zr b x3), (4, zr b x4), (5, zr b x5), (6, zr b x6), (7, zr b x7), (8, zr b x8), (9, zr b x9), (10, zr b x10), (11, zr b x11), (12, zr b x12), (13, zr b x13)] [] M := by
  unfold fL_reads_22 at h
  refine zV_aload (j := 5) dL_reads_22 rfl ?_
  refine zV_aload (j := 6) dL_reads_24 rfl ?_
  refine zV_aload (j := 13) dL_reads_26 rfl ?_
  obtain ⟨r54, M55, q56, h⟩ := zb_of h
  refine zV_callSv (As := [zr b x5, zr b x6, zr b x13]) (rest := []) (vL_keep l D T b gr x5 x6 x13 M _ _ q56) zm_yL_keep zl_RL_67 zs_yL_keep rfl rfl (zcs trivial (Nat.le_of_ble_eq_true rfl)) (by decide) (by decide) (by decide) dL_reads_28 ?_
  exact vL_reads_31 10000 x0 x1 x2 x3 x4 x5 x6 x7 x8 x9 x10 x11 x12 x13 M55 _ h
set_option maxHeartbeats 4000000 in
set_option maxRecDepth 100000 in
theorem vL_reads_3 {l : Launch} {D : va_G} {T : Nat → ClassId} {b : Nat} {gr : Bool} {n0 : Nat} : ∀ (n : Nat) (x0 : Nat) (x1 : Nat) (x2 : Nat) (x3 : Nat) (x4 : Nat) (x5 : Nat) (x6 : Nat) (x7 : Nat) (x8 : Nat) (x9 : Nat) (x10 : Nat) (x11 : Nat) (x12 : Nat) (x13 : Nat) (x14 : Int32) (M : zM) (o : Int32 × zM), fL_reads_3 n x0 x1 x2 x3 x4 x5 x6 x7 x8 x9 x10 x11 x12 x13 x14 M = some o → zV false l RL cL_reads 15 none false 6 0 0 D T zE0 b gr n0 (0, o.1, o.2) 0 0 3 [(0, zr b x0), (1, zr b x1), (2, zr b x2), (3, zr b x3), (4, zr b x4), (5, zr b x5), (6, zr b x6), (7, zr b x7), (8, zr b x8), (9, zr b x9), (10, zr b x10), (11, zr b x11), (12, zr b x12), (13, zr b x13), (14, .int x14)] [] M := by
  intro n
  induction n with
  | zero =>
    intro x0 x1 x2 x3 x4 x5 x6 x7 x8 x9 x10 x11 x12 x13 x14 M o h
    rw [fL_reads_3] at h
    cases h
  | succ n ih =>
    intro x0 x1 x2 x3 x4 x5 x6 x7 x8 x9 x10 x11 x12 x13 x14 M o h
    rw [fL_reads_3] at h
    refine zV_iload (j := 14) dL_reads_3 rfl ?_
    refine zV_bipush (v := 20) dL_reads_5 (by decide) ?_
    refine zV_icmp_ge (tgt := 22) dL_reads_7 (by decide) (fun c57 => ?_) (fun c57 => ?_)
    · replace h := z_t c57 h
      refine zV_pk [0, 1, 2, 3, 4, 5, 6, 7, 8, 9, 10, 11, 12, 13] rfl ?_
      exact vL_reads_22 x0 x1 x2 x3 x4 x5 x6 x7 x8 x9 x10 x11 x12 x13 M _ h
    · replace h := z_f c57 h
      refine zV_aload (j := 5) dL_reads_10 rfl ?_
      refine zV_iload (j := 14) dL_reads_12 rfl ?_
      refine zV_iconst (v := 0) dL_reads_14 (by decide) ?_
      obtain ⟨g58, h⟩ := zg_of h
      obtain ⟨g59, h⟩ := zg_of h
      refine zV_iast dL_reads_15 g58 g59 ?_
      refine zV_mem (fun M60 e61 => ?_)
      replace h := zlet_of h e61
      obtain ⟨u62, e63⟩ : ∃ y : Int32, y = x14 + 1 := ⟨_, rfl⟩
      replace h := zlet_of h e63
      refine zV_iinc (j := 14) (v := u62) [(14, .int u62), (0, zr b x0), (1, zr b x1), (2, zr b x2), (3, zr b x3), (4, zr b x4), (5, zr b x5), (6, zr b x6), (7, zr b x7), (8, zr b x8), (9, zr b x9), (10, zr b x10), (11, zr b x11), (12, zr b x12), (13, zr b x13)] dL_reads_16 rfl (by rw [e63]; rfl) (by decide) rfl rfl ?_
      refine zV_goto (tgt := 3) dL_reads_19 (by decide) ?_
      refine zV_pk [1, 2, 3, 4, 5, 6, 7, 8, 9, 10, 11, 12, 13, 14, 0] rfl ?_
      exact ih x0 x1 x2 x3 x4 x5 x6 x7 x8 x9 x10 x11 x12 x13 u62 M60 _ h
set_option maxHeartbeats 4000000 in
set_option maxRecDepth 100000 in
theorem vL_reads (l : Launch) (D : va_G) (T : Nat → ClassId) (b : Nat) (gr : Bool) (x0 : Nat) (x1 : Nat) (x2 : Nat) (x3 : Nat) (x4 : Nat) (x5 : Nat) (x6 : Nat) (x7 : Nat) (x8 : Nat) (x9 : Nat) (x10 : Nat) (x11 : Nat) (x12 : Nat) (x13 : Nat) (M : zM) (r : Int32) (M' : zM) (h : fL_reads x0 x1 x2 x3 x4 x5 x6 x7 x8 x9 x10 x11 x12 x13 M = some (r, M')) : zMet l D T b gr yL_reads cL_reads 15 none 6 0 0 [zr b x0, zr b x1, zr b x2, zr b x3, zr b x4, zr b x5, zr b x6, zr b x7, zr b x8, zr b x9, zr b x10, zr b x11, zr b x12, zr b x13] M (0, r, M') := by
  refine zEntry2 (ev := zE0) rfl false (fun h9 => nomatch h9) zp_yL_reads ⟨zr_cat _ _, zr_cat _ _, zr_cat _ _, zr_cat _ _, zr_cat _ _, zr_cat _ _, zr_cat _ _, zr_cat _ _, zr_cat _ _, zr_cat _ _, zr_cat _ _, zr_cat _ _, zr_cat _ _, zr_cat _ _, trivial⟩ (Nat.le_of_ble_eq_true rfl) ?_
  obtain ⟨o, ho⟩ : ∃ o : Int32 × zM, o = (r, M') := ⟨_, rfl⟩
  rw [← ho] at h
  rw [show ((0, r, M') : Nat × Int32 × zM) = (0, o.1, o.2) by rw [ho]]
  show zV false l RL cL_reads 15 none false 6 0 0 D T zE0 b gr M.2.2.2 (0, o.1, o.2) 0 0 0 [(0, zr b x0), (1, zr b x1), (2, zr b x2), (3, zr b x3), (4, zr b x4), (5, zr b x5), (6, zr b x6), (7, zr b x7), (8, zr b x8), (9, zr b x9), (10, zr b x10), (11, zr b x11), (12, zr b x12), (13, zr b x13)] [] M
  unfold fL_reads at h
  refine zV_iconst (v := 0) dL_reads_0 (by decide) ?_
  refine zV_istore [(14, .int 0), (0, zr b x0), (1, zr b x1), (2, zr b x2), (3, zr b x3), (4, zr b x4), (5, zr b x5), (6, zr b x6), (7, zr b x7), (8, zr b x8), (9, zr b x9), (10, zr b x10), (11, zr b x11), (12, zr b x12), (13, zr b x13)] dL_reads_1 (by decide) rfl rfl ?_
  refine zV_pk [1, 2, 3, 4, 5, 6, 7, 8, 9, 10, 11, 12, 13, 14, 0] rfl ?_
  exact vL_reads_3 10000 x0 x1 x2 x3 x4 x5 x6 x7 x8 x9 x10 x11 x12 x13 0 M _ h
set_option maxHeartbeats 4000000 in
set_option maxRecDepth 100000 in
theorem vL_isTree_278 {l : Launch} {D : va_G} {T : Nat → ClassId} {b : Nat} {gr : Bool} {n0 : Nat} (s0 : Int32) (s1 : Int32) (M : zM) (o : Int32 × zM) (h : fL_isTree_278 s0 s1 M = some o) : zV false l RL cL_isTree 11 (some .boolean) false 8 0 0 D T zE0 b gr n0 (0, o.1, o.2) 0 0 278 [] [.int s1, .int s0] M := by
  unfold fL_isTree_278 at h
  refine zV_icmp_ne (tgt := 285) dL_isTree_278 (by decide) (fun c1 => ?_) (fun c1 => ?_)
  · replace h := z_f c1 h
    refine zV_iconst (v := 0) dL_isTree_285 (by decide) ?_
    exact zV_zret rfl dL_isTree_286 (by decide) (by decide) (Or.inl rfl) (z_ret h)
  · replace h := z_t c1 h
    refine zV_iconst (v := 1) dL_isTree_281 (by decide) ?_
    refine zV_goto (tgt := 286) dL_isTree_282 (by decide) ?_
    exact zV_zret rfl dL_isTree_286 (by decide) (by decide) (Or.inr rfl) (z_ret h)
set_option maxHeartbeats 4000000 in
set_option maxRecDepth 100000 in
theorem vL_isTree_239 {l : Launch} {D : va_G} {T : Nat → ClassId} {b : Nat} {gr : Bool} {n0 : Nat} (x0 : Nat) (x7 : Int32) (x8 : Int32) (x9 : Int32) (M : zM) (o : Int32 × zM) (h : fL_isTree_239 x0 x7 x8 x9 M = some o) : zV false l RL cL_isTree 11 (some .boolean) false 8 0 0 D T zE0 b gr n0 (0, o.1, o.2) 0 0 239 [(0, zr b x0), (7, .int x7), (8, .int x8), (9, .int x9)] [] M := by
  unfold fL_isTree_239 at h
  refine zV_iload (j := 1) dL_isTree_239 rfl ?_
  refine zV_if_eq (tgt := 285) dL_isTree_241 (by decide) (fun c2 => ?_) (fun c2 => ?_)
  · replace h := z_t c2 h
    refine zV_iconst (v := 0) dL_isTree_285 (by decide) ?_
    exact zV_zret rfl dL_isTree_286 (by decide) (by decide) (Or.inl rfl) (z_ret h)
  · replace h := z_f c2 h
    refine zV_aload_n (j := 0) dL_isTree_244 rfl rfl ?_
    obtain ⟨g3, h⟩ := zg_of h
    obtain ⟨g7, h⟩ := zg_of h
    obtain ⟨r4, M5z, q6, h⟩ := zbd_of h
    refine zV_cutVi (ci := 7) (As := []) (rest := []) (vX7_normal l D T b false x0 (zcut M) _ _ q6) zm_yX7_normal zl_RL_111 zi_yX7_normal ze_yX7_normal zcI7 g3 g7 rfl rfl (zcs trivial (Nat.le_of_ble_eq_true rfl)) (by decide) (Nat.le_of_ble_eq_true rfl) (Nat.le_of_ble_eq_true rfl) dL_isTree_245 ?_
    refine zV_mem (fun M5 M5e => ?_)
    rw [← M5e] at h
    refine zV_iload (j := 2) dL_isTree_248 rfl ?_
    refine zV_icmp_lt (tgt := 285) dL_isTree_250 (by decide) (fun c8 => ?_) (fun c8 => ?_)
    · replace h := z_t c8 h
      refine zV_iconst (v := 0) dL_isTree_285 (by decide) ?_
      exact zV_zret rfl dL_isTree_286 (by decide) (by decide) (Or.inl rfl) (z_ret h)
    · replace h := z_f c8 h
      refine zV_aload_n (j := 0) dL_isTree_253 rfl rfl ?_
      obtain ⟨g9, h⟩ := zg_of h
      obtain ⟨g13, h⟩ := zg_of h
      obtain ⟨r10, M11z, q12, h⟩ := zbd_of h
      refine zV_cutVi (ci := 7) (As := []) (rest := []) (vX7_normal l D T b false x0 (zcut M5) _ _ q12) zm_yX7_normal zl_RL_111 zi_yX7_normal ze_yX7_normal zcI7 g9 g13 rfl rfl (zcs trivial (Nat.le_of_ble_eq_true rfl)) (by decide) (Nat.le_of_ble_eq_true rfl) (Nat.le_of_ble_eq_true rfl) dL_isTree_254 ?_
      refine zV_mem (fun M11 M11e => ?_)
      rw [← M11e] at h
      refine zV_iconst (v := 2) dL_isTree_257 (by decide) ?_
      refine zV_iload (j := 2) dL_isTree_258 rfl ?_
      refine zV_imul dL_isTree_260 ?_
      refine zV_icmp_gt (tgt := 285) dL_isTree_261 (by decide) (fun c14 => ?_) (fun c14 => ?_)
      · replace h := z_t c14 h
        refine zV_iconst (v := 0) dL_isTree_285 (by decide) ?_
        exact zV_zret rfl dL_isTree_286 (by decide) (by decide) (Or.inl rfl) (z_ret h)
      · replace h := z_f c14 h
        refine zV_aload_n (j := 0) dL_isTree_264 rfl rfl ?_
        obtain ⟨g15, h⟩ := zg_of h
        obtain ⟨g19, h⟩ := zg_of h
        obtain ⟨r16, M17z, q18, h⟩ := zbd_of h
        refine zV_cutVi (ci := 7) (As := []) (rest := []) (vX7_isSame l D T b false x0 (zcut M11) _ _ q18) zm_yX7_isSame zl_RL_114 zi_yX7_isSame ze_yX7_isSame zcI7 g15 g19 rfl rfl (zcs trivial (Nat.le_of_ble_eq_true rfl)) (by decide) (Nat.le_of_ble_eq_true rfl) (Nat.le_of_ble_eq_true rfl) dL_isTree_265 ?_
        refine zV_mem (fun M17 M17e => ?_)
        rw [← M17e] at h
        refine zV_iload (j := 3) dL_isTree_268 rfl ?_
        refine zV_if_ne (tgt := 277) dL_isTree_270 (by decide) (fun c20 => ?_) (fun c20 => ?_)
        · replace h := z_f c20 h
          refine zV_iconst (v := 0) dL_isTree_277 (by decide) ?_
          refine zV_pk [] rfl ?_
          exact vL_isTree_278 r16 0 M17 _ h
        · replace h := z_t c20 h
          refine zV_iconst (v := 1) dL_isTree_273 (by decide) ?_
          refine zV_goto (tgt := 278) dL_isTree_274 (by decide) ?_
          refine zV_pk [] rfl ?_
          exact vL_isTree_278 r16 1 M17 _ h
set_option maxHeartbeats 4000000 in
set_option maxRecDepth 100000 in
theorem vL_isTree_231 {l : Launch} {D : va_G} {T : Nat → ClassId} {b : Nat} {gr : Bool} {n0 : Nat} (k157 : Nat → Nat → Nat → Int32 → Int32 → Int32 → Int32 → zM → Option (Int32 × zM)) (hk157 : ∀ (z0 : Nat) (z1 : Nat) (z6 : Nat) (z7 : Int32) (z8 : Int32) (z9 : Int32) (z10 : Int32) (N : zM) (o : Int32 × zM), k157 z0 z1 z6 z7 z8 z9 z10 N = some o → zV false l RL cL_isTree 11 (some .boolean) false 8 0 0 D T zE0 b gr n0 (0, o.1, o.2) 0 0 157 [(0, zr b z0), (1, zr b z1), (6, zr b z6), (7, .int z7), (8, .int z8), (9, .int z9), (10, .int z10)] [] N) (x0 : Nat) (x1 : Nat) (x6 : Nat) (x8 : Int32) (x9 : Int32) (x10 : Int32) (s0 : Int32) (M : zM) (o : Int32 × zM) (h : fL_isTree_231 k157 x0 x1 x6 x8 x9 x10 s0 M = some o) : zV false l RL cL_isTree 11 (some .boolean) false 8 0 0 D T zE0 b gr n0 (0, o.1, o.2) 0 0 231 [(0, zr b x0), (1, zr b x1), (6, zr b x6), (8, .int x8), (9, .int x9), (10, .int x10)] [.int s0] M := by
  unfold fL_isTree_231 at h
  refine zV_istore [(7, .int s0), (0, zr b x0), (1, zr b x1), (6, zr b x6), (8, .int x8), (9, .int x9), (10, .int x10)] dL_isTree_231 (by decide) rfl rfl ?_
  obtain ⟨u21, e22⟩ : ∃ y : Int32, y = x10 + 1 := ⟨_, rfl⟩
  replace h := zlet_of h e22
  refine zV_iinc (j := 6) (v := u21) [(10, .int u21), (7, .int s0), (0, zr b x0), (1, zr b x1), (6, zr b x6), (8, .int x8), (9, .int x9)] dL_isTree_233 rfl (by rw [e22]; rfl) (by decide) rfl rfl ?_
  refine zV_goto (tgt := 157) dL_isTree_236 (by decide) ?_
  refine zV_pk [2, 3, 4, 1, 5, 6, 0] rfl ?_
  exact hk157 x0 x1 x6 s0 x8 x9 u21 M _ h
set_option maxHeartbeats 4000000 in
set_option maxRecDepth 100000 in
theorem vL_isTree_230 {l : Launch} {D : va_G} {T : Nat → ClassId} {b : Nat} {gr : Bool} {n0 : Nat} (k157 : Nat → Nat → Nat → Int32 → Int32 → Int32 → Int32 → zM → Option (Int32 × zM)) (hk157 : ∀ (z0 : Nat) (z1 : Nat) (z6 : Nat) (z7 : Int32) (z8 : Int32) (z9 : Int32) (z10 : Int32) (N : zM) (o : Int32 × zM), k157 z0 z1 z6 z7 z8 z9 z10 N = some o → zV false l RL cL_isTree 11 (some .boolean) false 8 0 0 D T zE0 b gr n0 (0, o.1, o.2) 0 0 157 [(0, zr b z0), (1, zr b z1), (6, zr b z6), (7, .int z7), (8, .int z8), (9, .int z9), (10, .int z10)] [] N) (x0 : Nat) (x1 : Nat) (x6 : Nat) (x8 : Int32) (x9 : Int32) (x10 : Int32) (M : zM) (o : Int32 × zM) (h : fL_isTree_230 k157 x0 x1 x6 x8 x9 x10 M = some o) : zV false l RL cL_isTree 11 (some .boolean) false 8 0 0 D T zE0 b gr n0 (0, o.1, o.2) 0 0 230 [(0, zr b x0), (1, zr b x1), (6, zr b x6), (8, .int x8), (9, .int x9), (10, .int x10)] [] M := by
  unfold fL_isTree_230 at h
  refine zV_iconst (v := 0) dL_isTree_230 (by decide) ?_
  exact vL_isTree_231 k157 hk157 x0 x1 x6 x8 x9 x10 0 M _ h
set_option maxHeartbeats 4000000 in
set_option maxRecDepth 100000 in
theorem vL_isTree_189 {l : Launch} {D : va_G} {T : Nat → ClassId} {b : Nat} {gr : Bool} {n0 : Nat} (k157 : Nat → Nat → Nat → Int32 → Int32 → Int32 → Int32 → zM → Option (Int32 × zM)) (hk157 : ∀ (z0 : Nat) (z1 : Nat) (z6 : Nat) (z7 : Int32) (z8 : Int32) (z9 : Int32) (z10 : Int32) (N : zM) (o : Int32 × zM), k157 z0 z1 z6 z7 z8 z9 z10 N = some o → zV false l RL cL_isTree 11 (some .boolean) false 8 0 0 D T zE0 b gr n0 (0, o.1, o.2) 0 0 157 [(0, zr b z0), (1, zr b z1), (6, zr b z6), (7, .int z7), (8, .int z8), (9, .int z9), (10, .int z10)] [] N) (x0 : Nat) (x1 : Nat) (x6 : Nat) (x8 : Int32) (x10 : Int32) (s0 : Int32) (s1 : Int32) (M : zM) (o : Int32 × zM) (h : fL_isTree_189 k157 x0 x1 x6 x8 x10 s0 s1 M = some o) : zV false l RL cL_isTree 11 (some .boolean) false 8 0 0 D T zE0 b gr n0 (0, o.1, o.2) 0 0 189 [(0, zr b x0), (1, zr b x1), (6, zr b x6), (8, .int x8), (10, .int x10)] [.int s1, .int s0] M := by
  unfold fL_isTree_189 at h
  refine zV_iadd dL_isTree_189 ?_
  refine zV_top (fun u23 e24 => ?_)
  replace h := zlet_of h e24
  refine zV_istore [(9, .int u23), (0, zr b x0), (1, zr b x1), (6, zr b x6), (8, .int x8), (10, .int x10)] dL_isTree_190 (by decide) rfl rfl ?_
  refine zV_aload_n (j := 1) dL_isTree_192 rfl rfl ?_
  refine zV_iload (j := 5) dL_isTree_193 rfl ?_
  obtain ⟨g25, h⟩ := zg_of h
  obtain ⟨g29, h⟩ := zg_of h
  obtain ⟨r26, M27z, q28, h⟩ := zbc_of h
  refine zV_cutVi (ci := 7) (As := [.int x10]) (rest := []) (vX7_errorKind l D T b false x0 x10 (zcut M) _ _ q28) zm_yX7_errorKind zl_RL_105 zi_yX7_errorKind ze_yX7_errorKind zcI7 g25 g29 rfl rfl (zcs trivial (Nat.le_of_ble_eq_true rfl)) (by decide) (Nat.le_of_ble_eq_true rfl) (Nat.le_of_ble_eq_true rfl) dL_isTree_195 ?_
  refine zV_mem (fun M27 M27e => ?_)
  rw [← M27e] at h
  refine zV_aload (j := 3) dL_isTree_198 rfl ?_
  refine zV_iload (j := 5) dL_isTree_200 rfl ?_
  obtain ⟨g30, h⟩ := zg_of h
  obtain ⟨g31, h⟩ := zg_of h
  refine zV_iald dL_isTree_202 g30 g31 ?_
  refine zV_bipush (v := 64) dL_isTree_203 (by decide) ?_
  refine zV_idiv dL_isTree_205 (by decide) ?_
  refine zV_icmp_ne (tgt := 230) dL_isTree_206 (by decide) (fun c32 => ?_) (fun c32 => ?_)
  · replace h := z_f c32 h
    refine zV_pk [1, 2, 3, 4, 0, 5] rfl ?_
    exact vL_isTree_230 k157 hk157 x0 x1 x6 x8 u23 x10 M27 _ h
  · replace h := z_t c32 h
    refine zV_aload_n (j := 1) dL_isTree_209 rfl rfl ?_
    refine zV_iload (j := 5) dL_isTree_210 rfl ?_
    obtain ⟨g33, h⟩ := zg_of h
    obtain ⟨g37, h⟩ := zg_of h
    obtain ⟨r34, M35z, q36, h⟩ := zbc_of h
    refine zV_cutVi (ci := 7) (As := [.int x10]) (rest := []) (vX7_errorAt l D T b false x0 x10 (zcut M27) _ _ q36) zm_yX7_errorAt zl_RL_108 zi_yX7_errorAt ze_yX7_errorAt zcI7 g33 g37 rfl rfl (zcs trivial (Nat.le_of_ble_eq_true rfl)) (by decide) (Nat.le_of_ble_eq_true rfl) (Nat.le_of_ble_eq_true rfl) dL_isTree_212 ?_
    refine zV_mem (fun M35 M35e => ?_)
    rw [← M35e] at h
    refine zV_aload (j := 3) dL_isTree_215 rfl ?_
    refine zV_iload (j := 5) dL_isTree_217 rfl ?_
    obtain ⟨g38, h⟩ := zg_of h
    obtain ⟨g39, h⟩ := zg_of h
    refine zV_iald dL_isTree_219 g38 g39 ?_
    refine zV_bipush (v := 64) dL_isTree_220 (by decide) ?_
    refine zV_irem dL_isTree_222 (by decide) ?_
    refine zV_icmp_ne (tgt := 230) dL_isTree_223 (by decide) (fun c40 => ?_) (fun c40 => ?_)
    · replace h := z_f c40 h
      refine zV_pk [1, 2, 3, 4, 0, 5] rfl ?_
      exact vL_isTree_230 k157 hk157 x0 x1 x6 x8 u23 x10 M35 _ h
    · replace h := z_t c40 h
      refine zV_iconst (v := 1) dL_isTree_226 (by decide) ?_
      refine zV_goto (tgt := 231) dL_isTree_227 (by decide) ?_
      refine zV_pk [1, 2, 3, 4, 0, 5] rfl ?_
      exact vL_isTree_231 k157 hk157 x0 x1 x6 x8 u23 x10 1 M35 _ h
set_option maxHeartbeats 4000000 in
set_option maxRecDepth 100000 in
theorem vL_isTree_157 {l : Launch} {D : va_G} {T : Nat → ClassId} {b : Nat} {gr : Bool} {n0 : Nat} : ∀ (n : Nat) (x0 : Nat) (x1 : Nat) (x6 : Nat) (x7 : Int32) (x8 : Int32) (x9 : Int32) (x10 : Int32) (M : zM) (o : Int32 × zM), fL_isTree_157 n x0 x1 x6 x7 x8 x9 x10 M = some o → zV false l RL cL_isTree 11 (some .boolean) false 8 0 0 D T zE0 b gr n0 (0, o.1, o.2) 0 0 157 [(0, zr b x0), (1, zr b x1), (6, zr b x6), (7, .int x7), (8, .int x8), (9, .int x9), (10, .int x10)] [] M := by
  intro n
  induction n with
  | zero =>
    intro x0 x1 x6 x7 x8 x9 x10 M o h
    rw [fL_isTree_157] at h
    cases h
  | succ n ih =>
    intro x0 x1 x6 x7 x8 x9 x10 M o h
    rw [fL_isTree_157] at h
    refine zV_iload (j := 6) dL_isTree_157 rfl ?_
    refine zV_aload_n (j := 1) dL_isTree_159 rfl rfl ?_
    refine zV_iconst (v := 5) dL_isTree_160 (by decide) ?_
    obtain ⟨g41, h⟩ := zg_of h
    obtain ⟨g42, h⟩ := zg_of h
    refine zV_iald dL_isTree_161 g41 g42 ?_
    refine zV_icmp_ge (tgt := 239) dL_isTree_162 (by decide) (fun c43 => ?_) (fun c43 => ?_)
    · replace h := z_t c43 h
      refine zV_pk [0, 3, 4, 5] rfl ?_
      exact vL_isTree_239 x0 x7 x8 x9 M _ h
    · replace h := z_f c43 h
      refine zV_iload (j := 3) dL_isTree_165 rfl ?_
      refine zV_if_eq (tgt := 239) dL_isTree_167 (by decide) (fun c44 => ?_) (fun c44 => ?_)
      · replace h := z_t c44 h
        refine zV_pk [0, 3, 4, 5] rfl ?_
        exact vL_isTree_239 x0 x7 x8 x9 M _ h
      · replace h := z_f c44 h
        refine zV_iload (j := 5) dL_isTree_170 rfl ?_
        refine zV_aload (j := 2) dL_isTree_172 rfl ?_
        refine zV_iload (j := 6) dL_isTree_174 rfl ?_
        obtain ⟨g45, h⟩ := zg_of h
        obtain ⟨g46, h⟩ := zg_of h
        refine zV_iald dL_isTree_176 g45 g46 ?_
        refine zV_bipush (v := 64) dL_isTree_177 (by decide) ?_
        refine zV_idiv dL_isTree_179 (by decide) ?_
        refine zV_iconst (v := 2) dL_isTree_180 (by decide) ?_
        refine zV_icmp_ne (tgt := 188) dL_isTree_181 (by decide) (fun c47 => ?_) (fun c47 => ?_)
        · replace h := z_f c47 h
          refine zV_iconst (v := 0) dL_isTree_188 (by decide) ?_
          refine zV_pk [0, 1, 2, 4, 6] rfl ?_
          exact vL_isTree_189 (fL_isTree_157 n) ih x0 x1 x6 x8 x10 x9 0 M _ h
        · replace h := z_t c47 h
          refine zV_iconst (v := 1) dL_isTree_184 (by decide) ?_
          refine zV_goto (tgt := 189) dL_isTree_185 (by decide) ?_
          refine zV_pk [0, 1, 2, 4, 6] rfl ?_
          exact vL_isTree_189 (fL_isTree_157 n) ih x0 x1 x6 x8 x10 x9 1 M _ h
set_option maxHeartbeats 4000000 in
set_option maxRecDepth 100000 in
theorem vL_isTree_154 {l : Launch} {D : va_G} {T : Nat → ClassId} {b : Nat} {gr : Bool} {n0 : Nat} (x0 : Nat) (x1 : Nat) (x6 : Nat) (x7 : Int32) (x8 : Int32) (x9 : Int32) (M : zM) (o : Int32 × zM) (h : fL_isTree_154 x0 x1 x6 x7 x8 x9 M = some o) : zV false l RL cL_isTree 11 (some .boolean) false 8 0 0 D T zE0 b gr n0 (0, o.1, o.2) 0 0 154 [(0, zr b x0), (1, zr b x1), (6, zr b x6), (7, .int x7), (8, .int x8), (9, .int x9)] [] M := by
  unfold fL_isTree_154 at h
  refine zV_iconst (v := 0) dL_isTree_154 (by decide) ?_
  refine zV_istore [(10, .int 0), (0, zr b x0), (1, zr b x1), (6, zr b x6), (7, .int x7), (8, .int x8), (9, .int x9)] dL_isTree_155 (by decide) rfl rfl ?_
  refine zV_pk [1, 2, 3, 4, 5, 6, 0] rfl ?_
  exact vL_isTree_157 10000 x0 x1 x6 x7 x8 x9 0 M _ h
set_option maxHeartbeats 4000000 in
set_option maxRecDepth 100000 in
theorem vL_isTree_146 {l : Launch} {D : va_G} {T : Nat → ClassId} {b : Nat} {gr : Bool} {n0 : Nat} (k48 : Nat → Nat → Nat → Nat → Nat → Nat → Nat → Int32 → Int32 → Int32 → Int32 → zM → Option (Int32 × zM)) (hk48 : ∀ (z0 : Nat) (z1 : Nat) (z2 : Nat) (z3 : Nat) (z4 : Nat) (z5 : Nat) (z6 : Nat) (z7 : Int32) (z8 : Int32) (z9 : Int32) (z10 : Int32) (N : zM) (o : Int32 × zM), k48 z0 z1 z2 z3 z4 z5 z6 z7 z8 z9 z10 N = some o → zV false l RL cL_isTree 11 (some .boolean) false 8 0 0 D T zE0 b gr n0 (0, o.1, o.2) 0 0 48 [(0, zr b z0), (1, zr b z1), (2, zr b z2), (3, zr b z3), (4, zr b z4), (5, zr b z5), (6, zr b z6), (7, .int z7), (8, .int z8), (9, .int z9), (10, .int z10)] [] N) (x0 : Nat) (x1 : Nat) (x2 : Nat) (x3 : Nat) (x4 : Nat) (x5 : Nat) (x6 : Nat) (x8 : Int32) (x9 : Int32) (x10 : Int32) (s0 : Int32) (M : zM) (o : Int32 × zM) (h : fL_isTree_146 k48 x0 x1 x2 x3 x4 x5 x6 x8 x9 x10 s0 M = some o) : zV false l RL cL_isTree 11 (some .boolean) false 8 0 0 D T zE0 b gr n0 (0, o.1, o.2) 0 0 146 [(0, zr b x0), (1, zr b x1), (2, zr b x2), (3, zr b x3), (4, zr b x4), (5, zr b x5), (6, zr b x6), (8, .int x8), (9, .int x9), (10, .int x10)] [.int s0] M := by
  unfold fL_isTree_146 at h
  refine zV_istore [(7, .int s0), (0, zr b x0), (1, zr b x1), (2, zr b x2), (3, zr b x3), (4, zr b x4), (5, zr b x5), (6, zr b x6), (8, .int x8), (9, .int x9), (10, .int x10)] dL_isTree_146 (by decide) rfl rfl ?_
  obtain ⟨u48, e49⟩ : ∃ y : Int32, y = x10 + 1 := ⟨_, rfl⟩
  replace h := zlet_of h e49
  refine zV_iinc (j := 10) (v := u48) [(10, .int u48), (7, .int s0), (0, zr b x0), (1, zr b x1), (2, zr b x2), (3, zr b x3), (4, zr b x4), (5, zr b x5), (6, zr b x6), (8, .int x8), (9, .int x9)] dL_isTree_148 rfl (by rw [e49]; rfl) (by decide) rfl rfl ?_
  refine zV_goto (tgt := 48) dL_isTree_151 (by decide) ?_
  refine zV_pk [2, 3, 4, 5, 6, 7, 8, 1, 9, 10, 0] rfl ?_
  exact hk48 x0 x1 x2 x3 x4 x5 x6 s0 x8 x9 u48 M _ h
set_option maxHeartbeats 4000000 in
set_option maxRecDepth 100000 in
theorem vL_isTree_145 {l : Launch} {D : va_G} {T : Nat → ClassId} {b : Nat} {gr : Bool} {n0 : Nat} (k48 : Nat → Nat → Nat → Nat → Nat → Nat → Nat → Int32 → Int32 → Int32 → Int32 → zM → Option (Int32 × zM)) (hk48 : ∀ (z0 : Nat) (z1 : Nat) (z2 : Nat) (z3 : Nat) (z4 : Nat) (z5 : Nat) (z6 : Nat) (z7 : Int32) (z8 : Int32) (z9 : Int32) (z10 : Int32) (N : zM) (o : Int32 × zM), k48 z0 z1 z2 z3 z4 z5 z6 z7 z8 z9 z10 N = some o → zV false l RL cL_isTree 11 (some .boolean) false 8 0 0 D T zE0 b gr n0 (0, o.1, o.2) 0 0 48 [(0, zr b z0), (1, zr b z1), (2, zr b z2), (3, zr b z3), (4, zr b z4), (5, zr b z5), (6, zr b z6), (7, .int z7), (8, .int z8), (9, .int z9), (10, .int z10)] [] N) (x0 : Nat) (x1 : Nat) (x2 : Nat) (x3 : Nat) (x4 : Nat) (x5 : Nat) (x6 : Nat) (x8 : Int32) (x9 : Int32) (x10 : Int32) (M : zM) (o : Int32 × zM) (h : fL_isTree_145 k48 x0 x1 x2 x3 x4 x5 x6 x8 x9 x10 M = some o) : zV false l RL cL_isTree 11 (some .boolean) false 8 0 0 D T zE0 b gr n0 (0, o.1, o.2) 0 0 145 [(0, zr b x0), (1, zr b x1), (2, zr b x2), (3, zr b x3), (4, zr b x4), (5, zr b x5), (6, zr b x6), (8, .int x8), (9, .int x9), (10, .int x10)] [] M := by
  unfold fL_isTree_145 at h
  refine zV_iconst (v := 0) dL_isTree_145 (by decide) ?_
  exact vL_isTree_146 k48 hk48 x0 x1 x2 x3 x4 x5 x6 x8 x9 x10 0 M _ h
set_option maxHeartbeats 4000000 in
set_option maxRecDepth 100000 in
theorem vL_isTree_138 {l : Launch} {D : va_G} {T : Nat → ClassId} {b : Nat} {gr : Bool} {n0 : Nat} (k48 : Nat → Nat → Nat → Nat → Nat → Nat → Nat → Int32 → Int32 → Int32 → Int32 → zM → Option (Int32 × zM)) (hk48 : ∀ (z0 : Nat) (z1 : Nat) (z2 : Nat) (z3 : Nat) (z4 : Nat) (z5 : Nat) (z6 : Nat) (z7 : Int32) (z8 : Int32) (z9 : Int32) (z10 : Int32) (N : zM) (o : Int32 × zM), k48 z0 z1 z2 z3 z4 z5 z6 z7 z8 z9 z10 N = some o → zV false l RL cL_isTree 11 (some .boolean) false 8 0 0 D T zE0 b gr n0 (0, o.1, o.2) 0 0 48 [(0, zr b z0), (1, zr b z1), (2, zr b z2), (3, zr b z3), (4, zr b z4), (5, zr b z5), (6, zr b z6), (7, .int z7), (8, .int z8), (9, .int z9), (10, .int z10)] [] N) (x0 : Nat) (x1 : Nat) (x2 : Nat) (x3 : Nat) (x4 : Nat) (x5 : Nat) (x6 : Nat) (x8 : Int32) (x9 : Int32) (x10 : Int32) (s0 : Int32) (s1 : Int32) (M : zM) (o : Int32 × zM) (h : fL_isTree_138 k48 x0 x1 x2 x3 x4 x5 x6 x8 x9 x10 s0 s1 M = some o) : zV false l RL cL_isTree 11 (some .boolean) false 8 0 0 D T zE0 b gr n0 (0, o.1, o.2) 0 0 138 [(0, zr b x0), (1, zr b x1), (2, zr b x2), (3, zr b x3), (4, zr b x4), (5, zr b x5), (6, zr b x6), (8, .int x8), (9, .int x9), (10, .int x10)] [.int s1, .int s0] M := by
  unfold fL_isTree_138 at h
  refine zV_icmp_ne (tgt := 145) dL_isTree_138 (by decide) (fun c50 => ?_) (fun c50 => ?_)
  · replace h := z_f c50 h
    exact vL_isTree_145 k48 hk48 x0 x1 x2 x3 x4 x5 x6 x8 x9 x10 M _ h
  · replace h := z_t c50 h
    refine zV_iconst (v := 1) dL_isTree_141 (by decide) ?_
    refine zV_goto (tgt := 146) dL_isTree_142 (by decide) ?_
    exact vL_isTree_146 k48 hk48 x0 x1 x2 x3 x4 x5 x6 x8 x9 x10 1 M _ h
set_option maxHeartbeats 4000000 in
set_option maxRecDepth 100000 in
theorem vL_isTree_48 {l : Launch} {D : va_G} {T : Nat → ClassId} {b : Nat} {gr : Bool} {n0 : Nat} : ∀ (n : Nat) (x0 : Nat) (x1 : Nat) (x2 : Nat) (x3 : Nat) (x4 : Nat) (x5 : Nat) (x6 : Nat) (x7 : Int32) (x8 : Int32) (x9 : Int32) (x10 : Int32) (M : zM) (o : Int32 × zM), fL_isTree_48 n x0 x1 x2 x3 x4 x5 x6 x7 x8 x9 x10 M = some o → zV false l RL cL_isTree 11 (some .boolean) false 8 0 0 D T zE0 b gr n0 (0, o.1, o.2) 0 0 48 [(0, zr b x0), (1, zr b x1), (2, zr b x2), (3, zr b x3), (4, zr b x4), (5, zr b x5), (6, zr b x6), (7, .int x7), (8, .int x8), (9, .int x9), (10, .int x10)] [] M := by
  intro n
  induction n with
  | zero =>
    intro x0 x1 x2 x3 x4 x5 x6 x7 x8 x9 x10 M o h
    rw [fL_isTree_48] at h
    cases h
  | succ n ih =>
    intro x0 x1 x2 x3 x4 x5 x6 x7 x8 x9 x10 M o h
    rw [fL_isTree_48] at h
    refine zV_iload (j := 10) dL_isTree_48 rfl ?_
    refine zV_aload_n (j := 1) dL_isTree_50 rfl rfl ?_
    refine zV_iconst (v := 3) dL_isTree_51 (by decide) ?_
    obtain ⟨g51, h⟩ := zg_of h
    obtain ⟨g52, h⟩ := zg_of h
    refine zV_iald dL_isTree_52 g51 g52 ?_
    refine zV_icmp_ge (tgt := 154) dL_isTree_53 (by decide) (fun c53 => ?_) (fun c53 => ?_)
    · replace h := z_t c53 h
      refine zV_pk [0, 1, 6, 7, 8, 9] rfl ?_
      exact vL_isTree_154 x0 x1 x6 x7 x8 x9 M _ h
    · replace h := z_f c53 h
      refine zV_iload (j := 7) dL_isTree_56 rfl ?_
      refine zV_if_eq (tgt := 154) dL_isTree_58 (by decide) (fun c54 => ?_) (fun c54 => ?_)
      · replace h := z_t c54 h
        refine zV_pk [0, 1, 6, 7, 8, 9] rfl ?_
        exact vL_isTree_154 x0 x1 x6 x7 x8 x9 M _ h
      · replace h := z_f c54 h
        refine zV_aload_n (j := 0) dL_isTree_61 rfl rfl ?_
        refine zV_iload (j := 10) dL_isTree_62 rfl ?_
        obtain ⟨g55, h⟩ := zg_of h
        obtain ⟨g59, h⟩ := zg_of h
        obtain ⟨r56, M57z, q58, h⟩ := zbc_of h
        refine zV_cutVi (ci := 7) (As := [.int x10]) (rest := []) (vX7_kind l D T b false x0 x10 (zcut M) _ _ q58) zm_yX7_kind zl_RL_87 zi_yX7_kind ze_yX7_kind zcI7 g55 g59 rfl rfl (zcs trivial (Nat.le_of_ble_eq_true rfl)) (by decide) (Nat.le_of_ble_eq_true rfl) (Nat.le_of_ble_eq_true rfl) dL_isTree_64 ?_
        refine zV_mem (fun M57 M57e => ?_)
        rw [← M57e] at h
        refine zV_aload_n (j := 2) dL_isTree_67 rfl rfl ?_
        refine zV_iload (j := 10) dL_isTree_68 rfl ?_
        obtain ⟨g60, h⟩ := zg_of h
        obtain ⟨g61, h⟩ := zg_of h
        refine zV_iald dL_isTree_70 g60 g61 ?_
        refine zV_bipush (v := 32) dL_isTree_71 (by decide) ?_
        refine zV_irem dL_isTree_73 (by decide) ?_
        refine zV_icmp_ne (tgt := 145) dL_isTree_74 (by decide) (fun c62 => ?_) (fun c62 => ?_)
        · replace h := z_f c62 h
          refine zV_pk [0, 1, 2, 3, 4, 5, 6, 8, 9, 10] rfl ?_
          exact vL_isTree_145 (fL_isTree_48 n) ih x0 x1 x2 x3 x4 x5 x6 x8 x9 x10 M57 _ h
        · replace h := z_t c62 h
          refine zV_aload_n (j := 0) dL_isTree_77 rfl rfl ?_
          refine zV_iload (j := 10) dL_isTree_78 rfl ?_
          obtain ⟨g63, h⟩ := zg_of h
          obtain ⟨g67, h⟩ := zg_of h
          obtain ⟨r64, M65z, q66, h⟩ := zbc_of h
          refine zV_cutVi (ci := 7) (As := [.int x10]) (rest := []) (vX7_parent l D T b false x0 x10 (zcut M57) _ _ q66) zm_yX7_parent zl_RL_91 zi_yX7_parent ze_yX7_parent zcI7 g63 g67 rfl rfl (zcs trivial (Nat.le_of_ble_eq_true rfl)) (by decide) (Nat.le_of_ble_eq_true rfl) (Nat.le_of_ble_eq_true rfl) dL_isTree_80 ?_
          refine zV_mem (fun M65 M65e => ?_)
          rw [← M65e] at h
          refine zV_aload_n (j := 3) dL_isTree_83 rfl rfl ?_
          refine zV_iload (j := 10) dL_isTree_84 rfl ?_
          obtain ⟨g68, h⟩ := zg_of h
          obtain ⟨g69, h⟩ := zg_of h
          refine zV_iald dL_isTree_86 g68 g69 ?_
          refine zV_icmp_ne (tgt := 145) dL_isTree_87 (by decide) (fun c70 => ?_) (fun c70 => ?_)
          · replace h := z_f c70 h
            refine zV_pk [0, 1, 2, 3, 4, 5, 6, 8, 9, 10] rfl ?_
            exact vL_isTree_145 (fL_isTree_48 n) ih x0 x1 x2 x3 x4 x5 x6 x8 x9 x10 M65 _ h
          · replace h := z_t c70 h
            refine zV_aload_n (j := 0) dL_isTree_90 rfl rfl ?_
            refine zV_iload (j := 10) dL_isTree_91 rfl ?_
            obtain ⟨g71, h⟩ := zg_of h
            obtain ⟨g75, h⟩ := zg_of h
            obtain ⟨r72, M73z, q74, h⟩ := zbc_of h
            refine zV_cutVi (ci := 7) (As := [.int x10]) (rest := []) (vX7_letter l D T b false x0 x10 (zcut M65) _ _ q74) zm_yX7_letter zl_RL_94 zi_yX7_letter ze_yX7_letter zcI7 g71 g75 rfl rfl (zcs trivial (Nat.le_of_ble_eq_true rfl)) (by decide) (Nat.le_of_ble_eq_true rfl) (Nat.le_of_ble_eq_true rfl) dL_isTree_93 ?_
            refine zV_mem (fun M73 M73e => ?_)
            rw [← M73e] at h
            refine zV_aload (j := 4) dL_isTree_96 rfl ?_
            refine zV_iload (j := 10) dL_isTree_98 rfl ?_
            obtain ⟨g76, h⟩ := zg_of h
            obtain ⟨g77, h⟩ := zg_of h
            refine zV_iald dL_isTree_100 g76 g77 ?_
            refine zV_icmp_ne (tgt := 145) dL_isTree_101 (by decide) (fun c78 => ?_) (fun c78 => ?_)
            · replace h := z_f c78 h
              refine zV_pk [0, 1, 2, 3, 4, 5, 6, 8, 9, 10] rfl ?_
              exact vL_isTree_145 (fL_isTree_48 n) ih x0 x1 x2 x3 x4 x5 x6 x8 x9 x10 M73 _ h
            · replace h := z_t c78 h
              refine zV_aload_n (j := 0) dL_isTree_104 rfl rfl ?_
              refine zV_iload (j := 10) dL_isTree_105 rfl ?_
              obtain ⟨g79, h⟩ := zg_of h
              obtain ⟨g83, h⟩ := zg_of h
              obtain ⟨r80, M81z, q82, h⟩ := zbc_of h
              refine zV_cutVi (ci := 7) (As := [.int x10]) (rest := []) (vX7_placeOf l D T b false x0 x10 (zcut M73) _ _ q82) zm_yX7_placeOf zl_RL_98 zi_yX7_placeOf ze_yX7_placeOf zcI7 g79 g83 rfl rfl (zcs trivial (Nat.le_of_ble_eq_true rfl)) (by decide) (Nat.le_of_ble_eq_true rfl) (Nat.le_of_ble_eq_true rfl) dL_isTree_107 ?_
              refine zV_mem (fun M81 M81e => ?_)
              rw [← M81e] at h
              refine zV_aload (j := 5) dL_isTree_110 rfl ?_
              refine zV_iload (j := 10) dL_isTree_112 rfl ?_
              obtain ⟨g84, h⟩ := zg_of h
              obtain ⟨g85, h⟩ := zg_of h
              refine zV_iald dL_isTree_114 g84 g85 ?_
              refine zV_icmp_ne (tgt := 145) dL_isTree_115 (by decide) (fun c86 => ?_) (fun c86 => ?_)
              · replace h := z_f c86 h
                refine zV_pk [0, 1, 2, 3, 4, 5, 6, 8, 9, 10] rfl ?_
                exact vL_isTree_145 (fL_isTree_48 n) ih x0 x1 x2 x3 x4 x5 x6 x8 x9 x10 M81 _ h
              · replace h := z_t c86 h
                refine zV_aload_n (j := 0) dL_isTree_118 rfl rfl ?_
                refine zV_iload (j := 10) dL_isTree_119 rfl ?_
                obtain ⟨g87, h⟩ := zg_of h
                obtain ⟨g91, h⟩ := zg_of h
                obtain ⟨r88, M89z, q90, h⟩ := zbc_of h
                refine zV_cutVi (ci := 7) (As := [.int x10]) (rest := []) (vX7_isPutIn l D T b false x0 x10 (zcut M81) _ _ q90) zm_yX7_isPutIn zl_RL_101 zi_yX7_isPutIn ze_yX7_isPutIn zcI7 g87 g91 rfl rfl (zcs trivial (Nat.le_of_ble_eq_true rfl)) (by decide) (Nat.le_of_ble_eq_true rfl) (Nat.le_of_ble_eq_true rfl) dL_isTree_121 ?_
                refine zV_mem (fun M89 M89e => ?_)
                rw [← M89e] at h
                refine zV_aload_n (j := 2) dL_isTree_124 rfl rfl ?_
                refine zV_iload (j := 10) dL_isTree_125 rfl ?_
                obtain ⟨g92, h⟩ := zg_of h
                obtain ⟨g93, h⟩ := zg_of h
                refine zV_iald dL_isTree_127 g92 g93 ?_
                refine zV_bipush (v := 31) dL_isTree_128 (by decide) ?_
                refine zV_icmp_le (tgt := 137) dL_isTree_130 (by decide) (fun c94 => ?_) (fun c94 => ?_)
                · replace h := z_t c94 h
                  refine zV_iconst (v := 0) dL_isTree_137 (by decide) ?_
                  refine zV_pk [0, 1, 2, 3, 4, 5, 6, 8, 9, 10] rfl ?_
                  exact vL_isTree_138 (fL_isTree_48 n) ih x0 x1 x2 x3 x4 x5 x6 x8 x9 x10 r88 0 M89 _ h
                · replace h := z_f c94 h
                  refine zV_iconst (v := 1) dL_isTree_133 (by decide) ?_
                  refine zV_goto (tgt := 138) dL_isTree_134 (by decide) ?_
                  refine zV_pk [0, 1, 2, 3, 4, 5, 6, 8, 9, 10] rfl ?_
                  exact vL_isTree_138 (fL_isTree_48 n) ih x0 x1 x2 x3 x4 x5 x6 x8 x9 x10 r88 1 M89 _ h
set_option maxHeartbeats 4000000 in
set_option maxRecDepth 100000 in
theorem vL_isTree_35 {l : Launch} {D : va_G} {T : Nat → ClassId} {b : Nat} {gr : Bool} {n0 : Nat} (x0 : Nat) (x1 : Nat) (x2 : Nat) (x3 : Nat) (x4 : Nat) (x5 : Nat) (x6 : Nat) (s0 : Int32) (M : zM) (o : Int32 × zM) (h : fL_isTree_35 x0 x1 x2 x3 x4 x5 x6 s0 M = some o) : zV false l RL cL_isTree 11 (some .boolean) false 8 0 0 D T zE0 b gr n0 (0, o.1, o.2) 0 0 35 [(0, zr b x0), (1, zr b x1), (2, zr b x2), (3, zr b x3), (4, zr b x4), (5, zr b x5), (6, zr b x6)] [.int s0] M := by
  unfold fL_isTree_35 at h
  refine zV_istore [(7, .int s0), (0, zr b x0), (1, zr b x1), (2, zr b x2), (3, zr b x3), (4, zr b x4), (5, zr b x5), (6, zr b x6)] dL_isTree_35 (by decide) rfl rfl ?_
  refine zV_aload_n (j := 2) dL_isTree_37 rfl rfl ?_
  refine zV_iconst (v := 3) dL_isTree_38 (by decide) ?_
  obtain ⟨g95, h⟩ := zg_of h
  obtain ⟨g96, h⟩ := zg_of h
  refine zV_iald dL_isTree_39 g95 g96 ?_
  refine zV_top (fun u97 e98 => ?_)
  replace h := zlet_of h e98
  refine zV_istore [(8, .int u97), (7, .int s0), (0, zr b x0), (1, zr b x1), (2, zr b x2), (3, zr b x3), (4, zr b x4), (5, zr b x5), (6, zr b x6)] dL_isTree_40 (by decide) rfl rfl ?_
  refine zV_iconst (v := 0) dL_isTree_42 (by decide) ?_
  refine zV_istore [(9, .int 0), (8, .int u97), (7, .int s0), (0, zr b x0), (1, zr b x1), (2, zr b x2), (3, zr b x3), (4, zr b x4), (5, zr b x5), (6, zr b x6)] dL_isTree_43 (by decide) rfl rfl ?_
  refine zV_iconst (v := 0) dL_isTree_45 (by decide) ?_
  refine zV_istore [(10, .int 0), (9, .int 0), (8, .int u97), (7, .int s0), (0, zr b x0), (1, zr b x1), (2, zr b x2), (3, zr b x3), (4, zr b x4), (5, zr b x5), (6, zr b x6)] dL_isTree_46 (by decide) rfl rfl ?_
  refine zV_pk [4, 5, 6, 7, 8, 9, 10, 3, 2, 1, 0] rfl ?_
  exact vL_isTree_48 10000 x0 x1 x2 x3 x4 x5 x6 s0 u97 0 0 M _ h
set_option maxHeartbeats 4000000 in
set_option maxRecDepth 100000 in
theorem vL_isTree_34 {l : Launch} {D : va_G} {T : Nat → ClassId} {b : Nat} {gr : Bool} {n0 : Nat} (x0 : Nat) (x1 : Nat) (x2 : Nat) (x3 : Nat) (x4 : Nat) (x5 : Nat) (x6 : Nat) (M : zM) (o : Int32 × zM) (h : fL_isTree_34 x0 x1 x2 x3 x4 x5 x6 M = some o) : zV false l RL cL_isTree 11 (some .boolean) false 8 0 0 D T zE0 b gr n0 (0, o.1, o.2) 0 0 34 [(0, zr b x0), (1, zr b x1), (2, zr b x2), (3, zr b x3), (4, zr b x4), (5, zr b x5), (6, zr b x6)] [] M := by
  unfold fL_isTree_34 at h
  refine zV_iconst (v := 0) dL_isTree_34 (by decide) ?_
  exact vL_isTree_35 x0 x1 x2 x3 x4 x5 x6 0 M _ h
set_option maxHeartbeats 4000000 in
set_option maxRecDepth 100000 in
theorem vL_isTree (l : Launch) (D : va_G) (T : Nat → ClassId) (b : Nat) (gr : Bool) (x0 : Nat) (x1 : Nat) (x2 : Nat) (x3 : Nat) (x4 : Nat) (x5 : Nat) (x6 : Nat) (M : zM) (r : Int32) (M' : zM) (h : fL_isTree x0 x1 x2 x3 x4 x5 x6 M = some (r, M')) : zMet l D T b gr yL_isTree cL_isTree 11 (some .boolean) 8 0 0 [zr b x0, zr b x1, zr b x2, zr b x3, zr b x4, zr b x5, zr b x6] M (0, r, M') := by
  refine zEntry2 (ev := zE0) rfl false (fun h9 => nomatch h9) zp_yL_isTree ⟨zr_cat _ _, zr_cat _ _, zr_cat _ _, zr_cat _ _, zr_cat _ _, zr_cat _ _, zr_cat _ _, trivial⟩ (Nat.le_of_ble_eq_true rfl) ?_
  obtain ⟨o, ho⟩ : ∃ o : Int32 × zM, o = (r, M') := ⟨_, rfl⟩
  rw [← ho] at h
  rw [show ((0, r, M') : Nat × Int32 × zM) = (0, o.1, o.2) by rw [ho]]
  show zV false l RL cL_isTree 11 (some .boolean) false 8 0 0 D T zE0 b gr M.2.2.2 (0, o.1, o.2) 0 0 0 [(0, zr b x0), (1, zr b x1), (2, zr b x2), (3, zr b x3), (4, zr b x4), (5, zr b x5), (6, zr b x6)] [] M
  unfold fL_isTree at h
  refine zV_aload_n (j := 0) dL_isTree_0 rfl rfl ?_
  obtain ⟨g99, h⟩ := zg_of h
  obtain ⟨g103, h⟩ := zg_of h
  obtain ⟨r100, M101z, q102, h⟩ := zbd_of h
  refine zV_cutVi (ci := 7) (As := []) (rest := []) (vX7_things l D T b false x0 (zcut M) _ _ q102) zm_yX7_things zl_RL_75 zi_yX7_things ze_yX7_things zcI7 g99 g103 rfl rfl (zcs trivial (Nat.le_of_ble_eq_true rfl)) (by decide) (Nat.le_of_ble_eq_true rfl) (Nat.le_of_ble_eq_true rfl) dL_isTree_1 ?_
  refine zV_mem (fun M101 M101e => ?_)
  rw [← M101e] at h
  refine zV_aload_n (j := 1) dL_isTree_4 rfl rfl ?_
  refine zV_iconst (v := 3) dL_isTree_5 (by decide) ?_
  obtain ⟨g104, h⟩ := zg_of h
  obtain ⟨g105, h⟩ := zg_of h
  refine zV_iald dL_isTree_6 g104 g105 ?_
  refine zV_icmp_ne (tgt := 34) dL_isTree_7 (by decide) (fun c106 => ?_) (fun c106 => ?_)
  · replace h := z_f c106 h
    exact vL_isTree_34 x0 x1 x2 x3 x4 x5 x6 M101 _ h
  · replace h := z_t c106 h
    refine zV_aload_n (j := 0) dL_isTree_10 rfl rfl ?_
    obtain ⟨g107, h⟩ := zg_of h
    obtain ⟨g111, h⟩ := zg_of h
    obtain ⟨r108, M109z, q110, h⟩ := zbd_of h
    refine zV_cutVi (ci := 7) (As := []) (rest := []) (vX7_endsPutIn l D T b false x0 (zcut M101) _ _ q110) zm_yX7_endsPutIn zl_RL_81 zi_yX7_endsPutIn ze_yX7_endsPutIn zcI7 g107 g111 rfl rfl (zcs trivial (Nat.le_of_ble_eq_true rfl)) (by decide) (Nat.le_of_ble_eq_true rfl) (Nat.le_of_ble_eq_true rfl) dL_isTree_11 ?_
    refine zV_mem (fun M109 M109e => ?_)
    rw [← M109e] at h
    refine zV_aload_n (j := 1) dL_isTree_14 rfl rfl ?_
    refine zV_iconst (v := 4) dL_isTree_15 (by decide) ?_
    obtain ⟨g112, h⟩ := zg_of h
    obtain ⟨g113, h⟩ := zg_of h
    refine zV_iald dL_isTree_16 g112 g113 ?_
    refine zV_icmp_ne (tgt := 34) dL_isTree_17 (by decide) (fun c114 => ?_) (fun c114 => ?_)
    · replace h := z_f c114 h
      exact vL_isTree_34 x0 x1 x2 x3 x4 x5 x6 M109 _ h
    · replace h := z_t c114 h
      refine zV_aload_n (j := 0) dL_isTree_20 rfl rfl ?_
      obtain ⟨g115, h⟩ := zg_of h
      obtain ⟨g119, h⟩ := zg_of h
      obtain ⟨r116, M117z, q118, h⟩ := zbd_of h
      refine zV_cutVi (ci := 7) (As := []) (rest := []) (vX7_errors l D T b false x0 (zcut M109) _ _ q118) zm_yX7_errors zl_RL_84 zi_yX7_errors ze_yX7_errors zcI7 g115 g119 rfl rfl (zcs trivial (Nat.le_of_ble_eq_true rfl)) (by decide) (Nat.le_of_ble_eq_true rfl) (Nat.le_of_ble_eq_true rfl) dL_isTree_21 ?_
      refine zV_mem (fun M117 M117e => ?_)
      rw [← M117e] at h
      refine zV_aload_n (j := 1) dL_isTree_24 rfl rfl ?_
      refine zV_iconst (v := 5) dL_isTree_25 (by decide) ?_
      obtain ⟨g120, h⟩ := zg_of h
      obtain ⟨g121, h⟩ := zg_of h
      refine zV_iald dL_isTree_26 g120 g121 ?_
      refine zV_icmp_ne (tgt := 34) dL_isTree_27 (by decide) (fun c122 => ?_) (fun c122 => ?_)
      · replace h := z_f c122 h
        exact vL_isTree_34 x0 x1 x2 x3 x4 x5 x6 M117 _ h
      · replace h := z_t c122 h
        refine zV_iconst (v := 1) dL_isTree_30 (by decide) ?_
        refine zV_goto (tgt := 35) dL_isTree_31 (by decide) ?_
        exact vL_isTree_35 x0 x1 x2 x3 x4 x5 x6 1 M117 _ h
set_option maxHeartbeats 4000000 in
set_option maxRecDepth 100000 in
theorem vL_areStates_121 {l : Launch} {D : va_G} {T : Nat → ClassId} {b : Nat} {gr : Bool} {n0 : Nat} (s0 : Int32) (s1 : Int32) (M : zM) (o : Int32 × zM) (h : fL_areStates_121 s0 s1 M = some o) : zV false l RL cL_areStates 11 (some .boolean) false 8 0 0 D T (zEj 9) b gr n0 (0, o.1, o.2) 0 0 121 [] [.int s1, .int s0] M := by
  unfold fL_areStates_121 at h
  refine zV_icmp_ne (tgt := 128) dL_areStates_121 (by decide) (fun c1 => ?_) (fun c1 => ?_)
  · replace h := z_f c1 h
    refine zV_iconst (v := 0) dL_areStates_128 (by decide) ?_
    exact zV_zret rfl dL_areStates_129 (by decide) (by decide) (Or.inl rfl) (z_ret h)
  · replace h := z_t c1 h
    refine zV_iconst (v := 1) dL_areStates_124 (by decide) ?_
    refine zV_goto (tgt := 129) dL_areStates_125 (by decide) ?_
    exact zV_zret rfl dL_areStates_129 (by decide) (by decide) (Or.inr rfl) (z_ret h)
set_option maxHeartbeats 4000000 in
set_option maxRecDepth 100000 in
theorem vL_areStates_96 {l : Launch} {D : va_G} {T : Nat → ClassId} {b : Nat} {gr : Bool} {n0 : Nat} (x0 : Nat) (x1 : Nat) (x2 : Nat) (x6 : Int32) (x7 : Int32) (x8 : Int32) (s0 : Int32) (s1 : Int32) (M : zM) (o : Int32 × zM) (h : fL_areStates_96 x0 x1 x2 x6 x7 x8 s0 s1 M = some o) : zV false l RL cL_areStates 11 (some .boolean) false 8 0 0 D T (zEj 9) b gr n0 (0, o.1, o.2) 0 0 96 [(0, zr b x0), (1, zr b x1), (2, zr b x2), (6, .int x6), (7, .int x7), (8, .int x8)] [.int s1, .int s0] M := by
  unfold fL_areStates_96 at h
  refine zV_icmp_ne (tgt := 128) dL_areStates_96 (by decide) (fun c2 => ?_) (fun c2 => ?_)
  · replace h := z_f c2 h
    refine zV_iconst (v := 0) dL_areStates_128 (by decide) ?_
    exact zV_zret rfl dL_areStates_129 (by decide) (by decide) (Or.inl rfl) (z_ret h)
  · replace h := z_t c2 h
    refine zV_aload_n (j := 0) dL_areStates_99 rfl rfl ?_
    refine zV_iload (j := 3) dL_areStates_100 rfl ?_
    obtain ⟨g3, h⟩ := zg_of h
    obtain ⟨g7, h⟩ := zg_of h
    obtain ⟨r4, M5z, q6, h⟩ := zbc_of h
    refine zV_cutVi (ci := 7) (As := [.int x6]) (rest := []) (vX7_next l D T b false x0 x6 (zcut M) _ _ q6) zm_yX7_next zl_RL_126 zi_yX7_next ze_yX7_next zcI7 g3 g7 rfl rfl (zcs trivial (Nat.le_of_ble_eq_true rfl)) (by decide) (Nat.le_of_ble_eq_true rfl) (Nat.le_of_ble_eq_true rfl) dL_areStates_102 ?_
    refine zV_mem (fun M5 M5e => ?_)
    rw [← M5e] at h
    refine zV_iload (j := 4) dL_areStates_105 rfl ?_
    refine zV_if_ne (tgt := 114) dL_areStates_107 (by decide) (fun c8 => ?_) (fun c8 => ?_)
    · replace h := z_f c8 h
      refine zV_aload_n (j := 1) dL_areStates_114 rfl rfl ?_
      refine zV_aload_n (j := 2) dL_areStates_115 rfl rfl ?_
      refine zV_iload (j := 5) dL_areStates_116 rfl ?_
      obtain ⟨r9, M10, q11, h⟩ := zb_of h
      refine zV_callSi (As := [zr b x1, zr b x2, .int x8]) (rest := [.int r4]) (vL_next l D T b gr x1 x2 x8 M5 _ _ q11) zm_yL_next zl_RL_31 zs_yL_next rfl rfl (zcs ⟨rfl, trivial⟩ (Nat.le_of_ble_eq_true rfl)) (by decide) (by decide) (by decide) dL_areStates_118 ?_
      refine zV_pk [] rfl ?_
      exact vL_areStates_121 r4 r9 M10 _ h
    · replace h := z_t c8 h
      refine zV_iconst (v := 0) dL_areStates_110 (by decide) ?_
      refine zV_goto (tgt := 121) dL_areStates_111 (by decide) ?_
      refine zV_pk [] rfl ?_
      exact vL_areStates_121 r4 0 M5 _ h
set_option maxHeartbeats 4000000 in
set_option maxRecDepth 100000 in
theorem vL_areStates_54 {l : Launch} {D : va_G} {T : Nat → ClassId} {b : Nat} {gr : Bool} {n0 : Nat} (x0 : Nat) (x1 : Nat) (x2 : Nat) (x3 : Nat) (x6 : Int32) (x7 : Int32) (x8 : Int32) (M : zM) (o : Int32 × zM) (h : fL_areStates_54 x0 x1 x2 x3 x6 x7 x8 M = some o) : zV false l RL cL_areStates 11 (some .boolean) false 8 0 0 D T (zEj 9) b gr n0 (0, o.1, o.2) 0 0 54 [(0, zr b x0), (1, zr b x1), (2, zr b x2), (3, zr b x3), (6, .int x6), (7, .int x7), (8, .int x8)] [] M := by
  unfold fL_areStates_54 at h
  refine zV_aload_n (j := 0) dL_areStates_54 rfl rfl ?_
  obtain ⟨g12, h⟩ := zg_of h
  obtain ⟨g16, h⟩ := zg_of h
  obtain ⟨r13, M14z, q15, h⟩ := zbd_of h
  refine zV_cutVi (ci := 7) (As := []) (rest := []) (vX7_length l D T b false x0 (zcut M) _ _ q15) zm_yX7_length zl_RL_118 zi_yX7_length ze_yX7_length zcI7 g12 g16 rfl rfl (zcs trivial (Nat.le_of_ble_eq_true rfl)) (by decide) (Nat.le_of_ble_eq_true rfl) (Nat.le_of_ble_eq_true rfl) dL_areStates_55 ?_
  refine zV_mem (fun M14 M14e => ?_)
  rw [← M14e] at h
  refine zV_aload_n (j := 3) dL_areStates_58 rfl rfl ?_
  refine zV_bipush (v := 20) dL_areStates_59 (by decide) ?_
  obtain ⟨g17, h⟩ := zg_of h
  obtain ⟨g18, h⟩ := zg_of h
  refine zV_iald dL_areStates_61 g17 g18 ?_
  refine zV_icmp_ne (tgt := 128) dL_areStates_62 (by decide) (fun c19 => ?_) (fun c19 => ?_)
  · replace h := z_f c19 h
    refine zV_iconst (v := 0) dL_areStates_128 (by decide) ?_
    exact zV_zret rfl dL_areStates_129 (by decide) (by decide) (Or.inl rfl) (z_ret h)
  · replace h := z_t c19 h
    refine zV_aload_n (j := 0) dL_areStates_65 rfl rfl ?_
    refine zV_iload (j := 4) dL_areStates_66 rfl ?_
    obtain ⟨g20, h⟩ := zg_of h
    obtain ⟨g24, h⟩ := zg_of h
    obtain ⟨r21, M22z, q23, h⟩ := zbc_of h
    refine zV_cutVi (ci := 7) (As := [.int x6]) (rest := []) (vX7_open l D T b false x0 x6 (zcut M14) _ _ q23) zm_yX7_open zl_RL_121 zi_yX7_open ze_yX7_open zcI7 g20 g24 rfl rfl (zcs trivial (Nat.le_of_ble_eq_true rfl)) (by decide) (Nat.le_of_ble_eq_true rfl) (Nat.le_of_ble_eq_true rfl) dL_areStates_68 ?_
    refine zV_mem (fun M22 M22e => ?_)
    rw [← M22e] at h
    refine zV_iload (j := 5) dL_areStates_71 rfl ?_
    refine zV_icmp_ne (tgt := 128) dL_areStates_73 (by decide) (fun c25 => ?_) (fun c25 => ?_)
    · replace h := z_f c25 h
      refine zV_iconst (v := 0) dL_areStates_128 (by decide) ?_
      exact zV_zret rfl dL_areStates_129 (by decide) (by decide) (Or.inl rfl) (z_ret h)
    · replace h := z_t c25 h
      refine zV_aload_n (j := 0) dL_areStates_76 rfl rfl ?_
      refine zV_iload (j := 4) dL_areStates_77 rfl ?_
      obtain ⟨g26, h⟩ := zg_of h
      obtain ⟨g30, h⟩ := zg_of h
      obtain ⟨r27, M28z, q29, h⟩ := zbc_of h
      refine zV_cutVi (ci := 7) (As := [.int x6]) (rest := []) (vX7_current l D T b false x0 x6 (zcut M22) _ _ q29) zm_yX7_current zl_RL_123 zi_yX7_current ze_yX7_current zcI7 g26 g30 rfl rfl (zcs trivial (Nat.le_of_ble_eq_true rfl)) (by decide) (Nat.le_of_ble_eq_true rfl) (Nat.le_of_ble_eq_true rfl) dL_areStates_79 ?_
      refine zV_mem (fun M28 M28e => ?_)
      rw [← M28e] at h
      refine zV_iload (j := 5) dL_areStates_82 rfl ?_
      refine zV_if_ne (tgt := 91) dL_areStates_84 (by decide) (fun c31 => ?_) (fun c31 => ?_)
      · replace h := z_f c31 h
        refine zV_iload (j := 6) dL_areStates_91 rfl ?_
        refine zV_bipush (v := 16) dL_areStates_93 (by decide) ?_
        refine zV_idiv dL_areStates_95 (by decide) ?_
        refine zV_pk [0, 1, 2, 4, 5, 6] rfl ?_
        exact vL_areStates_96 x0 x1 x2 x6 x7 x8 r27 (x8 / 16) M28 _ h
      · replace h := z_t c31 h
        refine zV_iconst (v := (-1)) dL_areStates_87 (by decide) ?_
        refine zV_goto (tgt := 96) dL_areStates_88 (by decide) ?_
        refine zV_pk [0, 1, 2, 4, 5, 6] rfl ?_
        exact vL_areStates_96 x0 x1 x2 x6 x7 x8 r27 (-1) M28 _ h
set_option maxHeartbeats 4000000 in
set_option maxRecDepth 100000 in
theorem vL_areStates_33 {l : Launch} {D : va_G} {T : Nat → ClassId} {b : Nat} {gr : Bool} {n0 : Nat} : ∀ (n : Nat) (x0 : Nat) (x1 : Nat) (x2 : Nat) (x3 : Nat) (x6 : Int32) (x7 : Int32) (x8 : Int32) (x9 : Int64) (M : zM) (o : Int32 × zM), fL_areStates_33 n x0 x1 x2 x3 x6 x7 x8 x9 M = some o → zV false l RL cL_areStates 11 (some .boolean) false 8 0 0 D T (zEj 9) b gr n0 (0, o.1, o.2) 0 0 33 [(0, zr b x0), (1, zr b x1), (2, zr b x2), (3, zr b x3), (6, .int x6), (7, .int x7), (8, .int x8), (9, .long x9)] [] M := by
  intro n
  induction n with
  | zero =>
    intro x0 x1 x2 x3 x6 x7 x8 x9 M o h
    rw [fL_areStates_33] at h
    cases h
  | succ n ih =>
    intro x0 x1 x2 x3 x6 x7 x8 x9 M o h
    rw [fL_areStates_33] at h
    refine zV_lload (j := 7) dL_areStates_33 rfl ?_
    refine zV_lconst (v := 1) dL_areStates_35 (by decide) ?_
    refine zV_lcmp dL_areStates_36 ?_
    refine zV_if_le (tgt := 54) dL_areStates_37 (by decide) (fun c32 => ?_) (fun c32 => ?_)
    · replace h := z_t c32 h
      refine zV_pk [0, 1, 2, 3, 4, 5, 6] rfl ?_
      exact vL_areStates_54 x0 x1 x2 x3 x6 x7 x8 M _ h
    · replace h := z_f c32 h
      obtain ⟨u33, e34⟩ : ∃ y : Int32, y = x7 + 1 := ⟨_, rfl⟩
      replace h := zlet_of h e34
      refine zV_iinc (j := 5) (v := u33) [(7, .int u33), (0, zr b x0), (1, zr b x1), (2, zr b x2), (3, zr b x3), (6, .int x6), (8, .int x8), (9, .long x9)] dL_areStates_40 rfl (by rw [e34]; rfl) (by decide) rfl rfl ?_
      refine zV_lload (j := 7) dL_areStates_43 rfl ?_
      refine zV_ldc2 (v := 80) dL_areStates_45 zd_RL_63 ?_
      refine zV_ldiv dL_areStates_48 (by decide) ?_
      refine zV_topl (fun u35 e36 => ?_)
      replace h := zlet_of h e36
      refine zV_lstore [(9, .long u35), (7, .int u33), (0, zr b x0), (1, zr b x1), (2, zr b x2), (3, zr b x3), (6, .int x6), (8, .int x8)] dL_areStates_49 (by decide) rfl rfl ?_
      refine zV_goto (tgt := 33) dL_areStates_51 (by decide) ?_
      refine zV_pk [2, 3, 4, 5, 6, 1, 7, 0] rfl ?_
      exact ih x0 x1 x2 x3 x6 u33 x8 u35 M _ h
set_option maxHeartbeats 4000000 in
set_option maxRecDepth 100000 in
theorem vL_areStates (l : Launch) (D : va_G) (T : Nat → ClassId) (b : Nat) (gr : Bool) (x0 : Nat) (x1 : Nat) (x2 : Nat) (x3 : Nat) (x4 : Nat) (x5 : Int32) (M : zM) (r : Int32) (M' : zM) (h : fL_areStates x0 x1 x2 x3 x4 x5 M = some (r, M')) : zMet l D T b gr yL_areStates cL_areStates 11 (some .boolean) 8 0 0 [zr b x0, zr b x1, zr b x2, zr b x3, zr b x4, .int x5] M (0, r, M') := by
  refine zEntry2 (ev := (zEj 9)) rfl false (fun h9 => nomatch h9) zp_yL_areStates ⟨zr_cat _ _, zr_cat _ _, zr_cat _ _, zr_cat _ _, zr_cat _ _, rfl, trivial⟩ (Nat.le_of_ble_eq_true rfl) ?_
  obtain ⟨o, ho⟩ : ∃ o : Int32 × zM, o = (r, M') := ⟨_, rfl⟩
  rw [← ho] at h
  rw [show ((0, r, M') : Nat × Int32 × zM) = (0, o.1, o.2) by rw [ho]]
  show zV false l RL cL_areStates 11 (some .boolean) false 8 0 0 D T (zEj 9) b gr M.2.2.2 (0, o.1, o.2) 0 0 0 [(0, zr b x0), (1, zr b x1), (2, zr b x2), (3, zr b x3), (4, zr b x4), (5, .int x5)] [] M
  unfold fL_areStates at h
  refine zV_iload (j := 5) dL_areStates_0 rfl ?_
  refine zV_aload_n (j := 3) dL_areStates_2 rfl rfl ?_
  refine zV_bipush (v := 20) dL_areStates_3 (by decide) ?_
  obtain ⟨g37, h⟩ := zg_of h
  obtain ⟨g38, h⟩ := zg_of h
  refine zV_iald dL_areStates_5 g37 g38 ?_
  refine zV_iconst (v := 1) dL_areStates_6 (by decide) ?_
  refine zV_iadd dL_areStates_7 ?_
  obtain ⟨g39, h⟩ := zg_of h
  refine zV_irem dL_areStates_8 g39 ?_
  refine zV_top (fun u40 e41 => ?_)
  replace h := zlet_of h e41
  refine zV_istore [(6, .int u40), (0, zr b x0), (1, zr b x1), (2, zr b x2), (3, zr b x3), (4, zr b x4), (5, .int x5)] dL_areStates_9 (by decide) rfl rfl ?_
  refine zV_iconst (v := 0) dL_areStates_11 (by decide) ?_
  refine zV_istore [(7, .int 0), (6, .int u40), (0, zr b x0), (1, zr b x1), (2, zr b x2), (3, zr b x3), (4, zr b x4), (5, .int x5)] dL_areStates_12 (by decide) rfl rfl ?_
  refine zV_aload (j := 6) dL_areStates_14 rfl ?_
  refine zV_iload (j := 1) dL_areStates_16 rfl ?_
  obtain ⟨g42, h⟩ := zg_of h
  obtain ⟨g43, h⟩ := zg_of h
  refine zV_lald dL_areStates_18 g42 g43 ?_
  refine zV_ldc2 (v := 80) dL_areStates_19 zd_RL_63 ?_
  refine zV_lrem dL_areStates_22 (by decide) ?_
  refine zV_l2i dL_areStates_23 ?_
  refine zV_top (fun u44 e45 => ?_)
  replace h := zlet_of h e45
  refine zV_istore [(8, .int u44), (7, .int 0), (6, .int u40), (0, zr b x0), (1, zr b x1), (2, zr b x2), (3, zr b x3), (4, zr b x4), (5, .int x5)] dL_areStates_24 (by decide) rfl rfl ?_
  refine zV_aload (j := 7) dL_areStates_26 rfl ?_
  refine zV_iload (j := 2) dL_areStates_28 rfl ?_
  obtain ⟨g46, h⟩ := zg_of h
  refine zV_lald dL_areStates_30 g42 g46 ?_
  refine zV_topl (fun u47 e48 => ?_)
  replace h := zlet_of h e48
  refine zV_lstore [(9, .long u47), (8, .int u44), (7, .int 0), (6, .int u40), (0, zr b x0), (1, zr b x1), (2, zr b x2), (3, zr b x3), (4, zr b x4), (5, .int x5)] dL_areStates_31 (by decide) rfl rfl ?_
  refine zV_pk [4, 5, 6, 7, 3, 2, 1, 0] rfl ?_
  exact vL_areStates_33 10000 x0 x1 x2 x3 u40 0 u44 u47 M _ h
set_option maxHeartbeats 4000000 in
set_option maxRecDepth 100000 in
theorem vL_slot (l : Launch) (D : va_G) (T : Nat → ClassId) (b : Nat) (gr : Bool) (x0 : Nat) (x1 : Int32) (x2 : Int32) (x3 : Int32) (x4 : Int32) (M : zM) (r : Int32) (M' : zM) (h : fL_slot x0 x1 x2 x3 x4 M = some (r, M')) : zMetW l D T b gr yL_slot cL_slot 6 (some .int) [(0, 9, 10, 132)] 123 0 0 [zr b x0, .int x1, .int x2, .int x3, .int x4] M (0, r, M') := by
  refine zEntryW zp_yL_slot ⟨zr_cat _ _, rfl, rfl, rfl, rfl, trivial⟩ (Nat.le_of_ble_eq_true rfl) ?_
  obtain ⟨o, ho⟩ : ∃ o : Int32 × zM, o = (r, M') := ⟨_, rfl⟩
  rw [← ho] at h
  rw [show ((0, r, M') : Nat × Int32 × zM) = (0, o.1, o.2) by rw [ho]]
  show zV false l RL cL_slot 6 (some .int) false 123 0 0 D T zE0 b gr M.2.2.2 (0, o.1, o.2) 0 0 0 [(0, zr b x0), (1, .int x1), (2, .int x2), (3, .int x3), (4, .int x4)] [] M
  unfold fL_slot at h
  refine zV_aload_n (j := 0) dL_slot_0 rfl rfl ?_
  refine zV_iload_n (j := 1) dL_slot_1 rfl rfl ?_
  refine zV_iload_n (j := 2) dL_slot_2 rfl rfl ?_
  refine zV_iload_n (j := 3) dL_slot_3 rfl rfl ?_
  refine zV_iload (j := 4) dL_slot_4 rfl ?_
  obtain ⟨g1, h⟩ := zg_of h
  obtain ⟨g5, h⟩ := zg_of h
  obtain ⟨r2, M3z, q4, h⟩ := zbc_of h
  refine zV_cutVi (ci := 7) (As := [.int x1, .int x2, .int x3, .int x4]) (rest := []) (vX7_slot l D T b false x0 x1 x2 x3 x4 (zcut M) _ _ q4) zm_yX7_slot zl_RL_128 zi_yX7_slot ze_yX7_slot zcI7 g1 g5 rfl rfl (zcs trivial (Nat.le_of_ble_eq_true rfl)) (by decide) (Nat.le_of_ble_eq_true rfl) (Nat.le_of_ble_eq_true rfl) dL_slot_6 ?_
  refine zV_mem (fun M3 M3e => ?_)
  rw [← M3e] at h
  exact zV_iret rfl dL_slot_9 (by decide) (by decide) (z_ret h)
