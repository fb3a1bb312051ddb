set_option maxHeartbeats 4000000 in
set_option maxRecDepth 100000 in
theorem vL_twice_168 {l : Launch} {D : va_G} {T : Nat → ClassId} {b : Nat} {gr : Bool} {n0 : Nat} (k5 : Nat → Int32 → Int32 → Int32 → Int32 → zM → Option (Int32 × zM)) (hk5 : ∀ (z0 : Nat) (z1 : Int32) (z2 : Int32) (z3 : Int32) (z4 : Int32) (N : zM) (o : Int32 × zM), k5 z0 z1 z2 z3 z4 N = some o → zV false l RL cL_twice 10 (some .int) false 1 0 0 D T zE0 b gr n0 (0, o.1, o.2) 0 0 5 [(0, zr b z0), (1, .int z1), (2, .int z2), (3, .int z3), (4, .int z4)] [] N) (x0 : Nat) (x1 : Int32) (x2 : Int32) (x3 : Int32) (x4 : Int32) (M : zM) (o : Int32 × zM) (h : fL_twice_168 k5 x0 x1 x2 x3 x4 M = some o) : zV false l RL cL_twice 10 (some .int) false 1 0 0 D T zE0 b gr n0 (0, o.1, o.2) 0 0 168 [(0, zr b x0), (1, .int x1), (2, .int x2), (3, .int x3), (4, .int x4)] [] M := by
  unfold fL_twice_168 at h
  obtain ⟨u1, e2⟩ : ∃ y : Int32, y = x4 + 1 := ⟨_, rfl⟩
  replace h := zlet_of h e2
  refine zV_iinc (j := 4) (v := u1) [(4, .int u1), (0, zr b x0), (1, .int x1), (2, .int x2), (3, .int x3)] dL_twice_168 rfl (by rw [e2]; rfl) (by decide) rfl rfl ?_
  refine zV_goto (tgt := 5) dL_twice_171 (by decide) ?_
  refine zV_pk [1, 2, 3, 4, 0] rfl ?_
  exact hk5 x0 x1 x2 x3 u1 M _ h
set_option maxHeartbeats 4000000 in
set_option maxRecDepth 100000 in
theorem vL_twice_161 {l : Launch} {D : va_G} {T : Nat → ClassId} {b : Nat} {gr : Bool} {n0 : Nat} (k5 : Nat → Int32 → Int32 → Int32 → Int32 → zM → Option (Int32 × zM)) (hk5 : ∀ (z0 : Nat) (z1 : Int32) (z2 : Int32) (z3 : Int32) (z4 : Int32) (N : zM) (o : Int32 × zM), k5 z0 z1 z2 z3 z4 N = some o → zV false l RL cL_twice 10 (some .int) false 1 0 0 D T zE0 b gr n0 (0, o.1, o.2) 0 0 5 [(0, zr b z0), (1, .int z1), (2, .int z2), (3, .int z3), (4, .int z4)] [] N) (k129 : Nat → Int32 → Int32 → Int32 → Int32 → Int32 → Int32 → zM → Option (Int32 × zM)) (hk129 : ∀ (z0 : Nat) (z1 : Int32) (z2 : Int32) (z3 : Int32) (z4 : Int32) (z6 : Int32) (z8 : Int32) (N : zM) (o : Int32 × zM), k129 z0 z1 z2 z3 z4 z6 z8 N = some o → zV false l RL cL_twice 10 (some .int) false 1 0 0 D T zE0 b gr n0 (0, o.1, o.2) 0 0 129 [(0, zr b z0), (1, .int z1), (2, .int z2), (3, .int z3), (4, .int z4), (6, .int z6), (8, .int z8)] [] N) (x0 : Nat) (x1 : Int32) (x2 : Int32) (x4 : Int32) (x6 : Int32) (x8 : Int32) (s0 : Int32) (M : zM) (o : Int32 × zM) (h : fL_twice_161 k5 k129 x0 x1 x2 x4 x6 x8 s0 M = some o) : zV false l RL cL_twice 10 (some .int) false 1 0 0 D T zE0 b gr n0 (0, o.1, o.2) 0 0 161 [(0, zr b x0), (1, .int x1), (2, .int x2), (4, .int x4), (6, .int x6), (8, .int x8)] [.int s0] M := by
  unfold fL_twice_161 at h
  refine zV_istore_n [(3, .int s0), (0, zr b x0), (1, .int x1), (2, .int x2), (4, .int x4), (6, .int x6), (8, .int x8)] dL_twice_161 rfl (by decide) rfl rfl ?_
  obtain ⟨u3, e4⟩ : ∃ y : Int32, y = x8 + (-1) := ⟨_, rfl⟩
  replace h := zlet_of h e4
  refine zV_iinc (j := 6) (v := u3) [(8, .int u3), (3, .int s0), (0, zr b x0), (1, .int x1), (2, .int x2), (4, .int x4), (6, .int x6)] dL_twice_162 rfl (by rw [e4]; rfl) (by decide) rfl rfl ?_
  refine zV_goto (tgt := 129) dL_twice_165 (by decide) ?_
  refine zV_pk [2, 3, 4, 1, 5, 6, 0] rfl ?_
  exact hk129 x0 x1 x2 s0 x4 x6 u3 M _ h
set_option maxHeartbeats 4000000 in
set_option maxRecDepth 100000 in
theorem vL_twice_160 {l : Launch} {D : va_G} {T : Nat → ClassId} {b : Nat} {gr : Bool} {n0 : Nat} (k5 : Nat → Int32 → Int32 → Int32 → Int32 → zM → Option (Int32 × zM)) (hk5 : ∀ (z0 : Nat) (z1 : Int32) (z2 : Int32) (z3 : Int32) (z4 : Int32) (N : zM) (o : Int32 × zM), k5 z0 z1 z2 z3 z4 N = some o → zV false l RL cL_twice 10 (some .int) false 1 0 0 D T zE0 b gr n0 (0, o.1, o.2) 0 0 5 [(0, zr b z0), (1, .int z1), (2, .int z2), (3, .int z3), (4, .int z4)] [] N) (k129 : Nat → Int32 → Int32 → Int32 → Int32 → Int32 → Int32 → zM → Option (Int32 × zM)) (hk129 : ∀ (z0 : Nat) (z1 : Int32) (z2 : Int32) (z3 : Int32) (z4 : Int32) (z6 : Int32) (z8 : Int32) (N : zM) (o : Int32 × zM), k129 z0 z1 z2 z3 z4 z6 z8 N = some o → zV false l RL cL_twice 10 (some .int) false 1 0 0 D T zE0 b gr n0 (0, o.1, o.2) 0 0 129 [(0, zr b z0), (1, .int z1), (2, .int z2), (3, .int z3), (4, .int z4), (6, .int z6), (8, .int z8)] [] N) (x0 : Nat) (x1 : Int32) (x2 : Int32) (x3 : Int32) (x4 : Int32) (x6 : Int32) (x8 : Int32) (M : zM) (o : Int32 × zM) (h : fL_twice_160 k5 k129 x0 x1 x2 x3 x4 x6 x8 M = some o) : zV false l RL cL_twice 10 (some .int) false 1 0 0 D T zE0 b gr n0 (0, o.1, o.2) 0 0 160 [(0, zr b x0), (1, .int x1), (2, .int x2), (3, .int x3), (4, .int x4), (6, .int x6), (8, .int x8)] [] M := by
  unfold fL_twice_160 at h
  refine zV_iload_n (j := 3) dL_twice_160 rfl rfl ?_
  refine zV_pk [0, 1, 2, 4, 5, 6] rfl ?_
  exact vL_twice_161 k5 hk5 k129 hk129 x0 x1 x2 x4 x6 x8 x3 M _ h
set_option maxHeartbeats 4000000 in
set_option maxRecDepth 100000 in
theorem vL_twice_155 {l : Launch} {D : va_G} {T : Nat → ClassId} {b : Nat} {gr : Bool} {n0 : Nat} (k5 : Nat → Int32 → Int32 → Int32 → Int32 → zM → Option (Int32 × zM)) (hk5 : ∀ (z0 : Nat) (z1 : Int32) (z2 : Int32) (z3 : Int32) (z4 : Int32) (N : zM) (o : Int32 × zM), k5 z0 z1 z2 z3 z4 N = some o → zV false l RL cL_twice 10 (some .int) false 1 0 0 D T zE0 b gr n0 (0, o.1, o.2) 0 0 5 [(0, zr b z0), (1, .int z1), (2, .int z2), (3, .int z3), (4, .int z4)] [] N) (k129 : Nat → Int32 → Int32 → Int32 → Int32 → Int32 → Int32 → zM → Option (Int32 × zM)) (hk129 : ∀ (z0 : Nat) (z1 : Int32) (z2 : Int32) (z3 : Int32) (z4 : Int32) (z6 : Int32) (z8 : Int32) (N : zM) (o : Int32 × zM), k129 z0 z1 z2 z3 z4 z6 z8 N = some o → zV false l RL cL_twice 10 (some .int) false 1 0 0 D T zE0 b gr n0 (0, o.1, o.2) 0 0 129 [(0, zr b z0), (1, .int z1), (2, .int z2), (3, .int z3), (4, .int z4), (6, .int z6), (8, .int z8)] [] N) (x0 : Nat) (x1 : Int32) (x2 : Int32) (x4 : Int32) (x6 : Int32) (x8 : Int32) (M : zM) (o : Int32 × zM) (h : fL_twice_155 k5 k129 x0 x1 x2 x4 x6 x8 M = some o) : zV false l RL cL_twice 10 (some .int) false 1 0 0 D T zE0 b gr n0 (0, o.1, o.2) 0 0 155 [(0, zr b x0), (1, .int x1), (2, .int x2), (4, .int x4), (6, .int x6), (8, .int x8)] [] M := by
  unfold fL_twice_155 at h
  refine zV_iload (j := 5) dL_twice_155 rfl ?_
  refine zV_goto (tgt := 161) dL_twice_157 (by decide) ?_
  exact vL_twice_161 k5 hk5 k129 hk129 x0 x1 x2 x4 x6 x8 x8 M _ h
set_option maxHeartbeats 4000000 in
set_option maxRecDepth 100000 in
theorem vL_twice_129 {l : Launch} {D : va_G} {T : Nat → ClassId} {b : Nat} {gr : Bool} {n0 : Nat} (k5 : Nat → Int32 → Int32 → Int32 → Int32 → zM → Option (Int32 × zM)) (hk5 : ∀ (z0 : Nat) (z1 : Int32) (z2 : Int32) (z3 : Int32) (z4 : Int32) (N : zM) (o : Int32 × zM), k5 z0 z1 z2 z3 z4 N = some o → zV false l RL cL_twice 10 (some .int) false 1 0 0 D T zE0 b gr n0 (0, o.1, o.2) 0 0 5 [(0, zr b z0), (1, .int z1), (2, .int z2), (3, .int z3), (4, .int z4)] [] N) : ∀ (n : Nat) (x0 : Nat) (x1 : Int32) (x2 : Int32) (x3 : Int32) (x4 : Int32) (x6 : Int32) (x8 : Int32) (M : zM) (o : Int32 × zM), fL_twice_129 k5 n x0 x1 x2 x3 x4 x6 x8 M = some o → zV false l RL cL_twice 10 (some .int) false 1 0 0 D T zE0 b gr n0 (0, o.1, o.2) 0 0 129 [(0, zr b x0), (1, .int x1), (2, .int x2), (3, .int x3), (4, .int x4), (6, .int x6), (8, .int x8)] [] M := by
  intro n
  induction n with
  | zero =>
    intro x0 x1 x2 x3 x4 x6 x8 M o h
    rw [fL_twice_129] at h
    cases h
  | succ n ih =>
    intro x0 x1 x2 x3 x4 x6 x8 M o h
    rw [fL_twice_129] at h
    refine zV_iload (j := 6) dL_twice_129 rfl ?_
    refine zV_if_lt (tgt := 168) dL_twice_131 (by decide) (fun c5 => ?_) (fun c5 => ?_)
    · replace h := z_t c5 h
      refine zV_pk [0, 1, 2, 3, 4] rfl ?_
      exact vL_twice_168 k5 hk5 x0 x1 x2 x3 x4 M _ h
    · replace h := z_f c5 h
      refine zV_iload (j := 5) dL_twice_134 rfl ?_
      refine zV_iload (j := 6) dL_twice_136 rfl ?_
      refine zV_ishr dL_twice_138 ?_
      refine zV_iconst (v := 1) dL_twice_139 (by decide) ?_
      refine zV_iand dL_twice_140 ?_
      refine zV_iconst (v := 1) dL_twice_141 (by decide) ?_
      refine zV_icmp_ne (tgt := 160) dL_twice_142 (by decide) (fun c6 => ?_) (fun c6 => ?_)
      · replace h := z_f c6 h
        exact vL_twice_160 k5 hk5 (fL_twice_129 k5 n) ih x0 x1 x2 x3 x4 x6 x8 M _ h
      · replace h := z_t c6 h
        refine zV_iload_n (j := 3) dL_twice_145 rfl rfl ?_
        refine zV_if_lt (tgt := 155) dL_twice_146 (by decide) (fun c7 => ?_) (fun c7 => ?_)
        · replace h := z_t c7 h
          refine zV_pk [0, 1, 2, 4, 5, 6] rfl ?_
          exact vL_twice_155 k5 hk5 (fL_twice_129 k5 n) ih x0 x1 x2 x4 x6 x8 M _ h
        · replace h := z_f c7 h
          refine zV_iload (j := 6) dL_twice_149 rfl ?_
          refine zV_iload_n (j := 3) dL_twice_151 rfl rfl ?_
          refine zV_icmp_ge (tgt := 160) dL_twice_152 (by decide) (fun c8 => ?_) (fun c8 => ?_)
          · replace h := z_t c8 h
            exact vL_twice_160 k5 hk5 (fL_twice_129 k5 n) ih x0 x1 x2 x3 x4 x6 x8 M _ h
          · replace h := z_f c8 h
            refine zV_pk [0, 1, 2, 4, 5, 6] rfl ?_
            exact vL_twice_155 k5 hk5 (fL_twice_129 k5 n) ih x0 x1 x2 x4 x6 x8 M _ h
set_option maxHeartbeats 4000000 in
set_option maxRecDepth 100000 in
theorem vL_twice_125 {l : Launch} {D : va_G} {T : Nat → ClassId} {b : Nat} {gr : Bool} {n0 : Nat} (k5 : Nat → Int32 → Int32 → Int32 → Int32 → zM → Option (Int32 × zM)) (hk5 : ∀ (z0 : Nat) (z1 : Int32) (z2 : Int32) (z3 : Int32) (z4 : Int32) (N : zM) (o : Int32 × zM), k5 z0 z1 z2 z3 z4 N = some o → zV false l RL cL_twice 10 (some .int) false 1 0 0 D T zE0 b gr n0 (0, o.1, o.2) 0 0 5 [(0, zr b z0), (1, .int z1), (2, .int z2), (3, .int z3), (4, .int z4)] [] N) (x0 : Nat) (x1 : Int32) (x2 : Int32) (x3 : Int32) (x4 : Int32) (x6 : Int32) (M : zM) (o : Int32 × zM) (h : fL_twice_125 k5 x0 x1 x2 x3 x4 x6 M = some o) : zV false l RL cL_twice 10 (some .int) false 1 0 0 D T zE0 b gr n0 (0, o.1, o.2) 0 0 125 [(0, zr b x0), (1, .int x1), (2, .int x2), (3, .int x3), (4, .int x4), (6, .int x6)] [] M := by
  unfold fL_twice_125 at h
  refine zV_bipush (v := 10) dL_twice_125 (by decide) ?_
  refine zV_istore [(8, .int 10), (0, zr b x0), (1, .int x1), (2, .int x2), (3, .int x3), (4, .int x4), (6, .int x6)] dL_twice_127 (by decide) rfl rfl ?_
  refine zV_pk [1, 2, 3, 4, 5, 6, 0] rfl ?_
  exact vL_twice_129 k5 hk5 10000 x0 x1 x2 x3 x4 x6 10 M _ h
set_option maxHeartbeats 4000000 in
set_option maxRecDepth 100000 in
theorem vL_twice_114 {l : Launch} {D : va_G} {T : Nat → ClassId} {b : Nat} {gr : Bool} {n0 : Nat} (k5 : Nat → Int32 → Int32 → Int32 → Int32 → zM → Option (Int32 × zM)) (hk5 : ∀ (z0 : Nat) (z1 : Int32) (z2 : Int32) (z3 : Int32) (z4 : Int32) (N : zM) (o : Int32 × zM), k5 z0 z1 z2 z3 z4 N = some o → zV false l RL cL_twice 10 (some .int) false 1 0 0 D T zE0 b gr n0 (0, o.1, o.2) 0 0 5 [(0, zr b z0), (1, .int z1), (2, .int z2), (3, .int z3), (4, .int z4)] [] N) (k31 : Nat → Int32 → Int32 → Int32 → Int32 → Int32 → Int32 → Int32 → Int32 → zM → Option (Int32 × zM)) (hk31 : ∀ (z0 : Nat) (z1 : Int32) (z2 : Int32) (z3 : Int32) (z4 : Int32) (z5 : Int32) (z6 : Int32) (z7 : Int32) (z8 : Int32) (N : zM) (o : Int32 × zM), k31 z0 z1 z2 z3 z4 z5 z6 z7 z8 N = some o → zV false l RL cL_twice 10 (some .int) false 1 0 0 D T zE0 b gr n0 (0, o.1, o.2) 0 0 31 [(0, zr b z0), (1, .int z1), (2, .int z2), (3, .int z3), (4, .int z4), (5, .int z5), (6, .int z6), (7, .int z7), (8, .int z8)] [] N) (x0 : Nat) (x1 : Int32) (x2 : Int32) (x3 : Int32) (x4 : Int32) (x5 : Int32) (x6 : Int32) (s0 : Int32) (M : zM) (o : Int32 × zM) (h : fL_twice_114 k5 k31 x0 x1 x2 x3 x4 x5 x6 s0 M = some o) : zV false l RL cL_twice 10 (some .int) false 1 0 0 D T zE0 b gr n0 (0, o.1, o.2) 0 0 114 [(0, zr b x0), (1, .int x1), (2, .int x2), (3, .int x3), (4, .int x4), (5, .int x5), (6, .int x6)] [.int s0] M := by
  unfold fL_twice_114 at h
  refine zV_istore [(8, .int s0), (0, zr b x0), (1, .int x1), (2, .int x2), (3, .int x3), (4, .int x4), (5, .int x5), (6, .int x6)] dL_twice_114 (by decide) rfl rfl ?_
  refine zV_iconst (v := 0) dL_twice_116 (by decide) ?_
  refine zV_istore [(7, .int 0), (8, .int s0), (0, zr b x0), (1, .int x1), (2, .int x2), (3, .int x3), (4, .int x4), (5, .int x5), (6, .int x6)] dL_twice_117 (by decide) rfl rfl ?_
  obtain ⟨u9, e10⟩ : ∃ y : Int32, y = s0 + 1 := ⟨_, rfl⟩
  replace h := zlet_of h e10
  refine zV_iinc (j := 1) (v := u9) [(8, .int u9), (7, .int 0), (0, zr b x0), (1, .int x1), (2, .int x2), (3, .int x3), (4, .int x4), (5, .int x5), (6, .int x6)] dL_twice_119 rfl (by rw [e10]; rfl) (by decide) rfl rfl ?_
  refine zV_goto (tgt := 31) dL_twice_122 (by decide) ?_
  refine zV_pk [2, 3, 4, 5, 6, 7, 8, 1, 0] rfl ?_
  exact hk31 x0 x1 x2 x3 x4 x5 x6 0 u9 M _ h
set_option maxHeartbeats 4000000 in
set_option maxRecDepth 100000 in
theorem vL_twice_74 {l : Launch} {D : va_G} {T : Nat → ClassId} {b : Nat} {gr : Bool} {n0 : Nat} (k5 : Nat → Int32 → Int32 → Int32 → Int32 → zM → Option (Int32 × zM)) (hk5 : ∀ (z0 : Nat) (z1 : Int32) (z2 : Int32) (z3 : Int32) (z4 : Int32) (N : zM) (o : Int32 × zM), k5 z0 z1 z2 z3 z4 N = some o → zV false l RL cL_twice 10 (some .int) false 1 0 0 D T zE0 b gr n0 (0, o.1, o.2) 0 0 5 [(0, zr b z0), (1, .int z1), (2, .int z2), (3, .int z3), (4, .int z4)] [] N) (k31 : Nat → Int32 → Int32 → Int32 → Int32 → Int32 → Int32 → Int32 → Int32 → zM → Option (Int32 × zM)) (hk31 : ∀ (z0 : Nat) (z1 : Int32) (z2 : Int32) (z3 : Int32) (z4 : Int32) (z5 : Int32) (z6 : Int32) (z7 : Int32) (z8 : Int32) (N : zM) (o : Int32 × zM), k31 z0 z1 z2 z3 z4 z5 z6 z7 z8 N = some o → zV false l RL cL_twice 10 (some .int) false 1 0 0 D T zE0 b gr n0 (0, o.1, o.2) 0 0 31 [(0, zr b z0), (1, .int z1), (2, .int z2), (3, .int z3), (4, .int z4), (5, .int z5), (6, .int z6), (7, .int z7), (8, .int z8)] [] N) (x0 : Nat) (x1 : Int32) (x2 : Int32) (x3 : Int32) (x4 : Int32) (x5 : Int32) (x6 : Int32) (x7 : Int32) (x8 : Int32) (s0 : Int32) (M : zM) (o : Int32 × zM) (h : fL_twice_74 k5 k31 x0 x1 x2 x3 x4 x5 x6 x7 x8 s0 M = some o) : zV false l RL cL_twice 10 (some .int) false 1 0 0 D T zE0 b gr n0 (0, o.1, o.2) 0 0 74 [(0, zr b x0), (1, .int x1), (2, .int x2), (3, .int x3), (4, .int x4), (5, .int x5), (6, .int x6), (7, .int x7), (8, .int x8)] [.int s0] M := by
  unfold fL_twice_74 at h
  refine zV_istore [(9, .int s0), (0, zr b x0), (1, .int x1), (2, .int x2), (3, .int x3), (4, .int x4), (5, .int x5), (6, .int x6), (7, .int x7), (8, .int x8)] dL_twice_74 (by decide) rfl rfl ?_
  refine zV_iload (j := 7) dL_twice_76 rfl ?_
  refine zV_iload (j := 6) dL_twice_78 rfl ?_
  refine zV_iload (j := 0) dL_twice_80 rfl ?_
  refine zV_iand dL_twice_82 ?_
  refine zV_ior dL_twice_83 ?_
  refine zV_top (fun u11 e12 => ?_)
  replace h := zlet_of h e12
  refine zV_istore [(6, .int u11), (9, .int s0), (0, zr b x0), (1, .int x1), (2, .int x2), (3, .int x3), (4, .int x4), (5, .int x5), (7, .int x7), (8, .int x8)] dL_twice_84 (by decide) rfl rfl ?_
  refine zV_iload (j := 7) dL_twice_86 rfl ?_
  refine zV_iload (j := 1) dL_twice_88 rfl ?_
  refine zV_ior dL_twice_90 ?_
  refine zV_top (fun u13 e14 => ?_)
  replace h := zlet_of h e14
  refine zV_istore [(5, .int u13), (6, .int u11), (9, .int s0), (0, zr b x0), (1, .int x1), (2, .int x2), (3, .int x3), (4, .int x4), (7, .int x7), (8, .int x8)] dL_twice_91 (by decide) rfl rfl ?_
  refine zV_aload_n (j := 3) dL_twice_93 rfl rfl ?_
  refine zV_iconst (v := 4) dL_twice_94 (by decide) ?_
  refine zV_iload_n (j := 5) dL_twice_95 rfl rfl ?_
  refine zV_imul dL_twice_96 ?_
  refine zV_iload (j := 9) dL_twice_97 rfl ?_
  refine zV_iadd dL_twice_99 ?_
  refine zV_iload (j := 8) dL_twice_100 rfl ?_
  obtain ⟨r15, M16, q17, h⟩ := zb_of h
  refine zV_callSi (As := [zr b x0, .int ((4 * x2) + x8), .int x7]) (rest := []) (vL_enough l D T b gr x0 ((4 * x2) + x8) x7 M _ _ q17) zm_yL_enough zl_RL_9 zs_yL_enough rfl rfl (zcs trivial (Nat.le_of_ble_eq_true rfl)) (by decide) (by decide) (by decide) dL_twice_102 ?_
  refine zV_if_eq (tgt := 113) dL_twice_105 (by decide) (fun c18 => ?_) (fun c18 => ?_)
  · replace h := z_t c18 h
    refine zV_iload_n (j := 4) dL_twice_113 rfl rfl ?_
    refine zV_pk [3, 4, 5, 6, 7, 0, 1] rfl ?_
    exact vL_twice_114 k5 hk5 k31 hk31 x0 x1 x2 x3 x4 u13 u11 x1 M16 _ h
  · replace h := z_f c18 h
    refine zV_iload (j := 9) dL_twice_108 rfl ?_
    refine zV_goto (tgt := 114) dL_twice_110 (by decide) ?_
    refine zV_pk [3, 4, 5, 6, 7, 0, 1] rfl ?_
    exact vL_twice_114 k5 hk5 k31 hk31 x0 x1 x2 x3 x4 u13 u11 x8 M16 _ h
set_option maxHeartbeats 4000000 in
set_option maxRecDepth 100000 in
theorem vL_twice_58 {l : Launch} {D : va_G} {T : Nat → ClassId} {b : Nat} {gr : Bool} {n0 : Nat} (k5 : Nat → Int32 → Int32 → Int32 → Int32 → zM → Option (Int32 × zM)) (hk5 : ∀ (z0 : Nat) (z1 : Int32) (z2 : Int32) (z3 : Int32) (z4 : Int32) (N : zM) (o : Int32 × zM), k5 z0 z1 z2 z3 z4 N = some o → zV false l RL cL_twice 10 (some .int) false 1 0 0 D T zE0 b gr n0 (0, o.1, o.2) 0 0 5 [(0, zr b z0), (1, .int z1), (2, .int z2), (3, .int z3), (4, .int z4)] [] N) (k31 : Nat → Int32 → Int32 → Int32 → Int32 → Int32 → Int32 → Int32 → Int32 → zM → Option (Int32 × zM)) (hk31 : ∀ (z0 : Nat) (z1 : Int32) (z2 : Int32) (z3 : Int32) (z4 : Int32) (z5 : Int32) (z6 : Int32) (z7 : Int32) (z8 : Int32) (N : zM) (o : Int32 × zM), k31 z0 z1 z2 z3 z4 z5 z6 z7 z8 N = some o → zV false l RL cL_twice 10 (some .int) false 1 0 0 D T zE0 b gr n0 (0, o.1, o.2) 0 0 31 [(0, zr b z0), (1, .int z1), (2, .int z2), (3, .int z3), (4, .int z4), (5, .int z5), (6, .int z6), (7, .int z7), (8, .int z8)] [] N) (x0 : Nat) (x1 : Int32) (x2 : Int32) (x3 : Int32) (x4 : Int32) (x5 : Int32) (x6 : Int32) (x7 : Int32) (x8 : Int32) (M : zM) (o : Int32 × zM) (h : fL_twice_58 k5 k31 x0 x1 x2 x3 x4 x5 x6 x7 x8 M = some o) : zV false l RL cL_twice 10 (some .int) false 1 0 0 D T zE0 b gr n0 (0, o.1, o.2) 0 0 58 [(0, zr b x0), (1, .int x1), (2, .int x2), (3, .int x3), (4, .int x4), (5, .int x5), (6, .int x6), (7, .int x7), (8, .int x8)] [] M := by
  unfold fL_twice_58 at h
  refine zV_aload_n (j := 0) dL_twice_58 rfl rfl ?_
  refine zV_iconst (v := 4) dL_twice_59 (by decide) ?_
  refine zV_iload_n (j := 2) dL_twice_60 rfl rfl ?_
  refine zV_imul dL_twice_61 ?_
  refine zV_iload (j := 8) dL_twice_62 rfl ?_
  refine zV_iadd dL_twice_64 ?_
  obtain ⟨g19, h⟩ := zg_of h
  obtain ⟨g20, h⟩ := zg_of h
  refine zV_iald dL_twice_65 g19 g20 ?_
  refine zV_sipush (v := 2048) dL_twice_66 (by decide) ?_
  refine zV_irem dL_twice_69 (by decide) ?_
  refine zV_goto (tgt := 74) dL_twice_70 (by decide) ?_
  exact vL_twice_74 k5 hk5 k31 hk31 x0 x1 x2 x3 x4 x5 x6 x7 x8 (zrem (zI M x0 ((4 * x2) + x8).toNatClampNeg) 2048) M _ h
set_option maxHeartbeats 4000000 in
set_option maxRecDepth 100000 in
theorem vL_twice_31 {l : Launch} {D : va_G} {T : Nat → ClassId} {b : Nat} {gr : Bool} {n0 : Nat} (k5 : Nat → Int32 → Int32 → Int32 → Int32 → zM → Option (Int32 × zM)) (hk5 : ∀ (z0 : Nat) (z1 : Int32) (z2 : Int32) (z3 : Int32) (z4 : Int32) (N : zM) (o : Int32 × zM), k5 z0 z1 z2 z3 z4 N = some o → zV false l RL cL_twice 10 (some .int) false 1 0 0 D T zE0 b gr n0 (0, o.1, o.2) 0 0 5 [(0, zr b z0), (1, .int z1), (2, .int z2), (3, .int z3), (4, .int z4)] [] N) : ∀ (n : Nat) (x0 : Nat) (x1 : Int32) (x2 : Int32) (x3 : Int32) (x4 : Int32) (x5 : Int32) (x6 : Int32) (x7 : Int32) (x8 : Int32) (M : zM) (o : Int32 × zM), fL_twice_31 k5 n x0 x1 x2 x3 x4 x5 x6 x7 x8 M = some o → zV false l RL cL_twice 10 (some .int) false 1 0 0 D T zE0 b gr n0 (0, o.1, o.2) 0 0 31 [(0, zr b x0), (1, .int x1), (2, .int x2), (3, .int x3), (4, .int x4), (5, .int x5), (6, .int x6), (7, .int x7), (8, .int x8)] [] M := by
  intro n
  induction n with
  | zero =>
    intro x0 x1 x2 x3 x4 x5 x6 x7 x8 M o h
    rw [fL_twice_31] at h
    cases h
  | succ n ih =>
    intro x0 x1 x2 x3 x4 x5 x6 x7 x8 M o h
    rw [fL_twice_31] at h
    refine zV_iload (j := 8) dL_twice_31 rfl ?_
    refine zV_iload_n (j := 1) dL_twice_33 rfl rfl ?_
    refine zV_icmp_ge (tgt := 125) dL_twice_34 (by decide) (fun c21 => ?_) (fun c21 => ?_)
    · replace h := z_t c21 h
      refine zV_pk [0, 1, 2, 3, 4, 6] rfl ?_
      exact vL_twice_125 k5 hk5 x0 x1 x2 x3 x4 x6 M _ h
    · replace h := z_f c21 h
      refine zV_iload (j := 7) dL_twice_37 rfl ?_
      refine zV_if_eq (tgt := 58) dL_twice_39 (by decide) (fun c22 => ?_) (fun c22 => ?_)
      · replace h := z_t c22 h
        exact vL_twice_58 k5 hk5 (fL_twice_31 k5 n) ih x0 x1 x2 x3 x4 x5 x6 x7 x8 M _ h
      · replace h := z_f c22 h
        refine zV_aload_n (j := 0) dL_twice_42 rfl rfl ?_
        refine zV_iconst (v := 4) dL_twice_43 (by decide) ?_
        refine zV_iload_n (j := 2) dL_twice_44 rfl rfl ?_
        refine zV_imul dL_twice_45 ?_
        refine zV_iload (j := 8) dL_twice_46 rfl ?_
        refine zV_iadd dL_twice_48 ?_
        obtain ⟨g23, h⟩ := zg_of h
        obtain ⟨g24, h⟩ := zg_of h
        refine zV_iald dL_twice_49 g23 g24 ?_
        refine zV_sipush (v := 2048) dL_twice_50 (by decide) ?_
        refine zV_idiv dL_twice_53 (by decide) ?_
        refine zV_iconst (v := 1) dL_twice_54 (by decide) ?_
        refine zV_icmp_le (tgt := 73) dL_twice_55 (by decide) (fun c25 => ?_) (fun c25 => ?_)
        · replace h := z_t c25 h
          refine zV_iconst (v := 0) dL_twice_73 (by decide) ?_
          exact vL_twice_74 k5 hk5 (fL_twice_31 k5 n) ih x0 x1 x2 x3 x4 x5 x6 x7 x8 0 M _ h
        · replace h := z_f c25 h
          exact vL_twice_58 k5 hk5 (fL_twice_31 k5 n) ih x0 x1 x2 x3 x4 x5 x6 x7 x8 M _ h
set_option maxHeartbeats 4000000 in
set_option maxRecDepth 100000 in
theorem vL_twice_5 {l : Launch} {D : va_G} {T : Nat → ClassId} {b : Nat} {gr : Bool} {n0 : Nat} : ∀ (n : Nat) (x0 : Nat) (x1 : Int32) (x2 : Int32) (x3 : Int32) (x4 : Int32) (M : zM) (o : Int32 × zM), fL_twice_5 n x0 x1 x2 x3 x4 M = some o → zV false l RL cL_twice 10 (some .int) false 1 0 0 D T zE0 b gr n0 (0, o.1, o.2) 0 0 5 [(0, zr b x0), (1, .int x1), (2, .int x2), (3, .int x3), (4, .int x4)] [] M := by
  intro n
  induction n with
  | zero =>
    intro x0 x1 x2 x3 x4 M o h
    rw [fL_twice_5] at h
    cases h
  | succ n ih =>
    intro x0 x1 x2 x3 x4 M o h
    rw [fL_twice_5] at h
    refine zV_iload (j := 4) dL_twice_5 rfl ?_
    refine zV_iconst (v := 2) dL_twice_7 (by decide) ?_
    refine zV_iload_n (j := 1) dL_twice_8 rfl rfl ?_
    refine zV_imul dL_twice_9 ?_
    refine zV_icmp_ge (tgt := 174) dL_twice_10 (by decide) (fun c26 => ?_) (fun c26 => ?_)
    · replace h := z_t c26 h
      refine zV_iload_n (j := 3) dL_twice_174 rfl rfl ?_
      exact zV_iret rfl dL_twice_175 (by decide) (by decide) (z_ret h)
    · replace h := z_f c26 h
      refine zV_iconst (v := 0) dL_twice_13 (by decide) ?_
      refine zV_istore [(5, .int 0), (0, zr b x0), (1, .int x1), (2, .int x2), (3, .int x3), (4, .int x4)] dL_twice_14 (by decide) rfl rfl ?_
      refine zV_iconst (v := 0) dL_twice_16 (by decide) ?_
      refine zV_istore [(6, .int 0), (5, .int 0), (0, zr b x0), (1, .int x1), (2, .int x2), (3, .int x3), (4, .int x4)] dL_twice_17 (by decide) rfl rfl ?_
      refine zV_iload (j := 6) dL_twice_19 rfl ?_
      refine zV_iconst (v := 2) dL_twice_21 (by decide) ?_
      refine zV_irem dL_twice_22 (by decide) ?_
      refine zV_top (fun u27 e28 => ?_)
      replace h := zlet_of h e28
      refine zV_istore [(7, .int u27), (6, .int 0), (5, .int 0), (0, zr b x0), (1, .int x1), (2, .int x2), (3, .int x3), (4, .int x4)] dL_twice_23 (by decide) rfl rfl ?_
      refine zV_iload (j := 7) dL_twice_25 rfl ?_
      refine zV_iconst (v := 2) dL_twice_27 (by decide) ?_
      refine zV_idiv dL_twice_28 (by decide) ?_
      refine zV_top (fun u29 e30 => ?_)
      replace h := zlet_of h e30
      refine zV_istore [(8, .int u29), (7, .int u27), (6, .int 0), (5, .int 0), (0, zr b x0), (1, .int x1), (2, .int x2), (3, .int x3), (4, .int x4)] dL_twice_29 (by decide) rfl rfl ?_
      refine zV_pk [4, 5, 6, 7, 8, 3, 2, 1, 0] rfl ?_
      exact vL_twice_31 (fL_twice_5 n) ih 10000 x0 x1 x2 x3 x4 0 0 u27 u29 M _ h
set_option maxHeartbeats 4000000 in
set_option maxRecDepth 100000 in
theorem vL_twice (l : Launch) (D : va_G) (T : Nat → ClassId) (b : Nat) (gr : Bool) (x0 : Nat) (x1 : Int32) (x2 : Int32) (M : zM) (r : Int32) (M' : zM) (h : fL_twice x0 x1 x2 M = some (r, M')) : zMet l D T b gr yL_twice cL_twice 10 (some .int) 1 0 0 [zr b x0, .int x1, .int x2] M (0, r, M') := by
  refine zEntry2 (ev := zE0) rfl false (fun h9 => nomatch h9) zp_yL_twice ⟨zr_cat _ _, rfl, rfl, trivial⟩ (Nat.le_of_ble_eq_true rfl) ?_
  obtain ⟨o, ho⟩ : ∃ o : Int32 × zM, o = (r, M') := ⟨_, rfl⟩
  rw [← ho] at h
  rw [show ((0, r, M') : Nat × Int32 × zM) = (0, o.1, o.2) by rw [ho]]
  show zV false l RL cL_twice 10 (some .int) false 1 0 0 D T zE0 b gr M.2.2.2 (0, o.1, o.2) 0 0 0 [(0, zr b x0), (1, .int x1), (2, .int x2)] [] M
  unfold fL_twice at h
  refine zV_iconst (v := (-1)) dL_twice_0 (by decide) ?_
  refine zV_istore_n [(3, .int (-1)), (0, zr b x0), (1, .int x1), (2, .int x2)] dL_twice_1 rfl (by decide) rfl rfl ?_
  refine zV_iconst (v := 0) dL_twice_2 (by decide) ?_
  refine zV_istore [(4, .int 0), (3, .int (-1)), (0, zr b x0), (1, .int x1), (2, .int x2)] dL_twice_3 (by decide) rfl rfl ?_
  refine zV_pk [2, 3, 4, 1, 0] rfl ?_
  exact vL_twice_5 10000 x0 x1 x2 (-1) 0 M _ h
set_option maxHeartbeats 4000000 in
set_option maxRecDepth 100000 in
theorem vL_isGrammar_352 {l : Launch} {D : va_G} {T : Nat → ClassId} {b : Nat} {gr : Bool} {n0 : Nat} (x0 : Nat) (x5 : Int32) (x6 : Int32) (x7 : Int32) (x8 : Int32) (x9 : Int32) (s0 : Nat) (s1 : Int32) (s2 : Int32) (s3 : Int32) (M : zM) (o : Int32 × zM) (h : fL_isGrammar_352 x0 x5 x6 x7 x8 x9 s0 s1 s2 s3 M = some o) : zV false l RL cL_isGrammar 10 (some .boolean) false 124 0 0 D T zE0 b gr n0 (0, o.1, o.2) 0 0 352 [(0, zr b x0), (5, .int x5), (6, .int x6), (7, .int x7), (8, .int x8), (9, .int x9)] [.int s3, .int s2, .int s1, zr b s0] M := by
  unfold fL_isGrammar_352 at h
  refine zV_iadd dL_isGrammar_352 ?_
  obtain ⟨g1, h⟩ := zg_of h
  obtain ⟨g2, h⟩ := zg_of h
  refine zV_iast dL_isGrammar_353 g1 g2 ?_
  refine zV_mem (fun M3 e4 => ?_)
  replace h := zlet_of h e4
  refine zV_aload_n (j := 0) dL_isGrammar_354 rfl rfl ?_
  refine zV_iload (j := 2) dL_isGrammar_355 rfl ?_
  refine zV_iload (j := 3) dL_isGrammar_357 rfl ?_
  refine zV_iload (j := 4) dL_isGrammar_359 rfl ?_
  refine zV_iload (j := 1) dL_isGrammar_361 rfl ?_
  refine zV_sipush (v := 1500) dL_isGrammar_363 (by decide) ?_
  refine zV_idiv dL_isGrammar_366 (by decide) ?_
  refine zV_iconst (v := 4) dL_isGrammar_367 (by decide) ?_
  refine zV_irem dL_isGrammar_368 (by decide) ?_
  obtain ⟨r5, M6, q7, h⟩ := zb_of h
  refine zV_callW (n := 5) (As := [zr b x0, .int x6, .int x7, .int x8, .int (zrem (x5 / 1500) 4)]) (rest := []) (vL_slot l D T b gr x0 x6 x7 x8 (zrem (x5 / 1500) 4) M3 _ _ q7) zg_yL_slot ⟨by decide +kernel, by decide +kernel, by decide +kernel⟩ zl_RL_151 zs_yL_slot zK_RL rfl rfl rfl (zcs trivial (Nat.le_of_ble_eq_true rfl)) (by decide) (by decide) (by decide) (by decide) dL_isGrammar_369 ?_
  refine zV_iload (j := 5) dL_isGrammar_372 rfl ?_
  refine zV_icmp_ne (tgt := 381) dL_isGrammar_374 (by decide) (fun c8 => ?_) (fun c8 => ?_)
  · replace h := z_f c8 h
    refine zV_iconst (v := 0) dL_isGrammar_381 (by decide) ?_
    exact zV_zret rfl dL_isGrammar_382 (by decide) (by decide) (Or.inl rfl) (z_ret h)
  · replace h := z_t c8 h
    refine zV_iconst (v := 1) dL_isGrammar_377 (by decide) ?_
    refine zV_goto (tgt := 382) dL_isGrammar_378 (by decide) ?_
    exact zV_zret rfl dL_isGrammar_382 (by decide) (by decide) (Or.inr rfl) (z_ret h)
set_option maxHeartbeats 4000000 in
set_option maxRecDepth 100000 in
theorem vL_isGrammar_308 {l : Launch} {D : va_G} {T : Nat → ClassId} {b : Nat} {gr : Bool} {n0 : Nat} (x0 : Nat) (x1 : Nat) (x2 : Nat) (x5 : Int32) (x6 : Int32) (x7 : Int32) (x8 : Int32) (s0 : Nat) (s1 : Int32) (s2 : Int32) (s3 : Int32) (M : zM) (o : Int32 × zM) (h : fL_isGrammar_308 x0 x1 x2 x5 x6 x7 x8 s0 s1 s2 s3 M = some o) : zV false l RL cL_isGrammar 10 (some .boolean) false 124 0 0 D T zE0 b gr n0 (0, o.1, o.2) 0 0 308 [(0, zr b x0), (1, zr b x1), (2, zr b x2), (5, .int x5), (6, .int x6), (7, .int x7), (8, .int x8)] [.int s3, .int s2, .int s1, zr b s0] M := by
  unfold fL_isGrammar_308 at h
  refine zV_iadd dL_isGrammar_308 ?_
  refine zV_sipush (v := 2048) dL_isGrammar_309 (by decide) ?_
  refine zV_iload (j := 3) dL_isGrammar_312 rfl ?_
  refine zV_sipush (v := 1500) dL_isGrammar_314 (by decide) ?_
  refine zV_idiv dL_isGrammar_317 (by decide) ?_
  refine zV_iconst (v := 4) dL_isGrammar_318 (by decide) ?_
  refine zV_irem dL_isGrammar_319 (by decide) ?_
  refine zV_imul dL_isGrammar_320 ?_
  refine zV_iadd dL_isGrammar_321 ?_
  obtain ⟨g9, h⟩ := zg_of h
  obtain ⟨g10, h⟩ := zg_of h
  refine zV_iast dL_isGrammar_322 g9 g10 ?_
  refine zV_mem (fun M11 e12 => ?_)
  replace h := zlet_of h e12
  refine zV_aload_n (j := 1) dL_isGrammar_323 rfl rfl ?_
  refine zV_aload_n (j := 2) dL_isGrammar_324 rfl rfl ?_
  refine zV_iload (j := 4) dL_isGrammar_325 rfl ?_
  obtain ⟨g13, h⟩ := zg_of h
  obtain ⟨g14, h⟩ := zg_of h
  refine zV_iald dL_isGrammar_327 g13 g14 ?_
  refine zV_iconst (v := 1) dL_isGrammar_328 (by decide) ?_
  refine zV_iadd dL_isGrammar_329 ?_
  refine zV_iload (j := 4) dL_isGrammar_330 rfl ?_
  obtain ⟨r15, M16, q17, h⟩ := zb_of h
  refine zV_callSi (As := [zr b x1, .int ((zI M11 x2 x6.toNatClampNeg) + 1), .int x6]) (rest := []) (vL_twice l D T b gr x1 ((zI M11 x2 x6.toNatClampNeg) + 1) x6 M11 _ _ q17) zm_yL_twice zl_RL_147 zs_yL_twice rfl rfl (zcs trivial (Nat.le_of_ble_eq_true rfl)) (by decide) (by decide) (by decide) dL_isGrammar_332 ?_
  refine zV_istore [(9, .int r15), (0, zr b x0), (1, zr b x1), (2, zr b x2), (5, .int x5), (6, .int x6), (7, .int x7), (8, .int x8)] dL_isGrammar_335 (by decide) rfl rfl ?_
  refine zV_aload_n (j := 3) dL_isGrammar_337 rfl rfl ?_
  refine zV_iload (j := 5) dL_isGrammar_338 rfl ?_
  refine zV_dup2 dL_isGrammar_340 rfl (zr_cat _ _) ?_
  obtain ⟨g18, h⟩ := zg_of h
  obtain ⟨g19, h⟩ := zg_of h
  refine zV_iald dL_isGrammar_341 g18 g19 ?_
  refine zV_iload (j := 0) dL_isGrammar_342 rfl ?_
  refine zV_if_ge (tgt := 351) dL_isGrammar_344 (by decide) (fun c20 => ?_) (fun c20 => ?_)
  · replace h := z_t c20 h
    refine zV_iconst (v := 0) dL_isGrammar_351 (by decide) ?_
    refine zV_pk [1, 4, 5, 6, 7, 0] rfl ?_
    exact vL_isGrammar_352 x0 x5 x6 x7 x8 r15 x2 x6 (zI M16 x2 x6.toNatClampNeg) 0 M16 _ h
  · replace h := z_f c20 h
    refine zV_iconst (v := 1) dL_isGrammar_347 (by decide) ?_
    refine zV_goto (tgt := 352) dL_isGrammar_348 (by decide) ?_
    refine zV_pk [1, 4, 5, 6, 7, 0] rfl ?_
    exact vL_isGrammar_352 x0 x5 x6 x7 x8 r15 x2 x6 (zI M16 x2 x6.toNatClampNeg) 1 M16 _ h
set_option maxHeartbeats 4000000 in
set_option maxRecDepth 100000 in
theorem vL_isGrammar_282 {l : Launch} {D : va_G} {T : Nat → ClassId} {b : Nat} {gr : Bool} {n0 : Nat} (x0 : Nat) (x1 : Nat) (x2 : Nat) (x5 : Int32) (x6 : Int32) (x7 : Int32) (s0 : Int32) (M : zM) (o : Int32 × zM) (h : fL_isGrammar_282 x0 x1 x2 x5 x6 x7 s0 M = some o) : zV false l RL cL_isGrammar 10 (some .boolean) false 124 0 0 D T zE0 b gr n0 (0, o.1, o.2) 0 0 282 [(0, zr b x0), (1, zr b x1), (2, zr b x2), (5, .int x5), (6, .int x6), (7, .int x7)] [.int s0] M := by
  unfold fL_isGrammar_282 at h
  refine zV_istore [(8, .int s0), (0, zr b x0), (1, zr b x1), (2, zr b x2), (5, .int x5), (6, .int x6), (7, .int x7)] dL_isGrammar_282 (by decide) rfl rfl ?_
  refine zV_aload_n (j := 2) dL_isGrammar_284 rfl rfl ?_
  refine zV_iconst (v := 4) dL_isGrammar_285 (by decide) ?_
  refine zV_iload (j := 5) dL_isGrammar_286 rfl ?_
  refine zV_imul dL_isGrammar_288 ?_
  refine zV_aload_n (j := 3) dL_isGrammar_289 rfl rfl ?_
  refine zV_iload (j := 5) dL_isGrammar_290 rfl ?_
  obtain ⟨g21, h⟩ := zg_of h
  obtain ⟨g22, h⟩ := zg_of h
  refine zV_iald dL_isGrammar_292 g21 g22 ?_
  refine zV_iadd dL_isGrammar_293 ?_
  refine zV_iload (j := 6) dL_isGrammar_294 rfl ?_
  refine zV_iload (j := 0) dL_isGrammar_296 rfl ?_
  refine zV_if_eq (tgt := 307) dL_isGrammar_298 (by decide) (fun c23 => ?_) (fun c23 => ?_)
  · replace h := z_t c23 h
    refine zV_iconst (v := 0) dL_isGrammar_307 (by decide) ?_
    refine zV_pk [1, 2, 3, 4, 5, 6, 0] rfl ?_
    exact vL_isGrammar_308 x0 x1 x2 x5 x6 x7 s0 x1 ((4 * x6) + (zI M x2 x6.toNatClampNeg)) x7 0 M _ h
  · replace h := z_f c23 h
    refine zV_sipush (v := 1024) dL_isGrammar_301 (by decide) ?_
    refine zV_goto (tgt := 308) dL_isGrammar_304 (by decide) ?_
    refine zV_pk [1, 2, 3, 4, 5, 6, 0] rfl ?_
    exact vL_isGrammar_308 x0 x1 x2 x5 x6 x7 s0 x1 ((4 * x6) + (zI M x2 x6.toNatClampNeg)) x7 1024 M _ h
set_option maxHeartbeats 4000000 in
set_option maxRecDepth 100000 in
theorem vL_isGrammar_277 {l : Launch} {D : va_G} {T : Nat → ClassId} {b : Nat} {gr : Bool} {n0 : Nat} (x0 : Nat) (x1 : Nat) (x2 : Nat) (x5 : Int32) (x6 : Int32) (x7 : Int32) (M : zM) (o : Int32 × zM) (h : fL_isGrammar_277 x0 x1 x2 x5 x6 x7 M = some o) : zV false l RL cL_isGrammar 10 (some .boolean) false 124 0 0 D T zE0 b gr n0 (0, o.1, o.2) 0 0 277 [(0, zr b x0), (1, zr b x1), (2, zr b x2), (5, .int x5), (6, .int x6), (7, .int x7)] [] M := by
  unfold fL_isGrammar_277 at h
  refine zV_iconst (v := 1) dL_isGrammar_277 (by decide) ?_
  refine zV_goto (tgt := 282) dL_isGrammar_278 (by decide) ?_
  exact vL_isGrammar_282 x0 x1 x2 x5 x6 x7 1 M _ h
set_option maxHeartbeats 4000000 in
set_option maxRecDepth 100000 in
theorem vL_isGrammar_258 {l : Launch} {D : va_G} {T : Nat → ClassId} {b : Nat} {gr : Bool} {n0 : Nat} (x0 : Nat) (x1 : Nat) (x2 : Nat) (x5 : Int32) (x6 : Int32) (s0 : Int32) (s1 : Int32) (M : zM) (o : Int32 × zM) (h : fL_isGrammar_258 x0 x1 x2 x5 x6 s0 s1 M = some o) : zV false l RL cL_isGrammar 10 (some .boolean) false 124 0 0 D T zE0 b gr n0 (0, o.1, o.2) 0 0 258 [(0, zr b x0), (1, zr b x1), (2, zr b x2), (5, .int x5), (6, .int x6)] [.int s1, .int s0] M := by
  unfold fL_isGrammar_258 at h
  refine zV_iand dL_isGrammar_258 ?_
  refine zV_top (fun u24 e25 => ?_)
  replace h := zlet_of h e25
  refine zV_istore [(7, .int u24), (0, zr b x0), (1, zr b x1), (2, zr b x2), (5, .int x5), (6, .int x6)] dL_isGrammar_259 (by decide) rfl rfl ?_
  refine zV_iload (j := 0) dL_isGrammar_261 rfl ?_
  refine zV_if_eq (tgt := 277) dL_isGrammar_263 (by decide) (fun c26 => ?_) (fun c26 => ?_)
  · replace h := z_t c26 h
    refine zV_pk [1, 2, 3, 4, 5, 0] rfl ?_
    exact vL_isGrammar_277 x0 x1 x2 x5 x6 u24 M _ h
  · replace h := z_f c26 h
    refine zV_iload (j := 4) dL_isGrammar_266 rfl ?_
    refine zV_sipush (v := 375) dL_isGrammar_268 (by decide) ?_
    refine zV_idiv dL_isGrammar_271 (by decide) ?_
    refine zV_iconst (v := 4) dL_isGrammar_272 (by decide) ?_
    refine zV_irem dL_isGrammar_273 (by decide) ?_
    refine zV_if_ne (tgt := 281) dL_isGrammar_274 (by decide) (fun c27 => ?_) (fun c27 => ?_)
    · replace h := z_f c27 h
      refine zV_iconst (v := 0) dL_isGrammar_281 (by decide) ?_
      refine zV_pk [1, 2, 3, 4, 5, 0] rfl ?_
      exact vL_isGrammar_282 x0 x1 x2 x5 x6 u24 0 M _ h
    · replace h := z_t c27 h
      refine zV_pk [1, 2, 3, 4, 5, 0] rfl ?_
      exact vL_isGrammar_277 x0 x1 x2 x5 x6 u24 M _ h
set_option maxHeartbeats 4000000 in
set_option maxRecDepth 100000 in
theorem vL_isGrammar_209 {l : Launch} {D : va_G} {T : Nat → ClassId} {b : Nat} {gr : Bool} {n0 : Nat} (s0 : Nat) (s1 : Int32) (s2 : Int32) (s3 : Int32) (M : zM) (o : Int32 × zM) (h : fL_isGrammar_209 s0 s1 s2 s3 M = some o) : zV false l RL cL_isGrammar 10 (some .boolean) false 124 0 0 D T zE0 b gr n0 (0, o.1, o.2) 0 0 209 [] [.int s3, .int s2, .int s1, zr b s0] M := by
  unfold fL_isGrammar_209 at h
  obtain ⟨g28, h⟩ := zg_of h
  obtain ⟨g32, h⟩ := zg_of h
  obtain ⟨r29, M30z, q31, h⟩ := zbc_of h
  refine zV_cutVv (ci := 7) (As := [.int s1, .int s2, .int s3]) (rest := []) (vX7_omit l D T b false s0 s1 s2 s3 (zcut M) _ _ q31) zm_yX7_omit zl_RL_143 zi_yX7_omit ze_yX7_omit zcI7 g28 g32 rfl rfl (zcs trivial (Nat.le_of_ble_eq_true rfl)) (by decide) (Nat.le_of_ble_eq_true rfl) (Nat.le_of_ble_eq_true rfl) dL_isGrammar_209 ?_
  refine zV_mem (fun M30 M30e => ?_)
  rw [← M30e] at h
  refine zV_iconst (v := 1) dL_isGrammar_212 (by decide) ?_
  exact zV_zret rfl dL_isGrammar_213 (by decide) (by decide) (Or.inr rfl) (z_ret h)
set_option maxHeartbeats 4000000 in
set_option maxRecDepth 100000 in
theorem vL_isGrammar_193 {l : Launch} {D : va_G} {T : Nat → ClassId} {b : Nat} {gr : Bool} {n0 : Nat} (x5 : Int32) (s0 : Nat) (s1 : Int32) (s2 : Int32) (M : zM) (o : Int32 × zM) (h : fL_isGrammar_193 x5 s0 s1 s2 M = some o) : zV false l RL cL_isGrammar 10 (some .boolean) false 124 0 0 D T zE0 b gr n0 (0, o.1, o.2) 0 0 193 [(5, .int x5)] [.int s2, .int s1, zr b s0] M := by
  unfold fL_isGrammar_193 at h
  refine zV_iload (j := 0) dL_isGrammar_193 rfl ?_
  refine zV_bipush (v := 10) dL_isGrammar_195 (by decide) ?_
  refine zV_idiv dL_isGrammar_197 (by decide) ?_
  refine zV_iconst (v := 2) dL_isGrammar_198 (by decide) ?_
  refine zV_irem dL_isGrammar_199 (by decide) ?_
  refine zV_iconst (v := 1) dL_isGrammar_200 (by decide) ?_
  refine zV_icmp_ne (tgt := 208) dL_isGrammar_201 (by decide) (fun c33 => ?_) (fun c33 => ?_)
  · replace h := z_f c33 h
    refine zV_iconst (v := 0) dL_isGrammar_208 (by decide) ?_
    refine zV_pk [] rfl ?_
    exact vL_isGrammar_209 s0 s1 s2 0 M _ h
  · replace h := z_t c33 h
    refine zV_iconst (v := 1) dL_isGrammar_204 (by decide) ?_
    refine zV_goto (tgt := 209) dL_isGrammar_205 (by decide) ?_
    refine zV_pk [] rfl ?_
    exact vL_isGrammar_209 s0 s1 s2 1 M _ h
set_option maxHeartbeats 4000000 in
set_option maxRecDepth 100000 in
theorem vL_isGrammar_119 {l : Launch} {D : va_G} {T : Nat → ClassId} {b : Nat} {gr : Bool} {n0 : Nat} (x0 : Nat) (x3 : Nat) (x6 : Int32) (s0 : Nat) (s1 : Int32) (s2 : Int32) (s3 : Int32) (M : zM) (o : Int32 × zM) (h : fL_isGrammar_119 x0 x3 x6 s0 s1 s2 s3 M = some o) : zV false l RL cL_isGrammar 10 (some .boolean) false 124 0 0 D T zE0 b gr n0 (0, o.1, o.2) 0 0 119 [(0, zr b x0), (3, zr b x3), (6, .int x6)] [.int s3, .int s2, .int s1, zr b s0] M := by
  unfold fL_isGrammar_119 at h
  refine zV_ior dL_isGrammar_119 ?_
  obtain ⟨g34, h⟩ := zg_of h
  obtain ⟨g35, h⟩ := zg_of h
  refine zV_iast dL_isGrammar_120 g34 g35 ?_
  refine zV_mem (fun M36 e37 => ?_)
  replace h := zlet_of h e37
  refine zV_aload_n (j := 0) dL_isGrammar_121 rfl rfl ?_
  refine zV_iload (j := 2) dL_isGrammar_122 rfl ?_
  refine zV_aload_n (j := 1) dL_isGrammar_124 rfl rfl ?_
  refine zV_iload (j := 2) dL_isGrammar_125 rfl ?_
  obtain ⟨g38, h⟩ := zg_of h
  obtain ⟨g39, h⟩ := zg_of h
  refine zV_iald dL_isGrammar_127 g38 g39 ?_
  refine zV_sipush (v := 1023) dL_isGrammar_128 (by decide) ?_
  refine zV_iand dL_isGrammar_131 ?_
  refine zV_aload_n (j := 1) dL_isGrammar_132 rfl rfl ?_
  refine zV_iload (j := 2) dL_isGrammar_133 rfl ?_
  obtain ⟨g40, h⟩ := zg_of h
  refine zV_iald dL_isGrammar_135 g38 g40 ?_
  refine zV_bipush (v := 10) dL_isGrammar_136 (by decide) ?_
  refine zV_ishr dL_isGrammar_138 ?_
  refine zV_sipush (v := 1023) dL_isGrammar_139 (by decide) ?_
  refine zV_iand dL_isGrammar_142 ?_
  obtain ⟨g41, h⟩ := zg_of h
  obtain ⟨g45, h⟩ := zg_of h
  obtain ⟨r42, M43z, q44, h⟩ := zbc_of h
  refine zV_cutVv (ci := 7) (As := [.int x6, .int ((zI M36 x3 x6.toNatClampNeg) &&& 1023), .int (((zI M36 x3 x6.toNatClampNeg) >>> ((10 : Int32) &&& 31)) &&& 1023)]) (rest := []) (vX7_except l D T b false x0 x6 ((zI M36 x3 x6.toNatClampNeg) &&& 1023) (((zI M36 x3 x6.toNatClampNeg) >>> ((10 : Int32) &&& 31)) &&& 1023) (zcut M36) _ _ q44) zm_yX7_except zl_RL_138 zi_yX7_except ze_yX7_except zcI7 g41 g45 rfl rfl (zcs trivial (Nat.le_of_ble_eq_true rfl)) (by decide) (Nat.le_of_ble_eq_true rfl) (Nat.le_of_ble_eq_true rfl) dL_isGrammar_143 ?_
  refine zV_mem (fun M43 M43e => ?_)
  rw [← M43e] at h
  refine zV_iconst (v := 1) dL_isGrammar_146 (by decide) ?_
  exact zV_zret rfl dL_isGrammar_147 (by decide) (by decide) (Or.inr rfl) (z_ret h)
set_option maxHeartbeats 4000000 in
set_option maxRecDepth 100000 in
theorem vL_isGrammar_92 {l : Launch} {D : va_G} {T : Nat → ClassId} {b : Nat} {gr : Bool} {n0 : Nat} (x0 : Nat) (x3 : Nat) (x5 : Int32) (x6 : Int32) (s0 : Nat) (s1 : Int32) (s2 : Int32) (s3 : Int32) (M : zM) (o : Int32 × zM) (h : fL_isGrammar_92 x0 x3 x5 x6 s0 s1 s2 s3 M = some o) : zV false l RL cL_isGrammar 10 (some .boolean) false 124 0 0 D T zE0 b gr n0 (0, o.1, o.2) 0 0 92 [(0, zr b x0), (3, zr b x3), (5, .int x5), (6, .int x6)] [.int s3, .int s2, .int s1, zr b s0] M := by
  unfold fL_isGrammar_92 at h
  refine zV_ior dL_isGrammar_92 ?_
  refine zV_iload (j := 2) dL_isGrammar_93 rfl ?_
  refine zV_bipush (v := 75) dL_isGrammar_95 (by decide) ?_
  refine zV_idiv dL_isGrammar_97 (by decide) ?_
  refine zV_iconst (v := 3) dL_isGrammar_98 (by decide) ?_
  refine zV_irem dL_isGrammar_99 (by decide) ?_
  refine zV_if_ne (tgt := 118) dL_isGrammar_100 (by decide) (fun c46 => ?_) (fun c46 => ?_)
  · replace h := z_f c46 h
    refine zV_iconst (v := 0) dL_isGrammar_118 (by decide) ?_
    refine zV_pk [0, 1, 3] rfl ?_
    exact vL_isGrammar_119 x0 x3 x6 s0 s1 (s2 ||| s3) 0 M _ h
  · replace h := z_t c46 h
    refine zV_sipush (v := 1024) dL_isGrammar_103 (by decide) ?_
    refine zV_iload (j := 2) dL_isGrammar_106 rfl ?_
    refine zV_sipush (v := 225) dL_isGrammar_108 (by decide) ?_
    refine zV_idiv dL_isGrammar_111 (by decide) ?_
    refine zV_iconst (v := 5) dL_isGrammar_112 (by decide) ?_
    refine zV_irem dL_isGrammar_113 (by decide) ?_
    refine zV_ishl dL_isGrammar_114 ?_
    refine zV_goto (tgt := 119) dL_isGrammar_115 (by decide) ?_
    refine zV_pk [0, 1, 3] rfl ?_
    exact vL_isGrammar_119 x0 x3 x6 s0 s1 (s2 ||| s3) ((1024 : Int32) <<< ((zrem (x5 / 225) 5) &&& 31)) M _ h
set_option maxHeartbeats 4000000 in
set_option maxRecDepth 100000 in
theorem vL_isGrammar_48 {l : Launch} {D : va_G} {T : Nat → ClassId} {b : Nat} {gr : Bool} {n0 : Nat} (M : zM) (o : Int32 × zM) (h : fL_isGrammar_48 M = some o) : zV false l RL cL_isGrammar 10 (some .boolean) false 124 0 0 D T zE0 b gr n0 (0, o.1, o.2) 0 0 48 [] [] M := by
  unfold fL_isGrammar_48 at h
  refine zV_iconst (v := 1) dL_isGrammar_48 (by decide) ?_
  refine zV_goto (tgt := 53) dL_isGrammar_49 (by decide) ?_
  exact zV_zret rfl dL_isGrammar_53 (by decide) (by decide) (Or.inr rfl) (z_ret h)
set_option maxHeartbeats 4000000 in
set_option maxRecDepth 100000 in
theorem vL_isGrammar_31 {l : Launch} {D : va_G} {T : Nat → ClassId} {b : Nat} {gr : Bool} {n0 : Nat} (x0 : Nat) (x2 : Nat) (x6 : Int32) (s0 : Nat) (s1 : Int32) (s2 : Int32) (M : zM) (o : Int32 × zM) (h : fL_isGrammar_31 x0 x2 x6 s0 s1 s2 M = some o) : zV false l RL cL_isGrammar 10 (some .boolean) false 124 0 0 D T zE0 b gr n0 (0, o.1, o.2) 0 0 31 [(0, zr b x0), (2, zr b x2), (6, .int x6)] [.int s2, .int s1, zr b s0] M := by
  unfold fL_isGrammar_31 at h
  obtain ⟨g47, h⟩ := zg_of h
  obtain ⟨g48, h⟩ := zg_of h
  refine zV_iast dL_isGrammar_31 g47 g48 ?_
  refine zV_mem (fun M49 e50 => ?_)
  replace h := zlet_of h e50
  refine zV_aload_n (j := 1) dL_isGrammar_32 rfl rfl ?_
  refine zV_iload (j := 2) dL_isGrammar_33 rfl ?_
  obtain ⟨g51, h⟩ := zg_of h
  obtain ⟨g52, h⟩ := zg_of h
  refine zV_iald dL_isGrammar_35 g51 g52 ?_
  refine zV_if_gt (tgt := 48) dL_isGrammar_36 (by decide) (fun c53 => ?_) (fun c53 => ?_)
  · replace h := z_t c53 h
    refine zV_pk [] rfl ?_
    exact vL_isGrammar_48 M49 _ h
  · replace h := z_f c53 h
    refine zV_aload_n (j := 0) dL_isGrammar_39 rfl rfl ?_
    refine zV_iload (j := 2) dL_isGrammar_40 rfl ?_
    obtain ⟨g54, h⟩ := zg_of h
    obtain ⟨g58, h⟩ := zg_of h
    obtain ⟨r55, M56z, q57, h⟩ := zbc_of h
    refine zV_cutVi (ci := 7) (As := [.int x6]) (rest := []) (vX7_empty l D T b false x0 x6 (zcut M49) _ _ q57) zm_yX7_empty zl_RL_134 zi_yX7_empty ze_yX7_empty zcI7 g54 g58 rfl rfl (zcs trivial (Nat.le_of_ble_eq_true rfl)) (by decide) (Nat.le_of_ble_eq_true rfl) (Nat.le_of_ble_eq_true rfl) dL_isGrammar_42 ?_
    refine zV_mem (fun M56 M56e => ?_)
    rw [← M56e] at h
    refine zV_if_lt (tgt := 52) dL_isGrammar_45 (by decide) (fun c59 => ?_) (fun c59 => ?_)
    · replace h := z_t c59 h
      refine zV_iconst (v := 0) dL_isGrammar_52 (by decide) ?_
      exact zV_zret rfl dL_isGrammar_53 (by decide) (by decide) (Or.inl rfl) (z_ret h)
    · replace h := z_f c59 h
      refine zV_pk [] rfl ?_
      exact vL_isGrammar_48 M56 _ h
set_option maxHeartbeats 4000000 in
set_option maxRecDepth 100000 in
theorem vL_isGrammar (l : Launch) (D : va_G) (T : Nat → ClassId) (b : Nat) (gr : Bool) (x0 : Nat) (x1 : Nat) (x2 : Nat) (x3 : Nat) (x4 : Int32) (x5 : Int32) (M : zM) (r : Int32) (M' : zM) (h : fL_isGrammar x0 x1 x2 x3 x4 x5 M = some (r, M')) : zMet l D T b gr yL_isGrammar cL_isGrammar 10 (some .boolean) 124 0 0 [zr b x0, zr b x1, zr b x2, zr b x3, .int x4, .int x5] M (0, r, M') := by
  refine zEntry2 (ev := zE0) rfl false (fun h9 => nomatch h9) zp_yL_isGrammar ⟨zr_cat _ _, zr_cat _ _, zr_cat _ _, zr_cat _ _, rfl, rfl, trivial⟩ (Nat.le_of_ble_eq_true rfl) ?_
  obtain ⟨o, ho⟩ : ∃ o : Int32 × zM, o = (r, M') := ⟨_, rfl⟩
  rw [← ho] at h
  rw [show ((0, r, M') : Nat × Int32 × zM) = (0, o.1, o.2) by rw [ho]]
  show zV false l RL cL_isGrammar 10 (some .boolean) false 124 0 0 D T zE0 b gr M.2.2.2 (0, o.1, o.2) 0 0 0 [(0, zr b x0), (1, zr b x1), (2, zr b x2), (3, zr b x3), (4, .int x4), (5, .int x5)] [] M
  unfold fL_isGrammar at h
  refine zV_iload (j := 5) dL_isGrammar_0 rfl ?_
  refine zV_iconst (v := 5) dL_isGrammar_2 (by decide) ?_
  refine zV_irem dL_isGrammar_3 (by decide) ?_
  refine zV_top (fun u60 e61 => ?_)
  replace h := zlet_of h e61
  refine zV_istore [(6, .int u60), (0, zr b x0), (1, zr b x1), (2, zr b x2), (3, zr b x3), (4, .int x4), (5, .int x5)] dL_isGrammar_4 (by decide) rfl rfl ?_
  refine zV_iload (j := 5) dL_isGrammar_6 rfl ?_
  refine zV_if_ne (tgt := 54) dL_isGrammar_8 (by decide) (fun c62 => ?_) (fun c62 => ?_)
  · replace h := z_f c62 h
    refine zV_iload (j := 5) dL_isGrammar_54 rfl ?_
    refine zV_iconst (v := 1) dL_isGrammar_56 (by decide) ?_
    refine zV_icmp_ne (tgt := 148) dL_isGrammar_57 (by decide) (fun c63 => ?_) (fun c63 => ?_)
    · replace h := z_f c63 h
      refine zV_iload (j := 5) dL_isGrammar_148 rfl ?_
      refine zV_iconst (v := 2) dL_isGrammar_150 (by decide) ?_
      refine zV_icmp_ne (tgt := 214) dL_isGrammar_151 (by decide) (fun c64 => ?_) (fun c64 => ?_)
      · replace h := z_f c64 h
        refine zV_aload_n (j := 3) dL_isGrammar_214 rfl rfl ?_
        refine zV_iload (j := 0) dL_isGrammar_215 rfl ?_
        obtain ⟨g65, h⟩ := zg_of h
        obtain ⟨g66, h⟩ := zg_of h
        refine zV_iald dL_isGrammar_217 g65 g66 ?_
        refine zV_iconst (v := 4) dL_isGrammar_218 (by decide) ?_
        refine zV_icmp_ne (tgt := 224) dL_isGrammar_219 (by decide) (fun c67 => ?_) (fun c67 => ?_)
        · replace h := z_f c67 h
          refine zV_iconst (v := 1) dL_isGrammar_224 (by decide) ?_
          refine zV_iload (j := 6) dL_isGrammar_225 rfl ?_
          refine zV_iconst (v := 5) dL_isGrammar_227 (by decide) ?_
          refine zV_idiv dL_isGrammar_228 (by decide) ?_
          refine zV_iconst (v := 5) dL_isGrammar_229 (by decide) ?_
          refine zV_irem dL_isGrammar_230 (by decide) ?_
          refine zV_ishl dL_isGrammar_231 ?_
          refine zV_iconst (v := 1) dL_isGrammar_232 (by decide) ?_
          refine zV_iload (j := 6) dL_isGrammar_233 rfl ?_
          refine zV_bipush (v := 25) dL_isGrammar_235 (by decide) ?_
          refine zV_idiv dL_isGrammar_237 (by decide) ?_
          refine zV_iconst (v := 5) dL_isGrammar_238 (by decide) ?_
          refine zV_irem dL_isGrammar_239 (by decide) ?_
          refine zV_ishl dL_isGrammar_240 ?_
          refine zV_ior dL_isGrammar_241 ?_
          refine zV_iload (j := 6) dL_isGrammar_242 rfl ?_
          refine zV_bipush (v := 125) dL_isGrammar_244 (by decide) ?_
          refine zV_idiv dL_isGrammar_246 (by decide) ?_
          refine zV_iconst (v := 3) dL_isGrammar_247 (by decide) ?_
          refine zV_irem dL_isGrammar_248 (by decide) ?_
          refine zV_if_ne (tgt := 256) dL_isGrammar_249 (by decide) (fun c68 => ?_) (fun c68 => ?_)
          · replace h := z_f c68 h
            refine zV_bipush (v := 31) dL_isGrammar_256 (by decide) ?_
            refine zV_pk [1, 2, 3, 6, 0] rfl ?_
            exact vL_isGrammar_258 x0 x1 x2 x5 u60 (((1 : Int32) <<< ((zrem (x5 / 5) 5) &&& 31)) ||| ((1 : Int32) <<< ((zrem (x5 / 25) 5) &&& 31))) 31 M _ h
          · replace h := z_t c68 h
            refine zV_iconst (v := 0) dL_isGrammar_252 (by decide) ?_
            refine zV_goto (tgt := 258) dL_isGrammar_253 (by decide) ?_
            refine zV_pk [1, 2, 3, 6, 0] rfl ?_
            exact vL_isGrammar_258 x0 x1 x2 x5 u60 (((1 : Int32) <<< ((zrem (x5 / 5) 5) &&& 31)) ||| ((1 : Int32) <<< ((zrem (x5 / 25) 5) &&& 31))) 0 M _ h
        · replace h := z_t c67 h
          refine zV_iconst (v := 1) dL_isGrammar_222 (by decide) ?_
          exact zV_zret rfl dL_isGrammar_223 (by decide) (by decide) (Or.inr rfl) (z_ret h)
      · replace h := z_t c64 h
        refine zV_aload_n (j := 4) dL_isGrammar_154 rfl rfl ?_
        refine zV_iload (j := 0) dL_isGrammar_155 rfl ?_
        refine zV_aload_n (j := 4) dL_isGrammar_157 rfl rfl ?_
        refine zV_iload (j := 0) dL_isGrammar_158 rfl ?_
        obtain ⟨g69, h⟩ := zg_of h
        obtain ⟨g70, h⟩ := zg_of h
        refine zV_iald dL_isGrammar_160 g69 g70 ?_
        refine zV_ldc (v := 1048575) dL_isGrammar_161 zd_RL_142 ?_
        refine zV_iand dL_isGrammar_163 ?_
        refine zV_iload (j := 6) dL_isGrammar_164 rfl ?_
        refine zV_iconst (v := 5) dL_isGrammar_166 (by decide) ?_
        refine zV_idiv dL_isGrammar_167 (by decide) ?_
        refine zV_iconst (v := 4) dL_isGrammar_168 (by decide) ?_
        refine zV_irem dL_isGrammar_169 (by decide) ?_
        refine zV_bipush (v := 20) dL_isGrammar_170 (by decide) ?_
        refine zV_ishl dL_isGrammar_172 ?_
        refine zV_ior dL_isGrammar_173 ?_
        obtain ⟨g71, h⟩ := zg_of h
        refine zV_iast dL_isGrammar_174 g69 g71 ?_
        refine zV_mem (fun M72 e73 => ?_)
        replace h := zlet_of h e73
        refine zV_aload_n (j := 1) dL_isGrammar_175 rfl rfl ?_
        refine zV_iload (j := 0) dL_isGrammar_176 rfl ?_
        refine zV_iload (j := 6) dL_isGrammar_178 rfl ?_
        refine zV_iconst (v := 5) dL_isGrammar_180 (by decide) ?_
        refine zV_idiv dL_isGrammar_181 (by decide) ?_
        refine zV_iconst (v := 2) dL_isGrammar_182 (by decide) ?_
        refine zV_irem dL_isGrammar_183 (by decide) ?_
        refine zV_iconst (v := 1) dL_isGrammar_184 (by decide) ?_
        refine zV_icmp_ne (tgt := 192) dL_isGrammar_185 (by decide) (fun c74 => ?_) (fun c74 => ?_)
        · replace h := z_f c74 h
          refine zV_iconst (v := 0) dL_isGrammar_192 (by decide) ?_
          refine zV_pk [6] rfl ?_
          exact vL_isGrammar_193 x5 x0 u60 0 M72 _ h
        · replace h := z_t c74 h
          refine zV_iconst (v := 1) dL_isGrammar_188 (by decide) ?_
          refine zV_goto (tgt := 193) dL_isGrammar_189 (by decide) ?_
          refine zV_pk [6] rfl ?_
          exact vL_isGrammar_193 x5 x0 u60 1 M72 _ h
    · replace h := z_t c63 h
      refine zV_aload_n (j := 4) dL_isGrammar_60 rfl rfl ?_
      refine zV_iload (j := 0) dL_isGrammar_61 rfl ?_
      refine zV_aload_n (j := 4) dL_isGrammar_63 rfl rfl ?_
      refine zV_iload (j := 0) dL_isGrammar_64 rfl ?_
      obtain ⟨g75, h⟩ := zg_of h
      obtain ⟨g76, h⟩ := zg_of h
      refine zV_iald dL_isGrammar_66 g75 g76 ?_
      refine zV_ldc (v := 3145728) dL_isGrammar_67 zd_RL_137 ?_
      refine zV_iand dL_isGrammar_69 ?_
      refine zV_iload (j := 6) dL_isGrammar_70 rfl ?_
      refine zV_iconst (v := 5) dL_isGrammar_72 (by decide) ?_
      refine zV_idiv dL_isGrammar_73 (by decide) ?_
      refine zV_iconst (v := 3) dL_isGrammar_74 (by decide) ?_
      refine zV_irem dL_isGrammar_75 (by decide) ?_
      refine zV_if_ne (tgt := 91) dL_isGrammar_76 (by decide) (fun c77 => ?_) (fun c77 => ?_)
      · replace h := z_f c77 h
        refine zV_iconst (v := 0) dL_isGrammar_91 (by decide) ?_
        refine zV_pk [1, 4, 6, 0] rfl ?_
        exact vL_isGrammar_92 x0 x3 x5 u60 x3 u60 ((zI M x3 u60.toNatClampNeg) &&& 3145728) 0 M _ h
      · replace h := z_t c77 h
        refine zV_iconst (v := 1) dL_isGrammar_79 (by decide) ?_
        refine zV_iload (j := 6) dL_isGrammar_80 rfl ?_
        refine zV_bipush (v := 15) dL_isGrammar_82 (by decide) ?_
        refine zV_idiv dL_isGrammar_84 (by decide) ?_
        refine zV_iconst (v := 5) dL_isGrammar_85 (by decide) ?_
        refine zV_irem dL_isGrammar_86 (by decide) ?_
        refine zV_ishl dL_isGrammar_87 ?_
        refine zV_goto (tgt := 92) dL_isGrammar_88 (by decide) ?_
        refine zV_pk [1, 4, 6, 0] rfl ?_
        exact vL_isGrammar_92 x0 x3 x5 u60 x3 u60 ((zI M x3 u60.toNatClampNeg) &&& 3145728) ((1 : Int32) <<< ((zrem (x5 / 15) 5) &&& 31)) M _ h
  · replace h := z_t c62 h
    refine zV_aload_n (j := 3) dL_isGrammar_11 rfl rfl ?_
    refine zV_iload (j := 0) dL_isGrammar_12 rfl ?_
    refine zV_iload (j := 6) dL_isGrammar_14 rfl ?_
    refine zV_iconst (v := 5) dL_isGrammar_16 (by decide) ?_
    refine zV_idiv dL_isGrammar_17 (by decide) ?_
    refine zV_iconst (v := 3) dL_isGrammar_18 (by decide) ?_
    refine zV_irem dL_isGrammar_19 (by decide) ?_
    refine zV_if_le (tgt := 30) dL_isGrammar_20 (by decide) (fun c78 => ?_) (fun c78 => ?_)
    · replace h := z_t c78 h
      refine zV_iconst (v := 0) dL_isGrammar_30 (by decide) ?_
      refine zV_pk [1, 3, 0] rfl ?_
      exact vL_isGrammar_31 x0 x2 u60 x2 u60 0 M _ h
    · replace h := z_f c78 h
      refine zV_aload_n (j := 3) dL_isGrammar_23 rfl rfl ?_
      refine zV_iload (j := 0) dL_isGrammar_24 rfl ?_
      obtain ⟨g79, h⟩ := zg_of h
      obtain ⟨g80, h⟩ := zg_of h
      refine zV_iald dL_isGrammar_26 g79 g80 ?_
      refine zV_goto (tgt := 31) dL_isGrammar_27 (by decide) ?_
      refine zV_pk [1, 3, 0] rfl ?_
      exact vL_isGrammar_31 x0 x2 u60 x2 u60 (zI M x2 u60.toNatClampNeg) M _ h
set_option maxHeartbeats 4000000 in
set_option maxRecDepth 100000 in
theorem vL_drawn_156 {l : Launch} {D : va_G} {T : Nat → ClassId} {b : Nat} {gr : Bool} {n0 : Nat} (x1 : Int32) (s0 : Int32) (M : zM) (o : Int32 × zM) (h : fL_drawn_156 x1 s0 M = some o) : zV false l RL cL_drawn 3 (some .int) false 0 0 0 D T zE0 b gr n0 (0, o.1, o.2) 0 0 156 [(1, .int x1)] [.int s0] M := by
  unfold fL_drawn_156 at h
  refine zV_istore_n [(2, .int s0), (1, .int x1)] dL_drawn_156 rfl (by decide) rfl rfl ?_
  refine zV_sipush (v := 128) dL_drawn_157 (by decide) ?_
  refine zV_iload_n (j := 1) dL_drawn_160 rfl rfl ?_
  refine zV_imul dL_drawn_161 ?_
  refine zV_iload_n (j := 0) dL_drawn_162 rfl rfl ?_
  refine zV_iadd dL_drawn_163 ?_
  exact zV_iret rfl dL_drawn_164 (by decide) (by decide) (z_ret h)
set_option maxHeartbeats 4000000 in
set_option maxRecDepth 100000 in
theorem vL_drawn_146 {l : Launch} {D : va_G} {T : Nat → ClassId} {b : Nat} {gr : Bool} {n0 : Nat} (x0 : Int32) (x1 : Int32) (M : zM) (o : Int32 × zM) (h : fL_drawn_146 x0 x1 M = some o) : zV false l RL cL_drawn 3 (some .int) false 0 0 0 D T zE0 b gr n0 (0, o.1, o.2) 0 0 146 [(0, .int x0), (1, .int x1)] [] M := by
  unfold fL_drawn_146 at h
  refine zV_iload_n (j := 0) dL_drawn_146 rfl rfl ?_
  refine zV_bipush (v := 32) dL_drawn_147 (by decide) ?_
  refine zV_idiv dL_drawn_149 (by decide) ?_
  refine zV_iconst (v := 2) dL_drawn_150 (by decide) ?_
  refine zV_irem dL_drawn_151 (by decide) ?_
  refine zV_goto (tgt := 156) dL_drawn_152 (by decide) ?_
  refine zV_pk [1] rfl ?_
  exact vL_drawn_156 x1 (zrem (x0 / 32) 2) M _ h
set_option maxHeartbeats 4000000 in
set_option maxRecDepth 100000 in
theorem vL_drawn_102 {l : Launch} {D : va_G} {T : Nat → ClassId} {b : Nat} {gr : Bool} {n0 : Nat} (x0 : Int32) (s0 : Int32) (M : zM) (o : Int32 × zM) (h : fL_drawn_102 x0 s0 M = some o) : zV false l RL cL_drawn 3 (some .int) false 0 0 0 D T zE0 b gr n0 (0, o.1, o.2) 0 0 102 [(0, .int x0)] [.int s0] M := by
  unfold fL_drawn_102 at h
  refine zV_istore_n [(1, .int s0), (0, .int x0)] dL_drawn_102 rfl (by decide) rfl rfl ?_
  refine zV_iload_n (j := 0) dL_drawn_103 rfl rfl ?_
  refine zV_iconst (v := 2) dL_drawn_104 (by decide) ?_
  refine zV_icmp_ge (tgt := 117) dL_drawn_105 (by decide) (fun c1 => ?_) (fun c1 => ?_)
  · replace h := z_t c1 h
    refine zV_iload_n (j := 0) dL_drawn_117 rfl rfl ?_
    refine zV_iconst (v := 4) dL_drawn_118 (by decide) ?_
    refine zV_icmp_ne (tgt := 134) dL_drawn_119 (by decide) (fun c2 => ?_) (fun c2 => ?_)
    · replace h := z_f c2 h
      refine zV_iload_n (j := 0) dL_drawn_134 rfl rfl ?_
      refine zV_bipush (v := 6) dL_drawn_135 (by decide) ?_
      refine zV_icmp_eq (tgt := 146) dL_drawn_137 (by decide) (fun c3 => ?_) (fun c3 => ?_)
      · replace h := z_t c3 h
        refine zV_pk [1, 0] rfl ?_
        exact vL_drawn_146 x0 s0 M _ h
      · replace h := z_f c3 h
        refine zV_iload_n (j := 0) dL_drawn_140 rfl rfl ?_
        refine zV_bipush (v := 7) dL_drawn_141 (by decide) ?_
        refine zV_icmp_ne (tgt := 155) dL_drawn_143 (by decide) (fun c4 => ?_) (fun c4 => ?_)
        · replace h := z_f c4 h
          refine zV_iconst (v := 0) dL_drawn_155 (by decide) ?_
          refine zV_pk [0] rfl ?_
          exact vL_drawn_156 s0 0 M _ h
        · replace h := z_t c4 h
          refine zV_pk [1, 0] rfl ?_
          exact vL_drawn_146 x0 s0 M _ h
    · replace h := z_t c2 h
      refine zV_bipush (v := 97) dL_drawn_122 (by decide) ?_
      refine zV_iload_n (j := 1) dL_drawn_124 rfl rfl ?_
      refine zV_bipush (v := 32) dL_drawn_125 (by decide) ?_
      refine zV_idiv dL_drawn_127 (by decide) ?_
      refine zV_iconst (v := 3) dL_drawn_128 (by decide) ?_
      refine zV_irem dL_drawn_129 (by decide) ?_
      refine zV_iadd dL_drawn_130 ?_
      refine zV_goto (tgt := 156) dL_drawn_131 (by decide) ?_
      refine zV_pk [0] rfl ?_
      exact vL_drawn_156 s0 (97 + (zrem (x0 / 32) 3)) M _ h
  · replace h := z_f c1 h
    refine zV_iload_n (j := 1) dL_drawn_108 rfl rfl ?_
    refine zV_bipush (v := 32) dL_drawn_109 (by decide) ?_
    refine zV_idiv dL_drawn_111 (by decide) ?_
    refine zV_iconst (v := 5) dL_drawn_112 (by decide) ?_
    refine zV_irem dL_drawn_113 (by decide) ?_
    refine zV_goto (tgt := 156) dL_drawn_114 (by decide) ?_
    refine zV_pk [0] rfl ?_
    exact vL_drawn_156 s0 (zrem (x0 / 32) 5) M _ h
set_option maxHeartbeats 4000000 in
set_option maxRecDepth 100000 in
theorem vL_drawn_26 {l : Launch} {D : va_G} {T : Nat → ClassId} {b : Nat} {gr : Bool} {n0 : Nat} (x0 : Int32) (s0 : Int32) (M : zM) (o : Int32 × zM) (h : fL_drawn_26 x0 s0 M = some o) : zV false l RL cL_drawn 3 (some .int) false 0 0 0 D T zE0 b gr n0 (0, o.1, o.2) 0 0 26 [(0, .int x0)] [.int s0] M := by
  unfold fL_drawn_26 at h
  refine zV_istore_n [(1, .int s0), (0, .int x0)] dL_drawn_26 rfl (by decide) rfl rfl ?_
  refine zV_iload_n (j := 1) dL_drawn_27 rfl rfl ?_
  refine zV_bipush (v := 16) dL_drawn_28 (by decide) ?_
  refine zV_irem dL_drawn_30 (by decide) ?_
  refine zV_bipush (v := 11) dL_drawn_31 (by decide) ?_
  refine zV_icmp_ne (tgt := 40) dL_drawn_33 (by decide) (fun c5 => ?_) (fun c5 => ?_)
  · replace h := z_f c5 h
    refine zV_iload_n (j := 1) dL_drawn_40 rfl rfl ?_
    refine zV_bipush (v := 16) dL_drawn_41 (by decide) ?_
    refine zV_irem dL_drawn_43 (by decide) ?_
    refine zV_bipush (v := 12) dL_drawn_44 (by decide) ?_
    refine zV_icmp_ne (tgt := 53) dL_drawn_46 (by decide) (fun c6 => ?_) (fun c6 => ?_)
    · replace h := z_f c6 h
      refine zV_iload_n (j := 1) dL_drawn_53 rfl rfl ?_
      refine zV_bipush (v := 16) dL_drawn_54 (by decide) ?_
      refine zV_irem dL_drawn_56 (by decide) ?_
      refine zV_bipush (v := 13) dL_drawn_57 (by decide) ?_
      refine zV_icmp_ne (tgt := 66) dL_drawn_59 (by decide) (fun c7 => ?_) (fun c7 => ?_)
      · replace h := z_f c7 h
        refine zV_iload_n (j := 1) dL_drawn_66 rfl rfl ?_
        refine zV_bipush (v := 16) dL_drawn_67 (by decide) ?_
        refine zV_irem dL_drawn_69 (by decide) ?_
        refine zV_bipush (v := 14) dL_drawn_70 (by decide) ?_
        refine zV_icmp_ne (tgt := 80) dL_drawn_72 (by decide) (fun c8 => ?_) (fun c8 => ?_)
        · replace h := z_f c8 h
          refine zV_iload_n (j := 1) dL_drawn_80 rfl rfl ?_
          refine zV_bipush (v := 16) dL_drawn_81 (by decide) ?_
          refine zV_irem dL_drawn_83 (by decide) ?_
          refine zV_bipush (v := 15) dL_drawn_84 (by decide) ?_
          refine zV_icmp_ne (tgt := 101) dL_drawn_86 (by decide) (fun c9 => ?_) (fun c9 => ?_)
          · replace h := z_f c9 h
            refine zV_iload_n (j := 0) dL_drawn_101 rfl rfl ?_
            refine zV_pk [1] rfl ?_
            exact vL_drawn_102 x0 s0 M _ h
          · replace h := z_t c9 h
            refine zV_bipush (v := 7) dL_drawn_89 (by decide) ?_
            refine zV_iload_n (j := 1) dL_drawn_91 rfl rfl ?_
            refine zV_bipush (v := 16) dL_drawn_92 (by decide) ?_
            refine zV_idiv dL_drawn_94 (by decide) ?_
            refine zV_iconst (v := 2) dL_drawn_95 (by decide) ?_
            refine zV_irem dL_drawn_96 (by decide) ?_
            refine zV_iadd dL_drawn_97 ?_
            refine zV_goto (tgt := 102) dL_drawn_98 (by decide) ?_
            refine zV_pk [1] rfl ?_
            exact vL_drawn_102 x0 (7 + (zrem (x0 / 16) 2)) M _ h
        · replace h := z_t c8 h
          refine zV_bipush (v := 6) dL_drawn_75 (by decide) ?_
          refine zV_goto (tgt := 102) dL_drawn_77 (by decide) ?_
          refine zV_pk [1] rfl ?_
          exact vL_drawn_102 x0 6 M _ h
      · replace h := z_t c7 h
        refine zV_iconst (v := 5) dL_drawn_62 (by decide) ?_
        refine zV_goto (tgt := 102) dL_drawn_63 (by decide) ?_
        refine zV_pk [1] rfl ?_
        exact vL_drawn_102 x0 5 M _ h
    · replace h := z_t c6 h
      refine zV_iconst (v := 3) dL_drawn_49 (by decide) ?_
      refine zV_goto (tgt := 102) dL_drawn_50 (by decide) ?_
      refine zV_pk [1] rfl ?_
      exact vL_drawn_102 x0 3 M _ h
  · replace h := z_t c5 h
    refine zV_iconst (v := 2) dL_drawn_36 (by decide) ?_
    refine zV_goto (tgt := 102) dL_drawn_37 (by decide) ?_
    refine zV_pk [1] rfl ?_
    exact vL_drawn_102 x0 2 M _ h
set_option maxHeartbeats 4000000 in
set_option maxRecDepth 100000 in
theorem vL_drawn (l : Launch) (D : va_G) (T : Nat → ClassId) (b : Nat) (gr : Bool) (x0 : Int32) (M : zM) (r : Int32) (M' : zM) (h : fL_drawn x0 M = some (r, M')) : zMet l D T b gr yL_drawn cL_drawn 3 (some .int) 0 0 0 [.int x0] M (0, r, M') := by
  refine zEntry2 (ev := zE0) rfl false (fun h9 => nomatch h9) zp_yL_drawn ⟨rfl, trivial⟩ (Nat.le_of_ble_eq_true rfl) ?_
  obtain ⟨o, ho⟩ : ∃ o : Int32 × zM, o = (r, M') := ⟨_, rfl⟩
  rw [← ho] at h
  rw [show ((0, r, M') : Nat × Int32 × zM) = (0, o.1, o.2) by rw [ho]]
  show zV false l RL cL_drawn 3 (some .int) false 0 0 0 D T zE0 b gr M.2.2.2 (0, o.1, o.2) 0 0 0 [(0, .int x0)] [] M
  unfold fL_drawn at h
  refine zV_iload_n (j := 0) dL_drawn_0 rfl rfl ?_
  refine zV_bipush (v := 16) dL_drawn_1 (by decide) ?_
  refine zV_irem dL_drawn_3 (by decide) ?_
  refine zV_iconst (v := 5) dL_drawn_4 (by decide) ?_
  refine zV_icmp_ge (tgt := 12) dL_drawn_5 (by decide) (fun c10 => ?_) (fun c10 => ?_)
  · replace h := z_t c10 h
    refine zV_iload_n (j := 0) dL_drawn_12 rfl rfl ?_
    refine zV_bipush (v := 16) dL_drawn_13 (by decide) ?_
    refine zV_irem dL_drawn_15 (by decide) ?_
    refine zV_bipush (v := 8) dL_drawn_16 (by decide) ?_
    refine zV_icmp_ge (tgt := 25) dL_drawn_18 (by decide) (fun c11 => ?_) (fun c11 => ?_)
    · replace h := z_t c11 h
      refine zV_iconst (v := 4) dL_drawn_25 (by decide) ?_
      exact vL_drawn_26 x0 4 M _ h
    · replace h := z_f c11 h
      refine zV_iconst (v := 1) dL_drawn_21 (by decide) ?_
      refine zV_goto (tgt := 26) dL_drawn_22 (by decide) ?_
      exact vL_drawn_26 x0 1 M _ h
  · replace h := z_f c10 h
    refine zV_iconst (v := 0) dL_drawn_8 (by decide) ?_
    refine zV_goto (tgt := 26) dL_drawn_9 (by decide) ?_
    exact vL_drawn_26 x0 0 M _ h
