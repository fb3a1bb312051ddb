set_option maxHeartbeats 4000000 in
set_option maxRecDepth 100000 in
theorem vX8_opensMark (l : Launch) (D : va_G) (T : Nat → ClassId) (b : Nat) (gr : Bool) (x0 : Nat) (x1 : Int32) (M : zM) (r : Int32) (M' : zM) (h : fX8_opensMark x0 x1 M = some (r, M')) : zMet l D T b gr yX8_opensMark cX8_opensMark 2 none 0 0 0 [zr b x0, .int x1] M (0, r, M') := by
  refine zEntry2 false (fun h9 => nomatch h9) zp_yX8_opensMark ⟨zr_cat _ _, rfl, trivial⟩ (Nat.le_of_ble_eq_true rfl) ?_
  obtain ⟨o, ho⟩ : ∃ o : Int32 × zM, o = (r, M') := ⟨_, rfl⟩
  rw [← ho] at h
  rw [show ((0, r, M') : Nat × Int32 × zM) = (0, o.1, o.2) by rw [ho]]
  show zV false l RX8 cX8_opensMark 2 none false 0 0 0 D T b gr M.2.2.2 (0, o.1, o.2) 0 0 0 [(0, zr b x0), (1, .int x1)] [] M
  unfold fX8_opensMark at h
  refine zV_aload_n (j := 0) dX8_opensMark_0 rfl rfl ?_
  obtain ⟨g1, h⟩ := zg_of h
  refine zV_getR zf_RX8_98 dX8_opensMark_1 rfl g1 ?_
  refine zV_sipush (v := 620) dX8_opensMark_4 (by decide) ?_
  refine zV_aload_n (j := 0) dX8_opensMark_7 rfl rfl ?_
  refine zV_getI zf_RX8_246 dX8_opensMark_8 rfl g1 ?_
  refine zV_imul dX8_opensMark_11 ?_
  refine zV_aload_n (j := 0) dX8_opensMark_12 rfl rfl ?_
  refine zV_getR zf_RX8_95 dX8_opensMark_13 rfl g1 ?_
  refine zV_aload_n (j := 0) dX8_opensMark_16 rfl rfl ?_
  refine zV_getI zf_RX8_246 dX8_opensMark_17 rfl g1 ?_
  obtain ⟨g2, h⟩ := zg_of h
  obtain ⟨g3, h⟩ := zg_of h
  refine zV_iald dX8_opensMark_20 g2 g3 ?_
  refine zV_iadd dX8_opensMark_21 ?_
  refine zV_iload_n (j := 1) dX8_opensMark_22 rfl rfl ?_
  obtain ⟨g4, h⟩ := zg_of h
  obtain ⟨g5, h⟩ := zg_of h
  refine zV_iast dX8_opensMark_23 g4 g5 ?_
  refine zV_mem (fun M6 e7 => ?_)
  replace h := zlet_of h e7
  refine zV_aload_n (j := 0) dX8_opensMark_24 rfl rfl ?_
  refine zV_getR zf_RX8_95 dX8_opensMark_25 rfl (zkI e7 g1) ?_
  refine zV_aload_n (j := 0) dX8_opensMark_28 rfl rfl ?_
  refine zV_getI zf_RX8_246 dX8_opensMark_29 rfl (zkI e7 g1) ?_
  refine zV_dup2 dX8_opensMark_32 rfl (zr_cat _ _) ?_
  obtain ⟨g8, h⟩ := zg_of h
  obtain ⟨g9, h⟩ := zg_of h
  refine zV_iald dX8_opensMark_33 g8 g9 ?_
  refine zV_iconst (v := 1) dX8_opensMark_34 (by decide) ?_
  refine zV_iadd dX8_opensMark_35 ?_
  obtain ⟨g10, h⟩ := zg_of h
  refine zV_iast dX8_opensMark_36 g8 g10 ?_
  refine zV_mem (fun M11 e12 => ?_)
  replace h := zlet_of h e12
  exact zV_vret (x := 0) rfl dX8_opensMark_37 (by decide) (by decide) (z_ret h)
set_option maxHeartbeats 4000000 in
set_option maxRecDepth 100000 in
theorem vX8_isExcluded_40 {l : Launch} {D : va_G} {T : Nat → ClassId} {b : Nat} {gr : Bool} {n0 : Nat} (k4 : Nat → Int32 → Int32 → Int32 → zM → Option (Int32 × zM)) (hk4 : ∀ (z0 : Nat) (z1 : Int32) (z2 : Int32) (z3 : Int32) (N : zM) (o : Int32 × zM), k4 z0 z1 z2 z3 N = some o → zV false l RX8 cX8_isExcluded 4 (some .boolean) false 0 0 0 D T b gr n0 (0, o.1, o.2) 0 0 4 [(0, zr b z0), (1, .int z1), (2, .int z2), (3, .int z3)] [] N) (x0 : Nat) (x1 : Int32) (x3 : Int32) (s0 : Int32) (M : zM) (o : Int32 × zM) (h : fX8_isExcluded_40 k4 x0 x1 x3 s0 M = some o) : zV false l RX8 cX8_isExcluded 4 (some .boolean) false 0 0 0 D T b gr n0 (0, o.1, o.2) 0 0 40 [(0, zr b x0), (1, .int x1), (3, .int x3)] [.int s0] M := by
  unfold fX8_isExcluded_40 at h
  refine zV_istore_n [(2, .int s0), (0, zr b x0), (1, .int x1), (3, .int x3)] dX8_isExcluded_40 rfl (by decide) rfl ?_
  obtain ⟨u1, e2⟩ : ∃ y : Int32, y = x3 + 1 := ⟨_, rfl⟩
  replace h := zlet_of h e2
  refine zV_iinc (j := 3) (v := u1) [(3, .int u1), (2, .int s0), (0, zr b x0), (1, .int x1)] dX8_isExcluded_41 rfl (by rw [e2]; rfl) (by decide) rfl ?_
  refine zV_goto (tgt := 4) dX8_isExcluded_44 (by decide) ?_
  refine zV_pk [2, 3, 1, 0] rfl ?_
  exact hk4 x0 x1 s0 u1 M _ h
set_option maxHeartbeats 4000000 in
set_option maxRecDepth 100000 in
theorem vX8_isExcluded_35 {l : Launch} {D : va_G} {T : Nat → ClassId} {b : Nat} {gr : Bool} {n0 : Nat} (k4 : Nat → Int32 → Int32 → Int32 → zM → Option (Int32 × zM)) (hk4 : ∀ (z0 : Nat) (z1 : Int32) (z2 : Int32) (z3 : Int32) (N : zM) (o : Int32 × zM), k4 z0 z1 z2 z3 N = some o → zV false l RX8 cX8_isExcluded 4 (some .boolean) false 0 0 0 D T b gr n0 (0, o.1, o.2) 0 0 4 [(0, zr b z0), (1, .int z1), (2, .int z2), (3, .int z3)] [] N) (x0 : Nat) (x1 : Int32) (x3 : Int32) (M : zM) (o : Int32 × zM) (h : fX8_isExcluded_35 k4 x0 x1 x3 M = some o) : zV false l RX8 cX8_isExcluded 4 (some .boolean) false 0 0 0 D T b gr n0 (0, o.1, o.2) 0 0 35 [(0, zr b x0), (1, .int x1), (3, .int x3)] [] M := by
  unfold fX8_isExcluded_35 at h
  refine zV_iconst (v := 1) dX8_isExcluded_35 (by decide) ?_
  refine zV_goto (tgt := 40) dX8_isExcluded_36 (by decide) ?_
  exact vX8_isExcluded_40 k4 hk4 x0 x1 x3 1 M _ h
set_option maxHeartbeats 4000000 in
set_option maxRecDepth 100000 in
theorem vX8_isExcluded_4 {l : Launch} {D : va_G} {T : Nat → ClassId} {b : Nat} {gr : Bool} {n0 : Nat} : ∀ (n : Nat) (x0 : Nat) (x1 : Int32) (x2 : Int32) (x3 : Int32) (M : zM) (o : Int32 × zM), fX8_isExcluded_4 n x0 x1 x2 x3 M = some o → zV false l RX8 cX8_isExcluded 4 (some .boolean) false 0 0 0 D T b gr n0 (0, o.1, o.2) 0 0 4 [(0, zr b x0), (1, .int x1), (2, .int x2), (3, .int x3)] [] M := by
  intro n
  induction n with
  | zero =>
    intro x0 x1 x2 x3 M o h
    rw [fX8_isExcluded_4] at h
    cases h
  | succ n ih =>
    intro x0 x1 x2 x3 M o h
    rw [fX8_isExcluded_4] at h
    refine zV_iload_n (j := 3) dX8_isExcluded_4 rfl rfl ?_
    refine zV_aload_n (j := 0) dX8_isExcluded_5 rfl rfl ?_
    obtain ⟨g3, h⟩ := zg_of h
    refine zV_getI zf_RX8_190 dX8_isExcluded_6 rfl g3 ?_
    refine zV_icmp_ge (tgt := 47) dX8_isExcluded_9 (by decide) (fun c4 => ?_) (fun c4 => ?_)
    · replace h := z_t c4 h
      refine zV_iload_n (j := 2) dX8_isExcluded_47 rfl rfl ?_
      obtain ⟨g5, h⟩ := zg_of h
      exact zV_zret rfl dX8_isExcluded_48 (by decide) (by decide) g5 (z_ret h)
    · replace h := z_f c4 h
      refine zV_iload_n (j := 2) dX8_isExcluded_12 rfl rfl ?_
      refine zV_if_ne (tgt := 35) dX8_isExcluded_13 (by decide) (fun c6 => ?_) (fun c6 => ?_)
      · replace h := z_f c6 h
        refine zV_pk [0, 1, 3] rfl ?_
        exact vX8_isExcluded_35 (fX8_isExcluded_4 n) ih x0 x1 x3 M _ h
      · replace h := z_t c6 h
        refine zV_aload_n (j := 0) dX8_isExcluded_16 rfl rfl ?_
        refine zV_getR zf_RX8_22 dX8_isExcluded_17 rfl g3 ?_
        refine zV_aload_n (j := 0) dX8_isExcluded_20 rfl rfl ?_
        refine zV_getR zf_RX8_56 dX8_isExcluded_21 rfl g3 ?_
        refine zV_iload_n (j := 3) dX8_isExcluded_24 rfl rfl ?_
        obtain ⟨g7, h⟩ := zg_of h
        obtain ⟨g8, h⟩ := zg_of h
        refine zV_iald dX8_isExcluded_25 g7 g8 ?_
        obtain ⟨g9, h⟩ := zg_of h
        obtain ⟨g10, h⟩ := zg_of h
        refine zV_iald dX8_isExcluded_26 g9 g10 ?_
        refine zV_iload_n (j := 1) dX8_isExcluded_27 rfl rfl ?_
        refine zV_ishr dX8_isExcluded_28 ?_
        refine zV_iconst (v := 1) dX8_isExcluded_29 (by decide) ?_
        refine zV_iand dX8_isExcluded_30 ?_
        refine zV_iconst (v := 1) dX8_isExcluded_31 (by decide) ?_
        refine zV_icmp_ne (tgt := 39) dX8_isExcluded_32 (by decide) (fun c11 => ?_) (fun c11 => ?_)
        · replace h := z_f c11 h
          refine zV_iconst (v := 0) dX8_isExcluded_39 (by decide) ?_
          refine zV_pk [0, 1, 3] rfl ?_
          exact vX8_isExcluded_40 (fX8_isExcluded_4 n) ih x0 x1 x3 0 M _ h
        · replace h := z_t c11 h
          refine zV_pk [0, 1, 3] rfl ?_
          exact vX8_isExcluded_35 (fX8_isExcluded_4 n) ih x0 x1 x3 M _ h
set_option maxHeartbeats 4000000 in
set_option maxRecDepth 100000 in
theorem vX8_isExcluded (l : Launch) (D : va_G) (T : Nat → ClassId) (b : Nat) (gr : Bool) (x0 : Nat) (x1 : Int32) (M : zM) (r : Int32) (M' : zM) (h : fX8_isExcluded x0 x1 M = some (r, M')) : zMet l D T b gr yX8_isExcluded cX8_isExcluded 4 (some .boolean) 0 0 0 [zr b x0, .int x1] M (0, r, M') := by
  refine zEntry2 false (fun h9 => nomatch h9) zp_yX8_isExcluded ⟨zr_cat _ _, rfl, trivial⟩ (Nat.le_of_ble_eq_true rfl) ?_
  obtain ⟨o, ho⟩ : ∃ o : Int32 × zM, o = (r, M') := ⟨_, rfl⟩
  rw [← ho] at h
  rw [show ((0, r, M') : Nat × Int32 × zM) = (0, o.1, o.2) by rw [ho]]
  show zV false l RX8 cX8_isExcluded 4 (some .boolean) false 0 0 0 D T b gr M.2.2.2 (0, o.1, o.2) 0 0 0 [(0, zr b x0), (1, .int x1)] [] M
  unfold fX8_isExcluded at h
  refine zV_iconst (v := 0) dX8_isExcluded_0 (by decide) ?_
  refine zV_istore_n [(2, .int 0), (0, zr b x0), (1, .int x1)] dX8_isExcluded_1 rfl (by decide) rfl ?_
  refine zV_iconst (v := 0) dX8_isExcluded_2 (by decide) ?_
  refine zV_istore_n [(3, .int 0), (2, .int 0), (0, zr b x0), (1, .int x1)] dX8_isExcluded_3 rfl (by decide) rfl ?_
  refine zV_pk [2, 3, 1, 0] rfl ?_
  exact vX8_isExcluded_4 10000 x0 x1 0 0 M _ h
set_option maxHeartbeats 4000000 in
set_option maxRecDepth 100000 in
theorem vX8_hasThing_38 {l : Launch} {D : va_G} {T : Nat → ClassId} {b : Nat} {gr : Bool} {n0 : Nat} (M : zM) (o : Int32 × zM) (h : fX8_hasThing_38 M = some o) : zV false l RX8 cX8_hasThing 4 (some .boolean) false 0 0 0 D T b gr n0 (0, o.1, o.2) 0 0 38 [] [] M := by
  unfold fX8_hasThing_38 at h
  refine zV_iconst (v := 1) dX8_hasThing_38 (by decide) ?_
  refine zV_goto (tgt := 43) dX8_hasThing_39 (by decide) ?_
  exact zV_zret rfl dX8_hasThing_43 (by decide) (by decide) (Or.inr rfl) (z_ret h)
set_option maxHeartbeats 4000000 in
set_option maxRecDepth 100000 in
theorem vX8_hasThing (l : Launch) (D : va_G) (T : Nat → ClassId) (b : Nat) (gr : Bool) (x0 : Nat) (x1 : Int32) (x2 : Int32) (x3 : Int32) (M : zM) (r : Int32) (M' : zM) (h : fX8_hasThing x0 x1 x2 x3 M = some (r, M')) : zMet l D T b gr yX8_hasThing cX8_hasThing 4 (some .boolean) 0 0 0 [zr b x0, .int x1, .int x2, .int x3] M (0, r, M') := by
  refine zEntry2 false (fun h9 => nomatch h9) zp_yX8_hasThing ⟨zr_cat _ _, rfl, rfl, rfl, trivial⟩ (Nat.le_of_ble_eq_true rfl) ?_
  obtain ⟨o, ho⟩ : ∃ o : Int32 × zM, o = (r, M') := ⟨_, rfl⟩
  rw [← ho] at h
  rw [show ((0, r, M') : Nat × Int32 × zM) = (0, o.1, o.2) by rw [ho]]
  show zV false l RX8 cX8_hasThing 4 (some .boolean) false 0 0 0 D T b gr M.2.2.2 (0, o.1, o.2) 0 0 0 [(0, zr b x0), (1, .int x1), (2, .int x2), (3, .int x3)] [] M
  unfold fX8_hasThing at h
  refine zV_aload_n (j := 0) dX8_hasThing_0 rfl rfl ?_
  obtain ⟨g1, h⟩ := zg_of h
  refine zV_getR zf_RX8_7 dX8_hasThing_1 rfl g1 ?_
  refine zV_iload_n (j := 1) dX8_hasThing_4 rfl rfl ?_
  obtain ⟨g2, h⟩ := zg_of h
  obtain ⟨g3, h⟩ := zg_of h
  refine zV_iald dX8_hasThing_5 g2 g3 ?_
  refine zV_iload_n (j := 2) dX8_hasThing_6 rfl rfl ?_
  refine zV_ishr dX8_hasThing_7 ?_
  refine zV_iconst (v := 1) dX8_hasThing_8 (by decide) ?_
  refine zV_iand dX8_hasThing_9 ?_
  refine zV_iconst (v := 1) dX8_hasThing_10 (by decide) ?_
  refine zV_icmp_ne (tgt := 42) dX8_hasThing_11 (by decide) (fun c4 => ?_) (fun c4 => ?_)
  · replace h := z_f c4 h
    refine zV_iconst (v := 0) dX8_hasThing_42 (by decide) ?_
    exact zV_zret rfl dX8_hasThing_43 (by decide) (by decide) (Or.inl rfl) (z_ret h)
  · replace h := z_t c4 h
    refine zV_iload_n (j := 3) dX8_hasThing_14 rfl rfl ?_
    refine zV_if_eq (tgt := 38) dX8_hasThing_15 (by decide) (fun c5 => ?_) (fun c5 => ?_)
    · replace h := z_t c5 h
      refine zV_pk [] rfl ?_
      exact vX8_hasThing_38 M _ h
    · replace h := z_f c5 h
      refine zV_aload_n (j := 0) dX8_hasThing_18 rfl rfl ?_
      refine zV_getR zf_RX8_13 dX8_hasThing_19 rfl g1 ?_
      refine zV_iload_n (j := 1) dX8_hasThing_22 rfl rfl ?_
      obtain ⟨g6, h⟩ := zg_of h
      obtain ⟨g7, h⟩ := zg_of h
      refine zV_iald dX8_hasThing_23 g6 g7 ?_
      refine zV_iconst (v := 2) dX8_hasThing_24 (by decide) ?_
      refine zV_icmp_eq (tgt := 38) dX8_hasThing_25 (by decide) (fun c8 => ?_) (fun c8 => ?_)
      · replace h := z_t c8 h
        refine zV_pk [] rfl ?_
        exact vX8_hasThing_38 M _ h
      · replace h := z_f c8 h
        refine zV_aload_n (j := 0) dX8_hasThing_28 rfl rfl ?_
        refine zV_getR zf_RX8_13 dX8_hasThing_29 rfl g1 ?_
        refine zV_iload_n (j := 1) dX8_hasThing_32 rfl rfl ?_
        obtain ⟨g9, h⟩ := zg_of h
        refine zV_iald dX8_hasThing_33 g6 g9 ?_
        refine zV_iconst (v := 3) dX8_hasThing_34 (by decide) ?_
        refine zV_icmp_ne (tgt := 42) dX8_hasThing_35 (by decide) (fun c10 => ?_) (fun c10 => ?_)
        · replace h := z_f c10 h
          refine zV_iconst (v := 0) dX8_hasThing_42 (by decide) ?_
          exact zV_zret rfl dX8_hasThing_43 (by decide) (by decide) (Or.inl rfl) (z_ret h)
        · replace h := z_t c10 h
          refine zV_pk [] rfl ?_
          exact vX8_hasThing_38 M _ h
set_option maxHeartbeats 4000000 in
set_option maxRecDepth 100000 in
theorem vX8_hasEnough_24 {l : Launch} {D : va_G} {T : Nat → ClassId} {b : Nat} {gr : Bool} {n0 : Nat} (M : zM) (o : Int32 × zM) (h : fX8_hasEnough_24 M = some o) : zV false l RX8 cX8_hasEnough 3 (some .boolean) false 0 0 0 D T b gr n0 (0, o.1, o.2) 0 0 24 [] [] M := by
  unfold fX8_hasEnough_24 at h
  refine zV_iconst (v := 1) dX8_hasEnough_24 (by decide) ?_
  refine zV_goto (tgt := 29) dX8_hasEnough_25 (by decide) ?_
  exact zV_zret rfl dX8_hasEnough_29 (by decide) (by decide) (Or.inr rfl) (z_ret h)
set_option maxHeartbeats 4000000 in
set_option maxRecDepth 100000 in
theorem vX8_hasEnough (l : Launch) (D : va_G) (T : Nat → ClassId) (b : Nat) (gr : Bool) (x0 : Nat) (x1 : Int32) (x2 : Int32) (M : zM) (r : Int32) (M' : zM) (h : fX8_hasEnough x0 x1 x2 M = some (r, M')) : zMet l D T b gr yX8_hasEnough cX8_hasEnough 3 (some .boolean) 0 0 0 [zr b x0, .int x1, .int x2] M (0, r, M') := by
  refine zEntry2 false (fun h9 => nomatch h9) zp_yX8_hasEnough ⟨zr_cat _ _, rfl, rfl, trivial⟩ (Nat.le_of_ble_eq_true rfl) ?_
  obtain ⟨o, ho⟩ : ∃ o : Int32 × zM, o = (r, M') := ⟨_, rfl⟩
  rw [← ho] at h
  rw [show ((0, r, M') : Nat × Int32 × zM) = (0, o.1, o.2) by rw [ho]]
  show zV false l RX8 cX8_hasEnough 3 (some .boolean) false 0 0 0 D T b gr M.2.2.2 (0, o.1, o.2) 0 0 0 [(0, zr b x0), (1, .int x1), (2, .int x2)] [] M
  unfold fX8_hasEnough at h
  refine zV_iload_n (j := 2) dX8_hasEnough_0 rfl rfl ?_
  refine zV_if_ne (tgt := 24) dX8_hasEnough_1 (by decide) (fun c1 => ?_) (fun c1 => ?_)
  · replace h := z_f c1 h
    refine zV_pk [] rfl ?_
    exact vX8_hasEnough_24 M _ h
  · replace h := z_t c1 h
    refine zV_aload_n (j := 0) dX8_hasEnough_4 rfl rfl ?_
    obtain ⟨g2, h⟩ := zg_of h
    refine zV_getR zf_RX8_13 dX8_hasEnough_5 rfl g2 ?_
    refine zV_iload_n (j := 1) dX8_hasEnough_8 rfl rfl ?_
    obtain ⟨g3, h⟩ := zg_of h
    obtain ⟨g4, h⟩ := zg_of h
    refine zV_iald dX8_hasEnough_9 g3 g4 ?_
    refine zV_iconst (v := 1) dX8_hasEnough_10 (by decide) ?_
    refine zV_icmp_eq (tgt := 24) dX8_hasEnough_11 (by decide) (fun c5 => ?_) (fun c5 => ?_)
    · replace h := z_t c5 h
      refine zV_pk [] rfl ?_
      exact vX8_hasEnough_24 M _ h
    · replace h := z_f c5 h
      refine zV_aload_n (j := 0) dX8_hasEnough_14 rfl rfl ?_
      refine zV_getR zf_RX8_13 dX8_hasEnough_15 rfl g2 ?_
      refine zV_iload_n (j := 1) dX8_hasEnough_18 rfl rfl ?_
      obtain ⟨g6, h⟩ := zg_of h
      refine zV_iald dX8_hasEnough_19 g3 g6 ?_
      refine zV_iconst (v := 2) dX8_hasEnough_20 (by decide) ?_
      refine zV_icmp_ne (tgt := 28) dX8_hasEnough_21 (by decide) (fun c7 => ?_) (fun c7 => ?_)
      · replace h := z_f c7 h
        refine zV_iconst (v := 0) dX8_hasEnough_28 (by decide) ?_
        exact zV_zret rfl dX8_hasEnough_29 (by decide) (by decide) (Or.inl rfl) (z_ret h)
      · replace h := z_t c7 h
        refine zV_pk [] rfl ?_
        exact vX8_hasEnough_24 M _ h
set_option maxHeartbeats 4000000 in
set_option maxRecDepth 100000 in
theorem vX8_goesBy_6 {l : Launch} {D : va_G} {T : Nat → ClassId} {b : Nat} {gr : Bool} {n0 : Nat} : ∀ (n : Nat) (x0 : Nat) (x1 : Int32) (x4 : Int32) (x5 : Int32) (x6 : Int32) (M : zM) (o : Int32 × zM), fX8_goesBy_6 n x0 x1 x4 x5 x6 M = some o → zV false l RX8 cX8_goesBy 8 (some .int) false 1 0 0 D T b gr n0 (0, o.1, o.2) 0 0 6 [(0, zr b x0), (1, .int x1), (4, .int x4), (5, .int x5), (6, .int x6)] [] M := by
  intro n
  induction n with
  | zero =>
    intro x0 x1 x4 x5 x6 M o h
    rw [fX8_goesBy_6] at h
    cases h
  | succ n ih =>
    intro x0 x1 x4 x5 x6 M o h
    rw [fX8_goesBy_6] at h
    refine zV_iload (j := 4) dX8_goesBy_6 rfl ?_
    refine zV_aload_n (j := 0) dX8_goesBy_8 rfl rfl ?_
    obtain ⟨g1, h⟩ := zg_of h
    refine zV_getR zf_RX8_16 dX8_goesBy_9 rfl g1 ?_
    refine zV_iload_n (j := 1) dX8_goesBy_12 rfl rfl ?_
    obtain ⟨g2, h⟩ := zg_of h
    obtain ⟨g3, h⟩ := zg_of h
    refine zV_iald dX8_goesBy_13 g2 g3 ?_
    refine zV_icmp_ge (tgt := 64) dX8_goesBy_14 (by decide) (fun c4 => ?_) (fun c4 => ?_)
    · replace h := z_t c4 h
      refine zV_iconst (v := (-1)) dX8_goesBy_64 (by decide) ?_
      exact zV_iret rfl dX8_goesBy_65 (by decide) (by decide) (z_ret h)
    · replace h := z_f c4 h
      refine zV_bipush (v := 6) dX8_goesBy_17 (by decide) ?_
      refine zV_iload_n (j := 1) dX8_goesBy_19 rfl rfl ?_
      refine zV_imul dX8_goesBy_20 ?_
      refine zV_iload (j := 4) dX8_goesBy_21 rfl ?_
      refine zV_iadd dX8_goesBy_23 ?_
      refine zV_top (fun u5 e6 => ?_)
      replace h := zlet_of h e6
      refine zV_istore [(7, .int u5), (0, zr b x0), (1, .int x1), (4, .int x4), (5, .int x5), (6, .int x6)] dX8_goesBy_24 (by decide) rfl ?_
      refine zV_aload_n (j := 1) dX8_goesBy_26 rfl rfl ?_
      refine zV_iload (j := 0) dX8_goesBy_27 rfl ?_
      refine zV_iload (j := 3) dX8_goesBy_29 rfl ?_
      refine zV_iload (j := 4) dX8_goesBy_31 rfl ?_
      obtain ⟨r7, M8, q9, h⟩ := zb_of h
      refine zV_callVi (ci := 8) (As := [.int u5, .int x4, .int x5]) (rest := []) (vX8_hasThing l D T b gr x0 u5 x4 x5 M _ _ q9) zm_yX8_hasThing zl_RX8_147 zi_yX8_hasThing ze_yX8_hasThing zcI8 g1 rfl rfl (zcs trivial (Nat.le_of_ble_eq_true rfl)) (by decide) (by decide) (by decide) dX8_goesBy_33 ?_
      refine zV_if_eq (tgt := 42) dX8_goesBy_36 (by decide) (fun c10 => ?_) (fun c10 => ?_)
      · replace h := z_t c10 h
        refine zV_aload_n (j := 1) dX8_goesBy_42 rfl rfl ?_
        refine zV_iload (j := 0) dX8_goesBy_43 rfl ?_
        refine zV_iload (j := 4) dX8_goesBy_45 rfl ?_
        obtain ⟨g11, h⟩ := zg_of h
        obtain ⟨r12, M13, q14, h⟩ := zb_of h
        refine zV_callVi (ci := 8) (As := [.int u5, .int x5]) (rest := []) (vX8_hasEnough l D T b gr x0 u5 x5 M8 _ _ q14) zm_yX8_hasEnough zl_RX8_151 zi_yX8_hasEnough ze_yX8_hasEnough zcI8 g11 rfl rfl (zcs trivial (Nat.le_of_ble_eq_true rfl)) (by decide) (by decide) (by decide) dX8_goesBy_47 ?_
        refine zV_if_ne (tgt := 55) dX8_goesBy_50 (by decide) (fun c15 => ?_) (fun c15 => ?_)
        · replace h := z_f c15 h
          refine zV_iconst (v := 0) dX8_goesBy_55 (by decide) ?_
          refine zV_istore [(5, .int 0), (7, .int u5), (0, zr b x0), (1, .int x1), (4, .int x4), (6, .int x6)] dX8_goesBy_56 (by decide) rfl ?_
          obtain ⟨u16, e17⟩ : ∃ y : Int32, y = x6 + 1 := ⟨_, rfl⟩
          replace h := zlet_of h e17
          refine zV_iinc (j := 5) (v := u16) [(6, .int u16), (5, .int 0), (7, .int u5), (0, zr b x0), (1, .int x1), (4, .int x4)] dX8_goesBy_58 rfl (by rw [e17]; rfl) (by decide) rfl ?_
          refine zV_goto (tgt := 6) dX8_goesBy_61 (by decide) ?_
          refine zV_pk [3, 4, 5, 1, 0] rfl ?_
          exact ih x0 x1 x4 0 u16 M13 _ h
        · replace h := z_t c15 h
          refine zV_iconst (v := (-1)) dX8_goesBy_53 (by decide) ?_
          exact zV_iret rfl dX8_goesBy_54 (by decide) (by decide) (z_ret h)
      · replace h := z_f c10 h
        refine zV_iload (j := 5) dX8_goesBy_39 rfl ?_
        exact zV_iret rfl dX8_goesBy_41 (by decide) (by decide) (z_ret h)
set_option maxHeartbeats 4000000 in
set_option maxRecDepth 100000 in
theorem vX8_goesBy (l : Launch) (D : va_G) (T : Nat → ClassId) (b : Nat) (gr : Bool) (x0 : Nat) (x1 : Int32) (x2 : Int32) (x3 : Int32) (x4 : Int32) (M : zM) (r : Int32) (M' : zM) (h : fX8_goesBy x0 x1 x2 x3 x4 M = some (r, M')) : zMet l D T b gr yX8_goesBy cX8_goesBy 8 (some .int) 1 0 0 [zr b x0, .int x1, .int x2, .int x3, .int x4] M (0, r, M') := by
  refine zEntry2 false (fun h9 => nomatch h9) zp_yX8_goesBy ⟨zr_cat _ _, rfl, rfl, rfl, rfl, trivial⟩ (Nat.le_of_ble_eq_true rfl) ?_
  obtain ⟨o, ho⟩ : ∃ o : Int32 × zM, o = (r, M') := ⟨_, rfl⟩
  rw [← ho] at h
  rw [show ((0, r, M') : Nat × Int32 × zM) = (0, o.1, o.2) by rw [ho]]
  show zV false l RX8 cX8_goesBy 8 (some .int) false 1 0 0 D T b gr M.2.2.2 (0, o.1, o.2) 0 0 0 [(0, zr b x0), (1, .int x1), (2, .int x2), (3, .int x3), (4, .int x4)] [] M
  unfold fX8_goesBy at h
  refine zV_iload_n (j := 3) dX8_goesBy_0 rfl rfl ?_
  refine zV_istore [(5, .int x3), (0, zr b x0), (1, .int x1), (2, .int x2), (3, .int x3), (4, .int x4)] dX8_goesBy_1 (by decide) rfl ?_
  refine zV_iload_n (j := 3) dX8_goesBy_3 rfl rfl ?_
  refine zV_istore [(6, .int x2), (5, .int x3), (0, zr b x0), (1, .int x1), (2, .int x2), (3, .int x3), (4, .int x4)] dX8_goesBy_4 (by decide) rfl ?_
  refine zV_pk [2, 3, 6, 1, 0] rfl ?_
  exact vX8_goesBy_6 10000 x0 x1 x4 x3 x2 M _ h
set_option maxHeartbeats 4000000 in
set_option maxRecDepth 100000 in
theorem vX8_isIncluded_40 {l : Launch} {D : va_G} {T : Nat → ClassId} {b : Nat} {gr : Bool} {n0 : Nat} (k4 : Nat → Int32 → Int32 → Int32 → zM → Option (Int32 × zM)) (hk4 : ∀ (z0 : Nat) (z1 : Int32) (z2 : Int32) (z3 : Int32) (N : zM) (o : Int32 × zM), k4 z0 z1 z2 z3 N = some o → zV false l RX8 cX8_isIncluded 4 (some .boolean) false 0 0 0 D T b gr n0 (0, o.1, o.2) 0 0 4 [(0, zr b z0), (1, .int z1), (2, .int z2), (3, .int z3)] [] N) (x0 : Nat) (x1 : Int32) (x3 : Int32) (s0 : Int32) (M : zM) (o : Int32 × zM) (h : fX8_isIncluded_40 k4 x0 x1 x3 s0 M = some o) : zV false l RX8 cX8_isIncluded 4 (some .boolean) false 0 0 0 D T b gr n0 (0, o.1, o.2) 0 0 40 [(0, zr b x0), (1, .int x1), (3, .int x3)] [.int s0] M := by
  unfold fX8_isIncluded_40 at h
  refine zV_istore_n [(2, .int s0), (0, zr b x0), (1, .int x1), (3, .int x3)] dX8_isIncluded_40 rfl (by decide) rfl ?_
  obtain ⟨u1, e2⟩ : ∃ y : Int32, y = x3 + 1 := ⟨_, rfl⟩
  replace h := zlet_of h e2
  refine zV_iinc (j := 3) (v := u1) [(3, .int u1), (2, .int s0), (0, zr b x0), (1, .int x1)] dX8_isIncluded_41 rfl (by rw [e2]; rfl) (by decide) rfl ?_
  refine zV_goto (tgt := 4) dX8_isIncluded_44 (by decide) ?_
  refine zV_pk [2, 3, 1, 0] rfl ?_
  exact hk4 x0 x1 s0 u1 M _ h
set_option maxHeartbeats 4000000 in
set_option maxRecDepth 100000 in
theorem vX8_isIncluded_35 {l : Launch} {D : va_G} {T : Nat → ClassId} {b : Nat} {gr : Bool} {n0 : Nat} (k4 : Nat → Int32 → Int32 → Int32 → zM → Option (Int32 × zM)) (hk4 : ∀ (z0 : Nat) (z1 : Int32) (z2 : Int32) (z3 : Int32) (N : zM) (o : Int32 × zM), k4 z0 z1 z2 z3 N = some o → zV false l RX8 cX8_isIncluded 4 (some .boolean) false 0 0 0 D T b gr n0 (0, o.1, o.2) 0 0 4 [(0, zr b z0), (1, .int z1), (2, .int z2), (3, .int z3)] [] N) (x0 : Nat) (x1 : Int32) (x3 : Int32) (M : zM) (o : Int32 × zM) (h : fX8_isIncluded_35 k4 x0 x1 x3 M = some o) : zV false l RX8 cX8_isIncluded 4 (some .boolean) false 0 0 0 D T b gr n0 (0, o.1, o.2) 0 0 35 [(0, zr b x0), (1, .int x1), (3, .int x3)] [] M := by
  unfold fX8_isIncluded_35 at h
  refine zV_iconst (v := 1) dX8_isIncluded_35 (by decide) ?_
  refine zV_goto (tgt := 40) dX8_isIncluded_36 (by decide) ?_
  exact vX8_isIncluded_40 k4 hk4 x0 x1 x3 1 M _ h
set_option maxHeartbeats 4000000 in
set_option maxRecDepth 100000 in
theorem vX8_isIncluded_4 {l : Launch} {D : va_G} {T : Nat → ClassId} {b : Nat} {gr : Bool} {n0 : Nat} : ∀ (n : Nat) (x0 : Nat) (x1 : Int32) (x2 : Int32) (x3 : Int32) (M : zM) (o : Int32 × zM), fX8_isIncluded_4 n x0 x1 x2 x3 M = some o → zV false l RX8 cX8_isIncluded 4 (some .boolean) false 0 0 0 D T b gr n0 (0, o.1, o.2) 0 0 4 [(0, zr b x0), (1, .int x1), (2, .int x2), (3, .int x3)] [] M := by
  intro n
  induction n with
  | zero =>
    intro x0 x1 x2 x3 M o h
    rw [fX8_isIncluded_4] at h
    cases h
  | succ n ih =>
    intro x0 x1 x2 x3 M o h
    rw [fX8_isIncluded_4] at h
    refine zV_iload_n (j := 3) dX8_isIncluded_4 rfl rfl ?_
    refine zV_aload_n (j := 0) dX8_isIncluded_5 rfl rfl ?_
    obtain ⟨g3, h⟩ := zg_of h
    refine zV_getI zf_RX8_190 dX8_isIncluded_6 rfl g3 ?_
    refine zV_icmp_ge (tgt := 47) dX8_isIncluded_9 (by decide) (fun c4 => ?_) (fun c4 => ?_)
    · replace h := z_t c4 h
      refine zV_iload_n (j := 2) dX8_isIncluded_47 rfl rfl ?_
      obtain ⟨g5, h⟩ := zg_of h
      exact zV_zret rfl dX8_isIncluded_48 (by decide) (by decide) g5 (z_ret h)
    · replace h := z_f c4 h
      refine zV_iload_n (j := 2) dX8_isIncluded_12 rfl rfl ?_
      refine zV_if_ne (tgt := 35) dX8_isIncluded_13 (by decide) (fun c6 => ?_) (fun c6 => ?_)
      · replace h := z_f c6 h
        refine zV_pk [0, 1, 3] rfl ?_
        exact vX8_isIncluded_35 (fX8_isIncluded_4 n) ih x0 x1 x3 M _ h
      · replace h := z_t c6 h
        refine zV_aload_n (j := 0) dX8_isIncluded_16 rfl rfl ?_
        refine zV_getR zf_RX8_19 dX8_isIncluded_17 rfl g3 ?_
        refine zV_aload_n (j := 0) dX8_isIncluded_20 rfl rfl ?_
        refine zV_getR zf_RX8_56 dX8_isIncluded_21 rfl g3 ?_
        refine zV_iload_n (j := 3) dX8_isIncluded_24 rfl rfl ?_
        obtain ⟨g7, h⟩ := zg_of h
        obtain ⟨g8, h⟩ := zg_of h
        refine zV_iald dX8_isIncluded_25 g7 g8 ?_
        obtain ⟨g9, h⟩ := zg_of h
        obtain ⟨g10, h⟩ := zg_of h
        refine zV_iald dX8_isIncluded_26 g9 g10 ?_
        refine zV_iload_n (j := 1) dX8_isIncluded_27 rfl rfl ?_
        refine zV_ishr dX8_isIncluded_28 ?_
        refine zV_iconst (v := 1) dX8_isIncluded_29 (by decide) ?_
        refine zV_iand dX8_isIncluded_30 ?_
        refine zV_iconst (v := 1) dX8_isIncluded_31 (by decide) ?_
        refine zV_icmp_ne (tgt := 39) dX8_isIncluded_32 (by decide) (fun c11 => ?_) (fun c11 => ?_)
        · replace h := z_f c11 h
          refine zV_iconst (v := 0) dX8_isIncluded_39 (by decide) ?_
          refine zV_pk [0, 1, 3] rfl ?_
          exact vX8_isIncluded_40 (fX8_isIncluded_4 n) ih x0 x1 x3 0 M _ h
        · replace h := z_t c11 h
          refine zV_pk [0, 1, 3] rfl ?_
          exact vX8_isIncluded_35 (fX8_isIncluded_4 n) ih x0 x1 x3 M _ h
set_option maxHeartbeats 4000000 in
set_option maxRecDepth 100000 in
theorem vX8_isIncluded (l : Launch) (D : va_G) (T : Nat → ClassId) (b : Nat) (gr : Bool) (x0 : Nat) (x1 : Int32) (M : zM) (r : Int32) (M' : zM) (h : fX8_isIncluded x0 x1 M = some (r, M')) : zMet l D T b gr yX8_isIncluded cX8_isIncluded 4 (some .boolean) 0 0 0 [zr b x0, .int x1] M (0, r, M') := by
  refine zEntry2 false (fun h9 => nomatch h9) zp_yX8_isIncluded ⟨zr_cat _ _, rfl, trivial⟩ (Nat.le_of_ble_eq_true rfl) ?_
  obtain ⟨o, ho⟩ : ∃ o : Int32 × zM, o = (r, M') := ⟨_, rfl⟩
  rw [← ho] at h
  rw [show ((0, r, M') : Nat × Int32 × zM) = (0, o.1, o.2) by rw [ho]]
  show zV false l RX8 cX8_isIncluded 4 (some .boolean) false 0 0 0 D T b gr M.2.2.2 (0, o.1, o.2) 0 0 0 [(0, zr b x0), (1, .int x1)] [] M
  unfold fX8_isIncluded at h
  refine zV_iconst (v := 0) dX8_isIncluded_0 (by decide) ?_
  refine zV_istore_n [(2, .int 0), (0, zr b x0), (1, .int x1)] dX8_isIncluded_1 rfl (by decide) rfl ?_
  refine zV_iconst (v := 0) dX8_isIncluded_2 (by decide) ?_
  refine zV_istore_n [(3, .int 0), (2, .int 0), (0, zr b x0), (1, .int x1)] dX8_isIncluded_3 rfl (by decide) rfl ?_
  refine zV_pk [2, 3, 1, 0] rfl ?_
  exact vX8_isIncluded_4 10000 x0 x1 0 0 M _ h
set_option maxHeartbeats 4000000 in
set_option maxRecDepth 100000 in
theorem vX8_isAccepted_40 {l : Launch} {D : va_G} {T : Nat → ClassId} {b : Nat} {gr : Bool} {n0 : Nat} (x0 : Nat) (x1 : Int32) (M : zM) (o : Int32 × zM) (h : fX8_isAccepted_40 x0 x1 M = some o) : zV false l RX8 cX8_isAccepted 4 (some .boolean) false 2 0 0 D T b gr n0 (0, o.1, o.2) 0 0 40 [(0, zr b x0), (1, .int x1)] [] M := by
  unfold fX8_isAccepted_40 at h
  refine zV_aload_n (j := 0) dX8_isAccepted_40 rfl rfl ?_
  obtain ⟨g1, h⟩ := zg_of h
  refine zV_getI zf_RX8_190 dX8_isAccepted_41 rfl g1 ?_
  refine zV_iconst (v := 1) dX8_isAccepted_44 (by decide) ?_
  refine zV_isub dX8_isAccepted_45 ?_
  refine zV_top (fun u2 e3 => ?_)
  replace h := zlet_of h e3
  refine zV_istore_n [(2, .int u2), (0, zr b x0), (1, .int x1)] dX8_isAccepted_46 rfl (by decide) rfl ?_
  refine zV_aload_n (j := 1) dX8_isAccepted_47 rfl rfl ?_
  refine zV_aload_n (j := 1) dX8_isAccepted_48 rfl rfl ?_
  refine zV_getR zf_RX8_56 dX8_isAccepted_49 rfl g1 ?_
  refine zV_iload_n (j := 0) dX8_isAccepted_52 rfl rfl ?_
  obtain ⟨g4, h⟩ := zg_of h
  obtain ⟨g5, h⟩ := zg_of h
  refine zV_iald dX8_isAccepted_53 g4 g5 ?_
  refine zV_aload_n (j := 1) dX8_isAccepted_54 rfl rfl ?_
  refine zV_getR zf_RX8_59 dX8_isAccepted_55 rfl g1 ?_
  refine zV_iload_n (j := 0) dX8_isAccepted_58 rfl rfl ?_
  obtain ⟨g6, h⟩ := zg_of h
  obtain ⟨g7, h⟩ := zg_of h
  refine zV_iald dX8_isAccepted_59 g6 g7 ?_
  refine zV_aload_n (j := 1) dX8_isAccepted_60 rfl rfl ?_
  refine zV_getR zf_RX8_62 dX8_isAccepted_61 rfl g1 ?_
  refine zV_iload_n (j := 0) dX8_isAccepted_64 rfl rfl ?_
  obtain ⟨g8, h⟩ := zg_of h
  obtain ⟨g9, h⟩ := zg_of h
  refine zV_zald dX8_isAccepted_65 g8 g9 ?_
  refine zV_iload_n (j := 2) dX8_isAccepted_66 rfl rfl ?_
  obtain ⟨r10, M11, q12, h⟩ := zb_of h
  refine zV_callVi (ci := 8) (As := [.int (zI M (zR M x0 19) u2.toNatClampNeg), .int (zI M (zR M x0 20) u2.toNatClampNeg), .int (zI M (zR M x0 21) u2.toNatClampNeg), .int x1]) (rest := []) (vX8_goesBy l D T b gr x0 (zI M (zR M x0 19) u2.toNatClampNeg) (zI M (zR M x0 20) u2.toNatClampNeg) (zI M (zR M x0 21) u2.toNatClampNeg) x1 M _ _ q12) zm_yX8_goesBy zl_RX8_155 zi_yX8_goesBy ze_yX8_goesBy zcI8 g1 rfl rfl (zcs trivial (Nat.le_of_ble_eq_true rfl)) (by decide) (by decide) (by decide) dX8_isAccepted_67 ?_
  refine zV_istore_n [(3, .int r10), (2, .int u2), (0, zr b x0), (1, .int x1)] dX8_isAccepted_70 rfl (by decide) rfl ?_
  refine zV_iload_n (j := 0) dX8_isAccepted_71 rfl rfl ?_
  refine zV_iconst (v := (-1)) dX8_isAccepted_72 (by decide) ?_
  refine zV_icmp_eq (tgt := 92) dX8_isAccepted_73 (by decide) (fun c13 => ?_) (fun c13 => ?_)
  · replace h := z_t c13 h
    refine zV_iload_n (j := 3) dX8_isAccepted_92 rfl rfl ?_
    refine zV_bipush (v := 10) dX8_isAccepted_93 (by decide) ?_
    refine zV_icmp_ge (tgt := 110) dX8_isAccepted_95 (by decide) (fun c14 => ?_) (fun c14 => ?_)
    · replace h := z_t c14 h
      refine zV_iconst (v := 0) dX8_isAccepted_110 (by decide) ?_
      exact zV_zret rfl dX8_isAccepted_111 (by decide) (by decide) (Or.inl rfl) (z_ret h)
    · replace h := z_f c14 h
      refine zV_aload_n (j := 2) dX8_isAccepted_98 rfl rfl ?_
      refine zV_iload_n (j := 3) dX8_isAccepted_99 rfl rfl ?_
      obtain ⟨g15, h⟩ := zg_of h
      obtain ⟨r16, M17, q18, h⟩ := zb_of h
      refine zV_callVi (ci := 8) (As := [.int x1]) (rest := []) (vX8_isIncluded l D T b gr x0 x1 M11 _ _ q18) zm_yX8_isIncluded zl_RX8_211 zi_yX8_isIncluded ze_yX8_isIncluded zcI8 g15 rfl rfl (zcs trivial (Nat.le_of_ble_eq_true rfl)) (by decide) (by decide) (by decide) dX8_isAccepted_100 ?_
      refine zV_if_eq (tgt := 110) dX8_isAccepted_103 (by decide) (fun c19 => ?_) (fun c19 => ?_)
      · replace h := z_t c19 h
        refine zV_iconst (v := 0) dX8_isAccepted_110 (by decide) ?_
        exact zV_zret rfl dX8_isAccepted_111 (by decide) (by decide) (Or.inl rfl) (z_ret h)
      · replace h := z_f c19 h
        refine zV_iconst (v := 1) dX8_isAccepted_106 (by decide) ?_
        refine zV_goto (tgt := 111) dX8_isAccepted_107 (by decide) ?_
        exact zV_zret rfl dX8_isAccepted_111 (by decide) (by decide) (Or.inr rfl) (z_ret h)
  · replace h := z_f c13 h
    refine zV_aload_n (j := 2) dX8_isAccepted_76 rfl rfl ?_
    obtain ⟨g20, h⟩ := zg_of h
    refine zV_getR zf_RX8_59 dX8_isAccepted_77 rfl g20 ?_
    refine zV_iload_n (j := 1) dX8_isAccepted_80 rfl rfl ?_
    refine zV_iload_n (j := 0) dX8_isAccepted_81 rfl rfl ?_
    obtain ⟨g21, h⟩ := zg_of h
    obtain ⟨g22, h⟩ := zg_of h
    refine zV_iast dX8_isAccepted_82 g21 g22 ?_
    refine zV_mem (fun M23 e24 => ?_)
    replace h := zlet_of h e24
    refine zV_aload_n (j := 2) dX8_isAccepted_83 rfl rfl ?_
    refine zV_getR zf_RX8_62 dX8_isAccepted_84 rfl (zkI e24 g20) ?_
    refine zV_iload_n (j := 1) dX8_isAccepted_87 rfl rfl ?_
    refine zV_iconst (v := 1) dX8_isAccepted_88 (by decide) ?_
    obtain ⟨g25, h⟩ := zg_of h
    obtain ⟨g26, h⟩ := zg_of h
    refine zV_zast dX8_isAccepted_89 g25 g26 (Or.inr rfl) ?_
    refine zV_mem (fun M27 e28 => ?_)
    replace h := zlet_of h e28
    refine zV_iconst (v := 1) dX8_isAccepted_90 (by decide) ?_
    exact zV_zret rfl dX8_isAccepted_91 (by decide) (by decide) (Or.inr rfl) (z_ret h)
set_option maxHeartbeats 4000000 in
set_option maxRecDepth 100000 in
theorem vX8_isAccepted (l : Launch) (D : va_G) (T : Nat → ClassId) (b : Nat) (gr : Bool) (x0 : Nat) (x1 : Int32) (M : zM) (r : Int32) (M' : zM) (h : fX8_isAccepted x0 x1 M = some (r, M')) : zMet l D T b gr yX8_isAccepted cX8_isAccepted 4 (some .boolean) 2 0 0 [zr b x0, .int x1] M (0, r, M') := by
  refine zEntry2 false (fun h9 => nomatch h9) zp_yX8_isAccepted ⟨zr_cat _ _, rfl, trivial⟩ (Nat.le_of_ble_eq_true rfl) ?_
  obtain ⟨o, ho⟩ : ∃ o : Int32 × zM, o = (r, M') := ⟨_, rfl⟩
  rw [← ho] at h
  rw [show ((0, r, M') : Nat × Int32 × zM) = (0, o.1, o.2) by rw [ho]]
  show zV false l RX8 cX8_isAccepted 4 (some .boolean) false 2 0 0 D T b gr M.2.2.2 (0, o.1, o.2) 0 0 0 [(0, zr b x0), (1, .int x1)] [] M
  unfold fX8_isAccepted at h
  refine zV_aload_n (j := 0) dX8_isAccepted_0 rfl rfl ?_
  obtain ⟨g29, h⟩ := zg_of h
  refine zV_getI zf_RX8_190 dX8_isAccepted_1 rfl g29 ?_
  refine zV_if_ne (tgt := 24) dX8_isAccepted_4 (by decide) (fun c30 => ?_) (fun c30 => ?_)
  · replace h := z_f c30 h
    refine zV_iload_n (j := 1) dX8_isAccepted_24 rfl rfl ?_
    refine zV_bipush (v := 10) dX8_isAccepted_25 (by decide) ?_
    refine zV_icmp_ge (tgt := 40) dX8_isAccepted_27 (by decide) (fun c31 => ?_) (fun c31 => ?_)
    · replace h := z_t c31 h
      exact vX8_isAccepted_40 x0 x1 M _ h
    · replace h := z_f c31 h
      refine zV_aload_n (j := 0) dX8_isAccepted_30 rfl rfl ?_
      refine zV_iload_n (j := 1) dX8_isAccepted_31 rfl rfl ?_
      obtain ⟨r32, M33, q34, h⟩ := zb_of h
      refine zV_callVi (ci := 8) (As := [.int x1]) (rest := []) (vX8_isExcluded l D T b gr x0 x1 M _ _ q34) zm_yX8_isExcluded zl_RX8_207 zi_yX8_isExcluded ze_yX8_isExcluded zcI8 g29 rfl rfl (zcs trivial (Nat.le_of_ble_eq_true rfl)) (by decide) (by decide) (by decide) dX8_isAccepted_32 ?_
      refine zV_if_eq (tgt := 40) dX8_isAccepted_35 (by decide) (fun c35 => ?_) (fun c35 => ?_)
      · replace h := z_t c35 h
        exact vX8_isAccepted_40 x0 x1 M33 _ h
      · replace h := z_f c35 h
        refine zV_iconst (v := 0) dX8_isAccepted_38 (by decide) ?_
        exact zV_zret rfl dX8_isAccepted_39 (by decide) (by decide) (Or.inl rfl) (z_ret h)
  · replace h := z_t c30 h
    refine zV_aload_n (j := 0) dX8_isAccepted_7 rfl rfl ?_
    refine zV_getI zf_RX8_200 dX8_isAccepted_8 rfl g29 ?_
    refine zV_if_ne (tgt := 22) dX8_isAccepted_11 (by decide) (fun c36 => ?_) (fun c36 => ?_)
    · replace h := z_f c36 h
      refine zV_iconst (v := 0) dX8_isAccepted_22 (by decide) ?_
      exact zV_zret rfl dX8_isAccepted_23 (by decide) (by decide) (Or.inl rfl) (z_ret h)
    · replace h := z_t c36 h
      refine zV_iload_n (j := 1) dX8_isAccepted_14 rfl rfl ?_
      refine zV_if_ne (tgt := 22) dX8_isAccepted_15 (by decide) (fun c37 => ?_) (fun c37 => ?_)
      · replace h := z_f c37 h
        refine zV_iconst (v := 0) dX8_isAccepted_22 (by decide) ?_
        exact zV_zret rfl dX8_isAccepted_23 (by decide) (by decide) (Or.inl rfl) (z_ret h)
      · replace h := z_t c37 h
        refine zV_iconst (v := 1) dX8_isAccepted_18 (by decide) ?_
        refine zV_goto (tgt := 23) dX8_isAccepted_19 (by decide) ?_
        exact zV_zret rfl dX8_isAccepted_23 (by decide) (by decide) (Or.inr rfl) (z_ret h)
set_option maxHeartbeats 4000000 in
set_option maxRecDepth 100000 in
theorem vX8_puts_40 {l : Launch} {D : va_G} {T : Nat → ClassId} {b : Nat} {gr : Bool} {n0 : Nat} (x0 : Nat) (x2 : Int32) (x3 : Int32) (s0 : Nat) (s1 : Int32) (s2 : Int32) (M : zM) (o : Int32 × zM) (h : fX8_puts_40 x0 x2 x3 s0 s1 s2 M = some o) : zV false l RX8 cX8_puts 4 none false 0 0 0 D T b gr n0 (0, o.1, o.2) 0 0 40 [(0, zr b x0), (2, .int x2), (3, .int x3)] [.int s2, .int s1, zr b s0] M := by
  unfold fX8_puts_40 at h
  obtain ⟨g1, h⟩ := zg_of h
  obtain ⟨g2, h⟩ := zg_of h
  refine zV_iast dX8_puts_40 g1 g2 ?_
  refine zV_mem (fun M3 e4 => ?_)
  replace h := zlet_of h e4
  refine zV_aload_n (j := 0) dX8_puts_41 rfl rfl ?_
  obtain ⟨g5, h⟩ := zg_of h
  refine zV_getR zf_RX8_74 dX8_puts_42 rfl g5 ?_
  refine zV_aload_n (j := 0) dX8_puts_45 rfl rfl ?_
  refine zV_getI zf_RX8_187 dX8_puts_46 rfl g5 ?_
  refine zV_iload_n (j := 1) dX8_puts_49 rfl rfl ?_
  obtain ⟨g6, h⟩ := zg_of h
  obtain ⟨g7, h⟩ := zg_of h
  refine zV_iast dX8_puts_50 g6 g7 ?_
  refine zV_mem (fun M8 e9 => ?_)
  replace h := zlet_of h e9
  refine zV_aload_n (j := 0) dX8_puts_51 rfl rfl ?_
  refine zV_getR zf_RX8_77 dX8_puts_52 rfl (zkI e9 g5) ?_
  refine zV_aload_n (j := 0) dX8_puts_55 rfl rfl ?_
  refine zV_getI zf_RX8_187 dX8_puts_56 rfl (zkI e9 g5) ?_
  refine zV_aload_n (j := 0) dX8_puts_59 rfl rfl ?_
  refine zV_getR zf_RX8_92 dX8_puts_60 rfl (zkI e9 g5) ?_
  refine zV_iconst (v := 0) dX8_puts_63 (by decide) ?_
  obtain ⟨g10, h⟩ := zg_of h
  obtain ⟨g11, h⟩ := zg_of h
  refine zV_iald dX8_puts_64 g10 g11 ?_
  obtain ⟨g12, h⟩ := zg_of h
  obtain ⟨g13, h⟩ := zg_of h
  refine zV_iast dX8_puts_65 g12 g13 ?_
  refine zV_mem (fun M14 e15 => ?_)
  replace h := zlet_of h e15
  refine zV_aload_n (j := 0) dX8_puts_66 rfl rfl ?_
  refine zV_getR zf_RX8_80 dX8_puts_67 rfl (zkI e15 (zkI e9 g5)) ?_
  refine zV_aload_n (j := 0) dX8_puts_70 rfl rfl ?_
  refine zV_getI zf_RX8_187 dX8_puts_71 rfl (zkI e15 (zkI e9 g5)) ?_
  refine zV_iload_n (j := 2) dX8_puts_74 rfl rfl ?_
  obtain ⟨g16, h⟩ := zg_of h
  obtain ⟨g17, h⟩ := zg_of h
  obtain ⟨g18, h⟩ := zg_of h
  refine zV_zast dX8_puts_75 g16 g17 g18 ?_
  refine zV_mem (fun M19 e20 => ?_)
  replace h := zlet_of h e20
  refine zV_aload_n (j := 0) dX8_puts_76 rfl rfl ?_
  refine zV_dup dX8_puts_77 (zr_cat _ _) ?_
  refine zV_getI zf_RX8_187 dX8_puts_78 rfl (zkI e20 (zkI e15 (zkI e9 g5))) ?_
  refine zV_iconst (v := 1) dX8_puts_81 (by decide) ?_
  refine zV_iadd dX8_puts_82 ?_
  refine zV_putI zf_RX8_187 dX8_puts_83 rfl rfl (zkI e20 (zkI e15 (zkI e9 g5))) ?_
  refine zV_mem (fun M21 e22 => ?_)
  replace h := zlet_of h e22
  exact zV_vret (x := 0) rfl dX8_puts_86 (by decide) (by decide) (z_ret h)
set_option maxHeartbeats 4000000 in
set_option maxRecDepth 100000 in
theorem vX8_puts (l : Launch) (D : va_G) (T : Nat → ClassId) (b : Nat) (gr : Bool) (x0 : Nat) (x1 : Int32) (x2 : Int32) (x3 : Int32) (M : zM) (r : Int32) (M' : zM) (h : fX8_puts x0 x1 x2 x3 M = some (r, M')) : zMet l D T b gr yX8_puts cX8_puts 4 none 0 0 0 [zr b x0, .int x1, .int x2, .int x3] M (0, r, M') := by
  refine zEntry2 false (fun h9 => nomatch h9) zp_yX8_puts ⟨zr_cat _ _, rfl, rfl, rfl, trivial⟩ (Nat.le_of_ble_eq_true rfl) ?_
  obtain ⟨o, ho⟩ : ∃ o : Int32 × zM, o = (r, M') := ⟨_, rfl⟩
  rw [← ho] at h
  rw [show ((0, r, M') : Nat × Int32 × zM) = (0, o.1, o.2) by rw [ho]]
  show zV false l RX8 cX8_puts 4 none false 0 0 0 D T b gr M.2.2.2 (0, o.1, o.2) 0 0 0 [(0, zr b x0), (1, .int x1), (2, .int x2), (3, .int x3)] [] M
  unfold fX8_puts at h
  refine zV_aload_n (j := 0) dX8_puts_0 rfl rfl ?_
  obtain ⟨g23, h⟩ := zg_of h
  refine zV_getR zf_RX8_68 dX8_puts_1 rfl g23 ?_
  refine zV_aload_n (j := 0) dX8_puts_4 rfl rfl ?_
  refine zV_getI zf_RX8_187 dX8_puts_5 rfl g23 ?_
  refine zV_iload_n (j := 1) dX8_puts_8 rfl rfl ?_
  obtain ⟨g24, h⟩ := zg_of h
  obtain ⟨g25, h⟩ := zg_of h
  refine zV_iast dX8_puts_9 g24 g25 ?_
  refine zV_mem (fun M26 e27 => ?_)
  replace h := zlet_of h e27
  refine zV_aload_n (j := 0) dX8_puts_10 rfl rfl ?_
  refine zV_getR zf_RX8_71 dX8_puts_11 rfl (zkI e27 g23) ?_
  refine zV_aload_n (j := 0) dX8_puts_14 rfl rfl ?_
  refine zV_getI zf_RX8_187 dX8_puts_15 rfl (zkI e27 g23) ?_
  refine zV_aload_n (j := 0) dX8_puts_18 rfl rfl ?_
  refine zV_getI zf_RX8_190 dX8_puts_19 rfl (zkI e27 g23) ?_
  refine zV_if_ne (tgt := 29) dX8_puts_22 (by decide) (fun c28 => ?_) (fun c28 => ?_)
  · replace h := z_f c28 h
    refine zV_aload_n (j := 0) dX8_puts_29 rfl rfl ?_
    refine zV_getR zf_RX8_65 dX8_puts_30 rfl (zkI e27 g23) ?_
    refine zV_aload_n (j := 0) dX8_puts_33 rfl rfl ?_
    refine zV_getI zf_RX8_190 dX8_puts_34 rfl (zkI e27 g23) ?_
    refine zV_iconst (v := 1) dX8_puts_37 (by decide) ?_
    refine zV_isub dX8_puts_38 ?_
    obtain ⟨g29, h⟩ := zg_of h
    obtain ⟨g30, h⟩ := zg_of h
    refine zV_iald dX8_puts_39 g29 g30 ?_
    refine zV_pk [0, 2, 3] rfl ?_
    exact vX8_puts_40 x0 x2 x3 (zR M26 x0 27) (zI M26 x0 31) (zI M26 (zR M26 x0 22) ((zI M26 x0 23) - 1).toNatClampNeg) M26 _ h
  · replace h := z_t c28 h
    refine zV_iconst (v := (-1)) dX8_puts_25 (by decide) ?_
    refine zV_goto (tgt := 40) dX8_puts_26 (by decide) ?_
    refine zV_pk [0, 2, 3] rfl ?_
    exact vX8_puts_40 x0 x2 x3 (zR M26 x0 27) (zI M26 x0 31) (-1) M26 _ h
set_option maxHeartbeats 4000000 in
set_option maxRecDepth 100000 in
theorem vX8_opensElement_22 {l : Launch} {D : va_G} {T : Nat → ClassId} {b : Nat} {gr : Bool} {n0 : Nat} (x0 : Nat) (x1 : Int32) (s0 : Nat) (s1 : Int32) (s2 : Int32) (M : zM) (o : Int32 × zM) (h : fX8_opensElement_22 x0 x1 s0 s1 s2 M = some o) : zV false l RX8 cX8_opensElement 3 none false 1 0 0 D T b gr n0 (0, o.1, o.2) 0 0 22 [(0, zr b x0), (1, .int x1)] [.int s2, .int s1, zr b s0] M := by
  unfold fX8_opensElement_22 at h
  refine zV_iadd dX8_opensElement_22 ?_
  obtain ⟨g1, h⟩ := zg_of h
  refine zV_putI zf_RX8_197 dX8_opensElement_23 rfl rfl g1 ?_
  refine zV_mem (fun M2 e3 => ?_)
  replace h := zlet_of h e3
  refine zV_aload_n (j := 0) dX8_opensElement_26 rfl rfl ?_
  refine zV_iconst (v := 1) dX8_opensElement_27 (by decide) ?_
  obtain ⟨g4, h⟩ := zg_of h
  refine zV_putZ zf_RX8_200 dX8_opensElement_28 rfl rfl (Or.inr rfl) g4 ?_
  refine zV_mem (fun M5 e6 => ?_)
  replace h := zlet_of h e6
  refine zV_aload_n (j := 0) dX8_opensElement_31 rfl rfl ?_
  refine zV_iload_n (j := 1) dX8_opensElement_32 rfl rfl ?_
  refine zV_putI zf_RX8_204 dX8_opensElement_33 rfl rfl (zkI e6 g4) ?_
  refine zV_mem (fun M7 e8 => ?_)
  replace h := zlet_of h e8
  refine zV_aload_n (j := 0) dX8_opensElement_36 rfl rfl ?_
  refine zV_getR zf_RX8_16 dX8_opensElement_37 rfl (zkI e8 (zkI e6 g4)) ?_
  refine zV_iload_n (j := 1) dX8_opensElement_40 rfl rfl ?_
  obtain ⟨g9, h⟩ := zg_of h
  obtain ⟨g10, h⟩ := zg_of h
  refine zV_iald dX8_opensElement_41 g9 g10 ?_
  refine zV_if_le (tgt := 100) dX8_opensElement_42 (by decide) (fun c11 => ?_) (fun c11 => ?_)
  · replace h := z_t c11 h
    exact zV_vret (x := 0) rfl dX8_opensElement_100 (by decide) (by decide) (z_ret h)
  · replace h := z_f c11 h
    refine zV_aload_n (j := 0) dX8_opensElement_45 rfl rfl ?_
    refine zV_getR zf_RX8_56 dX8_opensElement_46 rfl (zkI e8 (zkI e6 g4)) ?_
    refine zV_aload_n (j := 0) dX8_opensElement_49 rfl rfl ?_
    refine zV_getI zf_RX8_190 dX8_opensElement_50 rfl (zkI e8 (zkI e6 g4)) ?_
    refine zV_iload_n (j := 1) dX8_opensElement_53 rfl rfl ?_
    obtain ⟨g12, h⟩ := zg_of h
    obtain ⟨g13, h⟩ := zg_of h
    refine zV_iast dX8_opensElement_54 g12 g13 ?_
    refine zV_mem (fun M14 e15 => ?_)
    replace h := zlet_of h e15
    refine zV_aload_n (j := 0) dX8_opensElement_55 rfl rfl ?_
    refine zV_getR zf_RX8_59 dX8_opensElement_56 rfl (zkI e15 (zkI e8 (zkI e6 g4))) ?_
    refine zV_aload_n (j := 0) dX8_opensElement_59 rfl rfl ?_
    refine zV_getI zf_RX8_190 dX8_opensElement_60 rfl (zkI e15 (zkI e8 (zkI e6 g4))) ?_
    refine zV_iconst (v := 0) dX8_opensElement_63 (by decide) ?_
    obtain ⟨g16, h⟩ := zg_of h
    obtain ⟨g17, h⟩ := zg_of h
    refine zV_iast dX8_opensElement_64 g16 g17 ?_
    refine zV_mem (fun M18 e19 => ?_)
    replace h := zlet_of h e19
    refine zV_aload_n (j := 0) dX8_opensElement_65 rfl rfl ?_
    refine zV_getR zf_RX8_62 dX8_opensElement_66 rfl (zkI e19 (zkI e15 (zkI e8 (zkI e6 g4)))) ?_
    refine zV_aload_n (j := 0) dX8_opensElement_69 rfl rfl ?_
    refine zV_getI zf_RX8_190 dX8_opensElement_70 rfl (zkI e19 (zkI e15 (zkI e8 (zkI e6 g4)))) ?_
    refine zV_iconst (v := 0) dX8_opensElement_73 (by decide) ?_
    obtain ⟨g20, h⟩ := zg_of h
    obtain ⟨g21, h⟩ := zg_of h
    refine zV_zast dX8_opensElement_74 g20 g21 (Or.inl rfl) ?_
    refine zV_mem (fun M22 e23 => ?_)
    replace h := zlet_of h e23
    refine zV_aload_n (j := 0) dX8_opensElement_75 rfl rfl ?_
    refine zV_getR zf_RX8_65 dX8_opensElement_76 rfl (zkI e23 (zkI e19 (zkI e15 (zkI e8 (zkI e6 g4))))) ?_
    refine zV_aload_n (j := 0) dX8_opensElement_79 rfl rfl ?_
    refine zV_getI zf_RX8_190 dX8_opensElement_80 rfl (zkI e23 (zkI e19 (zkI e15 (zkI e8 (zkI e6 g4))))) ?_
    refine zV_aload_n (j := 0) dX8_opensElement_83 rfl rfl ?_
    refine zV_getI zf_RX8_187 dX8_opensElement_84 rfl (zkI e23 (zkI e19 (zkI e15 (zkI e8 (zkI e6 g4))))) ?_
    refine zV_iconst (v := 1) dX8_opensElement_87 (by decide) ?_
    refine zV_isub dX8_opensElement_88 ?_
    obtain ⟨g24, h⟩ := zg_of h
    obtain ⟨g25, h⟩ := zg_of h
    refine zV_iast dX8_opensElement_89 g24 g25 ?_
    refine zV_mem (fun M26 e27 => ?_)
    replace h := zlet_of h e27
    refine zV_aload_n (j := 0) dX8_opensElement_90 rfl rfl ?_
    refine zV_dup dX8_opensElement_91 (zr_cat _ _) ?_
    refine zV_getI zf_RX8_190 dX8_opensElement_92 rfl (zkI e27 (zkI e23 (zkI e19 (zkI e15 (zkI e8 (zkI e6 g4)))))) ?_
    refine zV_iconst (v := 1) dX8_opensElement_95 (by decide) ?_
    refine zV_iadd dX8_opensElement_96 ?_
    refine zV_putI zf_RX8_190 dX8_opensElement_97 rfl rfl (zkI e27 (zkI e23 (zkI e19 (zkI e15 (zkI e8 (zkI e6 g4)))))) ?_
    refine zV_mem (fun M28 e29 => ?_)
    replace h := zlet_of h e29
    exact zV_vret (x := 0) rfl dX8_opensElement_100 (by decide) (by decide) (z_ret h)
set_option maxHeartbeats 4000000 in
set_option maxRecDepth 100000 in
theorem vX8_opensElement (l : Launch) (D : va_G) (T : Nat → ClassId) (b : Nat) (gr : Bool) (x0 : Nat) (x1 : Int32) (x2 : Int32) (M : zM) (r : Int32) (M' : zM) (h : fX8_opensElement x0 x1 x2 M = some (r, M')) : zMet l D T b gr yX8_opensElement cX8_opensElement 3 none 1 0 0 [zr b x0, .int x1, .int x2] M (0, r, M') := by
  refine zEntry2 false (fun h9 => nomatch h9) zp_yX8_opensElement ⟨zr_cat _ _, rfl, rfl, trivial⟩ (Nat.le_of_ble_eq_true rfl) ?_
  obtain ⟨o, ho⟩ : ∃ o : Int32 × zM, o = (r, M') := ⟨_, rfl⟩
  rw [← ho] at h
  rw [show ((0, r, M') : Nat × Int32 × zM) = (0, o.1, o.2) by rw [ho]]
  show zV false l RX8 cX8_opensElement 3 none false 1 0 0 D T b gr M.2.2.2 (0, o.1, o.2) 0 0 0 [(0, zr b x0), (1, .int x1), (2, .int x2)] [] M
  unfold fX8_opensElement at h
  refine zV_aload_n (j := 0) dX8_opensElement_0 rfl rfl ?_
  refine zV_iload_n (j := 1) dX8_opensElement_1 rfl rfl ?_
  refine zV_bipush (v := 60) dX8_opensElement_2 (by decide) ?_
  refine zV_iload_n (j := 2) dX8_opensElement_4 rfl rfl ?_
  obtain ⟨g30, h⟩ := zg_of h
  obtain ⟨r31, M32, q33, h⟩ := zb_of h
  refine zV_callVv (ci := 8) (As := [.int x1, .int 60, .int x2]) (rest := []) (vX8_puts l D T b gr x0 x1 60 x2 M _ _ q33) zm_yX8_puts zl_RX8_193 zi_yX8_puts ze_yX8_puts zcI8 g30 rfl rfl (zcs trivial (Nat.le_of_ble_eq_true rfl)) (by decide) (by decide) (by decide) dX8_opensElement_5 ?_
  refine zV_aload_n (j := 0) dX8_opensElement_8 rfl rfl ?_
  refine zV_dup dX8_opensElement_9 (zr_cat _ _) ?_
  obtain ⟨g34, h⟩ := zg_of h
  refine zV_getI zf_RX8_197 dX8_opensElement_10 rfl g34 ?_
  refine zV_iload_n (j := 2) dX8_opensElement_13 rfl rfl ?_
  refine zV_if_eq (tgt := 21) dX8_opensElement_14 (by decide) (fun c35 => ?_) (fun c35 => ?_)
  · replace h := z_t c35 h
    refine zV_iconst (v := 0) dX8_opensElement_21 (by decide) ?_
    refine zV_pk [0, 1] rfl ?_
    exact vX8_opensElement_22 x0 x1 x0 (zI M32 x0 33) 0 M32 _ h
  · replace h := z_f c35 h
    refine zV_iconst (v := 1) dX8_opensElement_17 (by decide) ?_
    refine zV_goto (tgt := 22) dX8_opensElement_18 (by decide) ?_
    refine zV_pk [0, 1] rfl ?_
    exact vX8_opensElement_22 x0 x1 x0 (zI M32 x0 33) 1 M32 _ h
set_option maxHeartbeats 4000000 in
set_option maxRecDepth 100000 in
theorem vX8_canEnd_6 {l : Launch} {D : va_G} {T : Nat → ClassId} {b : Nat} {gr : Bool} {n0 : Nat} : ∀ (n : Nat) (x0 : Nat) (x1 : Int32) (x4 : Int32) (x5 : Int32) (M : zM) (o : Int32 × zM), fX8_canEnd_6 n x0 x1 x4 x5 M = some o → zV false l RX8 cX8_canEnd 6 (some .boolean) false 1 0 0 D T b gr n0 (0, o.1, o.2) 0 0 6 [(0, zr b x0), (1, .int x1), (4, .int x4), (5, .int x5)] [] M := by
  intro n
  induction n with
  | zero =>
    intro x0 x1 x4 x5 M o h
    rw [fX8_canEnd_6] at h
    cases h
  | succ n ih =>
    intro x0 x1 x4 x5 M o h
    rw [fX8_canEnd_6] at h
    refine zV_iload (j := 3) dX8_canEnd_6 rfl ?_
    refine zV_aload_n (j := 0) dX8_canEnd_8 rfl rfl ?_
    obtain ⟨g1, h⟩ := zg_of h
    refine zV_getR zf_RX8_16 dX8_canEnd_9 rfl g1 ?_
    refine zV_iload_n (j := 1) dX8_canEnd_12 rfl rfl ?_
    obtain ⟨g2, h⟩ := zg_of h
    obtain ⟨g3, h⟩ := zg_of h
    refine zV_iald dX8_canEnd_13 g2 g3 ?_
    refine zV_icmp_ge (tgt := 44) dX8_canEnd_14 (by decide) (fun c4 => ?_) (fun c4 => ?_)
    · replace h := z_t c4 h
      refine zV_iconst (v := 1) dX8_canEnd_44 (by decide) ?_
      exact zV_zret rfl dX8_canEnd_45 (by decide) (by decide) (Or.inr rfl) (z_ret h)
    · replace h := z_f c4 h
      refine zV_aload_n (j := 0) dX8_canEnd_17 rfl rfl ?_
      refine zV_bipush (v := 6) dX8_canEnd_18 (by decide) ?_
      refine zV_iload_n (j := 1) dX8_canEnd_20 rfl rfl ?_
      refine zV_imul dX8_canEnd_21 ?_
      refine zV_iload (j := 3) dX8_canEnd_22 rfl ?_
      refine zV_iadd dX8_canEnd_24 ?_
      refine zV_iload (j := 2) dX8_canEnd_25 rfl ?_
      obtain ⟨r5, M6, q7, h⟩ := zb_of h
      refine zV_callVi (ci := 8) (As := [.int ((6 * x1) + x5), .int x4]) (rest := []) (vX8_hasEnough l D T b gr x0 ((6 * x1) + x5) x4 M _ _ q7) zm_yX8_hasEnough zl_RX8_151 zi_yX8_hasEnough ze_yX8_hasEnough zcI8 g1 rfl rfl (zcs trivial (Nat.le_of_ble_eq_true rfl)) (by decide) (by decide) (by decide) dX8_canEnd_27 ?_
      refine zV_if_ne (tgt := 35) dX8_canEnd_30 (by decide) (fun c8 => ?_) (fun c8 => ?_)
      · replace h := z_f c8 h
        refine zV_iconst (v := 0) dX8_canEnd_35 (by decide) ?_
        refine zV_istore [(4, .int 0), (0, zr b x0), (1, .int x1), (5, .int x5)] dX8_canEnd_36 (by decide) rfl ?_
        obtain ⟨u9, e10⟩ : ∃ y : Int32, y = x5 + 1 := ⟨_, rfl⟩
        replace h := zlet_of h e10
        refine zV_iinc (j := 3) (v := u9) [(5, .int u9), (4, .int 0), (0, zr b x0), (1, .int x1)] dX8_canEnd_38 rfl (by rw [e10]; rfl) (by decide) rfl ?_
        refine zV_goto (tgt := 6) dX8_canEnd_41 (by decide) ?_
        refine zV_pk [2, 3, 1, 0] rfl ?_
        exact ih x0 x1 0 u9 M6 _ h
      · replace h := z_t c8 h
        refine zV_iconst (v := 0) dX8_canEnd_33 (by decide) ?_
        exact zV_zret rfl dX8_canEnd_34 (by decide) (by decide) (Or.inl rfl) (z_ret h)
set_option maxHeartbeats 4000000 in
set_option maxRecDepth 100000 in
theorem vX8_canEnd (l : Launch) (D : va_G) (T : Nat → ClassId) (b : Nat) (gr : Bool) (x0 : Nat) (x1 : Int32) (x2 : Int32) (x3 : Int32) (M : zM) (r : Int32) (M' : zM) (h : fX8_canEnd x0 x1 x2 x3 M = some (r, M')) : zMet l D T b gr yX8_canEnd cX8_canEnd 6 (some .boolean) 1 0 0 [zr b x0, .int x1, .int x2, .int x3] M (0, r, M') := by
  refine zEntry2 false (fun h9 => nomatch h9) zp_yX8_canEnd ⟨zr_cat _ _, rfl, rfl, rfl, trivial⟩ (Nat.le_of_ble_eq_true rfl) ?_
  obtain ⟨o, ho⟩ : ∃ o : Int32 × zM, o = (r, M') := ⟨_, rfl⟩
  rw [← ho] at h
  rw [show ((0, r, M') : Nat × Int32 × zM) = (0, o.1, o.2) by rw [ho]]
  show zV false l RX8 cX8_canEnd 6 (some .boolean) false 1 0 0 D T b gr M.2.2.2 (0, o.1, o.2) 0 0 0 [(0, zr b x0), (1, .int x1), (2, .int x2), (3, .int x3)] [] M
  unfold fX8_canEnd at h
  refine zV_iload_n (j := 3) dX8_canEnd_0 rfl rfl ?_
  refine zV_istore [(4, .int x3), (0, zr b x0), (1, .int x1), (2, .int x2), (3, .int x3)] dX8_canEnd_1 (by decide) rfl ?_
  refine zV_iload_n (j := 3) dX8_canEnd_3 rfl rfl ?_
  refine zV_istore [(5, .int x2), (4, .int x3), (0, zr b x0), (1, .int x1), (2, .int x2), (3, .int x3)] dX8_canEnd_4 (by decide) rfl ?_
  refine zV_pk [2, 3, 1, 0] rfl ?_
  exact vX8_canEnd_6 10000 x0 x1 x3 x2 M _ h
set_option maxHeartbeats 4000000 in
set_option maxRecDepth 100000 in
theorem vX8_canEndTop (l : Launch) (D : va_G) (T : Nat → ClassId) (b : Nat) (gr : Bool) (x0 : Nat) (M : zM) (r : Int32) (M' : zM) (h : fX8_canEndTop x0 M = some (r, M')) : zMet l D T b gr yX8_canEndTop cX8_canEndTop 1 (some .boolean) 2 0 0 [zr b x0] M (0, r, M') := by
  refine zEntry2 false (fun h9 => nomatch h9) zp_yX8_canEndTop ⟨zr_cat _ _, trivial⟩ (Nat.le_of_ble_eq_true rfl) ?_
  obtain ⟨o, ho⟩ : ∃ o : Int32 × zM, o = (r, M') := ⟨_, rfl⟩
  rw [← ho] at h
  rw [show ((0, r, M') : Nat × Int32 × zM) = (0, o.1, o.2) by rw [ho]]
  show zV false l RX8 cX8_canEndTop 1 (some .boolean) false 2 0 0 D T b gr M.2.2.2 (0, o.1, o.2) 0 0 0 [(0, zr b x0)] [] M
  unfold fX8_canEndTop at h
  refine zV_aload_n (j := 0) dX8_canEndTop_0 rfl rfl ?_
  refine zV_aload_n (j := 0) dX8_canEndTop_1 rfl rfl ?_
  obtain ⟨g1, h⟩ := zg_of h
  refine zV_getR zf_RX8_56 dX8_canEndTop_2 rfl g1 ?_
  refine zV_aload_n (j := 0) dX8_canEndTop_5 rfl rfl ?_
  refine zV_getI zf_RX8_190 dX8_canEndTop_6 rfl g1 ?_
  refine zV_iconst (v := 1) dX8_canEndTop_9 (by decide) ?_
  refine zV_isub dX8_canEndTop_10 ?_
  obtain ⟨g2, h⟩ := zg_of h
  obtain ⟨g3, h⟩ := zg_of h
  refine zV_iald dX8_canEndTop_11 g2 g3 ?_
  refine zV_aload_n (j := 0) dX8_canEndTop_12 rfl rfl ?_
  refine zV_getR zf_RX8_59 dX8_canEndTop_13 rfl g1 ?_
  refine zV_aload_n (j := 0) dX8_canEndTop_16 rfl rfl ?_
  refine zV_getI zf_RX8_190 dX8_canEndTop_17 rfl g1 ?_
  refine zV_iconst (v := 1) dX8_canEndTop_20 (by decide) ?_
  refine zV_isub dX8_canEndTop_21 ?_
  obtain ⟨g4, h⟩ := zg_of h
  obtain ⟨g5, h⟩ := zg_of h
  refine zV_iald dX8_canEndTop_22 g4 g5 ?_
  refine zV_aload_n (j := 0) dX8_canEndTop_23 rfl rfl ?_
  refine zV_getR zf_RX8_62 dX8_canEndTop_24 rfl g1 ?_
  refine zV_aload_n (j := 0) dX8_canEndTop_27 rfl rfl ?_
  refine zV_getI zf_RX8_190 dX8_canEndTop_28 rfl g1 ?_
  refine zV_iconst (v := 1) dX8_canEndTop_31 (by decide) ?_
  refine zV_isub dX8_canEndTop_32 ?_
  obtain ⟨g6, h⟩ := zg_of h
  obtain ⟨g7, h⟩ := zg_of h
  refine zV_zald dX8_canEndTop_33 g6 g7 ?_
  obtain ⟨r8, M9, q10, h⟩ := zb_of h
  refine zV_callVi (ci := 8) (As := [.int (zI M (zR M x0 19) ((zI M x0 23) - 1).toNatClampNeg), .int (zI M (zR M x0 20) ((zI M x0 23) - 1).toNatClampNeg), .int (zI M (zR M x0 21) ((zI M x0 23) - 1).toNatClampNeg)]) (rest := []) (vX8_canEnd l D T b gr x0 (zI M (zR M x0 19) ((zI M x0 23) - 1).toNatClampNeg) (zI M (zR M x0 20) ((zI M x0 23) - 1).toNatClampNeg) (zI M (zR M x0 21) ((zI M x0 23) - 1).toNatClampNeg) M _ _ q10) zm_yX8_canEnd zl_RX8_214 zi_yX8_canEnd ze_yX8_canEnd zcI8 g1 rfl rfl (zcs trivial (Nat.le_of_ble_eq_true rfl)) (by decide) (by decide) (by decide) dX8_canEndTop_34 ?_
  obtain ⟨g11, h⟩ := zg_of h
  exact zV_zret rfl dX8_canEndTop_37 (by decide) (by decide) g11 (z_ret h)
set_option maxHeartbeats 4000000 in
set_option maxRecDepth 100000 in
theorem vX8_goesOn_36 {l : Launch} {D : va_G} {T : Nat → ClassId} {b : Nat} {gr : Bool} {n0 : Nat} (k6 : Nat → Int32 → Int32 → Int32 → Int32 → Int32 → zM → Option (Int32 × zM)) (hk6 : ∀ (z0 : Nat) (z1 : Int32) (z2 : Int32) (z3 : Int32) (z4 : Int32) (z5 : Int32) (N : zM) (o : Int32 × zM), k6 z0 z1 z2 z3 z4 z5 N = some o → zV false l RX8 cX8_goesOn 6 (some .int) false 2 0 0 D T b gr n0 (0, o.1, o.2) 0 0 6 [(0, zr b z0), (1, .int z1), (2, .int z2), (3, .int z3), (4, .int z4), (5, .int z5)] [] N) (x0 : Nat) (x1 : Int32) (x2 : Int32) (x3 : Int32) (x5 : Int32) (s0 : Int32) (s1 : Int32) (M : zM) (o : Int32 × zM) (h : fX8_goesOn_36 k6 x0 x1 x2 x3 x5 s0 s1 M = some o) : zV false l RX8 cX8_goesOn 6 (some .int) false 2 0 0 D T b gr n0 (0, o.1, o.2) 0 0 36 [(0, zr b x0), (1, .int x1), (2, .int x2), (3, .int x3), (5, .int x5)] [.int s1, .int s0] M := by
  unfold fX8_goesOn_36 at h
  refine zV_ior dX8_goesOn_36 ?_
  refine zV_top (fun u1 e2 => ?_)
  replace h := zlet_of h e2
  refine zV_istore [(4, .int u1), (0, zr b x0), (1, .int x1), (2, .int x2), (3, .int x3), (5, .int x5)] dX8_goesOn_37 (by decide) rfl ?_
  obtain ⟨u3, e4⟩ : ∃ y : Int32, y = x5 + 1 := ⟨_, rfl⟩
  replace h := zlet_of h e4
  refine zV_iinc (j := 5) (v := u3) [(5, .int u3), (4, .int u1), (0, zr b x0), (1, .int x1), (2, .int x2), (3, .int x3)] dX8_goesOn_39 rfl (by rw [e4]; rfl) (by decide) rfl ?_
  refine zV_goto (tgt := 6) dX8_goesOn_42 (by decide) ?_
  refine zV_pk [2, 3, 4, 5, 1, 0] rfl ?_
  exact hk6 x0 x1 x2 x3 u1 u3 M _ h
set_option maxHeartbeats 4000000 in
set_option maxRecDepth 100000 in
theorem vX8_goesOn_6 {l : Launch} {D : va_G} {T : Nat → ClassId} {b : Nat} {gr : Bool} {n0 : Nat} : ∀ (n : Nat) (x0 : Nat) (x1 : Int32) (x2 : Int32) (x3 : Int32) (x4 : Int32) (x5 : Int32) (M : zM) (o : Int32 × zM), fX8_goesOn_6 n x0 x1 x2 x3 x4 x5 M = some o → zV false l RX8 cX8_goesOn 6 (some .int) false 2 0 0 D T b gr n0 (0, o.1, o.2) 0 0 6 [(0, zr b x0), (1, .int x1), (2, .int x2), (3, .int x3), (4, .int x4), (5, .int x5)] [] M := by
  intro n
  induction n with
  | zero =>
    intro x0 x1 x2 x3 x4 x5 M o h
    rw [fX8_goesOn_6] at h
    cases h
  | succ n ih =>
    intro x0 x1 x2 x3 x4 x5 M o h
    rw [fX8_goesOn_6] at h
    refine zV_iload (j := 5) dX8_goesOn_6 rfl ?_
    refine zV_bipush (v := 10) dX8_goesOn_8 (by decide) ?_
    refine zV_icmp_gt (tgt := 45) dX8_goesOn_10 (by decide) (fun c5 => ?_) (fun c5 => ?_)
    · replace h := z_t c5 h
      refine zV_iload (j := 4) dX8_goesOn_45 rfl ?_
      exact zV_iret rfl dX8_goesOn_47 (by decide) (by decide) (z_ret h)
    · replace h := z_f c5 h
      refine zV_iload (j := 4) dX8_goesOn_13 rfl ?_
      refine zV_aload_n (j := 0) dX8_goesOn_15 rfl rfl ?_
      refine zV_iload_n (j := 1) dX8_goesOn_16 rfl rfl ?_
      refine zV_iload_n (j := 2) dX8_goesOn_17 rfl rfl ?_
      refine zV_iload_n (j := 3) dX8_goesOn_18 rfl rfl ?_
      refine zV_iload (j := 5) dX8_goesOn_19 rfl ?_
      obtain ⟨g6, h⟩ := zg_of h
      obtain ⟨r7, M8, q9, h⟩ := zb_of h
      refine zV_callVi (ci := 8) (As := [.int x1, .int x2, .int x3, .int x5]) (rest := [.int x4]) (vX8_goesBy l D T b gr x0 x1 x2 x3 x5 M _ _ q9) zm_yX8_goesBy zl_RX8_155 zi_yX8_goesBy ze_yX8_goesBy zcI8 g6 rfl rfl (zcs ⟨rfl, trivial⟩ (Nat.le_of_ble_eq_true rfl)) (by decide) (by decide) (by decide) dX8_goesOn_21 ?_
      refine zV_iconst (v := (-1)) dX8_goesOn_24 (by decide) ?_
      refine zV_icmp_ne (tgt := 32) dX8_goesOn_25 (by decide) (fun c10 => ?_) (fun c10 => ?_)
      · replace h := z_f c10 h
        refine zV_iconst (v := 1) dX8_goesOn_32 (by decide) ?_
        refine zV_iload (j := 5) dX8_goesOn_33 rfl ?_
        refine zV_ishl dX8_goesOn_35 ?_
        refine zV_pk [0, 1, 2, 3, 5] rfl ?_
        exact vX8_goesOn_36 (fX8_goesOn_6 n) ih x0 x1 x2 x3 x5 x4 (1 <<< (x5 &&& 31)) M8 _ h
      · replace h := z_t c10 h
        refine zV_iconst (v := 0) dX8_goesOn_28 (by decide) ?_
        refine zV_goto (tgt := 36) dX8_goesOn_29 (by decide) ?_
        refine zV_pk [0, 1, 2, 3, 5] rfl ?_
        exact vX8_goesOn_36 (fX8_goesOn_6 n) ih x0 x1 x2 x3 x5 x4 0 M8 _ h
set_option maxHeartbeats 4000000 in
set_option maxRecDepth 100000 in
theorem vX8_goesOn (l : Launch) (D : va_G) (T : Nat → ClassId) (b : Nat) (gr : Bool) (x0 : Nat) (x1 : Int32) (x2 : Int32) (x3 : Int32) (M : zM) (r : Int32) (M' : zM) (h : fX8_goesOn x0 x1 x2 x3 M = some (r, M')) : zMet l D T b gr yX8_goesOn cX8_goesOn 6 (some .int) 2 0 0 [zr b x0, .int x1, .int x2, .int x3] M (0, r, M') := by
  refine zEntry2 false (fun h9 => nomatch h9) zp_yX8_goesOn ⟨zr_cat _ _, rfl, rfl, rfl, trivial⟩ (Nat.le_of_ble_eq_true rfl) ?_
  obtain ⟨o, ho⟩ : ∃ o : Int32 × zM, o = (r, M') := ⟨_, rfl⟩
  rw [← ho] at h
  rw [show ((0, r, M') : Nat × Int32 × zM) = (0, o.1, o.2) by rw [ho]]
  show zV false l RX8 cX8_goesOn 6 (some .int) false 2 0 0 D T b gr M.2.2.2 (0, o.1, o.2) 0 0 0 [(0, zr b x0), (1, .int x1), (2, .int x2), (3, .int x3)] [] M
  unfold fX8_goesOn at h
  refine zV_iconst (v := 0) dX8_goesOn_0 (by decide) ?_
  refine zV_istore [(4, .int 0), (0, zr b x0), (1, .int x1), (2, .int x2), (3, .int x3)] dX8_goesOn_1 (by decide) rfl ?_
  refine zV_iconst (v := 0) dX8_goesOn_3 (by decide) ?_
  refine zV_istore [(5, .int 0), (4, .int 0), (0, zr b x0), (1, .int x1), (2, .int x2), (3, .int x3)] dX8_goesOn_4 (by decide) rfl ?_
  refine zV_pk [2, 3, 4, 5, 1, 0] rfl ?_
  exact vX8_goesOn_6 10000 x0 x1 x2 x3 0 0 M _ h
set_option maxHeartbeats 4000000 in
set_option maxRecDepth 100000 in
theorem vX8_wanted_102 {l : Launch} {D : va_G} {T : Nat → ClassId} {b : Nat} {gr : Bool} {n0 : Nat} (x0 : Nat) (x2 : Int32) (M : zM) (o : Int32 × zM) (h : fX8_wanted_102 x0 x2 M = some o) : zV false l RX8 cX8_wanted 4 (some .int) false 3 0 0 D T b gr n0 (0, o.1, o.2) 0 0 102 [(0, zr b x0), (2, .int x2)] [] M := by
  unfold fX8_wanted_102 at h
  refine zV_iload_n (j := 1) dX8_wanted_102 rfl rfl ?_
  refine zV_iconst (v := (-1)) dX8_wanted_103 (by decide) ?_
  refine zV_icmp_eq (tgt := 137) dX8_wanted_104 (by decide) (fun c1 => ?_) (fun c1 => ?_)
  · replace h := z_t c1 h
    refine zV_iconst (v := (-1)) dX8_wanted_137 (by decide) ?_
    exact zV_iret rfl dX8_wanted_138 (by decide) (by decide) (z_ret h)
  · replace h := z_f c1 h
    refine zV_aload_n (j := 0) dX8_wanted_107 rfl rfl ?_
    obtain ⟨g2, h⟩ := zg_of h
    refine zV_getR zf_RX8_16 dX8_wanted_108 rfl g2 ?_
    refine zV_iload_n (j := 1) dX8_wanted_111 rfl rfl ?_
    obtain ⟨g3, h⟩ := zg_of h
    obtain ⟨g4, h⟩ := zg_of h
    refine zV_iald dX8_wanted_112 g3 g4 ?_
    refine zV_if_le (tgt := 137) dX8_wanted_113 (by decide) (fun c5 => ?_) (fun c5 => ?_)
    · replace h := z_t c5 h
      refine zV_iconst (v := (-1)) dX8_wanted_137 (by decide) ?_
      exact zV_iret rfl dX8_wanted_138 (by decide) (by decide) (z_ret h)
    · replace h := z_f c5 h
      refine zV_aload_n (j := 0) dX8_wanted_116 rfl rfl ?_
      refine zV_iload_n (j := 1) dX8_wanted_117 rfl rfl ?_
      obtain ⟨r6, M7, q8, h⟩ := zb_of h
      refine zV_callVi (ci := 8) (As := [.int x2]) (rest := []) (vX8_isExcluded l D T b gr x0 x2 M _ _ q8) zm_yX8_isExcluded zl_RX8_207 zi_yX8_isExcluded ze_yX8_isExcluded zcI8 g2 rfl rfl (zcs trivial (Nat.le_of_ble_eq_true rfl)) (by decide) (by decide) (by decide) dX8_wanted_118 ?_
      refine zV_if_ne (tgt := 137) dX8_wanted_121 (by decide) (fun c9 => ?_) (fun c9 => ?_)
      · replace h := z_f c9 h
        refine zV_iconst (v := (-1)) dX8_wanted_137 (by decide) ?_
        exact zV_iret rfl dX8_wanted_138 (by decide) (by decide) (z_ret h)
      · replace h := z_t c9 h
        refine zV_aload_n (j := 0) dX8_wanted_124 rfl rfl ?_
        obtain ⟨g10, h⟩ := zg_of h
        refine zV_getR zf_RX8_25 dX8_wanted_125 rfl g10 ?_
        refine zV_iload_n (j := 1) dX8_wanted_128 rfl rfl ?_
        obtain ⟨g11, h⟩ := zg_of h
        obtain ⟨g12, h⟩ := zg_of h
        refine zV_zald dX8_wanted_129 g11 g12 ?_
        refine zV_if_eq (tgt := 137) dX8_wanted_130 (by decide) (fun c13 => ?_) (fun c13 => ?_)
        · replace h := z_t c13 h
          refine zV_iconst (v := (-1)) dX8_wanted_137 (by decide) ?_
          exact zV_iret rfl dX8_wanted_138 (by decide) (by decide) (z_ret h)
        · replace h := z_f c13 h
          refine zV_iload_n (j := 1) dX8_wanted_133 rfl rfl ?_
          refine zV_goto (tgt := 138) dX8_wanted_134 (by decide) ?_
          exact zV_iret rfl dX8_wanted_138 (by decide) (by decide) (z_ret h)
set_option maxHeartbeats 4000000 in
set_option maxRecDepth 100000 in
theorem vX8_wanted_95 {l : Launch} {D : va_G} {T : Nat → ClassId} {b : Nat} {gr : Bool} {n0 : Nat} (k77 : Nat → Int32 → Int32 → Int32 → zM → Option (Int32 × zM)) (hk77 : ∀ (z0 : Nat) (z1 : Int32) (z2 : Int32) (z3 : Int32) (N : zM) (o : Int32 × zM), k77 z0 z1 z2 z3 N = some o → zV false l RX8 cX8_wanted 4 (some .int) false 3 0 0 D T b gr n0 (0, o.1, o.2) 0 0 77 [(0, zr b z0), (1, .int z1), (2, .int z2), (3, .int z3)] [] N) (x0 : Nat) (x1 : Int32) (x3 : Int32) (s0 : Int32) (M : zM) (o : Int32 × zM) (h : fX8_wanted_95 k77 x0 x1 x3 s0 M = some o) : zV false l RX8 cX8_wanted 4 (some .int) false 3 0 0 D T b gr n0 (0, o.1, o.2) 0 0 95 [(0, zr b x0), (1, .int x1), (3, .int x3)] [.int s0] M := by
  unfold fX8_wanted_95 at h
  refine zV_istore_n [(2, .int s0), (0, zr b x0), (1, .int x1), (3, .int x3)] dX8_wanted_95 rfl (by decide) rfl ?_
  obtain ⟨u14, e15⟩ : ∃ y : Int32, y = x3 + 1 := ⟨_, rfl⟩
  replace h := zlet_of h e15
  refine zV_iinc (j := 3) (v := u14) [(3, .int u14), (2, .int s0), (0, zr b x0), (1, .int x1)] dX8_wanted_96 rfl (by rw [e15]; rfl) (by decide) rfl ?_
  refine zV_goto (tgt := 77) dX8_wanted_99 (by decide) ?_
  refine zV_pk [2, 3, 1, 0] rfl ?_
  exact hk77 x0 x1 s0 u14 M _ h
set_option maxHeartbeats 4000000 in
set_option maxRecDepth 100000 in
theorem vX8_wanted_77 {l : Launch} {D : va_G} {T : Nat → ClassId} {b : Nat} {gr : Bool} {n0 : Nat} : ∀ (n : Nat) (x0 : Nat) (x1 : Int32) (x2 : Int32) (x3 : Int32) (M : zM) (o : Int32 × zM), fX8_wanted_77 n x0 x1 x2 x3 M = some o → zV false l RX8 cX8_wanted 4 (some .int) false 3 0 0 D T b gr n0 (0, o.1, o.2) 0 0 77 [(0, zr b x0), (1, .int x1), (2, .int x2), (3, .int x3)] [] M := by
  intro n
  induction n with
  | zero =>
    intro x0 x1 x2 x3 M o h
    rw [fX8_wanted_77] at h
    cases h
  | succ n ih =>
    intro x0 x1 x2 x3 M o h
    rw [fX8_wanted_77] at h
    refine zV_iload_n (j := 3) dX8_wanted_77 rfl rfl ?_
    refine zV_bipush (v := 10) dX8_wanted_78 (by decide) ?_
    refine zV_icmp_ge (tgt := 102) dX8_wanted_80 (by decide) (fun c16 => ?_) (fun c16 => ?_)
    · replace h := z_t c16 h
      refine zV_pk [0, 2] rfl ?_
      exact vX8_wanted_102 x0 x2 M _ h
    · replace h := z_f c16 h
      refine zV_iload_n (j := 1) dX8_wanted_83 rfl rfl ?_
      refine zV_iconst (v := 1) dX8_wanted_84 (by decide) ?_
      refine zV_iload_n (j := 3) dX8_wanted_85 rfl rfl ?_
      refine zV_ishl dX8_wanted_86 ?_
      refine zV_icmp_ne (tgt := 94) dX8_wanted_87 (by decide) (fun c17 => ?_) (fun c17 => ?_)
      · replace h := z_f c17 h
        refine zV_iload_n (j := 2) dX8_wanted_94 rfl rfl ?_
        refine zV_pk [0, 1, 3] rfl ?_
        exact vX8_wanted_95 (fX8_wanted_77 n) ih x0 x1 x3 x2 M _ h
      · replace h := z_t c17 h
        refine zV_iload_n (j := 3) dX8_wanted_90 rfl rfl ?_
        refine zV_goto (tgt := 95) dX8_wanted_91 (by decide) ?_
        refine zV_pk [0, 1, 3] rfl ?_
        exact vX8_wanted_95 (fX8_wanted_77 n) ih x0 x1 x3 x3 M _ h
set_option maxHeartbeats 4000000 in
set_option maxRecDepth 100000 in
theorem vX8_wanted (l : Launch) (D : va_G) (T : Nat → ClassId) (b : Nat) (gr : Bool) (x0 : Nat) (M : zM) (r : Int32) (M' : zM) (h : fX8_wanted x0 M = some (r, M')) : zMet l D T b gr yX8_wanted cX8_wanted 4 (some .int) 3 0 0 [zr b x0] M (0, r, M') := by
  refine zEntry2 false (fun h9 => nomatch h9) zp_yX8_wanted ⟨zr_cat _ _, trivial⟩ (Nat.le_of_ble_eq_true rfl) ?_
  obtain ⟨o, ho⟩ : ∃ o : Int32 × zM, o = (r, M') := ⟨_, rfl⟩
  rw [← ho] at h
  rw [show ((0, r, M') : Nat × Int32 × zM) = (0, o.1, o.2) by rw [ho]]
  show zV false l RX8 cX8_wanted 4 (some .int) false 3 0 0 D T b gr M.2.2.2 (0, o.1, o.2) 0 0 0 [(0, zr b x0)] [] M
  unfold fX8_wanted at h
  refine zV_aload_n (j := 0) dX8_wanted_0 rfl rfl ?_
  obtain ⟨g18, h⟩ := zg_of h
  refine zV_getI zf_RX8_190 dX8_wanted_1 rfl g18 ?_
  refine zV_if_eq (tgt := 33) dX8_wanted_4 (by decide) (fun c19 => ?_) (fun c19 => ?_)
  · replace h := z_t c19 h
    refine zV_iconst (v := (-1)) dX8_wanted_33 (by decide) ?_
    exact zV_iret rfl dX8_wanted_34 (by decide) (by decide) (z_ret h)
  · replace h := z_f c19 h
    refine zV_aload_n (j := 0) dX8_wanted_7 rfl rfl ?_
    obtain ⟨r20, M21, q22, h⟩ := zb_of h
    refine zV_callVi (ci := 8) (As := []) (rest := []) (vX8_canEndTop l D T b gr x0 M _ _ q22) zm_yX8_canEndTop zl_RX8_217 zi_yX8_canEndTop ze_yX8_canEndTop zcI8 g18 rfl rfl (zcs trivial (Nat.le_of_ble_eq_true rfl)) (by decide) (by decide) (by decide) dX8_wanted_8 ?_
    refine zV_if_ne (tgt := 33) dX8_wanted_11 (by decide) (fun c23 => ?_) (fun c23 => ?_)
    · replace h := z_f c23 h
      refine zV_iconst (v := (-1)) dX8_wanted_33 (by decide) ?_
      exact zV_iret rfl dX8_wanted_34 (by decide) (by decide) (z_ret h)
    · replace h := z_t c23 h
      refine zV_aload_n (j := 0) dX8_wanted_14 rfl rfl ?_
      obtain ⟨g24, h⟩ := zg_of h
      refine zV_getI zf_RX8_190 dX8_wanted_15 rfl g24 ?_
      refine zV_bipush (v := 20) dX8_wanted_18 (by decide) ?_
      refine zV_icmp_eq (tgt := 33) dX8_wanted_20 (by decide) (fun c25 => ?_) (fun c25 => ?_)
      · replace h := z_t c25 h
        refine zV_iconst (v := (-1)) dX8_wanted_33 (by decide) ?_
        exact zV_iret rfl dX8_wanted_34 (by decide) (by decide) (z_ret h)
      · replace h := z_f c25 h
        refine zV_aload_n (j := 0) dX8_wanted_23 rfl rfl ?_
        refine zV_getI zf_RX8_187 dX8_wanted_24 rfl g24 ?_
        refine zV_sipush (v := 300) dX8_wanted_27 (by decide) ?_
        refine zV_icmp_ne (tgt := 35) dX8_wanted_30 (by decide) (fun c26 => ?_) (fun c26 => ?_)
        · replace h := z_f c26 h
          refine zV_aload_n (j := 0) dX8_wanted_35 rfl rfl ?_
          refine zV_aload_n (j := 0) dX8_wanted_36 rfl rfl ?_
          refine zV_getR zf_RX8_56 dX8_wanted_37 rfl g24 ?_
          refine zV_aload_n (j := 0) dX8_wanted_40 rfl rfl ?_
          refine zV_getI zf_RX8_190 dX8_wanted_41 rfl g24 ?_
          refine zV_iconst (v := 1) dX8_wanted_44 (by decide) ?_
          refine zV_isub dX8_wanted_45 ?_
          obtain ⟨g27, h⟩ := zg_of h
          obtain ⟨g28, h⟩ := zg_of h
          refine zV_iald dX8_wanted_46 g27 g28 ?_
          refine zV_aload_n (j := 0) dX8_wanted_47 rfl rfl ?_
          refine zV_getR zf_RX8_59 dX8_wanted_48 rfl g24 ?_
          refine zV_aload_n (j := 0) dX8_wanted_51 rfl rfl ?_
          refine zV_getI zf_RX8_190 dX8_wanted_52 rfl g24 ?_
          refine zV_iconst (v := 1) dX8_wanted_55 (by decide) ?_
          refine zV_isub dX8_wanted_56 ?_
          obtain ⟨g29, h⟩ := zg_of h
          obtain ⟨g30, h⟩ := zg_of h
          refine zV_iald dX8_wanted_57 g29 g30 ?_
          refine zV_aload_n (j := 0) dX8_wanted_58 rfl rfl ?_
          refine zV_getR zf_RX8_62 dX8_wanted_59 rfl g24 ?_
          refine zV_aload_n (j := 0) dX8_wanted_62 rfl rfl ?_
          refine zV_getI zf_RX8_190 dX8_wanted_63 rfl g24 ?_
          refine zV_iconst (v := 1) dX8_wanted_66 (by decide) ?_
          refine zV_isub dX8_wanted_67 ?_
          obtain ⟨g31, h⟩ := zg_of h
          obtain ⟨g32, h⟩ := zg_of h
          refine zV_zald dX8_wanted_68 g31 g32 ?_
          obtain ⟨r33, M34, q35, h⟩ := zb_of h
          refine zV_callVi (ci := 8) (As := [.int (zI M21 (zR M21 x0 19) ((zI M21 x0 23) - 1).toNatClampNeg), .int (zI M21 (zR M21 x0 20) ((zI M21 x0 23) - 1).toNatClampNeg), .int (zI M21 (zR M21 x0 21) ((zI M21 x0 23) - 1).toNatClampNeg)]) (rest := []) (vX8_goesOn l D T b gr x0 (zI M21 (zR M21 x0 19) ((zI M21 x0 23) - 1).toNatClampNeg) (zI M21 (zR M21 x0 20) ((zI M21 x0 23) - 1).toNatClampNeg) (zI M21 (zR M21 x0 21) ((zI M21 x0 23) - 1).toNatClampNeg) M21 _ _ q35) zm_yX8_goesOn zl_RX8_221 zi_yX8_goesOn ze_yX8_goesOn zcI8 g24 rfl rfl (zcs trivial (Nat.le_of_ble_eq_true rfl)) (by decide) (by decide) (by decide) dX8_wanted_69 ?_
          refine zV_istore_n [(1, .int r33), (0, zr b x0)] dX8_wanted_72 rfl (by decide) rfl ?_
          refine zV_iconst (v := (-1)) dX8_wanted_73 (by decide) ?_
          refine zV_istore_n [(2, .int (-1)), (1, .int r33), (0, zr b x0)] dX8_wanted_74 rfl (by decide) rfl ?_
          refine zV_iconst (v := 0) dX8_wanted_75 (by decide) ?_
          refine zV_istore_n [(3, .int 0), (2, .int (-1)), (1, .int r33), (0, zr b x0)] dX8_wanted_76 rfl (by decide) rfl ?_
          refine zV_pk [3, 2, 1, 0] rfl ?_
          exact vX8_wanted_77 10000 x0 r33 (-1) 0 M34 _ h
        · replace h := z_t c26 h
          refine zV_iconst (v := (-1)) dX8_wanted_33 (by decide) ?_
          exact zV_iret rfl dX8_wanted_34 (by decide) (by decide) (z_ret h)
set_option maxHeartbeats 4000000 in
set_option maxRecDepth 100000 in
theorem vX8_readsThing_196 {l : Launch} {D : va_G} {T : Nat → ClassId} {b : Nat} {gr : Bool} {n0 : Nat} (k2 : Nat → Int32 → Int32 → Int32 → zM → Option (Int32 × zM)) (hk2 : ∀ (z0 : Nat) (z1 : Int32) (z2 : Int32) (z3 : Int32) (N : zM) (o : Int32 × zM), k2 z0 z1 z2 z3 N = some o → zV false l RX8 cX8_readsThing 5 none false 4 0 0 D T b gr n0 (0, o.1, o.2) 0 0 2 [(0, zr b z0), (1, .int z1), (2, .int z2), (3, .int z3)] [] N) (x0 : Nat) (x1 : Int32) (x2 : Int32) (x3 : Int32) (M : zM) (o : Int32 × zM) (h : fX8_readsThing_196 k2 x0 x1 x2 x3 M = some o) : zV false l RX8 cX8_readsThing 5 none false 4 0 0 D T b gr n0 (0, o.1, o.2) 0 0 196 [(0, zr b x0), (1, .int x1), (2, .int x2), (3, .int x3)] [] M := by
  unfold fX8_readsThing_196 at h
  refine zV_goto (tgt := 2) dX8_readsThing_196 (by decide) ?_
  exact hk2 x0 x1 x2 x3 M _ h
set_option maxHeartbeats 4000000 in
set_option maxRecDepth 100000 in
theorem vX8_readsThing_190 {l : Launch} {D : va_G} {T : Nat → ClassId} {b : Nat} {gr : Bool} {n0 : Nat} (x0 : Nat) (M : zM) (o : Int32 × zM) (h : fX8_readsThing_190 x0 M = some o) : zV false l RX8 cX8_readsThing 5 none false 4 0 0 D T b gr n0 (0, o.1, o.2) 0 0 190 [(0, zr b x0)] [] M := by
  unfold fX8_readsThing_190 at h
  refine zV_aload_n (j := 0) dX8_readsThing_190 rfl rfl ?_
  refine zV_iconst (v := 0) dX8_readsThing_191 (by decide) ?_
  obtain ⟨g1, h⟩ := zg_of h
  obtain ⟨r2, M3, q4, h⟩ := zb_of h
  refine zV_callVv (ci := 8) (As := [.int 0]) (rest := []) (vX8_fails l D T b gr x0 0 M _ _ q4) zm_yX8_fails zl_RX8_225 zi_yX8_fails ze_yX8_fails zcI8 g1 rfl rfl (zcs trivial (Nat.le_of_ble_eq_true rfl)) (by decide) (by decide) (by decide) dX8_readsThing_192 ?_
  exact zV_vret (x := 0) rfl dX8_readsThing_195 (by decide) (by decide) (z_ret h)
set_option maxHeartbeats 4000000 in
set_option maxRecDepth 100000 in
theorem vX8_readsThing_107 {l : Launch} {D : va_G} {T : Nat → ClassId} {b : Nat} {gr : Bool} {n0 : Nat} (k2 : Nat → Int32 → Int32 → Int32 → zM → Option (Int32 × zM)) (hk2 : ∀ (z0 : Nat) (z1 : Int32) (z2 : Int32) (z3 : Int32) (N : zM) (o : Int32 × zM), k2 z0 z1 z2 z3 N = some o → zV false l RX8 cX8_readsThing 5 none false 4 0 0 D T b gr n0 (0, o.1, o.2) 0 0 2 [(0, zr b z0), (1, .int z1), (2, .int z2), (3, .int z3)] [] N) (x0 : Nat) (x1 : Int32) (x2 : Int32) (x3 : Int32) (x4 : Int32) (M : zM) (o : Int32 × zM) (h : fX8_readsThing_107 k2 x0 x1 x2 x3 x4 M = some o) : zV false l RX8 cX8_readsThing 5 none false 4 0 0 D T b gr n0 (0, o.1, o.2) 0 0 107 [(0, zr b x0), (1, .int x1), (2, .int x2), (3, .int x3), (4, .int x4)] [] M := by
  unfold fX8_readsThing_107 at h
  refine zV_iload (j := 4) dX8_readsThing_107 rfl ?_
  refine zV_iconst (v := (-1)) dX8_readsThing_109 (by decide) ?_
  refine zV_icmp_eq (tgt := 133) dX8_readsThing_110 (by decide) (fun c5 => ?_) (fun c5 => ?_)
  · replace h := z_t c5 h
    refine zV_aload_n (j := 0) dX8_readsThing_133 rfl rfl ?_
    obtain ⟨g6, h⟩ := zg_of h
    refine zV_getI zf_RX8_190 dX8_readsThing_134 rfl g6 ?_
    refine zV_iconst (v := 1) dX8_readsThing_137 (by decide) ?_
    refine zV_icmp_le (tgt := 190) dX8_readsThing_138 (by decide) (fun c7 => ?_) (fun c7 => ?_)
    · replace h := z_t c7 h
      refine zV_pk [0] rfl ?_
      exact vX8_readsThing_190 x0 M _ h
    · replace h := z_f c7 h
      refine zV_aload_n (j := 0) dX8_readsThing_141 rfl rfl ?_
      obtain ⟨r8, M9, q10, h⟩ := zb_of h
      refine zV_callVi (ci := 8) (As := []) (rest := []) (vX8_canEndTop l D T b gr x0 M _ _ q10) zm_yX8_canEndTop zl_RX8_217 zi_yX8_canEndTop ze_yX8_canEndTop zcI8 g6 rfl rfl (zcs trivial (Nat.le_of_ble_eq_true rfl)) (by decide) (by decide) (by decide) dX8_readsThing_142 ?_
      refine zV_if_eq (tgt := 190) dX8_readsThing_145 (by decide) (fun c11 => ?_) (fun c11 => ?_)
      · replace h := z_t c11 h
        refine zV_pk [0] rfl ?_
        exact vX8_readsThing_190 x0 M9 _ h
      · replace h := z_f c11 h
        refine zV_aload_n (j := 0) dX8_readsThing_148 rfl rfl ?_
        obtain ⟨g12, h⟩ := zg_of h
        refine zV_getR zf_RX8_29 dX8_readsThing_149 rfl g12 ?_
        refine zV_aload_n (j := 0) dX8_readsThing_152 rfl rfl ?_
        refine zV_getR zf_RX8_56 dX8_readsThing_153 rfl g12 ?_
        refine zV_aload_n (j := 0) dX8_readsThing_156 rfl rfl ?_
        refine zV_getI zf_RX8_190 dX8_readsThing_157 rfl g12 ?_
        refine zV_iconst (v := 1) dX8_readsThing_160 (by decide) ?_
        refine zV_isub dX8_readsThing_161 ?_
        obtain ⟨g13, h⟩ := zg_of h
        obtain ⟨g14, h⟩ := zg_of h
        refine zV_iald dX8_readsThing_162 g13 g14 ?_
        obtain ⟨g15, h⟩ := zg_of h
        obtain ⟨g16, h⟩ := zg_of h
        refine zV_zald dX8_readsThing_163 g15 g16 ?_
        refine zV_if_eq (tgt := 190) dX8_readsThing_164 (by decide) (fun c17 => ?_) (fun c17 => ?_)
        · replace h := z_t c17 h
          refine zV_pk [0] rfl ?_
          exact vX8_readsThing_190 x0 M9 _ h
        · replace h := z_f c17 h
          refine zV_aload_n (j := 0) dX8_readsThing_167 rfl rfl ?_
          refine zV_dup dX8_readsThing_168 (zr_cat _ _) ?_
          refine zV_getI zf_RX8_190 dX8_readsThing_169 rfl g12 ?_
          refine zV_iconst (v := 1) dX8_readsThing_172 (by decide) ?_
          refine zV_isub dX8_readsThing_173 ?_
          refine zV_putI zf_RX8_190 dX8_readsThing_174 rfl rfl g12 ?_
          refine zV_mem (fun M18 e19 => ?_)
          replace h := zlet_of h e19
          refine zV_aload_n (j := 0) dX8_readsThing_177 rfl rfl ?_
          refine zV_dup dX8_readsThing_178 (zr_cat _ _) ?_
          refine zV_getI zf_RX8_240 dX8_readsThing_179 rfl (zkI e19 g12) ?_
          refine zV_iconst (v := 1) dX8_readsThing_182 (by decide) ?_
          refine zV_iadd dX8_readsThing_183 ?_
          refine zV_putI zf_RX8_240 dX8_readsThing_184 rfl rfl (zkI e19 g12) ?_
          refine zV_mem (fun M20 e21 => ?_)
          replace h := zlet_of h e21
          refine zV_goto (tgt := 196) dX8_readsThing_187 (by decide) ?_
          refine zV_pk [0, 1, 2, 3] rfl ?_
          exact vX8_readsThing_196 k2 hk2 x0 x1 x2 x3 M20 _ h
  · replace h := z_f c5 h
    refine zV_aload_n (j := 0) dX8_readsThing_113 rfl rfl ?_
    refine zV_iload (j := 4) dX8_readsThing_114 rfl ?_
    obtain ⟨g22, h⟩ := zg_of h
    obtain ⟨r23, M24, q25, h⟩ := zb_of h
    refine zV_callVi (ci := 8) (As := [.int x4]) (rest := []) (vX8_isAccepted l D T b gr x0 x4 M _ _ q25) zm_yX8_isAccepted zl_RX8_229 zi_yX8_isAccepted ze_yX8_isAccepted zcI8 g22 rfl rfl (zcs trivial (Nat.le_of_ble_eq_true rfl)) (by decide) (by decide) (by decide) dX8_readsThing_116 ?_
    refine zV_pop dX8_readsThing_119 rfl ?_
    refine zV_aload_n (j := 0) dX8_readsThing_120 rfl rfl ?_
    refine zV_iload (j := 4) dX8_readsThing_121 rfl ?_
    refine zV_iconst (v := 1) dX8_readsThing_123 (by decide) ?_
    obtain ⟨g26, h⟩ := zg_of h
    obtain ⟨r27, M28, q29, h⟩ := zb_of h
    refine zV_callVv (ci := 8) (As := [.int x4, .int 1]) (rest := []) (vX8_opensElement l D T b gr x0 x4 1 M24 _ _ q29) zm_yX8_opensElement zl_RX8_232 zi_yX8_opensElement ze_yX8_opensElement zcI8 g26 rfl rfl (zcs trivial (Nat.le_of_ble_eq_true rfl)) (by decide) (by decide) (by decide) dX8_readsThing_124 ?_
    obtain ⟨u30, e31⟩ : ∃ y : Int32, y = x3 + 1 := ⟨_, rfl⟩
    replace h := zlet_of h e31
    refine zV_iinc (j := 3) (v := u30) [(3, .int u30), (0, zr b x0), (1, .int x1), (2, .int x2), (4, .int x4)] dX8_readsThing_127 rfl (by rw [e31]; rfl) (by decide) rfl ?_
    refine zV_goto (tgt := 196) dX8_readsThing_130 (by decide) ?_
    refine zV_pk [1, 2, 3, 0] rfl ?_
    exact vX8_readsThing_196 k2 hk2 x0 x1 x2 u30 M28 _ h
set_option maxHeartbeats 4000000 in
set_option maxRecDepth 100000 in
theorem vX8_readsThing_80 {l : Launch} {D : va_G} {T : Nat → ClassId} {b : Nat} {gr : Bool} {n0 : Nat} (k2 : Nat → Int32 → Int32 → Int32 → zM → Option (Int32 × zM)) (hk2 : ∀ (z0 : Nat) (z1 : Int32) (z2 : Int32) (z3 : Int32) (N : zM) (o : Int32 × zM), k2 z0 z1 z2 z3 N = some o → zV false l RX8 cX8_readsThing 5 none false 4 0 0 D T b gr n0 (0, o.1, o.2) 0 0 2 [(0, zr b z0), (1, .int z1), (2, .int z2), (3, .int z3)] [] N) (x0 : Nat) (x1 : Int32) (x2 : Int32) (x3 : Int32) (s0 : Int32) (M : zM) (o : Int32 × zM) (h : fX8_readsThing_80 k2 x0 x1 x2 x3 s0 M = some o) : zV false l RX8 cX8_readsThing 5 none false 4 0 0 D T b gr n0 (0, o.1, o.2) 0 0 80 [(0, zr b x0), (1, .int x1), (2, .int x2), (3, .int x3)] [.int s0] M := by
  unfold fX8_readsThing_80 at h
  refine zV_istore [(4, .int s0), (0, zr b x0), (1, .int x1), (2, .int x2), (3, .int x3)] dX8_readsThing_80 (by decide) rfl ?_
  refine zV_aload_n (j := 1) dX8_readsThing_82 rfl rfl ?_
  obtain ⟨g32, h⟩ := zg_of h
  refine zV_getI zf_RX8_200 dX8_readsThing_83 rfl g32 ?_
  refine zV_if_ne (tgt := 107) dX8_readsThing_86 (by decide) (fun c33 => ?_) (fun c33 => ?_)
  · replace h := z_f c33 h
    refine zV_pk [1, 2, 3, 4, 0] rfl ?_
    exact vX8_readsThing_107 k2 hk2 x0 x1 x2 x3 s0 M _ h
  · replace h := z_t c33 h
    refine zV_aload_n (j := 1) dX8_readsThing_89 rfl rfl ?_
    refine zV_getR zf_RX8_25 dX8_readsThing_90 rfl g32 ?_
    refine zV_iconst (v := 0) dX8_readsThing_93 (by decide) ?_
    obtain ⟨g34, h⟩ := zg_of h
    obtain ⟨g35, h⟩ := zg_of h
    refine zV_zald dX8_readsThing_94 g34 g35 ?_
    refine zV_if_eq (tgt := 107) dX8_readsThing_95 (by decide) (fun c36 => ?_) (fun c36 => ?_)
    · replace h := z_t c36 h
      refine zV_pk [1, 2, 3, 4, 0] rfl ?_
      exact vX8_readsThing_107 k2 hk2 x0 x1 x2 x3 s0 M _ h
    · replace h := z_f c36 h
      refine zV_aload_n (j := 1) dX8_readsThing_98 rfl rfl ?_
      refine zV_iconst (v := 0) dX8_readsThing_99 (by decide) ?_
      refine zV_iconst (v := 1) dX8_readsThing_100 (by decide) ?_
      obtain ⟨r37, M38, q39, h⟩ := zb_of h
      refine zV_callVv (ci := 8) (As := [.int 0, .int 1]) (rest := []) (vX8_opensElement l D T b gr x0 0 1 M _ _ q39) zm_yX8_opensElement zl_RX8_232 zi_yX8_opensElement ze_yX8_opensElement zcI8 g32 rfl rfl (zcs trivial (Nat.le_of_ble_eq_true rfl)) (by decide) (by decide) (by decide) dX8_readsThing_101 ?_
      refine zV_goto (tgt := 196) dX8_readsThing_104 (by decide) ?_
      refine zV_pk [1, 2, 3, 4] rfl ?_
      exact vX8_readsThing_196 k2 hk2 x0 x1 x2 x3 M38 _ h
set_option maxHeartbeats 4000000 in
set_option maxRecDepth 100000 in
theorem vX8_readsThing_42 {l : Launch} {D : va_G} {T : Nat → ClassId} {b : Nat} {gr : Bool} {n0 : Nat} (x0 : Nat) (x1 : Int32) (x2 : Int32) (M : zM) (o : Int32 × zM) (h : fX8_readsThing_42 x0 x1 x2 M = some o) : zV false l RX8 cX8_readsThing 5 none false 4 0 0 D T b gr n0 (0, o.1, o.2) 0 0 42 [(0, zr b x0), (1, .int x1), (2, .int x2)] [] M := by
  unfold fX8_readsThing_42 at h
  refine zV_iload_n (j := 1) dX8_readsThing_42 rfl rfl ?_
  refine zV_bipush (v := 10) dX8_readsThing_43 (by decide) ?_
  refine zV_icmp_ge (tgt := 57) dX8_readsThing_45 (by decide) (fun c40 => ?_) (fun c40 => ?_)
  · replace h := z_t c40 h
    refine zV_aload_n (j := 0) dX8_readsThing_57 rfl rfl ?_
    refine zV_bipush (v := 10) dX8_readsThing_58 (by decide) ?_
    refine zV_iload_n (j := 2) dX8_readsThing_60 rfl rfl ?_
    refine zV_iconst (v := 0) dX8_readsThing_61 (by decide) ?_
    obtain ⟨g41, h⟩ := zg_of h
    obtain ⟨r42, M43, q44, h⟩ := zb_of h
    refine zV_callVv (ci := 8) (As := [.int 10, .int x2, .int 0]) (rest := []) (vX8_puts l D T b gr x0 10 x2 0 M _ _ q44) zm_yX8_puts zl_RX8_193 zi_yX8_puts ze_yX8_puts zcI8 g41 rfl rfl (zcs trivial (Nat.le_of_ble_eq_true rfl)) (by decide) (by decide) (by decide) dX8_readsThing_62 ?_
    exact zV_vret (x := 0) rfl dX8_readsThing_65 (by decide) (by decide) (z_ret h)
  · replace h := z_f c40 h
    refine zV_aload_n (j := 0) dX8_readsThing_48 rfl rfl ?_
    refine zV_iload_n (j := 1) dX8_readsThing_49 rfl rfl ?_
    refine zV_iconst (v := 0) dX8_readsThing_50 (by decide) ?_
    obtain ⟨g45, h⟩ := zg_of h
    obtain ⟨r46, M47, q48, h⟩ := zb_of h
    refine zV_callVv (ci := 8) (As := [.int x1, .int 0]) (rest := []) (vX8_opensElement l D T b gr x0 x1 0 M _ _ q48) zm_yX8_opensElement zl_RX8_232 zi_yX8_opensElement ze_yX8_opensElement zcI8 g45 rfl rfl (zcs trivial (Nat.le_of_ble_eq_true rfl)) (by decide) (by decide) (by decide) dX8_readsThing_51 ?_
    refine zV_goto (tgt := 65) dX8_readsThing_54 (by decide) ?_
    exact zV_vret (x := 0) rfl dX8_readsThing_65 (by decide) (by decide) (z_ret h)
set_option maxHeartbeats 4000000 in
set_option maxRecDepth 100000 in
theorem vX8_readsThing_34 {l : Launch} {D : va_G} {T : Nat → ClassId} {b : Nat} {gr : Bool} {n0 : Nat} (k2 : Nat → Int32 → Int32 → Int32 → zM → Option (Int32 × zM)) (hk2 : ∀ (z0 : Nat) (z1 : Int32) (z2 : Int32) (z3 : Int32) (N : zM) (o : Int32 × zM), k2 z0 z1 z2 z3 N = some o → zV false l RX8 cX8_readsThing 5 none false 4 0 0 D T b gr n0 (0, o.1, o.2) 0 0 2 [(0, zr b z0), (1, .int z1), (2, .int z2), (3, .int z3)] [] N) (x0 : Nat) (x1 : Int32) (x2 : Int32) (x3 : Int32) (M : zM) (o : Int32 × zM) (h : fX8_readsThing_34 k2 x0 x1 x2 x3 M = some o) : zV false l RX8 cX8_readsThing 5 none false 4 0 0 D T b gr n0 (0, o.1, o.2) 0 0 34 [(0, zr b x0), (1, .int x1), (2, .int x2), (3, .int x3)] [] M := by
  unfold fX8_readsThing_34 at h
  refine zV_aload_n (j := 0) dX8_readsThing_34 rfl rfl ?_
  refine zV_iload_n (j := 1) dX8_readsThing_35 rfl rfl ?_
  obtain ⟨g49, h⟩ := zg_of h
  obtain ⟨r50, M51, q52, h⟩ := zb_of h
  refine zV_callVi (ci := 8) (As := [.int x1]) (rest := []) (vX8_isAccepted l D T b gr x0 x1 M _ _ q52) zm_yX8_isAccepted zl_RX8_229 zi_yX8_isAccepted ze_yX8_isAccepted zcI8 g49 rfl rfl (zcs trivial (Nat.le_of_ble_eq_true rfl)) (by decide) (by decide) (by decide) dX8_readsThing_36 ?_
  refine zV_if_eq (tgt := 66) dX8_readsThing_39 (by decide) (fun c53 => ?_) (fun c53 => ?_)
  · replace h := z_t c53 h
    refine zV_iload_n (j := 3) dX8_readsThing_66 rfl rfl ?_
    refine zV_bipush (v := 8) dX8_readsThing_67 (by decide) ?_
    refine zV_icmp_ge (tgt := 79) dX8_readsThing_69 (by decide) (fun c54 => ?_) (fun c54 => ?_)
    · replace h := z_t c54 h
      refine zV_iconst (v := (-1)) dX8_readsThing_79 (by decide) ?_
      exact vX8_readsThing_80 k2 hk2 x0 x1 x2 x3 (-1) M51 _ h
    · replace h := z_f c54 h
      refine zV_aload_n (j := 0) dX8_readsThing_72 rfl rfl ?_
      obtain ⟨g55, h⟩ := zg_of h
      obtain ⟨r56, M57, q58, h⟩ := zb_of h
      refine zV_callVi (ci := 8) (As := []) (rest := []) (vX8_wanted l D T b gr x0 M51 _ _ q58) zm_yX8_wanted zl_RX8_236 zi_yX8_wanted ze_yX8_wanted zcI8 g55 rfl rfl (zcs trivial (Nat.le_of_ble_eq_true rfl)) (by decide) (by decide) (by decide) dX8_readsThing_73 ?_
      refine zV_goto (tgt := 80) dX8_readsThing_76 (by decide) ?_
      exact vX8_readsThing_80 k2 hk2 x0 x1 x2 x3 r56 M57 _ h
  · replace h := z_f c53 h
    refine zV_pk [0, 1, 2] rfl ?_
    exact vX8_readsThing_42 x0 x1 x2 M51 _ h
set_option maxHeartbeats 4000000 in
set_option maxRecDepth 100000 in
theorem vX8_readsThing_27 {l : Launch} {D : va_G} {T : Nat → ClassId} {b : Nat} {gr : Bool} {n0 : Nat} (x0 : Nat) (M : zM) (o : Int32 × zM) (h : fX8_readsThing_27 x0 M = some o) : zV false l RX8 cX8_readsThing 5 none false 4 0 0 D T b gr n0 (0, o.1, o.2) 0 0 27 [(0, zr b x0)] [] M := by
  unfold fX8_readsThing_27 at h
  refine zV_aload_n (j := 0) dX8_readsThing_27 rfl rfl ?_
  refine zV_bipush (v := 6) dX8_readsThing_28 (by decide) ?_
  obtain ⟨g59, h⟩ := zg_of h
  obtain ⟨r60, M61, q62, h⟩ := zb_of h
  refine zV_callVv (ci := 8) (As := [.int 6]) (rest := []) (vX8_fails l D T b gr x0 6 M _ _ q62) zm_yX8_fails zl_RX8_225 zi_yX8_fails ze_yX8_fails zcI8 g59 rfl rfl (zcs trivial (Nat.le_of_ble_eq_true rfl)) (by decide) (by decide) (by decide) dX8_readsThing_30 ?_
  exact zV_vret (x := 0) rfl dX8_readsThing_33 (by decide) (by decide) (z_ret h)
set_option maxHeartbeats 4000000 in
set_option maxRecDepth 100000 in
theorem vX8_readsThing_2 {l : Launch} {D : va_G} {T : Nat → ClassId} {b : Nat} {gr : Bool} {n0 : Nat} : ∀ (n : Nat) (x0 : Nat) (x1 : Int32) (x2 : Int32) (x3 : Int32) (M : zM) (o : Int32 × zM), fX8_readsThing_2 n x0 x1 x2 x3 M = some o → zV false l RX8 cX8_readsThing 5 none false 4 0 0 D T b gr n0 (0, o.1, o.2) 0 0 2 [(0, zr b x0), (1, .int x1), (2, .int x2), (3, .int x3)] [] M := by
  intro n
  induction n with
  | zero =>
    intro x0 x1 x2 x3 M o h
    rw [fX8_readsThing_2] at h
    cases h
  | succ n ih =>
    intro x0 x1 x2 x3 M o h
    rw [fX8_readsThing_2] at h
    refine zV_aload_n (j := 0) dX8_readsThing_2 rfl rfl ?_
    obtain ⟨g63, h⟩ := zg_of h
    refine zV_getI zf_RX8_187 dX8_readsThing_3 rfl g63 ?_
    refine zV_sipush (v := 300) dX8_readsThing_6 (by decide) ?_
    refine zV_icmp_eq (tgt := 27) dX8_readsThing_9 (by decide) (fun c64 => ?_) (fun c64 => ?_)
    · replace h := z_t c64 h
      refine zV_pk [0] rfl ?_
      exact vX8_readsThing_27 x0 M _ h
    · replace h := z_f c64 h
      refine zV_iload_n (j := 1) dX8_readsThing_12 rfl rfl ?_
      refine zV_bipush (v := 10) dX8_readsThing_13 (by decide) ?_
      refine zV_icmp_ge (tgt := 34) dX8_readsThing_15 (by decide) (fun c65 => ?_) (fun c65 => ?_)
      · replace h := z_t c65 h
        exact vX8_readsThing_34 (fX8_readsThing_2 n) ih x0 x1 x2 x3 M _ h
      · replace h := z_f c65 h
        refine zV_aload_n (j := 0) dX8_readsThing_18 rfl rfl ?_
        refine zV_getI zf_RX8_190 dX8_readsThing_19 rfl g63 ?_
        refine zV_bipush (v := 20) dX8_readsThing_22 (by decide) ?_
        refine zV_icmp_ne (tgt := 34) dX8_readsThing_24 (by decide) (fun c66 => ?_) (fun c66 => ?_)
        · replace h := z_f c66 h
          exact vX8_readsThing_34 (fX8_readsThing_2 n) ih x0 x1 x2 x3 M _ h
        · replace h := z_t c66 h
          refine zV_pk [0] rfl ?_
          exact vX8_readsThing_27 x0 M _ h
set_option maxHeartbeats 4000000 in
set_option maxRecDepth 100000 in
theorem vX8_readsThing (l : Launch) (D : va_G) (T : Nat → ClassId) (b : Nat) (gr : Bool) (x0 : Nat) (x1 : Int32) (x2 : Int32) (M : zM) (r : Int32) (M' : zM) (h : fX8_readsThing x0 x1 x2 M = some (r, M')) : zMet l D T b gr yX8_readsThing cX8_readsThing 5 none 4 0 0 [zr b x0, .int x1, .int x2] M (0, r, M') := by
  refine zEntry2 false (fun h9 => nomatch h9) zp_yX8_readsThing ⟨zr_cat _ _, rfl, rfl, trivial⟩ (Nat.le_of_ble_eq_true rfl) ?_
  obtain ⟨o, ho⟩ : ∃ o : Int32 × zM, o = (r, M') := ⟨_, rfl⟩
  rw [← ho] at h
  rw [show ((0, r, M') : Nat × Int32 × zM) = (0, o.1, o.2) by rw [ho]]
  show zV false l RX8 cX8_readsThing 5 none false 4 0 0 D T b gr M.2.2.2 (0, o.1, o.2) 0 0 0 [(0, zr b x0), (1, .int x1), (2, .int x2)] [] M
  unfold fX8_readsThing at h
  refine zV_iconst (v := 0) dX8_readsThing_0 (by decide) ?_
  refine zV_istore_n [(3, .int 0), (0, zr b x0), (1, .int x1), (2, .int x2)] dX8_readsThing_1 rfl (by decide) rfl ?_
  refine zV_pk [1, 2, 3, 0] rfl ?_
  exact vX8_readsThing_2 10000 x0 x1 x2 0 M _ h
set_option maxHeartbeats 4000000 in
set_option maxRecDepth 100000 in
theorem vX8_readsPlain_86 {l : Launch} {D : va_G} {T : Nat → ClassId} {b : Nat} {gr : Bool} {n0 : Nat} (s0 : Nat) (s1 : Int32) (s2 : Int32) (M : zM) (o : Int32 × zM) (h : fX8_readsPlain_86 s0 s1 s2 M = some o) : zV false l RX8 cX8_readsPlain 4 none false 5 0 0 D T b gr n0 (0, o.1, o.2) 0 0 86 [] [.int s2, .int s1, zr b s0] M := by
  unfold fX8_readsPlain_86 at h
  obtain ⟨g1, h⟩ := zg_of h
  obtain ⟨r2, M3, q4, h⟩ := zb_of h
  refine zV_callVv (ci := 8) (As := [.int s1, .int s2]) (rest := []) (vX8_readsThing l D T b gr s0 s1 s2 M _ _ q4) zm_yX8_readsThing zl_RX8_256 zi_yX8_readsThing ze_yX8_readsThing zcI8 g1 rfl rfl (zcs trivial (Nat.le_of_ble_eq_true rfl)) (by decide) (by decide) (by decide) dX8_readsPlain_86 ?_
  exact zV_vret (x := 0) rfl dX8_readsPlain_89 (by decide) (by decide) (z_ret h)
set_option maxHeartbeats 4000000 in
set_option maxRecDepth 100000 in
theorem vX8_readsPlain (l : Launch) (D : va_G) (T : Nat → ClassId) (b : Nat) (gr : Bool) (x0 : Nat) (x1 : Int32) (x2 : Int32) (M : zM) (r : Int32) (M' : zM) (h : fX8_readsPlain x0 x1 x2 M = some (r, M')) : zMet l D T b gr yX8_readsPlain cX8_readsPlain 4 none 5 0 0 [zr b x0, .int x1, .int x2] M (0, r, M') := by
  refine zEntry2 false (fun h9 => nomatch h9) zp_yX8_readsPlain ⟨zr_cat _ _, rfl, rfl, trivial⟩ (Nat.le_of_ble_eq_true rfl) ?_
  obtain ⟨o, ho⟩ : ∃ o : Int32 × zM, o = (r, M') := ⟨_, rfl⟩
  rw [← ho] at h
  rw [show ((0, r, M') : Nat × Int32 × zM) = (0, o.1, o.2) by rw [ho]]
  show zV false l RX8 cX8_readsPlain 4 none false 5 0 0 D T b gr M.2.2.2 (0, o.1, o.2) 0 0 0 [(0, zr b x0), (1, .int x1), (2, .int x2)] [] M
  unfold fX8_readsPlain at h
  refine zV_aload_n (j := 0) dX8_readsPlain_0 rfl rfl ?_
  obtain ⟨g5, h⟩ := zg_of h
  obtain ⟨r6, M7, q8, h⟩ := zb_of h
  refine zV_callVi (ci := 8) (As := []) (rest := []) (vX8_mode l D T b gr x0 M _ _ q8) zm_yX8_mode zl_RX8_253 zi_yX8_mode ze_yX8_mode zcI8 g5 rfl rfl (zcs trivial (Nat.le_of_ble_eq_true rfl)) (by decide) (by decide) (by decide) dX8_readsPlain_1 ?_
  refine zV_istore_n [(3, .int r6), (0, zr b x0), (1, .int x1), (2, .int x2)] dX8_readsPlain_4 rfl (by decide) rfl ?_
  refine zV_iload_n (j := 2) dX8_readsPlain_5 rfl rfl ?_
  refine zV_bipush (v := 7) dX8_readsPlain_6 (by decide) ?_
  refine zV_icmp_ne (tgt := 27) dX8_readsPlain_8 (by decide) (fun c9 => ?_) (fun c9 => ?_)
  · replace h := z_f c9 h
    refine zV_iload_n (j := 2) dX8_readsPlain_27 rfl rfl ?_
    refine zV_bipush (v := 8) dX8_readsPlain_28 (by decide) ?_
    refine zV_icmp_ne (tgt := 62) dX8_readsPlain_30 (by decide) (fun c10 => ?_) (fun c10 => ?_)
    · replace h := z_f c10 h
      refine zV_aload_n (j := 1) dX8_readsPlain_62 rfl rfl ?_
      refine zV_bipush (v := 10) dX8_readsPlain_63 (by decide) ?_
      refine zV_iload_n (j := 2) dX8_readsPlain_65 rfl rfl ?_
      refine zV_iconst (v := 4) dX8_readsPlain_66 (by decide) ?_
      refine zV_icmp_ne (tgt := 74) dX8_readsPlain_67 (by decide) (fun c11 => ?_) (fun c11 => ?_)
      · replace h := z_f c11 h
        refine zV_iload_n (j := 2) dX8_readsPlain_74 rfl rfl ?_
        refine zV_iconst (v := 5) dX8_readsPlain_75 (by decide) ?_
        refine zV_icmp_ne (tgt := 84) dX8_readsPlain_76 (by decide) (fun c12 => ?_) (fun c12 => ?_)
        · replace h := z_f c12 h
          refine zV_bipush (v := 42) dX8_readsPlain_84 (by decide) ?_
          refine zV_pk [] rfl ?_
          exact vX8_readsPlain_86 x0 10 42 M7 _ h
        · replace h := z_t c12 h
          refine zV_bipush (v := 32) dX8_readsPlain_79 (by decide) ?_
          refine zV_goto (tgt := 86) dX8_readsPlain_81 (by decide) ?_
          refine zV_pk [] rfl ?_
          exact vX8_readsPlain_86 x0 10 32 M7 _ h
      · replace h := z_t c11 h
        refine zV_iload_n (j := 3) dX8_readsPlain_70 rfl rfl ?_
        refine zV_goto (tgt := 86) dX8_readsPlain_71 (by decide) ?_
        refine zV_pk [] rfl ?_
        exact vX8_readsPlain_86 x0 10 x2 M7 _ h
    · replace h := z_t c10 h
      refine zV_aload_n (j := 1) dX8_readsPlain_33 rfl rfl ?_
      obtain ⟨g13, h⟩ := zg_of h
      refine zV_getR zf_RX8_95 dX8_readsPlain_34 rfl g13 ?_
      refine zV_aload_n (j := 1) dX8_readsPlain_37 rfl rfl ?_
      refine zV_getI zf_RX8_246 dX8_readsPlain_38 rfl g13 ?_
      refine zV_dup2 dX8_readsPlain_41 rfl (zr_cat _ _) ?_
      obtain ⟨g14, h⟩ := zg_of h
      obtain ⟨g15, h⟩ := zg_of h
      refine zV_iald dX8_readsPlain_42 g14 g15 ?_
      refine zV_iconst (v := 1) dX8_readsPlain_43 (by decide) ?_
      refine zV_isub dX8_readsPlain_44 ?_
      obtain ⟨g16, h⟩ := zg_of h
      refine zV_iast dX8_readsPlain_45 g14 g16 ?_
      refine zV_mem (fun M17 e18 => ?_)
      replace h := zlet_of h e18
      refine zV_iload_n (j := 0) dX8_readsPlain_46 rfl rfl ?_
      refine zV_iconst (v := 4) dX8_readsPlain_47 (by decide) ?_
      refine zV_icmp_ne (tgt := 89) dX8_readsPlain_48 (by decide) (fun c19 => ?_) (fun c19 => ?_)
      · replace h := z_f c19 h
        exact zV_vret (x := 0) rfl dX8_readsPlain_89 (by decide) (by decide) (z_ret h)
      · replace h := z_t c19 h
        refine zV_aload_n (j := 1) dX8_readsPlain_51 rfl rfl ?_
        refine zV_bipush (v := 10) dX8_readsPlain_52 (by decide) ?_
        refine zV_bipush (v := 42) dX8_readsPlain_54 (by decide) ?_
        obtain ⟨r20, M21, q22, h⟩ := zb_of h
        refine zV_callVv (ci := 8) (As := [.int 10, .int 42]) (rest := []) (vX8_readsThing l D T b gr x0 10 42 M17 _ _ q22) zm_yX8_readsThing zl_RX8_256 zi_yX8_readsThing ze_yX8_readsThing zcI8 (zkI e18 g13) rfl rfl (zcs trivial (Nat.le_of_ble_eq_true rfl)) (by decide) (by decide) (by decide) dX8_readsPlain_56 ?_
        refine zV_goto (tgt := 89) dX8_readsPlain_59 (by decide) ?_
        exact zV_vret (x := 0) rfl dX8_readsPlain_89 (by decide) (by decide) (z_ret h)
  · replace h := z_t c9 h
    refine zV_aload_n (j := 1) dX8_readsPlain_11 rfl rfl ?_
    refine zV_bipush (v := 10) dX8_readsPlain_12 (by decide) ?_
    refine zV_bipush (v := 42) dX8_readsPlain_14 (by decide) ?_
    obtain ⟨g23, h⟩ := zg_of h
    obtain ⟨r24, M25, q26, h⟩ := zb_of h
    refine zV_callVv (ci := 8) (As := [.int 10, .int 42]) (rest := []) (vX8_readsThing l D T b gr x0 10 42 M7 _ _ q26) zm_yX8_readsThing zl_RX8_256 zi_yX8_readsThing ze_yX8_readsThing zcI8 g23 rfl rfl (zcs trivial (Nat.le_of_ble_eq_true rfl)) (by decide) (by decide) (by decide) dX8_readsPlain_16 ?_
    refine zV_aload_n (j := 1) dX8_readsPlain_19 rfl rfl ?_
    refine zV_iconst (v := 4) dX8_readsPlain_20 (by decide) ?_
    obtain ⟨g27, h⟩ := zg_of h
    obtain ⟨r28, M29, q30, h⟩ := zb_of h
    refine zV_callVv (ci := 8) (As := [.int 4]) (rest := []) (vX8_opensMark l D T b gr x0 4 M25 _ _ q30) zm_yX8_opensMark zl_RX8_260 zi_yX8_opensMark ze_yX8_opensMark zcI8 g27 rfl rfl (zcs trivial (Nat.le_of_ble_eq_true rfl)) (by decide) (by decide) (by decide) dX8_readsPlain_21 ?_
    refine zV_goto (tgt := 89) dX8_readsPlain_24 (by decide) ?_
    exact zV_vret (x := 0) rfl dX8_readsPlain_89 (by decide) (by decide) (z_ret h)
set_option maxHeartbeats 4000000 in
set_option maxRecDepth 100000 in
theorem vX8_closesTo_78 {l : Launch} {D : va_G} {T : Nat → ClassId} {b : Nat} {gr : Bool} {n0 : Nat} (k0 : Nat → Int32 → Int32 → zM → Option (Int32 × zM)) (hk0 : ∀ (z0 : Nat) (z1 : Int32) (z2 : Int32) (N : zM) (o : Int32 × zM), k0 z0 z1 z2 N = some o → zV false l RX8 cX8_closesTo 4 none false 3 0 0 D T b gr n0 (0, o.1, o.2) 0 0 0 [(0, zr b z0), (1, .int z1), (2, .int z2)] [] N) (x0 : Nat) (x1 : Int32) (x2 : Int32) (M : zM) (o : Int32 × zM) (h : fX8_closesTo_78 k0 x0 x1 x2 M = some o) : zV false l RX8 cX8_closesTo 4 none false 3 0 0 D T b gr n0 (0, o.1, o.2) 0 0 78 [(0, zr b x0), (1, .int x1), (2, .int x2)] [] M := by
  unfold fX8_closesTo_78 at h
  refine zV_aload_n (j := 0) dX8_closesTo_78 rfl rfl ?_
  refine zV_dup dX8_closesTo_79 (zr_cat _ _) ?_
  obtain ⟨g1, h⟩ := zg_of h
  refine zV_getI zf_RX8_190 dX8_closesTo_80 rfl g1 ?_
  refine zV_iconst (v := 1) dX8_closesTo_83 (by decide) ?_
  refine zV_isub dX8_closesTo_84 ?_
  refine zV_putI zf_RX8_190 dX8_closesTo_85 rfl rfl g1 ?_
  refine zV_mem (fun M2 e3 => ?_)
  replace h := zlet_of h e3
  refine zV_goto (tgt := 0) dX8_closesTo_88 (by decide) ?_
  exact hk0 x0 x1 x2 M2 _ h
set_option maxHeartbeats 4000000 in
set_option maxRecDepth 100000 in
theorem vX8_closesTo_40 {l : Launch} {D : va_G} {T : Nat → ClassId} {b : Nat} {gr : Bool} {n0 : Nat} (k0 : Nat → Int32 → Int32 → zM → Option (Int32 × zM)) (hk0 : ∀ (z0 : Nat) (z1 : Int32) (z2 : Int32) (N : zM) (o : Int32 × zM), k0 z0 z1 z2 N = some o → zV false l RX8 cX8_closesTo 4 none false 3 0 0 D T b gr n0 (0, o.1, o.2) 0 0 0 [(0, zr b z0), (1, .int z1), (2, .int z2)] [] N) (x0 : Nat) (x1 : Int32) (x2 : Int32) (x3 : Int32) (M : zM) (o : Int32 × zM) (h : fX8_closesTo_40 k0 x0 x1 x2 x3 M = some o) : zV false l RX8 cX8_closesTo 4 none false 3 0 0 D T b gr n0 (0, o.1, o.2) 0 0 40 [(0, zr b x0), (1, .int x1), (2, .int x2), (3, .int x3)] [] M := by
  unfold fX8_closesTo_40 at h
  refine zV_iload_n (j := 3) dX8_closesTo_40 rfl rfl ?_
  refine zV_if_eq (tgt := 78) dX8_closesTo_41 (by decide) (fun c4 => ?_) (fun c4 => ?_)
  · replace h := z_t c4 h
    refine zV_pk [0, 1, 2] rfl ?_
    exact vX8_closesTo_78 k0 hk0 x0 x1 x2 M _ h
  · replace h := z_f c4 h
    refine zV_aload_n (j := 0) dX8_closesTo_44 rfl rfl ?_
    refine zV_dup dX8_closesTo_45 (zr_cat _ _) ?_
    obtain ⟨g5, h⟩ := zg_of h
    refine zV_getI zf_RX8_240 dX8_closesTo_46 rfl g5 ?_
    refine zV_iconst (v := 1) dX8_closesTo_49 (by decide) ?_
    refine zV_iadd dX8_closesTo_50 ?_
    refine zV_putI zf_RX8_240 dX8_closesTo_51 rfl rfl g5 ?_
    refine zV_mem (fun M6 e7 => ?_)
    replace h := zlet_of h e7
    refine zV_aload_n (j := 0) dX8_closesTo_54 rfl rfl ?_
    refine zV_getR zf_RX8_29 dX8_closesTo_55 rfl (zkI e7 g5) ?_
    refine zV_aload_n (j := 0) dX8_closesTo_58 rfl rfl ?_
    refine zV_getR zf_RX8_56 dX8_closesTo_59 rfl (zkI e7 g5) ?_
    refine zV_aload_n (j := 0) dX8_closesTo_62 rfl rfl ?_
    refine zV_getI zf_RX8_190 dX8_closesTo_63 rfl (zkI e7 g5) ?_
    refine zV_iconst (v := 1) dX8_closesTo_66 (by decide) ?_
    refine zV_isub dX8_closesTo_67 ?_
    obtain ⟨g8, h⟩ := zg_of h
    obtain ⟨g9, h⟩ := zg_of h
    refine zV_iald dX8_closesTo_68 g8 g9 ?_
    obtain ⟨g10, h⟩ := zg_of h
    obtain ⟨g11, h⟩ := zg_of h
    refine zV_zald dX8_closesTo_69 g10 g11 ?_
    refine zV_if_ne (tgt := 78) dX8_closesTo_70 (by decide) (fun c12 => ?_) (fun c12 => ?_)
    · replace h := z_f c12 h
      refine zV_pk [0, 1, 2] rfl ?_
      exact vX8_closesTo_78 k0 hk0 x0 x1 x2 M6 _ h
    · replace h := z_t c12 h
      refine zV_aload_n (j := 0) dX8_closesTo_73 rfl rfl ?_
      refine zV_iconst (v := 3) dX8_closesTo_74 (by decide) ?_
      obtain ⟨r13, M14, q15, h⟩ := zb_of h
      refine zV_callVv (ci := 8) (As := [.int 3]) (rest := []) (vX8_fails l D T b gr x0 3 M6 _ _ q15) zm_yX8_fails zl_RX8_225 zi_yX8_fails ze_yX8_fails zcI8 (zkI e7 g5) rfl rfl (zcs trivial (Nat.le_of_ble_eq_true rfl)) (by decide) (by decide) (by decide) dX8_closesTo_75 ?_
      refine zV_pk [0, 1, 2] rfl ?_
      exact vX8_closesTo_78 k0 hk0 x0 x1 x2 M14 _ h
set_option maxHeartbeats 4000000 in
set_option maxRecDepth 100000 in
theorem vX8_closesTo_27 {l : Launch} {D : va_G} {T : Nat → ClassId} {b : Nat} {gr : Bool} {n0 : Nat} (k0 : Nat → Int32 → Int32 → zM → Option (Int32 × zM)) (hk0 : ∀ (z0 : Nat) (z1 : Int32) (z2 : Int32) (N : zM) (o : Int32 × zM), k0 z0 z1 z2 N = some o → zV false l RX8 cX8_closesTo 4 none false 3 0 0 D T b gr n0 (0, o.1, o.2) 0 0 0 [(0, zr b z0), (1, .int z1), (2, .int z2)] [] N) (x0 : Nat) (x1 : Int32) (x2 : Int32) (s0 : Int32) (M : zM) (o : Int32 × zM) (h : fX8_closesTo_27 k0 x0 x1 x2 s0 M = some o) : zV false l RX8 cX8_closesTo 4 none false 3 0 0 D T b gr n0 (0, o.1, o.2) 0 0 27 [(0, zr b x0), (1, .int x1), (2, .int x2)] [.int s0] M := by
  unfold fX8_closesTo_27 at h
  refine zV_istore_n [(3, .int s0), (0, zr b x0), (1, .int x1), (2, .int x2)] dX8_closesTo_27 rfl (by decide) rfl ?_
  refine zV_aload_n (j := 1) dX8_closesTo_28 rfl rfl ?_
  obtain ⟨g16, h⟩ := zg_of h
  obtain ⟨r17, M18, q19, h⟩ := zb_of h
  refine zV_callVi (ci := 8) (As := []) (rest := []) (vX8_canEndTop l D T b gr x0 M _ _ q19) zm_yX8_canEndTop zl_RX8_217 zi_yX8_canEndTop ze_yX8_canEndTop zcI8 g16 rfl rfl (zcs trivial (Nat.le_of_ble_eq_true rfl)) (by decide) (by decide) (by decide) dX8_closesTo_29 ?_
  refine zV_if_ne (tgt := 40) dX8_closesTo_32 (by decide) (fun c20 => ?_) (fun c20 => ?_)
  · replace h := z_f c20 h
    refine zV_pk [1, 2, 3, 0] rfl ?_
    exact vX8_closesTo_40 k0 hk0 x0 x1 x2 s0 M18 _ h
  · replace h := z_t c20 h
    refine zV_aload_n (j := 1) dX8_closesTo_35 rfl rfl ?_
    refine zV_iconst (v := 2) dX8_closesTo_36 (by decide) ?_
    obtain ⟨g21, h⟩ := zg_of h
    obtain ⟨r22, M23, q24, h⟩ := zb_of h
    refine zV_callVv (ci := 8) (As := [.int 2]) (rest := []) (vX8_fails l D T b gr x0 2 M18 _ _ q24) zm_yX8_fails zl_RX8_225 zi_yX8_fails ze_yX8_fails zcI8 g21 rfl rfl (zcs trivial (Nat.le_of_ble_eq_true rfl)) (by decide) (by decide) (by decide) dX8_closesTo_37 ?_
    refine zV_pk [1, 2, 3, 0] rfl ?_
    exact vX8_closesTo_40 k0 hk0 x0 x1 x2 s0 M23 _ h
set_option maxHeartbeats 4000000 in
set_option maxRecDepth 100000 in
theorem vX8_closesTo_22 {l : Launch} {D : va_G} {T : Nat → ClassId} {b : Nat} {gr : Bool} {n0 : Nat} (k0 : Nat → Int32 → Int32 → zM → Option (Int32 × zM)) (hk0 : ∀ (z0 : Nat) (z1 : Int32) (z2 : Int32) (N : zM) (o : Int32 × zM), k0 z0 z1 z2 N = some o → zV false l RX8 cX8_closesTo 4 none false 3 0 0 D T b gr n0 (0, o.1, o.2) 0 0 0 [(0, zr b z0), (1, .int z1), (2, .int z2)] [] N) (x0 : Nat) (x1 : Int32) (x2 : Int32) (M : zM) (o : Int32 × zM) (h : fX8_closesTo_22 k0 x0 x1 x2 M = some o) : zV false l RX8 cX8_closesTo 4 none false 3 0 0 D T b gr n0 (0, o.1, o.2) 0 0 22 [(0, zr b x0), (1, .int x1), (2, .int x2)] [] M := by
  unfold fX8_closesTo_22 at h
  refine zV_iconst (v := 1) dX8_closesTo_22 (by decide) ?_
  refine zV_goto (tgt := 27) dX8_closesTo_23 (by decide) ?_
  exact vX8_closesTo_27 k0 hk0 x0 x1 x2 1 M _ h
set_option maxHeartbeats 4000000 in
set_option maxRecDepth 100000 in
theorem vX8_closesTo_0 {l : Launch} {D : va_G} {T : Nat → ClassId} {b : Nat} {gr : Bool} {n0 : Nat} : ∀ (n : Nat) (x0 : Nat) (x1 : Int32) (x2 : Int32) (M : zM) (o : Int32 × zM), fX8_closesTo_0 n x0 x1 x2 M = some o → zV false l RX8 cX8_closesTo 4 none false 3 0 0 D T b gr n0 (0, o.1, o.2) 0 0 0 [(0, zr b x0), (1, .int x1), (2, .int x2)] [] M := by
  intro n
  induction n with
  | zero =>
    intro x0 x1 x2 M o h
    rw [fX8_closesTo_0] at h
    cases h
  | succ n ih =>
    intro x0 x1 x2 M o h
    rw [fX8_closesTo_0] at h
    refine zV_aload_n (j := 0) dX8_closesTo_0 rfl rfl ?_
    obtain ⟨g25, h⟩ := zg_of h
    refine zV_getI zf_RX8_190 dX8_closesTo_1 rfl g25 ?_
    refine zV_iload_n (j := 1) dX8_closesTo_4 rfl rfl ?_
    refine zV_icmp_le (tgt := 91) dX8_closesTo_5 (by decide) (fun c26 => ?_) (fun c26 => ?_)
    · replace h := z_t c26 h
      exact zV_vret (x := 0) rfl dX8_closesTo_91 (by decide) (by decide) (z_ret h)
    · replace h := z_f c26 h
      refine zV_iload_n (j := 2) dX8_closesTo_8 rfl rfl ?_
      refine zV_if_ne (tgt := 22) dX8_closesTo_9 (by decide) (fun c27 => ?_) (fun c27 => ?_)
      · replace h := z_f c27 h
        exact vX8_closesTo_22 (fX8_closesTo_0 n) ih x0 x1 x2 M _ h
      · replace h := z_t c27 h
        refine zV_aload_n (j := 0) dX8_closesTo_12 rfl rfl ?_
        refine zV_getI zf_RX8_190 dX8_closesTo_13 rfl g25 ?_
        refine zV_iconst (v := 1) dX8_closesTo_16 (by decide) ?_
        refine zV_isub dX8_closesTo_17 ?_
        refine zV_iload_n (j := 1) dX8_closesTo_18 rfl rfl ?_
        refine zV_icmp_le (tgt := 26) dX8_closesTo_19 (by decide) (fun c28 => ?_) (fun c28 => ?_)
        · replace h := z_t c28 h
          refine zV_iconst (v := 0) dX8_closesTo_26 (by decide) ?_
          exact vX8_closesTo_27 (fX8_closesTo_0 n) ih x0 x1 x2 0 M _ h
        · replace h := z_f c28 h
          exact vX8_closesTo_22 (fX8_closesTo_0 n) ih x0 x1 x2 M _ h
set_option maxHeartbeats 4000000 in
set_option maxRecDepth 100000 in
theorem vX8_closesTo (l : Launch) (D : va_G) (T : Nat → ClassId) (b : Nat) (gr : Bool) (x0 : Nat) (x1 : Int32) (x2 : Int32) (M : zM) (r : Int32) (M' : zM) (h : fX8_closesTo x0 x1 x2 M = some (r, M')) : zMet l D T b gr yX8_closesTo cX8_closesTo 4 none 3 0 0 [zr b x0, .int x1, .int x2] M (0, r, M') := by
  refine zEntry2 false (fun h9 => nomatch h9) zp_yX8_closesTo ⟨zr_cat _ _, rfl, rfl, trivial⟩ (Nat.le_of_ble_eq_true rfl) ?_
  obtain ⟨o, ho⟩ : ∃ o : Int32 × zM, o = (r, M') := ⟨_, rfl⟩
  rw [← ho] at h
  rw [show ((0, r, M') : Nat × Int32 × zM) = (0, o.1, o.2) by rw [ho]]
  show zV false l RX8 cX8_closesTo 4 none false 3 0 0 D T b gr M.2.2.2 (0, o.1, o.2) 0 0 0 [(0, zr b x0), (1, .int x1), (2, .int x2)] [] M
  unfold fX8_closesTo at h
  exact vX8_closesTo_0 10000 x0 x1 x2 M _ h
