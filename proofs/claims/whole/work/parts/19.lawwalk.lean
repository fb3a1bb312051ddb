set_option maxHeartbeats 4000000 in
set_option maxRecDepth 100000 in
theorem vW_1686 {l : Launch} {D : va_G} {T : Nat → ClassId} {b0 L : Nat} {xs : Nat → Int32} {b1 b2 ao c0 s0 : Nat} (hl : l.stackTraces = false) (hc : c0 + 3 ≤ 601024) (hs : s0 + 18 ≤ 7293033) (k : Int32 → zM → zM → (Nat → Int64) → Option Int32) (hk : ∀ (z4 : Int32) (N1 N2 : zM) (w : Nat → Int64), k z4 N1 N2 w = some 1 → zL l D T b0 L xs b1 b2 ao (c0 + 3) (s0 + 18) 23 [(0, .ref b0), (1, .ref (b1 + 1)), (2, .ref (b2 + 1)), (3, .ref ao), (4, .int z4)] [] N1 N2 w) (x4 : Int32) (M1 M2 : zM) (w : Nat → Int64) (h : fW_1686 xs L k x4 M1 M2 w = some 1) : zL l D T b0 L xs b1 b2 ao (c0 + 3) (s0 + 18) 1686 [(0, .ref b0), (1, .ref (b1 + 1)), (2, .ref (b2 + 1)), (3, .ref ao), (4, .int x4)] [] M1 M2 w := by
  unfold fW_1686 at h
  obtain ⟨u1, e2⟩ : ∃ y : Int32, y = x4 + 5 := ⟨_, rfl⟩
  replace h := zlet_of h e2
  refine zL_iinc (j := 4) (v := u1) [(4, .int u1), (0, .ref b0), (1, .ref (b1 + 1)), (2, .ref (b2 + 1)), (3, .ref ao)] dL_law_1686 rfl (by rw [e2]; rfl) (by decide) rfl ?_
  refine zL_goto (tgt := 23) dL_law_1689 (by decide) ?_
  refine zL_pk [1, 2, 3, 4, 0] rfl ?_
  exact hk u1 M1 M2 w h
set_option maxHeartbeats 4000000 in
set_option maxRecDepth 100000 in
theorem vW_1683 {l : Launch} {D : va_G} {T : Nat → ClassId} {b0 L : Nat} {xs : Nat → Int32} {b1 b2 ao c0 s0 : Nat} (hl : l.stackTraces = false) (hc : c0 + 3 ≤ 601024) (hs : s0 + 18 ≤ 7293033) (k : Int32 → zM → zM → (Nat → Int64) → Option Int32) (hk : ∀ (z4 : Int32) (N1 N2 : zM) (w : Nat → Int64), k z4 N1 N2 w = some 1 → zL l D T b0 L xs b1 b2 ao (c0 + 3) (s0 + 18) 23 [(0, .ref b0), (1, .ref (b1 + 1)), (2, .ref (b2 + 1)), (3, .ref ao), (4, .int z4)] [] N1 N2 w) (x4 : Int32) (M1 M2 : zM) (w : Nat → Int64) (h : fW_1683 xs L k x4 M1 M2 w = some 1) : zL l D T b0 L xs b1 b2 ao (c0 + 3) (s0 + 18) 1683 [(0, .ref b0), (1, .ref (b1 + 1)), (2, .ref (b2 + 1)), (3, .ref ao), (4, .int x4)] [] M1 M2 w := by
  unfold fW_1683 at h
  refine zL_goto (tgt := 1686) dL_law_1683 (by decide) ?_
  refine zL_pk [0, 1, 2, 3, 4] rfl ?_
  exact vW_1686 hl hc hs k hk x4 M1 M2 w h
set_option maxHeartbeats 4000000 in
set_option maxRecDepth 100000 in
theorem vW_1626 {l : Launch} {D : va_G} {T : Nat → ClassId} {b0 L : Nat} {xs : Nat → Int32} {b1 b2 ao c0 s0 : Nat} (hl : l.stackTraces = false) (hc : c0 + 3 ≤ 601024) (hs : s0 + 18 ≤ 7293033) (k : Int32 → zM → zM → (Nat → Int64) → Option Int32) (hk : ∀ (z4 : Int32) (N1 N2 : zM) (w : Nat → Int64), k z4 N1 N2 w = some 1 → zL l D T b0 L xs b1 b2 ao (c0 + 3) (s0 + 18) 23 [(0, .ref b0), (1, .ref (b1 + 1)), (2, .ref (b2 + 1)), (3, .ref ao), (4, .int z4)] [] N1 N2 w) (x4 : Int32) (M1 M2 : zM) (w : Nat → Int64) (h : fW_1626 xs L k x4 M1 M2 w = some 1) : zL l D T b0 L xs b1 b2 ao (c0 + 3) (s0 + 18) 1626 [(0, .ref b0), (1, .ref (b1 + 1)), (2, .ref (b2 + 1)), (3, .ref ao), (4, .int x4)] [] M1 M2 w := by
  unfold fW_1626 at h
  refine zL_goto (tgt := 1686) dL_law_1626 (by decide) ?_
  refine zL_pk [0, 1, 2, 3, 4] rfl ?_
  exact vW_1686 hl hc hs k hk x4 M1 M2 w h
set_option maxHeartbeats 4000000 in
set_option maxRecDepth 100000 in
theorem vW_1570 {l : Launch} {D : va_G} {T : Nat → ClassId} {b0 L : Nat} {xs : Nat → Int32} {b1 b2 ao c0 s0 : Nat} (hl : l.stackTraces = false) (hc : c0 + 3 ≤ 601024) (hs : s0 + 18 ≤ 7293033) (k : Int32 → zM → zM → (Nat → Int64) → Option Int32) (hk : ∀ (z4 : Int32) (N1 N2 : zM) (w : Nat → Int64), k z4 N1 N2 w = some 1 → zL l D T b0 L xs b1 b2 ao (c0 + 3) (s0 + 18) 23 [(0, .ref b0), (1, .ref (b1 + 1)), (2, .ref (b2 + 1)), (3, .ref ao), (4, .int z4)] [] N1 N2 w) (x4 : Int32) (M1 M2 : zM) (w : Nat → Int64) (h : fW_1570 xs L k x4 M1 M2 w = some 1) : zL l D T b0 L xs b1 b2 ao (c0 + 3) (s0 + 18) 1570 [(0, .ref b0), (1, .ref (b1 + 1)), (2, .ref (b2 + 1)), (3, .ref ao), (4, .int x4)] [] M1 M2 w := by
  unfold fW_1570 at h
  refine zL_goto (tgt := 1686) dL_law_1570 (by decide) ?_
  refine zL_pk [0, 1, 2, 3, 4] rfl ?_
  exact vW_1686 hl hc hs k hk x4 M1 M2 w h
set_option maxHeartbeats 4000000 in
set_option maxRecDepth 100000 in
theorem vW_1501 {l : Launch} {D : va_G} {T : Nat → ClassId} {b0 L : Nat} {xs : Nat → Int32} {b1 b2 ao c0 s0 : Nat} (hl : l.stackTraces = false) (hc : c0 + 3 ≤ 601024) (hs : s0 + 18 ≤ 7293033) (k : Int32 → zM → zM → (Nat → Int64) → Option Int32) (hk : ∀ (z4 : Int32) (N1 N2 : zM) (w : Nat → Int64), k z4 N1 N2 w = some 1 → zL l D T b0 L xs b1 b2 ao (c0 + 3) (s0 + 18) 23 [(0, .ref b0), (1, .ref (b1 + 1)), (2, .ref (b2 + 1)), (3, .ref ao), (4, .int z4)] [] N1 N2 w) (x4 : Int32) (M1 M2 : zM) (w : Nat → Int64) (h : fW_1501 xs L k x4 M1 M2 w = some 1) : zL l D T b0 L xs b1 b2 ao (c0 + 3) (s0 + 18) 1501 [(0, .ref b0), (1, .ref (b1 + 1)), (2, .ref (b2 + 1)), (3, .ref ao), (4, .int x4)] [] M1 M2 w := by
  unfold fW_1501 at h
  refine zL_goto (tgt := 1686) dL_law_1501 (by decide) ?_
  refine zL_pk [0, 1, 2, 3, 4] rfl ?_
  exact vW_1686 hl hc hs k hk x4 M1 M2 w h
set_option maxHeartbeats 4000000 in
set_option maxRecDepth 100000 in
theorem vW_1445 {l : Launch} {D : va_G} {T : Nat → ClassId} {b0 L : Nat} {xs : Nat → Int32} {b1 b2 ao c0 s0 : Nat} (hl : l.stackTraces = false) (hc : c0 + 3 ≤ 601024) (hs : s0 + 18 ≤ 7293033) (k : Int32 → zM → zM → (Nat → Int64) → Option Int32) (hk : ∀ (z4 : Int32) (N1 N2 : zM) (w : Nat → Int64), k z4 N1 N2 w = some 1 → zL l D T b0 L xs b1 b2 ao (c0 + 3) (s0 + 18) 23 [(0, .ref b0), (1, .ref (b1 + 1)), (2, .ref (b2 + 1)), (3, .ref ao), (4, .int z4)] [] N1 N2 w) (x4 : Int32) (M1 M2 : zM) (w : Nat → Int64) (h : fW_1445 xs L k x4 M1 M2 w = some 1) : zL l D T b0 L xs b1 b2 ao (c0 + 3) (s0 + 18) 1445 [(0, .ref b0), (1, .ref (b1 + 1)), (2, .ref (b2 + 1)), (3, .ref ao), (4, .int x4)] [] M1 M2 w := by
  unfold fW_1445 at h
  refine zL_goto (tgt := 1686) dL_law_1445 (by decide) ?_
  refine zL_pk [0, 1, 2, 3, 4] rfl ?_
  exact vW_1686 hl hc hs k hk x4 M1 M2 w h
set_option maxHeartbeats 4000000 in
set_option maxRecDepth 100000 in
theorem vW_1363 {l : Launch} {D : va_G} {T : Nat → ClassId} {b0 L : Nat} {xs : Nat → Int32} {b1 b2 ao c0 s0 : Nat} (hl : l.stackTraces = false) (hc : c0 + 3 ≤ 601024) (hs : s0 + 18 ≤ 7293033) (k : Int32 → zM → zM → (Nat → Int64) → Option Int32) (hk : ∀ (z4 : Int32) (N1 N2 : zM) (w : Nat → Int64), k z4 N1 N2 w = some 1 → zL l D T b0 L xs b1 b2 ao (c0 + 3) (s0 + 18) 23 [(0, .ref b0), (1, .ref (b1 + 1)), (2, .ref (b2 + 1)), (3, .ref ao), (4, .int z4)] [] N1 N2 w) (x4 : Int32) (M1 M2 : zM) (w : Nat → Int64) (h : fW_1363 xs L k x4 M1 M2 w = some 1) : zL l D T b0 L xs b1 b2 ao (c0 + 3) (s0 + 18) 1363 [(0, .ref b0), (1, .ref (b1 + 1)), (2, .ref (b2 + 1)), (3, .ref ao), (4, .int x4)] [] M1 M2 w := by
  unfold fW_1363 at h
  refine zL_goto (tgt := 1686) dL_law_1363 (by decide) ?_
  refine zL_pk [0, 1, 2, 3, 4] rfl ?_
  exact vW_1686 hl hc hs k hk x4 M1 M2 w h
set_option maxHeartbeats 4000000 in
set_option maxRecDepth 100000 in
theorem vW_1300 {l : Launch} {D : va_G} {T : Nat → ClassId} {b0 L : Nat} {xs : Nat → Int32} {b1 b2 ao c0 s0 : Nat} (hl : l.stackTraces = false) (hc : c0 + 3 ≤ 601024) (hs : s0 + 18 ≤ 7293033) (k : Int32 → zM → zM → (Nat → Int64) → Option Int32) (hk : ∀ (z4 : Int32) (N1 N2 : zM) (w : Nat → Int64), k z4 N1 N2 w = some 1 → zL l D T b0 L xs b1 b2 ao (c0 + 3) (s0 + 18) 23 [(0, .ref b0), (1, .ref (b1 + 1)), (2, .ref (b2 + 1)), (3, .ref ao), (4, .int z4)] [] N1 N2 w) (x4 : Int32) (M1 M2 : zM) (w : Nat → Int64) (h : fW_1300 xs L k x4 M1 M2 w = some 1) : zL l D T b0 L xs b1 b2 ao (c0 + 3) (s0 + 18) 1300 [(0, .ref b0), (1, .ref (b1 + 1)), (2, .ref (b2 + 1)), (3, .ref ao), (4, .int x4)] [] M1 M2 w := by
  unfold fW_1300 at h
  refine zL_goto (tgt := 1686) dL_law_1300 (by decide) ?_
  refine zL_pk [0, 1, 2, 3, 4] rfl ?_
  exact vW_1686 hl hc hs k hk x4 M1 M2 w h
set_option maxHeartbeats 4000000 in
set_option maxRecDepth 100000 in
theorem vW_1244 {l : Launch} {D : va_G} {T : Nat → ClassId} {b0 L : Nat} {xs : Nat → Int32} {b1 b2 ao c0 s0 : Nat} (hl : l.stackTraces = false) (hc : c0 + 3 ≤ 601024) (hs : s0 + 18 ≤ 7293033) (k : Int32 → zM → zM → (Nat → Int64) → Option Int32) (hk : ∀ (z4 : Int32) (N1 N2 : zM) (w : Nat → Int64), k z4 N1 N2 w = some 1 → zL l D T b0 L xs b1 b2 ao (c0 + 3) (s0 + 18) 23 [(0, .ref b0), (1, .ref (b1 + 1)), (2, .ref (b2 + 1)), (3, .ref ao), (4, .int z4)] [] N1 N2 w) (x4 : Int32) (M1 M2 : zM) (w : Nat → Int64) (h : fW_1244 xs L k x4 M1 M2 w = some 1) : zL l D T b0 L xs b1 b2 ao (c0 + 3) (s0 + 18) 1244 [(0, .ref b0), (1, .ref (b1 + 1)), (2, .ref (b2 + 1)), (3, .ref ao), (4, .int x4)] [] M1 M2 w := by
  unfold fW_1244 at h
  refine zL_goto (tgt := 1686) dL_law_1244 (by decide) ?_
  refine zL_pk [0, 1, 2, 3, 4] rfl ?_
  exact vW_1686 hl hc hs k hk x4 M1 M2 w h
set_option maxHeartbeats 4000000 in
set_option maxRecDepth 100000 in
theorem vW_1188 {l : Launch} {D : va_G} {T : Nat → ClassId} {b0 L : Nat} {xs : Nat → Int32} {b1 b2 ao c0 s0 : Nat} (hl : l.stackTraces = false) (hc : c0 + 3 ≤ 601024) (hs : s0 + 18 ≤ 7293033) (k : Int32 → zM → zM → (Nat → Int64) → Option Int32) (hk : ∀ (z4 : Int32) (N1 N2 : zM) (w : Nat → Int64), k z4 N1 N2 w = some 1 → zL l D T b0 L xs b1 b2 ao (c0 + 3) (s0 + 18) 23 [(0, .ref b0), (1, .ref (b1 + 1)), (2, .ref (b2 + 1)), (3, .ref ao), (4, .int z4)] [] N1 N2 w) (x4 : Int32) (M1 M2 : zM) (w : Nat → Int64) (h : fW_1188 xs L k x4 M1 M2 w = some 1) : zL l D T b0 L xs b1 b2 ao (c0 + 3) (s0 + 18) 1188 [(0, .ref b0), (1, .ref (b1 + 1)), (2, .ref (b2 + 1)), (3, .ref ao), (4, .int x4)] [] M1 M2 w := by
  unfold fW_1188 at h
  refine zL_goto (tgt := 1686) dL_law_1188 (by decide) ?_
  refine zL_pk [0, 1, 2, 3, 4] rfl ?_
  exact vW_1686 hl hc hs k hk x4 M1 M2 w h
set_option maxHeartbeats 4000000 in
set_option maxRecDepth 100000 in
theorem vW_1132 {l : Launch} {D : va_G} {T : Nat → ClassId} {b0 L : Nat} {xs : Nat → Int32} {b1 b2 ao c0 s0 : Nat} (hl : l.stackTraces = false) (hc : c0 + 3 ≤ 601024) (hs : s0 + 18 ≤ 7293033) (k : Int32 → zM → zM → (Nat → Int64) → Option Int32) (hk : ∀ (z4 : Int32) (N1 N2 : zM) (w : Nat → Int64), k z4 N1 N2 w = some 1 → zL l D T b0 L xs b1 b2 ao (c0 + 3) (s0 + 18) 23 [(0, .ref b0), (1, .ref (b1 + 1)), (2, .ref (b2 + 1)), (3, .ref ao), (4, .int z4)] [] N1 N2 w) (x4 : Int32) (M1 M2 : zM) (w : Nat → Int64) (h : fW_1132 xs L k x4 M1 M2 w = some 1) : zL l D T b0 L xs b1 b2 ao (c0 + 3) (s0 + 18) 1132 [(0, .ref b0), (1, .ref (b1 + 1)), (2, .ref (b2 + 1)), (3, .ref ao), (4, .int x4)] [] M1 M2 w := by
  unfold fW_1132 at h
  refine zL_goto (tgt := 1686) dL_law_1132 (by decide) ?_
  refine zL_pk [0, 1, 2, 3, 4] rfl ?_
  exact vW_1686 hl hc hs k hk x4 M1 M2 w h
set_option maxHeartbeats 4000000 in
set_option maxRecDepth 100000 in
theorem vW_1063 {l : Launch} {D : va_G} {T : Nat → ClassId} {b0 L : Nat} {xs : Nat → Int32} {b1 b2 ao c0 s0 : Nat} (hl : l.stackTraces = false) (hc : c0 + 3 ≤ 601024) (hs : s0 + 18 ≤ 7293033) (k : Int32 → zM → zM → (Nat → Int64) → Option Int32) (hk : ∀ (z4 : Int32) (N1 N2 : zM) (w : Nat → Int64), k z4 N1 N2 w = some 1 → zL l D T b0 L xs b1 b2 ao (c0 + 3) (s0 + 18) 23 [(0, .ref b0), (1, .ref (b1 + 1)), (2, .ref (b2 + 1)), (3, .ref ao), (4, .int z4)] [] N1 N2 w) (x4 : Int32) (M1 M2 : zM) (w : Nat → Int64) (h : fW_1063 xs L k x4 M1 M2 w = some 1) : zL l D T b0 L xs b1 b2 ao (c0 + 3) (s0 + 18) 1063 [(0, .ref b0), (1, .ref (b1 + 1)), (2, .ref (b2 + 1)), (3, .ref ao), (4, .int x4)] [] M1 M2 w := by
  unfold fW_1063 at h
  refine zL_goto (tgt := 1686) dL_law_1063 (by decide) ?_
  refine zL_pk [0, 1, 2, 3, 4] rfl ?_
  exact vW_1686 hl hc hs k hk x4 M1 M2 w h
set_option maxHeartbeats 4000000 in
set_option maxRecDepth 100000 in
theorem vW_1007 {l : Launch} {D : va_G} {T : Nat → ClassId} {b0 L : Nat} {xs : Nat → Int32} {b1 b2 ao c0 s0 : Nat} (hl : l.stackTraces = false) (hc : c0 + 3 ≤ 601024) (hs : s0 + 18 ≤ 7293033) (k : Int32 → zM → zM → (Nat → Int64) → Option Int32) (hk : ∀ (z4 : Int32) (N1 N2 : zM) (w : Nat → Int64), k z4 N1 N2 w = some 1 → zL l D T b0 L xs b1 b2 ao (c0 + 3) (s0 + 18) 23 [(0, .ref b0), (1, .ref (b1 + 1)), (2, .ref (b2 + 1)), (3, .ref ao), (4, .int z4)] [] N1 N2 w) (x4 : Int32) (M1 M2 : zM) (w : Nat → Int64) (h : fW_1007 xs L k x4 M1 M2 w = some 1) : zL l D T b0 L xs b1 b2 ao (c0 + 3) (s0 + 18) 1007 [(0, .ref b0), (1, .ref (b1 + 1)), (2, .ref (b2 + 1)), (3, .ref ao), (4, .int x4)] [] M1 M2 w := by
  unfold fW_1007 at h
  refine zL_goto (tgt := 1686) dL_law_1007 (by decide) ?_
  refine zL_pk [0, 1, 2, 3, 4] rfl ?_
  exact vW_1686 hl hc hs k hk x4 M1 M2 w h
set_option maxHeartbeats 4000000 in
set_option maxRecDepth 100000 in
theorem vW_951 {l : Launch} {D : va_G} {T : Nat → ClassId} {b0 L : Nat} {xs : Nat → Int32} {b1 b2 ao c0 s0 : Nat} (hl : l.stackTraces = false) (hc : c0 + 3 ≤ 601024) (hs : s0 + 18 ≤ 7293033) (k : Int32 → zM → zM → (Nat → Int64) → Option Int32) (hk : ∀ (z4 : Int32) (N1 N2 : zM) (w : Nat → Int64), k z4 N1 N2 w = some 1 → zL l D T b0 L xs b1 b2 ao (c0 + 3) (s0 + 18) 23 [(0, .ref b0), (1, .ref (b1 + 1)), (2, .ref (b2 + 1)), (3, .ref ao), (4, .int z4)] [] N1 N2 w) (x4 : Int32) (M1 M2 : zM) (w : Nat → Int64) (h : fW_951 xs L k x4 M1 M2 w = some 1) : zL l D T b0 L xs b1 b2 ao (c0 + 3) (s0 + 18) 951 [(0, .ref b0), (1, .ref (b1 + 1)), (2, .ref (b2 + 1)), (3, .ref ao), (4, .int x4)] [] M1 M2 w := by
  unfold fW_951 at h
  refine zL_goto (tgt := 1686) dL_law_951 (by decide) ?_
  refine zL_pk [0, 1, 2, 3, 4] rfl ?_
  exact vW_1686 hl hc hs k hk x4 M1 M2 w h
set_option maxHeartbeats 4000000 in
set_option maxRecDepth 100000 in
theorem vW_869 {l : Launch} {D : va_G} {T : Nat → ClassId} {b0 L : Nat} {xs : Nat → Int32} {b1 b2 ao c0 s0 : Nat} (hl : l.stackTraces = false) (hc : c0 + 3 ≤ 601024) (hs : s0 + 18 ≤ 7293033) (k : Int32 → zM → zM → (Nat → Int64) → Option Int32) (hk : ∀ (z4 : Int32) (N1 N2 : zM) (w : Nat → Int64), k z4 N1 N2 w = some 1 → zL l D T b0 L xs b1 b2 ao (c0 + 3) (s0 + 18) 23 [(0, .ref b0), (1, .ref (b1 + 1)), (2, .ref (b2 + 1)), (3, .ref ao), (4, .int z4)] [] N1 N2 w) (x4 : Int32) (M1 M2 : zM) (w : Nat → Int64) (h : fW_869 xs L k x4 M1 M2 w = some 1) : zL l D T b0 L xs b1 b2 ao (c0 + 3) (s0 + 18) 869 [(0, .ref b0), (1, .ref (b1 + 1)), (2, .ref (b2 + 1)), (3, .ref ao), (4, .int x4)] [] M1 M2 w := by
  unfold fW_869 at h
  refine zL_goto (tgt := 1686) dL_law_869 (by decide) ?_
  refine zL_pk [0, 1, 2, 3, 4] rfl ?_
  exact vW_1686 hl hc hs k hk x4 M1 M2 w h
set_option maxHeartbeats 4000000 in
set_option maxRecDepth 100000 in
theorem vW_825 {l : Launch} {D : va_G} {T : Nat → ClassId} {b0 L : Nat} {xs : Nat → Int32} {b1 b2 ao c0 s0 : Nat} (hl : l.stackTraces = false) (hc : c0 + 3 ≤ 601024) (hs : s0 + 18 ≤ 7293033) (k : Int32 → zM → zM → (Nat → Int64) → Option Int32) (hk : ∀ (z4 : Int32) (N1 N2 : zM) (w : Nat → Int64), k z4 N1 N2 w = some 1 → zL l D T b0 L xs b1 b2 ao (c0 + 3) (s0 + 18) 23 [(0, .ref b0), (1, .ref (b1 + 1)), (2, .ref (b2 + 1)), (3, .ref ao), (4, .int z4)] [] N1 N2 w) (x4 : Int32) (M1 M2 : zM) (w : Nat → Int64) (h : fW_825 xs L k x4 M1 M2 w = some 1) : zL l D T b0 L xs b1 b2 ao (c0 + 3) (s0 + 18) 825 [(0, .ref b0), (1, .ref (b1 + 1)), (2, .ref (b2 + 1)), (3, .ref ao), (4, .int x4)] [] M1 M2 w := by
  unfold fW_825 at h
  refine zL_goto (tgt := 1686) dL_law_825 (by decide) ?_
  refine zL_pk [0, 1, 2, 3, 4] rfl ?_
  exact vW_1686 hl hc hs k hk x4 M1 M2 w h
set_option maxHeartbeats 4000000 in
set_option maxRecDepth 100000 in
theorem vW_769 {l : Launch} {D : va_G} {T : Nat → ClassId} {b0 L : Nat} {xs : Nat → Int32} {b1 b2 ao c0 s0 : Nat} (hl : l.stackTraces = false) (hc : c0 + 3 ≤ 601024) (hs : s0 + 18 ≤ 7293033) (k : Int32 → zM → zM → (Nat → Int64) → Option Int32) (hk : ∀ (z4 : Int32) (N1 N2 : zM) (w : Nat → Int64), k z4 N1 N2 w = some 1 → zL l D T b0 L xs b1 b2 ao (c0 + 3) (s0 + 18) 23 [(0, .ref b0), (1, .ref (b1 + 1)), (2, .ref (b2 + 1)), (3, .ref ao), (4, .int z4)] [] N1 N2 w) (x4 : Int32) (M1 M2 : zM) (w : Nat → Int64) (h : fW_769 xs L k x4 M1 M2 w = some 1) : zL l D T b0 L xs b1 b2 ao (c0 + 3) (s0 + 18) 769 [(0, .ref b0), (1, .ref (b1 + 1)), (2, .ref (b2 + 1)), (3, .ref ao), (4, .int x4)] [] M1 M2 w := by
  unfold fW_769 at h
  refine zL_goto (tgt := 1686) dL_law_769 (by decide) ?_
  refine zL_pk [0, 1, 2, 3, 4] rfl ?_
  exact vW_1686 hl hc hs k hk x4 M1 M2 w h
set_option maxHeartbeats 4000000 in
set_option maxRecDepth 100000 in
theorem vW_689 {l : Launch} {D : va_G} {T : Nat → ClassId} {b0 L : Nat} {xs : Nat → Int32} {b1 b2 ao c0 s0 : Nat} (hl : l.stackTraces = false) (hc : c0 + 3 ≤ 601024) (hs : s0 + 18 ≤ 7293033) (k : Int32 → zM → zM → (Nat → Int64) → Option Int32) (hk : ∀ (z4 : Int32) (N1 N2 : zM) (w : Nat → Int64), k z4 N1 N2 w = some 1 → zL l D T b0 L xs b1 b2 ao (c0 + 3) (s0 + 18) 23 [(0, .ref b0), (1, .ref (b1 + 1)), (2, .ref (b2 + 1)), (3, .ref ao), (4, .int z4)] [] N1 N2 w) (x4 : Int32) (M1 M2 : zM) (w : Nat → Int64) (h : fW_689 xs L k x4 M1 M2 w = some 1) : zL l D T b0 L xs b1 b2 ao (c0 + 3) (s0 + 18) 689 [(0, .ref b0), (1, .ref (b1 + 1)), (2, .ref (b2 + 1)), (3, .ref ao), (4, .int x4)] [] M1 M2 w := by
  unfold fW_689 at h
  refine zL_goto (tgt := 1686) dL_law_689 (by decide) ?_
  refine zL_pk [0, 1, 2, 3, 4] rfl ?_
  exact vW_1686 hl hc hs k hk x4 M1 M2 w h
set_option maxHeartbeats 4000000 in
set_option maxRecDepth 100000 in
theorem vW_621 {l : Launch} {D : va_G} {T : Nat → ClassId} {b0 L : Nat} {xs : Nat → Int32} {b1 b2 ao c0 s0 : Nat} (hl : l.stackTraces = false) (hc : c0 + 3 ≤ 601024) (hs : s0 + 18 ≤ 7293033) (k : Int32 → zM → zM → (Nat → Int64) → Option Int32) (hk : ∀ (z4 : Int32) (N1 N2 : zM) (w : Nat → Int64), k z4 N1 N2 w = some 1 → zL l D T b0 L xs b1 b2 ao (c0 + 3) (s0 + 18) 23 [(0, .ref b0), (1, .ref (b1 + 1)), (2, .ref (b2 + 1)), (3, .ref ao), (4, .int z4)] [] N1 N2 w) (x4 : Int32) (M1 M2 : zM) (w : Nat → Int64) (h : fW_621 xs L k x4 M1 M2 w = some 1) : zL l D T b0 L xs b1 b2 ao (c0 + 3) (s0 + 18) 621 [(0, .ref b0), (1, .ref (b1 + 1)), (2, .ref (b2 + 1)), (3, .ref ao), (4, .int x4)] [] M1 M2 w := by
  unfold fW_621 at h
  refine zL_goto (tgt := 1686) dL_law_621 (by decide) ?_
  refine zL_pk [0, 1, 2, 3, 4] rfl ?_
  exact vW_1686 hl hc hs k hk x4 M1 M2 w h
set_option maxHeartbeats 4000000 in
set_option maxRecDepth 100000 in
theorem vW_565 {l : Launch} {D : va_G} {T : Nat → ClassId} {b0 L : Nat} {xs : Nat → Int32} {b1 b2 ao c0 s0 : Nat} (hl : l.stackTraces = false) (hc : c0 + 3 ≤ 601024) (hs : s0 + 18 ≤ 7293033) (k : Int32 → zM → zM → (Nat → Int64) → Option Int32) (hk : ∀ (z4 : Int32) (N1 N2 : zM) (w : Nat → Int64), k z4 N1 N2 w = some 1 → zL l D T b0 L xs b1 b2 ao (c0 + 3) (s0 + 18) 23 [(0, .ref b0), (1, .ref (b1 + 1)), (2, .ref (b2 + 1)), (3, .ref ao), (4, .int z4)] [] N1 N2 w) (x4 : Int32) (M1 M2 : zM) (w : Nat → Int64) (h : fW_565 xs L k x4 M1 M2 w = some 1) : zL l D T b0 L xs b1 b2 ao (c0 + 3) (s0 + 18) 565 [(0, .ref b0), (1, .ref (b1 + 1)), (2, .ref (b2 + 1)), (3, .ref ao), (4, .int x4)] [] M1 M2 w := by
  unfold fW_565 at h
  refine zL_goto (tgt := 1686) dL_law_565 (by decide) ?_
  refine zL_pk [0, 1, 2, 3, 4] rfl ?_
  exact vW_1686 hl hc hs k hk x4 M1 M2 w h
set_option maxHeartbeats 4000000 in
set_option maxRecDepth 100000 in
theorem vW_471 {l : Launch} {D : va_G} {T : Nat → ClassId} {b0 L : Nat} {xs : Nat → Int32} {b1 b2 ao c0 s0 : Nat} (hl : l.stackTraces = false) (hc : c0 + 3 ≤ 601024) (hs : s0 + 18 ≤ 7293033) (k : Int32 → zM → zM → (Nat → Int64) → Option Int32) (hk : ∀ (z4 : Int32) (N1 N2 : zM) (w : Nat → Int64), k z4 N1 N2 w = some 1 → zL l D T b0 L xs b1 b2 ao (c0 + 3) (s0 + 18) 23 [(0, .ref b0), (1, .ref (b1 + 1)), (2, .ref (b2 + 1)), (3, .ref ao), (4, .int z4)] [] N1 N2 w) (x4 : Int32) (x5 : Int32) (s1 : Int32) (s2 : Int32) (s3 : Int32) (M1 M2 : zM) (w : Nat → Int64) (h : fW_471 xs L k x4 x5 s1 s2 s3 M1 M2 w = some 1) : zL l D T b0 L xs b1 b2 ao (c0 + 3) (s0 + 18) 471 [(0, .ref b0), (1, .ref (b1 + 1)), (2, .ref (b2 + 1)), (3, .ref ao), (4, .int x4), (5, .int x5)] [.int s3, .int s2, .int s1, .ref (b2 + 1)] M1 M2 w := by
  unfold fW_471 at h
  obtain ⟨g3, h⟩ := zg_of h
  obtain ⟨r4, M5, e6, h⟩ := zb_of h
  refine zL_callM2v (As := [.int s1, .int s2, .int s3]) (rest := []) (vX8_omit l D T b2 false 1 s1 s2 s3 M2 _ _ e6) zm_yX8_omit zl_RL_117 zi_yX8_omit ze_yX8_omit zcI8 g3 rfl rfl (zcs trivial (Nat.le_of_ble_eq_true rfl)) (by decide) (by omega) (by omega) dL_law_471 ?_
  refine zL_aload_n (j := 2) dL_law_474 rfl rfl ?_
  obtain ⟨g7, h⟩ := zg_of h
  obtain ⟨r8, M9, e10, h⟩ := zb_of h
  refine zL_callM2i (As := []) (rest := []) (vX8_thrown l D T b2 false 1 M5 _ _ e10) zm_yX8_thrown zl_RL_103 zi_yX8_thrown ze_yX8_thrown zcI8 g7 rfl rfl (zcs trivial (Nat.le_of_ble_eq_true rfl)) (by decide) (by omega) (by omega) dL_law_475 ?_
  refine zL_iload (j := 5) dL_law_478 rfl ?_
  refine zL_icmp_eq (tgt := 485) dL_law_480 (by decide) (fun c11 => ?_) (fun c11 => ?_)
  · replace h := z_t c11 h
    refine zL_goto (tgt := 1686) dL_law_485 (by decide) ?_
    refine zL_pk [0, 1, 2, 3, 4] rfl ?_
    exact vW_1686 hl hc hs k hk x4 M1 M9 w h
  · replace h := z_f c11 h
    refine zL_iconst (v := 0) dL_law_483 (by decide) ?_
    exact absurd h (by decide)
set_option maxHeartbeats 4000000 in
set_option maxRecDepth 100000 in
theorem vW_457 {l : Launch} {D : va_G} {T : Nat → ClassId} {b0 L : Nat} {xs : Nat → Int32} {b1 b2 ao c0 s0 : Nat} (hl : l.stackTraces = false) (hc : c0 + 3 ≤ 601024) (hs : s0 + 18 ≤ 7293033) (k : Int32 → zM → zM → (Nat → Int64) → Option Int32) (hk : ∀ (z4 : Int32) (N1 N2 : zM) (w : Nat → Int64), k z4 N1 N2 w = some 1 → zL l D T b0 L xs b1 b2 ao (c0 + 3) (s0 + 18) 23 [(0, .ref b0), (1, .ref (b1 + 1)), (2, .ref (b2 + 1)), (3, .ref ao), (4, .int z4)] [] N1 N2 w) (x4 : Int32) (x5 : Int32) (s1 : Int32) (s2 : Int32) (M1 M2 : zM) (w : Nat → Int64) (h : fW_457 xs L k x4 x5 s1 s2 M1 M2 w = some 1) : zL l D T b0 L xs b1 b2 ao (c0 + 3) (s0 + 18) 457 [(0, .ref b0), (1, .ref (b1 + 1)), (2, .ref (b2 + 1)), (3, .ref ao), (4, .int x4), (5, .int x5)] [.int s2, .int s1, .ref (b2 + 1)] M1 M2 w := by
  unfold fW_457 at h
  refine zL_aload_n (j := 0) dL_law_457 rfl rfl ?_
  refine zL_iload (j := 4) dL_law_458 rfl ?_
  refine zL_iconst (v := 3) dL_law_460 (by decide) ?_
  refine zL_iadd dL_law_461 ?_
  obtain ⟨g12, h⟩ := zg_of h
  refine zL_iald dL_law_462 g12 ?_
  refine zL_if_eq (tgt := 470) dL_law_463 (by decide) (fun c13 => ?_) (fun c13 => ?_)
  · replace h := z_t c13 h
    refine zL_iconst (v := 0) dL_law_470 (by decide) ?_
    refine zL_pk [0, 1, 2, 3, 4, 5] rfl ?_
    exact vW_471 hl hc hs k hk x4 x5 s1 s2 0 M1 M2 w h
  · replace h := z_f c13 h
    refine zL_iconst (v := 1) dL_law_466 (by decide) ?_
    refine zL_goto (tgt := 471) dL_law_467 (by decide) ?_
    refine zL_pk [0, 1, 2, 3, 4, 5] rfl ?_
    exact vW_471 hl hc hs k hk x4 x5 s1 s2 1 M1 M2 w h
set_option maxHeartbeats 4000000 in
set_option maxRecDepth 100000 in
theorem vW_431 {l : Launch} {D : va_G} {T : Nat → ClassId} {b0 L : Nat} {xs : Nat → Int32} {b1 b2 ao c0 s0 : Nat} (hl : l.stackTraces = false) (hc : c0 + 3 ≤ 601024) (hs : s0 + 18 ≤ 7293033) (k : Int32 → zM → zM → (Nat → Int64) → Option Int32) (hk : ∀ (z4 : Int32) (N1 N2 : zM) (w : Nat → Int64), k z4 N1 N2 w = some 1 → zL l D T b0 L xs b1 b2 ao (c0 + 3) (s0 + 18) 23 [(0, .ref b0), (1, .ref (b1 + 1)), (2, .ref (b2 + 1)), (3, .ref ao), (4, .int z4)] [] N1 N2 w) (x4 : Int32) (s1 : Int32) (s2 : Int32) (s3 : Int32) (M1 M2 : zM) (w : Nat → Int64) (h : fW_431 xs L k x4 s1 s2 s3 M1 M2 w = some 1) : zL l D T b0 L xs b1 b2 ao c0 s0 431 [(0, .ref b0), (1, .ref (b1 + 1)), (2, .ref (b2 + 1)), (3, .ref ao), (4, .int x4)] [.int s3, .int s2, .int s1, .ref (b1 + 1)] M1 M2 w := by
  unfold fW_431 at h
  obtain ⟨r17, M15, w16, e18, h⟩ := zbh_of h
  refine zL_callH (n := 4) (As := [zr b1 1, .int s1, .int s2, .int s3]) (rest := []) (fun hao => vL_omit l hl D T b1 ao 1 s1 s2 s3 M1 w r17 M15 w16 hao e18) zg_yL_omit rfl ⟨by decide +kernel, by decide +kernel, by decide +kernel⟩ zl_RL_114 zs_yL_omit zK_RL rfl rfl (zcs trivial (Nat.le_of_ble_eq_true rfl)) ⟨by decide, by decide⟩ (by omega) (by omega) dL_law_431 ?_
  refine zL_wd (c0 + 3) (s0 + 18) (by omega) (by omega) ?_
  refine zL_istore [(5, .int r17), (0, .ref b0), (1, .ref (b1 + 1)), (2, .ref (b2 + 1)), (3, .ref ao), (4, .int x4)] dL_law_434 (by decide) rfl ?_
  refine zL_aload_n (j := 3) dL_law_436 rfl rfl ?_
  refine zL_aload_n (j := 1) dL_law_437 rfl rfl ?_
  refine zL_iload (j := 5) dL_law_438 rfl ?_
  refine zL_iconst (v := 1) dL_law_440 (by decide) ?_
  refine zL_iadd dL_law_441 ?_
  obtain ⟨g19, h⟩ := zg_of h
  refine zL_iald dL_law_442 g19 ?_
  refine zL_aload_n (j := 1) dL_law_443 rfl rfl ?_
  refine zL_iload (j := 5) dL_law_444 rfl ?_
  refine zL_iconst (v := 2) dL_law_446 (by decide) ?_
  refine zL_iadd dL_law_447 ?_
  obtain ⟨g20, h⟩ := zg_of h
  refine zL_iald dL_law_448 g20 ?_
  refine zL_if_eq (tgt := 456) dL_law_449 (by decide) (fun c21 => ?_) (fun c21 => ?_)
  · replace h := z_t c21 h
    refine zL_iconst (v := 0) dL_law_456 (by decide) ?_
    refine zL_pk [1, 2, 3, 4, 5, 0] rfl ?_
    exact vW_457 hl hc hs k hk x4 r17 (xs (x4 + 1).toNatClampNeg) 0 M15 M2 w16 h
  · replace h := z_f c21 h
    refine zL_iconst (v := 1) dL_law_452 (by decide) ?_
    refine zL_goto (tgt := 457) dL_law_453 (by decide) ?_
    refine zL_pk [1, 2, 3, 4, 5, 0] rfl ?_
    exact vW_457 hl hc hs k hk x4 r17 (xs (x4 + 1).toNatClampNeg) 1 M15 M2 w16 h
set_option maxHeartbeats 4000000 in
set_option maxRecDepth 100000 in
theorem vW_417 {l : Launch} {D : va_G} {T : Nat → ClassId} {b0 L : Nat} {xs : Nat → Int32} {b1 b2 ao c0 s0 : Nat} (hl : l.stackTraces = false) (hc : c0 + 3 ≤ 601024) (hs : s0 + 18 ≤ 7293033) (k : Int32 → zM → zM → (Nat → Int64) → Option Int32) (hk : ∀ (z4 : Int32) (N1 N2 : zM) (w : Nat → Int64), k z4 N1 N2 w = some 1 → zL l D T b0 L xs b1 b2 ao (c0 + 3) (s0 + 18) 23 [(0, .ref b0), (1, .ref (b1 + 1)), (2, .ref (b2 + 1)), (3, .ref ao), (4, .int z4)] [] N1 N2 w) (x4 : Int32) (s1 : Int32) (s2 : Int32) (M1 M2 : zM) (w : Nat → Int64) (h : fW_417 xs L k x4 s1 s2 M1 M2 w = some 1) : zL l D T b0 L xs b1 b2 ao c0 s0 417 [(0, .ref b0), (1, .ref (b1 + 1)), (2, .ref (b2 + 1)), (3, .ref ao), (4, .int x4)] [.int s2, .int s1, .ref (b1 + 1)] M1 M2 w := by
  unfold fW_417 at h
  refine zL_aload_n (j := 0) dL_law_417 rfl rfl ?_
  refine zL_iload (j := 4) dL_law_418 rfl ?_
  refine zL_iconst (v := 3) dL_law_420 (by decide) ?_
  refine zL_iadd dL_law_421 ?_
  obtain ⟨g22, h⟩ := zg_of h
  refine zL_iald dL_law_422 g22 ?_
  refine zL_if_eq (tgt := 430) dL_law_423 (by decide) (fun c23 => ?_) (fun c23 => ?_)
  · replace h := z_t c23 h
    refine zL_iconst (v := 0) dL_law_430 (by decide) ?_
    refine zL_pk [0, 1, 2, 3, 4] rfl ?_
    exact vW_431 hl hc hs k hk x4 s1 s2 0 M1 M2 w h
  · replace h := z_f c23 h
    refine zL_iconst (v := 1) dL_law_426 (by decide) ?_
    refine zL_goto (tgt := 431) dL_law_427 (by decide) ?_
    refine zL_pk [0, 1, 2, 3, 4] rfl ?_
    exact vW_431 hl hc hs k hk x4 s1 s2 1 M1 M2 w h
set_option maxHeartbeats 4000000 in
set_option maxRecDepth 100000 in
theorem vW_333 {l : Launch} {D : va_G} {T : Nat → ClassId} {b0 L : Nat} {xs : Nat → Int32} {b1 b2 ao c0 s0 : Nat} (hl : l.stackTraces = false) (hc : c0 + 3 ≤ 601024) (hs : s0 + 18 ≤ 7293033) (k : Int32 → zM → zM → (Nat → Int64) → Option Int32) (hk : ∀ (z4 : Int32) (N1 N2 : zM) (w : Nat → Int64), k z4 N1 N2 w = some 1 → zL l D T b0 L xs b1 b2 ao (c0 + 3) (s0 + 18) 23 [(0, .ref b0), (1, .ref (b1 + 1)), (2, .ref (b2 + 1)), (3, .ref ao), (4, .int z4)] [] N1 N2 w) (x4 : Int32) (M1 M2 : zM) (w : Nat → Int64) (h : fW_333 xs L k x4 M1 M2 w = some 1) : zL l D T b0 L xs b1 b2 ao (c0 + 3) (s0 + 18) 333 [(0, .ref b0), (1, .ref (b1 + 1)), (2, .ref (b2 + 1)), (3, .ref ao), (4, .int x4)] [] M1 M2 w := by
  unfold fW_333 at h
  refine zL_goto (tgt := 1686) dL_law_333 (by decide) ?_
  refine zL_pk [0, 1, 2, 3, 4] rfl ?_
  exact vW_1686 hl hc hs k hk x4 M1 M2 w h
set_option maxHeartbeats 4000000 in
set_option maxRecDepth 100000 in
theorem vW_277 {l : Launch} {D : va_G} {T : Nat → ClassId} {b0 L : Nat} {xs : Nat → Int32} {b1 b2 ao c0 s0 : Nat} (hl : l.stackTraces = false) (hc : c0 + 3 ≤ 601024) (hs : s0 + 18 ≤ 7293033) (k : Int32 → zM → zM → (Nat → Int64) → Option Int32) (hk : ∀ (z4 : Int32) (N1 N2 : zM) (w : Nat → Int64), k z4 N1 N2 w = some 1 → zL l D T b0 L xs b1 b2 ao (c0 + 3) (s0 + 18) 23 [(0, .ref b0), (1, .ref (b1 + 1)), (2, .ref (b2 + 1)), (3, .ref ao), (4, .int z4)] [] N1 N2 w) (x4 : Int32) (M1 M2 : zM) (w : Nat → Int64) (h : fW_277 xs L k x4 M1 M2 w = some 1) : zL l D T b0 L xs b1 b2 ao (c0 + 3) (s0 + 18) 277 [(0, .ref b0), (1, .ref (b1 + 1)), (2, .ref (b2 + 1)), (3, .ref ao), (4, .int x4)] [] M1 M2 w := by
  unfold fW_277 at h
  refine zL_goto (tgt := 1686) dL_law_277 (by decide) ?_
  refine zL_pk [0, 1, 2, 3, 4] rfl ?_
  exact vW_1686 hl hc hs k hk x4 M1 M2 w h
set_option maxHeartbeats 4000000 in
set_option maxRecDepth 100000 in
theorem vW_238 {l : Launch} {D : va_G} {T : Nat → ClassId} {b0 L : Nat} {xs : Nat → Int32} {b1 b2 ao c0 s0 : Nat} (hl : l.stackTraces = false) (hc : c0 + 3 ≤ 601024) (hs : s0 + 18 ≤ 7293033) (k : Int32 → zM → zM → (Nat → Int64) → Option Int32) (hk : ∀ (z4 : Int32) (N1 N2 : zM) (w : Nat → Int64), k z4 N1 N2 w = some 1 → zL l D T b0 L xs b1 b2 ao (c0 + 3) (s0 + 18) 23 [(0, .ref b0), (1, .ref (b1 + 1)), (2, .ref (b2 + 1)), (3, .ref ao), (4, .int z4)] [] N1 N2 w) (x4 : Int32) (x5 : Int32) (s1 : Int32) (s2 : Int32) (s3 : Int32) (M1 M2 : zM) (w : Nat → Int64) (h : fW_238 xs L k x4 x5 s1 s2 s3 M1 M2 w = some 1) : zL l D T b0 L xs b1 b2 ao (c0 + 3) (s0 + 18) 238 [(0, .ref b0), (1, .ref (b1 + 1)), (2, .ref (b2 + 1)), (3, .ref ao), (4, .int x4), (5, .int x5)] [.int s3, .int s2, .int s1, .ref (b2 + 1)] M1 M2 w := by
  unfold fW_238 at h
  refine zL_aload_n (j := 0) dL_law_238 rfl rfl ?_
  refine zL_iload (j := 4) dL_law_239 rfl ?_
  refine zL_iconst (v := 4) dL_law_241 (by decide) ?_
  refine zL_iadd dL_law_242 ?_
  obtain ⟨g24, h⟩ := zg_of h
  refine zL_iald dL_law_243 g24 ?_
  obtain ⟨g25, h⟩ := zg_of h
  obtain ⟨r26, M27, e28, h⟩ := zb_of h
  refine zL_callM2i (As := [.int s1, .int s2, .int s3, .int (xs (x4 + 4).toNatClampNeg)]) (rest := []) (vX8_slot l D T b2 false 1 s1 s2 s3 (xs (x4 + 4).toNatClampNeg) M2 _ _ e28) zm_yX8_slot zl_RL_102 zi_yX8_slot ze_yX8_slot zcI8 g25 rfl rfl (zcs trivial (Nat.le_of_ble_eq_true rfl)) (by decide) (by omega) (by omega) dL_law_244 ?_
  refine zL_istore [(6, .int r26), (0, .ref b0), (1, .ref (b1 + 1)), (2, .ref (b2 + 1)), (3, .ref ao), (4, .int x4), (5, .int x5)] dL_law_247 (by decide) rfl ?_
  refine zL_aload_n (j := 3) dL_law_249 rfl rfl ?_
  obtain ⟨g29, h⟩ := zg_of h
  obtain ⟨r30, M31, e32, h⟩ := zb_of h
  refine zL_callM2i (As := []) (rest := []) (vX8_thrown l D T b2 false 1 M27 _ _ e32) zm_yX8_thrown zl_RL_103 zi_yX8_thrown ze_yX8_thrown zcI8 g29 rfl rfl (zcs trivial (Nat.le_of_ble_eq_true rfl)) (by decide) (by omega) (by omega) dL_law_250 ?_
  refine zL_iload (j := 6) dL_law_253 rfl ?_
  refine zL_icmp_eq (tgt := 260) dL_law_255 (by decide) (fun c33 => ?_) (fun c33 => ?_)
  · replace h := z_t c33 h
    refine zL_iload (j := 6) dL_law_260 rfl ?_
    refine zL_if_ne (tgt := 277) dL_law_262 (by decide) (fun c34 => ?_) (fun c34 => ?_)
    · replace h := z_f c34 h
      refine zL_pk [1, 2, 3, 4, 5] rfl ?_
      exact vW_277 hl hc hs k hk x4 M1 M31 w h
    · replace h := z_t c34 h
      refine zL_aload_n (j := 4) dL_law_265 rfl rfl ?_
      refine zL_iconst (v := 0) dL_law_266 (by decide) ?_
      refine zL_lald dL_law_267 ?_
      refine zL_iload (j := 0) dL_law_268 rfl ?_
      refine zL_i2l dL_law_270 ?_
      refine zL_lcmp dL_law_271 ?_
      refine zL_if_eq (tgt := 277) dL_law_272 (by decide) (fun c35 => ?_) (fun c35 => ?_)
      · replace h := z_t c35 h
        refine zL_pk [1, 2, 3, 4, 5] rfl ?_
        exact vW_277 hl hc hs k hk x4 M1 M31 w h
      · replace h := z_f c35 h
        refine zL_iconst (v := 0) dL_law_275 (by decide) ?_
        exact absurd h (by decide)
  · replace h := z_f c33 h
    refine zL_iconst (v := 0) dL_law_258 (by decide) ?_
    exact absurd h (by decide)
set_option maxHeartbeats 4000000 in
set_option maxRecDepth 100000 in
theorem vW_199 {l : Launch} {D : va_G} {T : Nat → ClassId} {b0 L : Nat} {xs : Nat → Int32} {b1 b2 ao c0 s0 : Nat} (hl : l.stackTraces = false) (hc : c0 + 3 ≤ 601024) (hs : s0 + 18 ≤ 7293033) (k : Int32 → zM → zM → (Nat → Int64) → Option Int32) (hk : ∀ (z4 : Int32) (N1 N2 : zM) (w : Nat → Int64), k z4 N1 N2 w = some 1 → zL l D T b0 L xs b1 b2 ao (c0 + 3) (s0 + 18) 23 [(0, .ref b0), (1, .ref (b1 + 1)), (2, .ref (b2 + 1)), (3, .ref ao), (4, .int z4)] [] N1 N2 w) (x4 : Int32) (s1 : Int32) (s2 : Int32) (s3 : Int32) (M1 M2 : zM) (w : Nat → Int64) (h : fW_199 xs L k x4 s1 s2 s3 M1 M2 w = some 1) : zL l D T b0 L xs b1 b2 ao c0 s0 199 [(0, .ref b0), (1, .ref (b1 + 1)), (2, .ref (b2 + 1)), (3, .ref ao), (4, .int x4)] [.int s3, .int s2, .int s1, .ref (b1 + 1)] M1 M2 w := by
  unfold fW_199 at h
  refine zL_aload_n (j := 0) dL_law_199 rfl rfl ?_
  refine zL_iload (j := 4) dL_law_200 rfl ?_
  refine zL_iconst (v := 4) dL_law_202 (by decide) ?_
  refine zL_iadd dL_law_203 ?_
  obtain ⟨g36, h⟩ := zg_of h
  refine zL_iald dL_law_204 g36 ?_
  refine zL_aload_n (j := 3) dL_law_205 rfl rfl ?_
  obtain ⟨r40, M38, w39, e41, h⟩ := zbh_of h
  refine zL_callH (n := 6) (As := [zr b1 1, .int s1, .int s2, .int s3, .int (xs (x4 + 4).toNatClampNeg), .ref ao]) (rest := []) (fun hao => vL_slot l hl D T b1 ao 1 s1 s2 s3 (xs (x4 + 4).toNatClampNeg) M1 w r40 M38 w39 hao e41) zg_yL_slot rfl ⟨by decide +kernel, by decide +kernel, by decide +kernel⟩ zl_RL_97 zs_yL_slot zK_RL rfl rfl (zcs trivial (Nat.le_of_ble_eq_true rfl)) ⟨by decide, by decide⟩ (by omega) (by omega) dL_law_206 ?_
  refine zL_wd (c0 + 3) (s0 + 18) (by omega) (by omega) ?_
  refine zL_istore [(5, .int r40), (0, .ref b0), (1, .ref (b1 + 1)), (2, .ref (b2 + 1)), (3, .ref ao), (4, .int x4)] dL_law_209 (by decide) rfl ?_
  refine zL_aload_n (j := 3) dL_law_211 rfl rfl ?_
  refine zL_aload_n (j := 1) dL_law_212 rfl rfl ?_
  refine zL_iload (j := 5) dL_law_213 rfl ?_
  refine zL_iconst (v := 1) dL_law_215 (by decide) ?_
  refine zL_iadd dL_law_216 ?_
  obtain ⟨g42, h⟩ := zg_of h
  refine zL_iald dL_law_217 g42 ?_
  refine zL_aload_n (j := 1) dL_law_218 rfl rfl ?_
  refine zL_iload (j := 5) dL_law_219 rfl ?_
  refine zL_iconst (v := 2) dL_law_221 (by decide) ?_
  refine zL_iadd dL_law_222 ?_
  obtain ⟨g43, h⟩ := zg_of h
  refine zL_iald dL_law_223 g43 ?_
  refine zL_aload_n (j := 1) dL_law_224 rfl rfl ?_
  refine zL_iload (j := 5) dL_law_225 rfl ?_
  refine zL_iconst (v := 3) dL_law_227 (by decide) ?_
  refine zL_iadd dL_law_228 ?_
  obtain ⟨g44, h⟩ := zg_of h
  refine zL_iald dL_law_229 g44 ?_
  refine zL_if_eq (tgt := 237) dL_law_230 (by decide) (fun c45 => ?_) (fun c45 => ?_)
  · replace h := z_t c45 h
    refine zL_iconst (v := 0) dL_law_237 (by decide) ?_
    refine zL_pk [1, 2, 3, 4, 5, 0] rfl ?_
    exact vW_238 hl hc hs k hk x4 r40 (xs (x4 + 1).toNatClampNeg) (xs (x4 + 2).toNatClampNeg) 0 M38 M2 w39 h
  · replace h := z_f c45 h
    refine zL_iconst (v := 1) dL_law_233 (by decide) ?_
    refine zL_goto (tgt := 238) dL_law_234 (by decide) ?_
    refine zL_pk [1, 2, 3, 4, 5, 0] rfl ?_
    exact vW_238 hl hc hs k hk x4 r40 (xs (x4 + 1).toNatClampNeg) (xs (x4 + 2).toNatClampNeg) 1 M38 M2 w39 h
set_option maxHeartbeats 4000000 in
set_option maxRecDepth 100000 in
theorem vW_case0 {l : Launch} {D : va_G} {T : Nat → ClassId} {b0 L : Nat} {xs : Nat → Int32} {b1 b2 ao c0 s0 : Nat} (hl : l.stackTraces = false) (hc : c0 + 3 ≤ 601024) (hs : s0 + 18 ≤ 7293033) (k : Int32 → zM → zM → (Nat → Int64) → Option Int32) (hk : ∀ (z4 : Int32) (N1 N2 : zM) (w : Nat → Int64), k z4 N1 N2 w = some 1 → zL l D T b0 L xs b1 b2 ao (c0 + 3) (s0 + 18) 23 [(0, .ref b0), (1, .ref (b1 + 1)), (2, .ref (b2 + 1)), (3, .ref ao), (4, .int z4)] [] N1 N2 w) (x4 : Int32) (M1 M2 : zM) (w : Nat → Int64) (h : fW_case0 xs L k x4 M1 M2 w = some 1) : zL l D T b0 L xs b1 b2 ao c0 s0 172 [(0, .ref b0), (1, .ref (b1 + 1)), (2, .ref (b2 + 1)), (3, .ref ao), (4, .int x4)] [] M1 M2 w := by
  unfold fW_case0 at h
  refine zL_aload_n (j := 1) dL_law_172 rfl rfl ?_
  refine zL_aload_n (j := 0) dL_law_173 rfl rfl ?_
  refine zL_iload (j := 4) dL_law_174 rfl ?_
  refine zL_iconst (v := 1) dL_law_176 (by decide) ?_
  refine zL_iadd dL_law_177 ?_
  obtain ⟨g49, h⟩ := zg_of h
  refine zL_iald dL_law_178 g49 ?_
  refine zL_aload_n (j := 0) dL_law_179 rfl rfl ?_
  refine zL_iload (j := 4) dL_law_180 rfl ?_
  refine zL_iconst (v := 2) dL_law_182 (by decide) ?_
  refine zL_iadd dL_law_183 ?_
  obtain ⟨g50, h⟩ := zg_of h
  refine zL_iald dL_law_184 g50 ?_
  refine zL_aload_n (j := 0) dL_law_185 rfl rfl ?_
  refine zL_iload (j := 4) dL_law_186 rfl ?_
  refine zL_iconst (v := 3) dL_law_188 (by decide) ?_
  refine zL_iadd dL_law_189 ?_
  obtain ⟨g51, h⟩ := zg_of h
  refine zL_iald dL_law_190 g51 ?_
  refine zL_if_eq (tgt := 198) dL_law_191 (by decide) (fun c52 => ?_) (fun c52 => ?_)
  · replace h := z_t c52 h
    refine zL_iconst (v := 0) dL_law_198 (by decide) ?_
    refine zL_pk [0, 1, 2, 3, 4] rfl ?_
    exact vW_199 hl hc hs k hk x4 (xs (x4 + 1).toNatClampNeg) (xs (x4 + 2).toNatClampNeg) 0 M1 M2 w h
  · replace h := z_f c52 h
    refine zL_iconst (v := 1) dL_law_194 (by decide) ?_
    refine zL_goto (tgt := 199) dL_law_195 (by decide) ?_
    refine zL_pk [0, 1, 2, 3, 4] rfl ?_
    exact vW_199 hl hc hs k hk x4 (xs (x4 + 1).toNatClampNeg) (xs (x4 + 2).toNatClampNeg) 1 M1 M2 w h
set_option maxHeartbeats 4000000 in
set_option maxRecDepth 100000 in
theorem vW_case1 {l : Launch} {D : va_G} {T : Nat → ClassId} {b0 L : Nat} {xs : Nat → Int32} {b1 b2 ao c0 s0 : Nat} (hl : l.stackTraces = false) (hc : c0 + 3 ≤ 601024) (hs : s0 + 18 ≤ 7293033) (k : Int32 → zM → zM → (Nat → Int64) → Option Int32) (hk : ∀ (z4 : Int32) (N1 N2 : zM) (w : Nat → Int64), k z4 N1 N2 w = some 1 → zL l D T b0 L xs b1 b2 ao (c0 + 3) (s0 + 18) 23 [(0, .ref b0), (1, .ref (b1 + 1)), (2, .ref (b2 + 1)), (3, .ref ao), (4, .int z4)] [] N1 N2 w) (x4 : Int32) (M1 M2 : zM) (w : Nat → Int64) (h : fW_case1 xs L k x4 M1 M2 w = some 1) : zL l D T b0 L xs b1 b2 ao c0 s0 280 [(0, .ref b0), (1, .ref (b1 + 1)), (2, .ref (b2 + 1)), (3, .ref ao), (4, .int x4)] [] M1 M2 w := by
  unfold fW_case1 at h
  refine zL_aload_n (j := 1) dL_law_280 rfl rfl ?_
  refine zL_aload_n (j := 0) dL_law_281 rfl rfl ?_
  refine zL_iload (j := 4) dL_law_282 rfl ?_
  refine zL_iconst (v := 1) dL_law_284 (by decide) ?_
  refine zL_iadd dL_law_285 ?_
  obtain ⟨g54, h⟩ := zg_of h
  refine zL_iald dL_law_286 g54 ?_
  refine zL_aload_n (j := 3) dL_law_287 rfl rfl ?_
  obtain ⟨r58, M56, w57, e59, h⟩ := zbh_of h
  refine zL_callH (n := 3) (As := [zr b1 1, .int (xs (x4 + 1).toNatClampNeg), .ref ao]) (rest := []) (fun hao => vL_empty l hl D T b1 ao 1 (xs (x4 + 1).toNatClampNeg) M1 w r58 M56 w57 hao e59) zg_yL_empty rfl ⟨by decide +kernel, by decide +kernel, by decide +kernel⟩ zl_RL_106 zs_yL_empty zK_RL rfl rfl (zcs trivial (Nat.le_of_ble_eq_true rfl)) ⟨by decide, by decide⟩ (by omega) (by omega) dL_law_288 ?_
  refine zL_wd (c0 + 3) (s0 + 18) (by omega) (by omega) ?_
  refine zL_istore [(5, .int r58), (0, .ref b0), (1, .ref (b1 + 1)), (2, .ref (b2 + 1)), (3, .ref ao), (4, .int x4)] dL_law_291 (by decide) rfl ?_
  refine zL_aload_n (j := 3) dL_law_293 rfl rfl ?_
  refine zL_aload_n (j := 1) dL_law_294 rfl rfl ?_
  refine zL_iload (j := 5) dL_law_295 rfl ?_
  refine zL_iconst (v := 1) dL_law_297 (by decide) ?_
  refine zL_iadd dL_law_298 ?_
  obtain ⟨g60, h⟩ := zg_of h
  refine zL_iald dL_law_299 g60 ?_
  obtain ⟨g61, h⟩ := zg_of h
  obtain ⟨r62, M63, e64, h⟩ := zb_of h
  refine zL_callM2i (As := [.int (xs (x4 + 1).toNatClampNeg)]) (rest := []) (vX8_empty l D T b2 false 1 (xs (x4 + 1).toNatClampNeg) M2 _ _ e64) zm_yX8_empty zl_RL_109 zi_yX8_empty ze_yX8_empty zcI8 g61 rfl rfl (zcs trivial (Nat.le_of_ble_eq_true rfl)) (by decide) (by omega) (by omega) dL_law_300 ?_
  refine zL_istore [(6, .int r62), (5, .int r58), (0, .ref b0), (1, .ref (b1 + 1)), (2, .ref (b2 + 1)), (3, .ref ao), (4, .int x4)] dL_law_303 (by decide) rfl ?_
  refine zL_aload_n (j := 4) dL_law_305 rfl rfl ?_
  obtain ⟨g65, h⟩ := zg_of h
  obtain ⟨r66, M67, e68, h⟩ := zb_of h
  refine zL_callM2i (As := []) (rest := []) (vX8_thrown l D T b2 false 1 M63 _ _ e68) zm_yX8_thrown zl_RL_103 zi_yX8_thrown ze_yX8_thrown zcI8 g65 rfl rfl (zcs trivial (Nat.le_of_ble_eq_true rfl)) (by decide) (by omega) (by omega) dL_law_306 ?_
  refine zL_iload (j := 1) dL_law_309 rfl ?_
  refine zL_icmp_eq (tgt := 316) dL_law_311 (by decide) (fun c69 => ?_) (fun c69 => ?_)
  · replace h := z_t c69 h
    refine zL_iload (j := 1) dL_law_316 rfl ?_
    refine zL_if_ne (tgt := 333) dL_law_318 (by decide) (fun c70 => ?_) (fun c70 => ?_)
    · replace h := z_f c70 h
      refine zL_pk [2, 3, 4, 5, 6] rfl ?_
      exact vW_333 hl hc hs k hk x4 M56 M67 w57 h
    · replace h := z_t c70 h
      refine zL_aload_n (j := 5) dL_law_321 rfl rfl ?_
      refine zL_iconst (v := 0) dL_law_322 (by decide) ?_
      refine zL_lald dL_law_323 ?_
      refine zL_iload (j := 0) dL_law_324 rfl ?_
      refine zL_i2l dL_law_326 ?_
      refine zL_lcmp dL_law_327 ?_
      refine zL_if_eq (tgt := 333) dL_law_328 (by decide) (fun c71 => ?_) (fun c71 => ?_)
      · replace h := z_t c71 h
        refine zL_pk [2, 3, 4, 5, 6] rfl ?_
        exact vW_333 hl hc hs k hk x4 M56 M67 w57 h
      · replace h := z_f c71 h
        refine zL_iconst (v := 0) dL_law_331 (by decide) ?_
        exact absurd h (by decide)
  · replace h := z_f c69 h
    refine zL_iconst (v := 0) dL_law_314 (by decide) ?_
    exact absurd h (by decide)
set_option maxHeartbeats 4000000 in
set_option maxRecDepth 100000 in
theorem vW_case2 {l : Launch} {D : va_G} {T : Nat → ClassId} {b0 L : Nat} {xs : Nat → Int32} {b1 b2 ao c0 s0 : Nat} (hl : l.stackTraces = false) (hc : c0 + 3 ≤ 601024) (hs : s0 + 18 ≤ 7293033) (k : Int32 → zM → zM → (Nat → Int64) → Option Int32) (hk : ∀ (z4 : Int32) (N1 N2 : zM) (w : Nat → Int64), k z4 N1 N2 w = some 1 → zL l D T b0 L xs b1 b2 ao (c0 + 3) (s0 + 18) 23 [(0, .ref b0), (1, .ref (b1 + 1)), (2, .ref (b2 + 1)), (3, .ref ao), (4, .int z4)] [] N1 N2 w) (x4 : Int32) (M1 M2 : zM) (w : Nat → Int64) (h : fW_case2 xs L k x4 M1 M2 w = some 1) : zL l D T b0 L xs b1 b2 ao c0 s0 336 [(0, .ref b0), (1, .ref (b1 + 1)), (2, .ref (b2 + 1)), (3, .ref ao), (4, .int x4)] [] M1 M2 w := by
  unfold fW_case2 at h
  refine zL_aload_n (j := 1) dL_law_336 rfl rfl ?_
  refine zL_aload_n (j := 0) dL_law_337 rfl rfl ?_
  refine zL_iload (j := 4) dL_law_338 rfl ?_
  refine zL_iconst (v := 1) dL_law_340 (by decide) ?_
  refine zL_iadd dL_law_341 ?_
  obtain ⟨g73, h⟩ := zg_of h
  refine zL_iald dL_law_342 g73 ?_
  refine zL_aload_n (j := 0) dL_law_343 rfl rfl ?_
  refine zL_iload (j := 4) dL_law_344 rfl ?_
  refine zL_iconst (v := 2) dL_law_346 (by decide) ?_
  refine zL_iadd dL_law_347 ?_
  obtain ⟨g74, h⟩ := zg_of h
  refine zL_iald dL_law_348 g74 ?_
  refine zL_aload_n (j := 0) dL_law_349 rfl rfl ?_
  refine zL_iload (j := 4) dL_law_350 rfl ?_
  refine zL_iconst (v := 3) dL_law_352 (by decide) ?_
  refine zL_iadd dL_law_353 ?_
  obtain ⟨g75, h⟩ := zg_of h
  refine zL_iald dL_law_354 g75 ?_
  obtain ⟨r79, M77, w78, e80, h⟩ := zbh_of h
  refine zL_callH (n := 4) (As := [zr b1 1, .int (xs (x4 + 1).toNatClampNeg), .int (xs (x4 + 2).toNatClampNeg), .int (xs (x4 + 3).toNatClampNeg)]) (rest := []) (fun hao => vL_except l hl D T b1 ao 1 (xs (x4 + 1).toNatClampNeg) (xs (x4 + 2).toNatClampNeg) (xs (x4 + 3).toNatClampNeg) M1 w r79 M77 w78 hao e80) zg_yL_except rfl ⟨by decide +kernel, by decide +kernel, by decide +kernel⟩ zl_RL_110 zs_yL_except zK_RL rfl rfl (zcs trivial (Nat.le_of_ble_eq_true rfl)) ⟨by decide, by decide⟩ (by omega) (by omega) dL_law_355 ?_
  refine zL_wd (c0 + 3) (s0 + 18) (by omega) (by omega) ?_
  refine zL_istore [(5, .int r79), (0, .ref b0), (1, .ref (b1 + 1)), (2, .ref (b2 + 1)), (3, .ref ao), (4, .int x4)] dL_law_358 (by decide) rfl ?_
  refine zL_aload_n (j := 3) dL_law_360 rfl rfl ?_
  refine zL_aload_n (j := 1) dL_law_361 rfl rfl ?_
  refine zL_iload (j := 5) dL_law_362 rfl ?_
  refine zL_iconst (v := 1) dL_law_364 (by decide) ?_
  refine zL_iadd dL_law_365 ?_
  obtain ⟨g81, h⟩ := zg_of h
  refine zL_iald dL_law_366 g81 ?_
  refine zL_aload_n (j := 1) dL_law_367 rfl rfl ?_
  refine zL_iload (j := 5) dL_law_368 rfl ?_
  refine zL_iconst (v := 2) dL_law_370 (by decide) ?_
  refine zL_iadd dL_law_371 ?_
  obtain ⟨g82, h⟩ := zg_of h
  refine zL_iald dL_law_372 g82 ?_
  refine zL_aload_n (j := 1) dL_law_373 rfl rfl ?_
  refine zL_iload (j := 5) dL_law_374 rfl ?_
  refine zL_iconst (v := 3) dL_law_376 (by decide) ?_
  refine zL_iadd dL_law_377 ?_
  obtain ⟨g83, h⟩ := zg_of h
  refine zL_iald dL_law_378 g83 ?_
  obtain ⟨g84, h⟩ := zg_of h
  obtain ⟨r85, M86, e87, h⟩ := zb_of h
  refine zL_callM2v (As := [.int (xs (x4 + 1).toNatClampNeg), .int (xs (x4 + 2).toNatClampNeg), .int (xs (x4 + 3).toNatClampNeg)]) (rest := []) (vX8_except l D T b2 false 1 (xs (x4 + 1).toNatClampNeg) (xs (x4 + 2).toNatClampNeg) (xs (x4 + 3).toNatClampNeg) M2 _ _ e87) zm_yX8_except zl_RL_113 zi_yX8_except ze_yX8_except zcI8 g84 rfl rfl (zcs trivial (Nat.le_of_ble_eq_true rfl)) (by decide) (by omega) (by omega) dL_law_379 ?_
  refine zL_aload_n (j := 3) dL_law_382 rfl rfl ?_
  obtain ⟨g88, h⟩ := zg_of h
  obtain ⟨r89, M90, e91, h⟩ := zb_of h
  refine zL_callM2i (As := []) (rest := []) (vX8_thrown l D T b2 false 1 M86 _ _ e91) zm_yX8_thrown zl_RL_103 zi_yX8_thrown ze_yX8_thrown zcI8 g88 rfl rfl (zcs trivial (Nat.le_of_ble_eq_true rfl)) (by decide) (by omega) (by omega) dL_law_383 ?_
  refine zL_iload (j := 0) dL_law_386 rfl ?_
  refine zL_icmp_eq (tgt := 393) dL_law_388 (by decide) (fun c92 => ?_) (fun c92 => ?_)
  · replace h := z_t c92 h
    refine zL_goto (tgt := 1686) dL_law_393 (by decide) ?_
    refine zL_pk [1, 2, 3, 4, 5] rfl ?_
    exact vW_1686 hl hc hs k hk x4 M77 M90 w78 h
  · replace h := z_f c92 h
    refine zL_iconst (v := 0) dL_law_391 (by decide) ?_
    exact absurd h (by decide)
set_option maxHeartbeats 4000000 in
set_option maxRecDepth 100000 in
theorem vW_case3 {l : Launch} {D : va_G} {T : Nat → ClassId} {b0 L : Nat} {xs : Nat → Int32} {b1 b2 ao c0 s0 : Nat} (hl : l.stackTraces = false) (hc : c0 + 3 ≤ 601024) (hs : s0 + 18 ≤ 7293033) (k : Int32 → zM → zM → (Nat → Int64) → Option Int32) (hk : ∀ (z4 : Int32) (N1 N2 : zM) (w : Nat → Int64), k z4 N1 N2 w = some 1 → zL l D T b0 L xs b1 b2 ao (c0 + 3) (s0 + 18) 23 [(0, .ref b0), (1, .ref (b1 + 1)), (2, .ref (b2 + 1)), (3, .ref ao), (4, .int z4)] [] N1 N2 w) (x4 : Int32) (M1 M2 : zM) (w : Nat → Int64) (h : fW_case3 xs L k x4 M1 M2 w = some 1) : zL l D T b0 L xs b1 b2 ao c0 s0 396 [(0, .ref b0), (1, .ref (b1 + 1)), (2, .ref (b2 + 1)), (3, .ref ao), (4, .int x4)] [] M1 M2 w := by
  unfold fW_case3 at h
  refine zL_aload_n (j := 1) dL_law_396 rfl rfl ?_
  refine zL_aload_n (j := 0) dL_law_397 rfl rfl ?_
  refine zL_iload (j := 4) dL_law_398 rfl ?_
  refine zL_iconst (v := 1) dL_law_400 (by decide) ?_
  refine zL_iadd dL_law_401 ?_
  obtain ⟨g94, h⟩ := zg_of h
  refine zL_iald dL_law_402 g94 ?_
  refine zL_aload_n (j := 0) dL_law_403 rfl rfl ?_
  refine zL_iload (j := 4) dL_law_404 rfl ?_
  refine zL_iconst (v := 2) dL_law_406 (by decide) ?_
  refine zL_iadd dL_law_407 ?_
  obtain ⟨g95, h⟩ := zg_of h
  refine zL_iald dL_law_408 g95 ?_
  refine zL_if_eq (tgt := 416) dL_law_409 (by decide) (fun c96 => ?_) (fun c96 => ?_)
  · replace h := z_t c96 h
    refine zL_iconst (v := 0) dL_law_416 (by decide) ?_
    refine zL_pk [0, 1, 2, 3, 4] rfl ?_
    exact vW_417 hl hc hs k hk x4 (xs (x4 + 1).toNatClampNeg) 0 M1 M2 w h
  · replace h := z_f c96 h
    refine zL_iconst (v := 1) dL_law_412 (by decide) ?_
    refine zL_goto (tgt := 417) dL_law_413 (by decide) ?_
    refine zL_pk [0, 1, 2, 3, 4] rfl ?_
    exact vW_417 hl hc hs k hk x4 (xs (x4 + 1).toNatClampNeg) 1 M1 M2 w h
set_option maxHeartbeats 4000000 in
set_option maxRecDepth 100000 in
theorem vW_case4 {l : Launch} {D : va_G} {T : Nat → ClassId} {b0 L : Nat} {xs : Nat → Int32} {b1 b2 ao c0 s0 : Nat} (hl : l.stackTraces = false) (hc : c0 + 3 ≤ 601024) (hs : s0 + 18 ≤ 7293033) (k : Int32 → zM → zM → (Nat → Int64) → Option Int32) (hk : ∀ (z4 : Int32) (N1 N2 : zM) (w : Nat → Int64), k z4 N1 N2 w = some 1 → zL l D T b0 L xs b1 b2 ao (c0 + 3) (s0 + 18) 23 [(0, .ref b0), (1, .ref (b1 + 1)), (2, .ref (b2 + 1)), (3, .ref ao), (4, .int z4)] [] N1 N2 w) (x4 : Int32) (M1 M2 : zM) (w : Nat → Int64) (h : fW_case4 xs L k x4 M1 M2 w = some 1) : zL l D T b0 L xs b1 b2 ao c0 s0 488 [(0, .ref b0), (1, .ref (b1 + 1)), (2, .ref (b2 + 1)), (3, .ref ao), (4, .int x4)] [] M1 M2 w := by
  unfold fW_case4 at h
  refine zL_aload_n (j := 1) dL_law_488 rfl rfl ?_
  refine zL_aload_n (j := 0) dL_law_489 rfl rfl ?_
  refine zL_iload (j := 4) dL_law_490 rfl ?_
  refine zL_iconst (v := 1) dL_law_492 (by decide) ?_
  refine zL_iadd dL_law_493 ?_
  obtain ⟨g98, h⟩ := zg_of h
  refine zL_iald dL_law_494 g98 ?_
  refine zL_aload_n (j := 0) dL_law_495 rfl rfl ?_
  refine zL_iload (j := 4) dL_law_496 rfl ?_
  refine zL_iconst (v := 2) dL_law_498 (by decide) ?_
  refine zL_iadd dL_law_499 ?_
  obtain ⟨g99, h⟩ := zg_of h
  refine zL_iald dL_law_500 g99 ?_
  refine zL_aload_n (j := 0) dL_law_501 rfl rfl ?_
  refine zL_iload (j := 4) dL_law_502 rfl ?_
  refine zL_iconst (v := 3) dL_law_504 (by decide) ?_
  refine zL_iadd dL_law_505 ?_
  obtain ⟨g100, h⟩ := zg_of h
  refine zL_iald dL_law_506 g100 ?_
  refine zL_aload_n (j := 3) dL_law_507 rfl rfl ?_
  obtain ⟨r104, M102, w103, e105, h⟩ := zbh_of h
  refine zL_callH (n := 5) (As := [zr b1 1, .int (xs (x4 + 1).toNatClampNeg), .int (xs (x4 + 2).toNatClampNeg), .int (xs (x4 + 3).toNatClampNeg), .ref ao]) (rest := []) (fun hao => vL_entity l hl D T b1 ao 1 (xs (x4 + 1).toNatClampNeg) (xs (x4 + 2).toNatClampNeg) (xs (x4 + 3).toNatClampNeg) M1 w r104 M102 w103 hao e105) zg_yL_entity rfl ⟨by decide +kernel, by decide +kernel, by decide +kernel⟩ zl_RL_118 zs_yL_entity zK_RL rfl rfl (zcs trivial (Nat.le_of_ble_eq_true rfl)) ⟨by decide, by decide⟩ (by omega) (by omega) dL_law_508 ?_
  refine zL_wd (c0 + 3) (s0 + 18) (by omega) (by omega) ?_
  refine zL_istore [(5, .int r104), (0, .ref b0), (1, .ref (b1 + 1)), (2, .ref (b2 + 1)), (3, .ref ao), (4, .int x4)] dL_law_511 (by decide) rfl ?_
  refine zL_aload_n (j := 3) dL_law_513 rfl rfl ?_
  refine zL_aload_n (j := 1) dL_law_514 rfl rfl ?_
  refine zL_iload (j := 5) dL_law_515 rfl ?_
  refine zL_iconst (v := 1) dL_law_517 (by decide) ?_
  refine zL_iadd dL_law_518 ?_
  obtain ⟨g106, h⟩ := zg_of h
  refine zL_iald dL_law_519 g106 ?_
  refine zL_aload_n (j := 1) dL_law_520 rfl rfl ?_
  refine zL_iload (j := 5) dL_law_521 rfl ?_
  refine zL_iconst (v := 2) dL_law_523 (by decide) ?_
  refine zL_iadd dL_law_524 ?_
  obtain ⟨g107, h⟩ := zg_of h
  refine zL_iald dL_law_525 g107 ?_
  refine zL_aload_n (j := 1) dL_law_526 rfl rfl ?_
  refine zL_iload (j := 5) dL_law_527 rfl ?_
  refine zL_iconst (v := 3) dL_law_529 (by decide) ?_
  refine zL_iadd dL_law_530 ?_
  obtain ⟨g108, h⟩ := zg_of h
  refine zL_iald dL_law_531 g108 ?_
  obtain ⟨g109, h⟩ := zg_of h
  obtain ⟨r110, M111, e112, h⟩ := zb_of h
  refine zL_callM2i (As := [.int (xs (x4 + 1).toNatClampNeg), .int (xs (x4 + 2).toNatClampNeg), .int (xs (x4 + 3).toNatClampNeg)]) (rest := []) (vX8_entity l D T b2 false 1 (xs (x4 + 1).toNatClampNeg) (xs (x4 + 2).toNatClampNeg) (xs (x4 + 3).toNatClampNeg) M2 _ _ e112) zm_yX8_entity zl_RL_121 zi_yX8_entity ze_yX8_entity zcI8 g109 rfl rfl (zcs trivial (Nat.le_of_ble_eq_true rfl)) (by decide) (by omega) (by omega) dL_law_532 ?_
  refine zL_istore [(6, .int r110), (5, .int r104), (0, .ref b0), (1, .ref (b1 + 1)), (2, .ref (b2 + 1)), (3, .ref ao), (4, .int x4)] dL_law_535 (by decide) rfl ?_
  refine zL_aload_n (j := 4) dL_law_537 rfl rfl ?_
  obtain ⟨g113, h⟩ := zg_of h
  obtain ⟨r114, M115, e116, h⟩ := zb_of h
  refine zL_callM2i (As := []) (rest := []) (vX8_thrown l D T b2 false 1 M111 _ _ e116) zm_yX8_thrown zl_RL_103 zi_yX8_thrown ze_yX8_thrown zcI8 g113 rfl rfl (zcs trivial (Nat.le_of_ble_eq_true rfl)) (by decide) (by omega) (by omega) dL_law_538 ?_
  refine zL_iload (j := 1) dL_law_541 rfl ?_
  refine zL_icmp_eq (tgt := 548) dL_law_543 (by decide) (fun c117 => ?_) (fun c117 => ?_)
  · replace h := z_t c117 h
    refine zL_iload (j := 1) dL_law_548 rfl ?_
    refine zL_if_ne (tgt := 565) dL_law_550 (by decide) (fun c118 => ?_) (fun c118 => ?_)
    · replace h := z_f c118 h
      refine zL_pk [2, 3, 4, 5, 6] rfl ?_
      exact vW_565 hl hc hs k hk x4 M102 M115 w103 h
    · replace h := z_t c118 h
      refine zL_aload_n (j := 5) dL_law_553 rfl rfl ?_
      refine zL_iconst (v := 0) dL_law_554 (by decide) ?_
      refine zL_lald dL_law_555 ?_
      refine zL_iload (j := 0) dL_law_556 rfl ?_
      refine zL_i2l dL_law_558 ?_
      refine zL_lcmp dL_law_559 ?_
      refine zL_if_eq (tgt := 565) dL_law_560 (by decide) (fun c119 => ?_) (fun c119 => ?_)
      · replace h := z_t c119 h
        refine zL_pk [2, 3, 4, 5, 6] rfl ?_
        exact vW_565 hl hc hs k hk x4 M102 M115 w103 h
      · replace h := z_f c119 h
        refine zL_iconst (v := 0) dL_law_563 (by decide) ?_
        exact absurd h (by decide)
  · replace h := z_f c117 h
    refine zL_iconst (v := 0) dL_law_546 (by decide) ?_
    exact absurd h (by decide)
set_option maxHeartbeats 4000000 in
set_option maxRecDepth 100000 in
theorem vW_case5 {l : Launch} {D : va_G} {T : Nat → ClassId} {b0 L : Nat} {xs : Nat → Int32} {b1 b2 ao c0 s0 : Nat} (hl : l.stackTraces = false) (hc : c0 + 3 ≤ 601024) (hs : s0 + 18 ≤ 7293033) (k : Int32 → zM → zM → (Nat → Int64) → Option Int32) (hk : ∀ (z4 : Int32) (N1 N2 : zM) (w : Nat → Int64), k z4 N1 N2 w = some 1 → zL l D T b0 L xs b1 b2 ao (c0 + 3) (s0 + 18) 23 [(0, .ref b0), (1, .ref (b1 + 1)), (2, .ref (b2 + 1)), (3, .ref ao), (4, .int z4)] [] N1 N2 w) (x4 : Int32) (M1 M2 : zM) (w : Nat → Int64) (h : fW_case5 xs L k x4 M1 M2 w = some 1) : zL l D T b0 L xs b1 b2 ao c0 s0 568 [(0, .ref b0), (1, .ref (b1 + 1)), (2, .ref (b2 + 1)), (3, .ref ao), (4, .int x4)] [] M1 M2 w := by
  unfold fW_case5 at h
  refine zL_aload_n (j := 1) dL_law_568 rfl rfl ?_
  refine zL_aload_n (j := 0) dL_law_569 rfl rfl ?_
  refine zL_iload (j := 4) dL_law_570 rfl ?_
  refine zL_iconst (v := 1) dL_law_572 (by decide) ?_
  refine zL_iadd dL_law_573 ?_
  obtain ⟨g121, h⟩ := zg_of h
  refine zL_iald dL_law_574 g121 ?_
  refine zL_aload_n (j := 3) dL_law_575 rfl rfl ?_
  obtain ⟨r125, M123, w124, e126, h⟩ := zbh_of h
  refine zL_callH (n := 3) (As := [zr b1 1, .int (xs (x4 + 1).toNatClampNeg), .ref ao]) (rest := []) (fun hao => vL_clear l hl D T b1 ao 1 (xs (x4 + 1).toNatClampNeg) M1 w r125 M123 w124 hao e126) zg_yL_clear rfl ⟨by decide +kernel, by decide +kernel, by decide +kernel⟩ zl_RL_122 zs_yL_clear zK_RL rfl rfl (zcs trivial (Nat.le_of_ble_eq_true rfl)) ⟨by decide, by decide⟩ (by omega) (by omega) dL_law_576 ?_
  refine zL_wd (c0 + 3) (s0 + 18) (by omega) (by omega) ?_
  refine zL_istore [(5, .int r125), (0, .ref b0), (1, .ref (b1 + 1)), (2, .ref (b2 + 1)), (3, .ref ao), (4, .int x4)] dL_law_579 (by decide) rfl ?_
  refine zL_aload_n (j := 3) dL_law_581 rfl rfl ?_
  refine zL_aload_n (j := 1) dL_law_582 rfl rfl ?_
  refine zL_iload (j := 5) dL_law_583 rfl ?_
  refine zL_iconst (v := 1) dL_law_585 (by decide) ?_
  refine zL_iadd dL_law_586 ?_
  obtain ⟨g127, h⟩ := zg_of h
  refine zL_iald dL_law_587 g127 ?_
  obtain ⟨g128, h⟩ := zg_of h
  obtain ⟨r129, M130, e131, h⟩ := zb_of h
  refine zL_callM2i (As := [.int (xs (x4 + 1).toNatClampNeg)]) (rest := []) (vX8_clear l D T b2 false 1 (xs (x4 + 1).toNatClampNeg) M2 _ _ e131) zm_yX8_clear zl_RL_124 zi_yX8_clear ze_yX8_clear zcI8 g128 rfl rfl (zcs trivial (Nat.le_of_ble_eq_true rfl)) (by decide) (by omega) (by omega) dL_law_588 ?_
  refine zL_istore [(6, .int r129), (5, .int r125), (0, .ref b0), (1, .ref (b1 + 1)), (2, .ref (b2 + 1)), (3, .ref ao), (4, .int x4)] dL_law_591 (by decide) rfl ?_
  refine zL_aload_n (j := 4) dL_law_593 rfl rfl ?_
  obtain ⟨g132, h⟩ := zg_of h
  obtain ⟨r133, M134, e135, h⟩ := zb_of h
  refine zL_callM2i (As := []) (rest := []) (vX8_thrown l D T b2 false 1 M130 _ _ e135) zm_yX8_thrown zl_RL_103 zi_yX8_thrown ze_yX8_thrown zcI8 g132 rfl rfl (zcs trivial (Nat.le_of_ble_eq_true rfl)) (by decide) (by omega) (by omega) dL_law_594 ?_
  refine zL_iload (j := 1) dL_law_597 rfl ?_
  refine zL_icmp_eq (tgt := 604) dL_law_599 (by decide) (fun c136 => ?_) (fun c136 => ?_)
  · replace h := z_t c136 h
    refine zL_iload (j := 1) dL_law_604 rfl ?_
    refine zL_if_ne (tgt := 621) dL_law_606 (by decide) (fun c137 => ?_) (fun c137 => ?_)
    · replace h := z_f c137 h
      refine zL_pk [2, 3, 4, 5, 6] rfl ?_
      exact vW_621 hl hc hs k hk x4 M123 M134 w124 h
    · replace h := z_t c137 h
      refine zL_aload_n (j := 5) dL_law_609 rfl rfl ?_
      refine zL_iconst (v := 0) dL_law_610 (by decide) ?_
      refine zL_lald dL_law_611 ?_
      refine zL_iload (j := 0) dL_law_612 rfl ?_
      refine zL_i2l dL_law_614 ?_
      refine zL_lcmp dL_law_615 ?_
      refine zL_if_eq (tgt := 621) dL_law_616 (by decide) (fun c138 => ?_) (fun c138 => ?_)
      · replace h := z_t c138 h
        refine zL_pk [2, 3, 4, 5, 6] rfl ?_
        exact vW_621 hl hc hs k hk x4 M123 M134 w124 h
      · replace h := z_f c138 h
        refine zL_iconst (v := 0) dL_law_619 (by decide) ?_
        exact absurd h (by decide)
  · replace h := z_f c136 h
    refine zL_iconst (v := 0) dL_law_602 (by decide) ?_
    exact absurd h (by decide)
set_option maxHeartbeats 4000000 in
set_option maxRecDepth 100000 in
theorem vW_case6 {l : Launch} {D : va_G} {T : Nat → ClassId} {b0 L : Nat} {xs : Nat → Int32} {b1 b2 ao c0 s0 : Nat} (hl : l.stackTraces = false) (hc : c0 + 3 ≤ 601024) (hs : s0 + 18 ≤ 7293033) (k : Int32 → zM → zM → (Nat → Int64) → Option Int32) (hk : ∀ (z4 : Int32) (N1 N2 : zM) (w : Nat → Int64), k z4 N1 N2 w = some 1 → zL l D T b0 L xs b1 b2 ao (c0 + 3) (s0 + 18) 23 [(0, .ref b0), (1, .ref (b1 + 1)), (2, .ref (b2 + 1)), (3, .ref ao), (4, .int z4)] [] N1 N2 w) (x4 : Int32) (M1 M2 : zM) (w : Nat → Int64) (h : fW_case6 xs L k x4 M1 M2 w = some 1) : zL l D T b0 L xs b1 b2 ao c0 s0 624 [(0, .ref b0), (1, .ref (b1 + 1)), (2, .ref (b2 + 1)), (3, .ref ao), (4, .int x4)] [] M1 M2 w := by
  unfold fW_case6 at h
  refine zL_aload_n (j := 1) dL_law_624 rfl rfl ?_
  refine zL_aload_n (j := 0) dL_law_625 rfl rfl ?_
  refine zL_iload (j := 4) dL_law_626 rfl ?_
  refine zL_iconst (v := 1) dL_law_628 (by decide) ?_
  refine zL_iadd dL_law_629 ?_
  obtain ⟨g140, h⟩ := zg_of h
  refine zL_iald dL_law_630 g140 ?_
  refine zL_aload_n (j := 0) dL_law_631 rfl rfl ?_
  refine zL_iload (j := 4) dL_law_632 rfl ?_
  refine zL_iconst (v := 2) dL_law_634 (by decide) ?_
  refine zL_iadd dL_law_635 ?_
  obtain ⟨g141, h⟩ := zg_of h
  refine zL_iald dL_law_636 g141 ?_
  refine zL_aload_n (j := 3) dL_law_637 rfl rfl ?_
  obtain ⟨r145, M143, w144, e146, h⟩ := zbh_of h
  refine zL_callH (n := 4) (As := [zr b1 1, .int (xs (x4 + 1).toNatClampNeg), .int (xs (x4 + 2).toNatClampNeg), .ref ao]) (rest := []) (fun hao => vL_flip l hl D T b1 ao 1 (xs (x4 + 1).toNatClampNeg) (xs (x4 + 2).toNatClampNeg) M1 w r145 M143 w144 hao e146) zg_yL_flip rfl ⟨by decide +kernel, by decide +kernel, by decide +kernel⟩ zl_RL_125 zs_yL_flip zK_RL rfl rfl (zcs trivial (Nat.le_of_ble_eq_true rfl)) ⟨by decide, by decide⟩ (by omega) (by omega) dL_law_638 ?_
  refine zL_wd (c0 + 3) (s0 + 18) (by omega) (by omega) ?_
  refine zL_istore [(5, .int r145), (0, .ref b0), (1, .ref (b1 + 1)), (2, .ref (b2 + 1)), (3, .ref ao), (4, .int x4)] dL_law_641 (by decide) rfl ?_
  refine zL_aload_n (j := 3) dL_law_643 rfl rfl ?_
  refine zL_aload_n (j := 1) dL_law_644 rfl rfl ?_
  refine zL_iload (j := 5) dL_law_645 rfl ?_
  refine zL_iconst (v := 1) dL_law_647 (by decide) ?_
  refine zL_iadd dL_law_648 ?_
  obtain ⟨g147, h⟩ := zg_of h
  refine zL_iald dL_law_649 g147 ?_
  refine zL_aload_n (j := 1) dL_law_650 rfl rfl ?_
  refine zL_iload (j := 5) dL_law_651 rfl ?_
  refine zL_iconst (v := 2) dL_law_653 (by decide) ?_
  refine zL_iadd dL_law_654 ?_
  obtain ⟨g148, h⟩ := zg_of h
  refine zL_iald dL_law_655 g148 ?_
  obtain ⟨g149, h⟩ := zg_of h
  obtain ⟨r150, M151, e152, h⟩ := zb_of h
  refine zL_callM2i (As := [.int (xs (x4 + 1).toNatClampNeg), .int (xs (x4 + 2).toNatClampNeg)]) (rest := []) (vX8_flip l D T b2 false 1 (xs (x4 + 1).toNatClampNeg) (xs (x4 + 2).toNatClampNeg) M2 _ _ e152) zm_yX8_flip zl_RL_128 zi_yX8_flip ze_yX8_flip zcI8 g149 rfl rfl (zcs trivial (Nat.le_of_ble_eq_true rfl)) (by decide) (by omega) (by omega) dL_law_656 ?_
  refine zL_istore [(6, .int r150), (5, .int r145), (0, .ref b0), (1, .ref (b1 + 1)), (2, .ref (b2 + 1)), (3, .ref ao), (4, .int x4)] dL_law_659 (by decide) rfl ?_
  refine zL_aload_n (j := 4) dL_law_661 rfl rfl ?_
  obtain ⟨g153, h⟩ := zg_of h
  obtain ⟨r154, M155, e156, h⟩ := zb_of h
  refine zL_callM2i (As := []) (rest := []) (vX8_thrown l D T b2 false 1 M151 _ _ e156) zm_yX8_thrown zl_RL_103 zi_yX8_thrown ze_yX8_thrown zcI8 g153 rfl rfl (zcs trivial (Nat.le_of_ble_eq_true rfl)) (by decide) (by omega) (by omega) dL_law_662 ?_
  refine zL_iload (j := 1) dL_law_665 rfl ?_
  refine zL_icmp_eq (tgt := 672) dL_law_667 (by decide) (fun c157 => ?_) (fun c157 => ?_)
  · replace h := z_t c157 h
    refine zL_iload (j := 1) dL_law_672 rfl ?_
    refine zL_if_ne (tgt := 689) dL_law_674 (by decide) (fun c158 => ?_) (fun c158 => ?_)
    · replace h := z_f c158 h
      refine zL_pk [2, 3, 4, 5, 6] rfl ?_
      exact vW_689 hl hc hs k hk x4 M143 M155 w144 h
    · replace h := z_t c158 h
      refine zL_aload_n (j := 5) dL_law_677 rfl rfl ?_
      refine zL_iconst (v := 0) dL_law_678 (by decide) ?_
      refine zL_lald dL_law_679 ?_
      refine zL_iload (j := 0) dL_law_680 rfl ?_
      refine zL_i2l dL_law_682 ?_
      refine zL_lcmp dL_law_683 ?_
      refine zL_if_eq (tgt := 689) dL_law_684 (by decide) (fun c159 => ?_) (fun c159 => ?_)
      · replace h := z_t c159 h
        refine zL_pk [2, 3, 4, 5, 6] rfl ?_
        exact vW_689 hl hc hs k hk x4 M143 M155 w144 h
      · replace h := z_f c159 h
        refine zL_iconst (v := 0) dL_law_687 (by decide) ?_
        exact absurd h (by decide)
  · replace h := z_f c157 h
    refine zL_iconst (v := 0) dL_law_670 (by decide) ?_
    exact absurd h (by decide)
set_option maxHeartbeats 4000000 in
set_option maxRecDepth 100000 in
theorem vW_case7 {l : Launch} {D : va_G} {T : Nat → ClassId} {b0 L : Nat} {xs : Nat → Int32} {b1 b2 ao c0 s0 : Nat} (hl : l.stackTraces = false) (hc : c0 + 3 ≤ 601024) (hs : s0 + 18 ≤ 7293033) (k : Int32 → zM → zM → (Nat → Int64) → Option Int32) (hk : ∀ (z4 : Int32) (N1 N2 : zM) (w : Nat → Int64), k z4 N1 N2 w = some 1 → zL l D T b0 L xs b1 b2 ao (c0 + 3) (s0 + 18) 23 [(0, .ref b0), (1, .ref (b1 + 1)), (2, .ref (b2 + 1)), (3, .ref ao), (4, .int z4)] [] N1 N2 w) (x4 : Int32) (M1 M2 : zM) (w : Nat → Int64) (h : fW_case7 xs L k x4 M1 M2 w = some 1) : zL l D T b0 L xs b1 b2 ao c0 s0 692 [(0, .ref b0), (1, .ref (b1 + 1)), (2, .ref (b2 + 1)), (3, .ref ao), (4, .int x4)] [] M1 M2 w := by
  unfold fW_case7 at h
  refine zL_aload_n (j := 1) dL_law_692 rfl rfl ?_
  refine zL_aload_n (j := 0) dL_law_693 rfl rfl ?_
  refine zL_iload (j := 4) dL_law_694 rfl ?_
  refine zL_iconst (v := 1) dL_law_696 (by decide) ?_
  refine zL_iadd dL_law_697 ?_
  obtain ⟨g161, h⟩ := zg_of h
  refine zL_iald dL_law_698 g161 ?_
  refine zL_aload_n (j := 0) dL_law_699 rfl rfl ?_
  refine zL_iload (j := 4) dL_law_700 rfl ?_
  refine zL_iconst (v := 2) dL_law_702 (by decide) ?_
  refine zL_iadd dL_law_703 ?_
  obtain ⟨g162, h⟩ := zg_of h
  refine zL_iald dL_law_704 g162 ?_
  refine zL_aload_n (j := 0) dL_law_705 rfl rfl ?_
  refine zL_iload (j := 4) dL_law_706 rfl ?_
  refine zL_iconst (v := 3) dL_law_708 (by decide) ?_
  refine zL_iadd dL_law_709 ?_
  obtain ⟨g163, h⟩ := zg_of h
  refine zL_iald dL_law_710 g163 ?_
  refine zL_aload_n (j := 3) dL_law_711 rfl rfl ?_
  obtain ⟨r167, M165, w166, e168, h⟩ := zbh_of h
  refine zL_callH (n := 5) (As := [zr b1 1, .int (xs (x4 + 1).toNatClampNeg), .int (xs (x4 + 2).toNatClampNeg), .int (xs (x4 + 3).toNatClampNeg), .ref ao]) (rest := []) (fun hao => vL_insert l hl D T b1 ao 1 (xs (x4 + 1).toNatClampNeg) (xs (x4 + 2).toNatClampNeg) (xs (x4 + 3).toNatClampNeg) M1 w r167 M165 w166 hao e168) zg_yL_insert rfl ⟨by decide +kernel, by decide +kernel, by decide +kernel⟩ zl_RL_129 zs_yL_insert zK_RL rfl rfl (zcs trivial (Nat.le_of_ble_eq_true rfl)) ⟨by decide, by decide⟩ (by omega) (by omega) dL_law_712 ?_
  refine zL_wd (c0 + 3) (s0 + 18) (by omega) (by omega) ?_
  refine zL_istore [(5, .int r167), (0, .ref b0), (1, .ref (b1 + 1)), (2, .ref (b2 + 1)), (3, .ref ao), (4, .int x4)] dL_law_715 (by decide) rfl ?_
  refine zL_aload_n (j := 3) dL_law_717 rfl rfl ?_
  refine zL_aload_n (j := 1) dL_law_718 rfl rfl ?_
  refine zL_iload (j := 5) dL_law_719 rfl ?_
  refine zL_iconst (v := 1) dL_law_721 (by decide) ?_
  refine zL_iadd dL_law_722 ?_
  obtain ⟨g169, h⟩ := zg_of h
  refine zL_iald dL_law_723 g169 ?_
  refine zL_aload_n (j := 1) dL_law_724 rfl rfl ?_
  refine zL_iload (j := 5) dL_law_725 rfl ?_
  refine zL_iconst (v := 2) dL_law_727 (by decide) ?_
  refine zL_iadd dL_law_728 ?_
  obtain ⟨g170, h⟩ := zg_of h
  refine zL_iald dL_law_729 g170 ?_
  refine zL_aload_n (j := 1) dL_law_730 rfl rfl ?_
  refine zL_iload (j := 5) dL_law_731 rfl ?_
  refine zL_iconst (v := 3) dL_law_733 (by decide) ?_
  refine zL_iadd dL_law_734 ?_
  obtain ⟨g171, h⟩ := zg_of h
  refine zL_iald dL_law_735 g171 ?_
  obtain ⟨g172, h⟩ := zg_of h
  obtain ⟨r173, M174, e175, h⟩ := zb_of h
  refine zL_callM2i (As := [.int (xs (x4 + 1).toNatClampNeg), .int (xs (x4 + 2).toNatClampNeg), .int (xs (x4 + 3).toNatClampNeg)]) (rest := []) (vX8_insert l D T b2 false 1 (xs (x4 + 1).toNatClampNeg) (xs (x4 + 2).toNatClampNeg) (xs (x4 + 3).toNatClampNeg) M2 _ _ e175) zm_yX8_insert zl_RL_131 zi_yX8_insert ze_yX8_insert zcI8 g172 rfl rfl (zcs trivial (Nat.le_of_ble_eq_true rfl)) (by decide) (by omega) (by omega) dL_law_736 ?_
  refine zL_istore [(6, .int r173), (5, .int r167), (0, .ref b0), (1, .ref (b1 + 1)), (2, .ref (b2 + 1)), (3, .ref ao), (4, .int x4)] dL_law_739 (by decide) rfl ?_
  refine zL_aload_n (j := 4) dL_law_741 rfl rfl ?_
  obtain ⟨g176, h⟩ := zg_of h
  obtain ⟨r177, M178, e179, h⟩ := zb_of h
  refine zL_callM2i (As := []) (rest := []) (vX8_thrown l D T b2 false 1 M174 _ _ e179) zm_yX8_thrown zl_RL_103 zi_yX8_thrown ze_yX8_thrown zcI8 g176 rfl rfl (zcs trivial (Nat.le_of_ble_eq_true rfl)) (by decide) (by omega) (by omega) dL_law_742 ?_
  refine zL_iload (j := 1) dL_law_745 rfl ?_
  refine zL_icmp_eq (tgt := 752) dL_law_747 (by decide) (fun c180 => ?_) (fun c180 => ?_)
  · replace h := z_t c180 h
    refine zL_iload (j := 1) dL_law_752 rfl ?_
    refine zL_if_ne (tgt := 769) dL_law_754 (by decide) (fun c181 => ?_) (fun c181 => ?_)
    · replace h := z_f c181 h
      refine zL_pk [2, 3, 4, 5, 6] rfl ?_
      exact vW_769 hl hc hs k hk x4 M165 M178 w166 h
    · replace h := z_t c181 h
      refine zL_aload_n (j := 5) dL_law_757 rfl rfl ?_
      refine zL_iconst (v := 0) dL_law_758 (by decide) ?_
      refine zL_lald dL_law_759 ?_
      refine zL_iload (j := 0) dL_law_760 rfl ?_
      refine zL_i2l dL_law_762 ?_
      refine zL_lcmp dL_law_763 ?_
      refine zL_if_eq (tgt := 769) dL_law_764 (by decide) (fun c182 => ?_) (fun c182 => ?_)
      · replace h := z_t c182 h
        refine zL_pk [2, 3, 4, 5, 6] rfl ?_
        exact vW_769 hl hc hs k hk x4 M165 M178 w166 h
      · replace h := z_f c182 h
        refine zL_iconst (v := 0) dL_law_767 (by decide) ?_
        exact absurd h (by decide)
  · replace h := z_f c180 h
    refine zL_iconst (v := 0) dL_law_750 (by decide) ?_
    exact absurd h (by decide)
set_option maxHeartbeats 4000000 in
set_option maxRecDepth 100000 in
theorem vW_case8 {l : Launch} {D : va_G} {T : Nat → ClassId} {b0 L : Nat} {xs : Nat → Int32} {b1 b2 ao c0 s0 : Nat} (hl : l.stackTraces = false) (hc : c0 + 3 ≤ 601024) (hs : s0 + 18 ≤ 7293033) (k : Int32 → zM → zM → (Nat → Int64) → Option Int32) (hk : ∀ (z4 : Int32) (N1 N2 : zM) (w : Nat → Int64), k z4 N1 N2 w = some 1 → zL l D T b0 L xs b1 b2 ao (c0 + 3) (s0 + 18) 23 [(0, .ref b0), (1, .ref (b1 + 1)), (2, .ref (b2 + 1)), (3, .ref ao), (4, .int z4)] [] N1 N2 w) (x4 : Int32) (M1 M2 : zM) (w : Nat → Int64) (h : fW_case8 xs L k x4 M1 M2 w = some 1) : zL l D T b0 L xs b1 b2 ao c0 s0 772 [(0, .ref b0), (1, .ref (b1 + 1)), (2, .ref (b2 + 1)), (3, .ref ao), (4, .int x4)] [] M1 M2 w := by
  unfold fW_case8 at h
  refine zL_aload_n (j := 1) dL_law_772 rfl rfl ?_
  refine zL_aload_n (j := 0) dL_law_773 rfl rfl ?_
  refine zL_iload (j := 4) dL_law_774 rfl ?_
  refine zL_iconst (v := 1) dL_law_776 (by decide) ?_
  refine zL_iadd dL_law_777 ?_
  obtain ⟨g184, h⟩ := zg_of h
  refine zL_iald dL_law_778 g184 ?_
  refine zL_aload_n (j := 3) dL_law_779 rfl rfl ?_
  obtain ⟨r188, M186, w187, e189, h⟩ := zbh_of h
  refine zL_callH (n := 3) (As := [zr b1 1, .int (xs (x4 + 1).toNatClampNeg), .ref ao]) (rest := []) (fun hao => vL_erase l hl D T b1 ao 1 (xs (x4 + 1).toNatClampNeg) M1 w r188 M186 w187 hao e189) zg_yL_erase rfl ⟨by decide +kernel, by decide +kernel, by decide +kernel⟩ zl_RL_132 zs_yL_erase zK_RL rfl rfl (zcs trivial (Nat.le_of_ble_eq_true rfl)) ⟨by decide, by decide⟩ (by omega) (by omega) dL_law_780 ?_
  refine zL_wd (c0 + 3) (s0 + 18) (by omega) (by omega) ?_
  refine zL_istore [(5, .int r188), (0, .ref b0), (1, .ref (b1 + 1)), (2, .ref (b2 + 1)), (3, .ref ao), (4, .int x4)] dL_law_783 (by decide) rfl ?_
  refine zL_aload_n (j := 3) dL_law_785 rfl rfl ?_
  refine zL_aload_n (j := 1) dL_law_786 rfl rfl ?_
  refine zL_iload (j := 5) dL_law_787 rfl ?_
  refine zL_iconst (v := 1) dL_law_789 (by decide) ?_
  refine zL_iadd dL_law_790 ?_
  obtain ⟨g190, h⟩ := zg_of h
  refine zL_iald dL_law_791 g190 ?_
  obtain ⟨g191, h⟩ := zg_of h
  obtain ⟨r192, M193, e194, h⟩ := zb_of h
  refine zL_callM2i (As := [.int (xs (x4 + 1).toNatClampNeg)]) (rest := []) (vX8_erase l D T b2 false 1 (xs (x4 + 1).toNatClampNeg) M2 _ _ e194) zm_yX8_erase zl_RL_134 zi_yX8_erase ze_yX8_erase zcI8 g191 rfl rfl (zcs trivial (Nat.le_of_ble_eq_true rfl)) (by decide) (by omega) (by omega) dL_law_792 ?_
  refine zL_istore [(6, .int r192), (5, .int r188), (0, .ref b0), (1, .ref (b1 + 1)), (2, .ref (b2 + 1)), (3, .ref ao), (4, .int x4)] dL_law_795 (by decide) rfl ?_
  refine zL_aload_n (j := 4) dL_law_797 rfl rfl ?_
  obtain ⟨g195, h⟩ := zg_of h
  obtain ⟨r196, M197, e198, h⟩ := zb_of h
  refine zL_callM2i (As := []) (rest := []) (vX8_thrown l D T b2 false 1 M193 _ _ e198) zm_yX8_thrown zl_RL_103 zi_yX8_thrown ze_yX8_thrown zcI8 g195 rfl rfl (zcs trivial (Nat.le_of_ble_eq_true rfl)) (by decide) (by omega) (by omega) dL_law_798 ?_
  refine zL_iload (j := 1) dL_law_801 rfl ?_
  refine zL_icmp_eq (tgt := 808) dL_law_803 (by decide) (fun c199 => ?_) (fun c199 => ?_)
  · replace h := z_t c199 h
    refine zL_iload (j := 1) dL_law_808 rfl ?_
    refine zL_if_ne (tgt := 825) dL_law_810 (by decide) (fun c200 => ?_) (fun c200 => ?_)
    · replace h := z_f c200 h
      refine zL_pk [2, 3, 4, 5, 6] rfl ?_
      exact vW_825 hl hc hs k hk x4 M186 M197 w187 h
    · replace h := z_t c200 h
      refine zL_aload_n (j := 5) dL_law_813 rfl rfl ?_
      refine zL_iconst (v := 0) dL_law_814 (by decide) ?_
      refine zL_lald dL_law_815 ?_
      refine zL_iload (j := 0) dL_law_816 rfl ?_
      refine zL_i2l dL_law_818 ?_
      refine zL_lcmp dL_law_819 ?_
      refine zL_if_eq (tgt := 825) dL_law_820 (by decide) (fun c201 => ?_) (fun c201 => ?_)
      · replace h := z_t c201 h
        refine zL_pk [2, 3, 4, 5, 6] rfl ?_
        exact vW_825 hl hc hs k hk x4 M186 M197 w187 h
      · replace h := z_f c201 h
        refine zL_iconst (v := 0) dL_law_823 (by decide) ?_
        exact absurd h (by decide)
  · replace h := z_f c199 h
    refine zL_iconst (v := 0) dL_law_806 (by decide) ?_
    exact absurd h (by decide)
set_option maxHeartbeats 4000000 in
set_option maxRecDepth 100000 in
theorem vW_case9 {l : Launch} {D : va_G} {T : Nat → ClassId} {b0 L : Nat} {xs : Nat → Int32} {b1 b2 ao c0 s0 : Nat} (hl : l.stackTraces = false) (hc : c0 + 3 ≤ 601024) (hs : s0 + 18 ≤ 7293033) (k : Int32 → zM → zM → (Nat → Int64) → Option Int32) (hk : ∀ (z4 : Int32) (N1 N2 : zM) (w : Nat → Int64), k z4 N1 N2 w = some 1 → zL l D T b0 L xs b1 b2 ao (c0 + 3) (s0 + 18) 23 [(0, .ref b0), (1, .ref (b1 + 1)), (2, .ref (b2 + 1)), (3, .ref ao), (4, .int z4)] [] N1 N2 w) (x4 : Int32) (M1 M2 : zM) (w : Nat → Int64) (h : fW_case9 xs L k x4 M1 M2 w = some 1) : zL l D T b0 L xs b1 b2 ao c0 s0 828 [(0, .ref b0), (1, .ref (b1 + 1)), (2, .ref (b2 + 1)), (3, .ref ao), (4, .int x4)] [] M1 M2 w := by
  unfold fW_case9 at h
  refine zL_aload_n (j := 1) dL_law_828 rfl rfl ?_
  refine zL_aload_n (j := 3) dL_law_829 rfl rfl ?_
  obtain ⟨r206, M204, w205, e207, h⟩ := zbh_of h
  refine zL_callH (n := 2) (As := [zr b1 1, .ref ao]) (rest := []) (fun hao => vL_normalize l hl D T b1 ao 1 M1 w r206 M204 w205 hao e207) zg_yL_normalize rfl ⟨by decide +kernel, by decide +kernel, by decide +kernel⟩ zl_RL_135 zs_yL_normalize zK_RL rfl rfl (zcs trivial (Nat.le_of_ble_eq_true rfl)) ⟨by decide, by decide⟩ (by omega) (by omega) dL_law_830 ?_
  refine zL_wd (c0 + 3) (s0 + 18) (by omega) (by omega) ?_
  refine zL_istore [(5, .int r206), (0, .ref b0), (1, .ref (b1 + 1)), (2, .ref (b2 + 1)), (3, .ref ao), (4, .int x4)] dL_law_833 (by decide) rfl ?_
  refine zL_aload_n (j := 3) dL_law_835 rfl rfl ?_
  obtain ⟨g208, h⟩ := zg_of h
  obtain ⟨r209, M210, e211, h⟩ := zb_of h
  refine zL_callM2i (As := []) (rest := []) (vX8_normalize l D T b2 false 1 M2 _ _ e211) zm_yX8_normalize zl_RL_138 zi_yX8_normalize ze_yX8_normalize zcI8 g208 rfl rfl (zcs trivial (Nat.le_of_ble_eq_true rfl)) (by decide) (by omega) (by omega) dL_law_836 ?_
  refine zL_istore [(6, .int r209), (5, .int r206), (0, .ref b0), (1, .ref (b1 + 1)), (2, .ref (b2 + 1)), (3, .ref ao), (4, .int x4)] dL_law_839 (by decide) rfl ?_
  refine zL_aload_n (j := 4) dL_law_841 rfl rfl ?_
  obtain ⟨g212, h⟩ := zg_of h
  obtain ⟨r213, M214, e215, h⟩ := zb_of h
  refine zL_callM2i (As := []) (rest := []) (vX8_thrown l D T b2 false 1 M210 _ _ e215) zm_yX8_thrown zl_RL_103 zi_yX8_thrown ze_yX8_thrown zcI8 g212 rfl rfl (zcs trivial (Nat.le_of_ble_eq_true rfl)) (by decide) (by omega) (by omega) dL_law_842 ?_
  refine zL_iload (j := 1) dL_law_845 rfl ?_
  refine zL_icmp_eq (tgt := 852) dL_law_847 (by decide) (fun c216 => ?_) (fun c216 => ?_)
  · replace h := z_t c216 h
    refine zL_iload (j := 1) dL_law_852 rfl ?_
    refine zL_if_ne (tgt := 869) dL_law_854 (by decide) (fun c217 => ?_) (fun c217 => ?_)
    · replace h := z_f c217 h
      refine zL_pk [2, 3, 4, 5, 6] rfl ?_
      exact vW_869 hl hc hs k hk x4 M204 M214 w205 h
    · replace h := z_t c217 h
      refine zL_aload_n (j := 5) dL_law_857 rfl rfl ?_
      refine zL_iconst (v := 0) dL_law_858 (by decide) ?_
      refine zL_lald dL_law_859 ?_
      refine zL_iload (j := 0) dL_law_860 rfl ?_
      refine zL_i2l dL_law_862 ?_
      refine zL_lcmp dL_law_863 ?_
      refine zL_if_eq (tgt := 869) dL_law_864 (by decide) (fun c218 => ?_) (fun c218 => ?_)
      · replace h := z_t c218 h
        refine zL_pk [2, 3, 4, 5, 6] rfl ?_
        exact vW_869 hl hc hs k hk x4 M204 M214 w205 h
      · replace h := z_f c218 h
        refine zL_iconst (v := 0) dL_law_867 (by decide) ?_
        exact absurd h (by decide)
  · replace h := z_f c216 h
    refine zL_iconst (v := 0) dL_law_850 (by decide) ?_
    exact absurd h (by decide)
set_option maxHeartbeats 4000000 in
set_option maxRecDepth 100000 in
theorem vW_case10 {l : Launch} {D : va_G} {T : Nat → ClassId} {b0 L : Nat} {xs : Nat → Int32} {b1 b2 ao c0 s0 : Nat} (hl : l.stackTraces = false) (hc : c0 + 3 ≤ 601024) (hs : s0 + 18 ≤ 7293033) (k : Int32 → zM → zM → (Nat → Int64) → Option Int32) (hk : ∀ (z4 : Int32) (N1 N2 : zM) (w : Nat → Int64), k z4 N1 N2 w = some 1 → zL l D T b0 L xs b1 b2 ao (c0 + 3) (s0 + 18) 23 [(0, .ref b0), (1, .ref (b1 + 1)), (2, .ref (b2 + 1)), (3, .ref ao), (4, .int z4)] [] N1 N2 w) (x4 : Int32) (M1 M2 : zM) (w : Nat → Int64) (h : fW_case10 xs L k x4 M1 M2 w = some 1) : zL l D T b0 L xs b1 b2 ao c0 s0 872 [(0, .ref b0), (1, .ref (b1 + 1)), (2, .ref (b2 + 1)), (3, .ref ao), (4, .int x4)] [] M1 M2 w := by
  unfold fW_case10 at h
  refine zL_aload_n (j := 1) dL_law_872 rfl rfl ?_
  obtain ⟨g220, h⟩ := zg_of h
  obtain ⟨r221, M222, e223, h⟩ := zb_of h
  refine zL_callM1i (As := []) (rest := []) (vX7_length l D T b1 false 1 M1 _ _ e223) zm_yX7_length zl_RL_139 zi_yX7_length ze_yX7_length zcI7 g220 rfl rfl (zcs trivial (Nat.le_of_ble_eq_true rfl)) (by decide) (by omega) (by omega) dL_law_873 ?_
  refine zL_aload_n (j := 2) dL_law_876 rfl rfl ?_
  obtain ⟨g224, h⟩ := zg_of h
  obtain ⟨r225, M226, e227, h⟩ := zb_of h
  refine zL_callM2i (As := []) (rest := [.int r221]) (vX8_length l D T b2 false 1 M2 _ _ e227) zm_yX8_length zl_RL_142 zi_yX8_length ze_yX8_length zcI8 g224 rfl rfl (zcs ⟨rfl, trivial⟩ (Nat.le_of_ble_eq_true rfl)) (by decide) (by omega) (by omega) dL_law_877 ?_
  refine zL_icmp_eq (tgt := 1686) dL_law_880 (by decide) (fun c228 => ?_) (fun c228 => ?_)
  · replace h := z_t c228 h
    refine zL_pk [0, 1, 2, 3, 4] rfl ?_
    refine zL_wd (c0 + 3) (s0 + 18) (by omega) (by omega) ?_
    exact vW_1686 hl hc hs k hk x4 M222 M226 w h
  · replace h := z_f c228 h
    refine zL_iconst (v := 0) dL_law_883 (by decide) ?_
    exact absurd h (by decide)
set_option maxHeartbeats 4000000 in
set_option maxRecDepth 100000 in
theorem vW_case11 {l : Launch} {D : va_G} {T : Nat → ClassId} {b0 L : Nat} {xs : Nat → Int32} {b1 b2 ao c0 s0 : Nat} (hl : l.stackTraces = false) (hc : c0 + 3 ≤ 601024) (hs : s0 + 18 ≤ 7293033) (k : Int32 → zM → zM → (Nat → Int64) → Option Int32) (hk : ∀ (z4 : Int32) (N1 N2 : zM) (w : Nat → Int64), k z4 N1 N2 w = some 1 → zL l D T b0 L xs b1 b2 ao (c0 + 3) (s0 + 18) 23 [(0, .ref b0), (1, .ref (b1 + 1)), (2, .ref (b2 + 1)), (3, .ref ao), (4, .int z4)] [] N1 N2 w) (x4 : Int32) (M1 M2 : zM) (w : Nat → Int64) (h : fW_case11 xs L k x4 M1 M2 w = some 1) : zL l D T b0 L xs b1 b2 ao c0 s0 885 [(0, .ref b0), (1, .ref (b1 + 1)), (2, .ref (b2 + 1)), (3, .ref ao), (4, .int x4)] [] M1 M2 w := by
  unfold fW_case11 at h
  refine zL_aload_n (j := 1) dL_law_885 rfl rfl ?_
  obtain ⟨g230, h⟩ := zg_of h
  obtain ⟨r231, M232, e233, h⟩ := zb_of h
  refine zL_callM1i (As := []) (rest := []) (vX7_anew l D T b1 false 1 M1 _ _ e233) zm_yX7_anew zl_RL_143 zi_yX7_anew ze_yX7_anew zcI7 g230 rfl rfl (zcs trivial (Nat.le_of_ble_eq_true rfl)) (by decide) (by omega) (by omega) dL_law_886 ?_
  refine zL_aload_n (j := 2) dL_law_889 rfl rfl ?_
  obtain ⟨g234, h⟩ := zg_of h
  obtain ⟨r235, M236, e237, h⟩ := zb_of h
  refine zL_callM2i (As := []) (rest := [.int r231]) (vX8_anew l D T b2 false 1 M2 _ _ e237) zm_yX8_anew zl_RL_146 zi_yX8_anew ze_yX8_anew zcI8 g234 rfl rfl (zcs ⟨rfl, trivial⟩ (Nat.le_of_ble_eq_true rfl)) (by decide) (by omega) (by omega) dL_law_890 ?_
  refine zL_icmp_eq (tgt := 1686) dL_law_893 (by decide) (fun c238 => ?_) (fun c238 => ?_)
  · replace h := z_t c238 h
    refine zL_pk [0, 1, 2, 3, 4] rfl ?_
    refine zL_wd (c0 + 3) (s0 + 18) (by omega) (by omega) ?_
    exact vW_1686 hl hc hs k hk x4 M232 M236 w h
  · replace h := z_f c238 h
    refine zL_iconst (v := 0) dL_law_896 (by decide) ?_
    exact absurd h (by decide)
set_option maxHeartbeats 4000000 in
set_option maxRecDepth 100000 in
theorem vW_case12 {l : Launch} {D : va_G} {T : Nat → ClassId} {b0 L : Nat} {xs : Nat → Int32} {b1 b2 ao c0 s0 : Nat} (hl : l.stackTraces = false) (hc : c0 + 3 ≤ 601024) (hs : s0 + 18 ≤ 7293033) (k : Int32 → zM → zM → (Nat → Int64) → Option Int32) (hk : ∀ (z4 : Int32) (N1 N2 : zM) (w : Nat → Int64), k z4 N1 N2 w = some 1 → zL l D T b0 L xs b1 b2 ao (c0 + 3) (s0 + 18) 23 [(0, .ref b0), (1, .ref (b1 + 1)), (2, .ref (b2 + 1)), (3, .ref ao), (4, .int z4)] [] N1 N2 w) (x4 : Int32) (M1 M2 : zM) (w : Nat → Int64) (h : fW_case12 xs L k x4 M1 M2 w = some 1) : zL l D T b0 L xs b1 b2 ao c0 s0 898 [(0, .ref b0), (1, .ref (b1 + 1)), (2, .ref (b2 + 1)), (3, .ref ao), (4, .int x4)] [] M1 M2 w := by
  unfold fW_case12 at h
  refine zL_aload_n (j := 1) dL_law_898 rfl rfl ?_
  refine zL_aload_n (j := 0) dL_law_899 rfl rfl ?_
  refine zL_iload (j := 4) dL_law_900 rfl ?_
  refine zL_iconst (v := 1) dL_law_902 (by decide) ?_
  refine zL_iadd dL_law_903 ?_
  obtain ⟨g240, h⟩ := zg_of h
  refine zL_iald dL_law_904 g240 ?_
  refine zL_aload_n (j := 3) dL_law_905 rfl rfl ?_
  obtain ⟨r244, M242, w243, e245, h⟩ := zbh_of h
  refine zL_callH (n := 3) (As := [zr b1 1, .int (xs (x4 + 1).toNatClampNeg), .ref ao]) (rest := []) (fun hao => vL_open l hl D T b1 ao 1 (xs (x4 + 1).toNatClampNeg) M1 w r244 M242 w243 hao e245) zg_yL_open rfl ⟨by decide +kernel, by decide +kernel, by decide +kernel⟩ zl_RL_147 zs_yL_open zK_RL rfl rfl (zcs trivial (Nat.le_of_ble_eq_true rfl)) ⟨by decide, by decide⟩ (by omega) (by omega) dL_law_906 ?_
  refine zL_wd (c0 + 3) (s0 + 18) (by omega) (by omega) ?_
  refine zL_istore [(5, .int r244), (0, .ref b0), (1, .ref (b1 + 1)), (2, .ref (b2 + 1)), (3, .ref ao), (4, .int x4)] dL_law_909 (by decide) rfl ?_
  refine zL_aload_n (j := 3) dL_law_911 rfl rfl ?_
  refine zL_aload_n (j := 1) dL_law_912 rfl rfl ?_
  refine zL_iload (j := 5) dL_law_913 rfl ?_
  refine zL_iconst (v := 1) dL_law_915 (by decide) ?_
  refine zL_iadd dL_law_916 ?_
  obtain ⟨g246, h⟩ := zg_of h
  refine zL_iald dL_law_917 g246 ?_
  obtain ⟨g247, h⟩ := zg_of h
  obtain ⟨r248, M249, e250, h⟩ := zb_of h
  refine zL_callM2i (As := [.int (xs (x4 + 1).toNatClampNeg)]) (rest := []) (vX8_open l D T b2 false 1 (xs (x4 + 1).toNatClampNeg) M2 _ _ e250) zm_yX8_open zl_RL_149 zi_yX8_open ze_yX8_open zcI8 g247 rfl rfl (zcs trivial (Nat.le_of_ble_eq_true rfl)) (by decide) (by omega) (by omega) dL_law_918 ?_
  refine zL_istore [(6, .int r248), (5, .int r244), (0, .ref b0), (1, .ref (b1 + 1)), (2, .ref (b2 + 1)), (3, .ref ao), (4, .int x4)] dL_law_921 (by decide) rfl ?_
  refine zL_aload_n (j := 4) dL_law_923 rfl rfl ?_
  obtain ⟨g251, h⟩ := zg_of h
  obtain ⟨r252, M253, e254, h⟩ := zb_of h
  refine zL_callM2i (As := []) (rest := []) (vX8_thrown l D T b2 false 1 M249 _ _ e254) zm_yX8_thrown zl_RL_103 zi_yX8_thrown ze_yX8_thrown zcI8 g251 rfl rfl (zcs trivial (Nat.le_of_ble_eq_true rfl)) (by decide) (by omega) (by omega) dL_law_924 ?_
  refine zL_iload (j := 1) dL_law_927 rfl ?_
  refine zL_icmp_eq (tgt := 934) dL_law_929 (by decide) (fun c255 => ?_) (fun c255 => ?_)
  · replace h := z_t c255 h
    refine zL_iload (j := 1) dL_law_934 rfl ?_
    refine zL_if_ne (tgt := 951) dL_law_936 (by decide) (fun c256 => ?_) (fun c256 => ?_)
    · replace h := z_f c256 h
      refine zL_pk [2, 3, 4, 5, 6] rfl ?_
      exact vW_951 hl hc hs k hk x4 M242 M253 w243 h
    · replace h := z_t c256 h
      refine zL_aload_n (j := 5) dL_law_939 rfl rfl ?_
      refine zL_iconst (v := 0) dL_law_940 (by decide) ?_
      refine zL_lald dL_law_941 ?_
      refine zL_iload (j := 0) dL_law_942 rfl ?_
      refine zL_i2l dL_law_944 ?_
      refine zL_lcmp dL_law_945 ?_
      refine zL_if_eq (tgt := 951) dL_law_946 (by decide) (fun c257 => ?_) (fun c257 => ?_)
      · replace h := z_t c257 h
        refine zL_pk [2, 3, 4, 5, 6] rfl ?_
        exact vW_951 hl hc hs k hk x4 M242 M253 w243 h
      · replace h := z_f c257 h
        refine zL_iconst (v := 0) dL_law_949 (by decide) ?_
        exact absurd h (by decide)
  · replace h := z_f c255 h
    refine zL_iconst (v := 0) dL_law_932 (by decide) ?_
    exact absurd h (by decide)
set_option maxHeartbeats 4000000 in
set_option maxRecDepth 100000 in
theorem vW_case13 {l : Launch} {D : va_G} {T : Nat → ClassId} {b0 L : Nat} {xs : Nat → Int32} {b1 b2 ao c0 s0 : Nat} (hl : l.stackTraces = false) (hc : c0 + 3 ≤ 601024) (hs : s0 + 18 ≤ 7293033) (k : Int32 → zM → zM → (Nat → Int64) → Option Int32) (hk : ∀ (z4 : Int32) (N1 N2 : zM) (w : Nat → Int64), k z4 N1 N2 w = some 1 → zL l D T b0 L xs b1 b2 ao (c0 + 3) (s0 + 18) 23 [(0, .ref b0), (1, .ref (b1 + 1)), (2, .ref (b2 + 1)), (3, .ref ao), (4, .int z4)] [] N1 N2 w) (x4 : Int32) (M1 M2 : zM) (w : Nat → Int64) (h : fW_case13 xs L k x4 M1 M2 w = some 1) : zL l D T b0 L xs b1 b2 ao c0 s0 954 [(0, .ref b0), (1, .ref (b1 + 1)), (2, .ref (b2 + 1)), (3, .ref ao), (4, .int x4)] [] M1 M2 w := by
  unfold fW_case13 at h
  refine zL_aload_n (j := 1) dL_law_954 rfl rfl ?_
  refine zL_aload_n (j := 0) dL_law_955 rfl rfl ?_
  refine zL_iload (j := 4) dL_law_956 rfl ?_
  refine zL_iconst (v := 1) dL_law_958 (by decide) ?_
  refine zL_iadd dL_law_959 ?_
  obtain ⟨g259, h⟩ := zg_of h
  refine zL_iald dL_law_960 g259 ?_
  refine zL_aload_n (j := 3) dL_law_961 rfl rfl ?_
  obtain ⟨r263, M261, w262, e264, h⟩ := zbh_of h
  refine zL_callH (n := 3) (As := [zr b1 1, .int (xs (x4 + 1).toNatClampNeg), .ref ao]) (rest := []) (fun hao => vL_current l hl D T b1 ao 1 (xs (x4 + 1).toNatClampNeg) M1 w r263 M261 w262 hao e264) zg_yL_current rfl ⟨by decide +kernel, by decide +kernel, by decide +kernel⟩ zl_RL_150 zs_yL_current zK_RL rfl rfl (zcs trivial (Nat.le_of_ble_eq_true rfl)) ⟨by decide, by decide⟩ (by omega) (by omega) dL_law_962 ?_
  refine zL_wd (c0 + 3) (s0 + 18) (by omega) (by omega) ?_
  refine zL_istore [(5, .int r263), (0, .ref b0), (1, .ref (b1 + 1)), (2, .ref (b2 + 1)), (3, .ref ao), (4, .int x4)] dL_law_965 (by decide) rfl ?_
  refine zL_aload_n (j := 3) dL_law_967 rfl rfl ?_
  refine zL_aload_n (j := 1) dL_law_968 rfl rfl ?_
  refine zL_iload (j := 5) dL_law_969 rfl ?_
  refine zL_iconst (v := 1) dL_law_971 (by decide) ?_
  refine zL_iadd dL_law_972 ?_
  obtain ⟨g265, h⟩ := zg_of h
  refine zL_iald dL_law_973 g265 ?_
  obtain ⟨g266, h⟩ := zg_of h
  obtain ⟨r267, M268, e269, h⟩ := zb_of h
  refine zL_callM2i (As := [.int (xs (x4 + 1).toNatClampNeg)]) (rest := []) (vX8_current l D T b2 false 1 (xs (x4 + 1).toNatClampNeg) M2 _ _ e269) zm_yX8_current zl_RL_152 zi_yX8_current ze_yX8_current zcI8 g266 rfl rfl (zcs trivial (Nat.le_of_ble_eq_true rfl)) (by decide) (by omega) (by omega) dL_law_974 ?_
  refine zL_istore [(6, .int r267), (5, .int r263), (0, .ref b0), (1, .ref (b1 + 1)), (2, .ref (b2 + 1)), (3, .ref ao), (4, .int x4)] dL_law_977 (by decide) rfl ?_
  refine zL_aload_n (j := 4) dL_law_979 rfl rfl ?_
  obtain ⟨g270, h⟩ := zg_of h
  obtain ⟨r271, M272, e273, h⟩ := zb_of h
  refine zL_callM2i (As := []) (rest := []) (vX8_thrown l D T b2 false 1 M268 _ _ e273) zm_yX8_thrown zl_RL_103 zi_yX8_thrown ze_yX8_thrown zcI8 g270 rfl rfl (zcs trivial (Nat.le_of_ble_eq_true rfl)) (by decide) (by omega) (by omega) dL_law_980 ?_
  refine zL_iload (j := 1) dL_law_983 rfl ?_
  refine zL_icmp_eq (tgt := 990) dL_law_985 (by decide) (fun c274 => ?_) (fun c274 => ?_)
  · replace h := z_t c274 h
    refine zL_iload (j := 1) dL_law_990 rfl ?_
    refine zL_if_ne (tgt := 1007) dL_law_992 (by decide) (fun c275 => ?_) (fun c275 => ?_)
    · replace h := z_f c275 h
      refine zL_pk [2, 3, 4, 5, 6] rfl ?_
      exact vW_1007 hl hc hs k hk x4 M261 M272 w262 h
    · replace h := z_t c275 h
      refine zL_aload_n (j := 5) dL_law_995 rfl rfl ?_
      refine zL_iconst (v := 0) dL_law_996 (by decide) ?_
      refine zL_lald dL_law_997 ?_
      refine zL_iload (j := 0) dL_law_998 rfl ?_
      refine zL_i2l dL_law_1000 ?_
      refine zL_lcmp dL_law_1001 ?_
      refine zL_if_eq (tgt := 1007) dL_law_1002 (by decide) (fun c276 => ?_) (fun c276 => ?_)
      · replace h := z_t c276 h
        refine zL_pk [2, 3, 4, 5, 6] rfl ?_
        exact vW_1007 hl hc hs k hk x4 M261 M272 w262 h
      · replace h := z_f c276 h
        refine zL_iconst (v := 0) dL_law_1005 (by decide) ?_
        exact absurd h (by decide)
  · replace h := z_f c274 h
    refine zL_iconst (v := 0) dL_law_988 (by decide) ?_
    exact absurd h (by decide)
set_option maxHeartbeats 4000000 in
set_option maxRecDepth 100000 in
theorem vW_case14 {l : Launch} {D : va_G} {T : Nat → ClassId} {b0 L : Nat} {xs : Nat → Int32} {b1 b2 ao c0 s0 : Nat} (hl : l.stackTraces = false) (hc : c0 + 3 ≤ 601024) (hs : s0 + 18 ≤ 7293033) (k : Int32 → zM → zM → (Nat → Int64) → Option Int32) (hk : ∀ (z4 : Int32) (N1 N2 : zM) (w : Nat → Int64), k z4 N1 N2 w = some 1 → zL l D T b0 L xs b1 b2 ao (c0 + 3) (s0 + 18) 23 [(0, .ref b0), (1, .ref (b1 + 1)), (2, .ref (b2 + 1)), (3, .ref ao), (4, .int z4)] [] N1 N2 w) (x4 : Int32) (M1 M2 : zM) (w : Nat → Int64) (h : fW_case14 xs L k x4 M1 M2 w = some 1) : zL l D T b0 L xs b1 b2 ao c0 s0 1010 [(0, .ref b0), (1, .ref (b1 + 1)), (2, .ref (b2 + 1)), (3, .ref ao), (4, .int x4)] [] M1 M2 w := by
  unfold fW_case14 at h
  refine zL_aload_n (j := 1) dL_law_1010 rfl rfl ?_
  refine zL_aload_n (j := 0) dL_law_1011 rfl rfl ?_
  refine zL_iload (j := 4) dL_law_1012 rfl ?_
  refine zL_iconst (v := 1) dL_law_1014 (by decide) ?_
  refine zL_iadd dL_law_1015 ?_
  obtain ⟨g278, h⟩ := zg_of h
  refine zL_iald dL_law_1016 g278 ?_
  refine zL_aload_n (j := 3) dL_law_1017 rfl rfl ?_
  obtain ⟨r282, M280, w281, e283, h⟩ := zbh_of h
  refine zL_callH (n := 3) (As := [zr b1 1, .int (xs (x4 + 1).toNatClampNeg), .ref ao]) (rest := []) (fun hao => vL_next l hl D T b1 ao 1 (xs (x4 + 1).toNatClampNeg) M1 w r282 M280 w281 hao e283) zg_yL_next rfl ⟨by decide +kernel, by decide +kernel, by decide +kernel⟩ zl_RL_153 zs_yL_next zK_RL rfl rfl (zcs trivial (Nat.le_of_ble_eq_true rfl)) ⟨by decide, by decide⟩ (by omega) (by omega) dL_law_1018 ?_
  refine zL_wd (c0 + 3) (s0 + 18) (by omega) (by omega) ?_
  refine zL_istore [(5, .int r282), (0, .ref b0), (1, .ref (b1 + 1)), (2, .ref (b2 + 1)), (3, .ref ao), (4, .int x4)] dL_law_1021 (by decide) rfl ?_
  refine zL_aload_n (j := 3) dL_law_1023 rfl rfl ?_
  refine zL_aload_n (j := 1) dL_law_1024 rfl rfl ?_
  refine zL_iload (j := 5) dL_law_1025 rfl ?_
  refine zL_iconst (v := 1) dL_law_1027 (by decide) ?_
  refine zL_iadd dL_law_1028 ?_
  obtain ⟨g284, h⟩ := zg_of h
  refine zL_iald dL_law_1029 g284 ?_
  obtain ⟨g285, h⟩ := zg_of h
  obtain ⟨r286, M287, e288, h⟩ := zb_of h
  refine zL_callM2i (As := [.int (xs (x4 + 1).toNatClampNeg)]) (rest := []) (vX8_next l D T b2 false 1 (xs (x4 + 1).toNatClampNeg) M2 _ _ e288) zm_yX8_next zl_RL_155 zi_yX8_next ze_yX8_next zcI8 g285 rfl rfl (zcs trivial (Nat.le_of_ble_eq_true rfl)) (by decide) (by omega) (by omega) dL_law_1030 ?_
  refine zL_istore [(6, .int r286), (5, .int r282), (0, .ref b0), (1, .ref (b1 + 1)), (2, .ref (b2 + 1)), (3, .ref ao), (4, .int x4)] dL_law_1033 (by decide) rfl ?_
  refine zL_aload_n (j := 4) dL_law_1035 rfl rfl ?_
  obtain ⟨g289, h⟩ := zg_of h
  obtain ⟨r290, M291, e292, h⟩ := zb_of h
  refine zL_callM2i (As := []) (rest := []) (vX8_thrown l D T b2 false 1 M287 _ _ e292) zm_yX8_thrown zl_RL_103 zi_yX8_thrown ze_yX8_thrown zcI8 g289 rfl rfl (zcs trivial (Nat.le_of_ble_eq_true rfl)) (by decide) (by omega) (by omega) dL_law_1036 ?_
  refine zL_iload (j := 1) dL_law_1039 rfl ?_
  refine zL_icmp_eq (tgt := 1046) dL_law_1041 (by decide) (fun c293 => ?_) (fun c293 => ?_)
  · replace h := z_t c293 h
    refine zL_iload (j := 1) dL_law_1046 rfl ?_
    refine zL_if_ne (tgt := 1063) dL_law_1048 (by decide) (fun c294 => ?_) (fun c294 => ?_)
    · replace h := z_f c294 h
      refine zL_pk [2, 3, 4, 5, 6] rfl ?_
      exact vW_1063 hl hc hs k hk x4 M280 M291 w281 h
    · replace h := z_t c294 h
      refine zL_aload_n (j := 5) dL_law_1051 rfl rfl ?_
      refine zL_iconst (v := 0) dL_law_1052 (by decide) ?_
      refine zL_lald dL_law_1053 ?_
      refine zL_iload (j := 0) dL_law_1054 rfl ?_
      refine zL_i2l dL_law_1056 ?_
      refine zL_lcmp dL_law_1057 ?_
      refine zL_if_eq (tgt := 1063) dL_law_1058 (by decide) (fun c295 => ?_) (fun c295 => ?_)
      · replace h := z_t c295 h
        refine zL_pk [2, 3, 4, 5, 6] rfl ?_
        exact vW_1063 hl hc hs k hk x4 M280 M291 w281 h
      · replace h := z_f c295 h
        refine zL_iconst (v := 0) dL_law_1061 (by decide) ?_
        exact absurd h (by decide)
  · replace h := z_f c293 h
    refine zL_iconst (v := 0) dL_law_1044 (by decide) ?_
    exact absurd h (by decide)
set_option maxHeartbeats 4000000 in
set_option maxRecDepth 100000 in
theorem vW_case15 {l : Launch} {D : va_G} {T : Nat → ClassId} {b0 L : Nat} {xs : Nat → Int32} {b1 b2 ao c0 s0 : Nat} (hl : l.stackTraces = false) (hc : c0 + 3 ≤ 601024) (hs : s0 + 18 ≤ 7293033) (k : Int32 → zM → zM → (Nat → Int64) → Option Int32) (hk : ∀ (z4 : Int32) (N1 N2 : zM) (w : Nat → Int64), k z4 N1 N2 w = some 1 → zL l D T b0 L xs b1 b2 ao (c0 + 3) (s0 + 18) 23 [(0, .ref b0), (1, .ref (b1 + 1)), (2, .ref (b2 + 1)), (3, .ref ao), (4, .int z4)] [] N1 N2 w) (x4 : Int32) (M1 M2 : zM) (w : Nat → Int64) (h : fW_case15 xs L k x4 M1 M2 w = some 1) : zL l D T b0 L xs b1 b2 ao c0 s0 1066 [(0, .ref b0), (1, .ref (b1 + 1)), (2, .ref (b2 + 1)), (3, .ref ao), (4, .int x4)] [] M1 M2 w := by
  unfold fW_case15 at h
  refine zL_aload_n (j := 1) dL_law_1066 rfl rfl ?_
  obtain ⟨g297, h⟩ := zg_of h
  obtain ⟨r298, M299, e300, h⟩ := zb_of h
  refine zL_callM1i (As := []) (rest := []) (vX7_things l D T b1 false 1 M1 _ _ e300) zm_yX7_things zl_RL_156 zi_yX7_things ze_yX7_things zcI7 g297 rfl rfl (zcs trivial (Nat.le_of_ble_eq_true rfl)) (by decide) (by omega) (by omega) dL_law_1067 ?_
  refine zL_aload_n (j := 2) dL_law_1070 rfl rfl ?_
  obtain ⟨g301, h⟩ := zg_of h
  obtain ⟨r302, M303, e304, h⟩ := zb_of h
  refine zL_callM2i (As := []) (rest := [.int r298]) (vX8_things l D T b2 false 1 M2 _ _ e304) zm_yX8_things zl_RL_159 zi_yX8_things ze_yX8_things zcI8 g301 rfl rfl (zcs ⟨rfl, trivial⟩ (Nat.le_of_ble_eq_true rfl)) (by decide) (by omega) (by omega) dL_law_1071 ?_
  refine zL_icmp_eq (tgt := 1686) dL_law_1074 (by decide) (fun c305 => ?_) (fun c305 => ?_)
  · replace h := z_t c305 h
    refine zL_pk [0, 1, 2, 3, 4] rfl ?_
    refine zL_wd (c0 + 3) (s0 + 18) (by omega) (by omega) ?_
    exact vW_1686 hl hc hs k hk x4 M299 M303 w h
  · replace h := z_f c305 h
    refine zL_iconst (v := 0) dL_law_1077 (by decide) ?_
    exact absurd h (by decide)
set_option maxHeartbeats 4000000 in
set_option maxRecDepth 100000 in
theorem vW_case16 {l : Launch} {D : va_G} {T : Nat → ClassId} {b0 L : Nat} {xs : Nat → Int32} {b1 b2 ao c0 s0 : Nat} (hl : l.stackTraces = false) (hc : c0 + 3 ≤ 601024) (hs : s0 + 18 ≤ 7293033) (k : Int32 → zM → zM → (Nat → Int64) → Option Int32) (hk : ∀ (z4 : Int32) (N1 N2 : zM) (w : Nat → Int64), k z4 N1 N2 w = some 1 → zL l D T b0 L xs b1 b2 ao (c0 + 3) (s0 + 18) 23 [(0, .ref b0), (1, .ref (b1 + 1)), (2, .ref (b2 + 1)), (3, .ref ao), (4, .int z4)] [] N1 N2 w) (x4 : Int32) (M1 M2 : zM) (w : Nat → Int64) (h : fW_case16 xs L k x4 M1 M2 w = some 1) : zL l D T b0 L xs b1 b2 ao c0 s0 1079 [(0, .ref b0), (1, .ref (b1 + 1)), (2, .ref (b2 + 1)), (3, .ref ao), (4, .int x4)] [] M1 M2 w := by
  unfold fW_case16 at h
  refine zL_aload_n (j := 1) dL_law_1079 rfl rfl ?_
  refine zL_aload_n (j := 0) dL_law_1080 rfl rfl ?_
  refine zL_iload (j := 4) dL_law_1081 rfl ?_
  refine zL_iconst (v := 1) dL_law_1083 (by decide) ?_
  refine zL_iadd dL_law_1084 ?_
  obtain ⟨g307, h⟩ := zg_of h
  refine zL_iald dL_law_1085 g307 ?_
  refine zL_aload_n (j := 3) dL_law_1086 rfl rfl ?_
  obtain ⟨r311, M309, w310, e312, h⟩ := zbh_of h
  refine zL_callH (n := 3) (As := [zr b1 1, .int (xs (x4 + 1).toNatClampNeg), .ref ao]) (rest := []) (fun hao => vL_kind l hl D T b1 ao 1 (xs (x4 + 1).toNatClampNeg) M1 w r311 M309 w310 hao e312) zg_yL_kind rfl ⟨by decide +kernel, by decide +kernel, by decide +kernel⟩ zl_RL_160 zs_yL_kind zK_RL rfl rfl (zcs trivial (Nat.le_of_ble_eq_true rfl)) ⟨by decide, by decide⟩ (by omega) (by omega) dL_law_1087 ?_
  refine zL_wd (c0 + 3) (s0 + 18) (by omega) (by omega) ?_
  refine zL_istore [(5, .int r311), (0, .ref b0), (1, .ref (b1 + 1)), (2, .ref (b2 + 1)), (3, .ref ao), (4, .int x4)] dL_law_1090 (by decide) rfl ?_
  refine zL_aload_n (j := 3) dL_law_1092 rfl rfl ?_
  refine zL_aload_n (j := 1) dL_law_1093 rfl rfl ?_
  refine zL_iload (j := 5) dL_law_1094 rfl ?_
  refine zL_iconst (v := 1) dL_law_1096 (by decide) ?_
  refine zL_iadd dL_law_1097 ?_
  obtain ⟨g313, h⟩ := zg_of h
  refine zL_iald dL_law_1098 g313 ?_
  obtain ⟨g314, h⟩ := zg_of h
  obtain ⟨r315, M316, e317, h⟩ := zb_of h
  refine zL_callM2i (As := [.int (xs (x4 + 1).toNatClampNeg)]) (rest := []) (vX8_kind l D T b2 false 1 (xs (x4 + 1).toNatClampNeg) M2 _ _ e317) zm_yX8_kind zl_RL_162 zi_yX8_kind ze_yX8_kind zcI8 g314 rfl rfl (zcs trivial (Nat.le_of_ble_eq_true rfl)) (by decide) (by omega) (by omega) dL_law_1099 ?_
  refine zL_istore [(6, .int r315), (5, .int r311), (0, .ref b0), (1, .ref (b1 + 1)), (2, .ref (b2 + 1)), (3, .ref ao), (4, .int x4)] dL_law_1102 (by decide) rfl ?_
  refine zL_aload_n (j := 4) dL_law_1104 rfl rfl ?_
  obtain ⟨g318, h⟩ := zg_of h
  obtain ⟨r319, M320, e321, h⟩ := zb_of h
  refine zL_callM2i (As := []) (rest := []) (vX8_thrown l D T b2 false 1 M316 _ _ e321) zm_yX8_thrown zl_RL_103 zi_yX8_thrown ze_yX8_thrown zcI8 g318 rfl rfl (zcs trivial (Nat.le_of_ble_eq_true rfl)) (by decide) (by omega) (by omega) dL_law_1105 ?_
  refine zL_iload (j := 1) dL_law_1108 rfl ?_
  refine zL_icmp_eq (tgt := 1115) dL_law_1110 (by decide) (fun c322 => ?_) (fun c322 => ?_)
  · replace h := z_t c322 h
    refine zL_iload (j := 1) dL_law_1115 rfl ?_
    refine zL_if_ne (tgt := 1132) dL_law_1117 (by decide) (fun c323 => ?_) (fun c323 => ?_)
    · replace h := z_f c323 h
      refine zL_pk [2, 3, 4, 5, 6] rfl ?_
      exact vW_1132 hl hc hs k hk x4 M309 M320 w310 h
    · replace h := z_t c323 h
      refine zL_aload_n (j := 5) dL_law_1120 rfl rfl ?_
      refine zL_iconst (v := 0) dL_law_1121 (by decide) ?_
      refine zL_lald dL_law_1122 ?_
      refine zL_iload (j := 0) dL_law_1123 rfl ?_
      refine zL_i2l dL_law_1125 ?_
      refine zL_lcmp dL_law_1126 ?_
      refine zL_if_eq (tgt := 1132) dL_law_1127 (by decide) (fun c324 => ?_) (fun c324 => ?_)
      · replace h := z_t c324 h
        refine zL_pk [2, 3, 4, 5, 6] rfl ?_
        exact vW_1132 hl hc hs k hk x4 M309 M320 w310 h
      · replace h := z_f c324 h
        refine zL_iconst (v := 0) dL_law_1130 (by decide) ?_
        exact absurd h (by decide)
  · replace h := z_f c322 h
    refine zL_iconst (v := 0) dL_law_1113 (by decide) ?_
    exact absurd h (by decide)
set_option maxHeartbeats 4000000 in
set_option maxRecDepth 100000 in
theorem vW_case17 {l : Launch} {D : va_G} {T : Nat → ClassId} {b0 L : Nat} {xs : Nat → Int32} {b1 b2 ao c0 s0 : Nat} (hl : l.stackTraces = false) (hc : c0 + 3 ≤ 601024) (hs : s0 + 18 ≤ 7293033) (k : Int32 → zM → zM → (Nat → Int64) → Option Int32) (hk : ∀ (z4 : Int32) (N1 N2 : zM) (w : Nat → Int64), k z4 N1 N2 w = some 1 → zL l D T b0 L xs b1 b2 ao (c0 + 3) (s0 + 18) 23 [(0, .ref b0), (1, .ref (b1 + 1)), (2, .ref (b2 + 1)), (3, .ref ao), (4, .int z4)] [] N1 N2 w) (x4 : Int32) (M1 M2 : zM) (w : Nat → Int64) (h : fW_case17 xs L k x4 M1 M2 w = some 1) : zL l D T b0 L xs b1 b2 ao c0 s0 1135 [(0, .ref b0), (1, .ref (b1 + 1)), (2, .ref (b2 + 1)), (3, .ref ao), (4, .int x4)] [] M1 M2 w := by
  unfold fW_case17 at h
  refine zL_aload_n (j := 1) dL_law_1135 rfl rfl ?_
  refine zL_aload_n (j := 0) dL_law_1136 rfl rfl ?_
  refine zL_iload (j := 4) dL_law_1137 rfl ?_
  refine zL_iconst (v := 1) dL_law_1139 (by decide) ?_
  refine zL_iadd dL_law_1140 ?_
  obtain ⟨g326, h⟩ := zg_of h
  refine zL_iald dL_law_1141 g326 ?_
  refine zL_aload_n (j := 3) dL_law_1142 rfl rfl ?_
  obtain ⟨r330, M328, w329, e331, h⟩ := zbh_of h
  refine zL_callH (n := 3) (As := [zr b1 1, .int (xs (x4 + 1).toNatClampNeg), .ref ao]) (rest := []) (fun hao => vL_parent l hl D T b1 ao 1 (xs (x4 + 1).toNatClampNeg) M1 w r330 M328 w329 hao e331) zg_yL_parent rfl ⟨by decide +kernel, by decide +kernel, by decide +kernel⟩ zl_RL_163 zs_yL_parent zK_RL rfl rfl (zcs trivial (Nat.le_of_ble_eq_true rfl)) ⟨by decide, by decide⟩ (by omega) (by omega) dL_law_1143 ?_
  refine zL_wd (c0 + 3) (s0 + 18) (by omega) (by omega) ?_
  refine zL_istore [(5, .int r330), (0, .ref b0), (1, .ref (b1 + 1)), (2, .ref (b2 + 1)), (3, .ref ao), (4, .int x4)] dL_law_1146 (by decide) rfl ?_
  refine zL_aload_n (j := 3) dL_law_1148 rfl rfl ?_
  refine zL_aload_n (j := 1) dL_law_1149 rfl rfl ?_
  refine zL_iload (j := 5) dL_law_1150 rfl ?_
  refine zL_iconst (v := 1) dL_law_1152 (by decide) ?_
  refine zL_iadd dL_law_1153 ?_
  obtain ⟨g332, h⟩ := zg_of h
  refine zL_iald dL_law_1154 g332 ?_
  obtain ⟨g333, h⟩ := zg_of h
  obtain ⟨r334, M335, e336, h⟩ := zb_of h
  refine zL_callM2i (As := [.int (xs (x4 + 1).toNatClampNeg)]) (rest := []) (vX8_parent l D T b2 false 1 (xs (x4 + 1).toNatClampNeg) M2 _ _ e336) zm_yX8_parent zl_RL_165 zi_yX8_parent ze_yX8_parent zcI8 g333 rfl rfl (zcs trivial (Nat.le_of_ble_eq_true rfl)) (by decide) (by omega) (by omega) dL_law_1155 ?_
  refine zL_istore [(6, .int r334), (5, .int r330), (0, .ref b0), (1, .ref (b1 + 1)), (2, .ref (b2 + 1)), (3, .ref ao), (4, .int x4)] dL_law_1158 (by decide) rfl ?_
  refine zL_aload_n (j := 4) dL_law_1160 rfl rfl ?_
  obtain ⟨g337, h⟩ := zg_of h
  obtain ⟨r338, M339, e340, h⟩ := zb_of h
  refine zL_callM2i (As := []) (rest := []) (vX8_thrown l D T b2 false 1 M335 _ _ e340) zm_yX8_thrown zl_RL_103 zi_yX8_thrown ze_yX8_thrown zcI8 g337 rfl rfl (zcs trivial (Nat.le_of_ble_eq_true rfl)) (by decide) (by omega) (by omega) dL_law_1161 ?_
  refine zL_iload (j := 1) dL_law_1164 rfl ?_
  refine zL_icmp_eq (tgt := 1171) dL_law_1166 (by decide) (fun c341 => ?_) (fun c341 => ?_)
  · replace h := z_t c341 h
    refine zL_iload (j := 1) dL_law_1171 rfl ?_
    refine zL_if_ne (tgt := 1188) dL_law_1173 (by decide) (fun c342 => ?_) (fun c342 => ?_)
    · replace h := z_f c342 h
      refine zL_pk [2, 3, 4, 5, 6] rfl ?_
      exact vW_1188 hl hc hs k hk x4 M328 M339 w329 h
    · replace h := z_t c342 h
      refine zL_aload_n (j := 5) dL_law_1176 rfl rfl ?_
      refine zL_iconst (v := 0) dL_law_1177 (by decide) ?_
      refine zL_lald dL_law_1178 ?_
      refine zL_iload (j := 0) dL_law_1179 rfl ?_
      refine zL_i2l dL_law_1181 ?_
      refine zL_lcmp dL_law_1182 ?_
      refine zL_if_eq (tgt := 1188) dL_law_1183 (by decide) (fun c343 => ?_) (fun c343 => ?_)
      · replace h := z_t c343 h
        refine zL_pk [2, 3, 4, 5, 6] rfl ?_
        exact vW_1188 hl hc hs k hk x4 M328 M339 w329 h
      · replace h := z_f c343 h
        refine zL_iconst (v := 0) dL_law_1186 (by decide) ?_
        exact absurd h (by decide)
  · replace h := z_f c341 h
    refine zL_iconst (v := 0) dL_law_1169 (by decide) ?_
    exact absurd h (by decide)
set_option maxHeartbeats 4000000 in
set_option maxRecDepth 100000 in
theorem vW_case18 {l : Launch} {D : va_G} {T : Nat → ClassId} {b0 L : Nat} {xs : Nat → Int32} {b1 b2 ao c0 s0 : Nat} (hl : l.stackTraces = false) (hc : c0 + 3 ≤ 601024) (hs : s0 + 18 ≤ 7293033) (k : Int32 → zM → zM → (Nat → Int64) → Option Int32) (hk : ∀ (z4 : Int32) (N1 N2 : zM) (w : Nat → Int64), k z4 N1 N2 w = some 1 → zL l D T b0 L xs b1 b2 ao (c0 + 3) (s0 + 18) 23 [(0, .ref b0), (1, .ref (b1 + 1)), (2, .ref (b2 + 1)), (3, .ref ao), (4, .int z4)] [] N1 N2 w) (x4 : Int32) (M1 M2 : zM) (w : Nat → Int64) (h : fW_case18 xs L k x4 M1 M2 w = some 1) : zL l D T b0 L xs b1 b2 ao c0 s0 1191 [(0, .ref b0), (1, .ref (b1 + 1)), (2, .ref (b2 + 1)), (3, .ref ao), (4, .int x4)] [] M1 M2 w := by
  unfold fW_case18 at h
  refine zL_aload_n (j := 1) dL_law_1191 rfl rfl ?_
  refine zL_aload_n (j := 0) dL_law_1192 rfl rfl ?_
  refine zL_iload (j := 4) dL_law_1193 rfl ?_
  refine zL_iconst (v := 1) dL_law_1195 (by decide) ?_
  refine zL_iadd dL_law_1196 ?_
  obtain ⟨g345, h⟩ := zg_of h
  refine zL_iald dL_law_1197 g345 ?_
  refine zL_aload_n (j := 3) dL_law_1198 rfl rfl ?_
  obtain ⟨r349, M347, w348, e350, h⟩ := zbh_of h
  refine zL_callH (n := 3) (As := [zr b1 1, .int (xs (x4 + 1).toNatClampNeg), .ref ao]) (rest := []) (fun hao => vL_letter l hl D T b1 ao 1 (xs (x4 + 1).toNatClampNeg) M1 w r349 M347 w348 hao e350) zg_yL_letter rfl ⟨by decide +kernel, by decide +kernel, by decide +kernel⟩ zl_RL_166 zs_yL_letter zK_RL rfl rfl (zcs trivial (Nat.le_of_ble_eq_true rfl)) ⟨by decide, by decide⟩ (by omega) (by omega) dL_law_1199 ?_
  refine zL_wd (c0 + 3) (s0 + 18) (by omega) (by omega) ?_
  refine zL_istore [(5, .int r349), (0, .ref b0), (1, .ref (b1 + 1)), (2, .ref (b2 + 1)), (3, .ref ao), (4, .int x4)] dL_law_1202 (by decide) rfl ?_
  refine zL_aload_n (j := 3) dL_law_1204 rfl rfl ?_
  refine zL_aload_n (j := 1) dL_law_1205 rfl rfl ?_
  refine zL_iload (j := 5) dL_law_1206 rfl ?_
  refine zL_iconst (v := 1) dL_law_1208 (by decide) ?_
  refine zL_iadd dL_law_1209 ?_
  obtain ⟨g351, h⟩ := zg_of h
  refine zL_iald dL_law_1210 g351 ?_
  obtain ⟨g352, h⟩ := zg_of h
  obtain ⟨r353, M354, e355, h⟩ := zb_of h
  refine zL_callM2i (As := [.int (xs (x4 + 1).toNatClampNeg)]) (rest := []) (vX8_letter l D T b2 false 1 (xs (x4 + 1).toNatClampNeg) M2 _ _ e355) zm_yX8_letter zl_RL_168 zi_yX8_letter ze_yX8_letter zcI8 g352 rfl rfl (zcs trivial (Nat.le_of_ble_eq_true rfl)) (by decide) (by omega) (by omega) dL_law_1211 ?_
  refine zL_istore [(6, .int r353), (5, .int r349), (0, .ref b0), (1, .ref (b1 + 1)), (2, .ref (b2 + 1)), (3, .ref ao), (4, .int x4)] dL_law_1214 (by decide) rfl ?_
  refine zL_aload_n (j := 4) dL_law_1216 rfl rfl ?_
  obtain ⟨g356, h⟩ := zg_of h
  obtain ⟨r357, M358, e359, h⟩ := zb_of h
  refine zL_callM2i (As := []) (rest := []) (vX8_thrown l D T b2 false 1 M354 _ _ e359) zm_yX8_thrown zl_RL_103 zi_yX8_thrown ze_yX8_thrown zcI8 g356 rfl rfl (zcs trivial (Nat.le_of_ble_eq_true rfl)) (by decide) (by omega) (by omega) dL_law_1217 ?_
  refine zL_iload (j := 1) dL_law_1220 rfl ?_
  refine zL_icmp_eq (tgt := 1227) dL_law_1222 (by decide) (fun c360 => ?_) (fun c360 => ?_)
  · replace h := z_t c360 h
    refine zL_iload (j := 1) dL_law_1227 rfl ?_
    refine zL_if_ne (tgt := 1244) dL_law_1229 (by decide) (fun c361 => ?_) (fun c361 => ?_)
    · replace h := z_f c361 h
      refine zL_pk [2, 3, 4, 5, 6] rfl ?_
      exact vW_1244 hl hc hs k hk x4 M347 M358 w348 h
    · replace h := z_t c361 h
      refine zL_aload_n (j := 5) dL_law_1232 rfl rfl ?_
      refine zL_iconst (v := 0) dL_law_1233 (by decide) ?_
      refine zL_lald dL_law_1234 ?_
      refine zL_iload (j := 0) dL_law_1235 rfl ?_
      refine zL_i2l dL_law_1237 ?_
      refine zL_lcmp dL_law_1238 ?_
      refine zL_if_eq (tgt := 1244) dL_law_1239 (by decide) (fun c362 => ?_) (fun c362 => ?_)
      · replace h := z_t c362 h
        refine zL_pk [2, 3, 4, 5, 6] rfl ?_
        exact vW_1244 hl hc hs k hk x4 M347 M358 w348 h
      · replace h := z_f c362 h
        refine zL_iconst (v := 0) dL_law_1242 (by decide) ?_
        exact absurd h (by decide)
  · replace h := z_f c360 h
    refine zL_iconst (v := 0) dL_law_1225 (by decide) ?_
    exact absurd h (by decide)
set_option maxHeartbeats 4000000 in
set_option maxRecDepth 100000 in
theorem vW_case19 {l : Launch} {D : va_G} {T : Nat → ClassId} {b0 L : Nat} {xs : Nat → Int32} {b1 b2 ao c0 s0 : Nat} (hl : l.stackTraces = false) (hc : c0 + 3 ≤ 601024) (hs : s0 + 18 ≤ 7293033) (k : Int32 → zM → zM → (Nat → Int64) → Option Int32) (hk : ∀ (z4 : Int32) (N1 N2 : zM) (w : Nat → Int64), k z4 N1 N2 w = some 1 → zL l D T b0 L xs b1 b2 ao (c0 + 3) (s0 + 18) 23 [(0, .ref b0), (1, .ref (b1 + 1)), (2, .ref (b2 + 1)), (3, .ref ao), (4, .int z4)] [] N1 N2 w) (x4 : Int32) (M1 M2 : zM) (w : Nat → Int64) (h : fW_case19 xs L k x4 M1 M2 w = some 1) : zL l D T b0 L xs b1 b2 ao c0 s0 1247 [(0, .ref b0), (1, .ref (b1 + 1)), (2, .ref (b2 + 1)), (3, .ref ao), (4, .int x4)] [] M1 M2 w := by
  unfold fW_case19 at h
  refine zL_aload_n (j := 1) dL_law_1247 rfl rfl ?_
  refine zL_aload_n (j := 0) dL_law_1248 rfl rfl ?_
  refine zL_iload (j := 4) dL_law_1249 rfl ?_
  refine zL_iconst (v := 1) dL_law_1251 (by decide) ?_
  refine zL_iadd dL_law_1252 ?_
  obtain ⟨g364, h⟩ := zg_of h
  refine zL_iald dL_law_1253 g364 ?_
  refine zL_aload_n (j := 3) dL_law_1254 rfl rfl ?_
  obtain ⟨r368, M366, w367, e369, h⟩ := zbh_of h
  refine zL_callH (n := 3) (As := [zr b1 1, .int (xs (x4 + 1).toNatClampNeg), .ref ao]) (rest := []) (fun hao => vL_placeOf l hl D T b1 ao 1 (xs (x4 + 1).toNatClampNeg) M1 w r368 M366 w367 hao e369) zg_yL_placeOf rfl ⟨by decide +kernel, by decide +kernel, by decide +kernel⟩ zl_RL_169 zs_yL_placeOf zK_RL rfl rfl (zcs trivial (Nat.le_of_ble_eq_true rfl)) ⟨by decide, by decide⟩ (by omega) (by omega) dL_law_1255 ?_
  refine zL_wd (c0 + 3) (s0 + 18) (by omega) (by omega) ?_
  refine zL_istore [(5, .int r368), (0, .ref b0), (1, .ref (b1 + 1)), (2, .ref (b2 + 1)), (3, .ref ao), (4, .int x4)] dL_law_1258 (by decide) rfl ?_
  refine zL_aload_n (j := 3) dL_law_1260 rfl rfl ?_
  refine zL_aload_n (j := 1) dL_law_1261 rfl rfl ?_
  refine zL_iload (j := 5) dL_law_1262 rfl ?_
  refine zL_iconst (v := 1) dL_law_1264 (by decide) ?_
  refine zL_iadd dL_law_1265 ?_
  obtain ⟨g370, h⟩ := zg_of h
  refine zL_iald dL_law_1266 g370 ?_
  obtain ⟨g371, h⟩ := zg_of h
  obtain ⟨r372, M373, e374, h⟩ := zb_of h
  refine zL_callM2i (As := [.int (xs (x4 + 1).toNatClampNeg)]) (rest := []) (vX8_placeOf l D T b2 false 1 (xs (x4 + 1).toNatClampNeg) M2 _ _ e374) zm_yX8_placeOf zl_RL_171 zi_yX8_placeOf ze_yX8_placeOf zcI8 g371 rfl rfl (zcs trivial (Nat.le_of_ble_eq_true rfl)) (by decide) (by omega) (by omega) dL_law_1267 ?_
  refine zL_istore [(6, .int r372), (5, .int r368), (0, .ref b0), (1, .ref (b1 + 1)), (2, .ref (b2 + 1)), (3, .ref ao), (4, .int x4)] dL_law_1270 (by decide) rfl ?_
  refine zL_aload_n (j := 4) dL_law_1272 rfl rfl ?_
  obtain ⟨g375, h⟩ := zg_of h
  obtain ⟨r376, M377, e378, h⟩ := zb_of h
  refine zL_callM2i (As := []) (rest := []) (vX8_thrown l D T b2 false 1 M373 _ _ e378) zm_yX8_thrown zl_RL_103 zi_yX8_thrown ze_yX8_thrown zcI8 g375 rfl rfl (zcs trivial (Nat.le_of_ble_eq_true rfl)) (by decide) (by omega) (by omega) dL_law_1273 ?_
  refine zL_iload (j := 1) dL_law_1276 rfl ?_
  refine zL_icmp_eq (tgt := 1283) dL_law_1278 (by decide) (fun c379 => ?_) (fun c379 => ?_)
  · replace h := z_t c379 h
    refine zL_iload (j := 1) dL_law_1283 rfl ?_
    refine zL_if_ne (tgt := 1300) dL_law_1285 (by decide) (fun c380 => ?_) (fun c380 => ?_)
    · replace h := z_f c380 h
      refine zL_pk [2, 3, 4, 5, 6] rfl ?_
      exact vW_1300 hl hc hs k hk x4 M366 M377 w367 h
    · replace h := z_t c380 h
      refine zL_aload_n (j := 5) dL_law_1288 rfl rfl ?_
      refine zL_iconst (v := 0) dL_law_1289 (by decide) ?_
      refine zL_lald dL_law_1290 ?_
      refine zL_iload (j := 0) dL_law_1291 rfl ?_
      refine zL_i2l dL_law_1293 ?_
      refine zL_lcmp dL_law_1294 ?_
      refine zL_if_eq (tgt := 1300) dL_law_1295 (by decide) (fun c381 => ?_) (fun c381 => ?_)
      · replace h := z_t c381 h
        refine zL_pk [2, 3, 4, 5, 6] rfl ?_
        exact vW_1300 hl hc hs k hk x4 M366 M377 w367 h
      · replace h := z_f c381 h
        refine zL_iconst (v := 0) dL_law_1298 (by decide) ?_
        exact absurd h (by decide)
  · replace h := z_f c379 h
    refine zL_iconst (v := 0) dL_law_1281 (by decide) ?_
    exact absurd h (by decide)
set_option maxHeartbeats 4000000 in
set_option maxRecDepth 100000 in
theorem vW_case20 {l : Launch} {D : va_G} {T : Nat → ClassId} {b0 L : Nat} {xs : Nat → Int32} {b1 b2 ao c0 s0 : Nat} (hl : l.stackTraces = false) (hc : c0 + 3 ≤ 601024) (hs : s0 + 18 ≤ 7293033) (k : Int32 → zM → zM → (Nat → Int64) → Option Int32) (hk : ∀ (z4 : Int32) (N1 N2 : zM) (w : Nat → Int64), k z4 N1 N2 w = some 1 → zL l D T b0 L xs b1 b2 ao (c0 + 3) (s0 + 18) 23 [(0, .ref b0), (1, .ref (b1 + 1)), (2, .ref (b2 + 1)), (3, .ref ao), (4, .int z4)] [] N1 N2 w) (x4 : Int32) (M1 M2 : zM) (w : Nat → Int64) (h : fW_case20 xs L k x4 M1 M2 w = some 1) : zL l D T b0 L xs b1 b2 ao c0 s0 1303 [(0, .ref b0), (1, .ref (b1 + 1)), (2, .ref (b2 + 1)), (3, .ref ao), (4, .int x4)] [] M1 M2 w := by
  unfold fW_case20 at h
  refine zL_aload_n (j := 1) dL_law_1303 rfl rfl ?_
  refine zL_aload_n (j := 0) dL_law_1304 rfl rfl ?_
  refine zL_iload (j := 4) dL_law_1305 rfl ?_
  refine zL_iconst (v := 1) dL_law_1307 (by decide) ?_
  refine zL_iadd dL_law_1308 ?_
  obtain ⟨g383, h⟩ := zg_of h
  refine zL_iald dL_law_1309 g383 ?_
  refine zL_aload_n (j := 3) dL_law_1310 rfl rfl ?_
  obtain ⟨r387, M385, w386, e388, h⟩ := zbh_of h
  refine zL_callH (n := 3) (As := [zr b1 1, .int (xs (x4 + 1).toNatClampNeg), .ref ao]) (rest := []) (fun hao => vL_isPutIn l hl D T b1 ao 1 (xs (x4 + 1).toNatClampNeg) M1 w r387 M385 w386 hao e388) zg_yL_isPutIn rfl ⟨by decide +kernel, by decide +kernel, by decide +kernel⟩ zl_RL_172 zs_yL_isPutIn zK_RL rfl rfl (zcs trivial (Nat.le_of_ble_eq_true rfl)) ⟨by decide, by decide⟩ (by omega) (by omega) dL_law_1311 ?_
  refine zL_wd (c0 + 3) (s0 + 18) (by omega) (by omega) ?_
  refine zL_istore [(5, .int r387), (0, .ref b0), (1, .ref (b1 + 1)), (2, .ref (b2 + 1)), (3, .ref ao), (4, .int x4)] dL_law_1314 (by decide) rfl ?_
  refine zL_aload_n (j := 3) dL_law_1316 rfl rfl ?_
  refine zL_aload_n (j := 1) dL_law_1317 rfl rfl ?_
  refine zL_iload (j := 5) dL_law_1318 rfl ?_
  refine zL_iconst (v := 1) dL_law_1320 (by decide) ?_
  refine zL_iadd dL_law_1321 ?_
  obtain ⟨g389, h⟩ := zg_of h
  refine zL_iald dL_law_1322 g389 ?_
  obtain ⟨g390, h⟩ := zg_of h
  obtain ⟨r391, M392, e393, h⟩ := zb_of h
  refine zL_callM2i (As := [.int (xs (x4 + 1).toNatClampNeg)]) (rest := []) (vX8_isPutIn l D T b2 false 1 (xs (x4 + 1).toNatClampNeg) M2 _ _ e393) zm_yX8_isPutIn zl_RL_174 zi_yX8_isPutIn ze_yX8_isPutIn zcI8 g390 rfl rfl (zcs trivial (Nat.le_of_ble_eq_true rfl)) (by decide) (by omega) (by omega) dL_law_1323 ?_
  refine zL_istore [(6, .int r391), (5, .int r387), (0, .ref b0), (1, .ref (b1 + 1)), (2, .ref (b2 + 1)), (3, .ref ao), (4, .int x4)] dL_law_1326 (by decide) rfl ?_
  refine zL_aload_n (j := 4) dL_law_1328 rfl rfl ?_
  obtain ⟨g394, h⟩ := zg_of h
  obtain ⟨r395, M396, e397, h⟩ := zb_of h
  refine zL_callM2i (As := []) (rest := []) (vX8_thrown l D T b2 false 1 M392 _ _ e397) zm_yX8_thrown zl_RL_103 zi_yX8_thrown ze_yX8_thrown zcI8 g394 rfl rfl (zcs trivial (Nat.le_of_ble_eq_true rfl)) (by decide) (by omega) (by omega) dL_law_1329 ?_
  refine zL_iload (j := 1) dL_law_1332 rfl ?_
  refine zL_icmp_eq (tgt := 1339) dL_law_1334 (by decide) (fun c398 => ?_) (fun c398 => ?_)
  · replace h := z_t c398 h
    refine zL_iload (j := 1) dL_law_1339 rfl ?_
    refine zL_if_ne (tgt := 1363) dL_law_1341 (by decide) (fun c399 => ?_) (fun c399 => ?_)
    · replace h := z_f c399 h
      refine zL_pk [2, 3, 4, 5, 6] rfl ?_
      exact vW_1363 hl hc hs k hk x4 M385 M396 w386 h
    · replace h := z_t c399 h
      refine zL_aload_n (j := 5) dL_law_1344 rfl rfl ?_
      refine zL_iconst (v := 0) dL_law_1345 (by decide) ?_
      refine zL_lald dL_law_1346 ?_
      refine zL_iload (j := 0) dL_law_1347 rfl ?_
      refine zL_if_eq (tgt := 1356) dL_law_1349 (by decide) (fun c400 => ?_) (fun c400 => ?_)
      · replace h := z_t c400 h
        refine zL_lconst (v := 0) dL_law_1356 (by decide) ?_
        refine zL_lcmp dL_law_1357 ?_
        refine zL_if_eq (tgt := 1363) dL_law_1358 (by decide) (fun c401 => ?_) (fun c401 => ?_)
        · replace h := z_t c401 h
          refine zL_pk [2, 3, 4, 5, 6] rfl ?_
          exact vW_1363 hl hc hs k hk x4 M385 M396 w386 h
        · replace h := z_f c401 h
          refine zL_iconst (v := 0) dL_law_1361 (by decide) ?_
          exact absurd h (by decide)
      · replace h := z_f c400 h
        refine zL_lconst (v := 1) dL_law_1352 (by decide) ?_
        refine zL_goto (tgt := 1357) dL_law_1353 (by decide) ?_
        refine zL_lcmp dL_law_1357 ?_
        refine zL_if_eq (tgt := 1363) dL_law_1358 (by decide) (fun c402 => ?_) (fun c402 => ?_)
        · replace h := z_t c402 h
          refine zL_pk [2, 3, 4, 5, 6] rfl ?_
          exact vW_1363 hl hc hs k hk x4 M385 M396 w386 h
        · replace h := z_f c402 h
          refine zL_iconst (v := 0) dL_law_1361 (by decide) ?_
          exact absurd h (by decide)
  · replace h := z_f c398 h
    refine zL_iconst (v := 0) dL_law_1337 (by decide) ?_
    exact absurd h (by decide)
set_option maxHeartbeats 4000000 in
set_option maxRecDepth 100000 in
theorem vW_case21 {l : Launch} {D : va_G} {T : Nat → ClassId} {b0 L : Nat} {xs : Nat → Int32} {b1 b2 ao c0 s0 : Nat} (hl : l.stackTraces = false) (hc : c0 + 3 ≤ 601024) (hs : s0 + 18 ≤ 7293033) (k : Int32 → zM → zM → (Nat → Int64) → Option Int32) (hk : ∀ (z4 : Int32) (N1 N2 : zM) (w : Nat → Int64), k z4 N1 N2 w = some 1 → zL l D T b0 L xs b1 b2 ao (c0 + 3) (s0 + 18) 23 [(0, .ref b0), (1, .ref (b1 + 1)), (2, .ref (b2 + 1)), (3, .ref ao), (4, .int z4)] [] N1 N2 w) (x4 : Int32) (M1 M2 : zM) (w : Nat → Int64) (h : fW_case21 xs L k x4 M1 M2 w = some 1) : zL l D T b0 L xs b1 b2 ao c0 s0 1366 [(0, .ref b0), (1, .ref (b1 + 1)), (2, .ref (b2 + 1)), (3, .ref ao), (4, .int x4)] [] M1 M2 w := by
  unfold fW_case21 at h
  refine zL_aload_n (j := 1) dL_law_1366 rfl rfl ?_
  obtain ⟨g404, h⟩ := zg_of h
  obtain ⟨r405, M406, e407, h⟩ := zb_of h
  refine zL_callM1i (As := []) (rest := []) (vX7_endsPutIn l D T b1 false 1 M1 _ _ e407) zm_yX7_endsPutIn zl_RL_175 zi_yX7_endsPutIn ze_yX7_endsPutIn zcI7 g404 rfl rfl (zcs trivial (Nat.le_of_ble_eq_true rfl)) (by decide) (by omega) (by omega) dL_law_1367 ?_
  refine zL_aload_n (j := 2) dL_law_1370 rfl rfl ?_
  obtain ⟨g408, h⟩ := zg_of h
  obtain ⟨r409, M410, e411, h⟩ := zb_of h
  refine zL_callM2i (As := []) (rest := [.int r405]) (vX8_endsPutIn l D T b2 false 1 M2 _ _ e411) zm_yX8_endsPutIn zl_RL_178 zi_yX8_endsPutIn ze_yX8_endsPutIn zcI8 g408 rfl rfl (zcs ⟨rfl, trivial⟩ (Nat.le_of_ble_eq_true rfl)) (by decide) (by omega) (by omega) dL_law_1371 ?_
  refine zL_icmp_eq (tgt := 1686) dL_law_1374 (by decide) (fun c412 => ?_) (fun c412 => ?_)
  · replace h := z_t c412 h
    refine zL_pk [0, 1, 2, 3, 4] rfl ?_
    refine zL_wd (c0 + 3) (s0 + 18) (by omega) (by omega) ?_
    exact vW_1686 hl hc hs k hk x4 M406 M410 w h
  · replace h := z_f c412 h
    refine zL_iconst (v := 0) dL_law_1377 (by decide) ?_
    exact absurd h (by decide)
set_option maxHeartbeats 4000000 in
set_option maxRecDepth 100000 in
theorem vW_case22 {l : Launch} {D : va_G} {T : Nat → ClassId} {b0 L : Nat} {xs : Nat → Int32} {b1 b2 ao c0 s0 : Nat} (hl : l.stackTraces = false) (hc : c0 + 3 ≤ 601024) (hs : s0 + 18 ≤ 7293033) (k : Int32 → zM → zM → (Nat → Int64) → Option Int32) (hk : ∀ (z4 : Int32) (N1 N2 : zM) (w : Nat → Int64), k z4 N1 N2 w = some 1 → zL l D T b0 L xs b1 b2 ao (c0 + 3) (s0 + 18) 23 [(0, .ref b0), (1, .ref (b1 + 1)), (2, .ref (b2 + 1)), (3, .ref ao), (4, .int z4)] [] N1 N2 w) (x4 : Int32) (M1 M2 : zM) (w : Nat → Int64) (h : fW_case22 xs L k x4 M1 M2 w = some 1) : zL l D T b0 L xs b1 b2 ao c0 s0 1379 [(0, .ref b0), (1, .ref (b1 + 1)), (2, .ref (b2 + 1)), (3, .ref ao), (4, .int x4)] [] M1 M2 w := by
  unfold fW_case22 at h
  refine zL_aload_n (j := 1) dL_law_1379 rfl rfl ?_
  obtain ⟨g414, h⟩ := zg_of h
  obtain ⟨r415, M416, e417, h⟩ := zb_of h
  refine zL_callM1i (As := []) (rest := []) (vX7_errors l D T b1 false 1 M1 _ _ e417) zm_yX7_errors zl_RL_179 zi_yX7_errors ze_yX7_errors zcI7 g414 rfl rfl (zcs trivial (Nat.le_of_ble_eq_true rfl)) (by decide) (by omega) (by omega) dL_law_1380 ?_
  refine zL_aload_n (j := 2) dL_law_1383 rfl rfl ?_
  obtain ⟨g418, h⟩ := zg_of h
  obtain ⟨r419, M420, e421, h⟩ := zb_of h
  refine zL_callM2i (As := []) (rest := [.int r415]) (vX8_errors l D T b2 false 1 M2 _ _ e421) zm_yX8_errors zl_RL_182 zi_yX8_errors ze_yX8_errors zcI8 g418 rfl rfl (zcs ⟨rfl, trivial⟩ (Nat.le_of_ble_eq_true rfl)) (by decide) (by omega) (by omega) dL_law_1384 ?_
  refine zL_icmp_eq (tgt := 1686) dL_law_1387 (by decide) (fun c422 => ?_) (fun c422 => ?_)
  · replace h := z_t c422 h
    refine zL_pk [0, 1, 2, 3, 4] rfl ?_
    refine zL_wd (c0 + 3) (s0 + 18) (by omega) (by omega) ?_
    exact vW_1686 hl hc hs k hk x4 M416 M420 w h
  · replace h := z_f c422 h
    refine zL_iconst (v := 0) dL_law_1390 (by decide) ?_
    exact absurd h (by decide)
set_option maxHeartbeats 4000000 in
set_option maxRecDepth 100000 in
theorem vW_case23 {l : Launch} {D : va_G} {T : Nat → ClassId} {b0 L : Nat} {xs : Nat → Int32} {b1 b2 ao c0 s0 : Nat} (hl : l.stackTraces = false) (hc : c0 + 3 ≤ 601024) (hs : s0 + 18 ≤ 7293033) (k : Int32 → zM → zM → (Nat → Int64) → Option Int32) (hk : ∀ (z4 : Int32) (N1 N2 : zM) (w : Nat → Int64), k z4 N1 N2 w = some 1 → zL l D T b0 L xs b1 b2 ao (c0 + 3) (s0 + 18) 23 [(0, .ref b0), (1, .ref (b1 + 1)), (2, .ref (b2 + 1)), (3, .ref ao), (4, .int z4)] [] N1 N2 w) (x4 : Int32) (M1 M2 : zM) (w : Nat → Int64) (h : fW_case23 xs L k x4 M1 M2 w = some 1) : zL l D T b0 L xs b1 b2 ao c0 s0 1392 [(0, .ref b0), (1, .ref (b1 + 1)), (2, .ref (b2 + 1)), (3, .ref ao), (4, .int x4)] [] M1 M2 w := by
  unfold fW_case23 at h
  refine zL_aload_n (j := 1) dL_law_1392 rfl rfl ?_
  refine zL_aload_n (j := 0) dL_law_1393 rfl rfl ?_
  refine zL_iload (j := 4) dL_law_1394 rfl ?_
  refine zL_iconst (v := 1) dL_law_1396 (by decide) ?_
  refine zL_iadd dL_law_1397 ?_
  obtain ⟨g424, h⟩ := zg_of h
  refine zL_iald dL_law_1398 g424 ?_
  refine zL_aload_n (j := 3) dL_law_1399 rfl rfl ?_
  obtain ⟨r428, M426, w427, e429, h⟩ := zbh_of h
  refine zL_callH (n := 3) (As := [zr b1 1, .int (xs (x4 + 1).toNatClampNeg), .ref ao]) (rest := []) (fun hao => vL_errorKind l hl D T b1 ao 1 (xs (x4 + 1).toNatClampNeg) M1 w r428 M426 w427 hao e429) zg_yL_errorKind rfl ⟨by decide +kernel, by decide +kernel, by decide +kernel⟩ zl_RL_183 zs_yL_errorKind zK_RL rfl rfl (zcs trivial (Nat.le_of_ble_eq_true rfl)) ⟨by decide, by decide⟩ (by omega) (by omega) dL_law_1400 ?_
  refine zL_wd (c0 + 3) (s0 + 18) (by omega) (by omega) ?_
  refine zL_istore [(5, .int r428), (0, .ref b0), (1, .ref (b1 + 1)), (2, .ref (b2 + 1)), (3, .ref ao), (4, .int x4)] dL_law_1403 (by decide) rfl ?_
  refine zL_aload_n (j := 3) dL_law_1405 rfl rfl ?_
  refine zL_aload_n (j := 1) dL_law_1406 rfl rfl ?_
  refine zL_iload (j := 5) dL_law_1407 rfl ?_
  refine zL_iconst (v := 1) dL_law_1409 (by decide) ?_
  refine zL_iadd dL_law_1410 ?_
  obtain ⟨g430, h⟩ := zg_of h
  refine zL_iald dL_law_1411 g430 ?_
  obtain ⟨g431, h⟩ := zg_of h
  obtain ⟨r432, M433, e434, h⟩ := zb_of h
  refine zL_callM2i (As := [.int (xs (x4 + 1).toNatClampNeg)]) (rest := []) (vX8_errorKind l D T b2 false 1 (xs (x4 + 1).toNatClampNeg) M2 _ _ e434) zm_yX8_errorKind zl_RL_185 zi_yX8_errorKind ze_yX8_errorKind zcI8 g431 rfl rfl (zcs trivial (Nat.le_of_ble_eq_true rfl)) (by decide) (by omega) (by omega) dL_law_1412 ?_
  refine zL_istore [(6, .int r432), (5, .int r428), (0, .ref b0), (1, .ref (b1 + 1)), (2, .ref (b2 + 1)), (3, .ref ao), (4, .int x4)] dL_law_1415 (by decide) rfl ?_
  refine zL_aload_n (j := 4) dL_law_1417 rfl rfl ?_
  obtain ⟨g435, h⟩ := zg_of h
  obtain ⟨r436, M437, e438, h⟩ := zb_of h
  refine zL_callM2i (As := []) (rest := []) (vX8_thrown l D T b2 false 1 M433 _ _ e438) zm_yX8_thrown zl_RL_103 zi_yX8_thrown ze_yX8_thrown zcI8 g435 rfl rfl (zcs trivial (Nat.le_of_ble_eq_true rfl)) (by decide) (by omega) (by omega) dL_law_1418 ?_
  refine zL_iload (j := 1) dL_law_1421 rfl ?_
  refine zL_icmp_eq (tgt := 1428) dL_law_1423 (by decide) (fun c439 => ?_) (fun c439 => ?_)
  · replace h := z_t c439 h
    refine zL_iload (j := 1) dL_law_1428 rfl ?_
    refine zL_if_ne (tgt := 1445) dL_law_1430 (by decide) (fun c440 => ?_) (fun c440 => ?_)
    · replace h := z_f c440 h
      refine zL_pk [2, 3, 4, 5, 6] rfl ?_
      exact vW_1445 hl hc hs k hk x4 M426 M437 w427 h
    · replace h := z_t c440 h
      refine zL_aload_n (j := 5) dL_law_1433 rfl rfl ?_
      refine zL_iconst (v := 0) dL_law_1434 (by decide) ?_
      refine zL_lald dL_law_1435 ?_
      refine zL_iload (j := 0) dL_law_1436 rfl ?_
      refine zL_i2l dL_law_1438 ?_
      refine zL_lcmp dL_law_1439 ?_
      refine zL_if_eq (tgt := 1445) dL_law_1440 (by decide) (fun c441 => ?_) (fun c441 => ?_)
      · replace h := z_t c441 h
        refine zL_pk [2, 3, 4, 5, 6] rfl ?_
        exact vW_1445 hl hc hs k hk x4 M426 M437 w427 h
      · replace h := z_f c441 h
        refine zL_iconst (v := 0) dL_law_1443 (by decide) ?_
        exact absurd h (by decide)
  · replace h := z_f c439 h
    refine zL_iconst (v := 0) dL_law_1426 (by decide) ?_
    exact absurd h (by decide)
set_option maxHeartbeats 4000000 in
set_option maxRecDepth 100000 in
theorem vW_case24 {l : Launch} {D : va_G} {T : Nat → ClassId} {b0 L : Nat} {xs : Nat → Int32} {b1 b2 ao c0 s0 : Nat} (hl : l.stackTraces = false) (hc : c0 + 3 ≤ 601024) (hs : s0 + 18 ≤ 7293033) (k : Int32 → zM → zM → (Nat → Int64) → Option Int32) (hk : ∀ (z4 : Int32) (N1 N2 : zM) (w : Nat → Int64), k z4 N1 N2 w = some 1 → zL l D T b0 L xs b1 b2 ao (c0 + 3) (s0 + 18) 23 [(0, .ref b0), (1, .ref (b1 + 1)), (2, .ref (b2 + 1)), (3, .ref ao), (4, .int z4)] [] N1 N2 w) (x4 : Int32) (M1 M2 : zM) (w : Nat → Int64) (h : fW_case24 xs L k x4 M1 M2 w = some 1) : zL l D T b0 L xs b1 b2 ao c0 s0 1448 [(0, .ref b0), (1, .ref (b1 + 1)), (2, .ref (b2 + 1)), (3, .ref ao), (4, .int x4)] [] M1 M2 w := by
  unfold fW_case24 at h
  refine zL_aload_n (j := 1) dL_law_1448 rfl rfl ?_
  refine zL_aload_n (j := 0) dL_law_1449 rfl rfl ?_
  refine zL_iload (j := 4) dL_law_1450 rfl ?_
  refine zL_iconst (v := 1) dL_law_1452 (by decide) ?_
  refine zL_iadd dL_law_1453 ?_
  obtain ⟨g443, h⟩ := zg_of h
  refine zL_iald dL_law_1454 g443 ?_
  refine zL_aload_n (j := 3) dL_law_1455 rfl rfl ?_
  obtain ⟨r447, M445, w446, e448, h⟩ := zbh_of h
  refine zL_callH (n := 3) (As := [zr b1 1, .int (xs (x4 + 1).toNatClampNeg), .ref ao]) (rest := []) (fun hao => vL_errorAt l hl D T b1 ao 1 (xs (x4 + 1).toNatClampNeg) M1 w r447 M445 w446 hao e448) zg_yL_errorAt rfl ⟨by decide +kernel, by decide +kernel, by decide +kernel⟩ zl_RL_186 zs_yL_errorAt zK_RL rfl rfl (zcs trivial (Nat.le_of_ble_eq_true rfl)) ⟨by decide, by decide⟩ (by omega) (by omega) dL_law_1456 ?_
  refine zL_wd (c0 + 3) (s0 + 18) (by omega) (by omega) ?_
  refine zL_istore [(5, .int r447), (0, .ref b0), (1, .ref (b1 + 1)), (2, .ref (b2 + 1)), (3, .ref ao), (4, .int x4)] dL_law_1459 (by decide) rfl ?_
  refine zL_aload_n (j := 3) dL_law_1461 rfl rfl ?_
  refine zL_aload_n (j := 1) dL_law_1462 rfl rfl ?_
  refine zL_iload (j := 5) dL_law_1463 rfl ?_
  refine zL_iconst (v := 1) dL_law_1465 (by decide) ?_
  refine zL_iadd dL_law_1466 ?_
  obtain ⟨g449, h⟩ := zg_of h
  refine zL_iald dL_law_1467 g449 ?_
  obtain ⟨g450, h⟩ := zg_of h
  obtain ⟨r451, M452, e453, h⟩ := zb_of h
  refine zL_callM2i (As := [.int (xs (x4 + 1).toNatClampNeg)]) (rest := []) (vX8_errorAt l D T b2 false 1 (xs (x4 + 1).toNatClampNeg) M2 _ _ e453) zm_yX8_errorAt zl_RL_188 zi_yX8_errorAt ze_yX8_errorAt zcI8 g450 rfl rfl (zcs trivial (Nat.le_of_ble_eq_true rfl)) (by decide) (by omega) (by omega) dL_law_1468 ?_
  refine zL_istore [(6, .int r451), (5, .int r447), (0, .ref b0), (1, .ref (b1 + 1)), (2, .ref (b2 + 1)), (3, .ref ao), (4, .int x4)] dL_law_1471 (by decide) rfl ?_
  refine zL_aload_n (j := 4) dL_law_1473 rfl rfl ?_
  obtain ⟨g454, h⟩ := zg_of h
  obtain ⟨r455, M456, e457, h⟩ := zb_of h
  refine zL_callM2i (As := []) (rest := []) (vX8_thrown l D T b2 false 1 M452 _ _ e457) zm_yX8_thrown zl_RL_103 zi_yX8_thrown ze_yX8_thrown zcI8 g454 rfl rfl (zcs trivial (Nat.le_of_ble_eq_true rfl)) (by decide) (by omega) (by omega) dL_law_1474 ?_
  refine zL_iload (j := 1) dL_law_1477 rfl ?_
  refine zL_icmp_eq (tgt := 1484) dL_law_1479 (by decide) (fun c458 => ?_) (fun c458 => ?_)
  · replace h := z_t c458 h
    refine zL_iload (j := 1) dL_law_1484 rfl ?_
    refine zL_if_ne (tgt := 1501) dL_law_1486 (by decide) (fun c459 => ?_) (fun c459 => ?_)
    · replace h := z_f c459 h
      refine zL_pk [2, 3, 4, 5, 6] rfl ?_
      exact vW_1501 hl hc hs k hk x4 M445 M456 w446 h
    · replace h := z_t c459 h
      refine zL_aload_n (j := 5) dL_law_1489 rfl rfl ?_
      refine zL_iconst (v := 0) dL_law_1490 (by decide) ?_
      refine zL_lald dL_law_1491 ?_
      refine zL_iload (j := 0) dL_law_1492 rfl ?_
      refine zL_i2l dL_law_1494 ?_
      refine zL_lcmp dL_law_1495 ?_
      refine zL_if_eq (tgt := 1501) dL_law_1496 (by decide) (fun c460 => ?_) (fun c460 => ?_)
      · replace h := z_t c460 h
        refine zL_pk [2, 3, 4, 5, 6] rfl ?_
        exact vW_1501 hl hc hs k hk x4 M445 M456 w446 h
      · replace h := z_f c460 h
        refine zL_iconst (v := 0) dL_law_1499 (by decide) ?_
        exact absurd h (by decide)
  · replace h := z_f c458 h
    refine zL_iconst (v := 0) dL_law_1482 (by decide) ?_
    exact absurd h (by decide)
set_option maxHeartbeats 4000000 in
set_option maxRecDepth 100000 in
theorem vW_case25 {l : Launch} {D : va_G} {T : Nat → ClassId} {b0 L : Nat} {xs : Nat → Int32} {b1 b2 ao c0 s0 : Nat} (hl : l.stackTraces = false) (hc : c0 + 3 ≤ 601024) (hs : s0 + 18 ≤ 7293033) (k : Int32 → zM → zM → (Nat → Int64) → Option Int32) (hk : ∀ (z4 : Int32) (N1 N2 : zM) (w : Nat → Int64), k z4 N1 N2 w = some 1 → zL l D T b0 L xs b1 b2 ao (c0 + 3) (s0 + 18) 23 [(0, .ref b0), (1, .ref (b1 + 1)), (2, .ref (b2 + 1)), (3, .ref ao), (4, .int z4)] [] N1 N2 w) (x4 : Int32) (M1 M2 : zM) (w : Nat → Int64) (h : fW_case25 xs L k x4 M1 M2 w = some 1) : zL l D T b0 L xs b1 b2 ao c0 s0 1504 [(0, .ref b0), (1, .ref (b1 + 1)), (2, .ref (b2 + 1)), (3, .ref ao), (4, .int x4)] [] M1 M2 w := by
  unfold fW_case25 at h
  refine zL_aload_n (j := 1) dL_law_1504 rfl rfl ?_
  obtain ⟨g462, h⟩ := zg_of h
  obtain ⟨r463, M464, e465, h⟩ := zb_of h
  refine zL_callM1i (As := []) (rest := []) (vX7_normal l D T b1 false 1 M1 _ _ e465) zm_yX7_normal zl_RL_189 zi_yX7_normal ze_yX7_normal zcI7 g462 rfl rfl (zcs trivial (Nat.le_of_ble_eq_true rfl)) (by decide) (by omega) (by omega) dL_law_1505 ?_
  refine zL_aload_n (j := 2) dL_law_1508 rfl rfl ?_
  obtain ⟨g466, h⟩ := zg_of h
  obtain ⟨r467, M468, e469, h⟩ := zb_of h
  refine zL_callM2i (As := []) (rest := [.int r463]) (vX8_normal l D T b2 false 1 M2 _ _ e469) zm_yX8_normal zl_RL_192 zi_yX8_normal ze_yX8_normal zcI8 g466 rfl rfl (zcs ⟨rfl, trivial⟩ (Nat.le_of_ble_eq_true rfl)) (by decide) (by omega) (by omega) dL_law_1509 ?_
  refine zL_icmp_eq (tgt := 1686) dL_law_1512 (by decide) (fun c470 => ?_) (fun c470 => ?_)
  · replace h := z_t c470 h
    refine zL_pk [0, 1, 2, 3, 4] rfl ?_
    refine zL_wd (c0 + 3) (s0 + 18) (by omega) (by omega) ?_
    exact vW_1686 hl hc hs k hk x4 M464 M468 w h
  · replace h := z_f c470 h
    refine zL_iconst (v := 0) dL_law_1515 (by decide) ?_
    exact absurd h (by decide)
set_option maxHeartbeats 4000000 in
set_option maxRecDepth 100000 in
theorem vW_case26 {l : Launch} {D : va_G} {T : Nat → ClassId} {b0 L : Nat} {xs : Nat → Int32} {b1 b2 ao c0 s0 : Nat} (hl : l.stackTraces = false) (hc : c0 + 3 ≤ 601024) (hs : s0 + 18 ≤ 7293033) (k : Int32 → zM → zM → (Nat → Int64) → Option Int32) (hk : ∀ (z4 : Int32) (N1 N2 : zM) (w : Nat → Int64), k z4 N1 N2 w = some 1 → zL l D T b0 L xs b1 b2 ao (c0 + 3) (s0 + 18) 23 [(0, .ref b0), (1, .ref (b1 + 1)), (2, .ref (b2 + 1)), (3, .ref ao), (4, .int z4)] [] N1 N2 w) (x4 : Int32) (M1 M2 : zM) (w : Nat → Int64) (h : fW_case26 xs L k x4 M1 M2 w = some 1) : zL l D T b0 L xs b1 b2 ao c0 s0 1517 [(0, .ref b0), (1, .ref (b1 + 1)), (2, .ref (b2 + 1)), (3, .ref ao), (4, .int x4)] [] M1 M2 w := by
  unfold fW_case26 at h
  refine zL_aload_n (j := 1) dL_law_1517 rfl rfl ?_
  refine zL_aload_n (j := 0) dL_law_1518 rfl rfl ?_
  refine zL_iload (j := 4) dL_law_1519 rfl ?_
  refine zL_iconst (v := 1) dL_law_1521 (by decide) ?_
  refine zL_iadd dL_law_1522 ?_
  obtain ⟨g472, h⟩ := zg_of h
  refine zL_iald dL_law_1523 g472 ?_
  refine zL_aload_n (j := 3) dL_law_1524 rfl rfl ?_
  obtain ⟨r476, M474, w475, e477, h⟩ := zbh_of h
  refine zL_callH (n := 3) (As := [zr b1 1, .int (xs (x4 + 1).toNatClampNeg), .ref ao]) (rest := []) (fun hao => vL_normalSort l hl D T b1 ao 1 (xs (x4 + 1).toNatClampNeg) M1 w r476 M474 w475 hao e477) zg_yL_normalSort rfl ⟨by decide +kernel, by decide +kernel, by decide +kernel⟩ zl_RL_193 zs_yL_normalSort zK_RL rfl rfl (zcs trivial (Nat.le_of_ble_eq_true rfl)) ⟨by decide, by decide⟩ (by omega) (by omega) dL_law_1525 ?_
  refine zL_wd (c0 + 3) (s0 + 18) (by omega) (by omega) ?_
  refine zL_istore [(5, .int r476), (0, .ref b0), (1, .ref (b1 + 1)), (2, .ref (b2 + 1)), (3, .ref ao), (4, .int x4)] dL_law_1528 (by decide) rfl ?_
  refine zL_aload_n (j := 3) dL_law_1530 rfl rfl ?_
  refine zL_aload_n (j := 1) dL_law_1531 rfl rfl ?_
  refine zL_iload (j := 5) dL_law_1532 rfl ?_
  refine zL_iconst (v := 1) dL_law_1534 (by decide) ?_
  refine zL_iadd dL_law_1535 ?_
  obtain ⟨g478, h⟩ := zg_of h
  refine zL_iald dL_law_1536 g478 ?_
  obtain ⟨g479, h⟩ := zg_of h
  obtain ⟨r480, M481, e482, h⟩ := zb_of h
  refine zL_callM2i (As := [.int (xs (x4 + 1).toNatClampNeg)]) (rest := []) (vX8_normalSort l D T b2 false 1 (xs (x4 + 1).toNatClampNeg) M2 _ _ e482) zm_yX8_normalSort zl_RL_195 zi_yX8_normalSort ze_yX8_normalSort zcI8 g479 rfl rfl (zcs trivial (Nat.le_of_ble_eq_true rfl)) (by decide) (by omega) (by omega) dL_law_1537 ?_
  refine zL_istore [(6, .int r480), (5, .int r476), (0, .ref b0), (1, .ref (b1 + 1)), (2, .ref (b2 + 1)), (3, .ref ao), (4, .int x4)] dL_law_1540 (by decide) rfl ?_
  refine zL_aload_n (j := 4) dL_law_1542 rfl rfl ?_
  obtain ⟨g483, h⟩ := zg_of h
  obtain ⟨r484, M485, e486, h⟩ := zb_of h
  refine zL_callM2i (As := []) (rest := []) (vX8_thrown l D T b2 false 1 M481 _ _ e486) zm_yX8_thrown zl_RL_103 zi_yX8_thrown ze_yX8_thrown zcI8 g483 rfl rfl (zcs trivial (Nat.le_of_ble_eq_true rfl)) (by decide) (by omega) (by omega) dL_law_1543 ?_
  refine zL_iload (j := 1) dL_law_1546 rfl ?_
  refine zL_icmp_eq (tgt := 1553) dL_law_1548 (by decide) (fun c487 => ?_) (fun c487 => ?_)
  · replace h := z_t c487 h
    refine zL_iload (j := 1) dL_law_1553 rfl ?_
    refine zL_if_ne (tgt := 1570) dL_law_1555 (by decide) (fun c488 => ?_) (fun c488 => ?_)
    · replace h := z_f c488 h
      refine zL_pk [2, 3, 4, 5, 6] rfl ?_
      exact vW_1570 hl hc hs k hk x4 M474 M485 w475 h
    · replace h := z_t c488 h
      refine zL_aload_n (j := 5) dL_law_1558 rfl rfl ?_
      refine zL_iconst (v := 0) dL_law_1559 (by decide) ?_
      refine zL_lald dL_law_1560 ?_
      refine zL_iload (j := 0) dL_law_1561 rfl ?_
      refine zL_i2l dL_law_1563 ?_
      refine zL_lcmp dL_law_1564 ?_
      refine zL_if_eq (tgt := 1570) dL_law_1565 (by decide) (fun c489 => ?_) (fun c489 => ?_)
      · replace h := z_t c489 h
        refine zL_pk [2, 3, 4, 5, 6] rfl ?_
        exact vW_1570 hl hc hs k hk x4 M474 M485 w475 h
      · replace h := z_f c489 h
        refine zL_iconst (v := 0) dL_law_1568 (by decide) ?_
        exact absurd h (by decide)
  · replace h := z_f c487 h
    refine zL_iconst (v := 0) dL_law_1551 (by decide) ?_
    exact absurd h (by decide)
set_option maxHeartbeats 4000000 in
set_option maxRecDepth 100000 in
theorem vW_case27 {l : Launch} {D : va_G} {T : Nat → ClassId} {b0 L : Nat} {xs : Nat → Int32} {b1 b2 ao c0 s0 : Nat} (hl : l.stackTraces = false) (hc : c0 + 3 ≤ 601024) (hs : s0 + 18 ≤ 7293033) (k : Int32 → zM → zM → (Nat → Int64) → Option Int32) (hk : ∀ (z4 : Int32) (N1 N2 : zM) (w : Nat → Int64), k z4 N1 N2 w = some 1 → zL l D T b0 L xs b1 b2 ao (c0 + 3) (s0 + 18) 23 [(0, .ref b0), (1, .ref (b1 + 1)), (2, .ref (b2 + 1)), (3, .ref ao), (4, .int z4)] [] N1 N2 w) (x4 : Int32) (M1 M2 : zM) (w : Nat → Int64) (h : fW_case27 xs L k x4 M1 M2 w = some 1) : zL l D T b0 L xs b1 b2 ao c0 s0 1573 [(0, .ref b0), (1, .ref (b1 + 1)), (2, .ref (b2 + 1)), (3, .ref ao), (4, .int x4)] [] M1 M2 w := by
  unfold fW_case27 at h
  refine zL_aload_n (j := 1) dL_law_1573 rfl rfl ?_
  refine zL_aload_n (j := 0) dL_law_1574 rfl rfl ?_
  refine zL_iload (j := 4) dL_law_1575 rfl ?_
  refine zL_iconst (v := 1) dL_law_1577 (by decide) ?_
  refine zL_iadd dL_law_1578 ?_
  obtain ⟨g491, h⟩ := zg_of h
  refine zL_iald dL_law_1579 g491 ?_
  refine zL_aload_n (j := 3) dL_law_1580 rfl rfl ?_
  obtain ⟨r495, M493, w494, e496, h⟩ := zbh_of h
  refine zL_callH (n := 3) (As := [zr b1 1, .int (xs (x4 + 1).toNatClampNeg), .ref ao]) (rest := []) (fun hao => vL_normalValue l hl D T b1 ao 1 (xs (x4 + 1).toNatClampNeg) M1 w r495 M493 w494 hao e496) zg_yL_normalValue rfl ⟨by decide +kernel, by decide +kernel, by decide +kernel⟩ zl_RL_196 zs_yL_normalValue zK_RL rfl rfl (zcs trivial (Nat.le_of_ble_eq_true rfl)) ⟨by decide, by decide⟩ (by omega) (by omega) dL_law_1581 ?_
  refine zL_wd (c0 + 3) (s0 + 18) (by omega) (by omega) ?_
  refine zL_istore [(5, .int r495), (0, .ref b0), (1, .ref (b1 + 1)), (2, .ref (b2 + 1)), (3, .ref ao), (4, .int x4)] dL_law_1584 (by decide) rfl ?_
  refine zL_aload_n (j := 3) dL_law_1586 rfl rfl ?_
  refine zL_aload_n (j := 1) dL_law_1587 rfl rfl ?_
  refine zL_iload (j := 5) dL_law_1588 rfl ?_
  refine zL_iconst (v := 1) dL_law_1590 (by decide) ?_
  refine zL_iadd dL_law_1591 ?_
  obtain ⟨g497, h⟩ := zg_of h
  refine zL_iald dL_law_1592 g497 ?_
  obtain ⟨g498, h⟩ := zg_of h
  obtain ⟨r499, M500, e501, h⟩ := zb_of h
  refine zL_callM2i (As := [.int (xs (x4 + 1).toNatClampNeg)]) (rest := []) (vX8_normalValue l D T b2 false 1 (xs (x4 + 1).toNatClampNeg) M2 _ _ e501) zm_yX8_normalValue zl_RL_198 zi_yX8_normalValue ze_yX8_normalValue zcI8 g498 rfl rfl (zcs trivial (Nat.le_of_ble_eq_true rfl)) (by decide) (by omega) (by omega) dL_law_1593 ?_
  refine zL_istore [(6, .int r499), (5, .int r495), (0, .ref b0), (1, .ref (b1 + 1)), (2, .ref (b2 + 1)), (3, .ref ao), (4, .int x4)] dL_law_1596 (by decide) rfl ?_
  refine zL_aload_n (j := 4) dL_law_1598 rfl rfl ?_
  obtain ⟨g502, h⟩ := zg_of h
  obtain ⟨r503, M504, e505, h⟩ := zb_of h
  refine zL_callM2i (As := []) (rest := []) (vX8_thrown l D T b2 false 1 M500 _ _ e505) zm_yX8_thrown zl_RL_103 zi_yX8_thrown ze_yX8_thrown zcI8 g502 rfl rfl (zcs trivial (Nat.le_of_ble_eq_true rfl)) (by decide) (by omega) (by omega) dL_law_1599 ?_
  refine zL_iload (j := 1) dL_law_1602 rfl ?_
  refine zL_icmp_eq (tgt := 1609) dL_law_1604 (by decide) (fun c506 => ?_) (fun c506 => ?_)
  · replace h := z_t c506 h
    refine zL_iload (j := 1) dL_law_1609 rfl ?_
    refine zL_if_ne (tgt := 1626) dL_law_1611 (by decide) (fun c507 => ?_) (fun c507 => ?_)
    · replace h := z_f c507 h
      refine zL_pk [2, 3, 4, 5, 6] rfl ?_
      exact vW_1626 hl hc hs k hk x4 M493 M504 w494 h
    · replace h := z_t c507 h
      refine zL_aload_n (j := 5) dL_law_1614 rfl rfl ?_
      refine zL_iconst (v := 0) dL_law_1615 (by decide) ?_
      refine zL_lald dL_law_1616 ?_
      refine zL_iload (j := 0) dL_law_1617 rfl ?_
      refine zL_i2l dL_law_1619 ?_
      refine zL_lcmp dL_law_1620 ?_
      refine zL_if_eq (tgt := 1626) dL_law_1621 (by decide) (fun c508 => ?_) (fun c508 => ?_)
      · replace h := z_t c508 h
        refine zL_pk [2, 3, 4, 5, 6] rfl ?_
        exact vW_1626 hl hc hs k hk x4 M493 M504 w494 h
      · replace h := z_f c508 h
        refine zL_iconst (v := 0) dL_law_1624 (by decide) ?_
        exact absurd h (by decide)
  · replace h := z_f c506 h
    refine zL_iconst (v := 0) dL_law_1607 (by decide) ?_
    exact absurd h (by decide)
set_option maxHeartbeats 4000000 in
set_option maxRecDepth 100000 in
theorem vW_case28 {l : Launch} {D : va_G} {T : Nat → ClassId} {b0 L : Nat} {xs : Nat → Int32} {b1 b2 ao c0 s0 : Nat} (hl : l.stackTraces = false) (hc : c0 + 3 ≤ 601024) (hs : s0 + 18 ≤ 7293033) (k : Int32 → zM → zM → (Nat → Int64) → Option Int32) (hk : ∀ (z4 : Int32) (N1 N2 : zM) (w : Nat → Int64), k z4 N1 N2 w = some 1 → zL l D T b0 L xs b1 b2 ao (c0 + 3) (s0 + 18) 23 [(0, .ref b0), (1, .ref (b1 + 1)), (2, .ref (b2 + 1)), (3, .ref ao), (4, .int z4)] [] N1 N2 w) (x4 : Int32) (M1 M2 : zM) (w : Nat → Int64) (h : fW_case28 xs L k x4 M1 M2 w = some 1) : zL l D T b0 L xs b1 b2 ao c0 s0 1629 [(0, .ref b0), (1, .ref (b1 + 1)), (2, .ref (b2 + 1)), (3, .ref ao), (4, .int x4)] [] M1 M2 w := by
  unfold fW_case28 at h
  refine zL_aload_n (j := 1) dL_law_1629 rfl rfl ?_
  obtain ⟨g510, h⟩ := zg_of h
  obtain ⟨r511, M512, e513, h⟩ := zb_of h
  refine zL_callM1i (As := []) (rest := []) (vX7_isSame l D T b1 false 1 M1 _ _ e513) zm_yX7_isSame zl_RL_199 zi_yX7_isSame ze_yX7_isSame zcI7 g510 rfl rfl (zcs trivial (Nat.le_of_ble_eq_true rfl)) (by decide) (by omega) (by omega) dL_law_1630 ?_
  refine zL_aload_n (j := 2) dL_law_1633 rfl rfl ?_
  obtain ⟨g514, h⟩ := zg_of h
  obtain ⟨r515, M516, e517, h⟩ := zb_of h
  refine zL_callM2i (As := []) (rest := [.int r511]) (vX8_isSame l D T b2 false 1 M2 _ _ e517) zm_yX8_isSame zl_RL_203 zi_yX8_isSame ze_yX8_isSame zcI8 g514 rfl rfl (zcs ⟨rfl, trivial⟩ (Nat.le_of_ble_eq_true rfl)) (by decide) (by omega) (by omega) dL_law_1634 ?_
  refine zL_icmp_eq (tgt := 1686) dL_law_1637 (by decide) (fun c518 => ?_) (fun c518 => ?_)
  · replace h := z_t c518 h
    refine zL_pk [0, 1, 2, 3, 4] rfl ?_
    refine zL_wd (c0 + 3) (s0 + 18) (by omega) (by omega) ?_
    exact vW_1686 hl hc hs k hk x4 M512 M516 w h
  · replace h := z_f c518 h
    refine zL_iconst (v := 0) dL_law_1640 (by decide) ?_
    exact absurd h (by decide)
set_option maxHeartbeats 4000000 in
set_option maxRecDepth 100000 in
theorem vW_case29 {l : Launch} {D : va_G} {T : Nat → ClassId} {b0 L : Nat} {xs : Nat → Int32} {b1 b2 ao c0 s0 : Nat} (hl : l.stackTraces = false) (hc : c0 + 3 ≤ 601024) (hs : s0 + 18 ≤ 7293033) (k : Int32 → zM → zM → (Nat → Int64) → Option Int32) (hk : ∀ (z4 : Int32) (N1 N2 : zM) (w : Nat → Int64), k z4 N1 N2 w = some 1 → zL l D T b0 L xs b1 b2 ao (c0 + 3) (s0 + 18) 23 [(0, .ref b0), (1, .ref (b1 + 1)), (2, .ref (b2 + 1)), (3, .ref ao), (4, .int z4)] [] N1 N2 w) (x4 : Int32) (M1 M2 : zM) (w : Nat → Int64) (h : fW_case29 xs L k x4 M1 M2 w = some 1) : zL l D T b0 L xs b1 b2 ao c0 s0 1642 [(0, .ref b0), (1, .ref (b1 + 1)), (2, .ref (b2 + 1)), (3, .ref ao), (4, .int x4)] [] M1 M2 w := by
  unfold fW_case29 at h
  refine zL_aload_n (j := 1) dL_law_1642 rfl rfl ?_
  refine zL_aload_n (j := 3) dL_law_1643 rfl rfl ?_
  obtain ⟨r523, M521, w522, e524, h⟩ := zbh_of h
  refine zL_callH (n := 2) (As := [zr b1 1, .ref ao]) (rest := []) (fun hao => vL_ways l hl D T b1 ao 1 M1 w r523 M521 w522 hao e524) zg_yL_ways rfl ⟨by decide +kernel, by decide +kernel, by decide +kernel⟩ zl_RL_204 zs_yL_ways zK_RL rfl rfl (zcs trivial (Nat.le_of_ble_eq_true rfl)) ⟨by decide, by decide⟩ (by omega) (by omega) dL_law_1644 ?_
  refine zL_wd (c0 + 3) (s0 + 18) (by omega) (by omega) ?_
  refine zL_istore [(5, .int r523), (0, .ref b0), (1, .ref (b1 + 1)), (2, .ref (b2 + 1)), (3, .ref ao), (4, .int x4)] dL_law_1647 (by decide) rfl ?_
  refine zL_aload_n (j := 3) dL_law_1649 rfl rfl ?_
  obtain ⟨g525, h⟩ := zg_of h
  obtain ⟨r526, M527, e528, h⟩ := zb_of h
  refine zL_callM2i (As := []) (rest := []) (vX8_ways l D T b2 false 1 M2 _ _ e528) zm_yX8_ways zl_RL_206 zi_yX8_ways ze_yX8_ways zcI8 g525 rfl rfl (zcs trivial (Nat.le_of_ble_eq_true rfl)) (by decide) (by omega) (by omega) dL_law_1650 ?_
  refine zL_istore [(6, .int r526), (5, .int r523), (0, .ref b0), (1, .ref (b1 + 1)), (2, .ref (b2 + 1)), (3, .ref ao), (4, .int x4)] dL_law_1653 (by decide) rfl ?_
  refine zL_aload_n (j := 4) dL_law_1655 rfl rfl ?_
  obtain ⟨g529, h⟩ := zg_of h
  obtain ⟨r530, M531, e532, h⟩ := zb_of h
  refine zL_callM2i (As := []) (rest := []) (vX8_thrown l D T b2 false 1 M527 _ _ e532) zm_yX8_thrown zl_RL_103 zi_yX8_thrown ze_yX8_thrown zcI8 g529 rfl rfl (zcs trivial (Nat.le_of_ble_eq_true rfl)) (by decide) (by omega) (by omega) dL_law_1656 ?_
  refine zL_iload (j := 1) dL_law_1659 rfl ?_
  refine zL_icmp_eq (tgt := 1666) dL_law_1661 (by decide) (fun c533 => ?_) (fun c533 => ?_)
  · replace h := z_t c533 h
    refine zL_iload (j := 1) dL_law_1666 rfl ?_
    refine zL_if_ne (tgt := 1683) dL_law_1668 (by decide) (fun c534 => ?_) (fun c534 => ?_)
    · replace h := z_f c534 h
      refine zL_pk [2, 3, 4, 5, 6] rfl ?_
      exact vW_1683 hl hc hs k hk x4 M521 M531 w522 h
    · replace h := z_t c534 h
      refine zL_aload_n (j := 5) dL_law_1671 rfl rfl ?_
      refine zL_iconst (v := 0) dL_law_1672 (by decide) ?_
      refine zL_lald dL_law_1673 ?_
      refine zL_iload (j := 0) dL_law_1674 rfl ?_
      refine zL_i2l dL_law_1676 ?_
      refine zL_lcmp dL_law_1677 ?_
      refine zL_if_eq (tgt := 1683) dL_law_1678 (by decide) (fun c535 => ?_) (fun c535 => ?_)
      · replace h := z_t c535 h
        refine zL_pk [2, 3, 4, 5, 6] rfl ?_
        exact vW_1683 hl hc hs k hk x4 M521 M531 w522 h
      · replace h := z_f c535 h
        refine zL_iconst (v := 0) dL_law_1681 (by decide) ?_
        exact absurd h (by decide)
  · replace h := z_f c533 h
    refine zL_iconst (v := 0) dL_law_1664 (by decide) ?_
    exact absurd h (by decide)
set_option maxHeartbeats 4000000 in
set_option maxRecDepth 100000 in
theorem vW_b {l : Launch} {D : va_G} {T : Nat → ClassId} {b0 L : Nat} {xs : Nat → Int32} {b1 b2 ao c0 s0 : Nat} (hl : l.stackTraces = false) (hc : c0 + 3 ≤ 601024) (hs : s0 + 18 ≤ 7293033) (k : Int32 → zM → zM → (Nat → Int64) → Option Int32) (hk : ∀ (z4 : Int32) (N1 N2 : zM) (w : Nat → Int64), k z4 N1 N2 w = some 1 → zL l D T b0 L xs b1 b2 ao (c0 + 3) (s0 + 18) 23 [(0, .ref b0), (1, .ref (b1 + 1)), (2, .ref (b2 + 1)), (3, .ref ao), (4, .int z4)] [] N1 N2 w) (x4 : Int32) (M1 M2 : zM) (w : Nat → Int64) (h : fW_b xs L k x4 M1 M2 w = some 1) : zL l D T b0 L xs b1 b2 ao c0 s0 23 [(0, .ref b0), (1, .ref (b1 + 1)), (2, .ref (b2 + 1)), (3, .ref ao), (4, .int x4)] [] M1 M2 w := by
  unfold fW_b at h
  refine zL_iload (j := 4) dL_law_23 rfl ?_
  refine zL_aload_n (j := 0) dL_law_25 rfl rfl ?_
  refine zL_alen dL_law_26 ?_
  refine zL_iconst (v := 5) dL_law_27 (by decide) ?_
  refine zL_isub dL_law_28 ?_
  refine zL_icmp_gt (tgt := 1692) dL_law_29 (by decide) (fun c46 => ?_) (fun c46 => ?_)
  · replace h := z_t c46 h
    refine zL_iconst (v := 1) dL_law_1692 (by decide) ?_
    exact zL_end dL_law_1693 (by omega) (by omega)
  · replace h := z_f c46 h
    refine zL_aload_n (j := 0) dL_law_32 rfl rfl ?_
    refine zL_iload (j := 4) dL_law_33 rfl ?_
    obtain ⟨g47, h⟩ := zg_of h
    refine zL_iald dL_law_35 g47 ?_
    refine zL_bipush (v := 31) dL_law_36 (by decide) ?_
    refine zL_iand dL_law_38 ?_
    by_cases c48 : ((xs x4.toNatClampNeg) &&& 31) = 0
    · replace h := z_t c48 h
      refine zL_tin (v := 0) (tgt := 172) dL_law_39 c48 (by decide) (by decide) rfl (by decide) ?_
      refine zL_pk [0, 1, 2, 3, 4] rfl ?_
      exact vW_case0 hl hc hs k hk x4 M1 M2 w h
    · replace h := z_f c48 h
      by_cases c53 : ((xs x4.toNatClampNeg) &&& 31) = 1
      · replace h := z_t c53 h
        refine zL_tin (v := 1) (tgt := 280) dL_law_39 c53 (by decide) (by decide) rfl (by decide) ?_
        refine zL_pk [0, 1, 2, 3, 4] rfl ?_
        exact vW_case1 hl hc hs k hk x4 M1 M2 w h
      · replace h := z_f c53 h
        by_cases c72 : ((xs x4.toNatClampNeg) &&& 31) = 2
        · replace h := z_t c72 h
          refine zL_tin (v := 2) (tgt := 336) dL_law_39 c72 (by decide) (by decide) rfl (by decide) ?_
          refine zL_pk [0, 1, 2, 3, 4] rfl ?_
          exact vW_case2 hl hc hs k hk x4 M1 M2 w h
        · replace h := z_f c72 h
          by_cases c93 : ((xs x4.toNatClampNeg) &&& 31) = 3
          · replace h := z_t c93 h
            refine zL_tin (v := 3) (tgt := 396) dL_law_39 c93 (by decide) (by decide) rfl (by decide) ?_
            refine zL_pk [0, 1, 2, 3, 4] rfl ?_
            exact vW_case3 hl hc hs k hk x4 M1 M2 w h
          · replace h := z_f c93 h
            by_cases c97 : ((xs x4.toNatClampNeg) &&& 31) = 4
            · replace h := z_t c97 h
              refine zL_tin (v := 4) (tgt := 488) dL_law_39 c97 (by decide) (by decide) rfl (by decide) ?_
              refine zL_pk [0, 1, 2, 3, 4] rfl ?_
              exact vW_case4 hl hc hs k hk x4 M1 M2 w h
            · replace h := z_f c97 h
              by_cases c120 : ((xs x4.toNatClampNeg) &&& 31) = 5
              · replace h := z_t c120 h
                refine zL_tin (v := 5) (tgt := 568) dL_law_39 c120 (by decide) (by decide) rfl (by decide) ?_
                refine zL_pk [0, 1, 2, 3, 4] rfl ?_
                exact vW_case5 hl hc hs k hk x4 M1 M2 w h
              · replace h := z_f c120 h
                by_cases c139 : ((xs x4.toNatClampNeg) &&& 31) = 6
                · replace h := z_t c139 h
                  refine zL_tin (v := 6) (tgt := 624) dL_law_39 c139 (by decide) (by decide) rfl (by decide) ?_
                  refine zL_pk [0, 1, 2, 3, 4] rfl ?_
                  exact vW_case6 hl hc hs k hk x4 M1 M2 w h
                · replace h := z_f c139 h
                  by_cases c160 : ((xs x4.toNatClampNeg) &&& 31) = 7
                  · replace h := z_t c160 h
                    refine zL_tin (v := 7) (tgt := 692) dL_law_39 c160 (by decide) (by decide) rfl (by decide) ?_
                    refine zL_pk [0, 1, 2, 3, 4] rfl ?_
                    exact vW_case7 hl hc hs k hk x4 M1 M2 w h
                  · replace h := z_f c160 h
                    by_cases c183 : ((xs x4.toNatClampNeg) &&& 31) = 8
                    · replace h := z_t c183 h
                      refine zL_tin (v := 8) (tgt := 772) dL_law_39 c183 (by decide) (by decide) rfl (by decide) ?_
                      refine zL_pk [0, 1, 2, 3, 4] rfl ?_
                      exact vW_case8 hl hc hs k hk x4 M1 M2 w h
                    · replace h := z_f c183 h
                      by_cases c202 : ((xs x4.toNatClampNeg) &&& 31) = 9
                      · replace h := z_t c202 h
                        refine zL_tin (v := 9) (tgt := 828) dL_law_39 c202 (by decide) (by decide) rfl (by decide) ?_
                        refine zL_pk [0, 1, 2, 3, 4] rfl ?_
                        exact vW_case9 hl hc hs k hk x4 M1 M2 w h
                      · replace h := z_f c202 h
                        by_cases c219 : ((xs x4.toNatClampNeg) &&& 31) = 10
                        · replace h := z_t c219 h
                          refine zL_tin (v := 10) (tgt := 872) dL_law_39 c219 (by decide) (by decide) rfl (by decide) ?_
                          refine zL_pk [0, 1, 2, 3, 4] rfl ?_
                          exact vW_case10 hl hc hs k hk x4 M1 M2 w h
                        · replace h := z_f c219 h
                          by_cases c229 : ((xs x4.toNatClampNeg) &&& 31) = 11
                          · replace h := z_t c229 h
                            refine zL_tin (v := 11) (tgt := 885) dL_law_39 c229 (by decide) (by decide) rfl (by decide) ?_
                            refine zL_pk [0, 1, 2, 3, 4] rfl ?_
                            exact vW_case11 hl hc hs k hk x4 M1 M2 w h
                          · replace h := z_f c229 h
                            by_cases c239 : ((xs x4.toNatClampNeg) &&& 31) = 12
                            · replace h := z_t c239 h
                              refine zL_tin (v := 12) (tgt := 898) dL_law_39 c239 (by decide) (by decide) rfl (by decide) ?_
                              refine zL_pk [0, 1, 2, 3, 4] rfl ?_
                              exact vW_case12 hl hc hs k hk x4 M1 M2 w h
                            · replace h := z_f c239 h
                              by_cases c258 : ((xs x4.toNatClampNeg) &&& 31) = 13
                              · replace h := z_t c258 h
                                refine zL_tin (v := 13) (tgt := 954) dL_law_39 c258 (by decide) (by decide) rfl (by decide) ?_
                                refine zL_pk [0, 1, 2, 3, 4] rfl ?_
                                exact vW_case13 hl hc hs k hk x4 M1 M2 w h
                              · replace h := z_f c258 h
                                by_cases c277 : ((xs x4.toNatClampNeg) &&& 31) = 14
                                · replace h := z_t c277 h
                                  refine zL_tin (v := 14) (tgt := 1010) dL_law_39 c277 (by decide) (by decide) rfl (by decide) ?_
                                  refine zL_pk [0, 1, 2, 3, 4] rfl ?_
                                  exact vW_case14 hl hc hs k hk x4 M1 M2 w h
                                · replace h := z_f c277 h
                                  by_cases c296 : ((xs x4.toNatClampNeg) &&& 31) = 15
                                  · replace h := z_t c296 h
                                    refine zL_tin (v := 15) (tgt := 1066) dL_law_39 c296 (by decide) (by decide) rfl (by decide) ?_
                                    refine zL_pk [0, 1, 2, 3, 4] rfl ?_
                                    exact vW_case15 hl hc hs k hk x4 M1 M2 w h
                                  · replace h := z_f c296 h
                                    by_cases c306 : ((xs x4.toNatClampNeg) &&& 31) = 16
                                    · replace h := z_t c306 h
                                      refine zL_tin (v := 16) (tgt := 1079) dL_law_39 c306 (by decide) (by decide) rfl (by decide) ?_
                                      refine zL_pk [0, 1, 2, 3, 4] rfl ?_
                                      exact vW_case16 hl hc hs k hk x4 M1 M2 w h
                                    · replace h := z_f c306 h
                                      by_cases c325 : ((xs x4.toNatClampNeg) &&& 31) = 17
                                      · replace h := z_t c325 h
                                        refine zL_tin (v := 17) (tgt := 1135) dL_law_39 c325 (by decide) (by decide) rfl (by decide) ?_
                                        refine zL_pk [0, 1, 2, 3, 4] rfl ?_
                                        exact vW_case17 hl hc hs k hk x4 M1 M2 w h
                                      · replace h := z_f c325 h
                                        by_cases c344 : ((xs x4.toNatClampNeg) &&& 31) = 18
                                        · replace h := z_t c344 h
                                          refine zL_tin (v := 18) (tgt := 1191) dL_law_39 c344 (by decide) (by decide) rfl (by decide) ?_
                                          refine zL_pk [0, 1, 2, 3, 4] rfl ?_
                                          exact vW_case18 hl hc hs k hk x4 M1 M2 w h
                                        · replace h := z_f c344 h
                                          by_cases c363 : ((xs x4.toNatClampNeg) &&& 31) = 19
                                          · replace h := z_t c363 h
                                            refine zL_tin (v := 19) (tgt := 1247) dL_law_39 c363 (by decide) (by decide) rfl (by decide) ?_
                                            refine zL_pk [0, 1, 2, 3, 4] rfl ?_
                                            exact vW_case19 hl hc hs k hk x4 M1 M2 w h
                                          · replace h := z_f c363 h
                                            by_cases c382 : ((xs x4.toNatClampNeg) &&& 31) = 20
                                            · replace h := z_t c382 h
                                              refine zL_tin (v := 20) (tgt := 1303) dL_law_39 c382 (by decide) (by decide) rfl (by decide) ?_
                                              refine zL_pk [0, 1, 2, 3, 4] rfl ?_
                                              exact vW_case20 hl hc hs k hk x4 M1 M2 w h
                                            · replace h := z_f c382 h
                                              by_cases c403 : ((xs x4.toNatClampNeg) &&& 31) = 21
                                              · replace h := z_t c403 h
                                                refine zL_tin (v := 21) (tgt := 1366) dL_law_39 c403 (by decide) (by decide) rfl (by decide) ?_
                                                refine zL_pk [0, 1, 2, 3, 4] rfl ?_
                                                exact vW_case21 hl hc hs k hk x4 M1 M2 w h
                                              · replace h := z_f c403 h
                                                by_cases c413 : ((xs x4.toNatClampNeg) &&& 31) = 22
                                                · replace h := z_t c413 h
                                                  refine zL_tin (v := 22) (tgt := 1379) dL_law_39 c413 (by decide) (by decide) rfl (by decide) ?_
                                                  refine zL_pk [0, 1, 2, 3, 4] rfl ?_
                                                  exact vW_case22 hl hc hs k hk x4 M1 M2 w h
                                                · replace h := z_f c413 h
                                                  by_cases c423 : ((xs x4.toNatClampNeg) &&& 31) = 23
                                                  · replace h := z_t c423 h
                                                    refine zL_tin (v := 23) (tgt := 1392) dL_law_39 c423 (by decide) (by decide) rfl (by decide) ?_
                                                    refine zL_pk [0, 1, 2, 3, 4] rfl ?_
                                                    exact vW_case23 hl hc hs k hk x4 M1 M2 w h
                                                  · replace h := z_f c423 h
                                                    by_cases c442 : ((xs x4.toNatClampNeg) &&& 31) = 24
                                                    · replace h := z_t c442 h
                                                      refine zL_tin (v := 24) (tgt := 1448) dL_law_39 c442 (by decide) (by decide) rfl (by decide) ?_
                                                      refine zL_pk [0, 1, 2, 3, 4] rfl ?_
                                                      exact vW_case24 hl hc hs k hk x4 M1 M2 w h
                                                    · replace h := z_f c442 h
                                                      by_cases c461 : ((xs x4.toNatClampNeg) &&& 31) = 25
                                                      · replace h := z_t c461 h
                                                        refine zL_tin (v := 25) (tgt := 1504) dL_law_39 c461 (by decide) (by decide) rfl (by decide) ?_
                                                        refine zL_pk [0, 1, 2, 3, 4] rfl ?_
                                                        exact vW_case25 hl hc hs k hk x4 M1 M2 w h
                                                      · replace h := z_f c461 h
                                                        by_cases c471 : ((xs x4.toNatClampNeg) &&& 31) = 26
                                                        · replace h := z_t c471 h
                                                          refine zL_tin (v := 26) (tgt := 1517) dL_law_39 c471 (by decide) (by decide) rfl (by decide) ?_
                                                          refine zL_pk [0, 1, 2, 3, 4] rfl ?_
                                                          exact vW_case26 hl hc hs k hk x4 M1 M2 w h
                                                        · replace h := z_f c471 h
                                                          by_cases c490 : ((xs x4.toNatClampNeg) &&& 31) = 27
                                                          · replace h := z_t c490 h
                                                            refine zL_tin (v := 27) (tgt := 1573) dL_law_39 c490 (by decide) (by decide) rfl (by decide) ?_
                                                            refine zL_pk [0, 1, 2, 3, 4] rfl ?_
                                                            exact vW_case27 hl hc hs k hk x4 M1 M2 w h
                                                          · replace h := z_f c490 h
                                                            by_cases c509 : ((xs x4.toNatClampNeg) &&& 31) = 28
                                                            · replace h := z_t c509 h
                                                              refine zL_tin (v := 28) (tgt := 1629) dL_law_39 c509 (by decide) (by decide) rfl (by decide) ?_
                                                              refine zL_pk [0, 1, 2, 3, 4] rfl ?_
                                                              exact vW_case28 hl hc hs k hk x4 M1 M2 w h
                                                            · replace h := z_f c509 h
                                                              by_cases c519 : ((xs x4.toNatClampNeg) &&& 31) = 29
                                                              · replace h := z_t c519 h
                                                                refine zL_tin (v := 29) (tgt := 1642) dL_law_39 c519 (by decide) (by decide) rfl (by decide) ?_
                                                                refine zL_pk [0, 1, 2, 3, 4] rfl ?_
                                                                exact vW_case29 hl hc hs k hk x4 M1 M2 w h
                                                              · replace h := z_f c519 h
                                                                refine zL_tout (tgt := 1686) dL_law_39 (z_out_0_29 c48 c53 c72 c93 c97 c120 c139 c160 c183 c202 c219 c229 c239 c258 c277 c296 c306 c325 c344 c363 c382 c403 c413 c423 c442 c461 c471 c490 c509 c519) (by decide) ?_
                                                                refine zL_pk [0, 1, 2, 3, 4] rfl ?_
                                                                refine zL_wd (c0 + 3) (s0 + 18) (by omega) (by omega) ?_
                                                                exact vW_1686 hl hc hs k hk x4 M1 M2 w h
theorem vW {l : Launch} {D : va_G} {T : Nat → ClassId} {b0 L : Nat} {xs : Nat → Int32} {b1 b2 ao : Nat} (hl : l.stackTraces = false) : ∀ (n c0 s0 : Nat), c0 + 3 * n ≤ 601024 → s0 + 18 * n ≤ 7293033 → ∀ (x4 : Int32) (M1 M2 : zM) (w : Nat → Int64), fW xs L n x4 M1 M2 w = some 1 → zL l D T b0 L xs b1 b2 ao c0 s0 23 [(0, .ref b0), (1, .ref (b1 + 1)), (2, .ref (b2 + 1)), (3, .ref ao), (4, .int x4)] [] M1 M2 w := by
  intro n
  induction n with
  | zero =>
    intro c0 s0 _ _ x4 M1 M2 w h
    rw [fW] at h
    cases h
  | succ n ih =>
    intro c0 s0 hc hs x4 M1 M2 w h
    rw [fW] at h
    exact vW_b hl (by omega) (by omega) (fW xs L n) (fun z4 N1 N2 w9 h9 => ih (c0 + 3) (s0 + 18) (by omega) (by omega) z4 N1 N2 w9 h9) x4 M1 M2 w h
