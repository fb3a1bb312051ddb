/-! THE CLASS'S REGION as its constructor leaves it: cells 1 .. 504 -/
set_option maxRecDepth 1000000 in
theorem qC1_0 : (fX7_init 1 (qM0 7)).map (fun q => q.1) = some 0 := by decide +kernel
theorem qC1_is : fX7_init 1 (qM0 7) = some (0, qC1) := by
  have h := qC1_0
  unfold qC1
  cases e : fX7_init 1 (qM0 7) with
  | none => rw [e] at h; cases h
  | some q => rw [e] at h; simp at h; rw [← h]
set_option maxRecDepth 1000000 in
theorem qC1_n : qC1.2.2.2 = 504 := by decide +kernel
set_option maxRecDepth 1000000 in
theorem qC1_sw : qC1.2.1 91 12 = 104 ∧ qC1.2.1 91 13 = 105 := by decide +kernel
def qCR (w : Bool) (a k : Nat) : Nat := if a = 91 ∧ k = 12 then (if w = true then 105 else 104) else if a = 91 ∧ k = 13 then (if w = true then 104 else 105) else qC1.2.1 a k
/-- ints, and which of the two rows of states is the one of now -/
def qCH : Nat → Nat × Nat := qC1.2.2.1
def qC (w : Bool) (I : Nat → Nat → Int32) : zM := (I, qCR w, qCH, 504)
theorem qC1_eq : qC1 = qC false qC1.1 := by
  unfold qC qCH
  have h : qCR false = qC1.2.1 := by
    funext a k
    unfold qCR
    by_cases h1 : a = 91 ∧ k = 12
    · rw [if_pos h1, h1.1, h1.2, qC1_sw.1]; rfl
    · rw [if_neg h1]
      by_cases h2 : a = 91 ∧ k = 13
      · rw [if_pos h2, h2.1, h2.2, qC1_sw.2]; rfl
      · rw [if_neg h2]
  rw [h, ← qC1_n]
theorem qC_I (w : Bool) (I : Nat → Nat → Int32) (a k : Nat) : zI (qC w I) a k = I a k := rfl
def qU (I : Nat → Nat → Int32) (a k : Nat) (v : Int32) : Nat → Nat → Int32 := fun x y => if x = a ∧ y = k then v else I x y
theorem qC_s (w : Bool) (I : Nat → Nat → Int32) (a k : Nat) (v : Int32) : zsI (qC w I) a k v = qC w (qU I a k v) := rfl
theorem qU_s (I : Nat → Nat → Int32) (a k : Nat) (v : Int32) : qU I a k v a k = v := if_pos ⟨rfl, rfl⟩
theorem qU_a {I : Nat → Nat → Int32} {a k x y : Nat} {v : Int32} (h : x ≠ a) : qU I a k v x y = I x y := if_neg fun e => h e.1
theorem qU_k {I : Nat → Nat → Int32} {a k x y : Nat} {v : Int32} (h : y ≠ k) : qU I a k v x y = I x y := if_neg fun e => h e.2
theorem qU_r {I : Nat → Nat → Int32} {a k x : Nat} {v : Int32} (h : x ≠ a) : qU I a k v x = I x := funext fun _ => qU_a h
theorem qC_k0 {w : Bool} {I : Nat → Nat → Int32} {a c n : Nat} (h : qCH a = (c, n)) (h1 : 1 ≤ a) (h2 : a ≤ 504) : zk (qC w I) a = c := by
  unfold zk qC
  dsimp only
  rw [if_pos ⟨h1, h2⟩, h]
theorem qC_l0 {w : Bool} {I : Nat → Nat → Int32} {a c n : Nat} (h : qCH a = (c, n)) : zl (qC w I) a = n := by
  unfold zl qC
  dsimp only
  rw [h]
theorem qC_r0 {w : Bool} {I : Nat → Nat → Int32} {a k v : Nat} (h : qC1.2.1 a k = v) (h1 : ¬ (a = 91 ∧ k = 12)) (h2 : ¬ (a = 91 ∧ k = 13)) : zR (qC w I) a k = v := by
  unfold zR qC qCR
  dsimp only
  rw [if_neg h1, if_neg h2, h]
theorem qU_same {I : Nat → Nat → Int32} {a k : Nat} {v : Int32} (h : I a k = v) : qU I a k v = I := by
  funext x y
  unfold qU
  split
  next e => rw [e.1, e.2, h]
  next => rfl
/-- the two rows of states change places -/
theorem qC_swap (w : Bool) (I : Nat → Nat → Int32) : zsR (zsR (qC w I) 91 13 (if w = true then 105 else 104)) 91 12 (if w = true then 104 else 105) = qC (!w) I := by
  unfold qC zsR
  dsimp only
  have h : (fun x y => if x = 91 ∧ y = 12 then (if w = true then 104 else 105) else (if x = 91 ∧ y = 13 then (if w = true then 105 else 104) else qCR w x y)) = qCR (!w) := by
    funext x y
    unfold qCR
    by_cases h1 : x = 91 ∧ y = 12
    · rw [if_pos h1, if_pos h1]; cases w <;> rfl
    · rw [if_neg h1, if_neg h1]
      by_cases h2 : x = 91 ∧ y = 13
      · rw [if_pos h2, if_neg h1, if_pos h2]; cases w <;> rfl
      · rw [if_neg h2, if_neg h1, if_neg h2, if_neg h2]
  exact congrArg (fun f => (I, f, qCH, 504)) h
set_option maxRecDepth 1000000 in
theorem qtK0 : qCH 1 = (7, 0) ∧ qCH 2 = (0, 0) ∧ qCH 3 = (110, 10) ∧ qCH 4 = (100, 10) ∧ qCH 5 = (100, 10) ∧ qCH 6 = (101, 10) ∧ qCH 7 = (101, 10) ∧ qCH 68 = (3, 0) ∧ qCH 69 = (100, 60) ∧ qCH 70 = (100, 60) := by decide +kernel
set_option maxRecDepth 1000000 in
theorem qtK1 : qCH 71 = (111, 6) ∧ qCH 72 = (100, 4) ∧ qCH 91 = (2, 0) ∧ qCH 92 = (5, 0) ∧ qCH 93 = (100, 300) ∧ qCH 94 = (100, 300) ∧ qCH 95 = (102, 300) ∧ qCH 96 = (100, 300) ∧ qCH 97 = (101, 300) ∧ qCH 98 = (3, 0) := by decide +kernel
set_option maxRecDepth 1000000 in
theorem qtK2 : qCH 99 = (100, 600) ∧ qCH 100 = (100, 600) ∧ qCH 101 = (100, 4920) ∧ qCH 102 = (100, 4920) ∧ qCH 103 = (100, 20) ∧ qCH 104 = (112, 61) ∧ qCH 105 = (112, 61) ∧ qCH 106 = (100, 2) ∧ qCH 107 = (4, 0) ∧ qCH 108 = (100, 20) := by decide +kernel
set_option maxRecDepth 1000000 in
theorem qtK3 : qCH 109 = (100, 20) ∧ qCH 476 = (6, 0) ∧ qCH 477 = (112, 9) := by decide +kernel
set_option maxRecDepth 1000000 in
theorem qtR0 : qC1.2.1 1 0 = 2 ∧ qC1.2.1 1 1 = 68 ∧ qC1.2.1 1 2 = 71 ∧ qC1.2.1 1 3 = 72 ∧ qC1.2.1 1 4 = 91 ∧ qC1.2.1 1 5 = 476 ∧ qC1.2.1 2 0 = 3 ∧ qC1.2.1 2 1 = 4 ∧ qC1.2.1 2 2 = 5 ∧ qC1.2.1 2 3 = 6 := by decide +kernel
set_option maxRecDepth 1000000 in
theorem qtR1 : qC1.2.1 2 4 = 7 ∧ qC1.2.1 68 0 = 69 ∧ qC1.2.1 68 1 = 70 ∧ qC1.2.1 91 0 = 2 ∧ qC1.2.1 91 1 = 68 ∧ qC1.2.1 91 2 = 71 ∧ qC1.2.1 91 3 = 72 ∧ qC1.2.1 91 4 = 92 ∧ qC1.2.1 91 5 = 98 ∧ qC1.2.1 91 6 = 101 := by decide +kernel
set_option maxRecDepth 1000000 in
theorem qtR2 : qC1.2.1 91 7 = 102 ∧ qC1.2.1 91 10 = 107 ∧ qC1.2.1 91 11 = 103 ∧ qC1.2.1 91 14 = 106 ∧ qC1.2.1 92 0 = 93 ∧ qC1.2.1 92 1 = 94 ∧ qC1.2.1 92 2 = 95 ∧ qC1.2.1 92 3 = 96 ∧ qC1.2.1 92 4 = 97 ∧ qC1.2.1 98 0 = 99 := by decide +kernel
set_option maxRecDepth 1000000 in
theorem qtR3 : qC1.2.1 98 1 = 100 ∧ qC1.2.1 107 0 = 2 ∧ qC1.2.1 107 1 = 108 ∧ qC1.2.1 107 2 = 109 ∧ qC1.2.1 476 0 = 2 ∧ qC1.2.1 476 1 = 68 ∧ qC1.2.1 476 2 = 477 := by decide +kernel
theorem qk_1 (w : Bool) (I : Nat → Nat → Int32) : zk (qC w I) 1 = 7 := qC_k0 (n := 0) qtK0.1 (by decide) (by decide)
theorem qk_2 (w : Bool) (I : Nat → Nat → Int32) : zk (qC w I) 2 = 0 := qC_k0 (n := 0) qtK0.2.1 (by decide) (by decide)
theorem qk_3 (w : Bool) (I : Nat → Nat → Int32) : zk (qC w I) 3 = 110 := qC_k0 (n := 10) qtK0.2.2.1 (by decide) (by decide)
theorem ql_3 (w : Bool) (I : Nat → Nat → Int32) : zl (qC w I) 3 = 10 := qC_l0 (c := 110) qtK0.2.2.1
theorem qk_4 (w : Bool) (I : Nat → Nat → Int32) : zk (qC w I) 4 = 100 := qC_k0 (n := 10) qtK0.2.2.2.1 (by decide) (by decide)
theorem ql_4 (w : Bool) (I : Nat → Nat → Int32) : zl (qC w I) 4 = 10 := qC_l0 (c := 100) qtK0.2.2.2.1
theorem qk_5 (w : Bool) (I : Nat → Nat → Int32) : zk (qC w I) 5 = 100 := qC_k0 (n := 10) qtK0.2.2.2.2.1 (by decide) (by decide)
theorem ql_5 (w : Bool) (I : Nat → Nat → Int32) : zl (qC w I) 5 = 10 := qC_l0 (c := 100) qtK0.2.2.2.2.1
theorem qk_6 (w : Bool) (I : Nat → Nat → Int32) : zk (qC w I) 6 = 101 := qC_k0 (n := 10) qtK0.2.2.2.2.2.1 (by decide) (by decide)
theorem ql_6 (w : Bool) (I : Nat → Nat → Int32) : zl (qC w I) 6 = 10 := qC_l0 (c := 101) qtK0.2.2.2.2.2.1
theorem qk_7 (w : Bool) (I : Nat → Nat → Int32) : zk (qC w I) 7 = 101 := qC_k0 (n := 10) qtK0.2.2.2.2.2.2.1 (by decide) (by decide)
theorem ql_7 (w : Bool) (I : Nat → Nat → Int32) : zl (qC w I) 7 = 10 := qC_l0 (c := 101) qtK0.2.2.2.2.2.2.1
theorem qk_68 (w : Bool) (I : Nat → Nat → Int32) : zk (qC w I) 68 = 3 := qC_k0 (n := 0) qtK0.2.2.2.2.2.2.2.1 (by decide) (by decide)
theorem qk_69 (w : Bool) (I : Nat → Nat → Int32) : zk (qC w I) 69 = 100 := qC_k0 (n := 60) qtK0.2.2.2.2.2.2.2.2.1 (by decide) (by decide)
theorem ql_69 (w : Bool) (I : Nat → Nat → Int32) : zl (qC w I) 69 = 60 := qC_l0 (c := 100) qtK0.2.2.2.2.2.2.2.2.1
theorem qk_70 (w : Bool) (I : Nat → Nat → Int32) : zk (qC w I) 70 = 100 := qC_k0 (n := 60) qtK0.2.2.2.2.2.2.2.2.2 (by decide) (by decide)
theorem ql_70 (w : Bool) (I : Nat → Nat → Int32) : zl (qC w I) 70 = 60 := qC_l0 (c := 100) qtK0.2.2.2.2.2.2.2.2.2
theorem qk_71 (w : Bool) (I : Nat → Nat → Int32) : zk (qC w I) 71 = 111 := qC_k0 (n := 6) qtK1.1 (by decide) (by decide)
theorem ql_71 (w : Bool) (I : Nat → Nat → Int32) : zl (qC w I) 71 = 6 := qC_l0 (c := 111) qtK1.1
theorem qk_72 (w : Bool) (I : Nat → Nat → Int32) : zk (qC w I) 72 = 100 := qC_k0 (n := 4) qtK1.2.1 (by decide) (by decide)
theorem ql_72 (w : Bool) (I : Nat → Nat → Int32) : zl (qC w I) 72 = 4 := qC_l0 (c := 100) qtK1.2.1
theorem qk_91 (w : Bool) (I : Nat → Nat → Int32) : zk (qC w I) 91 = 2 := qC_k0 (n := 0) qtK1.2.2.1 (by decide) (by decide)
theorem qk_92 (w : Bool) (I : Nat → Nat → Int32) : zk (qC w I) 92 = 5 := qC_k0 (n := 0) qtK1.2.2.2.1 (by decide) (by decide)
theorem qk_93 (w : Bool) (I : Nat → Nat → Int32) : zk (qC w I) 93 = 100 := qC_k0 (n := 300) qtK1.2.2.2.2.1 (by decide) (by decide)
theorem ql_93 (w : Bool) (I : Nat → Nat → Int32) : zl (qC w I) 93 = 300 := qC_l0 (c := 100) qtK1.2.2.2.2.1
theorem qk_94 (w : Bool) (I : Nat → Nat → Int32) : zk (qC w I) 94 = 100 := qC_k0 (n := 300) qtK1.2.2.2.2.2.1 (by decide) (by decide)
theorem ql_94 (w : Bool) (I : Nat → Nat → Int32) : zl (qC w I) 94 = 300 := qC_l0 (c := 100) qtK1.2.2.2.2.2.1
theorem qk_95 (w : Bool) (I : Nat → Nat → Int32) : zk (qC w I) 95 = 102 := qC_k0 (n := 300) qtK1.2.2.2.2.2.2.1 (by decide) (by decide)
theorem ql_95 (w : Bool) (I : Nat → Nat → Int32) : zl (qC w I) 95 = 300 := qC_l0 (c := 102) qtK1.2.2.2.2.2.2.1
theorem qk_96 (w : Bool) (I : Nat → Nat → Int32) : zk (qC w I) 96 = 100 := qC_k0 (n := 300) qtK1.2.2.2.2.2.2.2.1 (by decide) (by decide)
theorem ql_96 (w : Bool) (I : Nat → Nat → Int32) : zl (qC w I) 96 = 300 := qC_l0 (c := 100) qtK1.2.2.2.2.2.2.2.1
theorem qk_97 (w : Bool) (I : Nat → Nat → Int32) : zk (qC w I) 97 = 101 := qC_k0 (n := 300) qtK1.2.2.2.2.2.2.2.2.1 (by decide) (by decide)
theorem ql_97 (w : Bool) (I : Nat → Nat → Int32) : zl (qC w I) 97 = 300 := qC_l0 (c := 101) qtK1.2.2.2.2.2.2.2.2.1
theorem qk_98 (w : Bool) (I : Nat → Nat → Int32) : zk (qC w I) 98 = 3 := qC_k0 (n := 0) qtK1.2.2.2.2.2.2.2.2.2 (by decide) (by decide)
theorem qk_99 (w : Bool) (I : Nat → Nat → Int32) : zk (qC w I) 99 = 100 := qC_k0 (n := 600) qtK2.1 (by decide) (by decide)
theorem ql_99 (w : Bool) (I : Nat → Nat → Int32) : zl (qC w I) 99 = 600 := qC_l0 (c := 100) qtK2.1
theorem qk_100 (w : Bool) (I : Nat → Nat → Int32) : zk (qC w I) 100 = 100 := qC_k0 (n := 600) qtK2.2.1 (by decide) (by decide)
theorem ql_100 (w : Bool) (I : Nat → Nat → Int32) : zl (qC w I) 100 = 600 := qC_l0 (c := 100) qtK2.2.1
theorem qk_101 (w : Bool) (I : Nat → Nat → Int32) : zk (qC w I) 101 = 100 := qC_k0 (n := 4920) qtK2.2.2.1 (by decide) (by decide)
theorem ql_101 (w : Bool) (I : Nat → Nat → Int32) : zl (qC w I) 101 = 4920 := qC_l0 (c := 100) qtK2.2.2.1
theorem qk_102 (w : Bool) (I : Nat → Nat → Int32) : zk (qC w I) 102 = 100 := qC_k0 (n := 4920) qtK2.2.2.2.1 (by decide) (by decide)
theorem ql_102 (w : Bool) (I : Nat → Nat → Int32) : zl (qC w I) 102 = 4920 := qC_l0 (c := 100) qtK2.2.2.2.1
theorem qk_103 (w : Bool) (I : Nat → Nat → Int32) : zk (qC w I) 103 = 100 := qC_k0 (n := 20) qtK2.2.2.2.2.1 (by decide) (by decide)
theorem ql_103 (w : Bool) (I : Nat → Nat → Int32) : zl (qC w I) 103 = 20 := qC_l0 (c := 100) qtK2.2.2.2.2.1
theorem qk_104 (w : Bool) (I : Nat → Nat → Int32) : zk (qC w I) 104 = 112 := qC_k0 (n := 61) qtK2.2.2.2.2.2.1 (by decide) (by decide)
theorem ql_104 (w : Bool) (I : Nat → Nat → Int32) : zl (qC w I) 104 = 61 := qC_l0 (c := 112) qtK2.2.2.2.2.2.1
theorem qk_105 (w : Bool) (I : Nat → Nat → Int32) : zk (qC w I) 105 = 112 := qC_k0 (n := 61) qtK2.2.2.2.2.2.2.1 (by decide) (by decide)
theorem ql_105 (w : Bool) (I : Nat → Nat → Int32) : zl (qC w I) 105 = 61 := qC_l0 (c := 112) qtK2.2.2.2.2.2.2.1
theorem qk_106 (w : Bool) (I : Nat → Nat → Int32) : zk (qC w I) 106 = 100 := qC_k0 (n := 2) qtK2.2.2.2.2.2.2.2.1 (by decide) (by decide)
theorem ql_106 (w : Bool) (I : Nat → Nat → Int32) : zl (qC w I) 106 = 2 := qC_l0 (c := 100) qtK2.2.2.2.2.2.2.2.1
theorem qk_107 (w : Bool) (I : Nat → Nat → Int32) : zk (qC w I) 107 = 4 := qC_k0 (n := 0) qtK2.2.2.2.2.2.2.2.2.1 (by decide) (by decide)
theorem qk_108 (w : Bool) (I : Nat → Nat → Int32) : zk (qC w I) 108 = 100 := qC_k0 (n := 20) qtK2.2.2.2.2.2.2.2.2.2 (by decide) (by decide)
theorem ql_108 (w : Bool) (I : Nat → Nat → Int32) : zl (qC w I) 108 = 20 := qC_l0 (c := 100) qtK2.2.2.2.2.2.2.2.2.2
theorem qk_109 (w : Bool) (I : Nat → Nat → Int32) : zk (qC w I) 109 = 100 := qC_k0 (n := 20) qtK3.1 (by decide) (by decide)
theorem ql_109 (w : Bool) (I : Nat → Nat → Int32) : zl (qC w I) 109 = 20 := qC_l0 (c := 100) qtK3.1
theorem qk_476 (w : Bool) (I : Nat → Nat → Int32) : zk (qC w I) 476 = 6 := qC_k0 (n := 0) qtK3.2.1 (by decide) (by decide)
theorem qk_477 (w : Bool) (I : Nat → Nat → Int32) : zk (qC w I) 477 = 112 := qC_k0 (n := 9) qtK3.2.2 (by decide) (by decide)
theorem ql_477 (w : Bool) (I : Nat → Nat → Int32) : zl (qC w I) 477 = 9 := qC_l0 (c := 112) qtK3.2.2
theorem qr_1_0 (w : Bool) (I : Nat → Nat → Int32) : zR (qC w I) 1 0 = 2 := qC_r0 qtR0.1 (by decide) (by decide)
theorem qr_1_1 (w : Bool) (I : Nat → Nat → Int32) : zR (qC w I) 1 1 = 68 := qC_r0 qtR0.2.1 (by decide) (by decide)
theorem qr_1_2 (w : Bool) (I : Nat → Nat → Int32) : zR (qC w I) 1 2 = 71 := qC_r0 qtR0.2.2.1 (by decide) (by decide)
theorem qr_1_3 (w : Bool) (I : Nat → Nat → Int32) : zR (qC w I) 1 3 = 72 := qC_r0 qtR0.2.2.2.1 (by decide) (by decide)
theorem qr_1_4 (w : Bool) (I : Nat → Nat → Int32) : zR (qC w I) 1 4 = 91 := qC_r0 qtR0.2.2.2.2.1 (by decide) (by decide)
theorem qr_1_5 (w : Bool) (I : Nat → Nat → Int32) : zR (qC w I) 1 5 = 476 := qC_r0 qtR0.2.2.2.2.2.1 (by decide) (by decide)
theorem qr_2_0 (w : Bool) (I : Nat → Nat → Int32) : zR (qC w I) 2 0 = 3 := qC_r0 qtR0.2.2.2.2.2.2.1 (by decide) (by decide)
theorem qr_2_1 (w : Bool) (I : Nat → Nat → Int32) : zR (qC w I) 2 1 = 4 := qC_r0 qtR0.2.2.2.2.2.2.2.1 (by decide) (by decide)
theorem qr_2_2 (w : Bool) (I : Nat → Nat → Int32) : zR (qC w I) 2 2 = 5 := qC_r0 qtR0.2.2.2.2.2.2.2.2.1 (by decide) (by decide)
theorem qr_2_3 (w : Bool) (I : Nat → Nat → Int32) : zR (qC w I) 2 3 = 6 := qC_r0 qtR0.2.2.2.2.2.2.2.2.2 (by decide) (by decide)
theorem qr_2_4 (w : Bool) (I : Nat → Nat → Int32) : zR (qC w I) 2 4 = 7 := qC_r0 qtR1.1 (by decide) (by decide)
theorem qr_68_0 (w : Bool) (I : Nat → Nat → Int32) : zR (qC w I) 68 0 = 69 := qC_r0 qtR1.2.1 (by decide) (by decide)
theorem qr_68_1 (w : Bool) (I : Nat → Nat → Int32) : zR (qC w I) 68 1 = 70 := qC_r0 qtR1.2.2.1 (by decide) (by decide)
theorem qr_91_0 (w : Bool) (I : Nat → Nat → Int32) : zR (qC w I) 91 0 = 2 := qC_r0 qtR1.2.2.2.1 (by decide) (by decide)
theorem qr_91_1 (w : Bool) (I : Nat → Nat → Int32) : zR (qC w I) 91 1 = 68 := qC_r0 qtR1.2.2.2.2.1 (by decide) (by decide)
theorem qr_91_2 (w : Bool) (I : Nat → Nat → Int32) : zR (qC w I) 91 2 = 71 := qC_r0 qtR1.2.2.2.2.2.1 (by decide) (by decide)
theorem qr_91_3 (w : Bool) (I : Nat → Nat → Int32) : zR (qC w I) 91 3 = 72 := qC_r0 qtR1.2.2.2.2.2.2.1 (by decide) (by decide)
theorem qr_91_4 (w : Bool) (I : Nat → Nat → Int32) : zR (qC w I) 91 4 = 92 := qC_r0 qtR1.2.2.2.2.2.2.2.1 (by decide) (by decide)
theorem qr_91_5 (w : Bool) (I : Nat → Nat → Int32) : zR (qC w I) 91 5 = 98 := qC_r0 qtR1.2.2.2.2.2.2.2.2.1 (by decide) (by decide)
theorem qr_91_6 (w : Bool) (I : Nat → Nat → Int32) : zR (qC w I) 91 6 = 101 := qC_r0 qtR1.2.2.2.2.2.2.2.2.2 (by decide) (by decide)
theorem qr_91_7 (w : Bool) (I : Nat → Nat → Int32) : zR (qC w I) 91 7 = 102 := qC_r0 qtR2.1 (by decide) (by decide)
theorem qr_91_10 (w : Bool) (I : Nat → Nat → Int32) : zR (qC w I) 91 10 = 107 := qC_r0 qtR2.2.1 (by decide) (by decide)
theorem qr_91_11 (w : Bool) (I : Nat → Nat → Int32) : zR (qC w I) 91 11 = 103 := qC_r0 qtR2.2.2.1 (by decide) (by decide)
theorem qr_91_14 (w : Bool) (I : Nat → Nat → Int32) : zR (qC w I) 91 14 = 106 := qC_r0 qtR2.2.2.2.1 (by decide) (by decide)
theorem qr_92_0 (w : Bool) (I : Nat → Nat → Int32) : zR (qC w I) 92 0 = 93 := qC_r0 qtR2.2.2.2.2.1 (by decide) (by decide)
theorem qr_92_1 (w : Bool) (I : Nat → Nat → Int32) : zR (qC w I) 92 1 = 94 := qC_r0 qtR2.2.2.2.2.2.1 (by decide) (by decide)
theorem qr_92_2 (w : Bool) (I : Nat → Nat → Int32) : zR (qC w I) 92 2 = 95 := qC_r0 qtR2.2.2.2.2.2.2.1 (by decide) (by decide)
theorem qr_92_3 (w : Bool) (I : Nat → Nat → Int32) : zR (qC w I) 92 3 = 96 := qC_r0 qtR2.2.2.2.2.2.2.2.1 (by decide) (by decide)
theorem qr_92_4 (w : Bool) (I : Nat → Nat → Int32) : zR (qC w I) 92 4 = 97 := qC_r0 qtR2.2.2.2.2.2.2.2.2.1 (by decide) (by decide)
theorem qr_98_0 (w : Bool) (I : Nat → Nat → Int32) : zR (qC w I) 98 0 = 99 := qC_r0 qtR2.2.2.2.2.2.2.2.2.2 (by decide) (by decide)
theorem qr_98_1 (w : Bool) (I : Nat → Nat → Int32) : zR (qC w I) 98 1 = 100 := qC_r0 qtR3.1 (by decide) (by decide)
theorem qr_107_0 (w : Bool) (I : Nat → Nat → Int32) : zR (qC w I) 107 0 = 2 := qC_r0 qtR3.2.1 (by decide) (by decide)
theorem qr_107_1 (w : Bool) (I : Nat → Nat → Int32) : zR (qC w I) 107 1 = 108 := qC_r0 qtR3.2.2.1 (by decide) (by decide)
theorem qr_107_2 (w : Bool) (I : Nat → Nat → Int32) : zR (qC w I) 107 2 = 109 := qC_r0 qtR3.2.2.2.1 (by decide) (by decide)
theorem qr_476_0 (w : Bool) (I : Nat → Nat → Int32) : zR (qC w I) 476 0 = 2 := qC_r0 qtR3.2.2.2.2.1 (by decide) (by decide)
theorem qr_476_1 (w : Bool) (I : Nat → Nat → Int32) : zR (qC w I) 476 1 = 68 := qC_r0 qtR3.2.2.2.2.2.1 (by decide) (by decide)
theorem qr_476_2 (w : Bool) (I : Nat → Nat → Int32) : zR (qC w I) 476 2 = 477 := qC_r0 qtR3.2.2.2.2.2.2 (by decide) (by decide)
set_option maxRecDepth 1000000 in
theorem qtM : ∀ e, e < 10 → qC1.2.1 (3) e = 8 + 6 * e ∧ qCH (8 + 6 * e) = (1, 0) ∧ qCH (9 + 6 * e) = (100, 6) ∧ qCH (10 + 6 * e) = (101, 6) ∧ qCH (11 + 6 * e) = (101, 6) ∧ qCH (12 + 6 * e) = (100, 12) ∧ qCH (13 + 6 * e) = (101, 12) ∧ qC1.2.1 (8 + 6 * e) 0 = 9 + 6 * e ∧ qC1.2.1 (8 + 6 * e) 1 = 10 + 6 * e ∧ qC1.2.1 (8 + 6 * e) 2 = 11 + 6 * e ∧ qC1.2.1 (8 + 6 * e) 4 = 12 + 6 * e ∧ qC1.2.1 (8 + 6 * e) 5 = 13 + 6 * e := by decide +kernel
theorem qmo_r (w : Bool) (I : Nat → Nat → Int32) {e : Nat} (h : e < 10) : zR (qC w I) (3) e = 8 + 6 * e := qC_r0 (qtM e h).1 (by omega) (by omega)
theorem qmo_k (w : Bool) (I : Nat → Nat → Int32) {e : Nat} (h : e < 10) : zk (qC w I) (8 + 6 * e) = 1 := qC_k0 (n := 0) (qtM e h).2.1 (by omega) (by omega)
theorem qmo0_k (w : Bool) (I : Nat → Nat → Int32) {e : Nat} (h : e < 10) : zk (qC w I) (9 + 6 * e) = 100 := qC_k0 (n := 6) (qtM e h).2.2.1 (by omega) (by omega)
theorem qmo0_l (w : Bool) (I : Nat → Nat → Int32) {e : Nat} (h : e < 10) : zl (qC w I) (9 + 6 * e) = 6 := qC_l0 (c := 100) (qtM e h).2.2.1
theorem qmo1_k (w : Bool) (I : Nat → Nat → Int32) {e : Nat} (h : e < 10) : zk (qC w I) (10 + 6 * e) = 101 := qC_k0 (n := 6) (qtM e h).2.2.2.1 (by omega) (by omega)
theorem qmo1_l (w : Bool) (I : Nat → Nat → Int32) {e : Nat} (h : e < 10) : zl (qC w I) (10 + 6 * e) = 6 := qC_l0 (c := 101) (qtM e h).2.2.2.1
theorem qmo2_k (w : Bool) (I : Nat → Nat → Int32) {e : Nat} (h : e < 10) : zk (qC w I) (11 + 6 * e) = 101 := qC_k0 (n := 6) (qtM e h).2.2.2.2.1 (by omega) (by omega)
theorem qmo2_l (w : Bool) (I : Nat → Nat → Int32) {e : Nat} (h : e < 10) : zl (qC w I) (11 + 6 * e) = 6 := qC_l0 (c := 101) (qtM e h).2.2.2.2.1
theorem qmo4_k (w : Bool) (I : Nat → Nat → Int32) {e : Nat} (h : e < 10) : zk (qC w I) (12 + 6 * e) = 100 := qC_k0 (n := 12) (qtM e h).2.2.2.2.2.1 (by omega) (by omega)
theorem qmo4_l (w : Bool) (I : Nat → Nat → Int32) {e : Nat} (h : e < 10) : zl (qC w I) (12 + 6 * e) = 12 := qC_l0 (c := 100) (qtM e h).2.2.2.2.2.1
theorem qmo5_k (w : Bool) (I : Nat → Nat → Int32) {e : Nat} (h : e < 10) : zk (qC w I) (13 + 6 * e) = 101 := qC_k0 (n := 12) (qtM e h).2.2.2.2.2.2.1 (by omega) (by omega)
theorem qmo5_l (w : Bool) (I : Nat → Nat → Int32) {e : Nat} (h : e < 10) : zl (qC w I) (13 + 6 * e) = 12 := qC_l0 (c := 101) (qtM e h).2.2.2.2.2.2.1
theorem qmo_r0 (w : Bool) (I : Nat → Nat → Int32) {e : Nat} (h : e < 10) : zR (qC w I) (8 + 6 * e) 0 = 9 + 6 * e := qC_r0 (qtM e h).2.2.2.2.2.2.2.1 (by omega) (by omega)
theorem qmo_r1 (w : Bool) (I : Nat → Nat → Int32) {e : Nat} (h : e < 10) : zR (qC w I) (8 + 6 * e) 1 = 10 + 6 * e := qC_r0 (qtM e h).2.2.2.2.2.2.2.2.1 (by omega) (by omega)
theorem qmo_r2 (w : Bool) (I : Nat → Nat → Int32) {e : Nat} (h : e < 10) : zR (qC w I) (8 + 6 * e) 2 = 11 + 6 * e := qC_r0 (qtM e h).2.2.2.2.2.2.2.2.2.1 (by omega) (by omega)
theorem qmo_r4 (w : Bool) (I : Nat → Nat → Int32) {e : Nat} (h : e < 10) : zR (qC w I) (8 + 6 * e) 4 = 12 + 6 * e := qC_r0 (qtM e h).2.2.2.2.2.2.2.2.2.2.1 (by omega) (by omega)
theorem qmo_r5 (w : Bool) (I : Nat → Nat → Int32) {e : Nat} (h : e < 10) : zR (qC w I) (8 + 6 * e) 5 = 13 + 6 * e := qC_r0 (qtM e h).2.2.2.2.2.2.2.2.2.2.2 (by omega) (by omega)
set_option maxRecDepth 1000000 in
theorem qtE : ∀ i, i < 6 → qC1.2.1 (71) i = 73 + 3 * i ∧ qCH (73 + 3 * i) = (3, 0) ∧ qCH (73 + 3 * i + 1) = (100, 6) ∧ qCH (73 + 3 * i + 2) = (100, 6) ∧ qC1.2.1 (73 + 3 * i) 0 = 73 + 3 * i + 1 ∧ qC1.2.1 (73 + 3 * i) 1 = 73 + 3 * i + 2 := by decide +kernel
theorem qen_r (w : Bool) (I : Nat → Nat → Int32) {i : Nat} (h : i < 6) : zR (qC w I) (71) i = 73 + 3 * i := qC_r0 (qtE i h).1 (by omega) (by omega)
theorem qen_k (w : Bool) (I : Nat → Nat → Int32) {i : Nat} (h : i < 6) : zk (qC w I) (73 + 3 * i) = 3 := qC_k0 (n := 0) (qtE i h).2.1 (by omega) (by omega)
theorem qen0_k (w : Bool) (I : Nat → Nat → Int32) {i : Nat} (h : i < 6) : zk (qC w I) (73 + 3 * i + 1) = 100 := qC_k0 (n := 6) (qtE i h).2.2.1 (by omega) (by omega)
theorem qen0_l (w : Bool) (I : Nat → Nat → Int32) {i : Nat} (h : i < 6) : zl (qC w I) (73 + 3 * i + 1) = 6 := qC_l0 (c := 100) (qtE i h).2.2.1
theorem qen1_k (w : Bool) (I : Nat → Nat → Int32) {i : Nat} (h : i < 6) : zk (qC w I) (73 + 3 * i + 2) = 100 := qC_k0 (n := 6) (qtE i h).2.2.2.1 (by omega) (by omega)
theorem qen1_l (w : Bool) (I : Nat → Nat → Int32) {i : Nat} (h : i < 6) : zl (qC w I) (73 + 3 * i + 2) = 6 := qC_l0 (c := 100) (qtE i h).2.2.2.1
theorem qen_r0 (w : Bool) (I : Nat → Nat → Int32) {i : Nat} (h : i < 6) : zR (qC w I) (73 + 3 * i) 0 = 73 + 3 * i + 1 := qC_r0 (qtE i h).2.2.2.2.1 (by omega) (by omega)
theorem qen_r1 (w : Bool) (I : Nat → Nat → Int32) {i : Nat} (h : i < 6) : zR (qC w I) (73 + 3 * i) 1 = 73 + 3 * i + 2 := qC_r0 (qtE i h).2.2.2.2.2 (by omega) (by omega)
set_option maxRecDepth 1000000 in
theorem qtA : ∀ i, i < 61 → qCH (110 + 6 * i) = (4, 0) ∧ qCH (110 + 6 * i + 1) = (100, 20) ∧ qCH (110 + 6 * i + 2) = (100, 20) ∧ qC1.2.1 (110 + 6 * i) 0 = 2 ∧ qC1.2.1 (110 + 6 * i) 1 = 110 + 6 * i + 1 ∧ qC1.2.1 (110 + 6 * i) 2 = 110 + 6 * i + 2 := by decide +kernel
set_option maxRecDepth 1000000 in
theorem qtB : ∀ i, i < 61 → qCH (113 + 6 * i) = (4, 0) ∧ qCH (113 + 6 * i + 1) = (100, 20) ∧ qCH (113 + 6 * i + 2) = (100, 20) ∧ qC1.2.1 (113 + 6 * i) 0 = 2 ∧ qC1.2.1 (113 + 6 * i) 1 = 113 + 6 * i + 1 ∧ qC1.2.1 (113 + 6 * i) 2 = 113 + 6 * i + 2 := by decide +kernel
set_option maxRecDepth 1000000 in
theorem qtW : ∀ i, i < 9 → qCH (478 + 3 * i) = (4, 0) ∧ qCH (478 + 3 * i + 1) = (100, 20) ∧ qCH (478 + 3 * i + 2) = (100, 20) ∧ qC1.2.1 (478 + 3 * i) 0 = 2 ∧ qC1.2.1 (478 + 3 * i) 1 = 478 + 3 * i + 1 ∧ qC1.2.1 (478 + 3 * i) 2 = 478 + 3 * i + 2 := by decide +kernel
set_option maxRecDepth 1000000 in
theorem qtS : ∀ i, i < 61 → qC1.2.1 104 i = 110 + 6 * i ∧ qC1.2.1 105 i = 113 + 6 * i := by decide +kernel
set_option maxRecDepth 1000000 in
theorem qtT : ∀ i, i < 9 → qC1.2.1 477 i = 478 + 3 * i := by decide +kernel
/-- a State's cells -/
def qSt (s : Nat) : Prop := (qCH s = (4, 0) ∧ qCH (s + 1) = (100, 20) ∧ qCH (s + 2) = (100, 20)) ∧ (qC1.2.1 s 0 = 2 ∧ qC1.2.1 s 1 = s + 1 ∧ qC1.2.1 s 2 = s + 2) ∧ 107 ≤ s ∧ s + 2 ≤ 504
def qSc (w : Bool) (i : Nat) : Nat := if w = true then 113 + 6 * i else 110 + 6 * i
theorem qSt_107 : qSt 107 := ⟨⟨qtK2.2.2.2.2.2.2.2.2.1, qtK2.2.2.2.2.2.2.2.2.2, qtK3.1⟩, ⟨qtR3.2.1, qtR3.2.2.1, qtR3.2.2.2.1⟩, by omega, by omega⟩
theorem qSt_A {i : Nat} (h : i < 61) : qSt (110 + 6 * i) := ⟨⟨(qtA i h).1, (qtA i h).2.1, (qtA i h).2.2.1⟩, ⟨(qtA i h).2.2.2.1, (qtA i h).2.2.2.2.1, (qtA i h).2.2.2.2.2⟩, by omega, by omega⟩
theorem qSt_B {i : Nat} (h : i < 61) : qSt (113 + 6 * i) := ⟨⟨(qtB i h).1, (qtB i h).2.1, (qtB i h).2.2.1⟩, ⟨(qtB i h).2.2.2.1, (qtB i h).2.2.2.2.1, (qtB i h).2.2.2.2.2⟩, by omega, by omega⟩
theorem qSt_W {i : Nat} (h : i < 9) : qSt (478 + 3 * i) := ⟨⟨(qtW i h).1, (qtW i h).2.1, (qtW i h).2.2.1⟩, ⟨(qtW i h).2.2.2.1, (qtW i h).2.2.2.2.1, (qtW i h).2.2.2.2.2⟩, by omega, by omega⟩
theorem qSt_c (w : Bool) {i : Nat} (h : i < 61) : qSt (qSc w i) := by
  unfold qSc
  cases w
  · exact qSt_A h
  · exact qSt_B h
theorem qSt_k (w : Bool) (I : Nat → Nat → Int32) {s : Nat} (h : qSt s) : zk (qC w I) s = 4 := qC_k0 h.1.1 (by have := h.2.2; omega) (by have := h.2.2; omega)
theorem qSt_k1 (w : Bool) (I : Nat → Nat → Int32) {s : Nat} (h : qSt s) : zk (qC w I) (s + 1) = 100 := qC_k0 h.1.2.1 (by have := h.2.2; omega) (by have := h.2.2; omega)
theorem qSt_k2 (w : Bool) (I : Nat → Nat → Int32) {s : Nat} (h : qSt s) : zk (qC w I) (s + 2) = 100 := qC_k0 h.1.2.2 (by have := h.2.2; omega) (by have := h.2.2; omega)
theorem qSt_l1 (w : Bool) (I : Nat → Nat → Int32) {s : Nat} (h : qSt s) : zl (qC w I) (s + 1) = 20 := qC_l0 h.1.2.1
theorem qSt_l2 (w : Bool) (I : Nat → Nat → Int32) {s : Nat} (h : qSt s) : zl (qC w I) (s + 2) = 20 := qC_l0 h.1.2.2
theorem qSt_r0 (w : Bool) (I : Nat → Nat → Int32) {s : Nat} (h : qSt s) : zR (qC w I) s 0 = 2 := qC_r0 h.2.1.1 (by have := h.2.2; omega) (by have := h.2.2; omega)
theorem qSt_r1 (w : Bool) (I : Nat → Nat → Int32) {s : Nat} (h : qSt s) : zR (qC w I) s 1 = s + 1 := qC_r0 h.2.1.2.1 (by have := h.2.2; omega) (by have := h.2.2; omega)
theorem qSt_r2 (w : Bool) (I : Nat → Nat → Int32) {s : Nat} (h : qSt s) : zR (qC w I) s 2 = s + 2 := qC_r0 h.2.1.2.2 (by have := h.2.2; omega) (by have := h.2.2; omega)
def qSA (w : Bool) : Nat := if w = true then 105 else 104
theorem qSA_r (w : Bool) (I : Nat → Nat → Int32) : zR (qC w I) 91 12 = qSA w := by cases w <;> rfl
theorem qSA_r2 (w : Bool) (I : Nat → Nat → Int32) : zR (qC w I) 91 13 = qSA (!w) := by cases w <;> rfl
theorem qSA_k (w : Bool) (I : Nat → Nat → Int32) (v : Bool) : zk (qC w I) (qSA v) = 112 := by
  cases v
  · rw [show qSA false = 104 from rfl, qk_104]
  · rw [show qSA true = 105 from rfl, qk_105]
theorem qSA_l (w : Bool) (I : Nat → Nat → Int32) (v : Bool) : zl (qC w I) (qSA v) = 61 := by
  cases v
  · rw [show qSA false = 104 from rfl, ql_104]
  · rw [show qSA true = 105 from rfl, ql_105]
theorem qSA_c (w : Bool) (I : Nat → Nat → Int32) (v : Bool) {i : Nat} (h : i < 61) : zR (qC w I) (qSA v) i = qSc v i := by
  have h9 := qtS i h
  cases v
  · rw [show qSA false = 104 from rfl, qC_r0 h9.1 (by omega) (by omega)]; rfl
  · rw [show qSA true = 105 from rfl, qC_r0 h9.2 (by omega) (by omega)]; rfl
theorem qtr_r (w : Bool) (I : Nat → Nat → Int32) {i : Nat} (h : i < 9) : zR (qC w I) 477 i = 478 + 3 * i := qC_r0 (qtT i h) (by omega) (by omega)
/-- a Row's cells -/
def qRw (x n : Nat) : Prop := (qCH x = (3, 0) ∧ qCH (x + 1) = (100, n) ∧ qCH (x + 2) = (100, n)) ∧ (qC1.2.1 x 0 = x + 1 ∧ qC1.2.1 x 1 = x + 2) ∧ 68 ≤ x ∧ x ≤ 98 ∧ ¬ x = 91 ∧ n < 100000
theorem qRw_68 : qRw 68 60 := ⟨⟨qtK0.2.2.2.2.2.2.2.1, qtK0.2.2.2.2.2.2.2.2.1, qtK0.2.2.2.2.2.2.2.2.2⟩, ⟨qtR1.2.1, qtR1.2.2.1⟩, by omega, by omega, by omega, by omega⟩
theorem qRw_98 : qRw 98 600 := ⟨⟨qtK1.2.2.2.2.2.2.2.2.2, qtK2.1, qtK2.2.1⟩, ⟨qtR2.2.2.2.2.2.2.2.2.2, qtR3.1⟩, by omega, by omega, by omega, by omega⟩
theorem qRw_E {i : Nat} (h : i < 6) : qRw (73 + 3 * i) 6 := ⟨⟨(qtE i h).2.1, (qtE i h).2.2.1, (qtE i h).2.2.2.1⟩, ⟨(qtE i h).2.2.2.2.1, (qtE i h).2.2.2.2.2⟩, by omega, by omega, by omega, by omega⟩
theorem qRw_k (w : Bool) (I : Nat → Nat → Int32) {x n : Nat} (h : qRw x n) : zk (qC w I) x = 3 := qC_k0 h.1.1 (by have := h.2.2; omega) (by have := h.2.2; omega)
theorem qRw_k1 (w : Bool) (I : Nat → Nat → Int32) {x n : Nat} (h : qRw x n) : zk (qC w I) (x + 1) = 100 := qC_k0 h.1.2.1 (by have := h.2.2; omega) (by have := h.2.2; omega)
theorem qRw_k2 (w : Bool) (I : Nat → Nat → Int32) {x n : Nat} (h : qRw x n) : zk (qC w I) (x + 2) = 100 := qC_k0 h.1.2.2 (by have := h.2.2; omega) (by have := h.2.2; omega)
theorem qRw_l1 (w : Bool) (I : Nat → Nat → Int32) {x n : Nat} (h : qRw x n) : zl (qC w I) (x + 1) = n := qC_l0 h.1.2.1
theorem qRw_l2 (w : Bool) (I : Nat → Nat → Int32) {x n : Nat} (h : qRw x n) : zl (qC w I) (x + 2) = n := qC_l0 h.1.2.2
theorem qRw_r0 (w : Bool) (I : Nat → Nat → Int32) {x n : Nat} (h : qRw x n) : zR (qC w I) x 0 = x + 1 := qC_r0 h.2.1.1 (by have := h.2.2; omega) (by have := h.2.2; omega)
theorem qRw_r1 (w : Bool) (I : Nat → Nat → Int32) {x n : Nat} (h : qRw x n) : zR (qC w I) x 1 = x + 2 := qC_r0 h.2.1.2 (by have := h.2.2; omega) (by have := h.2.2; omega)
