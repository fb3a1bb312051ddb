/-! THE LAW'S MEMORY: the class's cells 1 .. 504, the law's rows 505 .. 519 (g c x e t r o d k p l q f, z, old): ints I, longs W -/
def qLH (a : Nat) : Nat × Nat := if a ≤ 504 then qCH a else if a = 505 then (100, 20) else if a = 506 then (100, 5) else if a = 507 then (100, 5) else if a = 508 then (100, 12) else if a = 509 then (100, 21) else if a = 510 then (100, 20) else if a = 511 then (100, 40) else if a = 512 then (100, 60) else if a = 513 then (100, 60) else if a = 514 then (100, 60) else if a = 515 then (100, 60) else if a = 516 then (100, 60) else if a = 517 then (100, 60) else if a = 518 then (103, 48) else if a = 519 then (103, 48) else qCH a
def qL (w : Bool) (I : Nat → Nat → Int32) (W : Nat → Nat → Nat) : zM := (I, fun a k => if a ≤ 504 then qCR w a k else W a k, qLH, 519)
theorem qL_I (w : Bool) (I : Nat → Nat → Int32) (W : Nat → Nat → Nat) (a k : Nat) : zI (qL w I W) a k = I a k := rfl
theorem qL_s (w : Bool) (I : Nat → Nat → Int32) (W : Nat → Nat → Nat) (a k : Nat) (v : Int32) : zsI (qL w I W) a k v = qL w (qU I a k v) W := rfl
def qUN (W : Nat → Nat → Nat) (a k v : Nat) : Nat → Nat → Nat := fun x y => if x = a ∧ y = k then v else W x y
theorem qL_L {w : Bool} {I : Nat → Nat → Int32} {W : Nat → Nat → Nat} {a k : Nat} (h : 504 < a) : zL (qL w I W) a k = Int64.ofNat (W a k) := by
  unfold zL zR qL
  dsimp only
  rw [if_neg (by omega)]
theorem qL_sL {w : Bool} {I : Nat → Nat → Int32} {W : Nat → Nat → Nat} {a k : Nat} {x : Int64} (h : 504 < a) : zsL (qL w I W) a k x = qL w I (qUN W a k x.toUInt64.toNat) := by
  unfold zsL zsR qL
  dsimp only
  have e : (fun y z => if y = a ∧ z = k then x.toUInt64.toNat else if y ≤ 504 then qCR w y z else W y z) = fun y z => if y ≤ 504 then qCR w y z else qUN W a k x.toUInt64.toNat y z := by
    funext y z
    unfold qUN
    by_cases c : y = a ∧ z = k
    · rw [if_pos c, if_neg (by omega), if_pos c]
    · rw [if_neg c, if_neg c]
  rw [e]
theorem qLH_k {w : Bool} {I : Nat → Nat → Int32} {W : Nat → Nat → Nat} {a c n : Nat} (h : qLH a = (c, n)) (h1 : 1 ≤ a) (h2 : a ≤ 519) : zk (qL w I W) a = c := by
  unfold zk qL
  dsimp only
  rw [if_pos ⟨h1, h2⟩, h]
theorem qLH_l {w : Bool} {I : Nat → Nat → Int32} {W : Nat → Nat → Nat} {a c n : Nat} (h : qLH a = (c, n)) : zl (qL w I W) a = n := by
  unfold zl qL
  dsimp only
  rw [h]
theorem qLH_0 {a : Nat} (h : a ≤ 504) : qLH a = qCH a := if_pos h
theorem lh_505 : qLH 505 = (100, 20) := by unfold qLH; rw [if_neg (by decide)]; decide
theorem lk_505 (w : Bool) (I : Nat → Nat → Int32) (W : Nat → Nat → Nat) : zk (qL w I W) 505 = 100 := qLH_k lh_505 (by decide) (by decide)
theorem ll_505 (w : Bool) (I : Nat → Nat → Int32) (W : Nat → Nat → Nat) : zl (qL w I W) 505 = 20 := qLH_l lh_505
theorem lh_506 : qLH 506 = (100, 5) := by unfold qLH; rw [if_neg (by decide)]; decide
theorem lk_506 (w : Bool) (I : Nat → Nat → Int32) (W : Nat → Nat → Nat) : zk (qL w I W) 506 = 100 := qLH_k lh_506 (by decide) (by decide)
theorem ll_506 (w : Bool) (I : Nat → Nat → Int32) (W : Nat → Nat → Nat) : zl (qL w I W) 506 = 5 := qLH_l lh_506
theorem lh_507 : qLH 507 = (100, 5) := by unfold qLH; rw [if_neg (by decide)]; decide
theorem lk_507 (w : Bool) (I : Nat → Nat → Int32) (W : Nat → Nat → Nat) : zk (qL w I W) 507 = 100 := qLH_k lh_507 (by decide) (by decide)
theorem ll_507 (w : Bool) (I : Nat → Nat → Int32) (W : Nat → Nat → Nat) : zl (qL w I W) 507 = 5 := qLH_l lh_507
theorem lh_508 : qLH 508 = (100, 12) := by unfold qLH; rw [if_neg (by decide)]; decide
theorem lk_508 (w : Bool) (I : Nat → Nat → Int32) (W : Nat → Nat → Nat) : zk (qL w I W) 508 = 100 := qLH_k lh_508 (by decide) (by decide)
theorem ll_508 (w : Bool) (I : Nat → Nat → Int32) (W : Nat → Nat → Nat) : zl (qL w I W) 508 = 12 := qLH_l lh_508
theorem lh_509 : qLH 509 = (100, 21) := by unfold qLH; rw [if_neg (by decide)]; decide
theorem lk_509 (w : Bool) (I : Nat → Nat → Int32) (W : Nat → Nat → Nat) : zk (qL w I W) 509 = 100 := qLH_k lh_509 (by decide) (by decide)
theorem ll_509 (w : Bool) (I : Nat → Nat → Int32) (W : Nat → Nat → Nat) : zl (qL w I W) 509 = 21 := qLH_l lh_509
theorem lh_510 : qLH 510 = (100, 20) := by unfold qLH; rw [if_neg (by decide)]; decide
theorem lk_510 (w : Bool) (I : Nat → Nat → Int32) (W : Nat → Nat → Nat) : zk (qL w I W) 510 = 100 := qLH_k lh_510 (by decide) (by decide)
theorem ll_510 (w : Bool) (I : Nat → Nat → Int32) (W : Nat → Nat → Nat) : zl (qL w I W) 510 = 20 := qLH_l lh_510
theorem lh_511 : qLH 511 = (100, 40) := by unfold qLH; rw [if_neg (by decide)]; decide
theorem lk_511 (w : Bool) (I : Nat → Nat → Int32) (W : Nat → Nat → Nat) : zk (qL w I W) 511 = 100 := qLH_k lh_511 (by decide) (by decide)
theorem ll_511 (w : Bool) (I : Nat → Nat → Int32) (W : Nat → Nat → Nat) : zl (qL w I W) 511 = 40 := qLH_l lh_511
theorem lh_512 : qLH 512 = (100, 60) := by unfold qLH; rw [if_neg (by decide)]; decide
theorem lk_512 (w : Bool) (I : Nat → Nat → Int32) (W : Nat → Nat → Nat) : zk (qL w I W) 512 = 100 := qLH_k lh_512 (by decide) (by decide)
theorem ll_512 (w : Bool) (I : Nat → Nat → Int32) (W : Nat → Nat → Nat) : zl (qL w I W) 512 = 60 := qLH_l lh_512
theorem lh_513 : qLH 513 = (100, 60) := by unfold qLH; rw [if_neg (by decide)]; decide
theorem lk_513 (w : Bool) (I : Nat → Nat → Int32) (W : Nat → Nat → Nat) : zk (qL w I W) 513 = 100 := qLH_k lh_513 (by decide) (by decide)
theorem ll_513 (w : Bool) (I : Nat → Nat → Int32) (W : Nat → Nat → Nat) : zl (qL w I W) 513 = 60 := qLH_l lh_513
theorem lh_514 : qLH 514 = (100, 60) := by unfold qLH; rw [if_neg (by decide)]; decide
theorem lk_514 (w : Bool) (I : Nat → Nat → Int32) (W : Nat → Nat → Nat) : zk (qL w I W) 514 = 100 := qLH_k lh_514 (by decide) (by decide)
theorem ll_514 (w : Bool) (I : Nat → Nat → Int32) (W : Nat → Nat → Nat) : zl (qL w I W) 514 = 60 := qLH_l lh_514
theorem lh_515 : qLH 515 = (100, 60) := by unfold qLH; rw [if_neg (by decide)]; decide
theorem lk_515 (w : Bool) (I : Nat → Nat → Int32) (W : Nat → Nat → Nat) : zk (qL w I W) 515 = 100 := qLH_k lh_515 (by decide) (by decide)
theorem ll_515 (w : Bool) (I : Nat → Nat → Int32) (W : Nat → Nat → Nat) : zl (qL w I W) 515 = 60 := qLH_l lh_515
theorem lh_516 : qLH 516 = (100, 60) := by unfold qLH; rw [if_neg (by decide)]; decide
theorem lk_516 (w : Bool) (I : Nat → Nat → Int32) (W : Nat → Nat → Nat) : zk (qL w I W) 516 = 100 := qLH_k lh_516 (by decide) (by decide)
theorem ll_516 (w : Bool) (I : Nat → Nat → Int32) (W : Nat → Nat → Nat) : zl (qL w I W) 516 = 60 := qLH_l lh_516
theorem lh_517 : qLH 517 = (100, 60) := by unfold qLH; rw [if_neg (by decide)]; decide
theorem lk_517 (w : Bool) (I : Nat → Nat → Int32) (W : Nat → Nat → Nat) : zk (qL w I W) 517 = 100 := qLH_k lh_517 (by decide) (by decide)
theorem ll_517 (w : Bool) (I : Nat → Nat → Int32) (W : Nat → Nat → Nat) : zl (qL w I W) 517 = 60 := qLH_l lh_517
theorem lh_518 : qLH 518 = (103, 48) := by unfold qLH; rw [if_neg (by decide)]; decide
theorem lk_518 (w : Bool) (I : Nat → Nat → Int32) (W : Nat → Nat → Nat) : zk (qL w I W) 518 = 103 := qLH_k lh_518 (by decide) (by decide)
theorem ll_518 (w : Bool) (I : Nat → Nat → Int32) (W : Nat → Nat → Nat) : zl (qL w I W) 518 = 48 := qLH_l lh_518
theorem lh_519 : qLH 519 = (103, 48) := by unfold qLH; rw [if_neg (by decide)]; decide
theorem lk_519 (w : Bool) (I : Nat → Nat → Int32) (W : Nat → Nat → Nat) : zk (qL w I W) 519 = 103 := qLH_k lh_519 (by decide) (by decide)
theorem ll_519 (w : Bool) (I : Nat → Nat → Int32) (W : Nat → Nat → Nat) : zl (qL w I W) 519 = 48 := qLH_l lh_519
theorem lk_1 (w : Bool) (I : Nat → Nat → Int32) (W : Nat → Nat → Nat) : zk (qL w I W) 1 = 7 := by
  have h := qk_1 w I
  unfold zk qC at h
  dsimp only at h
  unfold zk qL
  dsimp only
  rw [qLH_0 (by decide)]
  rw [if_pos ⟨by decide, by decide⟩] at h ⊢
  exact h
theorem lcut (w : Bool) (I : Nat → Nat → Int32) (W : Nat → Nat → Nat) : zcut (qL w I W) = qC w I := by
  unfold zcut qL qC
  dsimp only
  have e1 : (fun a k => if a ≤ 504 then (if a ≤ 504 then qCR w a k else W a k) else qC1.2.1 a k) = qCR w := by
    funext a k
    by_cases h : a ≤ 504
    · rw [if_pos h, if_pos h]
    · rw [if_neg h]
      unfold qCR
      rw [if_neg (by omega), if_neg (by omega)]
  have e2 : (fun a => if a ≤ 504 then qLH a else qC1.2.2.1 a) = qCH := by
    funext a
    by_cases h : a ≤ 504
    · rw [if_pos h, qLH_0 h]
    · rw [if_neg h]; rfl
  rw [e1, e2]
/-- the class's ints beside the law's -/
def qJn (J I : Nat → Nat → Int32) : Nat → Nat → Int32 := fun a k => if a ≤ 504 then J a k else I a k
theorem lput (w w2 : Bool) (J I : Nat → Nat → Int32) (W : Nat → Nat → Nat) : zput (qC w2 J) (qL w I W) = qL w2 (qJn J I) W := by
  unfold zput qL qC qJn
  dsimp only
  have e1 : (fun a k => if a ≤ 504 then qCR w2 a k else if a ≤ 504 then qCR w a k else W a k) = fun a k => if a ≤ 504 then qCR w2 a k else W a k := by
    funext a k
    by_cases h : a ≤ 504
    · rw [if_pos h, if_pos h]
    · rw [if_neg h, if_neg h, if_neg h]
  have e2 : (fun a => if a ≤ 504 then qCH a else qLH a) = qLH := by
    funext a
    by_cases h : a ≤ 504
    · rw [if_pos h, qLH_0 h]
    · rw [if_neg h]
  rw [e1, e2]
theorem qJn_l {J I : Nat → Nat → Int32} {a : Nat} (h : a ≤ 504) : qJn J I a = J a := by
  funext k
  exact if_pos h
theorem qJn_r {J I : Nat → Nat → Int32} {a : Nat} (h : 504 < a) : qJn J I a = I a := by
  funext k
  exact if_neg (by omega)
theorem qn_rem {a b : Nat} (ha : a < 2147483648) (hb : b < 2147483648) (h0 : 0 < b) : zrem (qn a) (qn b) = qn (a % b) := by
  unfold zrem
  have h1 := Nat.div_mul_le_self a b
  rw [qn_div ha hb, qn_mul, qn_sub h1]
  congr 1
  have h2 := Nat.div_add_mod a b
  have h3 := Nat.mul_comm b (a / b)
  omega
theorem qt_nat {n t : Nat} (ht : t < 32) : qt (qn n) t = n.testBit t := by
  rw [qt_bit _ ht]
  show (BitVec.ofNat 32 n).getLsbD t = _
  rw [BitVec.getLsbD_ofNat]
  simp [ht]
theorem qt_lo {n o t : Nat} (hn : n < 2048) (ht : t < 11) : qt (qn (n + 2048 * o)) t = qt (qn n) t := by
  rw [qt_nat (by omega), qt_nat (by omega), Nat.add_comm, show 2048 * o = 2 ^ 11 * o from rfl, Nat.testBit_two_pow_mul_add _ (show n < 2 ^ 11 from hn), if_pos ht]
theorem qb_n (r : Nat) : qn (r % 2) = qb (r % 2 == 1) := by
  rcases Nat.mod_two_eq_zero_or_one r with h | h <;> rw [h] <;> rfl
theorem qb_c (b : Bool) : qb b = qn (if b = true then 1 else 0) := by cases b <;> rfl
