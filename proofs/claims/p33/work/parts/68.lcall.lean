/-! THE LAW: its calls of the class; bits -/
theorem lCel (w : Bool) (I : Nat → Nat → Int32) (W : Nat → Nat → Nat) : (504 ≤ (qL w I W).2.2.2) = True := eq_true (by show 504 ≤ 519; decide)
theorem zbc_0 {β : Type} (r : Int32) (w2 w : Bool) (J I : Nat → Nat → Int32) (W : Nat → Nat → Nat) (f : Int32 → zM → Option β) : zbc (some (0, r, qC w2 J)) (qL w I W) f = f r (qL w2 (qJn J I) W) := by
  show f r (zput (qC w2 J) (qL w I W)) = _
  rw [lput]
theorem zbd_0 {β : Type} (r : Int32) (w2 w : Bool) (J I : Nat → Nat → Int32) (W : Nat → Nat → Nat) (f : Int32 → zM → Option β) : zbd (some (r, qC w2 J)) (qL w I W) f = f r (qL w2 (qJn J I) W) := by
  show f r (zput (qC w2 J) (qL w I W)) = _
  rw [lput]
theorem qJn_self (I : Nat → Nat → Int32) : qJn I I = I := by
  funext a k
  unfold qJn
  split <;> rfl
theorem qCA_J {w : Bool} {I J : Nat → Nat → Int32} {A : qA} (h : qCA w J A) : qCA w (qJn J I) A := qCA_st h fun a ha => qJn_l (by omega)
theorem qCA_U {w : Bool} {I : Nat → Nat → Int32} {A : qA} (h : qCA w I A) {a : Nat} (ha : 504 < a) (k : Nat) (v : Int32) : qCA w (qU I a k v) A := qCA_st h fun b hb => qU_r (by omega)
/-- grammar, entities, switches, text in the law's rows -/
def qLI (I : Nat → Nat → Int32) (A : qA) : Prop := qLG A.1 I ∧ qLX I A.2.1 A.2.2.1 A.2.2.2.1
theorem qLI_fr {I J : Nat → Nat → Int32} {A : qA} (h : qLI I A) (f : ∀ a, 505 ≤ a → a ≤ 509 → J a = I a) : qLI J A := ⟨qLG_fr h.1 (f _ (by omega) (by omega)) (f _ (by omega) (by omega)) (f _ (by omega) (by omega)), qLX_fr h.2 (f _ (by omega) (by omega)) (f _ (by omega) (by omega))⟩
def qLGe (G : qG) (I : Nat → Nat → Int32) (e : Nat) : Prop := I 506 e = qn (qgN G e) ∧ qgN G e ≤ 4 ∧ (∀ k, k < qgN G e → ∃ n, n < 2048 ∧ qgS G e k = qn n ∧ I 505 (4 * e + k) = qn (n + 2048 * qgO G e k) ∧ qgO G e k ≤ 3 ∧ ∀ t, 5 ≤ t → t < 10 → qt (qn n) t = false) ∧ ∃ i x, i < 1024 ∧ x < 1024 ∧ qgI G e = qn i ∧ qgX G e = qn x ∧ I 507 e = qn (i + 1024 * (x + 1024 * ((if qgA G e = true then 1 else 0) + 2 * (if qgB G e = true then 1 else 0))))
theorem qLG_set {G G' : qG} {I J : Nat → Nat → Int32} {e : Nat} (h : qLG G I) (hn : ∀ y, y ≠ e → qgN G' y = qgN G y ∧ (∀ k, qgS G' y k = qgS G y k ∧ qgO G' y k = qgO G y k) ∧ qgI G' y = qgI G y ∧ qgX G' y = qgX G y ∧ qgA G' y = qgA G y ∧ qgB G' y = qgB G y) (h5 : ∀ y k, y ≠ e → k < 4 → J 505 (4 * y + k) = I 505 (4 * y + k)) (h6 : ∀ y, y ≠ e → J 506 y = I 506 y) (h7 : ∀ y, y ≠ e → J 507 y = I 507 y) (hE : e < 5 → qLGe G' J e) : qLG G' J := by
  intro y hy
  by_cases c : y = e
  · subst c
    exact hE hy
  · obtain ⟨g1, g2, g3, i, x, i1, i2, i3, i4, i5⟩ := h y hy
    obtain ⟨n1, n2, n3, n4, n5, n6⟩ := hn y c
    rw [n1, n3, n4, n5, n6, h6 y c, h7 y c]
    refine ⟨g1, g2, fun k hk => ?_, i, x, i1, i2, i3, i4, i5⟩
    rw [(n2 k).1, (n2 k).2, h5 y k c (by omega)]
    exact g3 k hk
/-! bits -/
theorem q_nb (n : Nat) : (qn n).toBitVec = BitVec.ofNat 32 n := rfl
theorem qAndM {n k : Nat} (hn : n < 2147483648) (hk : k < 31) : qn n &&& qn (2 ^ k - 1) = qn (n % 2 ^ k) := by
  have h1 : 2 ^ k ≤ 2 ^ 30 := Nat.pow_le_pow_right (by decide) (by omega)
  have h0 : 0 < 2 ^ k := Nat.pow_pos (by decide)
  apply Int32.toBitVec_inj.mp
  apply BitVec.eq_of_toNat_eq
  rw [Int32.toBitVec_and, BitVec.toNat_and, q_nb, q_nb, q_nb, BitVec.toNat_ofNat, BitVec.toNat_ofNat, BitVec.toNat_ofNat]
  have h2 : n % 2 ^ k < 2 ^ k := Nat.mod_lt _ h0
  have h3 : 2 ^ 30 = 1073741824 := by decide
  rw [Nat.mod_eq_of_lt (show n < 2 ^ 32 by omega), Nat.mod_eq_of_lt (show 2 ^ k - 1 < 2 ^ 32 by omega), Nat.mod_eq_of_lt (show n % 2 ^ k < 2 ^ 32 by omega), Nat.and_two_pow_sub_one_eq_mod]
theorem qOrA {a s k : Nat} (ha : a < 2 ^ k) (hs : 2 ^ k * s + a < 2147483648) : qn a ||| qn (2 ^ k * s) = qn (a + 2 ^ k * s) := by
  apply Int32.toBitVec_inj.mp
  apply BitVec.eq_of_toNat_eq
  rw [Int32.toBitVec_or, BitVec.toNat_or, q_nb, q_nb, q_nb, BitVec.toNat_ofNat, BitVec.toNat_ofNat, BitVec.toNat_ofNat]
  rw [Nat.mod_eq_of_lt (show a < 2 ^ 32 by omega), Nat.mod_eq_of_lt (show 2 ^ k * s < 2 ^ 32 by omega), Nat.mod_eq_of_lt (show a + 2 ^ k * s < 2 ^ 32 by omega), Nat.or_comm, ← Nat.two_pow_add_eq_or_of_lt ha, Nat.add_comm]
theorem qSh20 : ∀ s, s < 4 → qn s <<< (qn 20 &&& qn 31) = qn (2 ^ 20 * s) := by decide +kernel
theorem qX20a : ∀ t, t < 32 → t ≠ 20 → t ≠ 21 → qt (qn 3145728) t = false := by decide +kernel
theorem qX20b : ∀ z, z < 4 → ∀ t, t < 32 → qt (qn (1048576 * z)) t = (decide (t = 20) && z.testBit 0 || decide (t = 21) && z.testBit 1) := by decide +kernel
theorem qX20 {i x z : Nat} (hi : i < 1024) (hx : x < 1024) (hz : z < 4) : qn (i + 1024 * (x + 1024 * z)) &&& qn 3145728 = qn (1048576 * z) := by
  refine qt_ext fun t ht => ?_
  rw [qt_and _ _ ht, qX20b z hz t ht]
  by_cases c0 : t = 20
  · subst c0
    rw [show qt (qn 3145728) 20 = true by decide +kernel, Bool.and_true]
    rw [show (20 : Nat) = 20 + 0 from rfl, qx_2 hi hx (by decide)]
    simp
  · by_cases c1 : t = 21
    · subst c1
      rw [show qt (qn 3145728) 21 = true by decide +kernel, Bool.and_true]
      rw [show (21 : Nat) = 20 + 1 from rfl, qx_2 hi hx (by decide)]
      simp
    · rw [qX20a t ht c0 c1, Bool.and_false]
      simp [c0, c1]
/-- a set of one, or of none -/
def qpw (b : Bool) (j : Nat) : Nat := if b = true then 2 ^ j else 0
def qpi (b : Bool) (j : Nat) : Int32 := if b = true then qn 1 <<< (qn j &&& qn 31) else qn 0
def qpj (b : Bool) (j : Nat) : Int32 := if b = true then qn 1024 <<< (qn j &&& qn 31) else qn 0
theorem qpw_lt : ∀ b : Bool, ∀ j, j < 5 → qpw b j < 1024 := by decide +kernel
theorem qpOr : ∀ z, z < 4 → ∀ b : Bool, ∀ j, j < 5 → ∀ c : Bool, ∀ k, k < 5 → (qn (1048576 * z) ||| qpi b j) ||| qpj c k = qn (qpw b j + 1024 * (qpw c k + 1024 * z)) ∧ qn (qpw b j + 1024 * (qpw c k + 1024 * z)) &&& qn 1023 = qn (qpw b j) ∧ (qn (qpw b j + 1024 * (qpw c k + 1024 * z)) >>> (qn 10 &&& qn 31)) &&& qn 1023 = qn (qpw c k) := by decide +kernel
/-- a set of one or two of five -/
theorem qTwo : ∀ a, a < 5 → ∀ b, b < 5 → (((qn 1 <<< (qn a &&& qn 31)) ||| (qn 1 <<< (qn b &&& qn 31))) &&& qn 31 = qn (2 ^ a ||| 2 ^ b)) ∧ 2 ^ a ||| 2 ^ b < 32 ∧ (((qn 1 <<< (qn a &&& qn 31)) ||| (qn 1 <<< (qn b &&& qn 31))) &&& qn 0 = qn 0) := by decide +kernel
theorem qSet32 : ∀ s, s < 32 → qn s ||| qn 1024 = qn (s + 1024) ∧ qn s ||| qn 0 = qn (s + 0) ∧ ∀ t, t < 10 → 5 ≤ t → qt (qn s) t = false ∧ qt (qn (s + 1024)) t = false := by decide +kernel
theorem qAB4 (a b : Bool) : (if a = true then 1 else 0) + 2 * (if b = true then 1 else 0) < 4 := by cases a <;> cases b <;> decide
