/-! NUMBERS: small naturals as ints; every int of the rows is written so -/
def qn (n : Nat) : Int32 := Int32.ofNat n
def qm : Int32 := -1
def qo : Option Nat → Int32
  | none => qm
  | some n => qn n
def qb : Bool → Int32
  | true => qn 1
  | false => qn 0
theorem qlit (n : Nat) : (OfNat.ofNat n : Int32) = qn n := rfl
theorem qneg : -(qn 1) = qm := rfl
theorem qof (n : Nat) : Int32.ofNat n = qn n := rfl
theorem qn_c {n : Nat} (h : n < 2147483648) : (qn n).toNatClampNeg = n := Int32.toNatClampNeg_ofNat_of_lt h
theorem qn_i {n : Nat} (h : n < 2147483648) : (qn n).toInt = n := Int32.toInt_ofNat_of_lt h
theorem qm_i : qm.toInt = -1 := by decide
theorem qn_le {a b : Nat} (ha : a < 2147483648) (hb : b < 2147483648) : (qn a ≤ qn b) = (a ≤ b) := propext (Int32.ofNat_le_iff_le ha hb)
theorem qn_lt {a b : Nat} (ha : a < 2147483648) (hb : b < 2147483648) : (qn a < qn b) = (a < b) := propext (Int32.ofNat_lt_iff_lt ha hb)
theorem qn_eq {a b : Nat} (ha : a < 2147483648) (hb : b < 2147483648) : (qn a = qn b) = (a = b) := by
  refine propext ⟨fun h => ?_, fun h => by rw [h]⟩
  have h2 := congrArg Int32.toInt h
  rw [qn_i ha, qn_i hb] at h2
  omega
theorem qn_ne_m {n : Nat} (h : n < 2147483648) : (qn n = qm) = False := by
  refine eq_false fun e => ?_
  have h2 := congrArg Int32.toInt e
  rw [qn_i h, qm_i] at h2
  omega
theorem qm_ne_n {n : Nat} (h : n < 2147483648) : (qm = qn n) = False := by
  refine eq_false fun e => ?_
  have h2 := congrArg Int32.toInt e
  rw [qn_i h, qm_i] at h2
  omega
theorem qm_lt {n : Nat} (h : n < 2147483648) : (qm < qn n) = True := by
  refine eq_true (Int32.lt_iff_toInt_lt.mpr ?_)
  rw [qn_i h, qm_i]; omega
theorem qm_le {n : Nat} (h : n < 2147483648) : (qm ≤ qn n) = True := by
  refine eq_true (Int32.le_iff_toInt_le.mpr ?_)
  rw [qn_i h, qm_i]; omega
theorem qn_lt_m {n : Nat} (h : n < 2147483648) : (qn n < qm) = False := by
  refine eq_false fun e => ?_
  have e := Int32.lt_iff_toInt_lt.mp e
  rw [qn_i h, qm_i] at e; omega
theorem qn_le_m {n : Nat} (h : n < 2147483648) : (qn n ≤ qm) = False := by
  refine eq_false fun e => ?_
  have e := Int32.le_iff_toInt_le.mp e
  rw [qn_i h, qm_i] at e; omega
theorem qn_add (a b : Nat) : qn a + qn b = qn (a + b) := (Int32.ofNat_add a b).symm
theorem qn_sub {a b : Nat} (h : b ≤ a) : qn a - qn b = qn (a - b) := (Int32.ofNat_sub a b h).symm
theorem qn_mul (a b : Nat) : qn a * qn b = qn (a * b) := (Int32.ofNat_mul a b).symm
theorem qn_div {a b : Nat} (ha : a < 2147483648) (hb : b < 2147483648) : qn a / qn b = qn (a / b) := (Int32.ofNat_div ha hb).symm
theorem qn_s (a : Nat) : qn (a + 1) - qn 1 = qn a := by rw [qn_sub (by omega)]; rfl
theorem qn_z : qn 0 - qn 1 = qm := by decide
theorem qn_d (a : Nat) : qn (a + 1) + qm = qn a := by
  rw [← qn_add, show qm = -(qn 1) from rfl, ← Int32.sub_eq_add_neg, qn_add, qn_s]
theorem qn_dz : qn 0 + qm = qm := by decide
theorem qm_1 : qm + qn 1 = qn 0 := by decide
theorem qm_1b (a : Nat) : qn a + qm = qn a - qn 1 := by rw [show qm = -(qn 1) from rfl, ← Int32.sub_eq_add_neg]
theorem qn_mod {r : Nat} (h : r < 2147483648) : qn r - qn r / qn 2 * qn 2 = qn (r % 2) := by
  rw [qn_div h (by omega), qn_mul, qn_sub (by omega)]
  congr 1; omega
theorem qb_0 (b : Bool) : (qb b = qn 0) = (b = false) := by cases b <;> simp [qb, qn_eq]
theorem qb_1 (b : Bool) : (qb b = qn 1) = (b = true) := by cases b <;> simp [qb, qn_eq]
theorem qb_01 (b : Bool) : (qb b = qn 0 ∨ qb b = qn 1) = True := by cases b <;> simp [qb]
theorem qb01b (b : Bool) : (b = false ∨ b = true) = True := by cases b <;> simp
theorem q01_0 : (qn 0 = qn 0 ∨ qn 0 = qn 1) = True := by simp
theorem q01_1 : (qn 1 = qn 0 ∨ qn 1 = qn 1) = True := by simp
theorem qb_t : qb true = qn 1 := rfl
theorem qb_f : qb false = qn 0 := rfl
theorem qo_s (n : Nat) : qo (some n) = qn n := rfl
theorem qo_n : qo none = qm := rfl
theorem qo_m (x : Option Nat) (h : ∀ n, x = some n → n < 2147483648) : (qo x = qm) = (x = none) := by
  cases x with
  | none => simp [qo]
  | some n => rw [qo, qn_ne_m (h n rfl)]; simp
theorem qb_inj (a b : Bool) : (qb a = qb b) = (a = b) := by cases a <;> cases b <;> simp [qb, qn_eq]
/-- chars -/
theorem qch : ∀ n, n < 128 → ((qn n).toUInt32 % 65536).toInt32 = qn n ∧ (qn n).toUInt32.toUInt16.toUInt32.toInt32 = qn n := by decide +kernel
/-- bits -/
def qt (s : Int32) (t : Nat) : Bool := decide ((s >>> (qn t &&& qn 31)) &&& qn 1 = qn 1)
theorem qt_1 (s : Int32) (t : Nat) : (((s >>> (qn t &&& qn 31)) &&& qn 1) = qn 1) = (qt s t = true) := by simp [qt]
theorem q_b1 : ∀ i, i < 32 → (qn 1).toBitVec.getLsbD i = decide (i = 0) := by decide +kernel
theorem q_and1 (x : Int32) : x &&& qn 1 = qn 0 ∨ x &&& qn 1 = qn 1 := by
  by_cases h : x.toBitVec.getLsbD 0 = true
  · right
    apply Int32.toBitVec_inj.mp
    rw [Int32.toBitVec_and]
    apply BitVec.eq_of_getLsbD_eq
    intro i hi
    rw [BitVec.getLsbD_and]
    have e : (qn 1).toBitVec.getLsbD i = decide (i = 0) := q_b1 i hi
    rw [e]
    by_cases h0 : i = 0
    · subst h0; simp [h]
    · simp [h0]
  · left
    apply Int32.toBitVec_inj.mp
    rw [Int32.toBitVec_and]
    apply BitVec.eq_of_getLsbD_eq
    intro i hi
    rw [BitVec.getLsbD_and]
    have e : (qn 1).toBitVec.getLsbD i = decide (i = 0) := q_b1 i hi
    have e2 : (qn 0).toBitVec.getLsbD i = false := by
      show (BitVec.ofNat 32 0).getLsbD i = _
      simp
    rw [e, e2]
    by_cases h0 : i = 0
    · subst h0; simp at h; simp [h]
    · simp [h0]
theorem qt_0 (s : Int32) (t : Nat) : (((s >>> (qn t &&& qn 31)) &&& qn 1) = qn 0) = (qt s t = false) := by
  rcases q_and1 (s >>> (qn t &&& qn 31)) with h | h <;> simp [qt, h, qn_eq]
theorem q_smod : ∀ n, n < 32 → ((qn n &&& qn 31).toBitVec.smod 32).toNat = n := by decide +kernel
theorem qt_bit (s : Int32) {t : Nat} (ht : t < 32) : qt s t = s.toBitVec.getLsbD t := by
  have h0 : ((s >>> (qn t &&& qn 31)) &&& qn 1).toBitVec.getLsbD 0 = s.toBitVec.getLsbD t := by
    rw [Int32.toBitVec_and, Int32.toBitVec_shiftRight, BitVec.getLsbD_and, BitVec.sshiftRight_eq', q_smod t ht, BitVec.getLsbD_sshiftRight]
    have e : (qn 1).toBitVec.getLsbD 0 = true := by decide
    rw [e]
    simp [ht]
  rcases q_and1 (s >>> (qn t &&& qn 31)) with h | h
  · rw [h] at h0
    rw [← h0]; simp [qt, h, qn_eq]; decide
  · rw [h] at h0
    rw [← h0]; simp [qt, h]; decide
theorem qt_or (a b : Int32) {t : Nat} (ht : t < 32) : qt (a ||| b) t = (qt a t || qt b t) := by
  rw [qt_bit _ ht, qt_bit _ ht, qt_bit _ ht, Int32.toBitVec_or, BitVec.getLsbD_or]
theorem qt_and (a b : Int32) {t : Nat} (ht : t < 32) : qt (a &&& b) t = (qt a t && qt b t) := by
  rw [qt_bit _ ht, qt_bit _ ht, qt_bit _ ht, Int32.toBitVec_and, BitVec.getLsbD_and]
theorem qt_z {t : Nat} (ht : t < 32) : qt (qn 0) t = false := by
  rw [qt_bit _ ht]
  show (BitVec.ofNat 32 0).getLsbD t = _
  simp
theorem qt_ext {a b : Int32} (h : ∀ t, t < 32 → qt a t = qt b t) : a = b := by
  apply Int32.toBitVec_inj.mp
  apply BitVec.eq_of_getLsbD_eq
  intro i hi
  rw [← qt_bit _ hi, ← qt_bit _ hi, h i hi]
theorem qt_hi {n t : Nat} (hn : n < 2048) (h : 11 ≤ t) (ht : t < 32) : qt (qn n) t = false := by
  rw [qt_bit _ ht]
  show (BitVec.ofNat 32 n).getLsbD t = _
  rw [BitVec.getLsbD_ofNat]
  have : n.testBit t = false := Nat.testBit_lt_two_pow (Nat.lt_of_lt_of_le hn (Nat.le_trans (by decide : (2048 : Nat) ≤ 2 ^ 11) (Nat.pow_le_pow_right (by decide) h)))
  simp [this]
theorem qt_pow : ∀ k, k < 11 → ∀ t, t < 32 → qt (qn 1 <<< (qn k &&& qn 31)) t = decide (t = k) := by decide +kernel
theorem qt_pow2 : ∀ k, k < 11 → qn 1 <<< (qn k &&& qn 31) = qn (2 ^ k) := by decide +kernel
/-- ints of less than 2048 -/
def qS (s : Int32) : Prop := ∃ n, n < 2048 ∧ s = qn n
theorem qS_of {s : Int32} (h : ∀ t, 11 ≤ t → t < 32 → qt s t = false) : qS s := by
  refine ⟨s.toBitVec.toNat, ?_, ?_⟩
  · rw [show (2048 : Nat) = 2 ^ 11 from rfl]
    apply Nat.lt_pow_two_of_testBit
    intro i hi
    by_cases h32 : i < 32
    · have := h i hi h32
      rw [qt_bit _ h32] at this
      exact this
    · exact Nat.testBit_lt_two_pow (Nat.lt_of_lt_of_le s.toBitVec.isLt (Nat.pow_le_pow_right (by decide) (by omega)))
  · apply Int32.toBitVec_inj.mp
    show _ = BitVec.ofNat 32 _
    simp
theorem qS_or {a b : Int32} (ha : qS a) (hb : qS b) : qS (a ||| b) := by
  obtain ⟨n, hn, rfl⟩ := ha
  obtain ⟨m, hm, rfl⟩ := hb
  refine qS_of fun t h1 h2 => ?_
  rw [qt_or _ _ h2, qt_hi hn h1 h2, qt_hi hm h1 h2]; rfl
theorem qS_z : qS (qn 0) := ⟨0, by decide, rfl⟩
theorem qS_ext {a b : Int32} (ha : qS a) (hb : qS b) (h : ∀ t, t < 11 → qt a t = qt b t) : a = b := by
  obtain ⟨n, hn, rfl⟩ := ha
  obtain ⟨m, hm, rfl⟩ := hb
  refine qt_ext fun t ht => ?_
  by_cases h1 : t < 11
  · exact h t h1
  · rw [qt_hi hn (by omega) ht, qt_hi hm (by omega) ht]
