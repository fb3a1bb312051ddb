/-! THE LAW: its loop -/
theorem qAnd31 (s : Int32) : ∃ n, n < 2147483648 ∧ s &&& qn 2147483647 = qn n := by
  refine ⟨s.toBitVec.toNat % 2 ^ 31, ?_, ?_⟩
  · have := Nat.mod_lt s.toBitVec.toNat (show 0 < 2 ^ 31 by decide)
    have h : (2 : Nat) ^ 31 = 2147483648 := by decide
    omega
  · apply Int32.toBitVec_inj.mp
    apply BitVec.eq_of_toNat_eq
    rw [Int32.toBitVec_and, BitVec.toNat_and, q_nb, q_nb, BitVec.toNat_ofNat, BitVec.toNat_ofNat]
    have h1 : (2147483647 : Nat) % 2 ^ 32 = 2 ^ 31 - 1 := by decide
    have h2 := Nat.mod_lt s.toBitVec.toNat (show 0 < 2 ^ 31 by decide)
    have h3 : (2 : Nat) ^ 31 < 2 ^ 32 := by decide
    rw [h1, Nat.and_two_pow_sub_one_eq_mod, Nat.mod_eq_of_lt (show s.toBitVec.toNat % 2 ^ 31 < 2 ^ 32 by omega)]
theorem lFrom (xs : Nat → Int32) {L : Nat} (hL : L < 2147483648) {k below : Nat} (hk : k < 1000) (hb : 0 < below) (hb2 : below < 2147483648) (M : zM) : ∃ u, u < below ∧ fL_from xs L (qn k) (qn below) M = some (qn u, M) := by
  have h28 : ∀ s : Int32, ∃ u, u < below ∧ fL_from_28 xs L (qn below) s M = some (qn u, M) := by
    intro s
    obtain ⟨n, n1, n2⟩ := qAnd31 s
    refine ⟨n % below, Nat.mod_lt _ hb, ?_⟩
    have c : ¬ below = 0 := by omega
    unfold fL_from_28
    simp (disch := omega) only [↓qlet, eq_self, qzg_t, qzb_some, ↓reduceIte, not_or, not_false_eq_true, not_true_eq_false, and_true, true_and, and_self, or_false, false_or, true_or, or_true, and_false, false_and, qlit, qneg, qof, qn_add, qn_mul, qn_s, qn_z, qn_d, qn_dz, qm_1, qt_1, qt_0, qb_0, qb_1, qb_01, qb01b, q01_0, q01_1, qo_s, qo_n, qn_c, qn_le, qn_lt, qn_eq, qn_ne_m, qm_ne_n, qm_lt, qm_le, qn_lt_m, qn_le_m, qn_sub, qn_div, qn_mod, qle_t, qle_f, qlt_t, qlt_f, qeq_t, qeq_f, Nat.add_sub_cancel, qU_s, qU_a, qU_k, qn_rem, qL_I, qL_s, lk_505, lk_506, lk_507, lk_508, lk_509, lk_510, lk_511, lk_512, lk_513, lk_514, lk_515, lk_516, lk_517, lk_518, lk_519, ll_505, ll_506, ll_507, ll_508, ll_509, ll_510, ll_511, ll_512, ll_513, ll_514, ll_515, ll_516, ll_517, ll_518, ll_519, n2, c]
  unfold fL_from
  generalize fL_from_28 = F at h28 ⊢
  by_cases c : L = 0
  · subst c
    obtain ⟨u, u1, u2⟩ := h28 (331 * qn k + 293)
    refine ⟨u, u1, ?_⟩
    rw [if_pos (show Int32.ofNat 0 = 0 from rfl)]
    exact u2
  · obtain ⟨u, u1, u2⟩ := h28 (xs (k % L) ^^^ (241051 * qn k))
    refine ⟨u, u1, ?_⟩
    have hm : k % L < L := Nat.mod_lt _ (by omega)
    simp (disch := omega) only [↓qlet, eq_self, qzg_t, qzb_some, ↓reduceIte, not_or, not_false_eq_true, not_true_eq_false, and_true, true_and, and_self, or_false, false_or, true_or, or_true, and_false, false_and, qlit, qneg, qof, qn_add, qn_mul, qn_s, qn_z, qn_d, qn_dz, qm_1, qt_1, qt_0, qb_0, qb_1, qb_01, qb01b, q01_0, q01_1, qo_s, qo_n, qn_c, qn_le, qn_lt, qn_eq, qn_ne_m, qm_ne_n, qm_lt, qm_le, qn_lt_m, qn_le_m, qn_sub, qn_div, qn_mod, qle_t, qle_f, qlt_t, qlt_f, qeq_t, qeq_f, Nat.add_sub_cancel, qU_s, qU_a, qU_k, qn_rem, qL_I, qL_s, lk_505, lk_506, lk_507, lk_508, lk_509, lk_510, lk_511, lk_512, lk_513, lk_514, lk_515, lk_516, lk_517, lk_518, lk_519, ll_505, ll_506, ll_507, ll_508, ll_509, ll_510, ll_511, ll_512, ll_513, ll_514, ll_515, ll_516, ll_517, ll_518, ll_519, c, hm] at u2 ⊢
    exact u2
/-- the states are kept once more -/
def qWc (W : Nat → Nat → Nat) (j : Nat) : Nat → Nat → Nat := fun a k => if a = 519 ∧ k < j then W 518 k % 18446744073709551616 else W a k
theorem qWc_s (W : Nat → Nat → Nat) (j : Nat) : qUN (qWc W j) 519 j (W 518 j % 18446744073709551616) = qWc W (j + 1) := by
  funext a k
  unfold qUN qWc
  by_cases c : a = 519 ∧ k = j
  · rw [if_pos c, if_pos ⟨c.1, by omega⟩, c.2]
  · rw [if_neg c]
    by_cases c2 : a = 519 ∧ k < j
    · rw [if_pos c2, if_pos ⟨c2.1, by omega⟩]
    · rw [if_neg c2, if_neg (fun h => c2 ⟨h.1, by have : ¬ k = j := fun e => c ⟨h.1, e⟩; omega⟩)]
theorem qWc_0 (W : Nat → Nat → Nat) : qWc W 0 = W := by
  funext a k
  unfold qWc
  rw [if_neg (by omega)]
theorem qI64_m (n : Nat) : (Int64.ofNat n).toUInt64.toNat = n % 18446744073709551616 := by
  show (BitVec.ofNat 64 n).toNat = _
  rw [BitVec.toNat_ofNat]
theorem qWc_old {G : qG} {W : Nat → Nat → Nat} {X : List (qZ × Nat)} (h : qLW G W X) (hl : X.length ≤ 19) : qLWa G 519 (qWc W 48) X := by
  refine qAll_mono h fun j x hj _ hp => ?_
  obtain ⟨h1, h2, h3⟩ := hp
  obtain ⟨a4, a5⟩ := qXl_lt h3
  refine ⟨?_, ?_, h3⟩
  · unfold qWc
    rw [if_pos ⟨rfl, by omega⟩, h1]
    exact Nat.mod_eq_of_lt (by omega)
  · unfold qWc
    rw [if_pos ⟨rfl, by omega⟩, h2]
    exact Nat.mod_eq_of_lt (by omega)
theorem qLWa_fr {G : qG} {a : Nat} {W Y : Nat → Nat → Nat} {X : List (qZ × Nat)} (h : qLWa G a W X) (e : Y a = W a) : qLWa G a Y X := by
  unfold qLWa
  rw [e]
  exact h
theorem qNeg27 : ∀ n, n < 27 → (qn 0 ≤ qn n - qn 27) = False := by
  intro n hn
  have h : ∀ n, n < 27 → ¬ (qn 0 ≤ qn n - qn 27) := by decide +kernel
  exact eq_false (h n hn)
abbrev qK164 : Type := Nat → Nat → Nat → Nat → Nat → Nat → Nat → Nat → Nat → Nat → Nat → Nat → Nat → Nat → Nat → Nat → Int32 → Int32 → Int32 → Nat → Nat → zM → Option (Int32 × zM)
def lK (k : qK164) (is whole i : Int32) (M : zM) : Option (Int32 × zM) := k 1 505 506 507 508 509 510 511 512 513 514 515 516 517 518 519 is whole i 519 20148 M
section
variable {w : Bool} {I : Nat → Nat → Int32} {W : Nat → Nat → Nat} {A : qA}
theorem lWc (xs : Nat → Int32) (L : Nat) (k : qK164) (x18 x19 x20 x21 x22 : Int32) : ∀ d j m, j + d = 48 → d < m → fL_holds_233 xs L k m 1 505 506 507 508 509 510 511 512 513 514 515 516 517 518 519 x18 x19 x20 x21 x22 (qn j) 519 20148 (qL w I (qWc W j)) = fL_holds_256 xs L k 1 505 506 507 508 509 510 511 512 513 514 515 516 517 518 519 x18 x19 x20 x21 x22 519 20148 (qL w I (qWc W 48)) := by
  intro d
  induction d with
  | zero =>
    intro j m h1 h2
    obtain ⟨m, rfl⟩ : ∃ q, m = q + 1 := ⟨m - 1, by omega⟩
    obtain rfl : j = 48 := by omega
    unfold fL_holds_233
    generalize fL_holds_256 = F
    simp (disch := omega) only [↓qlet, eq_self, qzg_t, qzb_some, ↓reduceIte, not_or, not_false_eq_true, not_true_eq_false, and_true, true_and, and_self, or_false, false_or, true_or, or_true, and_false, false_and, qlit, qneg, qof, qn_add, qn_mul, qn_s, qn_z, qn_d, qn_dz, qm_1, qt_1, qt_0, qb_0, qb_1, qb_01, qb01b, q01_0, q01_1, qo_s, qo_n, qn_c, qn_le, qn_lt, qn_eq, qn_ne_m, qm_ne_n, qm_lt, qm_le, qn_lt_m, qn_le_m, qn_sub, qn_div, qn_mod, qle_t, qle_f, qlt_t, qlt_f, qeq_t, qeq_f, Nat.add_sub_cancel, qU_s, qU_a, qU_k, qn_rem, qL_I, qL_s, lk_505, lk_506, lk_507, lk_508, lk_509, lk_510, lk_511, lk_512, lk_513, lk_514, lk_515, lk_516, lk_517, lk_518, lk_519, ll_505, ll_506, ll_507, ll_508, ll_509, ll_510, ll_511, ll_512, ll_513, ll_514, ll_515, ll_516, ll_517, ll_518, ll_519, Nat.le_refl]
  | succ d ih =>
    intro j m h1 h2
    obtain ⟨m, rfl⟩ : ∃ q, m = q + 1 := ⟨m - 1, by omega⟩
    have ih := ih (j + 1) m (by omega) (by omega)
    have c : ¬ 48 ≤ j := by omega
    have e : qWc W j 518 j = W 518 j := by unfold qWc; rw [if_neg (by omega)]
    unfold fL_holds_233
    generalize fL_holds_256 = F at ih ⊢
    simp (disch := omega) only [↓qlet, eq_self, qzg_t, qzb_some, ↓reduceIte, not_or, not_false_eq_true, not_true_eq_false, and_true, true_and, and_self, or_false, false_or, true_or, or_true, and_false, false_and, qlit, qneg, qof, qn_add, qn_mul, qn_s, qn_z, qn_d, qn_dz, qm_1, qt_1, qt_0, qb_0, qb_1, qb_01, qb01b, q01_0, q01_1, qo_s, qo_n, qn_c, qn_le, qn_lt, qn_eq, qn_ne_m, qm_ne_n, qm_lt, qm_le, qn_lt_m, qn_le_m, qn_sub, qn_div, qn_mod, qle_t, qle_f, qlt_t, qlt_f, qeq_t, qeq_f, Nat.add_sub_cancel, qU_s, qU_a, qU_k, qn_rem, qL_I, qL_s, lk_505, lk_506, lk_507, lk_508, lk_509, lk_510, lk_511, lk_512, lk_513, lk_514, lk_515, lk_516, lk_517, lk_518, lk_519, ll_505, ll_506, ll_507, ll_508, ll_509, ll_510, ll_511, ll_512, ll_513, ll_514, ll_515, ll_516, ll_517, ll_518, ll_519, c, qL_L, qL_sL, qI64_m, e, qWc_s]
    exact ih
/-- behind a change -/
theorem lAfter (xs : Nat → Int32) (L : Nat) (k : qK164) (hA : qCA w I A) (hL : qLI I A) {i u place had : Nat} (hi : i < 100) (hu : u < 100000000) (hp : place < 100) (hhad : had ≤ 1) (by1 : Int32) (hby : by1 = qn 0 ∨ by1 = qn 1 ∨ by1 = qm) (han : ¬ by1 = qn 0 → had = 1 → ∀ J W', (∀ a, (a ≤ 509 ∨ 518 ≤ a) → J a = I a) → W' 519 = W 519 → qLW A.1 W' (qFA A).2 → fL_anew 509 518 519 (qn place) by1 (qL w J W') = some (qn A.2.2.2.2, qL w J W')) :
    ∃ w2 J W2 f, fL_holds_437 xs L k 1 505 506 507 508 509 510 511 512 513 514 515 516 517 518 519 (qn i) (qn u) (qn place) (qn had) by1 (qn 1) 519 20148 (qL w I W) = lK k (qn 1) (qb (!f)) (qn (i + 1)) (qL w2 J W2) ∧ qCA w2 J A ∧ qLI J A ∧ (f = false → qLW A.1 W2 (qFA A).2) := by
  obtain ⟨J, W', f, e1, fr, e519, hR6, hR⟩ := lReads (w := w) (W := W) hA.1.1 hL.1 hL.2
  have hAJ : qCA w J A := qCA_st hA fun a ha => fr a (by omega)
  have hLJ : qLI J A := qLI_fr hL fun a h1 h2 => fr a (by omega)
  cases f with
  | true =>
    rw [qb_t] at hR6
    refine ⟨w, J, W', true, ?_, hAJ, hLJ, fun h => (by cases h)⟩
    unfold fL_holds_437 fL_holds_481 fL_holds_574 lK
    rw [Bool.not_true, qb_f]
    simp (disch := omega) only [↓qlet, eq_self, qzg_t, qzb_some, ↓reduceIte, not_or, not_false_eq_true, not_true_eq_false, and_true, true_and, and_self, or_false, false_or, true_or, or_true, and_false, false_and, qlit, qneg, qof, qn_add, qn_mul, qn_s, qn_z, qn_d, qn_dz, qm_1, qt_1, qt_0, qb_0, qb_1, qb_01, qb01b, q01_0, q01_1, qo_s, qo_n, qn_c, qn_le, qn_lt, qn_eq, qn_ne_m, qm_ne_n, qm_lt, qm_le, qn_lt_m, qn_le_m, qn_sub, qn_div, qn_mod, qle_t, qle_f, qlt_t, qlt_f, qeq_t, qeq_f, Nat.add_sub_cancel, qU_s, qU_a, qU_k, qn_rem, qL_I, qL_s, lk_505, lk_506, lk_507, lk_508, lk_509, lk_510, lk_511, lk_512, lk_513, lk_514, lk_515, lk_516, lk_517, lk_518, lk_519, ll_505, ll_506, ll_507, ll_508, ll_509, ll_510, ll_511, ll_512, ll_513, ll_514, ll_515, ll_516, ll_517, ll_518, ll_519, Nat.le_refl, e1, hR6, Nat.add_zero]
  | false =>
    rw [qb_f] at hR6
    obtain ⟨hV, hok, hW, hlen⟩ := hR rfl
    have hW : qLW A.1 W' (qFA A).2 := hW
    have hV : qLV J A.2.2.2.1.length (qFA A).1 false := hV
    have h60 : (qFA A).1.2.2.1.length ≤ 60 := hok.2.2.2.2.2.1
    have h60e : (qFA A).1.2.2.2.2.2.length ≤ 60 := hok.2.2.2.2.2.2.1
    have h523 : ∃ K, fL_holds_523 xs L k 1 505 506 507 508 509 510 511 512 513 514 515 516 517 518 519 (qn 1) (qn i) (qn u) 519 20148 (qL w J W') = lK k (qn 1) (qn 1) (qn (i + 1)) (qL w K W') ∧ qCA w K A ∧ qLI K A := by
      have hst := lAreStates hAJ hLJ hW (u := u / 7) (by omega)
      by_cases c3 : 0 < i % 3
      · refine ⟨J, ?_, hAJ, hLJ⟩
        unfold fL_holds_523 fL_holds_567 fL_holds_572 fL_holds_574 lK
        simp (disch := omega) only [↓qlet, eq_self, qzg_t, qzb_some, ↓reduceIte, not_or, not_false_eq_true, not_true_eq_false, and_true, true_and, and_self, or_false, false_or, true_or, or_true, and_false, false_and, qlit, qneg, qof, qn_add, qn_mul, qn_s, qn_z, qn_d, qn_dz, qm_1, qt_1, qt_0, qb_0, qb_1, qb_01, qb01b, q01_0, q01_1, qo_s, qo_n, qn_c, qn_le, qn_lt, qn_eq, qn_ne_m, qm_ne_n, qm_lt, qm_le, qn_lt_m, qn_le_m, qn_sub, qn_div, qn_mod, qle_t, qle_f, qlt_t, qlt_f, qeq_t, qeq_f, Nat.add_sub_cancel, qU_s, qU_a, qU_k, qn_rem, qL_I, qL_s, lk_505, lk_506, lk_507, lk_508, lk_509, lk_510, lk_511, lk_512, lk_513, lk_514, lk_515, lk_516, lk_517, lk_518, lk_519, ll_505, ll_506, ll_507, ll_508, ll_509, ll_510, ll_511, ll_512, ll_513, ll_514, ll_515, ll_516, ll_517, ll_518, ll_519, Nat.le_refl, hst, c3, Nat.add_zero]
      · obtain ⟨N, n1, n2⟩ := lIsTree (W := W') hAJ hV h60 h60e
        refine ⟨qJn N J, ?_, n2, qLI_fr hLJ fun a h1 h2 => qJn_r (by omega)⟩
        unfold fL_holds_523 fL_holds_567 fL_holds_572 fL_holds_574 lK
        simp (disch := omega) only [↓qlet, eq_self, qzg_t, qzb_some, ↓reduceIte, not_or, not_false_eq_true, not_true_eq_false, and_true, true_and, and_self, or_false, false_or, true_or, or_true, and_false, false_and, qlit, qneg, qof, qn_add, qn_mul, qn_s, qn_z, qn_d, qn_dz, qm_1, qt_1, qt_0, qb_0, qb_1, qb_01, qb01b, q01_0, q01_1, qo_s, qo_n, qn_c, qn_le, qn_lt, qn_eq, qn_ne_m, qm_ne_n, qm_lt, qm_le, qn_lt_m, qn_le_m, qn_sub, qn_div, qn_mod, qle_t, qle_f, qlt_t, qlt_f, qeq_t, qeq_f, Nat.add_sub_cancel, qU_s, qU_a, qU_k, qn_rem, qL_I, qL_s, lk_505, lk_506, lk_507, lk_508, lk_509, lk_510, lk_511, lk_512, lk_513, lk_514, lk_515, lk_516, lk_517, lk_518, lk_519, ll_505, ll_506, ll_507, ll_508, ll_509, ll_510, ll_511, ll_512, ll_513, ll_514, ll_515, ll_516, ll_517, ll_518, ll_519, Nat.le_refl, hst, c3, n1, Nat.add_zero]
    obtain ⟨K, k1, k2, k3⟩ := h523
    have h481 : fL_holds_481 xs L k 1 505 506 507 508 509 510 511 512 513 514 515 516 517 518 519 (qn 1) (qn i) (qn u) (qn place) (qn had) by1 (qn 1) 519 20148 (qL w J W') = fL_holds_523 xs L k 1 505 506 507 508 509 510 511 512 513 514 515 516 517 518 519 (qn 1) (qn i) (qn u) 519 20148 (qL w J W') := by
      unfold fL_holds_481
      generalize fL_holds_523 = F
      by_cases c0 : by1 = qn 0
      · simp (disch := omega) only [↓qlet, eq_self, qzg_t, qzb_some, ↓reduceIte, not_or, not_false_eq_true, not_true_eq_false, and_true, true_and, and_self, or_false, false_or, true_or, or_true, and_false, false_and, qlit, qneg, qof, qn_add, qn_mul, qn_s, qn_z, qn_d, qn_dz, qm_1, qt_1, qt_0, qb_0, qb_1, qb_01, qb01b, q01_0, q01_1, qo_s, qo_n, qn_c, qn_le, qn_lt, qn_eq, qn_ne_m, qm_ne_n, qm_lt, qm_le, qn_lt_m, qn_le_m, qn_sub, qn_div, qn_mod, qle_t, qle_f, qlt_t, qlt_f, qeq_t, qeq_f, Nat.add_sub_cancel, qU_s, qU_a, qU_k, qn_rem, qL_I, qL_s, lk_505, lk_506, lk_507, lk_508, lk_509, lk_510, lk_511, lk_512, lk_513, lk_514, lk_515, lk_516, lk_517, lk_518, lk_519, ll_505, ll_506, ll_507, ll_508, ll_509, ll_510, ll_511, ll_512, ll_513, ll_514, ll_515, ll_516, ll_517, ll_518, ll_519, c0]
      · by_cases ch : had = 0
        · simp (disch := omega) only [↓qlet, eq_self, qzg_t, qzb_some, ↓reduceIte, not_or, not_false_eq_true, not_true_eq_false, and_true, true_and, and_self, or_false, false_or, true_or, or_true, and_false, false_and, qlit, qneg, qof, qn_add, qn_mul, qn_s, qn_z, qn_d, qn_dz, qm_1, qt_1, qt_0, qb_0, qb_1, qb_01, qb01b, q01_0, q01_1, qo_s, qo_n, qn_c, qn_le, qn_lt, qn_eq, qn_ne_m, qm_ne_n, qm_lt, qm_le, qn_lt_m, qn_le_m, qn_sub, qn_div, qn_mod, qle_t, qle_f, qlt_t, qlt_f, qeq_t, qeq_f, Nat.add_sub_cancel, qU_s, qU_a, qU_k, qn_rem, qL_I, qL_s, lk_505, lk_506, lk_507, lk_508, lk_509, lk_510, lk_511, lk_512, lk_513, lk_514, lk_515, lk_516, lk_517, lk_518, lk_519, ll_505, ll_506, ll_507, ll_508, ll_509, ll_510, ll_511, ll_512, ll_513, ll_514, ll_515, ll_516, ll_517, ll_518, ll_519, c0, ch]
        · have hn := han c0 (by omega) J W' fr e519 hW
          have hc := cAnew hAJ
          simp (disch := omega) only [↓qlet, eq_self, qzg_t, qzb_some, ↓reduceIte, not_or, not_false_eq_true, not_true_eq_false, and_true, true_and, and_self, or_false, false_or, true_or, or_true, and_false, false_and, qlit, qneg, qof, qn_add, qn_mul, qn_s, qn_z, qn_d, qn_dz, qm_1, qt_1, qt_0, qb_0, qb_1, qb_01, qb01b, q01_0, q01_1, qo_s, qo_n, qn_c, qn_le, qn_lt, qn_eq, qn_ne_m, qm_ne_n, qm_lt, qm_le, qn_lt_m, qn_le_m, qn_sub, qn_div, qn_mod, qle_t, qle_f, qlt_t, qlt_f, qeq_t, qeq_f, Nat.add_sub_cancel, qU_s, qU_a, qU_k, qn_rem, qL_I, qL_s, lk_505, lk_506, lk_507, lk_508, lk_509, lk_510, lk_511, lk_512, lk_513, lk_514, lk_515, lk_516, lk_517, lk_518, lk_519, ll_505, ll_506, ll_507, ll_508, ll_509, ll_510, ll_511, ll_512, ll_513, ll_514, ll_515, ll_516, ll_517, ll_518, ll_519, lcut, zbc_0, zbd_0, lCel, lk_1, qJn_r, qJn_self, c0, ch, Nat.le_refl, hn, hc, Nat.add_zero]
    refine ⟨w, K, W', false, ?_, k2, k3, fun _ => hW⟩
    rw [Bool.not_false, qb_t, ← k1, ← h481]
    unfold fL_holds_437
    generalize fL_holds_481 = F
    simp (disch := omega) only [↓qlet, eq_self, qzg_t, qzb_some, ↓reduceIte, not_or, not_false_eq_true, not_true_eq_false, and_true, true_and, and_self, or_false, false_or, true_or, or_true, and_false, false_and, qlit, qneg, qof, qn_add, qn_mul, qn_s, qn_z, qn_d, qn_dz, qm_1, qt_1, qt_0, qb_0, qb_1, qb_01, qb01b, q01_0, q01_1, qo_s, qo_n, qn_c, qn_le, qn_lt, qn_eq, qn_ne_m, qm_ne_n, qm_lt, qm_le, qn_lt_m, qn_le_m, qn_sub, qn_div, qn_mod, qle_t, qle_f, qlt_t, qlt_f, qeq_t, qeq_f, Nat.add_sub_cancel, qU_s, qU_a, qU_k, qn_rem, qL_I, qL_s, lk_505, lk_506, lk_507, lk_508, lk_509, lk_510, lk_511, lk_512, lk_513, lk_514, lk_515, lk_516, lk_517, lk_518, lk_519, ll_505, ll_506, ll_507, ll_508, ll_509, ll_510, ll_511, ll_512, ll_513, ll_514, ll_515, ll_516, ll_517, ll_518, ll_519, Nat.le_refl, e1, hR6, Nat.add_zero]
end
