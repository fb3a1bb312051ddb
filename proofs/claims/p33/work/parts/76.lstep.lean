/-! THE LAW: one round of its loop, all of them -/
section
variable {w : Bool} {I : Nat → Nat → Int32} {W : Nat → Nat → Nat} {A : qA}
theorem lGo_a (xs : Nat → Int32) (L : Nat) (k : qK164) {way u place n : Nat} (hw : way ≤ 8) (hu : u < 100000000) (hn : n ≤ 18) (h20 : I 509 20 = qn n) (x18 x19 : Int32) : fL_holds_256 xs L k 1 505 506 507 508 509 510 511 512 513 514 515 516 517 518 519 x18 x19 (qn u) (qn way) (qn place) 519 20148 (qL w I W) = fL_holds_434 xs L k 1 505 506 507 508 509 510 511 512 513 514 515 516 517 518 519 x19 (qn u) (qn place) x18 (qn 0) 1 505 506 507 (qn (if way ≤ 3 then way else 3)) (qn (if way = 4 then u / 5 * 5 else u)) 519 20148 (qL w I W) := by
  unfold fL_holds_256 fL_holds_288 fL_holds_314 fL_holds_315 fL_holds_335 fL_holds_417
  generalize fL_holds_434 = F
  by_cases c3 : way ≤ 3
  · have c4 : ¬ way = 4 := by omega
    simp (disch := omega) only [↓qlet, eq_self, qzg_t, qzb_some, ↓reduceIte, not_or, not_false_eq_true, not_true_eq_false, and_true, true_and, and_self, or_false, false_or, true_or, or_true, and_false, false_and, qlit, qneg, qof, qn_add, qn_mul, qn_s, qn_z, qn_d, qn_dz, qm_1, qt_1, qt_0, qb_0, qb_1, qb_01, qb01b, q01_0, q01_1, qo_s, qo_n, qn_c, qn_le, qn_lt, qn_eq, qn_ne_m, qm_ne_n, qm_lt, qm_le, qn_lt_m, qn_le_m, qn_sub, qn_div, qn_mod, qle_t, qle_f, qlt_t, qlt_f, qeq_t, qeq_f, Nat.add_sub_cancel, qU_s, qU_a, qU_k, qn_rem, qL_I, qL_s, lk_505, lk_506, lk_507, lk_508, lk_509, lk_510, lk_511, lk_512, lk_513, lk_514, lk_515, lk_516, lk_517, lk_518, lk_519, ll_505, ll_506, ll_507, ll_508, ll_509, ll_510, ll_511, ll_512, ll_513, ll_514, ll_515, ll_516, ll_517, ll_518, ll_519, hw, c3, c4, Nat.le_refl]
  · by_cases c4 : way = 4
    · subst c4
      simp (disch := omega) only [↓qlet, eq_self, qzg_t, qzb_some, ↓reduceIte, not_or, not_false_eq_true, not_true_eq_false, and_true, true_and, and_self, or_false, false_or, true_or, or_true, and_false, false_and, qlit, qneg, qof, qn_add, qn_mul, qn_s, qn_z, qn_d, qn_dz, qm_1, qt_1, qt_0, qb_0, qb_1, qb_01, qb01b, q01_0, q01_1, qo_s, qo_n, qn_c, qn_le, qn_lt, qn_eq, qn_ne_m, qm_ne_n, qm_lt, qm_le, qn_lt_m, qn_le_m, qn_sub, qn_div, qn_mod, qle_t, qle_f, qlt_t, qlt_f, qeq_t, qeq_f, Nat.add_sub_cancel, qU_s, qU_a, qU_k, qn_rem, qL_I, qL_s, lk_505, lk_506, lk_507, lk_508, lk_509, lk_510, lk_511, lk_512, lk_513, lk_514, lk_515, lk_516, lk_517, lk_518, lk_519, ll_505, ll_506, ll_507, ll_508, ll_509, ll_510, ll_511, ll_512, ll_513, ll_514, ll_515, ll_516, ll_517, ll_518, ll_519, Nat.le_refl]
    · simp (disch := omega) only [↓qlet, eq_self, qzg_t, qzb_some, ↓reduceIte, not_or, not_false_eq_true, not_true_eq_false, and_true, true_and, and_self, or_false, false_or, true_or, or_true, and_false, false_and, qlit, qneg, qof, qn_add, qn_mul, qn_s, qn_z, qn_d, qn_dz, qm_1, qt_1, qt_0, qb_0, qb_1, qb_01, qb01b, q01_0, q01_1, qo_s, qo_n, qn_c, qn_le, qn_lt, qn_eq, qn_ne_m, qm_ne_n, qm_lt, qm_le, qn_lt_m, qn_le_m, qn_sub, qn_div, qn_mod, qle_t, qle_f, qlt_t, qlt_f, qeq_t, qeq_f, Nat.add_sub_cancel, qU_s, qU_a, qU_k, qn_rem, qL_I, qL_s, lk_505, lk_506, lk_507, lk_508, lk_509, lk_510, lk_511, lk_512, lk_513, lk_514, lk_515, lk_516, lk_517, lk_518, lk_519, ll_505, ll_506, ll_507, ll_508, ll_509, ll_510, ll_511, ll_512, ll_513, ll_514, ll_515, ll_516, ll_517, ll_518, ll_519, hw, c3, c4, Nat.le_refl]
theorem lGo_b (xs : Nat → Int32) (L : Nat) (k : qK164) {way u place n : Nat} (hw : 8 < way) (hw2 : way < 24) (hu : u < 100000000) (hn : n < 18) (h20 : I 509 20 = qn n) (x18 x19 : Int32) : fL_holds_256 xs L k 1 505 506 507 508 509 510 511 512 513 514 515 516 517 518 519 x18 x19 (qn u) (qn way) (qn place) 519 20148 (qL w I W) = fL_holds_355 xs L k 1 505 506 507 508 509 510 511 512 513 514 515 516 517 518 519 x19 (qn u) (qn place) x18 (qn 1) 1 509 (qn 1) 519 20148 (qL w I W) := by
  have c1 : ¬ way ≤ 8 := by omega
  have c2 : ¬ 18 ≤ n := by omega
  have c3 : ¬ 24 ≤ way := by omega
  unfold fL_holds_256 fL_holds_315 fL_holds_335
  generalize fL_holds_288 = F1
  generalize fL_holds_355 = F
  generalize fL_holds_392 = F2
  generalize fL_holds_417 = F3
  simp (disch := omega) only [↓qlet, eq_self, qzg_t, qzb_some, ↓reduceIte, not_or, not_false_eq_true, not_true_eq_false, and_true, true_and, and_self, or_false, false_or, true_or, or_true, and_false, false_and, qlit, qneg, qof, qn_add, qn_mul, qn_s, qn_z, qn_d, qn_dz, qm_1, qt_1, qt_0, qb_0, qb_1, qb_01, qb01b, q01_0, q01_1, qo_s, qo_n, qn_c, qn_le, qn_lt, qn_eq, qn_ne_m, qm_ne_n, qm_lt, qm_le, qn_lt_m, qn_le_m, qn_sub, qn_div, qn_mod, qle_t, qle_f, qlt_t, qlt_f, qeq_t, qeq_f, Nat.add_sub_cancel, qU_s, qU_a, qU_k, qn_rem, qL_I, qL_s, lk_505, lk_506, lk_507, lk_508, lk_509, lk_510, lk_511, lk_512, lk_513, lk_514, lk_515, lk_516, lk_517, lk_518, lk_519, ll_505, ll_506, ll_507, ll_508, ll_509, ll_510, ll_511, ll_512, ll_513, ll_514, ll_515, ll_516, ll_517, ll_518, ll_519, h20, c1, c2, c3, Nat.zero_le, Nat.le_refl]
theorem lGo_c (xs : Nat → Int32) (L : Nat) (k : qK164) {way u place n : Nat} (hw : 8 < way) (hw2 : way < 27) (hu : u < 100000000) (hn : n ≤ 18) (hc : 18 ≤ n ∨ 24 ≤ way) (h0 : 0 < n) (h20 : I 509 20 = qn n) (x18 x19 : Int32) : fL_holds_256 xs L k 1 505 506 507 508 509 510 511 512 513 514 515 516 517 518 519 x18 x19 (qn u) (qn way) (qn place) 519 20148 (qL w I W) = fL_holds_355 xs L k 1 505 506 507 508 509 510 511 512 513 514 515 516 517 518 519 x19 (qn u) (qn (u % n)) x18 qm 1 509 (qn 0) 519 20148 (qL w I W) := by
  have c1 : ¬ way ≤ 8 := by omega
  have c4 : ¬ 27 ≤ way := by omega
  have c5 : ¬ n ≤ 0 := by omega
  have c6 : ¬ n = 0 := by omega
  have h288 : fL_holds_288 xs L k 1 505 506 507 508 509 510 511 512 513 514 515 516 517 518 519 x19 (qn u) (qn way) (qn place) x18 519 20148 (qL w I W) = fL_holds_355 xs L k 1 505 506 507 508 509 510 511 512 513 514 515 516 517 518 519 x19 (qn u) (qn (u % n)) x18 qm 1 509 (qn 0) 519 20148 (qL w I W) := by
    unfold fL_holds_288 fL_holds_315 fL_holds_335
    generalize fL_holds_314 = F1
    generalize fL_holds_355 = F
    generalize fL_holds_392 = F2
    generalize fL_holds_417 = F3
    simp (disch := omega) only [↓qlet, eq_self, qzg_t, qzb_some, ↓reduceIte, not_or, not_false_eq_true, not_true_eq_false, and_true, true_and, and_self, or_false, false_or, true_or, or_true, and_false, false_and, qlit, qneg, qof, qn_add, qn_mul, qn_s, qn_z, qn_d, qn_dz, qm_1, qt_1, qt_0, qb_0, qb_1, qb_01, qb01b, q01_0, q01_1, qo_s, qo_n, qn_c, qn_le, qn_lt, qn_eq, qn_ne_m, qm_ne_n, qm_lt, qm_le, qn_lt_m, qn_le_m, qn_sub, qn_div, qn_mod, qle_t, qle_f, qlt_t, qlt_f, qeq_t, qeq_f, Nat.add_sub_cancel, qU_s, qU_a, qU_k, qn_rem, qL_I, qL_s, lk_505, lk_506, lk_507, lk_508, lk_509, lk_510, lk_511, lk_512, lk_513, lk_514, lk_515, lk_516, lk_517, lk_518, lk_519, ll_505, ll_506, ll_507, ll_508, ll_509, ll_510, ll_511, ll_512, ll_513, ll_514, ll_515, ll_516, ll_517, ll_518, ll_519, h20, c1, c4, c5, c6]
  unfold fL_holds_256
  generalize fL_holds_315 = F1
  generalize fL_holds_288 = F at h288 ⊢
  by_cases c2 : 18 ≤ n
  · simp (disch := omega) only [↓qlet, eq_self, qzg_t, qzb_some, ↓reduceIte, not_or, not_false_eq_true, not_true_eq_false, and_true, true_and, and_self, or_false, false_or, true_or, or_true, and_false, false_and, qlit, qneg, qof, qn_add, qn_mul, qn_s, qn_z, qn_d, qn_dz, qm_1, qt_1, qt_0, qb_0, qb_1, qb_01, qb01b, q01_0, q01_1, qo_s, qo_n, qn_c, qn_le, qn_lt, qn_eq, qn_ne_m, qm_ne_n, qm_lt, qm_le, qn_lt_m, qn_le_m, qn_sub, qn_div, qn_mod, qle_t, qle_f, qlt_t, qlt_f, qeq_t, qeq_f, Nat.add_sub_cancel, qU_s, qU_a, qU_k, qn_rem, qL_I, qL_s, lk_505, lk_506, lk_507, lk_508, lk_509, lk_510, lk_511, lk_512, lk_513, lk_514, lk_515, lk_516, lk_517, lk_518, lk_519, ll_505, ll_506, ll_507, ll_508, ll_509, ll_510, ll_511, ll_512, ll_513, ll_514, ll_515, ll_516, ll_517, ll_518, ll_519, h20, c1, c2]
    exact h288
  · have c3 : 24 ≤ way := by omega
    simp (disch := omega) only [↓qlet, eq_self, qzg_t, qzb_some, ↓reduceIte, not_or, not_false_eq_true, not_true_eq_false, and_true, true_and, and_self, or_false, false_or, true_or, or_true, and_false, false_and, qlit, qneg, qof, qn_add, qn_mul, qn_s, qn_z, qn_d, qn_dz, qm_1, qt_1, qt_0, qb_0, qb_1, qb_01, qb01b, q01_0, q01_1, qo_s, qo_n, qn_c, qn_le, qn_lt, qn_eq, qn_ne_m, qm_ne_n, qm_lt, qm_le, qn_lt_m, qn_le_m, qn_sub, qn_div, qn_mod, qle_t, qle_f, qlt_t, qlt_f, qeq_t, qeq_f, Nat.add_sub_cancel, qU_s, qU_a, qU_k, qn_rem, qL_I, qL_s, lk_505, lk_506, lk_507, lk_508, lk_509, lk_510, lk_511, lk_512, lk_513, lk_514, lk_515, lk_516, lk_517, lk_518, lk_519, ll_505, ll_506, ll_507, ll_508, ll_509, ll_510, ll_511, ll_512, ll_513, ll_514, ll_515, ll_516, ll_517, ll_518, ll_519, h20, c1, c2, c3]
    exact h288
theorem lGo_d (xs : Nat → Int32) (L : Nat) (k : qK164) {way u place n : Nat} (hw : 24 ≤ way) (hw2 : way < 30) (hu : u < 100000000) (hn : n ≤ 18) (hc : n = 0 ∨ 27 ≤ way) (h20 : I 509 20 = qn n) (x18 x19 : Int32) : fL_holds_256 xs L k 1 505 506 507 508 509 510 511 512 513 514 515 516 517 518 519 x18 x19 (qn u) (qn way) (qn place) 519 20148 (qL w I W) = fL_holds_392 xs L k 1 505 506 507 508 509 510 511 512 513 514 515 516 517 518 519 x19 (qn u) (qn place) x18 (qn 0) 1 508 509 (qn (if 27 ≤ way then way - 27 else 2)) 519 20148 (qL w I W) := by
  have c1 : ¬ way ≤ 8 := by omega
  have h314 : fL_holds_314 xs L k 1 505 506 507 508 509 510 511 512 513 514 515 516 517 518 519 x19 (qn u) (qn way) (qn place) x18 519 20148 (qL w I W) = fL_holds_392 xs L k 1 505 506 507 508 509 510 511 512 513 514 515 516 517 518 519 x19 (qn u) (qn place) x18 (qn 0) 1 508 509 (qn (if 27 ≤ way then way - 27 else 2)) 519 20148 (qL w I W) := by
    unfold fL_holds_314 fL_holds_315 fL_holds_335
    generalize fL_holds_355 = F
    generalize fL_holds_392 = F2
    generalize fL_holds_417 = F3
    by_cases c4 : 27 ≤ way
    · rw [if_pos c4]
      simp (disch := omega) only [↓qlet, eq_self, qzg_t, qzb_some, ↓reduceIte, not_or, not_false_eq_true, not_true_eq_false, and_true, true_and, and_self, or_false, false_or, true_or, or_true, and_false, false_and, qlit, qneg, qof, qn_add, qn_mul, qn_s, qn_z, qn_d, qn_dz, qm_1, qt_1, qt_0, qb_0, qb_1, qb_01, qb01b, q01_0, q01_1, qo_s, qo_n, qn_c, qn_le, qn_lt, qn_eq, qn_ne_m, qm_ne_n, qm_lt, qm_le, qn_lt_m, qn_le_m, qn_sub, qn_div, qn_mod, qle_t, qle_f, qlt_t, qlt_f, qeq_t, qeq_f, Nat.add_sub_cancel, qU_s, qU_a, qU_k, qn_rem, qL_I, qL_s, lk_505, lk_506, lk_507, lk_508, lk_509, lk_510, lk_511, lk_512, lk_513, lk_514, lk_515, lk_516, lk_517, lk_518, lk_519, ll_505, ll_506, ll_507, ll_508, ll_509, ll_510, ll_511, ll_512, ll_513, ll_514, ll_515, ll_516, ll_517, ll_518, ll_519, c1, c4, Nat.zero_le, Nat.le_refl]
    · rw [if_neg c4]
      simp (disch := omega) only [↓qlet, eq_self, qzg_t, qzb_some, ↓reduceIte, not_or, not_false_eq_true, not_true_eq_false, and_true, true_and, and_self, or_false, false_or, true_or, or_true, and_false, false_and, qlit, qneg, qof, qn_add, qn_mul, qn_s, qn_z, qn_d, qn_dz, qm_1, qt_1, qt_0, qb_0, qb_1, qb_01, qb01b, q01_0, q01_1, qo_s, qo_n, qn_c, qn_le, qn_lt, qn_eq, qn_ne_m, qm_ne_n, qm_lt, qm_le, qn_lt_m, qn_le_m, qn_sub, qn_div, qn_mod, qle_t, qle_f, qlt_t, qlt_f, qeq_t, qeq_f, Nat.add_sub_cancel, qU_s, qU_a, qU_k, qn_rem, qL_I, qL_s, lk_505, lk_506, lk_507, lk_508, lk_509, lk_510, lk_511, lk_512, lk_513, lk_514, lk_515, lk_516, lk_517, lk_518, lk_519, ll_505, ll_506, ll_507, ll_508, ll_509, ll_510, ll_511, ll_512, ll_513, ll_514, ll_515, ll_516, ll_517, ll_518, ll_519, c1, qNeg27 way (by omega), Nat.le_refl]
  have h288 : fL_holds_288 xs L k 1 505 506 507 508 509 510 511 512 513 514 515 516 517 518 519 x19 (qn u) (qn way) (qn place) x18 519 20148 (qL w I W) = fL_holds_314 xs L k 1 505 506 507 508 509 510 511 512 513 514 515 516 517 518 519 x19 (qn u) (qn way) (qn place) x18 519 20148 (qL w I W) := by
    unfold fL_holds_288
    generalize fL_holds_314 = F
    generalize fL_holds_315 = F1
    by_cases c4 : 27 ≤ way
    · simp (disch := omega) only [↓qlet, eq_self, qzg_t, qzb_some, ↓reduceIte, not_or, not_false_eq_true, not_true_eq_false, and_true, true_and, and_self, or_false, false_or, true_or, or_true, and_false, false_and, qlit, qneg, qof, qn_add, qn_mul, qn_s, qn_z, qn_d, qn_dz, qm_1, qt_1, qt_0, qb_0, qb_1, qb_01, qb01b, q01_0, q01_1, qo_s, qo_n, qn_c, qn_le, qn_lt, qn_eq, qn_ne_m, qm_ne_n, qm_lt, qm_le, qn_lt_m, qn_le_m, qn_sub, qn_div, qn_mod, qle_t, qle_f, qlt_t, qlt_f, qeq_t, qeq_f, Nat.add_sub_cancel, qU_s, qU_a, qU_k, qn_rem, qL_I, qL_s, lk_505, lk_506, lk_507, lk_508, lk_509, lk_510, lk_511, lk_512, lk_513, lk_514, lk_515, lk_516, lk_517, lk_518, lk_519, ll_505, ll_506, ll_507, ll_508, ll_509, ll_510, ll_511, ll_512, ll_513, ll_514, ll_515, ll_516, ll_517, ll_518, ll_519, c1, c4]
    · have c5 : n ≤ 0 := by omega
      simp (disch := omega) only [↓qlet, eq_self, qzg_t, qzb_some, ↓reduceIte, not_or, not_false_eq_true, not_true_eq_false, and_true, true_and, and_self, or_false, false_or, true_or, or_true, and_false, false_and, qlit, qneg, qof, qn_add, qn_mul, qn_s, qn_z, qn_d, qn_dz, qm_1, qt_1, qt_0, qb_0, qb_1, qb_01, qb01b, q01_0, q01_1, qo_s, qo_n, qn_c, qn_le, qn_lt, qn_eq, qn_ne_m, qm_ne_n, qm_lt, qm_le, qn_lt_m, qn_le_m, qn_sub, qn_div, qn_mod, qle_t, qle_f, qlt_t, qlt_f, qeq_t, qeq_f, Nat.add_sub_cancel, qU_s, qU_a, qU_k, qn_rem, qL_I, qL_s, lk_505, lk_506, lk_507, lk_508, lk_509, lk_510, lk_511, lk_512, lk_513, lk_514, lk_515, lk_516, lk_517, lk_518, lk_519, ll_505, ll_506, ll_507, ll_508, ll_509, ll_510, ll_511, ll_512, ll_513, ll_514, ll_515, ll_516, ll_517, ll_518, ll_519, h20, c1, c4, c5]
  rw [h314] at h288
  clear h314
  generalize (if 27 ≤ way then way - 27 else 2) = q at h288 ⊢
  unfold fL_holds_256
  generalize fL_holds_315 = F1
  generalize fL_holds_288 = F at h288 ⊢
  by_cases c2 : 18 ≤ n
  · simp (disch := omega) only [↓qlet, eq_self, qzg_t, qzb_some, ↓reduceIte, not_or, not_false_eq_true, not_true_eq_false, and_true, true_and, and_self, or_false, false_or, true_or, or_true, and_false, false_and, qlit, qneg, qof, qn_add, qn_mul, qn_s, qn_z, qn_d, qn_dz, qm_1, qt_1, qt_0, qb_0, qb_1, qb_01, qb01b, q01_0, q01_1, qo_s, qo_n, qn_c, qn_le, qn_lt, qn_eq, qn_ne_m, qm_ne_n, qm_lt, qm_le, qn_lt_m, qn_le_m, qn_sub, qn_div, qn_mod, qle_t, qle_f, qlt_t, qlt_f, qeq_t, qeq_f, Nat.add_sub_cancel, qU_s, qU_a, qU_k, qn_rem, qL_I, qL_s, lk_505, lk_506, lk_507, lk_508, lk_509, lk_510, lk_511, lk_512, lk_513, lk_514, lk_515, lk_516, lk_517, lk_518, lk_519, ll_505, ll_506, ll_507, ll_508, ll_509, ll_510, ll_511, ll_512, ll_513, ll_514, ll_515, ll_516, ll_517, ll_518, ll_519, h20, c1, c2]
    exact h288
  · simp (disch := omega) only [↓qlet, eq_self, qzg_t, qzb_some, ↓reduceIte, not_or, not_false_eq_true, not_true_eq_false, and_true, true_and, and_self, or_false, false_or, true_or, or_true, and_false, false_and, qlit, qneg, qof, qn_add, qn_mul, qn_s, qn_z, qn_d, qn_dz, qm_1, qt_1, qt_0, qb_0, qb_1, qb_01, qb01b, q01_0, q01_1, qo_s, qo_n, qn_c, qn_le, qn_lt, qn_eq, qn_ne_m, qm_ne_n, qm_lt, qm_le, qn_lt_m, qn_le_m, qn_sub, qn_div, qn_mod, qle_t, qle_f, qlt_t, qlt_f, qeq_t, qeq_f, Nat.add_sub_cancel, qU_s, qU_a, qU_k, qn_rem, qL_I, qL_s, lk_505, lk_506, lk_507, lk_508, lk_509, lk_510, lk_511, lk_512, lk_513, lk_514, lk_515, lk_516, lk_517, lk_518, lk_519, ll_505, ll_506, ll_507, ll_508, ll_509, ll_510, ll_511, ll_512, ll_513, ll_514, ll_515, ll_516, ll_517, ll_518, ll_519, h20, c1, c2, hw]
    exact h288
/-- what holds at the loop's head -/
def qHd (w : Bool) (I : Nat → Nat → Int32) (W : Nat → Nat → Nat) (A : qA) (f : Bool) : Prop := qCA w I A ∧ qLI I A ∧ (f = false → qLW A.1 W (qFA A).2)
theorem lBody (xs : Nat → Int32) (L : Nat) (k : qK164) {f : Bool} (hH : qHd w I W A f) {i way u place : Nat} (hi : i < 100) (hw : way < 30) (hu : u < 100000000) (hp : place = u % (A.2.2.2.1.length + 1)) : ∃ w2 J W2 A2 f2, fL_holds_256 xs L k 1 505 506 507 508 509 510 511 512 513 514 515 516 517 518 519 (qb (!f)) (qn i) (qn u) (qn way) (qn place) 519 20148 (qL w I (qWc W 48)) = lK k (qn 1) (qb (!f2)) (qn (i + 1)) (qL w2 J W2) ∧ qHd w2 J W2 A2 f2 := by
  obtain ⟨hA, hL, hW⟩ := hH
  have h20 : I 509 20 = qn A.2.2.2.1.length := hL.2.1.1
  have h18 : A.2.2.2.1.length ≤ 18 := hL.2.1.2.1
  have hpl : place < A.2.2.2.1.length + 1 := by rw [hp]; exact Nat.mod_lt _ (by omega)
  obtain ⟨-, hXl, -⟩ := qAok_X hA.1
  have hqb : qb (!f) = qn (if f = true then 0 else 1) := by cases f <;> rfl
  have hqb1 : (if f = true then 0 else 1) ≤ 1 := by split <;> omega
  have hf1 : (if f = true then 0 else 1) = 1 → f = false := by cases f <;> simp
  have hold : f = false → qLWa A.1 519 (qWc W 48) (qFA A).2 := fun h => qWc_old (hW h) (by omega)
  rw [hqb]
  generalize hhad : (if f = true then 0 else 1 : Nat) = had at hqb1 hf1
  by_cases c8 : way ≤ 8
  · rw [lGo_a xs L k c8 hu h18 h20]
    have hu2 : (if way = 4 then u / 5 * 5 else u) < 100000000 := by split <;> omega
    obtain ⟨w2, J, A2, e1, e2, e3, e4, e5⟩ := lGrammar (w := w) (W := qWc W 48) hA hL (way := if way ≤ 3 then way else 3) (by split <;> omega) hu2
    obtain ⟨w3, K, W3, f3, k1, k2, k3, k4⟩ := lAfter (w := w2) (W := qWc W 48) xs L k e2 e3 hi hu (place := place) (by omega) hqb1 (qn 0) (Or.inl rfl) (fun h => absurd rfl h)
    refine ⟨w3, K, W3, A2, f3, ?_, k2, k3, k4⟩
    rw [← k1]
    unfold fL_holds_434
    generalize fL_holds_437 = F
    simp (disch := omega) only [↓qlet, eq_self, qzg_t, qzb_some, ↓reduceIte, not_or, not_false_eq_true, not_true_eq_false, and_true, true_and, and_self, or_false, false_or, true_or, or_true, and_false, false_and, qlit, qneg, qof, qn_add, qn_mul, qn_s, qn_z, qn_d, qn_dz, qm_1, qt_1, qt_0, qb_0, qb_1, qb_01, qb01b, q01_0, q01_1, qo_s, qo_n, qn_c, qn_le, qn_lt, qn_eq, qn_ne_m, qm_ne_n, qm_lt, qm_le, qn_lt_m, qn_le_m, qn_sub, qn_div, qn_mod, qle_t, qle_f, qlt_t, qlt_f, qeq_t, qeq_f, Nat.add_sub_cancel, qU_s, qU_a, qU_k, qn_rem, qL_I, qL_s, lk_505, lk_506, lk_507, lk_508, lk_509, lk_510, lk_511, lk_512, lk_513, lk_514, lk_515, lk_516, lk_517, lk_518, lk_519, ll_505, ll_506, ll_507, ll_508, ll_509, ll_510, ll_511, ll_512, ll_513, ll_514, ll_515, ll_516, ll_517, ll_518, ll_519, Nat.le_refl, e1, Nat.add_zero]
  · by_cases cb : way < 24 ∧ A.2.2.2.1.length < 18
    · rw [lGo_b xs L k (by omega) cb.1 hu cb.2 h20]
      obtain ⟨w2, J, ks', e1, e2, e3, e4, e5⟩ := lInsert (w := w) (W := qWc W 48) hA hL hu cb.2
      rw [← hp] at e2
      have h20' : J 509 20 = qn ks'.length := e3.2.1.1
      obtain ⟨w3, K, W3, f3, k1, k2, k3, k4⟩ := lAfter (w := w2) (W := qWc W 48) xs L k e2 e3 hi hu (place := place) (by omega) hqb1 (qn 1) (Or.inr (Or.inl rfl)) (fun _ h1 N W' fr e519 hX => by
        have hX0 := qLWa_fr (hold (hf1 h1)) e519
        have h := lAnew (w := w2) (I := N) (W := W') (G := A.1) (X := (qFull A.1 A.2.1 A.2.2.1 ks').2) (X0 := (qFA A).2) (ks := ks') (by rw [fr 509 (by omega)]; exact h20') e3.2.1.2.1 (by
          have h3 : qLTk J 509 0 ks' := e3.2.1.2.2
          unfold qLTk at h3 ⊢
          rw [fr 509 (by omega)]
          exact h3) hX hX0 (by
          have h9 := (qAok_X e2.1).2.1
          have h9 : (qFull A.1 A.2.1 A.2.2.1 ks').2.length = ks'.length + 1 := h9
          omega) true (fun h => by cases h) (fun _ => by omega) (pl := place) (by omega)
        rw [if_pos rfl, if_pos rfl] at h
        exact h)
      refine ⟨w3, K, W3, _, f3, ?_, k2, k3, k4⟩
      rw [← k1]
      unfold fL_holds_355
      generalize fL_holds_437 = F
      simp (disch := omega) only [↓qlet, eq_self, qzg_t, qzb_some, ↓reduceIte, not_or, not_false_eq_true, not_true_eq_false, and_true, true_and, and_self, or_false, false_or, true_or, or_true, and_false, false_and, qlit, qneg, qof, qn_add, qn_mul, qn_s, qn_z, qn_d, qn_dz, qm_1, qt_1, qt_0, qb_0, qb_1, qb_01, qb01b, q01_0, q01_1, qo_s, qo_n, qn_c, qn_le, qn_lt, qn_eq, qn_ne_m, qm_ne_n, qm_lt, qm_le, qn_lt_m, qn_le_m, qn_sub, qn_div, qn_mod, qle_t, qle_f, qlt_t, qlt_f, qeq_t, qeq_f, Nat.add_sub_cancel, qU_s, qU_a, qU_k, qn_rem, qL_I, qL_s, lk_505, lk_506, lk_507, lk_508, lk_509, lk_510, lk_511, lk_512, lk_513, lk_514, lk_515, lk_516, lk_517, lk_518, lk_519, ll_505, ll_506, ll_507, ll_508, ll_509, ll_510, ll_511, ll_512, ll_513, ll_514, ll_515, ll_516, ll_517, ll_518, ll_519, Nat.le_refl, e1, Nat.add_zero]
    · by_cases cc : way < 27 ∧ 0 < A.2.2.2.1.length
      · rw [lGo_c xs L k (by omega) cc.1 hu h18 (by omega) cc.2 h20]
        obtain ⟨w2, J, ks', e1, e2, e3, e4, e5⟩ := lErase (w := w) (W := qWc W 48) hA hL hu cc.2
        have hm := Nat.mod_lt u cc.2
        generalize hpl2 : u % A.2.2.2.1.length = pl2 at *
        have h20' : J 509 20 = qn ks'.length := e3.2.1.1
        obtain ⟨w3, K, W3, f3, k1, k2, k3, k4⟩ := lAfter (w := w2) (W := qWc W 48) xs L k e2 e3 hi hu (place := pl2) (by omega) hqb1 qm (Or.inr (Or.inr rfl)) (fun _ h1 N W' fr e519 hX => by
          have hX0 := qLWa_fr (hold (hf1 h1)) e519
          have h := lAnew (w := w2) (I := N) (W := W') (G := A.1) (X := (qFull A.1 A.2.1 A.2.2.1 ks').2) (X0 := (qFA A).2) (ks := ks') (by rw [fr 509 (by omega)]; exact h20') e3.2.1.2.1 (by
            have h3 : qLTk J 509 0 ks' := e3.2.1.2.2
            unfold qLTk at h3 ⊢
            rw [fr 509 (by omega)]
            exact h3) hX hX0 (by
            have h9 := (qAok_X e2.1).2.1
            have h9 : (qFull A.1 A.2.1 A.2.2.1 ks').2.length = ks'.length + 1 := h9
            omega) false (fun _ => by omega) (fun h => by cases h) (pl := pl2) (by omega)
          rw [if_neg Bool.false_ne_true, if_neg Bool.false_ne_true] at h
          exact h)
        refine ⟨w3, K, W3, _, f3, ?_, k2, k3, k4⟩
        rw [← k1]
        unfold fL_holds_355
        generalize fL_holds_437 = F
        simp (disch := omega) only [↓qlet, eq_self, qzg_t, qzb_some, ↓reduceIte, not_or, not_false_eq_true, not_true_eq_false, and_true, true_and, and_self, or_false, false_or, true_or, or_true, and_false, false_and, qlit, qneg, qof, qn_add, qn_mul, qn_s, qn_z, qn_d, qn_dz, qm_1, qt_1, qt_0, qb_0, qb_1, qb_01, qb01b, q01_0, q01_1, qo_s, qo_n, qn_c, qn_le, qn_lt, qn_eq, qn_ne_m, qm_ne_n, qm_lt, qm_le, qn_lt_m, qn_le_m, qn_sub, qn_div, qn_mod, qle_t, qle_f, qlt_t, qlt_f, qeq_t, qeq_f, Nat.add_sub_cancel, qU_s, qU_a, qU_k, qn_rem, qL_I, qL_s, lk_505, lk_506, lk_507, lk_508, lk_509, lk_510, lk_511, lk_512, lk_513, lk_514, lk_515, lk_516, lk_517, lk_518, lk_519, ll_505, ll_506, ll_507, ll_508, ll_509, ll_510, ll_511, ll_512, ll_513, ll_514, ll_515, ll_516, ll_517, ll_518, ll_519, Nat.le_refl, e1, Nat.add_zero]
      · rw [lGo_d xs L k (by omega) hw hu h18 (by omega) h20]
        obtain ⟨w2, J, A2, e1, e2, e3, e4, e5⟩ := lTurned (w := w) (W := qWc W 48) hA hL (way := if 27 ≤ way then way - 27 else 2) (by split <;> omega) hu
        obtain ⟨w3, K, W3, f3, k1, k2, k3, k4⟩ := lAfter (w := w2) (W := qWc W 48) xs L k e2 e3 hi hu (place := place) (by omega) hqb1 (qn 0) (Or.inl rfl) (fun h => absurd rfl h)
        refine ⟨w3, K, W3, A2, f3, ?_, k2, k3, k4⟩
        rw [← k1]
        unfold fL_holds_392
        generalize fL_holds_437 = F
        simp (disch := omega) only [↓qlet, eq_self, qzg_t, qzb_some, ↓reduceIte, not_or, not_false_eq_true, not_true_eq_false, and_true, true_and, and_self, or_false, false_or, true_or, or_true, and_false, false_and, qlit, qneg, qof, qn_add, qn_mul, qn_s, qn_z, qn_d, qn_dz, qm_1, qt_1, qt_0, qb_0, qb_1, qb_01, qb01b, q01_0, q01_1, qo_s, qo_n, qn_c, qn_le, qn_lt, qn_eq, qn_ne_m, qm_ne_n, qm_lt, qm_le, qn_lt_m, qn_le_m, qn_sub, qn_div, qn_mod, qle_t, qle_f, qlt_t, qlt_f, qeq_t, qeq_f, Nat.add_sub_cancel, qU_s, qU_a, qU_k, qn_rem, qL_I, qL_s, lk_505, lk_506, lk_507, lk_508, lk_509, lk_510, lk_511, lk_512, lk_513, lk_514, lk_515, lk_516, lk_517, lk_518, lk_519, ll_505, ll_506, ll_507, ll_508, ll_509, ll_510, ll_511, ll_512, ll_513, ll_514, ll_515, ll_516, ll_517, ll_518, ll_519, Nat.le_refl, e1, Nat.add_zero]
theorem lLoop164 (xs : Nat → Int32) {L : Nat} (hLL : L < 2147483648) : ∀ d i n w I W A f, i + d = 90 → d < n → qHd w I W A f → ∃ M', lK (fL_holds_164 xs L n) (qn 1) (qb (!f)) (qn i) (qL w I W) = some (qn 1, M') := by
  intro d
  induction d with
  | zero =>
    intro i n w I W A f h1 h2 _
    obtain ⟨n, rfl⟩ : ∃ q, n = q + 1 := ⟨n - 1, by omega⟩
    have c : 90 ≤ i := by omega
    refine ⟨qL w I W, ?_⟩
    unfold lK fL_holds_164
    simp (disch := omega) only [↓qlet, eq_self, qzg_t, qzb_some, ↓reduceIte, not_or, not_false_eq_true, not_true_eq_false, and_true, true_and, and_self, or_false, false_or, true_or, or_true, and_false, false_and, qlit, qneg, qof, qn_add, qn_mul, qn_s, qn_z, qn_d, qn_dz, qm_1, qt_1, qt_0, qb_0, qb_1, qb_01, qb01b, q01_0, q01_1, qo_s, qo_n, qn_c, qn_le, qn_lt, qn_eq, qn_ne_m, qm_ne_n, qm_lt, qm_le, qn_lt_m, qn_le_m, qn_sub, qn_div, qn_mod, qle_t, qle_f, qlt_t, qlt_f, qeq_t, qeq_f, Nat.add_sub_cancel, qU_s, qU_a, qU_k, qn_rem, qL_I, qL_s, lk_505, lk_506, lk_507, lk_508, lk_509, lk_510, lk_511, lk_512, lk_513, lk_514, lk_515, lk_516, lk_517, lk_518, lk_519, ll_505, ll_506, ll_507, ll_508, ll_509, ll_510, ll_511, ll_512, ll_513, ll_514, ll_515, ll_516, ll_517, ll_518, ll_519, c, Nat.le_refl]
  | succ d ih =>
    intro i n w I W A f h1 h2 hH
    obtain ⟨n, rfl⟩ : ∃ q, n = q + 1 := ⟨n - 1, by omega⟩
    have h20 : I 509 20 = qn A.2.2.2.1.length := hH.2.1.2.1.1
    have h18 : A.2.2.2.1.length ≤ 18 := hH.2.1.2.1.2.1
    have c : ¬ 90 ≤ i := by omega
    obtain ⟨u, u1, u2⟩ := lFrom xs hLL (k := 2 * i + 1) (below := 100000000) (by omega) (by omega) (by omega) (qL w I W)
    obtain ⟨v, v1, v2⟩ := lFrom xs hLL (k := 2 * i) (below := 30) (by omega) (by omega) (by omega) (qL w I W)
    have h216 : ∀ way, way < 30 → ∃ M', fL_holds_216 xs L (fL_holds_164 xs L n) 1 505 506 507 508 509 510 511 512 513 514 515 516 517 518 519 (qb (!f)) (qn i) (qn u) (qn way) 519 20148 (qL w I W) = some (qn 1, M') := by
      intro way hway
      obtain ⟨w2, J, W2, A2, f2, k1, k2⟩ := lBody xs L (fL_holds_164 xs L n) hH (show i < 100 by omega) hway u1 rfl
      obtain ⟨M', m1⟩ := ih (i + 1) n w2 J W2 A2 f2 (by omega) (by omega) k2
      refine ⟨M', ?_⟩
      have hwc := lWc (w := w) (I := I) (W := W) xs L (fL_holds_164 xs L n) (qb (!f)) (qn i) (qn u) (qn way) (qn (u % (A.2.2.2.1.length + 1))) 48 0 10000 (by omega) (by omega)
      rw [qWc_0, k1, m1] at hwc
      obtain ⟨q, hq⟩ : ∃ q, q = 10000 := ⟨_, rfl⟩
      rw [← hq] at hwc
      unfold fL_holds_216
      rw [← hq]
      generalize fL_holds_233 = F at hwc ⊢
      simp (disch := omega) only [↓qlet, eq_self, qzg_t, qzb_some, ↓reduceIte, not_or, not_false_eq_true, not_true_eq_false, and_true, true_and, and_self, or_false, false_or, true_or, or_true, and_false, false_and, qlit, qneg, qof, qn_add, qn_mul, qn_s, qn_z, qn_d, qn_dz, qm_1, qt_1, qt_0, qb_0, qb_1, qb_01, qb01b, q01_0, q01_1, qo_s, qo_n, qn_c, qn_le, qn_lt, qn_eq, qn_ne_m, qm_ne_n, qm_lt, qm_le, qn_lt_m, qn_le_m, qn_sub, qn_div, qn_mod, qle_t, qle_f, qlt_t, qlt_f, qeq_t, qeq_f, Nat.add_sub_cancel, qU_s, qU_a, qU_k, qn_rem, qL_I, qL_s, lk_505, lk_506, lk_507, lk_508, lk_509, lk_510, lk_511, lk_512, lk_513, lk_514, lk_515, lk_516, lk_517, lk_518, lk_519, ll_505, ll_506, ll_507, ll_508, ll_509, ll_510, ll_511, ll_512, ll_513, ll_514, ll_515, ll_516, ll_517, ll_518, ll_519, h20]
      exact hwc
    unfold lK fL_holds_164
    by_cases c14 : 14 ≤ i
    · obtain ⟨M', m1⟩ := h216 v v1
      refine ⟨M', ?_⟩
      rw [← m1]
      generalize fL_holds_216 = F
      simp (disch := omega) only [↓qlet, eq_self, qzg_t, qzb_some, ↓reduceIte, not_or, not_false_eq_true, not_true_eq_false, and_true, true_and, and_self, or_false, false_or, true_or, or_true, and_false, false_and, qlit, qneg, qof, qn_add, qn_mul, qn_s, qn_z, qn_d, qn_dz, qm_1, qt_1, qt_0, qb_0, qb_1, qb_01, qb01b, q01_0, q01_1, qo_s, qo_n, qn_c, qn_le, qn_lt, qn_eq, qn_ne_m, qm_ne_n, qm_lt, qm_le, qn_lt_m, qn_le_m, qn_sub, qn_div, qn_mod, qle_t, qle_f, qlt_t, qlt_f, qeq_t, qeq_f, Nat.add_sub_cancel, qU_s, qU_a, qU_k, qn_rem, qL_I, qL_s, lk_505, lk_506, lk_507, lk_508, lk_509, lk_510, lk_511, lk_512, lk_513, lk_514, lk_515, lk_516, lk_517, lk_518, lk_519, ll_505, ll_506, ll_507, ll_508, ll_509, ll_510, ll_511, ll_512, ll_513, ll_514, ll_515, ll_516, ll_517, ll_518, ll_519, c, c14, Nat.le_refl, u2, v2]
    · obtain ⟨M', m1⟩ := h216 (3 + i % 2) (by omega)
      refine ⟨M', ?_⟩
      rw [← m1]
      generalize fL_holds_216 = F
      simp (disch := omega) only [↓qlet, eq_self, qzg_t, qzb_some, ↓reduceIte, not_or, not_false_eq_true, not_true_eq_false, and_true, true_and, and_self, or_false, false_or, true_or, or_true, and_false, false_and, qlit, qneg, qof, qn_add, qn_mul, qn_s, qn_z, qn_d, qn_dz, qm_1, qt_1, qt_0, qb_0, qb_1, qb_01, qb01b, q01_0, q01_1, qo_s, qo_n, qn_c, qn_le, qn_lt, qn_eq, qn_ne_m, qm_ne_n, qm_lt, qm_le, qn_lt_m, qn_le_m, qn_sub, qn_div, qn_mod, qle_t, qle_f, qlt_t, qlt_f, qeq_t, qeq_f, Nat.add_sub_cancel, qU_s, qU_a, qU_k, qn_rem, qL_I, qL_s, lk_505, lk_506, lk_507, lk_508, lk_509, lk_510, lk_511, lk_512, lk_513, lk_514, lk_515, lk_516, lk_517, lk_518, lk_519, ll_505, ll_506, ll_507, ll_508, ll_509, ll_510, ll_511, ll_512, ll_513, ll_514, ll_515, ll_516, ll_517, ll_518, ll_519, c, c14, Nat.le_refl, u2]
end
