/-! THE LAW: its grammar -/
/-- the law's rows g, c, x hold the grammar of the elements 0 .. 4 -/
def qLG (G : qG) (I : Nat → Nat → Int32) : Prop := ∀ e, e < 5 → I 506 e = qn (qgN G e) ∧ qgN G e ≤ 4 ∧ (∀ k, k < qgN G e → ∃ n, n < 2048 ∧ qgS G e k = qn n ∧ I 505 (4 * e + k) = qn (n + 2048 * qgO G e k) ∧ qgO G e k ≤ 3 ∧ ∀ t, 5 ≤ t → t < 10 → qt (qn n) t = false) ∧ ∃ i x, i < 1024 ∧ x < 1024 ∧ qgI G e = qn i ∧ qgX G e = qn x ∧ I 507 e = qn (i + 1024 * (x + 1024 * ((if qgA G e = true then 1 else 0) + 2 * (if qgB G e = true then 1 else 0))))
theorem qLG_fr {G : qG} {I J : Nat → Nat → Int32} (h : qLG G I) (h5 : J 505 = I 505) (h6 : J 506 = I 506) (h7 : J 507 = I 507) : qLG G J := by
  unfold qLG
  rw [h5, h6, h7]
  exact h
section
variable {w : Bool} {I : Nat → Nat → Int32} {W : Nat → Nat → Nat} {G : qG}
theorem lEnough (hG : qLG G I) {e k : Nat} (he : e < 5) (hk : k < qgN G e) (s : Bool) : fL_enough 505 (qn (4 * e + k)) (qb s) (qL w I W) = some (qb (qgEn G e k s), qL w I W) := by
  obtain ⟨g1, g2, g3, -⟩ := hG e he
  obtain ⟨n, n1, n2, n3, n4, -⟩ := g3 k hk
  unfold fL_enough fL_enough_27 qgEn qlack
  have hd : (n + 2048 * qgO G e k) / 2048 = qgO G e k := by omega
  cases s with
  | true => simp (disch := omega) only [↓qlet, eq_self, qzg_t, qzb_some, ↓reduceIte, not_or, not_false_eq_true, not_true_eq_false, and_true, true_and, and_self, or_false, false_or, true_or, or_true, and_false, false_and, qlit, qneg, qof, qn_add, qn_mul, qn_s, qn_z, qn_d, qn_dz, qm_1, qt_1, qt_0, qb_0, qb_1, qb_01, qb01b, q01_0, q01_1, qo_s, qo_n, qn_c, qn_le, qn_lt, qn_eq, qn_ne_m, qm_ne_n, qm_lt, qm_le, qn_lt_m, qn_le_m, qn_sub, qn_div, qn_mod, qle_t, qle_f, qlt_t, qlt_f, qeq_t, qeq_f, Nat.add_sub_cancel, qU_s, qU_a, qU_k, qn_rem, qL_I, qL_s, lk_505, lk_506, lk_507, lk_508, lk_509, lk_510, lk_511, lk_512, lk_513, lk_514, lk_515, lk_516, lk_517, lk_518, lk_519, ll_505, ll_506, ll_507, ll_508, ll_509, ll_510, ll_511, ll_512, ll_513, ll_514, ll_515, ll_516, ll_517, ll_518, ll_519, qb_t, Bool.true_or]
  | false =>
    simp (disch := omega) only [↓qlet, eq_self, qzg_t, qzb_some, ↓reduceIte, not_or, not_false_eq_true, not_true_eq_false, and_true, true_and, and_self, or_false, false_or, true_or, or_true, and_false, false_and, qlit, qneg, qof, qn_add, qn_mul, qn_s, qn_z, qn_d, qn_dz, qm_1, qt_1, qt_0, qb_0, qb_1, qb_01, qb01b, q01_0, q01_1, qo_s, qo_n, qn_c, qn_le, qn_lt, qn_eq, qn_ne_m, qm_ne_n, qm_lt, qm_le, qn_lt_m, qn_le_m, qn_sub, qn_div, qn_mod, qle_t, qle_f, qlt_t, qlt_f, qeq_t, qeq_f, Nat.add_sub_cancel, qU_s, qU_a, qU_k, qn_rem, qL_I, qL_s, lk_505, lk_506, lk_507, lk_508, lk_509, lk_510, lk_511, lk_512, lk_513, lk_514, lk_515, lk_516, lk_517, lk_518, lk_519, ll_505, ll_506, ll_507, ll_508, ll_509, ll_510, ll_511, ll_512, ll_513, ll_514, ll_515, ll_516, ll_517, ll_518, ll_519, qb_f, n3, hd, Bool.false_or]
    rcases (show qgO G e k = 0 ∨ qgO G e k = 1 ∨ qgO G e k = 2 ∨ qgO G e k = 3 by omega) with h | h | h | h <;> rw [h] <;> rfl
theorem lStep_e {e t k : Nat} {v : Int32} (hG : qLG G I) (he : e < 5) (hk : k < 100) (m : Nat) (s : Int32) (h : qgN G e ≤ k ∨ ∃ j, j < 1000 ∧ v = qn j) : fL_step_22 (m + 1) 505 506 (qn t) (qn e) (qn k) s v (qL w I W) = some (v, qL w I W) := by
  obtain ⟨g1, g2, g3, -⟩ := hG e he
  unfold fL_step_22
  by_cases h1 : qgN G e ≤ k
  · simp (disch := omega) only [↓qlet, eq_self, qzg_t, qzb_some, ↓reduceIte, not_or, not_false_eq_true, not_true_eq_false, and_true, true_and, and_self, or_false, false_or, true_or, or_true, and_false, false_and, qlit, qneg, qof, qn_add, qn_mul, qn_s, qn_z, qn_d, qn_dz, qm_1, qt_1, qt_0, qb_0, qb_1, qb_01, qb01b, q01_0, q01_1, qo_s, qo_n, qn_c, qn_le, qn_lt, qn_eq, qn_ne_m, qm_ne_n, qm_lt, qm_le, qn_lt_m, qn_le_m, qn_sub, qn_div, qn_mod, qle_t, qle_f, qlt_t, qlt_f, qeq_t, qeq_f, Nat.add_sub_cancel, qU_s, qU_a, qU_k, qn_rem, qL_I, qL_s, lk_505, lk_506, lk_507, lk_508, lk_509, lk_510, lk_511, lk_512, lk_513, lk_514, lk_515, lk_516, lk_517, lk_518, lk_519, ll_505, ll_506, ll_507, ll_508, ll_509, ll_510, ll_511, ll_512, ll_513, ll_514, ll_515, ll_516, ll_517, ll_518, ll_519, g1, h1]
  · rcases h with h | ⟨j, hj, rfl⟩
    · exact absurd h h1
    · simp (disch := omega) only [↓qlet, eq_self, qzg_t, qzb_some, ↓reduceIte, not_or, not_false_eq_true, not_true_eq_false, and_true, true_and, and_self, or_false, false_or, true_or, or_true, and_false, false_and, qlit, qneg, qof, qn_add, qn_mul, qn_s, qn_z, qn_d, qn_dz, qm_1, qt_1, qt_0, qb_0, qb_1, qb_01, qb01b, q01_0, q01_1, qo_s, qo_n, qn_c, qn_le, qn_lt, qn_eq, qn_ne_m, qm_ne_n, qm_lt, qm_le, qn_lt_m, qn_le_m, qn_sub, qn_div, qn_mod, qle_t, qle_f, qlt_t, qlt_f, qeq_t, qeq_f, Nat.add_sub_cancel, qU_s, qU_a, qU_k, qn_rem, qL_I, qL_s, lk_505, lk_506, lk_507, lk_508, lk_509, lk_510, lk_511, lk_512, lk_513, lk_514, lk_515, lk_516, lk_517, lk_518, lk_519, ll_505, ll_506, ll_507, ll_508, ll_509, ll_510, ll_511, ll_512, ll_513, ll_514, ll_515, ll_516, ll_517, ll_518, ll_519, g1, h1, Nat.zero_le]
theorem lStep_22 (hG : qLG G I) {e t : Nat} (he : e < 5) (ht : t < 11) : ∀ d k s m, k + d = qgN G e → d + 2 < m → fL_step_22 m 505 506 (qn t) (qn e) (qn k) (qb s) qm (qL w I W) = some ((match qgBy G e t d k s with
    | none => qm
    | some j => qn (16 * e + 2 * j + 1)), qL w I W) := by
  obtain ⟨g1, g2, g3, -⟩ := hG e he
  intro d
  induction d with
  | zero =>
    intro k s m h1 h2
    obtain ⟨m, rfl⟩ : ∃ q, m = q + 1 := ⟨m - 1, by omega⟩
    rw [lStep_e hG he (by omega) m _ (Or.inl (by omega))]
    rfl
  | succ d ih =>
    intro k s m h1 h2
    obtain ⟨m, rfl⟩ : ∃ q, m = q + 2 := ⟨m - 2, by omega⟩
    obtain ⟨n, n1, n2, n3, n4, -⟩ := g3 k (by omega)
    have hd : (n + 2048 * qgO G e k) / 2048 = qgO G e k := by omega
    have hb := qt_lo (o := qgO G e k) n1 ht
    have hen := fun s => lEnough (w := w) (W := W) hG he (show k < qgN G e by omega) s
    have h9 := fun v => lStep_e (w := w) (W := W) (t := t) (k := 9) (v := v) hG he (by omega) m (qn 0)
    have hk1 := fun v => lStep_e (w := w) (W := W) (t := t) (k := k + 1) (v := v) hG he (by omega) m (qn 0)
    have ih := ih (k + 1) false (m + 1) (by omega) (by omega)
    rw [qb_f] at ih
    unfold fL_step_22 qgBy
    simp (disch := omega) only [↓qlet, eq_self, qzg_t, qzb_some, ↓reduceIte, not_or, not_false_eq_true, not_true_eq_false, and_true, true_and, and_self, or_false, false_or, true_or, or_true, and_false, false_and, qlit, qneg, qof, qn_add, qn_mul, qn_s, qn_z, qn_d, qn_dz, qm_1, qt_1, qt_0, qb_0, qb_1, qb_01, qb01b, q01_0, q01_1, qo_s, qo_n, qn_c, qn_le, qn_lt, qn_eq, qn_ne_m, qm_ne_n, qm_lt, qm_le, qn_lt_m, qn_le_m, qn_sub, qn_div, qn_mod, qle_t, qle_f, qlt_t, qlt_f, qeq_t, qeq_f, Nat.add_sub_cancel, qU_s, qU_a, qU_k, qn_rem, qL_I, qL_s, lk_505, lk_506, lk_507, lk_508, lk_509, lk_510, lk_511, lk_512, lk_513, lk_514, lk_515, lk_516, lk_517, lk_518, lk_519, ll_505, ll_506, ll_507, ll_508, ll_509, ll_510, ll_511, ll_512, ll_513, ll_514, ll_515, ll_516, ll_517, ll_518, ll_519, g1, n3, hd, hb, fL_step_74, fL_step_88, fL_step_108, hen, qgHas, n2]
    have ho : (qgO G e k ≤ 1) = (qmany (qgO G e k) = false) := by
      rcases (show qgO G e k = 0 ∨ qgO G e k = 1 ∨ qgO G e k = 2 ∨ qgO G e k = 3 by omega) with h | h | h | h <;> rw [h] <;> simp [qmany]
    have a1 := h9 qm (Or.inl (by omega))
    have a2 := h9 (qn (16 * e + 2 * k + 1)) (Or.inl (by omega))
    have a3 := hk1 (qn (16 * e + 2 * k + 1)) (Or.inr ⟨_, by omega, rfl⟩)
    simp only [ho]
    cases hq : qt (qn n) t <;> cases s <;> cases hm : qmany (qgO G e k) <;> cases hE : qgEn G e k false <;> simp only [qgEn, Bool.true_or, Bool.false_or] at hE <;> simp (disch := omega) only [↓qlet, eq_self, qzg_t, qzb_some, ↓reduceIte, not_or, not_false_eq_true, not_true_eq_false, and_true, true_and, and_self, or_false, false_or, true_or, or_true, and_false, false_and, qlit, qneg, qof, qn_add, qn_mul, qn_s, qn_z, qn_d, qn_dz, qm_1, qt_1, qt_0, qb_0, qb_1, qb_01, qb01b, q01_0, q01_1, qo_s, qo_n, qn_c, qn_le, qn_lt, qn_eq, qn_ne_m, qm_ne_n, qm_lt, qm_le, qn_lt_m, qn_le_m, qn_sub, qn_div, qn_mod, qle_t, qle_f, qlt_t, qlt_f, qeq_t, qeq_f, Nat.add_sub_cancel, qU_s, qU_a, qU_k, qn_rem, qL_I, qL_s, lk_505, lk_506, lk_507, lk_508, lk_509, lk_510, lk_511, lk_512, lk_513, lk_514, lk_515, lk_516, lk_517, lk_518, lk_519, ll_505, ll_506, ll_507, ll_508, ll_509, ll_510, ll_511, ll_512, ll_513, ll_514, ll_515, ll_516, ll_517, ll_518, ll_519, qgEn, hE, qb_t, qb_f, a1, a2, a3, ih, Bool.and_true, Bool.and_false, Bool.true_and, Bool.false_and, Bool.not_true, Bool.not_false, Bool.or_true, Bool.or_false, Bool.true_or, Bool.false_or, Bool.false_eq_true, Bool.true_eq_false]
theorem lStep (hG : qLG G I) {e r t : Nat} (he : e < 5) (hr : r < 2 * qgN G e) (ht : t < 11) : fL_step 505 506 (qn (16 * e + r)) (qn t) (qL w I W) = some ((match qrBy G e r t with
    | none => qm
    | some j => qn (16 * e + 2 * j + 1)), qL w I W) := by
  have h4 := (hG e he).2.1
  unfold fL_step qrBy
  have e1 : (16 * e + r) / 16 = e := by omega
  have e2 : (16 * e + r) / 2 % 8 = r / 2 := by omega
  have e3 : (16 * e + r) % 2 = r % 2 := by omega
  simp (disch := omega) only [↓qlet, eq_self, qzg_t, qzb_some, ↓reduceIte, not_or, not_false_eq_true, not_true_eq_false, and_true, true_and, and_self, or_false, false_or, true_or, or_true, and_false, false_and, qlit, qneg, qof, qn_add, qn_mul, qn_s, qn_z, qn_d, qn_dz, qm_1, qt_1, qt_0, qb_0, qb_1, qb_01, qb01b, q01_0, q01_1, qo_s, qo_n, qn_c, qn_le, qn_lt, qn_eq, qn_ne_m, qm_ne_n, qm_lt, qm_le, qn_lt_m, qn_le_m, qn_sub, qn_div, qn_mod, qle_t, qle_f, qlt_t, qlt_f, qeq_t, qeq_f, Nat.add_sub_cancel, qU_s, qU_a, qU_k, qn_rem, qL_I, qL_s, lk_505, lk_506, lk_507, lk_508, lk_509, lk_510, lk_511, lk_512, lk_513, lk_514, lk_515, lk_516, lk_517, lk_518, lk_519, ll_505, ll_506, ll_507, ll_508, ll_509, ll_510, ll_511, ll_512, ll_513, ll_514, ll_515, ll_516, ll_517, ll_518, ll_519, e1, e2, e3]
  rw [qb_n]
  exact lStep_22 hG he ht _ _ _ _ (by omega) (by omega)
theorem lEnds_15 (hG : qLG G I) {e r : Nat} (he : e < 5) (hr : r < 16) : ∀ d k s b m, k + d = qgN G e → d < m → fL_ends_15 m 505 506 (qn (16 * e + r)) (qb s) (qb b) (qn k) (qL w I W) = some (qb (b && qgEnd G e d k s), qL w I W) := by
  obtain ⟨g1, g2, g3, -⟩ := hG e he
  have e1 : (16 * e + r) / 16 = e := by omega
  intro d
  induction d with
  | zero =>
    intro k s b m h1 h2
    obtain ⟨m, rfl⟩ : ∃ q, m = q + 1 := ⟨m - 1, by omega⟩
    have h3 : qgN G e ≤ k := by omega
    unfold fL_ends_15 qgEnd
    simp (disch := omega) only [↓qlet, eq_self, qzg_t, qzb_some, ↓reduceIte, not_or, not_false_eq_true, not_true_eq_false, and_true, true_and, and_self, or_false, false_or, true_or, or_true, and_false, false_and, qlit, qneg, qof, qn_add, qn_mul, qn_s, qn_z, qn_d, qn_dz, qm_1, qt_1, qt_0, qb_0, qb_1, qb_01, qb01b, q01_0, q01_1, qo_s, qo_n, qn_c, qn_le, qn_lt, qn_eq, qn_ne_m, qm_ne_n, qm_lt, qm_le, qn_lt_m, qn_le_m, qn_sub, qn_div, qn_mod, qle_t, qle_f, qlt_t, qlt_f, qeq_t, qeq_f, Nat.add_sub_cancel, qU_s, qU_a, qU_k, qn_rem, qL_I, qL_s, lk_505, lk_506, lk_507, lk_508, lk_509, lk_510, lk_511, lk_512, lk_513, lk_514, lk_515, lk_516, lk_517, lk_518, lk_519, ll_505, ll_506, ll_507, ll_508, ll_509, ll_510, ll_511, ll_512, ll_513, ll_514, ll_515, ll_516, ll_517, ll_518, ll_519, g1, e1, h3, Bool.and_true]
  | succ d ih =>
    intro k s b m h1 h2
    obtain ⟨m, rfl⟩ : ∃ q, m = q + 1 := ⟨m - 1, by omega⟩
    have h3 : ¬ qgN G e ≤ k := by omega
    have hen := lEnough (w := w) (W := W) hG he (show k < qgN G e by omega) s
    have i0 := ih (k + 1) false false m (by omega) (by omega)
    have i1 := ih (k + 1) false true m (by omega) (by omega)
    rw [qb_f] at i0 i1
    rw [qb_t] at i1
    unfold fL_ends_15 qgEnd
    cases b with
    | false => simp (disch := omega) only [↓qlet, eq_self, qzg_t, qzb_some, ↓reduceIte, not_or, not_false_eq_true, not_true_eq_false, and_true, true_and, and_self, or_false, false_or, true_or, or_true, and_false, false_and, qlit, qneg, qof, qn_add, qn_mul, qn_s, qn_z, qn_d, qn_dz, qm_1, qt_1, qt_0, qb_0, qb_1, qb_01, qb01b, q01_0, q01_1, qo_s, qo_n, qn_c, qn_le, qn_lt, qn_eq, qn_ne_m, qm_ne_n, qm_lt, qm_le, qn_lt_m, qn_le_m, qn_sub, qn_div, qn_mod, qle_t, qle_f, qlt_t, qlt_f, qeq_t, qeq_f, Nat.add_sub_cancel, qU_s, qU_a, qU_k, qn_rem, qL_I, qL_s, lk_505, lk_506, lk_507, lk_508, lk_509, lk_510, lk_511, lk_512, lk_513, lk_514, lk_515, lk_516, lk_517, lk_518, lk_519, ll_505, ll_506, ll_507, ll_508, ll_509, ll_510, ll_511, ll_512, ll_513, ll_514, ll_515, ll_516, ll_517, ll_518, ll_519, g1, e1, h3, fL_ends_52, fL_ends_53, qb_f, i0, Bool.false_and]
    | true =>
      simp (disch := omega) only [↓qlet, eq_self, qzg_t, qzb_some, ↓reduceIte, not_or, not_false_eq_true, not_true_eq_false, and_true, true_and, and_self, or_false, false_or, true_or, or_true, and_false, false_and, qlit, qneg, qof, qn_add, qn_mul, qn_s, qn_z, qn_d, qn_dz, qm_1, qt_1, qt_0, qb_0, qb_1, qb_01, qb01b, q01_0, q01_1, qo_s, qo_n, qn_c, qn_le, qn_lt, qn_eq, qn_ne_m, qm_ne_n, qm_lt, qm_le, qn_lt_m, qn_le_m, qn_sub, qn_div, qn_mod, qle_t, qle_f, qlt_t, qlt_f, qeq_t, qeq_f, Nat.add_sub_cancel, qU_s, qU_a, qU_k, qn_rem, qL_I, qL_s, lk_505, lk_506, lk_507, lk_508, lk_509, lk_510, lk_511, lk_512, lk_513, lk_514, lk_515, lk_516, lk_517, lk_518, lk_519, ll_505, ll_506, ll_507, ll_508, ll_509, ll_510, ll_511, ll_512, ll_513, ll_514, ll_515, ll_516, ll_517, ll_518, ll_519, g1, e1, h3, qb_t, hen]
      cases hE : qgEn G e k s <;> simp (disch := omega) only [↓qlet, eq_self, qzg_t, qzb_some, ↓reduceIte, not_or, not_false_eq_true, not_true_eq_false, and_true, true_and, and_self, or_false, false_or, true_or, or_true, and_false, false_and, qlit, qneg, qof, qn_add, qn_mul, qn_s, qn_z, qn_d, qn_dz, qm_1, qt_1, qt_0, qb_0, qb_1, qb_01, qb01b, q01_0, q01_1, qo_s, qo_n, qn_c, qn_le, qn_lt, qn_eq, qn_ne_m, qm_ne_n, qm_lt, qm_le, qn_lt_m, qn_le_m, qn_sub, qn_div, qn_mod, qle_t, qle_f, qlt_t, qlt_f, qeq_t, qeq_f, Nat.add_sub_cancel, qU_s, qU_a, qU_k, qn_rem, qL_I, qL_s, lk_505, lk_506, lk_507, lk_508, lk_509, lk_510, lk_511, lk_512, lk_513, lk_514, lk_515, lk_516, lk_517, lk_518, lk_519, ll_505, ll_506, ll_507, ll_508, ll_509, ll_510, ll_511, ll_512, ll_513, ll_514, ll_515, ll_516, ll_517, ll_518, ll_519, hE, fL_ends_52, fL_ends_53, qb_t, qb_f, i0, i1, Bool.false_and, Bool.true_and, Bool.false_eq_true, Bool.true_eq_false]
theorem lEnds (hG : qLG G I) {e r : Nat} (he : e < 5) (hr : r < 2 * qgN G e) : fL_ends 505 506 (qn (16 * e + r)) (qL w I W) = some (qb (qrEnd G e r), qL w I W) := by
  have h4 := (hG e he).2.1
  unfold fL_ends qrEnd
  have e2 : (16 * e + r) / 2 % 8 = r / 2 := by omega
  have e3 : (16 * e + r) % 2 = r % 2 := by omega
  have h := lEnds_15 (w := w) (W := W) hG he (show r < 16 by omega) (qgN G e - r / 2) (r / 2) (r % 2 == 1) true 10000 (by omega) (by omega)
  simp (disch := omega) only [↓qlet, eq_self, qzg_t, qzb_some, ↓reduceIte, not_or, not_false_eq_true, not_true_eq_false, and_true, true_and, and_self, or_false, false_or, true_or, or_true, and_false, false_and, qlit, qneg, qof, qn_add, qn_mul, qn_s, qn_z, qn_d, qn_dz, qm_1, qt_1, qt_0, qb_0, qb_1, qb_01, qb01b, q01_0, q01_1, qo_s, qo_n, qn_c, qn_le, qn_lt, qn_eq, qn_ne_m, qm_ne_n, qm_lt, qm_le, qn_lt_m, qn_le_m, qn_sub, qn_div, qn_mod, qle_t, qle_f, qlt_t, qlt_f, qeq_t, qeq_f, Nat.add_sub_cancel, qU_s, qU_a, qU_k, qn_rem, qL_I, qL_s, lk_505, lk_506, lk_507, lk_508, lk_509, lk_510, lk_511, lk_512, lk_513, lk_514, lk_515, lk_516, lk_517, lk_518, lk_519, ll_505, ll_506, ll_507, ll_508, ll_509, ll_510, ll_511, ll_512, ll_513, ll_514, ll_515, ll_516, ll_517, ll_518, ll_519, e2, e3]
  rw [qb_n, ← qb_t, h, Bool.true_and]
/-- the things with which a model goes on, up to some -/
def qNx (G : qG) (e r : Nat) : Nat → Int32
  | 0 => qn 0
  | i + 1 => qNx G e r i ||| (if (qrBy G e r i).isSome = true then qn 1 <<< (qn i &&& qn 31) else qn 0)
theorem qNx_t (G : qG) (e r : Nat) {t : Nat} (ht : t < 32) : ∀ i, i < 12 → qt (qNx G e r i) t = (decide (t < i) && (qrBy G e r t).isSome) := by
  intro i
  induction i with
  | zero => intro _; simp [qNx, qt_z ht]
  | succ i ih =>
    intro hi
    unfold qNx
    rw [qt_or _ _ ht, ih (by omega)]
    by_cases c : t = i
    · subst c
      cases hq : (qrBy G e r t).isSome <;> simp [qt_z ht, qt_pow t (by omega) t ht]
    · have h : qt (if (qrBy G e r i).isSome = true then qn 1 <<< (qn i &&& qn 31) else qn 0) t = false := by
        split
        · rw [qt_pow i (by omega) t ht]; simp [c]
        · exact qt_z ht
      rw [h, Bool.or_false]
      congr 1
      simp
      omega
theorem qNx_on (hg : qGok G) {e r : Nat} (he : e < 10) (hr : r < 2 * qgN G e) : qNx G e r 11 = qrOn G e r := by
  have hS : qS (qrOn G e r) := qOn_S hg he _ _ _ (by omega)
  obtain ⟨n, hn, hq⟩ := hS
  refine qt_ext fun t ht => ?_
  rw [qNx_t G e r ht 11 (by omega)]
  by_cases h : t < 11
  · have h2 := qOn_by G e ht (qgN G e - r / 2) (r / 2) (r % 2 == 1)
    unfold qrOn qrBy
    rw [h2]
    simp [h]
  · rw [hq, qt_hi hn (by omega) ht]
    simp [h]
theorem lNext_5 (hG : qLG G I) {e r : Nat} (he : e < 5) (hr : r < 2 * qgN G e) : ∀ d i m, i + d = 11 → d < m → fL_next_5 m 505 506 (qn (16 * e + r)) (qNx G e r i) (qn i) (qL w I W) = some (qNx G e r 11, qL w I W) := by
  intro d
  induction d with
  | zero =>
    intro i m h1 h2
    obtain ⟨m, rfl⟩ : ∃ q, m = q + 1 := ⟨m - 1, by omega⟩
    obtain rfl : i = 11 := by omega
    unfold fL_next_5
    simp (disch := omega) only [↓qlet, eq_self, qzg_t, qzb_some, ↓reduceIte, not_or, not_false_eq_true, not_true_eq_false, and_true, true_and, and_self, or_false, false_or, true_or, or_true, and_false, false_and, qlit, qneg, qof, qn_add, qn_mul, qn_s, qn_z, qn_d, qn_dz, qm_1, qt_1, qt_0, qb_0, qb_1, qb_01, qb01b, q01_0, q01_1, qo_s, qo_n, qn_c, qn_le, qn_lt, qn_eq, qn_ne_m, qm_ne_n, qm_lt, qm_le, qn_lt_m, qn_le_m, qn_sub, qn_div, qn_mod, qle_t, qle_f, qlt_t, qlt_f, qeq_t, qeq_f, Nat.add_sub_cancel, qU_s, qU_a, qU_k, qn_rem, qL_I, qL_s, lk_505, lk_506, lk_507, lk_508, lk_509, lk_510, lk_511, lk_512, lk_513, lk_514, lk_515, lk_516, lk_517, lk_518, lk_519, ll_505, ll_506, ll_507, ll_508, ll_509, ll_510, ll_511, ll_512, ll_513, ll_514, ll_515, ll_516, ll_517, ll_518, ll_519]
  | succ d ih =>
    intro i m h1 h2
    obtain ⟨m, rfl⟩ : ∃ q, m = q + 1 := ⟨m - 1, by omega⟩
    have hs := lStep (w := w) (W := W) hG he hr (show i < 11 by omega)
    have ih := ih (i + 1) m (by omega) (by omega)
    have hnx : qNx G e r (i + 1) = qNx G e r i ||| (if (qrBy G e r i).isSome = true then qn 1 <<< (qn i &&& qn 31) else qn 0) := rfl
    rw [hnx] at ih
    unfold fL_next_5
    cases hq : qrBy G e r i with
    | none =>
      rw [hq] at hs ih
      simp (disch := omega) only [↓qlet, eq_self, qzg_t, qzb_some, ↓reduceIte, not_or, not_false_eq_true, not_true_eq_false, and_true, true_and, and_self, or_false, false_or, true_or, or_true, and_false, false_and, qlit, qneg, qof, qn_add, qn_mul, qn_s, qn_z, qn_d, qn_dz, qm_1, qt_1, qt_0, qb_0, qb_1, qb_01, qb01b, q01_0, q01_1, qo_s, qo_n, qn_c, qn_le, qn_lt, qn_eq, qn_ne_m, qm_ne_n, qm_lt, qm_le, qn_lt_m, qn_le_m, qn_sub, qn_div, qn_mod, qle_t, qle_f, qlt_t, qlt_f, qeq_t, qeq_f, Nat.add_sub_cancel, qU_s, qU_a, qU_k, qn_rem, qL_I, qL_s, lk_505, lk_506, lk_507, lk_508, lk_509, lk_510, lk_511, lk_512, lk_513, lk_514, lk_515, lk_516, lk_517, lk_518, lk_519, ll_505, ll_506, ll_507, ll_508, ll_509, ll_510, ll_511, ll_512, ll_513, ll_514, ll_515, ll_516, ll_517, ll_518, ll_519, hs, fL_next_32, qn_le_m, Option.isSome_none, Bool.false_eq_true] at ih ⊢
      exact ih
    | some j =>
      have hj : j < 4 := by
        have h4 := (hG e he).2.1
        unfold qrBy at hq
        have := qBy_lt G e i _ _ _ _ hq
        omega
      rw [hq] at hs ih
      simp (disch := omega) only [↓qlet, eq_self, qzg_t, qzb_some, ↓reduceIte, not_or, not_false_eq_true, not_true_eq_false, and_true, true_and, and_self, or_false, false_or, true_or, or_true, and_false, false_and, qlit, qneg, qof, qn_add, qn_mul, qn_s, qn_z, qn_d, qn_dz, qm_1, qt_1, qt_0, qb_0, qb_1, qb_01, qb01b, q01_0, q01_1, qo_s, qo_n, qn_c, qn_le, qn_lt, qn_eq, qn_ne_m, qm_ne_n, qm_lt, qm_le, qn_lt_m, qn_le_m, qn_sub, qn_div, qn_mod, qle_t, qle_f, qlt_t, qlt_f, qeq_t, qeq_f, Nat.add_sub_cancel, qU_s, qU_a, qU_k, qn_rem, qL_I, qL_s, lk_505, lk_506, lk_507, lk_508, lk_509, lk_510, lk_511, lk_512, lk_513, lk_514, lk_515, lk_516, lk_517, lk_518, lk_519, ll_505, ll_506, ll_507, ll_508, ll_509, ll_510, ll_511, ll_512, ll_513, ll_514, ll_515, ll_516, ll_517, ll_518, ll_519, hs, fL_next_32, Nat.zero_le, Option.isSome_some] at ih ⊢
      exact ih
theorem lNext (hg : qGok G) (hG : qLG G I) {e r : Nat} (he : e < 5) (hr : r < 2 * qgN G e) : fL_next 505 506 (qn (16 * e + r)) (qL w I W) = some (qrOn G e r, qL w I W) := by
  have h := lNext_5 (w := w) (W := W) hG he hr 11 0 10000 (by omega) (by omega)
  rw [qNx_on hg (by omega) hr] at h
  exact h
end
