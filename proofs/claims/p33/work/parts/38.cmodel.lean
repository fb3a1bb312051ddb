/-! THE CLASS: models -/
/-- things that two slots have, seen before or by a slot ahead -/
def qgCl (G : qG) (e : Nat) : Nat → Nat → Bool → Int32 → Int32
  | 0, _, _, _ => qn 0
  | n + 1, k, s, z => (z &&& (if (!s || qmany (qgO G e k)) = true then qgS G e k else qn 0)) ||| (if qgEn G e k s = true then qgCl G e n (k + 1) false (z ||| (if (!s || qmany (qgO G e k)) = true then qgS G e k else qn 0)) else qn 0)
def qgDb (G : qG) (e t : Nat) : Nat → Nat → Bool → Bool → Bool
  | 0, _, _, _ => false
  | n + 1, k, s, z => (z && qgHas G e k t s) || (qgEn G e k s && qgDb G e t n (k + 1) false (z || qgHas G e k t s))
theorem qSet_t (G : qG) (e k : Nat) (s : Bool) {t : Nat} (ht : t < 32) : qt (if (!s || qmany (qgO G e k)) = true then qgS G e k else qn 0) t = qgHas G e k t s := by
  unfold qgHas
  cases (!s || qmany (qgO G e k))
  · simp [qt_z ht]
  · simp
theorem qCl_t (G : qG) (e : Nat) {t : Nat} (ht : t < 32) : ∀ n k s z, qt (qgCl G e n k s z) t = qgDb G e t n k s (qt z t) := by
  intro n
  induction n with
  | zero => intro k s z; exact qt_z ht
  | succ n ih =>
    intro k s z
    unfold qgCl qgDb
    rw [qt_or _ _ ht, qt_and _ _ ht, qSet_t G e k s ht]
    cases qgEn G e k s
    · simp [qt_z ht]
    · simp only [↓reduceIte, ih, qt_or _ _ ht, qSet_t G e k s ht, Bool.true_and]
def qgClA (G : qG) (e : Nat) : Nat → Int32
  | 0 => qn 0
  | r + 1 => qgClA G e r ||| qgCl G e (qgN G e - r / 2) (r / 2) (r % 2 == 1) (qn 0)
theorem q_or0 (x : Int32) : qn 0 ||| x = x := qt_ext fun t ht => by rw [qt_or _ _ ht, qt_z ht]; simp
theorem q_orA (x y z : Int32) : x ||| y ||| z = x ||| (y ||| z) := qt_ext fun t ht => by rw [qt_or _ _ ht, qt_or _ _ ht, qt_or _ _ ht, qt_or _ _ ht, Bool.or_assoc]
theorem q_or0r (x : Int32) : x ||| qn 0 = x := qt_ext fun t ht => by rw [qt_or _ _ ht, qt_z ht]; simp
/-- slots as they are given -/
def qCS (G : qG) (e : Nat) (I : Nat → Nat → Int32) : Prop := I (8 + 6 * e) 3 = qn (qgN G e) ∧ ∀ k, k < qgN G e → I (9 + 6 * e) k = qgS G e k ∧ I (10 + 6 * e) k = qb (qmany (qgO G e k)) ∧ I (11 + 6 * e) k = qb (qlack (qgO G e k))
theorem qCS_fr {G : qG} {e : Nat} {I J : Nat → Nat → Int32} (h : qCS G e I) (h0 : J (8 + 6 * e) 3 = I (8 + 6 * e) 3) (h1 : J (9 + 6 * e) = I (9 + 6 * e)) (h2 : J (10 + 6 * e) = I (10 + 6 * e)) (h3 : J (11 + 6 * e) = I (11 + 6 * e)) : qCS G e J := by
  unfold qCS
  rw [h0, h1, h2, h3]; exact h
section
variable {w : Bool} {I : Nat → Nat → Int32} {G : qG} {e r : Nat}
theorem cWR_end (he : e < 10) (hr : r < 12) (seen : Int32) (b : Bool) : fX1_workOutReach_111 (8 + 6 * e) (qn r) seen (qb b) (qC w I) = some (qn 0, qC w (qU (qU I (12 + 6 * e) r seen) (13 + 6 * e) r (qb b))) := by
  unfold fX1_workOutReach_111
  simp (disch := omega) only [↓qlet, eq_self, qzg_t, qzb_some, ↓reduceIte, not_or, not_false_eq_true, not_true_eq_false, and_true, true_and, and_self, or_false, false_or, true_or, or_true, and_false, false_and, qlit, qneg, qof, qn_add, qn_mul, qn_s, qn_z, qn_d, qn_dz, qm_1, qt_1, qt_0, qb_0, qb_1, qb_01, qb01b, q01_0, q01_1, qo_s, qo_n, qn_c, qn_le, qn_lt, qn_eq, qn_ne_m, qm_ne_n, qm_lt, qm_le, qn_lt_m, qn_le_m, qn_sub, qn_div, qn_mod, qle_t, qle_f, qlt_t, qlt_f, qeq_t, qeq_f, Nat.add_sub_cancel, qC_I, qC_s, qU_s, qU_a, qU_k, qk_2, qk_3, qk_4, qk_5, qk_6, qk_7, ql_3, ql_4, ql_5, ql_6, ql_7, qr_2_0, qr_2_1, qr_2_2, qr_2_3, qr_2_4, qmo_r, qmo_k, qmo0_k, qmo0_l, qmo1_k, qmo1_l, qmo2_k, qmo2_l, qmo4_k, qmo4_l, qmo5_k, qmo5_l, qmo_r0, qmo_r1, qmo_r2, qmo_r4, qmo_r5]
theorem cWR_23 (he : e < 10) (hr : r < 12) (h6 : qgN G e ≤ 6) : ∀ n k s z I m, n + k = qgN G e → n + 1 < m → qCS G e I → fX1_workOutReach_23 m (8 + 6 * e) (qn r) z (qb s) (qn 1) (qn k) (qC w I) = some (qn 0, qC w (qU (qU (qU I (8 + 6 * e) 6 (I (8 + 6 * e) 6 ||| qgCl G e n k s z)) (12 + 6 * e) r (z ||| qgOn G e n k s)) (13 + 6 * e) r (qb (qgEnd G e n k s)))) := by
  intro n
  induction n with
  | zero =>
    intro k s z I m h1 h2 hS
    obtain ⟨m, rfl⟩ : ∃ m', m = m' + 1 := ⟨m - 1, by omega⟩
    have h3 := hS.1
    have hE := cWR_end (w := w) (I := I) he hr z true
    rw [qb_t] at hE
    unfold fX1_workOutReach_23 qgCl qgOn qgEnd
    rw [q_or0r, q_or0r, qU_same rfl]
    simp (disch := omega) only [↓qlet, eq_self, qzg_t, qzb_some, ↓reduceIte, not_or, not_false_eq_true, not_true_eq_false, and_true, true_and, and_self, or_false, false_or, true_or, or_true, and_false, false_and, qlit, qneg, qof, qn_add, qn_mul, qn_s, qn_z, qn_d, qn_dz, qm_1, qt_1, qt_0, qb_0, qb_1, qb_01, qb01b, q01_0, q01_1, qo_s, qo_n, qn_c, qn_le, qn_lt, qn_eq, qn_ne_m, qm_ne_n, qm_lt, qm_le, qn_lt_m, qn_le_m, qn_sub, qn_div, qn_mod, qle_t, qle_f, qlt_t, qlt_f, qeq_t, qeq_f, Nat.add_sub_cancel, qC_I, qC_s, qU_s, qU_a, qU_k, qk_2, qk_3, qk_4, qk_5, qk_6, qk_7, ql_3, ql_4, ql_5, ql_6, ql_7, qr_2_0, qr_2_1, qr_2_2, qr_2_3, qr_2_4, qmo_r, qmo_k, qmo0_k, qmo0_l, qmo1_k, qmo1_l, qmo2_k, qmo2_l, qmo4_k, qmo4_l, qmo5_k, qmo5_l, qmo_r0, qmo_r1, qmo_r2, qmo_r4, qmo_r5, h3, hE, qb_t]
  | succ n ih =>
    intro k s z I m h1 h2 hS
    obtain ⟨m, rfl⟩ : ∃ m', m = m' + 1 := ⟨m - 1, by omega⟩
    have h3 := hS.1
    obtain ⟨a1, a2, a3⟩ := hS.2 k (by omega)
    obtain ⟨st, hst⟩ : ∃ st, st = (if (!s || qmany (qgO G e k)) = true then qgS G e k else qn 0) := ⟨_, rfl⟩
    have hI : qCS G e (qU I (8 + 6 * e) 6 (I (8 + 6 * e) 6 ||| (z &&& st))) := qCS_fr hS (qU_k (by omega)) (qU_r (by omega)) (qU_r (by omega)) (qU_r (by omega))
    -- behind the set of the slot
    have h62 : fX1_workOutReach_62 (fX1_workOutReach_23 m) (8 + 6 * e) (qn r) z (qb s) (qn k) st (qC w I) = some (qn 0, qC w (qU (qU (qU I (8 + 6 * e) 6 (I (8 + 6 * e) 6 ||| qgCl G e (n + 1) k s z)) (12 + 6 * e) r (z ||| qgOn G e (n + 1) k s)) (13 + 6 * e) r (qb (qgEnd G e (n + 1) k s)))) := by
      unfold fX1_workOutReach_62 fX1_workOutReach_96 fX1_workOutReach_101
      have hfin : ∀ (x y : Int32), qU (qU I (8 + 6 * e) 6 x) (8 + 6 * e) 6 y = qU I (8 + 6 * e) 6 y := fun x y => by
        funext a b
        unfold qU
        split <;> simp [*]
      have hcl : qgCl G e (n + 1) k s z = (z &&& st) ||| (if qgEn G e k s = true then qgCl G e n (k + 1) false (z ||| st) else qn 0) := by rw [hst]; rfl
      have hon : qgOn G e (n + 1) k s = st ||| (if qgEn G e k s = true then qgOn G e n (k + 1) false else qn 0) := by rw [hst]; rfl
      have hen : qgEnd G e (n + 1) k s = (qgEn G e k s && qgEnd G e n (k + 1) false) := rfl
      rw [hcl, hon, hen, ← q_orA, ← q_orA]
      cases hq : qgEn G e k s with
      | true =>
        have ih1 := ih (k + 1) false (z ||| st) _ m (by omega) (by omega) hI
        rw [qU_s, hfin] at ih1
        simp only [↓reduceIte, Bool.true_and]
        rw [qb_f] at ih1
        unfold qgEn at hq
        cases s with
        | true => simp (disch := omega) only [↓qlet, eq_self, qzg_t, qzb_some, ↓reduceIte, not_or, not_false_eq_true, not_true_eq_false, and_true, true_and, and_self, or_false, false_or, true_or, or_true, and_false, false_and, qlit, qneg, qof, qn_add, qn_mul, qn_s, qn_z, qn_d, qn_dz, qm_1, qt_1, qt_0, qb_0, qb_1, qb_01, qb01b, q01_0, q01_1, qo_s, qo_n, qn_c, qn_le, qn_lt, qn_eq, qn_ne_m, qm_ne_n, qm_lt, qm_le, qn_lt_m, qn_le_m, qn_sub, qn_div, qn_mod, qle_t, qle_f, qlt_t, qlt_f, qeq_t, qeq_f, Nat.add_sub_cancel, qC_I, qC_s, qU_s, qU_a, qU_k, qk_2, qk_3, qk_4, qk_5, qk_6, qk_7, ql_3, ql_4, ql_5, ql_6, ql_7, qr_2_0, qr_2_1, qr_2_2, qr_2_3, qr_2_4, qmo_r, qmo_k, qmo0_k, qmo0_l, qmo1_k, qmo1_l, qmo2_k, qmo2_l, qmo4_k, qmo4_l, qmo5_k, qmo5_l, qmo_r0, qmo_r1, qmo_r2, qmo_r4, qmo_r5, qb_t, ih1]
        | false =>
          rw [Bool.false_or] at hq
          simp (disch := omega) only [↓qlet, eq_self, qzg_t, qzb_some, ↓reduceIte, not_or, not_false_eq_true, not_true_eq_false, and_true, true_and, and_self, or_false, false_or, true_or, or_true, and_false, false_and, qlit, qneg, qof, qn_add, qn_mul, qn_s, qn_z, qn_d, qn_dz, qm_1, qt_1, qt_0, qb_0, qb_1, qb_01, qb01b, q01_0, q01_1, qo_s, qo_n, qn_c, qn_le, qn_lt, qn_eq, qn_ne_m, qm_ne_n, qm_lt, qm_le, qn_lt_m, qn_le_m, qn_sub, qn_div, qn_mod, qle_t, qle_f, qlt_t, qlt_f, qeq_t, qeq_f, Nat.add_sub_cancel, qC_I, qC_s, qU_s, qU_a, qU_k, qk_2, qk_3, qk_4, qk_5, qk_6, qk_7, ql_3, ql_4, ql_5, ql_6, ql_7, qr_2_0, qr_2_1, qr_2_2, qr_2_3, qr_2_4, qmo_r, qmo_k, qmo0_k, qmo0_l, qmo1_k, qmo1_l, qmo2_k, qmo2_l, qmo4_k, qmo4_l, qmo5_k, qmo5_l, qmo_r0, qmo_r1, qmo_r2, qmo_r4, qmo_r5, qb_f, a3, hq, qb_t, ih1]
      | false =>
        simp only [Bool.false_eq_true, ↓reduceIte, Bool.false_and, q_or0r]
        unfold qgEn at hq
        cases s with
        | true => simp at hq
        | false =>
          rw [Bool.false_or] at hq
          obtain ⟨m, rfl⟩ : ∃ m', m = m' + 1 := ⟨m - 1, by omega⟩
          have hE := cWR_end (w := w) (I := qU I (8 + 6 * e) 6 (I (8 + 6 * e) 6 ||| (z &&& st))) he hr (z ||| st) false
          rw [qb_f] at hE
          simp (disch := omega) only [↓qlet, eq_self, qzg_t, qzb_some, ↓reduceIte, not_or, not_false_eq_true, not_true_eq_false, and_true, true_and, and_self, or_false, false_or, true_or, or_true, and_false, false_and, qlit, qneg, qof, qn_add, qn_mul, qn_s, qn_z, qn_d, qn_dz, qm_1, qt_1, qt_0, qb_0, qb_1, qb_01, qb01b, q01_0, q01_1, qo_s, qo_n, qn_c, qn_le, qn_lt, qn_eq, qn_ne_m, qm_ne_n, qm_lt, qm_le, qn_lt_m, qn_le_m, qn_sub, qn_div, qn_mod, qle_t, qle_f, qlt_t, qlt_f, qeq_t, qeq_f, Nat.add_sub_cancel, qC_I, qC_s, qU_s, qU_a, qU_k, qk_2, qk_3, qk_4, qk_5, qk_6, qk_7, ql_3, ql_4, ql_5, ql_6, ql_7, qr_2_0, qr_2_1, qr_2_2, qr_2_3, qr_2_4, qmo_r, qmo_k, qmo0_k, qmo0_l, qmo1_k, qmo1_l, qmo2_k, qmo2_l, qmo4_k, qmo4_l, qmo5_k, qmo5_l, qmo_r0, qmo_r1, qmo_r2, qmo_r4, qmo_r5, qb_f, a3, hq, fX1_workOutReach_23, h3]
          by_cases c : qgN G e ≤ k + 1
          · rw [if_pos c]; exact hE
          · rw [if_neg c]; exact hE
    rw [fX1_workOutReach_23]
    unfold fX1_workOutReach_51
    cases s with
    | true =>
      cases hq : qmany (qgO G e k) with
      | true =>
        rw [hq] at hst
        simp only [Bool.not_true, Bool.or_true, Bool.false_or, ↓reduceIte] at hst
        rw [hst] at h62
        rw [qb_t] at h62
        simp (disch := omega) only [↓qlet, eq_self, qzg_t, qzb_some, ↓reduceIte, not_or, not_false_eq_true, not_true_eq_false, and_true, true_and, and_self, or_false, false_or, true_or, or_true, and_false, false_and, qlit, qneg, qof, qn_add, qn_mul, qn_s, qn_z, qn_d, qn_dz, qm_1, qt_1, qt_0, qb_0, qb_1, qb_01, qb01b, q01_0, q01_1, qo_s, qo_n, qn_c, qn_le, qn_lt, qn_eq, qn_ne_m, qm_ne_n, qm_lt, qm_le, qn_lt_m, qn_le_m, qn_sub, qn_div, qn_mod, qle_t, qle_f, qlt_t, qlt_f, qeq_t, qeq_f, Nat.add_sub_cancel, qC_I, qC_s, qU_s, qU_a, qU_k, qk_2, qk_3, qk_4, qk_5, qk_6, qk_7, ql_3, ql_4, ql_5, ql_6, ql_7, qr_2_0, qr_2_1, qr_2_2, qr_2_3, qr_2_4, qmo_r, qmo_k, qmo0_k, qmo0_l, qmo1_k, qmo1_l, qmo2_k, qmo2_l, qmo4_k, qmo4_l, qmo5_k, qmo5_l, qmo_r0, qmo_r1, qmo_r2, qmo_r4, qmo_r5, h3, a1, a2, hq, qb_t]
        exact h62
      | false =>
        rw [hq] at hst
        simp only [Bool.not_true, Bool.or_false, Bool.false_eq_true, ↓reduceIte] at hst
        rw [hst] at h62
        rw [qb_t] at h62
        simp (disch := omega) only [↓qlet, eq_self, qzg_t, qzb_some, ↓reduceIte, not_or, not_false_eq_true, not_true_eq_false, and_true, true_and, and_self, or_false, false_or, true_or, or_true, and_false, false_and, qlit, qneg, qof, qn_add, qn_mul, qn_s, qn_z, qn_d, qn_dz, qm_1, qt_1, qt_0, qb_0, qb_1, qb_01, qb01b, q01_0, q01_1, qo_s, qo_n, qn_c, qn_le, qn_lt, qn_eq, qn_ne_m, qm_ne_n, qm_lt, qm_le, qn_lt_m, qn_le_m, qn_sub, qn_div, qn_mod, qle_t, qle_f, qlt_t, qlt_f, qeq_t, qeq_f, Nat.add_sub_cancel, qC_I, qC_s, qU_s, qU_a, qU_k, qk_2, qk_3, qk_4, qk_5, qk_6, qk_7, ql_3, ql_4, ql_5, ql_6, ql_7, qr_2_0, qr_2_1, qr_2_2, qr_2_3, qr_2_4, qmo_r, qmo_k, qmo0_k, qmo0_l, qmo1_k, qmo1_l, qmo2_k, qmo2_l, qmo4_k, qmo4_l, qmo5_k, qmo5_l, qmo_r0, qmo_r1, qmo_r2, qmo_r4, qmo_r5, h3, a1, a2, hq, qb_f, qb_t]
        exact h62
    | false =>
      simp only [Bool.not_false, Bool.true_or, ↓reduceIte] at hst
      rw [hst] at h62
      rw [qb_f] at h62
      simp (disch := omega) only [↓qlet, eq_self, qzg_t, qzb_some, ↓reduceIte, not_or, not_false_eq_true, not_true_eq_false, and_true, true_and, and_self, or_false, false_or, true_or, or_true, and_false, false_and, qlit, qneg, qof, qn_add, qn_mul, qn_s, qn_z, qn_d, qn_dz, qm_1, qt_1, qt_0, qb_0, qb_1, qb_01, qb01b, q01_0, q01_1, qo_s, qo_n, qn_c, qn_le, qn_lt, qn_eq, qn_ne_m, qm_ne_n, qm_lt, qm_le, qn_lt_m, qn_le_m, qn_sub, qn_div, qn_mod, qle_t, qle_f, qlt_t, qlt_f, qeq_t, qeq_f, Nat.add_sub_cancel, qC_I, qC_s, qU_s, qU_a, qU_k, qk_2, qk_3, qk_4, qk_5, qk_6, qk_7, ql_3, ql_4, ql_5, ql_6, ql_7, qr_2_0, qr_2_1, qr_2_2, qr_2_3, qr_2_4, qmo_r, qmo_k, qmo0_k, qmo0_l, qmo1_k, qmo1_l, qmo2_k, qmo2_l, qmo4_k, qmo4_l, qmo5_k, qmo5_l, qmo_r0, qmo_r1, qmo_r2, qmo_r4, qmo_r5, h3, a1, a2, qb_f]
      exact h62
theorem cWR (he : e < 10) (h6 : qgN G e ≤ 6) (hr : r < 2 * qgN G e) (hS : qCS G e I) : fX1_workOutReach (8 + 6 * e) (qn r) (qC w I) = some (qn 0, qC w (qU (qU (qU I (8 + 6 * e) 6 (I (8 + 6 * e) 6 ||| qgCl G e (qgN G e - r / 2) (r / 2) (r % 2 == 1) (qn 0))) (12 + 6 * e) r (qrOn G e r)) (13 + 6 * e) r (qb (qrEnd G e r)))) := by
  have h := cWR_23 (w := w) he (r := r) (by omega) h6 (qgN G e - r / 2) (r / 2) (r % 2 == 1) (qn 0) I 10000 (by omega) (by omega) hS
  rw [q_or0] at h
  unfold fX1_workOutReach fX1_workOutReach_14
  by_cases c : r % 2 = 1
  · have c2 : (r % 2 == 1) = true := by simp [c]
    rw [c2, qb_t] at h
    simp (disch := omega) only [↓qlet, eq_self, qzg_t, qzb_some, ↓reduceIte, not_or, not_false_eq_true, not_true_eq_false, and_true, true_and, and_self, or_false, false_or, true_or, or_true, and_false, false_and, qlit, qneg, qof, qn_add, qn_mul, qn_s, qn_z, qn_d, qn_dz, qm_1, qt_1, qt_0, qb_0, qb_1, qb_01, qb01b, q01_0, q01_1, qo_s, qo_n, qn_c, qn_le, qn_lt, qn_eq, qn_ne_m, qm_ne_n, qm_lt, qm_le, qn_lt_m, qn_le_m, qn_sub, qn_div, qn_mod, qle_t, qle_f, qlt_t, qlt_f, qeq_t, qeq_f, Nat.add_sub_cancel, qC_I, qC_s, qU_s, qU_a, qU_k, c]
    rw [h]
    unfold qrOn qrEnd
    rw [c2]
    rfl
  · have c2 : (r % 2 == 1) = false := by simp [c]
    rw [c2, qb_f] at h
    have c3 : r % 2 = 0 := by omega
    simp (disch := omega) only [↓qlet, eq_self, qzg_t, qzb_some, ↓reduceIte, not_or, not_false_eq_true, not_true_eq_false, and_true, true_and, and_self, or_false, false_or, true_or, or_true, and_false, false_and, qlit, qneg, qof, qn_add, qn_mul, qn_s, qn_z, qn_d, qn_dz, qm_1, qt_1, qt_0, qb_0, qb_1, qb_01, qb01b, q01_0, q01_1, qo_s, qo_n, qn_c, qn_le, qn_lt, qn_eq, qn_ne_m, qm_ne_n, qm_lt, qm_le, qn_lt_m, qn_le_m, qn_sub, qn_div, qn_mod, qle_t, qle_f, qlt_t, qlt_f, qeq_t, qeq_f, Nat.add_sub_cancel, qC_I, qC_s, qU_s, qU_a, qU_k, c3]
    rw [h]
    unfold qrOn qrEnd
    rw [c2]
    rfl
theorem cWO_7 (he : e < 10) (h6 : qgN G e ≤ 6) : ∀ d r I m, r + d = 2 * qgN G e → d < m → qCS G e I → I (8 + 6 * e) 6 = qgClA G e r → (∀ q, q < r → I (12 + 6 * e) q = qrOn G e q ∧ I (13 + 6 * e) q = qb (qrEnd G e q)) → ∃ J, fX1_workOut_7 m (8 + 6 * e) (qn r) (qC w I) = some (qn 0, qC w J) ∧ qCS G e J ∧ J (8 + 6 * e) 6 = qgClA G e (2 * qgN G e) ∧ (∀ q, q < 2 * qgN G e → J (12 + 6 * e) q = qrOn G e q ∧ J (13 + 6 * e) q = qb (qrEnd G e q)) ∧ ∀ a, (a < 8 + 6 * e ∨ 14 + 6 * e ≤ a) → J a = I a := by
  intro d
  induction d with
  | zero =>
    intro r I m h1 h2 hS hc ho
    obtain ⟨m, rfl⟩ : ∃ m', m = m' + 1 := ⟨m - 1, by omega⟩
    have hr : r = 2 * qgN G e := by omega
    subst hr
    refine ⟨I, ?_, hS, hc, ho, fun a _ => rfl⟩
    unfold fX1_workOut_7
    simp (disch := omega) only [↓qlet, eq_self, qzg_t, qzb_some, ↓reduceIte, not_or, not_false_eq_true, not_true_eq_false, and_true, true_and, and_self, or_false, false_or, true_or, or_true, and_false, false_and, qlit, qneg, qof, qn_add, qn_mul, qn_s, qn_z, qn_d, qn_dz, qm_1, qt_1, qt_0, qb_0, qb_1, qb_01, qb01b, q01_0, q01_1, qo_s, qo_n, qn_c, qn_le, qn_lt, qn_eq, qn_ne_m, qm_ne_n, qm_lt, qm_le, qn_lt_m, qn_le_m, qn_sub, qn_div, qn_mod, qle_t, qle_f, qlt_t, qlt_f, qeq_t, qeq_f, Nat.add_sub_cancel, qC_I, qC_s, qU_s, qU_a, qU_k, qk_2, qk_3, qk_4, qk_5, qk_6, qk_7, ql_3, ql_4, ql_5, ql_6, ql_7, qr_2_0, qr_2_1, qr_2_2, qr_2_3, qr_2_4, qmo_r, qmo_k, qmo0_k, qmo0_l, qmo1_k, qmo1_l, qmo2_k, qmo2_l, qmo4_k, qmo4_l, qmo5_k, qmo5_l, qmo_r0, qmo_r1, qmo_r2, qmo_r4, qmo_r5, hS.1]
  | succ d ih =>
    intro r I m h1 h2 hS hc ho
    obtain ⟨m, rfl⟩ : ∃ m', m = m' + 1 := ⟨m - 1, by omega⟩
    have hW := cWR (w := w) he h6 (r := r) (by omega) hS
    obtain ⟨J, e1, j1, j2, j3, j4⟩ := ih (r + 1) (qU (qU (qU I (8 + 6 * e) 6 (I (8 + 6 * e) 6 ||| qgCl G e (qgN G e - r / 2) (r / 2) (r % 2 == 1) (qn 0))) (12 + 6 * e) r (qrOn G e r)) (13 + 6 * e) r (qb (qrEnd G e r))) m (by omega) (by omega) (qCS_fr hS (by rw [qU_r (by omega), qU_r (by omega), qU_k (by omega)]) (by rw [qU_r (by omega), qU_r (by omega), qU_r (by omega)]) (by rw [qU_r (by omega), qU_r (by omega), qU_r (by omega)]) (by rw [qU_r (by omega), qU_r (by omega), qU_r (by omega)])) (by rw [qU_r (by omega), qU_r (by omega), qU_s, hc]; rfl) (fun q hq => by
      rcases Nat.lt_or_ge q r with c | c
      · rw [qU_r (by omega), qU_k (by omega), qU_r (by omega), qU_k (by omega), qU_r (by omega), qU_r (by omega)]
        exact ho q c
      · have : q = r := by omega
        subst this
        rw [qU_r (by omega), qU_s, qU_s]
        exact ⟨rfl, rfl⟩)
    refine ⟨J, ?_, j1, j2, j3, fun a ha => by rw [j4 a ha, qU_r (by omega), qU_r (by omega), qU_r (by omega)]⟩
    unfold fX1_workOut_7
    simp (disch := omega) only [↓qlet, eq_self, qzg_t, qzb_some, ↓reduceIte, not_or, not_false_eq_true, not_true_eq_false, and_true, true_and, and_self, or_false, false_or, true_or, or_true, and_false, false_and, qlit, qneg, qof, qn_add, qn_mul, qn_s, qn_z, qn_d, qn_dz, qm_1, qt_1, qt_0, qb_0, qb_1, qb_01, qb01b, q01_0, q01_1, qo_s, qo_n, qn_c, qn_le, qn_lt, qn_eq, qn_ne_m, qm_ne_n, qm_lt, qm_le, qn_lt_m, qn_le_m, qn_sub, qn_div, qn_mod, qle_t, qle_f, qlt_t, qlt_f, qeq_t, qeq_f, Nat.add_sub_cancel, qC_I, qC_s, qU_s, qU_a, qU_k, qk_2, qk_3, qk_4, qk_5, qk_6, qk_7, ql_3, ql_4, ql_5, ql_6, ql_7, qr_2_0, qr_2_1, qr_2_2, qr_2_3, qr_2_4, qmo_r, qmo_k, qmo0_k, qmo0_l, qmo1_k, qmo1_l, qmo2_k, qmo2_l, qmo4_k, qmo4_l, qmo5_k, qmo5_l, qmo_r0, qmo_r1, qmo_r2, qmo_r4, qmo_r5, hS.1, hW, e1]
theorem cWO (he : e < 10) (h6 : qgN G e ≤ 6) (hS : qCS G e I) : ∃ J, fX1_workOut (8 + 6 * e) (qC w I) = some (qn 0, qC w J) ∧ qCS G e J ∧ J (8 + 6 * e) 6 = qgClA G e (2 * qgN G e) ∧ (∀ q, q < 2 * qgN G e → J (12 + 6 * e) q = qrOn G e q ∧ J (13 + 6 * e) q = qb (qrEnd G e q)) ∧ ∀ a, (a < 8 + 6 * e ∨ 14 + 6 * e ≤ a) → J a = I a := by
  obtain ⟨J, e1, j1, j2, j3, j4⟩ := cWO_7 (w := w) he h6 (2 * qgN G e) 0 (qU I (8 + 6 * e) 6 (qn 0)) 10000 (by omega) (by omega) (qCS_fr hS (qU_k (by omega)) (qU_r (by omega)) (qU_r (by omega)) (qU_r (by omega))) (qU_s ..) (fun q hq => by omega)
  refine ⟨J, ?_, j1, j2, j3, fun a ha => by rw [j4 a ha, qU_r (by omega)]⟩
  unfold fX1_workOut
  simp (disch := omega) only [↓qlet, eq_self, qzg_t, qzb_some, ↓reduceIte, not_or, not_false_eq_true, not_true_eq_false, and_true, true_and, and_self, or_false, false_or, true_or, or_true, and_false, false_and, qlit, qneg, qof, qn_add, qn_mul, qn_s, qn_z, qn_d, qn_dz, qm_1, qt_1, qt_0, qb_0, qb_1, qb_01, qb01b, q01_0, q01_1, qo_s, qo_n, qn_c, qn_le, qn_lt, qn_eq, qn_ne_m, qm_ne_n, qm_lt, qm_le, qn_lt_m, qn_le_m, qn_sub, qn_div, qn_mod, qle_t, qle_f, qlt_t, qlt_f, qeq_t, qeq_f, Nat.add_sub_cancel, qC_I, qC_s, qU_s, qU_a, qU_k, qk_2, qk_3, qk_4, qk_5, qk_6, qk_7, ql_3, ql_4, ql_5, ql_6, ql_7, qr_2_0, qr_2_1, qr_2_2, qr_2_3, qr_2_4, qmo_r, qmo_k, qmo0_k, qmo0_l, qmo1_k, qmo1_l, qmo2_k, qmo2_l, qmo4_k, qmo4_l, qmo5_k, qmo5_l, qmo_r0, qmo_r1, qmo_r2, qmo_r4, qmo_r5, e1]
/-- a slot more; none -/
def qgAdd (G : qG) (e : Nat) (s : Int32) (o : Nat) : qG := (fun x => if x = e then qgN G e + 1 else qgN G x, fun x k => if x = e ∧ k = qgN G e then s else qgS G x k, fun x k => if x = e ∧ k = qgN G e then o else qgO G x k, G.2.2.2)
def qgNil (G : qG) (e : Nat) : qG := (fun x => if x = e then 0 else qgN G x, G.2)
theorem cAddSlot (he : e < 10) (h6 : qgN G e < 6) (hS : qCS G e I) (s : Int32) {o : Nat} (ho : o ≤ 3) : ∃ J, fX1_addSlot (8 + 6 * e) s (qn o) (qC w I) = some (qn 0, qC w J) ∧ qCS (qgAdd G e s o) e J ∧ J (8 + 6 * e) 6 = qgClA (qgAdd G e s o) e (2 * (qgN G e + 1)) ∧ (∀ q, q < 2 * (qgN G e + 1) → J (12 + 6 * e) q = qrOn (qgAdd G e s o) e q ∧ J (13 + 6 * e) q = qb (qrEnd (qgAdd G e s o) e q)) ∧ ∀ a, (a < 8 + 6 * e ∨ 14 + 6 * e ≤ a) → J a = I a := by
  have hn : qgN (qgAdd G e s o) e = qgN G e + 1 := if_pos rfl
  obtain ⟨I1, hI1⟩ : ∃ I1, I1 = qU (qU (qU (qU I (9 + 6 * e) (qgN G e) s) (10 + 6 * e) (qgN G e) (qb (qmany o))) (11 + 6 * e) (qgN G e) (qb (qlack o))) (8 + 6 * e) 3 (qn (qgN G e + 1)) := ⟨_, rfl⟩
  have hS1 : qCS (qgAdd G e s o) e I1 := by
    refine ⟨by rw [hI1, qU_s, hn], fun k hk => ?_⟩
    rw [hn] at hk
    rw [hI1]
    by_cases c : k = qgN G e
    · subst c
      have e1 : qgS (qgAdd G e s o) e (qgN G e) = s := if_pos ⟨rfl, rfl⟩
      have e2 : qgO (qgAdd G e s o) e (qgN G e) = o := if_pos ⟨rfl, rfl⟩
      rw [e1, e2]
      simp (disch := omega) only [qU_s, qU_a, qU_k]
      exact ⟨trivial, trivial, trivial⟩
    · have e1 : qgS (qgAdd G e s o) e k = qgS G e k := if_neg fun h => c h.2
      have e2 : qgO (qgAdd G e s o) e k = qgO G e k := if_neg fun h => c h.2
      rw [e1, e2]
      simp (disch := omega) only [qU_s, qU_a, qU_k]
      exact hS.2 k (by omega)
  obtain ⟨J, e1, j1, j2, j3, j4⟩ := cWO (w := w) he (by rw [hn]; omega) hS1
  rw [hn] at j2 j3
  refine ⟨J, ?_, j1, j2, j3, fun a ha => by rw [j4 a ha, hI1]; simp (disch := omega) only [qU_r]⟩
  have h3 := hS.1
  unfold fX1_addSlot fX1_addSlot_37 fX1_addSlot_42 fX1_addSlot_61 fX1_addSlot_66
  rcases (by omega : o = 0 ∨ o = 1 ∨ o = 2 ∨ o = 3) with c | c | c | c <;> subst c
  · simp (disch := omega) only [↓qlet, eq_self, qzg_t, qzb_some, ↓reduceIte, not_or, not_false_eq_true, not_true_eq_false, and_true, true_and, and_self, or_false, false_or, true_or, or_true, and_false, false_and, qlit, qneg, qof, qn_add, qn_mul, qn_s, qn_z, qn_d, qn_dz, qm_1, qt_1, qt_0, qb_0, qb_1, qb_01, qb01b, q01_0, q01_1, qo_s, qo_n, qn_c, qn_le, qn_lt, qn_eq, qn_ne_m, qm_ne_n, qm_lt, qm_le, qn_lt_m, qn_le_m, qn_sub, qn_div, qn_mod, qle_t, qle_f, qlt_t, qlt_f, qeq_t, qeq_f, Nat.add_sub_cancel, qC_I, qC_s, qU_s, qU_a, qU_k, qk_2, qk_3, qk_4, qk_5, qk_6, qk_7, ql_3, ql_4, ql_5, ql_6, ql_7, qr_2_0, qr_2_1, qr_2_2, qr_2_3, qr_2_4, qmo_r, qmo_k, qmo0_k, qmo0_l, qmo1_k, qmo1_l, qmo2_k, qmo2_l, qmo4_k, qmo4_l, qmo5_k, qmo5_l, qmo_r0, qmo_r1, qmo_r2, qmo_r4, qmo_r5, h3]
    rw [hI1] at e1
    simp only [show qmany 0 = false from rfl, show qlack 0 = false from rfl, qb_f] at e1
    simp (disch := omega) only [↓qlet, eq_self, qzg_t, qzb_some, ↓reduceIte, not_or, not_false_eq_true, not_true_eq_false, and_true, true_and, and_self, or_false, false_or, true_or, or_true, and_false, false_and, qlit, qneg, qof, qn_add, qn_mul, qn_s, qn_z, qn_d, qn_dz, qm_1, qt_1, qt_0, qb_0, qb_1, qb_01, qb01b, q01_0, q01_1, qo_s, qo_n, qn_c, qn_le, qn_lt, qn_eq, qn_ne_m, qm_ne_n, qm_lt, qm_le, qn_lt_m, qn_le_m, qn_sub, qn_div, qn_mod, qle_t, qle_f, qlt_t, qlt_f, qeq_t, qeq_f, Nat.add_sub_cancel, qC_I, qC_s, qU_s, qU_a, qU_k, e1]
  · simp (disch := omega) only [↓qlet, eq_self, qzg_t, qzb_some, ↓reduceIte, not_or, not_false_eq_true, not_true_eq_false, and_true, true_and, and_self, or_false, false_or, true_or, or_true, and_false, false_and, qlit, qneg, qof, qn_add, qn_mul, qn_s, qn_z, qn_d, qn_dz, qm_1, qt_1, qt_0, qb_0, qb_1, qb_01, qb01b, q01_0, q01_1, qo_s, qo_n, qn_c, qn_le, qn_lt, qn_eq, qn_ne_m, qm_ne_n, qm_lt, qm_le, qn_lt_m, qn_le_m, qn_sub, qn_div, qn_mod, qle_t, qle_f, qlt_t, qlt_f, qeq_t, qeq_f, Nat.add_sub_cancel, qC_I, qC_s, qU_s, qU_a, qU_k, qk_2, qk_3, qk_4, qk_5, qk_6, qk_7, ql_3, ql_4, ql_5, ql_6, ql_7, qr_2_0, qr_2_1, qr_2_2, qr_2_3, qr_2_4, qmo_r, qmo_k, qmo0_k, qmo0_l, qmo1_k, qmo1_l, qmo2_k, qmo2_l, qmo4_k, qmo4_l, qmo5_k, qmo5_l, qmo_r0, qmo_r1, qmo_r2, qmo_r4, qmo_r5, h3]
    rw [hI1] at e1
    simp only [show qmany 1 = false from rfl, show qlack 1 = true from rfl, qb_f, qb_t] at e1
    simp (disch := omega) only [↓qlet, eq_self, qzg_t, qzb_some, ↓reduceIte, not_or, not_false_eq_true, not_true_eq_false, and_true, true_and, and_self, or_false, false_or, true_or, or_true, and_false, false_and, qlit, qneg, qof, qn_add, qn_mul, qn_s, qn_z, qn_d, qn_dz, qm_1, qt_1, qt_0, qb_0, qb_1, qb_01, qb01b, q01_0, q01_1, qo_s, qo_n, qn_c, qn_le, qn_lt, qn_eq, qn_ne_m, qm_ne_n, qm_lt, qm_le, qn_lt_m, qn_le_m, qn_sub, qn_div, qn_mod, qle_t, qle_f, qlt_t, qlt_f, qeq_t, qeq_f, Nat.add_sub_cancel, qC_I, qC_s, qU_s, qU_a, qU_k, e1]
  · simp (disch := omega) only [↓qlet, eq_self, qzg_t, qzb_some, ↓reduceIte, not_or, not_false_eq_true, not_true_eq_false, and_true, true_and, and_self, or_false, false_or, true_or, or_true, and_false, false_and, qlit, qneg, qof, qn_add, qn_mul, qn_s, qn_z, qn_d, qn_dz, qm_1, qt_1, qt_0, qb_0, qb_1, qb_01, qb01b, q01_0, q01_1, qo_s, qo_n, qn_c, qn_le, qn_lt, qn_eq, qn_ne_m, qm_ne_n, qm_lt, qm_le, qn_lt_m, qn_le_m, qn_sub, qn_div, qn_mod, qle_t, qle_f, qlt_t, qlt_f, qeq_t, qeq_f, Nat.add_sub_cancel, qC_I, qC_s, qU_s, qU_a, qU_k, qk_2, qk_3, qk_4, qk_5, qk_6, qk_7, ql_3, ql_4, ql_5, ql_6, ql_7, qr_2_0, qr_2_1, qr_2_2, qr_2_3, qr_2_4, qmo_r, qmo_k, qmo0_k, qmo0_l, qmo1_k, qmo1_l, qmo2_k, qmo2_l, qmo4_k, qmo4_l, qmo5_k, qmo5_l, qmo_r0, qmo_r1, qmo_r2, qmo_r4, qmo_r5, h3]
    rw [hI1] at e1
    simp only [show qmany 2 = true from rfl, show qlack 2 = true from rfl, qb_f, qb_t] at e1
    simp (disch := omega) only [↓qlet, eq_self, qzg_t, qzb_some, ↓reduceIte, not_or, not_false_eq_true, not_true_eq_false, and_true, true_and, and_self, or_false, false_or, true_or, or_true, and_false, false_and, qlit, qneg, qof, qn_add, qn_mul, qn_s, qn_z, qn_d, qn_dz, qm_1, qt_1, qt_0, qb_0, qb_1, qb_01, qb01b, q01_0, q01_1, qo_s, qo_n, qn_c, qn_le, qn_lt, qn_eq, qn_ne_m, qm_ne_n, qm_lt, qm_le, qn_lt_m, qn_le_m, qn_sub, qn_div, qn_mod, qle_t, qle_f, qlt_t, qlt_f, qeq_t, qeq_f, Nat.add_sub_cancel, qC_I, qC_s, qU_s, qU_a, qU_k, e1]
  · simp (disch := omega) only [↓qlet, eq_self, qzg_t, qzb_some, ↓reduceIte, not_or, not_false_eq_true, not_true_eq_false, and_true, true_and, and_self, or_false, false_or, true_or, or_true, and_false, false_and, qlit, qneg, qof, qn_add, qn_mul, qn_s, qn_z, qn_d, qn_dz, qm_1, qt_1, qt_0, qb_0, qb_1, qb_01, qb01b, q01_0, q01_1, qo_s, qo_n, qn_c, qn_le, qn_lt, qn_eq, qn_ne_m, qm_ne_n, qm_lt, qm_le, qn_lt_m, qn_le_m, qn_sub, qn_div, qn_mod, qle_t, qle_f, qlt_t, qlt_f, qeq_t, qeq_f, Nat.add_sub_cancel, qC_I, qC_s, qU_s, qU_a, qU_k, qk_2, qk_3, qk_4, qk_5, qk_6, qk_7, ql_3, ql_4, ql_5, ql_6, ql_7, qr_2_0, qr_2_1, qr_2_2, qr_2_3, qr_2_4, qmo_r, qmo_k, qmo0_k, qmo0_l, qmo1_k, qmo1_l, qmo2_k, qmo2_l, qmo4_k, qmo4_l, qmo5_k, qmo5_l, qmo_r0, qmo_r1, qmo_r2, qmo_r4, qmo_r5, h3]
    rw [hI1] at e1
    simp only [show qmany 3 = true from rfl, show qlack 3 = false from rfl, qb_f, qb_t] at e1
    simp (disch := omega) only [↓qlet, eq_self, qzg_t, qzb_some, ↓reduceIte, not_or, not_false_eq_true, not_true_eq_false, and_true, true_and, and_self, or_false, false_or, true_or, or_true, and_false, false_and, qlit, qneg, qof, qn_add, qn_mul, qn_s, qn_z, qn_d, qn_dz, qm_1, qt_1, qt_0, qb_0, qb_1, qb_01, qb01b, q01_0, q01_1, qo_s, qo_n, qn_c, qn_le, qn_lt, qn_eq, qn_ne_m, qm_ne_n, qm_lt, qm_le, qn_lt_m, qn_le_m, qn_sub, qn_div, qn_mod, qle_t, qle_f, qlt_t, qlt_f, qeq_t, qeq_f, Nat.add_sub_cancel, qC_I, qC_s, qU_s, qU_a, qU_k, e1]
theorem cDropLast (he : e < 10) (h6 : qgN G e < 6) {s : Int32} {o : Nat} (hS : qCS (qgAdd G e s o) e I) : ∃ J, fX1_dropLastSlot (8 + 6 * e) (qC w I) = some (qn 0, qC w J) ∧ qCS G e J ∧ (∀ q, q < 2 * qgN G e → J (12 + 6 * e) q = qrOn G e q ∧ J (13 + 6 * e) q = qb (qrEnd G e q)) ∧ ∀ a, (a < 8 + 6 * e ∨ 14 + 6 * e ≤ a) → J a = I a := by
  have hn : qgN (qgAdd G e s o) e = qgN G e + 1 := if_pos rfl
  have hS1 : qCS G e (qU I (8 + 6 * e) 3 (qn (qgN G e))) := by
    refine ⟨qU_s .., fun k hk => ?_⟩
    have h := hS.2 k (by rw [hn]; omega)
    have e1 : qgS (qgAdd G e s o) e k = qgS G e k := if_neg fun h => by omega
    have e2 : qgO (qgAdd G e s o) e k = qgO G e k := if_neg fun h => by omega
    rw [e1, e2] at h
    simp (disch := omega) only [qU_s, qU_a, qU_k]
    exact h
  obtain ⟨J, e1, j1, -, j3, j4⟩ := cWO (w := w) he (by omega) hS1
  refine ⟨J, ?_, j1, j3, fun a ha => by rw [j4 a ha, qU_r (by omega)]⟩
  have h3 := hS.1
  rw [hn] at h3
  unfold fX1_dropLastSlot
  simp (disch := omega) only [↓qlet, eq_self, qzg_t, qzb_some, ↓reduceIte, not_or, not_false_eq_true, not_true_eq_false, and_true, true_and, and_self, or_false, false_or, true_or, or_true, and_false, false_and, qlit, qneg, qof, qn_add, qn_mul, qn_s, qn_z, qn_d, qn_dz, qm_1, qt_1, qt_0, qb_0, qb_1, qb_01, qb01b, q01_0, q01_1, qo_s, qo_n, qn_c, qn_le, qn_lt, qn_eq, qn_ne_m, qm_ne_n, qm_lt, qm_le, qn_lt_m, qn_le_m, qn_sub, qn_div, qn_mod, qle_t, qle_f, qlt_t, qlt_f, qeq_t, qeq_f, Nat.add_sub_cancel, qC_I, qC_s, qU_s, qU_a, qU_k, qk_2, qk_3, qk_4, qk_5, qk_6, qk_7, ql_3, ql_4, ql_5, ql_6, ql_7, qr_2_0, qr_2_1, qr_2_2, qr_2_3, qr_2_4, qmo_r, qmo_k, qmo0_k, qmo0_l, qmo1_k, qmo1_l, qmo2_k, qmo2_l, qmo4_k, qmo4_l, qmo5_k, qmo5_l, qmo_r0, qmo_r1, qmo_r2, qmo_r4, qmo_r5, h3, e1]
end
