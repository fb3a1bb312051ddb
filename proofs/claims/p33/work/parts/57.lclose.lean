/-! THE LAW: closing -/
section
variable {w : Bool} {I : Nat → Nat → Int32} {W : Nat → Nat → Nat} {G : qG} {V : qV} {f : Bool} {p : Nat}
def qE57 (G : qG) (p : Nat) (put : Bool) (V : qV) : qV := ((V.1.1.tail, V.1.2), V.2.1.tail, V.2.2.1, (if put = true then V.2.2.2.1 + 1 else V.2.2.2.1), V.2.2.2.2.1, (if put = true then (if qgB G ((V.1.1.head?).getD (0, 0)).1 = true then V else qErr 3 p V) else V).2.2.2.2.2)
theorem qEnd1_57 (put : Bool) (V : qV) : qEnd1 G p put V = qE57 G p put (if qCan G V.1 = true then V else qErr 2 p V) := by
  unfold qEnd1 qE57
  by_cases c : qCan G V.1 = true
  · rw [if_pos c]
  · rw [if_neg c]; rfl
theorem lPop {x : Nat × Nat} {st : List (Nat × Nat)} (hV : qLV I p V f) (hst : V.1.1 = x :: st) : qLV (qU I 510 0 (qn st.length)) p ((V.1.1.tail, V.1.2), V.2.1.tail, V.2.2) f ∧ qFrL I (qU I 510 0 (qn st.length)) := by
  obtain ⟨h1, h2, h3, h4, h5, h6, h7, h8, h9, h10, h11, h12, h13⟩ := hV
  rw [hst] at h10
  refine ⟨⟨?_, ?_, ?_, ?_, ?_, ?_, ?_, ?_, ?_, ?_, ?_, ?_, ?_⟩, ⟨?_, ?_, ?_⟩⟩
  all_goals (try (simp (disch := omega) only [qU_s, qU_a, qU_k]; assumption))
  · simp (disch := omega) only [qU_s, qU_a, qU_k, hst, List.tail_cons]
  · simp (disch := omega) only [qU_s, qU_a, qU_k, hst, List.tail_cons]; exact h10.2
  · simp (disch := omega) only [qU_s, qU_a, qU_k]
    cases ho : V.2.1 with
    | nil => exact True.intro
    | cons y ot => rw [ho] at h11; exact h11.2
  · intro a ha; simp (disch := omega) only [qU_r]
  · intro a ha hb; simp (disch := omega) only [qU_s, qU_a, qU_k]
  · simp (disch := omega) only [qU_s, qU_a, qU_k]
theorem lPop_ok (hok : qLok G V) : qLok G ((V.1.1.tail, V.1.2), V.2.1.tail, V.2.2) := lShut_ok (V := V) hok
theorem lEndsN (hV : qLV I p V f) (n : Nat) : qLV (qU I 510 4 (qn n)) p (V.1, V.2.1, V.2.2.1, n, V.2.2.2.2) f ∧ qFrL I (qU I 510 4 (qn n)) := by
  obtain ⟨h1, h2, h3, h4, h5, h6, h7, h8, h9, h10, h11, h12, h13⟩ := hV
  refine ⟨⟨?_, ?_, ?_, ?_, ?_, ?_, ?_, ?_, ?_, ?_, ?_, ?_, ?_⟩, ⟨?_, ?_, ?_⟩⟩
  all_goals (try (simp (disch := omega) only [qU_s, qU_a, qU_k]; assumption))
  · simp (disch := omega) only [qU_s, qU_a, qU_k]
  · intro a ha; simp (disch := omega) only [qU_r]
  · intro a ha hb; simp (disch := omega) only [qU_s, qU_a, qU_k]
  · simp (disch := omega) only [qU_s, qU_a, qU_k]
/-- an error, or none: what the law's row has then -/
theorem lFailsK (hV : qLV I p V f) (hok : qLok G V) (k : Nat) : ∃ J V' f', fL_fails 510 517 (qn k) (qL w I W) = some (qn 0, qL w J W) ∧ qLV J p V' f' ∧ qLok G V' ∧ qFrL I J ∧ V'.1 = V.1 ∧ V'.2.1 = V.2.1 ∧ V'.2.2.2.1 = V.2.2.2.1 ∧ (f' = false → f = false ∧ V' = qErr k p V) := by
  obtain ⟨J, V', f', j1, j2, j3, j4⟩ := lFails (w := w) (W := W) hV hok.2.2.2.2.2.2.1 k
  rcases j4 with ⟨q1, q2⟩ | ⟨q1, q2, q3⟩
  · subst q1; subst q2
    exact ⟨J, _, true, j1, j2, hok, j3, rfl, rfl, rfl, fun h => (by cases h)⟩
  · subst q1; subst q2
    obtain ⟨o1, o2, o3, o4, o5, o6, o7, o8⟩ := hok
    exact ⟨J, _, _, j1, j2, ⟨o1, o2, o3, o4, o5, o6, by show V.2.2.2.2.2.length + 1 ≤ 60; omega, o8⟩, j3, rfl, rfl, rfl, fun h => ⟨h, rfl⟩⟩
theorem lClose_57 (hG : qLG G I) (hV : qLV I p V f) (hok : qLok G V) {x : Nat × Nat} {st : List (Nat × Nat)} (hst : V.1.1 = x :: st) (to : Nat) (hb put : Bool) (k : Nat → Nat → Nat → Nat → Nat → Nat → Int32 → Int32 → zM → Option (Int32 × zM)) : ∃ J V' f', fL_close_57 k 505 506 507 510 511 517 (qn to) (qb hb) (qn (16 * x.1 + x.2)) (qb put) (qL w I W) = k 505 506 507 510 511 517 (qn to) (qb hb) (qL w J W) ∧ qLV J p V' f' ∧ qLok G V' ∧ qFrL I J ∧ V'.1.1 = st ∧ (f' = false → f = false ∧ V' = qE57 G p put V) := by
  have hl9 := hok.1
  obtain ⟨b1, b2⟩ := hok.2.2.1 x (by rw [hst]; exact List.mem_cons_self)
  have h4 := (hG x.1 b1).2.1
  have e1 : (16 * x.1 + x.2) / 16 = x.1 := by omega
  have hB := (lXa hG b1).2
  have h1 := hV.1
  have h5 := hV.2.2.2.2.1
  rw [hst] at h1 hl9
  simp only [List.length_cons] at h1 hl9
  unfold fL_close_57 fL_close_71 fL_close_100
  cases put with
  | false =>
    obtain ⟨m1, m2⟩ := lEndsN hV V.2.2.2.1
    obtain ⟨p1, p2⟩ := lPop m1 hst
    refine ⟨_, _, f, ?_, p1, lPop_ok (V := (V.1, V.2.1, V.2.2.1, V.2.2.2.1, V.2.2.2.2)) hok, qFrL_tr m2 p2, by show V.1.1.tail = st; rw [hst]; rfl, fun h => ⟨h, rfl⟩⟩
    simp (disch := omega) only [↓qlet, eq_self, qzg_t, qzb_some, ↓reduceIte, not_or, not_false_eq_true, not_true_eq_false, and_true, true_and, and_self, or_false, false_or, true_or, or_true, and_false, false_and, qlit, qneg, qof, qn_add, qn_mul, qn_s, qn_z, qn_d, qn_dz, qm_1, qt_1, qt_0, qb_0, qb_1, qb_01, qb01b, q01_0, q01_1, qo_s, qo_n, qn_c, qn_le, qn_lt, qn_eq, qn_ne_m, qm_ne_n, qm_lt, qm_le, qn_lt_m, qn_le_m, qn_sub, qn_div, qn_mod, qle_t, qle_f, qlt_t, qlt_f, qeq_t, qeq_f, Nat.add_sub_cancel, qU_s, qU_a, qU_k, qn_rem, qL_I, qL_s, lk_505, lk_506, lk_507, lk_508, lk_509, lk_510, lk_511, lk_512, lk_513, lk_514, lk_515, lk_516, lk_517, lk_518, lk_519, ll_505, ll_506, ll_507, ll_508, ll_509, ll_510, ll_511, ll_512, ll_513, ll_514, ll_515, ll_516, ll_517, ll_518, ll_519, qb_f, h1, h5, Nat.add_zero]
  | true =>
    obtain ⟨m1, m2⟩ := lEndsN hV (V.2.2.2.1 + 1)
    have hok1 : qLok G (V.1, V.2.1, V.2.2.1, V.2.2.2.1 + 1, V.2.2.2.2) := hok
    have hB1 : qt (I 507 x.1) 21 = qgB G x.1 := hB
    cases hBb : qgB G x.1 with
    | true =>
      rw [hBb] at hB1
      obtain ⟨p1, p2⟩ := lPop m1 hst
      refine ⟨_, _, f, ?_, p1, lPop_ok hok1, qFrL_tr m2 p2, by show V.1.1.tail = st; rw [hst]; rfl, fun h => ⟨h, ?_⟩⟩
      · simp (disch := omega) only [↓qlet, eq_self, qzg_t, qzb_some, ↓reduceIte, not_or, not_false_eq_true, not_true_eq_false, and_true, true_and, and_self, or_false, false_or, true_or, or_true, and_false, false_and, qlit, qneg, qof, qn_add, qn_mul, qn_s, qn_z, qn_d, qn_dz, qm_1, qt_1, qt_0, qb_0, qb_1, qb_01, qb01b, q01_0, q01_1, qo_s, qo_n, qn_c, qn_le, qn_lt, qn_eq, qn_ne_m, qm_ne_n, qm_lt, qm_le, qn_lt_m, qn_le_m, qn_sub, qn_div, qn_mod, qle_t, qle_f, qlt_t, qlt_f, qeq_t, qeq_f, Nat.add_sub_cancel, qU_s, qU_a, qU_k, qn_rem, qL_I, qL_s, lk_505, lk_506, lk_507, lk_508, lk_509, lk_510, lk_511, lk_512, lk_513, lk_514, lk_515, lk_516, lk_517, lk_518, lk_519, ll_505, ll_506, ll_507, ll_508, ll_509, ll_510, ll_511, ll_512, ll_513, ll_514, ll_515, ll_516, ll_517, ll_518, ll_519, qb_t, h1, h5, e1, hB1, Bool.true_eq_false]
      · unfold qE57
        rw [hst, List.head?_cons, Option.getD_some, hBb, if_pos rfl]
        rfl
    | false =>
      rw [hBb] at hB1
      obtain ⟨K, V2, f2, k1, k2, k3, k4, k5, k6, k7, k8⟩ := lFailsK (w := w) (W := W) m1 hok1 3
      have hst2 : V2.1.1 = x :: st := by rw [k5]; exact hst
      have h1K := k2.1
      rw [hst2] at h1K
      simp only [List.length_cons] at h1K
      obtain ⟨p1, p2⟩ := lPop k2 hst2
      refine ⟨_, _, f2, ?_, p1, lPop_ok k3, qFrL_tr m2 (qFrL_tr k4 p2), by show V2.1.1.tail = st; rw [hst2]; rfl, fun h => ?_⟩
      · simp (disch := omega) only [↓qlet, eq_self, qzg_t, qzb_some, ↓reduceIte, not_or, not_false_eq_true, not_true_eq_false, and_true, true_and, and_self, or_false, false_or, true_or, or_true, and_false, false_and, qlit, qneg, qof, qn_add, qn_mul, qn_s, qn_z, qn_d, qn_dz, qm_1, qt_1, qt_0, qb_0, qb_1, qb_01, qb01b, q01_0, q01_1, qo_s, qo_n, qn_c, qn_le, qn_lt, qn_eq, qn_ne_m, qm_ne_n, qm_lt, qm_le, qn_lt_m, qn_le_m, qn_sub, qn_div, qn_mod, qle_t, qle_f, qlt_t, qlt_f, qeq_t, qeq_f, Nat.add_sub_cancel, qU_s, qU_a, qU_k, qn_rem, qL_I, qL_s, lk_505, lk_506, lk_507, lk_508, lk_509, lk_510, lk_511, lk_512, lk_513, lk_514, lk_515, lk_516, lk_517, lk_518, lk_519, ll_505, ll_506, ll_507, ll_508, ll_509, ll_510, ll_511, ll_512, ll_513, ll_514, ll_515, ll_516, ll_517, ll_518, ll_519, qb_t, h1, h5, e1, hB1, k1, h1K]
      · obtain ⟨q1, q2⟩ := k8 h
        refine ⟨q1, ?_⟩
        rw [q2]
        unfold qE57
        rw [hst, List.head?_cons, Option.getD_some, hBb, if_pos rfl, if_neg Bool.false_ne_true]
        show ((V.1.1.tail, V.1.2), V.2.1.tail, _) = _
        rw [hst]
        rfl
theorem lClose_0 (to : Nat) (hb : Bool) (hto : to < 100) : ∀ n V f I m, V.1.1.length ≤ n → n < m → qLG G I → qLV I p V f → qLok G V → ∃ J V' f', fL_close_0 m 505 506 507 510 511 517 (qn to) (qb hb) (qL w I W) = some (qn 0, qL w J W) ∧ qLV J p V' f' ∧ qLok G V' ∧ qFrL I J ∧ (f' = false → f = false ∧ V' = qClose G p to hb n V) := by
  intro n
  induction n with
  | zero =>
    intro V f I m h1 hm hG hV hok
    obtain ⟨m, rfl⟩ : ∃ q, m = q + 1 := ⟨m - 1, by omega⟩
    have h0 := hV.1
    rw [show V.1.1.length = 0 by omega] at h0
    refine ⟨I, V, f, ?_, hV, hok, qFrL_refl I, fun h => ⟨h, rfl⟩⟩
    unfold fL_close_0
    simp (disch := omega) only [↓qlet, eq_self, qzg_t, qzb_some, ↓reduceIte, not_or, not_false_eq_true, not_true_eq_false, and_true, true_and, and_self, or_false, false_or, true_or, or_true, and_false, false_and, qlit, qneg, qof, qn_add, qn_mul, qn_s, qn_z, qn_d, qn_dz, qm_1, qt_1, qt_0, qb_0, qb_1, qb_01, qb01b, q01_0, q01_1, qo_s, qo_n, qn_c, qn_le, qn_lt, qn_eq, qn_ne_m, qm_ne_n, qm_lt, qm_le, qn_lt_m, qn_le_m, qn_sub, qn_div, qn_mod, qle_t, qle_f, qlt_t, qlt_f, qeq_t, qeq_f, Nat.add_sub_cancel, qU_s, qU_a, qU_k, qn_rem, qL_I, qL_s, lk_505, lk_506, lk_507, lk_508, lk_509, lk_510, lk_511, lk_512, lk_513, lk_514, lk_515, lk_516, lk_517, lk_518, lk_519, ll_505, ll_506, ll_507, ll_508, ll_509, ll_510, ll_511, ll_512, ll_513, ll_514, ll_515, ll_516, ll_517, ll_518, ll_519, h0, Nat.zero_le]
  | succ n ih =>
    intro V f I m h1 hm hG hV hok
    obtain ⟨m, rfl⟩ : ∃ q, m = q + 1 := ⟨m - 1, by omega⟩
    have hl9 := hok.1
    by_cases c : V.1.1.length ≤ to
    · have h0 := hV.1
      refine ⟨I, V, f, ?_, hV, hok, qFrL_refl I, fun h => ⟨h, ?_⟩⟩
      · unfold fL_close_0
        simp (disch := omega) only [↓qlet, eq_self, qzg_t, qzb_some, ↓reduceIte, not_or, not_false_eq_true, not_true_eq_false, and_true, true_and, and_self, or_false, false_or, true_or, or_true, and_false, false_and, qlit, qneg, qof, qn_add, qn_mul, qn_s, qn_z, qn_d, qn_dz, qm_1, qt_1, qt_0, qb_0, qb_1, qb_01, qb01b, q01_0, q01_1, qo_s, qo_n, qn_c, qn_le, qn_lt, qn_eq, qn_ne_m, qm_ne_n, qm_lt, qm_le, qn_lt_m, qn_le_m, qn_sub, qn_div, qn_mod, qle_t, qle_f, qlt_t, qlt_f, qeq_t, qeq_f, Nat.add_sub_cancel, qU_s, qU_a, qU_k, qn_rem, qL_I, qL_s, lk_505, lk_506, lk_507, lk_508, lk_509, lk_510, lk_511, lk_512, lk_513, lk_514, lk_515, lk_516, lk_517, lk_518, lk_519, ll_505, ll_506, ll_507, ll_508, ll_509, ll_510, ll_511, ll_512, ll_513, ll_514, ll_515, ll_516, ll_517, ll_518, ll_519, h0, c]
      · unfold qClose
        rw [if_pos c]
    · cases hst : V.1.1 with
      | nil => rw [hst, List.length_nil] at c; omega
      | cons x st =>
        obtain ⟨b1, b2⟩ := hok.2.2.1 x (by rw [hst]; exact List.mem_cons_self)
        have hends := lEnds (w := w) (W := W) hG b1 b2
        have hcan : qCan G V.1 = qrEnd G x.1 x.2 := by unfold qCan; rw [hst]
        have h0 := hV.1
        have h10 := hV.2.2.2.2.2.2.2.2.2.1
        have hcc := c
        rw [hst] at h0 h10 c hl9 h1
        simp only [List.length_cons] at h0 c hl9 h1
        have a1 := h10.1
        -- one round
        have key : ∀ put, ∃ J V' f', fL_close_38 (fL_close_0 m) 505 506 507 510 511 517 (qn to) (qb hb) (qn (16 * x.1 + x.2)) (qb put) (qL w I W) = fL_close_0 m 505 506 507 510 511 517 (qn to) (qb hb) (qL w J W) ∧ qLV J p V' f' ∧ qLok G V' ∧ qFrL I J ∧ V'.1.1 = st ∧ (f' = false → f = false ∧ V' = qEnd1 G p put V) := by
          intro put
          unfold fL_close_38
          cases hE : qrEnd G x.1 x.2 with
          | true =>
            rw [hE, qb_t] at hends
            rw [hE] at hcan
            obtain ⟨J, V', f', j1, j2, j3, j4, j5, j6⟩ := lClose_57 (w := w) (W := W) hG hV hok hst to hb put (fL_close_0 m)
            refine ⟨J, V', f', ?_, j2, j3, j4, j5, fun h => ⟨(j6 h).1, ?_⟩⟩
            · rw [← j1]
              simp (disch := omega) only [↓qlet, eq_self, qzg_t, qzb_some, ↓reduceIte, not_or, not_false_eq_true, not_true_eq_false, and_true, true_and, and_self, or_false, false_or, true_or, or_true, and_false, false_and, qlit, qneg, qof, qn_add, qn_mul, qn_s, qn_z, qn_d, qn_dz, qm_1, qt_1, qt_0, qb_0, qb_1, qb_01, qb01b, q01_0, q01_1, qo_s, qo_n, qn_c, qn_le, qn_lt, qn_eq, qn_ne_m, qm_ne_n, qm_lt, qm_le, qn_lt_m, qn_le_m, qn_sub, qn_div, qn_mod, qle_t, qle_f, qlt_t, qlt_f, qeq_t, qeq_f, Nat.add_sub_cancel, qU_s, qU_a, qU_k, qn_rem, qL_I, qL_s, lk_505, lk_506, lk_507, lk_508, lk_509, lk_510, lk_511, lk_512, lk_513, lk_514, lk_515, lk_516, lk_517, lk_518, lk_519, ll_505, ll_506, ll_507, ll_508, ll_509, ll_510, ll_511, ll_512, ll_513, ll_514, ll_515, ll_516, ll_517, ll_518, ll_519, hends]
            · rw [(j6 h).2, qEnd1_57, if_pos hcan]
          | false =>
            rw [hE, qb_f] at hends
            rw [hE] at hcan
            obtain ⟨K, V2, f2, k1, k2, k3, k4, k5, k6, k7, k8⟩ := lFailsK (w := w) (W := W) hV hok 2
            have hst2 : V2.1.1 = x :: st := by rw [k5]; exact hst
            obtain ⟨J, V', f', j1, j2, j3, j4, j5, j6⟩ := lClose_57 (w := w) (W := W) (qFrL_G k4 hG) k2 k3 hst2 to hb put (fL_close_0 m)
            refine ⟨J, V', f', ?_, j2, j3, qFrL_tr k4 j4, j5, fun h => ?_⟩
            · rw [← j1]
              simp (disch := omega) only [↓qlet, eq_self, qzg_t, qzb_some, ↓reduceIte, not_or, not_false_eq_true, not_true_eq_false, and_true, true_and, and_self, or_false, false_or, true_or, or_true, and_false, false_and, qlit, qneg, qof, qn_add, qn_mul, qn_s, qn_z, qn_d, qn_dz, qm_1, qt_1, qt_0, qb_0, qb_1, qb_01, qb01b, q01_0, q01_1, qo_s, qo_n, qn_c, qn_le, qn_lt, qn_eq, qn_ne_m, qm_ne_n, qm_lt, qm_le, qn_lt_m, qn_le_m, qn_sub, qn_div, qn_mod, qle_t, qle_f, qlt_t, qlt_f, qeq_t, qeq_f, Nat.add_sub_cancel, qU_s, qU_a, qU_k, qn_rem, qL_I, qL_s, lk_505, lk_506, lk_507, lk_508, lk_509, lk_510, lk_511, lk_512, lk_513, lk_514, lk_515, lk_516, lk_517, lk_518, lk_519, ll_505, ll_506, ll_507, ll_508, ll_509, ll_510, ll_511, ll_512, ll_513, ll_514, ll_515, ll_516, ll_517, ll_518, ll_519, hends, k1]
            · obtain ⟨q1, q2⟩ := j6 h
              obtain ⟨q3, q4⟩ := k8 q1
              refine ⟨q3, ?_⟩
              rw [q2, qEnd1_57, if_neg (by rw [hcan]; decide), q4]
        have hcl : qClose G p to hb (n + 1) V = qClose G p to hb n (qEnd1 G p (decide (to + 1 < V.1.1.length) || !hb) V) := by
          show (if V.1.1.length ≤ to then V else _) = _
          rw [if_neg hcc]
        obtain ⟨J, V', f', j1, j2, j3, j4, j5, j6⟩ := key (decide (to + 1 < V.1.1.length) || !hb)
        obtain ⟨K, V2, f2, k1, k2, k3, k4, k5⟩ := ih V' f' J m (by rw [j5]; omega) (by omega) (qFrL_G j4 hG) j2 j3
        refine ⟨K, V2, f2, ?_, k2, k3, qFrL_tr j4 k4, fun h => ?_⟩
        · rw [← k1, ← j1]
          unfold fL_close_0 fL_close_33
          rw [hst]
          simp only [List.length_cons]
          by_cases c2 : to + 1 < st.length + 1
          · have c3 : (decide (to + 1 < st.length + 1) || !hb) = true := by simp [c2]
            rw [c3, qb_t]
            simp (disch := omega) only [↓qlet, eq_self, qzg_t, qzb_some, ↓reduceIte, not_or, not_false_eq_true, not_true_eq_false, and_true, true_and, and_self, or_false, false_or, true_or, or_true, and_false, false_and, qlit, qneg, qof, qn_add, qn_mul, qn_s, qn_z, qn_d, qn_dz, qm_1, qt_1, qt_0, qb_0, qb_1, qb_01, qb01b, q01_0, q01_1, qo_s, qo_n, qn_c, qn_le, qn_lt, qn_eq, qn_ne_m, qm_ne_n, qm_lt, qm_le, qn_lt_m, qn_le_m, qn_sub, qn_div, qn_mod, qle_t, qle_f, qlt_t, qlt_f, qeq_t, qeq_f, Nat.add_sub_cancel, qU_s, qU_a, qU_k, qn_rem, qL_I, qL_s, lk_505, lk_506, lk_507, lk_508, lk_509, lk_510, lk_511, lk_512, lk_513, lk_514, lk_515, lk_516, lk_517, lk_518, lk_519, ll_505, ll_506, ll_507, ll_508, ll_509, ll_510, ll_511, ll_512, ll_513, ll_514, ll_515, ll_516, ll_517, ll_518, ll_519, h0, c, a1, c2]
          · cases hb with
            | false =>
              rw [Bool.not_false, Bool.or_true, qb_t, qb_f]
              simp (disch := omega) only [↓qlet, eq_self, qzg_t, qzb_some, ↓reduceIte, not_or, not_false_eq_true, not_true_eq_false, and_true, true_and, and_self, or_false, false_or, true_or, or_true, and_false, false_and, qlit, qneg, qof, qn_add, qn_mul, qn_s, qn_z, qn_d, qn_dz, qm_1, qt_1, qt_0, qb_0, qb_1, qb_01, qb01b, q01_0, q01_1, qo_s, qo_n, qn_c, qn_le, qn_lt, qn_eq, qn_ne_m, qm_ne_n, qm_lt, qm_le, qn_lt_m, qn_le_m, qn_sub, qn_div, qn_mod, qle_t, qle_f, qlt_t, qlt_f, qeq_t, qeq_f, Nat.add_sub_cancel, qU_s, qU_a, qU_k, qn_rem, qL_I, qL_s, lk_505, lk_506, lk_507, lk_508, lk_509, lk_510, lk_511, lk_512, lk_513, lk_514, lk_515, lk_516, lk_517, lk_518, lk_519, ll_505, ll_506, ll_507, ll_508, ll_509, ll_510, ll_511, ll_512, ll_513, ll_514, ll_515, ll_516, ll_517, ll_518, ll_519, h0, c, a1, c2]
            | true =>
              have c3 : (decide (to + 1 < st.length + 1) || !true) = false := by simp [c2]
              rw [c3, qb_t, qb_f]
              simp (disch := omega) only [↓qlet, eq_self, qzg_t, qzb_some, ↓reduceIte, not_or, not_false_eq_true, not_true_eq_false, and_true, true_and, and_self, or_false, false_or, true_or, or_true, and_false, false_and, qlit, qneg, qof, qn_add, qn_mul, qn_s, qn_z, qn_d, qn_dz, qm_1, qt_1, qt_0, qb_0, qb_1, qb_01, qb01b, q01_0, q01_1, qo_s, qo_n, qn_c, qn_le, qn_lt, qn_eq, qn_ne_m, qm_ne_n, qm_lt, qm_le, qn_lt_m, qn_le_m, qn_sub, qn_div, qn_mod, qle_t, qle_f, qlt_t, qlt_f, qeq_t, qeq_f, Nat.add_sub_cancel, qU_s, qU_a, qU_k, qn_rem, qL_I, qL_s, lk_505, lk_506, lk_507, lk_508, lk_509, lk_510, lk_511, lk_512, lk_513, lk_514, lk_515, lk_516, lk_517, lk_518, lk_519, ll_505, ll_506, ll_507, ll_508, ll_509, ll_510, ll_511, ll_512, ll_513, ll_514, ll_515, ll_516, ll_517, ll_518, ll_519, h0, c, a1, c2]
        · obtain ⟨q1, q2⟩ := k5 h
          obtain ⟨q3, q4⟩ := j6 q1
          refine ⟨q3, ?_⟩
          rw [q2, hcl, q4]
theorem lClose (to : Nat) (hb : Bool) (hto : to < 100) (hG : qLG G I) (hV : qLV I p V f) (hok : qLok G V) : ∃ J V' f', fL_close 505 506 507 510 511 517 (qn to) (qb hb) (qL w I W) = some (qn 0, qL w J W) ∧ qLV J p V' f' ∧ qLok G V' ∧ qFrL I J ∧ (f' = false → f = false ∧ V' = qShutTo G p to hb V) := by
  have hl9 := hok.1
  exact lClose_0 (w := w) (W := W) to hb hto V.1.1.length V f I 10000 (Nat.le_refl _) (by omega) hG hV hok
end
