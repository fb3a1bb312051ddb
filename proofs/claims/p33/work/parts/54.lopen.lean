/-! THE LAW: an element is opened -/
section
variable {w : Bool} {I : Nat → Nat → Int32} {W : Nat → Nat → Nat} {G : qG} {V : qV} {f : Bool} {p : Nat}
theorem lOpen_44 (hG : qLG G I) (hV : qLV I p V f) (hok : qLok G V) (h1' : 1 ≤ V.2.2.1.length) {e : Nat} (he : e < 5) (n : Nat) : ∃ J V' f', fL_open_44 506 510 511 (qn e) 510 (qn 17) (qn V.2.2.2.2.1) (qn n) (qL w I W) = some (qn 0, qL w J W) ∧ qLV J p V' f' ∧ qLok G V' ∧ qFrL I J ∧ (f' = false → f = false ∧ V' = (qEnter G V.1 e, if qgN G e = 0 then V.2.1 else (V.2.2.1.length - 1) :: V.2.1, V.2.2.1, V.2.2.2.1, V.2.2.2.2.1 + n, V.2.2.2.2.2)) := by
  obtain ⟨h1, h2, h3, h4, h5, h6, h7, h8, h9, h10, h11, h12, h13⟩ := hV
  obtain ⟨o1, o2, o3, o4, o5, o6, o7, o8⟩ := hok
  obtain ⟨g1, g2, -⟩ := hG e he
  unfold fL_open_44
  by_cases c : qgN G e = 0
  · refine ⟨qU (qU (qU I 510 17 (qn (V.2.2.2.2.1 + n))) 510 1 (qn (e + 1))) 510 2 (qn 1), ((V.1.1, some e), V.2.1, V.2.2.1, V.2.2.2.1, V.2.2.2.2.1 + n, V.2.2.2.2.2), f, ?_, ⟨?_, ?_, ?_, ?_, ?_, ?_, ?_, ?_, ?_, ?_, ?_, ?_, ?_⟩, ⟨o1, o2, o3, fun e9 h => (by cases h; exact he), fun h => (by cases h), o6, o7, o8⟩, ⟨?_, ?_, ?_⟩, fun h => ⟨h, ?_⟩⟩
    · simp (disch := omega) only [↓qlet, eq_self, qzg_t, qzb_some, ↓reduceIte, not_or, not_false_eq_true, not_true_eq_false, and_true, true_and, and_self, or_false, false_or, true_or, or_true, and_false, false_and, qlit, qneg, qof, qn_add, qn_mul, qn_s, qn_z, qn_d, qn_dz, qm_1, qt_1, qt_0, qb_0, qb_1, qb_01, qb01b, q01_0, q01_1, qo_s, qo_n, qn_c, qn_le, qn_lt, qn_eq, qn_ne_m, qm_ne_n, qm_lt, qm_le, qn_lt_m, qn_le_m, qn_sub, qn_div, qn_mod, qle_t, qle_f, qlt_t, qlt_f, qeq_t, qeq_f, Nat.add_sub_cancel, qU_s, qU_a, qU_k, qn_rem, qL_I, qL_s, lk_505, lk_506, lk_507, lk_508, lk_509, lk_510, lk_511, lk_512, lk_513, lk_514, lk_515, lk_516, lk_517, lk_518, lk_519, ll_505, ll_506, ll_507, ll_508, ll_509, ll_510, ll_511, ll_512, ll_513, ll_514, ll_515, ll_516, ll_517, ll_518, ll_519, g1, c, Nat.le_refl]
    all_goals (try (simp (disch := omega) only [qU_s, qU_a, qU_k, qla, qany]; assumption))
    · simp (disch := omega) only [qU_s, qU_a, qU_k, qla]
    · simp (disch := omega) only [qU_s, qU_a, qU_k, qany]
    · simp (disch := omega) only [qU_s, qU_a, qU_k]
    · intro a ha; simp (disch := omega) only [qU_r]
    · intro a ha hb; simp (disch := omega) only [qU_s, qU_a, qU_k]
    · simp (disch := omega) only [qU_s, qU_a, qU_k]
    · unfold qEnter
      rw [if_pos c, if_pos c]
  · have c0 : ¬ qgN G e ≤ 0 := by omega
    by_cases c2 : V.1.1.length ≤ 8
    · have e1 : 20 + V.1.1.length < 40 := by omega
      refine ⟨qU (qU (qU (qU (qU (qU I 510 17 (qn (V.2.2.2.2.1 + n))) 510 1 (qn (e + 1))) 510 2 (qn 1)) 511 V.1.1.length (qn (16 * e))) 511 (20 + V.1.1.length) (qn (V.2.2.1.length - 1))) 510 0 (qn (V.1.1.length + 1)), (((e, 0) :: V.1.1, some e), (V.2.2.1.length - 1) :: V.2.1, V.2.2.1, V.2.2.2.1, V.2.2.2.2.1 + n, V.2.2.2.2.2), f, ?_, ⟨?_, ?_, ?_, ?_, ?_, ?_, ?_, ?_, ?_, ?_, ?_, ?_, ?_⟩, ⟨?_, ?_, ?_, fun e9 h => (by cases h; exact he), fun h => (by cases h), o6, o7, ?_⟩, ⟨?_, ?_, ?_⟩, fun h => ⟨h, ?_⟩⟩
      · simp (disch := omega) only [↓qlet, eq_self, qzg_t, qzb_some, ↓reduceIte, not_or, not_false_eq_true, not_true_eq_false, and_true, true_and, and_self, or_false, false_or, true_or, or_true, and_false, false_and, qlit, qneg, qof, qn_add, qn_mul, qn_s, qn_z, qn_d, qn_dz, qm_1, qt_1, qt_0, qb_0, qb_1, qb_01, qb01b, q01_0, q01_1, qo_s, qo_n, qn_c, qn_le, qn_lt, qn_eq, qn_ne_m, qm_ne_n, qm_lt, qm_le, qn_lt_m, qn_le_m, qn_sub, qn_div, qn_mod, qle_t, qle_f, qlt_t, qlt_f, qeq_t, qeq_f, Nat.add_sub_cancel, qU_s, qU_a, qU_k, qn_rem, qL_I, qL_s, lk_505, lk_506, lk_507, lk_508, lk_509, lk_510, lk_511, lk_512, lk_513, lk_514, lk_515, lk_516, lk_517, lk_518, lk_519, ll_505, ll_506, ll_507, ll_508, ll_509, ll_510, ll_511, ll_512, ll_513, ll_514, ll_515, ll_516, ll_517, ll_518, ll_519, g1, c0, c2, h1, h4]
      all_goals (try (simp (disch := omega) only [qU_s, qU_a, qU_k, qla, qany]; assumption))
      · simp (disch := omega) only [qU_s, qU_a, qU_k, List.length_cons]
      · simp (disch := omega) only [qU_s, qU_a, qU_k, qla]
      · simp (disch := omega) only [qU_s, qU_a, qU_k, qany]
      · simp (disch := omega) only [qU_s, qU_a, qU_k]
      · refine qAll_push h10 (fun j y hj hp => ?_) ?_
        · simp (disch := omega) only [qU_s, qU_a, qU_k]; exact hp
        · simp (disch := omega) only [qU_s, qU_a, qU_k, Nat.add_zero]
      · refine qAll_push h11 (fun j y hj hp => ?_) ?_
        · simp (disch := omega) only [qU_s, qU_a, qU_k]; exact hp
        · rw [o2]; simp (disch := omega) only [qU_s, qU_a, qU_k]
      · show V.1.1.length + 1 ≤ 9; omega
      · show V.2.1.length + 1 = V.1.1.length + 1; omega
      · intro x hx
        rcases List.mem_cons.mp hx with h | h
        · rw [h]; exact ⟨he, by show 0 < 2 * qgN G e; omega⟩
        · exact o3 x h
      · intro x hx
        rcases List.mem_cons.mp hx with h | h
        · omega
        · exact o8 x h
      · intro a ha; simp (disch := omega) only [qU_r]
      · intro a ha hb; simp (disch := omega) only [qU_s, qU_a, qU_k]
      · simp (disch := omega) only [qU_s, qU_a, qU_k]
      · unfold qEnter
        rw [if_neg c, if_neg c]
    · refine ⟨qU (qU (qU (qU I 510 17 (qn (V.2.2.2.2.1 + n))) 510 1 (qn (e + 1))) 510 2 (qn 1)) 510 6 (qn 1), ((V.1.1, some e), V.2.1, V.2.2.1, V.2.2.2.1, V.2.2.2.2.1 + n, V.2.2.2.2.2), true, ?_, ⟨?_, ?_, ?_, ?_, ?_, ?_, ?_, ?_, ?_, ?_, ?_, ?_, ?_⟩, ⟨o1, o2, o3, fun e9 h => (by cases h; exact he), fun h => (by cases h), o6, o7, o8⟩, ⟨?_, ?_, ?_⟩, fun h => (by cases h)⟩
      · simp (disch := omega) only [↓qlet, eq_self, qzg_t, qzb_some, ↓reduceIte, not_or, not_false_eq_true, not_true_eq_false, and_true, true_and, and_self, or_false, false_or, true_or, or_true, and_false, false_and, qlit, qneg, qof, qn_add, qn_mul, qn_s, qn_z, qn_d, qn_dz, qm_1, qt_1, qt_0, qb_0, qb_1, qb_01, qb01b, q01_0, q01_1, qo_s, qo_n, qn_c, qn_le, qn_lt, qn_eq, qn_ne_m, qm_ne_n, qm_lt, qm_le, qn_lt_m, qn_le_m, qn_sub, qn_div, qn_mod, qle_t, qle_f, qlt_t, qlt_f, qeq_t, qeq_f, Nat.add_sub_cancel, qU_s, qU_a, qU_k, qn_rem, qL_I, qL_s, lk_505, lk_506, lk_507, lk_508, lk_509, lk_510, lk_511, lk_512, lk_513, lk_514, lk_515, lk_516, lk_517, lk_518, lk_519, ll_505, ll_506, ll_507, ll_508, ll_509, ll_510, ll_511, ll_512, ll_513, ll_514, ll_515, ll_516, ll_517, ll_518, ll_519, g1, c0, c2, h1]
      all_goals (try (simp (disch := omega) only [qU_s, qU_a, qU_k, qla, qany]; assumption))
      · simp (disch := omega) only [qU_s, qU_a, qU_k, qla]
      · simp (disch := omega) only [qU_s, qU_a, qU_k, qany]
      · simp (disch := omega) only [qU_s, qU_a, qU_k]; rfl
      · simp (disch := omega) only [qU_s, qU_a, qU_k]
      · intro a ha; simp (disch := omega) only [qU_r]
      · intro a ha hb; simp (disch := omega) only [qU_s, qU_a, qU_k]
      · simp (disch := omega) only [qU_s, qU_a, qU_k]
theorem lOpen (hG : qLG G I) (hV : qLV I p V f) (hok : qLok G V) {e : Nat} (he : e < 5) (b : Bool) : ∃ J V' f', fL_open 506 510 511 513 514 515 516 (qn e) (qb b) (qL w I W) = some (qn 0, qL w J W) ∧ qLV J p V' f' ∧ qLok G V' ∧ qFrL I J ∧ (f' = false → f = false ∧ V' = qOpen G e p b V) := by
  obtain ⟨J, V1, f1, j1, j2, j3, j4⟩ := lPut (w := w) (W := W) hV hok.2.1 hok.1 hok.2.2.2.2.2.1 e 60 b
  have hok1 : qLok G V1 ∧ 1 ≤ V1.2.2.1.length := by
    rcases j4 with ⟨q1, q2, q3⟩ | ⟨q1, q2, q3⟩
    · subst q1
      exact ⟨hok, by omega⟩
    · subst q1
      obtain ⟨o1, o2, o3, o4, o5, o6, o7, o8⟩ := hok
      exact ⟨⟨o1, o2, o3, o4, o5, by show V.2.2.1.length + 1 ≤ 60; omega, o7, o8⟩, by show 1 ≤ V.2.2.1.length + 1; omega⟩
  have h17 := j2.2.2.2.2.2.2.2.1
  unfold fL_open fL_open_24
  cases b with
  | false =>
    obtain ⟨K, V2, f2, k1, k2, k3, k4, k5⟩ := lOpen_44 (w := w) (W := W) (qFrL_G j3 hG) j2 hok1.1 hok1.2 he 0
    refine ⟨K, V2, f2, ?_, k2, k3, qFrL_tr j3 k4, fun h => ?_⟩
    · simp only [Bool.false_eq_true, if_false, Nat.mul_zero, Nat.add_zero] at j1
      simp (disch := omega) only [↓qlet, eq_self, qzg_t, qzb_some, ↓reduceIte, not_or, not_false_eq_true, not_true_eq_false, and_true, true_and, and_self, or_false, false_or, true_or, or_true, and_false, false_and, qlit, qneg, qof, qn_add, qn_mul, qn_s, qn_z, qn_d, qn_dz, qm_1, qt_1, qt_0, qb_0, qb_1, qb_01, qb01b, q01_0, q01_1, qo_s, qo_n, qn_c, qn_le, qn_lt, qn_eq, qn_ne_m, qm_ne_n, qm_lt, qm_le, qn_lt_m, qn_le_m, qn_sub, qn_div, qn_mod, qle_t, qle_f, qlt_t, qlt_f, qeq_t, qeq_f, Nat.add_sub_cancel, qU_s, qU_a, qU_k, qn_rem, qL_I, qL_s, lk_505, lk_506, lk_507, lk_508, lk_509, lk_510, lk_511, lk_512, lk_513, lk_514, lk_515, lk_516, lk_517, lk_518, lk_519, ll_505, ll_506, ll_507, ll_508, ll_509, ll_510, ll_511, ll_512, ll_513, ll_514, ll_515, ll_516, ll_517, ll_518, ll_519, qb_f, j1, h17, k1]
    · obtain ⟨q1, q2⟩ := k5 h
      rcases j4 with ⟨q3, q4, q5⟩ | ⟨q3, q4, q5⟩
      · rw [q1] at q4; cases q4
      · subst q3
        refine ⟨q4.symm.trans q1, ?_⟩
        rw [q2]
        unfold qOpen qPut
        simp
  | true =>
    obtain ⟨K, V2, f2, k1, k2, k3, k4, k5⟩ := lOpen_44 (w := w) (W := W) (qFrL_G j3 hG) j2 hok1.1 hok1.2 he 1
    refine ⟨K, V2, f2, ?_, k2, k3, qFrL_tr j3 k4, fun h => ?_⟩
    · simp only [if_true, Nat.mul_one] at j1
      simp (disch := omega) only [↓qlet, eq_self, qzg_t, qzb_some, ↓reduceIte, not_or, not_false_eq_true, not_true_eq_false, and_true, true_and, and_self, or_false, false_or, true_or, or_true, and_false, false_and, qlit, qneg, qof, qn_add, qn_mul, qn_s, qn_z, qn_d, qn_dz, qm_1, qt_1, qt_0, qb_0, qb_1, qb_01, qb01b, q01_0, q01_1, qo_s, qo_n, qn_c, qn_le, qn_lt, qn_eq, qn_ne_m, qm_ne_n, qm_lt, qm_le, qn_lt_m, qn_le_m, qn_sub, qn_div, qn_mod, qle_t, qle_f, qlt_t, qlt_f, qeq_t, qeq_f, Nat.add_sub_cancel, qU_s, qU_a, qU_k, qn_rem, qL_I, qL_s, lk_505, lk_506, lk_507, lk_508, lk_509, lk_510, lk_511, lk_512, lk_513, lk_514, lk_515, lk_516, lk_517, lk_518, lk_519, ll_505, ll_506, ll_507, ll_508, ll_509, ll_510, ll_511, ll_512, ll_513, ll_514, ll_515, ll_516, ll_517, ll_518, ll_519, qb_t, j1, h17, k1]
    · obtain ⟨q1, q2⟩ := k5 h
      rcases j4 with ⟨q3, q4, q5⟩ | ⟨q3, q4, q5⟩
      · rw [q1] at q4; cases q4
      · subst q3
        refine ⟨q4.symm.trans q1, ?_⟩
        rw [q2]
        unfold qOpen qPut
        simp
end
