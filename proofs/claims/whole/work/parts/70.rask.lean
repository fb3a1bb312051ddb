/-! THE REFERENCE: normalize, questions -/
section
variable {I : Nat → Nat → Int32} {A : qA}
theorem rNorm39 {n0 : Nat} (h60 : n0 ≤ 60) : ∀ n x I m, n + x = n0 → n < m → I 1 13 = qn n0 → ∃ J, fX8_normalize_39 m 1 (qn x) (qD I) = fX8_normalize_77 1 (qD J) ∧ (∀ a, a ≠ 13 → a ≠ 14 → J a = I a) ∧ (∀ j, j < x → J 13 j = I 13 j ∧ J 14 j = I 14 j) ∧ ∀ j, x ≤ j → j < n0 → J 13 j = I 40 j ∧ J 14 j = I 41 j := by
  intro n
  induction n with
  | zero =>
    intro x I m h1 h2 h3
    obtain ⟨m, rfl⟩ : ∃ m', m = m' + 1 := ⟨m - 1, by omega⟩
    refine ⟨I, ?_, fun _ _ _ => rfl, fun _ _ => ⟨rfl, rfl⟩, fun j _ _ => by omega⟩
    rw [fX8_normalize_39]
    simp (disch := omega) only [↓qlet, eq_self, qzg_t, qzb_some, ↓reduceIte, not_or, not_false_eq_true, not_true_eq_false, and_true, true_and, and_self, or_false, false_or, true_or, or_true, and_false, false_and, qlit, qneg, qof, qn_add, qn_mul, qn_s, qn_z, qn_d, qn_dz, qm_1, qt_1, qt_0, qb_0, qb_1, qb_01, qb01b, q01_0, q01_1, qo_s, qo_n, qn_c, qn_le, qn_lt, qn_eq, qn_ne_m, qm_ne_n, qm_lt, qm_le, qn_lt_m, qn_le_m, qn_sub, qn_div, qn_mod, qle_t, qle_f, qlt_t, qlt_f, qeq_t, qeq_f, Nat.add_sub_cancel, qD_I, qD_s, qU_s, qU_a, qU_k, qdk_1, qdk_2, qdk_3, qdk_4, qdk_5, qdk_6, qdk_7, qdk_8, qdk_9, qdk_10, qdk_11, qdk_12, qdk_13, qdk_14, qdk_15, qdk_16, qdk_17, qdk_18, qdk_19, qdk_20, qdk_21, qdk_22, qdk_23, qdk_24, qdk_25, qdk_26, qdk_27, qdk_28, qdk_29, qdk_30, qdk_31, qdk_32, qdk_33, qdk_34, qdk_35, qdk_36, qdk_37, qdk_38, qdk_39, qdk_40, qdk_41, qdk_42, qdk_43, qdk_44, qdl_2, qdl_3, qdl_4, qdl_5, qdl_6, qdl_7, qdl_8, qdl_9, qdl_10, qdl_11, qdl_12, qdl_13, qdl_14, qdl_15, qdl_16, qdl_17, qdl_18, qdl_19, qdl_20, qdl_21, qdl_22, qdl_23, qdl_24, qdl_25, qdl_26, qdl_27, qdl_28, qdl_29, qdl_30, qdl_31, qdl_32, qdl_33, qdl_34, qdl_35, qdl_36, qdl_37, qdl_38, qdl_39, qdl_40, qdl_41, qdl_42, qdl_43, qdl_44, qdr_0, qdr_1, qdr_2, qdr_3, qdr_4, qdr_5, qdr_6, qdr_7, qdr_8, qdr_9, qdr_10, qdr_11, qdr_12, qdr_15, qdr_16, qdr_19, qdr_20, qdr_21, qdr_22, qdr_26, qdr_27, qdr_28, qdr_29, qdr_30, qdr_34, qdr_35, qdr_37, qdr_38, qdr_39, qdr_40, qdr_42, qdr_43, qdr_44, qdr_45, qdr_46, qdr_47, qdr_48, qdr_49, qdr_50, qdr_51, qdr_53, qdr_54, qdr_55, h3]
  | succ n ih =>
    intro x I m h1 h2 h3
    obtain ⟨m, rfl⟩ : ∃ m', m = m' + 1 := ⟨m - 1, by omega⟩
    obtain ⟨J, j1, j2, j3, j4⟩ := ih (x + 1) (qU (qU I 13 x (I 40 x)) 14 x (I 41 x)) m (by omega) (by omega) (by simp (disch := omega) only [qU_r]; exact h3)
    refine ⟨J, ?_, fun a h4 h5 => ?_, fun j hj => ?_, fun j h4 h5 => ?_⟩
    · rw [fX8_normalize_39]
      simp (disch := omega) only [↓qlet, eq_self, qzg_t, qzb_some, ↓reduceIte, not_or, not_false_eq_true, not_true_eq_false, and_true, true_and, and_self, or_false, false_or, true_or, or_true, and_false, false_and, qlit, qneg, qof, qn_add, qn_mul, qn_s, qn_z, qn_d, qn_dz, qm_1, qt_1, qt_0, qb_0, qb_1, qb_01, qb01b, q01_0, q01_1, qo_s, qo_n, qn_c, qn_le, qn_lt, qn_eq, qn_ne_m, qm_ne_n, qm_lt, qm_le, qn_lt_m, qn_le_m, qn_sub, qn_div, qn_mod, qle_t, qle_f, qlt_t, qlt_f, qeq_t, qeq_f, Nat.add_sub_cancel, qD_I, qD_s, qU_s, qU_a, qU_k, qdk_1, qdk_2, qdk_3, qdk_4, qdk_5, qdk_6, qdk_7, qdk_8, qdk_9, qdk_10, qdk_11, qdk_12, qdk_13, qdk_14, qdk_15, qdk_16, qdk_17, qdk_18, qdk_19, qdk_20, qdk_21, qdk_22, qdk_23, qdk_24, qdk_25, qdk_26, qdk_27, qdk_28, qdk_29, qdk_30, qdk_31, qdk_32, qdk_33, qdk_34, qdk_35, qdk_36, qdk_37, qdk_38, qdk_39, qdk_40, qdk_41, qdk_42, qdk_43, qdk_44, qdl_2, qdl_3, qdl_4, qdl_5, qdl_6, qdl_7, qdl_8, qdl_9, qdl_10, qdl_11, qdl_12, qdl_13, qdl_14, qdl_15, qdl_16, qdl_17, qdl_18, qdl_19, qdl_20, qdl_21, qdl_22, qdl_23, qdl_24, qdl_25, qdl_26, qdl_27, qdl_28, qdl_29, qdl_30, qdl_31, qdl_32, qdl_33, qdl_34, qdl_35, qdl_36, qdl_37, qdl_38, qdl_39, qdl_40, qdl_41, qdl_42, qdl_43, qdl_44, qdr_0, qdr_1, qdr_2, qdr_3, qdr_4, qdr_5, qdr_6, qdr_7, qdr_8, qdr_9, qdr_10, qdr_11, qdr_12, qdr_15, qdr_16, qdr_19, qdr_20, qdr_21, qdr_22, qdr_26, qdr_27, qdr_28, qdr_29, qdr_30, qdr_34, qdr_35, qdr_37, qdr_38, qdr_39, qdr_40, qdr_42, qdr_43, qdr_44, qdr_45, qdr_46, qdr_47, qdr_48, qdr_49, qdr_50, qdr_51, qdr_53, qdr_54, qdr_55, h3]
      exact j1
    · rw [j2 a h4 h5]; simp (disch := omega) only [qU_r]
    · obtain ⟨e1, e2⟩ := j3 j (by omega)
      rw [e1, e2]
      exact ⟨by simp (disch := omega) only [qU_s, qU_a, qU_k], by simp (disch := omega) only [qU_s, qU_a, qU_k]⟩
    · by_cases c : j = x
      · subst c
        obtain ⟨e1, e2⟩ := j3 j (by omega)
        rw [e1, e2]
        exact ⟨by simp (disch := omega) only [qU_s, qU_a, qU_k], by simp (disch := omega) only [qU_s, qU_a, qU_k]⟩
      · obtain ⟨e1, e2⟩ := j4 j (by omega) h5
        rw [e1, e2]
        exact ⟨by simp (disch := omega) only [qU_r], by simp (disch := omega) only [qU_r]⟩
theorem qFormA (h : qAok A) : (qForm A.1 (qFA A).1.2.2.1).length ≤ 600 ∧ ∀ k ∈ qForm A.1 (qFA A).1.2.2.1, qKok k := by
  obtain ⟨hg, hE, hn, hk⟩ := h
  obtain ⟨f1, f2, f3, f4, f5⟩ := qFull_ok (G := A.1) hE hk (by omega)
  have hlt := qFull_lt (G := A.1) hE hk (by omega)
  refine ⟨?_, qForm_ok A.1 (qFA A).1.2.2.1 fun t ht => ⟨(f1.2.2.2.2.1 t ht).1, hlt t ht⟩⟩
  unfold qForm
  rw [List.length_reverse]
  have h1 := qEnds_len none (qW A.1 (qFA A).1.2.2.1) (qF A.1 (qFA A).1.2.2.1)
  have h2 := qF_len A.1 (qFA A).1.2.2.1
  have h3 := f1.2.2.1
  have h4 : (qFA A).1.2.2.1.length ≤ 300 := h3
  omega
theorem rNormalize (hA : qRA I A) : ∃ J, fX8_normalize 1 (qD I) = some ((qoNormalize A).2.1, qD J) ∧ qRA J (qoNormalize A).2.2 ∧ J 1 56 = qn (if (qoNormalize A).1 = 0 then 0 else 1) := by
  have hA0 := hA
  obtain ⟨J0, f1, f2, f3, f4⟩ := rForms hA
  obtain ⟨h600, hk2⟩ := qFormA hA.1
  obtain ⟨⟨hg, hEk, hn, hk⟩, hG, hE, hT, hV, hX, h14, h18⟩ := f4
  have h52 := f2.1
  unfold fX8_normalize qoNormalize
  rw [qzg_i (qdk_1 _), f1, qzb_some, qzg_i (qdk_1 _), qD_I, h52]
  by_cases c : (qForm A.1 (qFA A).1.2.2.1).length ≤ 60
  · rw [if_pos c, if_neg (show ¬ 60 < qn (qForm A.1 (qFA A).1.2.2.1).length from fun h => by have h : qn 60 < qn (qForm A.1 (qFA A).1.2.2.1).length := h; rw [qn_lt (by omega) (by omega)] at h; omega)]
    have hgo : fX8_goes 1 1 1 1 (qD J0) = some (qb true, qD (qU J0 1 56 (qn 0))) := rGoes1 (I := J0) true
    obtain ⟨J1, hJ1⟩ : ∃ J1, J1 = qU (qU J0 1 56 (qn 0)) 1 13 (qn (qForm A.1 (qFA A).1.2.2.1).length) := ⟨_, rfl⟩
    obtain ⟨J2, j1, j2, j3, j4⟩ := rNorm39 c (qForm A.1 (qFA A).1.2.2.1).length 0 J1 10000 (by omega) (by omega) (by rw [hJ1, qU_s])
    have hf : ∀ a, a ≠ 1 → a ≠ 13 → a ≠ 14 → J2 a = J0 a := fun a h1 h2 h3 => by rw [j2 a h2 h3, hJ1, qU_r h1, qU_r h1]
    obtain ⟨K, k1, k2, k3, -⟩ := rChange (A' := (A.1, A.2.1, A.2.2.1, qForm A.1 (qFA A).1.2.2.1, 0)) ⟨hg, hEk, c, hk2⟩ (qRG_fr hG fun a h1 h2 => hf a (by omega) (by omega) (by omega)) (qREn_fr hE fun a h1 h2 => hf a (by omega) (by omega) (by omega)) ⟨by rw [j2 1 (by omega) (by omega), hJ1, qU_s], fun i k hi => by
      have hil := (List.getElem?_eq_some_iff.mp hi).1
      obtain ⟨e1, e2⟩ := j4 i (by omega) hil
      rw [e1, e2, hJ1, qU_r (by omega), qU_r (by omega), qU_r (by omega), qU_r (by omega)]
      exact f2.2 i k hi⟩
    have k13 : K 1 13 = qn (qForm A.1 (qFA A).1.2.2.1).length := k2.2.2.2.1.1
    refine ⟨K, ?_, k2, ?_⟩
    · have h77 : fX8_normalize_77 1 (qD J2) = some (qn (qForm A.1 (qFA A).1.2.2.1).length, qD K) := by
        unfold fX8_normalize_77
        simp (disch := omega) only [↓qlet, eq_self, qzg_t, qzb_some, ↓reduceIte, not_or, not_false_eq_true, not_true_eq_false, and_true, true_and, and_self, or_false, false_or, true_or, or_true, and_false, false_and, qlit, qneg, qof, qn_add, qn_mul, qn_s, qn_z, qn_d, qn_dz, qm_1, qt_1, qt_0, qb_0, qb_1, qb_01, qb01b, q01_0, q01_1, qo_s, qo_n, qn_c, qn_le, qn_lt, qn_eq, qn_ne_m, qm_ne_n, qm_lt, qm_le, qn_lt_m, qn_le_m, qn_sub, qn_div, qn_mod, qle_t, qle_f, qlt_t, qlt_f, qeq_t, qeq_f, Nat.add_sub_cancel, qD_I, qD_s, qU_s, qU_a, qU_k, qdk_1, qdk_2, qdk_3, qdk_4, qdk_5, qdk_6, qdk_7, qdk_8, qdk_9, qdk_10, qdk_11, qdk_12, qdk_13, qdk_14, qdk_15, qdk_16, qdk_17, qdk_18, qdk_19, qdk_20, qdk_21, qdk_22, qdk_23, qdk_24, qdk_25, qdk_26, qdk_27, qdk_28, qdk_29, qdk_30, qdk_31, qdk_32, qdk_33, qdk_34, qdk_35, qdk_36, qdk_37, qdk_38, qdk_39, qdk_40, qdk_41, qdk_42, qdk_43, qdk_44, qdl_2, qdl_3, qdl_4, qdl_5, qdl_6, qdl_7, qdl_8, qdl_9, qdl_10, qdl_11, qdl_12, qdl_13, qdl_14, qdl_15, qdl_16, qdl_17, qdl_18, qdl_19, qdl_20, qdl_21, qdl_22, qdl_23, qdl_24, qdl_25, qdl_26, qdl_27, qdl_28, qdl_29, qdl_30, qdl_31, qdl_32, qdl_33, qdl_34, qdl_35, qdl_36, qdl_37, qdl_38, qdl_39, qdl_40, qdl_41, qdl_42, qdl_43, qdl_44, qdr_0, qdr_1, qdr_2, qdr_3, qdr_4, qdr_5, qdr_6, qdr_7, qdr_8, qdr_9, qdr_10, qdr_11, qdr_12, qdr_15, qdr_16, qdr_19, qdr_20, qdr_21, qdr_22, qdr_26, qdr_27, qdr_28, qdr_29, qdr_30, qdr_34, qdr_35, qdr_37, qdr_38, qdr_39, qdr_40, qdr_42, qdr_43, qdr_44, qdr_45, qdr_46, qdr_47, qdr_48, qdr_49, qdr_50, qdr_51, qdr_53, qdr_54, qdr_55, k1, k13]
      have h52' : qU J0 1 56 (qn 0) 1 52 = qn (qForm A.1 (qFA A).1.2.2.1).length := by rw [qU_k (by omega)]; exact h52
      have j1 : fX8_normalize_39 10000 1 0 (qD J1) = fX8_normalize_77 1 (qD J2) := j1
      unfold fX8_normalize_19
      rw [qzg_i (qdk_1 _), hgo, qzb_some, if_neg (show ¬ qb true = 0 by decide), qzg_i (qdk_1 _), qlet, qD_I, h52', qD_s, ← hJ1, j1, h77]
    · rw [k3, j2 1 (by omega) (by omega), hJ1, qU_k (by omega), qU_s]
      rfl
  · rw [if_neg c, if_pos (show 60 < qn (qForm A.1 (qFA A).1.2.2.1).length from by show qn 60 < qn _; rw [qn_lt (by omega) (by omega)]; omega)]
    have hgo : fX8_goes 1 0 1 1 (qD J0) = some (qb false, qD (qU J0 1 56 (qn 1))) := rGoes1 (I := J0) false
    refine ⟨qU J0 1 56 (qn 1), ?_, qRA_56 ⟨⟨hg, hEk, hn, hk⟩, hG, hE, hT, hV, hX, h14, h18⟩ _, ?_⟩
    · unfold fX8_normalize_19
      rw [qzg_i (qdk_1 _), hgo, qzb_some, if_pos (show qb false = 0 from rfl)]
      rfl
    · rw [qU_s]; rfl
/-- an answer that changes nothing -/
def qRQ (A : qA) (r : Nat × Int32) (o : Option (Int32 × zM)) : Prop := ∃ J, o = some (r.2, qD J) ∧ qRA J A ∧ J 1 56 = qn r.1
theorem qRQ_of (hA : qRA I A) (t : Nat) (v : Int32) : qRQ A (t, v) (some (v, qD (qU I 1 56 (qn t)))) := ⟨_, rfl, qRA_56 hA _, qU_s ..⟩
theorem rLength (hA : qRA I A) : qRQ A (0, qn A.2.2.2.1.length) (fX8_length 1 (qD I)) := by
  have hc := hA.2.2.2.1.1
  have e : fX8_length 1 (qD I) = some (qn A.2.2.2.1.length, qD (qU I 1 56 (qn 0))) := by
    unfold fX8_length
    simp (disch := omega) only [↓qlet, eq_self, qzg_t, qzb_some, ↓reduceIte, not_or, not_false_eq_true, not_true_eq_false, and_true, true_and, and_self, or_false, false_or, true_or, or_true, and_false, false_and, qlit, qneg, qof, qn_add, qn_mul, qn_s, qn_z, qn_d, qn_dz, qm_1, qt_1, qt_0, qb_0, qb_1, qb_01, qb01b, q01_0, q01_1, qo_s, qo_n, qn_c, qn_le, qn_lt, qn_eq, qn_ne_m, qm_ne_n, qm_lt, qm_le, qn_lt_m, qn_le_m, qn_sub, qn_div, qn_mod, qle_t, qle_f, qlt_t, qlt_f, qeq_t, qeq_f, Nat.add_sub_cancel, qD_I, qD_s, qU_s, qU_a, qU_k, qdk_1, qdk_2, qdk_3, qdk_4, qdk_5, qdk_6, qdk_7, qdk_8, qdk_9, qdk_10, qdk_11, qdk_12, qdk_13, qdk_14, qdk_15, qdk_16, qdk_17, qdk_18, qdk_19, qdk_20, qdk_21, qdk_22, qdk_23, qdk_24, qdk_25, qdk_26, qdk_27, qdk_28, qdk_29, qdk_30, qdk_31, qdk_32, qdk_33, qdk_34, qdk_35, qdk_36, qdk_37, qdk_38, qdk_39, qdk_40, qdk_41, qdk_42, qdk_43, qdk_44, qdl_2, qdl_3, qdl_4, qdl_5, qdl_6, qdl_7, qdl_8, qdl_9, qdl_10, qdl_11, qdl_12, qdl_13, qdl_14, qdl_15, qdl_16, qdl_17, qdl_18, qdl_19, qdl_20, qdl_21, qdl_22, qdl_23, qdl_24, qdl_25, qdl_26, qdl_27, qdl_28, qdl_29, qdl_30, qdl_31, qdl_32, qdl_33, qdl_34, qdl_35, qdl_36, qdl_37, qdl_38, qdl_39, qdl_40, qdl_41, qdl_42, qdl_43, qdl_44, qdr_0, qdr_1, qdr_2, qdr_3, qdr_4, qdr_5, qdr_6, qdr_7, qdr_8, qdr_9, qdr_10, qdr_11, qdr_12, qdr_15, qdr_16, qdr_19, qdr_20, qdr_21, qdr_22, qdr_26, qdr_27, qdr_28, qdr_29, qdr_30, qdr_34, qdr_35, qdr_37, qdr_38, qdr_39, qdr_40, qdr_42, qdr_43, qdr_44, qdr_45, qdr_46, qdr_47, qdr_48, qdr_49, qdr_50, qdr_51, qdr_53, qdr_54, qdr_55, hc]
  rw [e]
  exact qRQ_of hA 0 _
theorem rAnew (hA : qRA I A) : qRQ A (0, qn A.2.2.2.2) (fX8_anew 1 (qD I)) := by
  have hc := hA.2.2.2.2.2.2.1
  have e : fX8_anew 1 (qD I) = some (qn A.2.2.2.2, qD (qU I 1 56 (qn 0))) := by
    unfold fX8_anew
    simp (disch := omega) only [↓qlet, eq_self, qzg_t, qzb_some, ↓reduceIte, not_or, not_false_eq_true, not_true_eq_false, and_true, true_and, and_self, or_false, false_or, true_or, or_true, and_false, false_and, qlit, qneg, qof, qn_add, qn_mul, qn_s, qn_z, qn_d, qn_dz, qm_1, qt_1, qt_0, qb_0, qb_1, qb_01, qb01b, q01_0, q01_1, qo_s, qo_n, qn_c, qn_le, qn_lt, qn_eq, qn_ne_m, qm_ne_n, qm_lt, qm_le, qn_lt_m, qn_le_m, qn_sub, qn_div, qn_mod, qle_t, qle_f, qlt_t, qlt_f, qeq_t, qeq_f, Nat.add_sub_cancel, qD_I, qD_s, qU_s, qU_a, qU_k, qdk_1, qdk_2, qdk_3, qdk_4, qdk_5, qdk_6, qdk_7, qdk_8, qdk_9, qdk_10, qdk_11, qdk_12, qdk_13, qdk_14, qdk_15, qdk_16, qdk_17, qdk_18, qdk_19, qdk_20, qdk_21, qdk_22, qdk_23, qdk_24, qdk_25, qdk_26, qdk_27, qdk_28, qdk_29, qdk_30, qdk_31, qdk_32, qdk_33, qdk_34, qdk_35, qdk_36, qdk_37, qdk_38, qdk_39, qdk_40, qdk_41, qdk_42, qdk_43, qdk_44, qdl_2, qdl_3, qdl_4, qdl_5, qdl_6, qdl_7, qdl_8, qdl_9, qdl_10, qdl_11, qdl_12, qdl_13, qdl_14, qdl_15, qdl_16, qdl_17, qdl_18, qdl_19, qdl_20, qdl_21, qdl_22, qdl_23, qdl_24, qdl_25, qdl_26, qdl_27, qdl_28, qdl_29, qdl_30, qdl_31, qdl_32, qdl_33, qdl_34, qdl_35, qdl_36, qdl_37, qdl_38, qdl_39, qdl_40, qdl_41, qdl_42, qdl_43, qdl_44, qdr_0, qdr_1, qdr_2, qdr_3, qdr_4, qdr_5, qdr_6, qdr_7, qdr_8, qdr_9, qdr_10, qdr_11, qdr_12, qdr_15, qdr_16, qdr_19, qdr_20, qdr_21, qdr_22, qdr_26, qdr_27, qdr_28, qdr_29, qdr_30, qdr_34, qdr_35, qdr_37, qdr_38, qdr_39, qdr_40, qdr_42, qdr_43, qdr_44, qdr_45, qdr_46, qdr_47, qdr_48, qdr_49, qdr_50, qdr_51, qdr_53, qdr_54, qdr_55, hc]
  rw [e]
  exact qRQ_of hA 0 _
theorem rThings (hA : qRA I A) : qRQ A (0, qn (qFA A).1.2.2.1.length) (fX8_things 1 (qD I)) := by
  have hc := hA.2.2.2.2.1.1
  have e : fX8_things 1 (qD I) = some (qn (qFA A).1.2.2.1.length, qD (qU I 1 56 (qn 0))) := by
    unfold fX8_things
    simp (disch := omega) only [↓qlet, eq_self, qzg_t, qzb_some, ↓reduceIte, not_or, not_false_eq_true, not_true_eq_false, and_true, true_and, and_self, or_false, false_or, true_or, or_true, and_false, false_and, qlit, qneg, qof, qn_add, qn_mul, qn_s, qn_z, qn_d, qn_dz, qm_1, qt_1, qt_0, qb_0, qb_1, qb_01, qb01b, q01_0, q01_1, qo_s, qo_n, qn_c, qn_le, qn_lt, qn_eq, qn_ne_m, qm_ne_n, qm_lt, qm_le, qn_lt_m, qn_le_m, qn_sub, qn_div, qn_mod, qle_t, qle_f, qlt_t, qlt_f, qeq_t, qeq_f, Nat.add_sub_cancel, qD_I, qD_s, qU_s, qU_a, qU_k, qdk_1, qdk_2, qdk_3, qdk_4, qdk_5, qdk_6, qdk_7, qdk_8, qdk_9, qdk_10, qdk_11, qdk_12, qdk_13, qdk_14, qdk_15, qdk_16, qdk_17, qdk_18, qdk_19, qdk_20, qdk_21, qdk_22, qdk_23, qdk_24, qdk_25, qdk_26, qdk_27, qdk_28, qdk_29, qdk_30, qdk_31, qdk_32, qdk_33, qdk_34, qdk_35, qdk_36, qdk_37, qdk_38, qdk_39, qdk_40, qdk_41, qdk_42, qdk_43, qdk_44, qdl_2, qdl_3, qdl_4, qdl_5, qdl_6, qdl_7, qdl_8, qdl_9, qdl_10, qdl_11, qdl_12, qdl_13, qdl_14, qdl_15, qdl_16, qdl_17, qdl_18, qdl_19, qdl_20, qdl_21, qdl_22, qdl_23, qdl_24, qdl_25, qdl_26, qdl_27, qdl_28, qdl_29, qdl_30, qdl_31, qdl_32, qdl_33, qdl_34, qdl_35, qdl_36, qdl_37, qdl_38, qdl_39, qdl_40, qdl_41, qdl_42, qdl_43, qdl_44, qdr_0, qdr_1, qdr_2, qdr_3, qdr_4, qdr_5, qdr_6, qdr_7, qdr_8, qdr_9, qdr_10, qdr_11, qdr_12, qdr_15, qdr_16, qdr_19, qdr_20, qdr_21, qdr_22, qdr_26, qdr_27, qdr_28, qdr_29, qdr_30, qdr_34, qdr_35, qdr_37, qdr_38, qdr_39, qdr_40, qdr_42, qdr_43, qdr_44, qdr_45, qdr_46, qdr_47, qdr_48, qdr_49, qdr_50, qdr_51, qdr_53, qdr_54, qdr_55, hc]
  rw [e]
  exact qRQ_of hA 0 _
theorem rEndsPut (hA : qRA I A) : qRQ A (0, qn (qFA A).1.2.2.2.1) (fX8_endsPutIn 1 (qD I)) := by
  have hc := hA.2.2.2.2.1.2.2.1
  have e : fX8_endsPutIn 1 (qD I) = some (qn (qFA A).1.2.2.2.1, qD (qU I 1 56 (qn 0))) := by
    unfold fX8_endsPutIn
    simp (disch := omega) only [↓qlet, eq_self, qzg_t, qzb_some, ↓reduceIte, not_or, not_false_eq_true, not_true_eq_false, and_true, true_and, and_self, or_false, false_or, true_or, or_true, and_false, false_and, qlit, qneg, qof, qn_add, qn_mul, qn_s, qn_z, qn_d, qn_dz, qm_1, qt_1, qt_0, qb_0, qb_1, qb_01, qb01b, q01_0, q01_1, qo_s, qo_n, qn_c, qn_le, qn_lt, qn_eq, qn_ne_m, qm_ne_n, qm_lt, qm_le, qn_lt_m, qn_le_m, qn_sub, qn_div, qn_mod, qle_t, qle_f, qlt_t, qlt_f, qeq_t, qeq_f, Nat.add_sub_cancel, qD_I, qD_s, qU_s, qU_a, qU_k, qdk_1, qdk_2, qdk_3, qdk_4, qdk_5, qdk_6, qdk_7, qdk_8, qdk_9, qdk_10, qdk_11, qdk_12, qdk_13, qdk_14, qdk_15, qdk_16, qdk_17, qdk_18, qdk_19, qdk_20, qdk_21, qdk_22, qdk_23, qdk_24, qdk_25, qdk_26, qdk_27, qdk_28, qdk_29, qdk_30, qdk_31, qdk_32, qdk_33, qdk_34, qdk_35, qdk_36, qdk_37, qdk_38, qdk_39, qdk_40, qdk_41, qdk_42, qdk_43, qdk_44, qdl_2, qdl_3, qdl_4, qdl_5, qdl_6, qdl_7, qdl_8, qdl_9, qdl_10, qdl_11, qdl_12, qdl_13, qdl_14, qdl_15, qdl_16, qdl_17, qdl_18, qdl_19, qdl_20, qdl_21, qdl_22, qdl_23, qdl_24, qdl_25, qdl_26, qdl_27, qdl_28, qdl_29, qdl_30, qdl_31, qdl_32, qdl_33, qdl_34, qdl_35, qdl_36, qdl_37, qdl_38, qdl_39, qdl_40, qdl_41, qdl_42, qdl_43, qdl_44, qdr_0, qdr_1, qdr_2, qdr_3, qdr_4, qdr_5, qdr_6, qdr_7, qdr_8, qdr_9, qdr_10, qdr_11, qdr_12, qdr_15, qdr_16, qdr_19, qdr_20, qdr_21, qdr_22, qdr_26, qdr_27, qdr_28, qdr_29, qdr_30, qdr_34, qdr_35, qdr_37, qdr_38, qdr_39, qdr_40, qdr_42, qdr_43, qdr_44, qdr_45, qdr_46, qdr_47, qdr_48, qdr_49, qdr_50, qdr_51, qdr_53, qdr_54, qdr_55, hc]
  rw [e]
  exact qRQ_of hA 0 _
theorem rErrors (hA : qRA I A) : qRQ A (0, qn (qFA A).1.2.2.2.2.2.length) (fX8_errors 1 (qD I)) := by
  have hc := hA.2.2.2.2.1.2.2.2.1
  have e : fX8_errors 1 (qD I) = some (qn (qFA A).1.2.2.2.2.2.length, qD (qU I 1 56 (qn 0))) := by
    unfold fX8_errors
    simp (disch := omega) only [↓qlet, eq_self, qzg_t, qzb_some, ↓reduceIte, not_or, not_false_eq_true, not_true_eq_false, and_true, true_and, and_self, or_false, false_or, true_or, or_true, and_false, false_and, qlit, qneg, qof, qn_add, qn_mul, qn_s, qn_z, qn_d, qn_dz, qm_1, qt_1, qt_0, qb_0, qb_1, qb_01, qb01b, q01_0, q01_1, qo_s, qo_n, qn_c, qn_le, qn_lt, qn_eq, qn_ne_m, qm_ne_n, qm_lt, qm_le, qn_lt_m, qn_le_m, qn_sub, qn_div, qn_mod, qle_t, qle_f, qlt_t, qlt_f, qeq_t, qeq_f, Nat.add_sub_cancel, qD_I, qD_s, qU_s, qU_a, qU_k, qdk_1, qdk_2, qdk_3, qdk_4, qdk_5, qdk_6, qdk_7, qdk_8, qdk_9, qdk_10, qdk_11, qdk_12, qdk_13, qdk_14, qdk_15, qdk_16, qdk_17, qdk_18, qdk_19, qdk_20, qdk_21, qdk_22, qdk_23, qdk_24, qdk_25, qdk_26, qdk_27, qdk_28, qdk_29, qdk_30, qdk_31, qdk_32, qdk_33, qdk_34, qdk_35, qdk_36, qdk_37, qdk_38, qdk_39, qdk_40, qdk_41, qdk_42, qdk_43, qdk_44, qdl_2, qdl_3, qdl_4, qdl_5, qdl_6, qdl_7, qdl_8, qdl_9, qdl_10, qdl_11, qdl_12, qdl_13, qdl_14, qdl_15, qdl_16, qdl_17, qdl_18, qdl_19, qdl_20, qdl_21, qdl_22, qdl_23, qdl_24, qdl_25, qdl_26, qdl_27, qdl_28, qdl_29, qdl_30, qdl_31, qdl_32, qdl_33, qdl_34, qdl_35, qdl_36, qdl_37, qdl_38, qdl_39, qdl_40, qdl_41, qdl_42, qdl_43, qdl_44, qdr_0, qdr_1, qdr_2, qdr_3, qdr_4, qdr_5, qdr_6, qdr_7, qdr_8, qdr_9, qdr_10, qdr_11, qdr_12, qdr_15, qdr_16, qdr_19, qdr_20, qdr_21, qdr_22, qdr_26, qdr_27, qdr_28, qdr_29, qdr_30, qdr_34, qdr_35, qdr_37, qdr_38, qdr_39, qdr_40, qdr_42, qdr_43, qdr_44, qdr_45, qdr_46, qdr_47, qdr_48, qdr_49, qdr_50, qdr_51, qdr_53, qdr_54, qdr_55, hc]
  rw [e]
  exact qRQ_of hA 0 _
theorem rNormal (hA : qRA I A) : qRQ A (0, qn (qForm A.1 (qFA A).1.2.2.1).length) (fX8_normal 1 (qD I)) := by
  obtain ⟨J0, f1, f2, f3, f4⟩ := rForms (qRA_56 hA (qn 0))
  have hc := f2.1
  refine ⟨J0, ?_, f4, by rw [f3.2 56 (by omega), qU_s]⟩
  unfold fX8_normal
  simp (disch := omega) only [↓qlet, eq_self, qzg_t, qzb_some, ↓reduceIte, not_or, not_false_eq_true, not_true_eq_false, and_true, true_and, and_self, or_false, false_or, true_or, or_true, and_false, false_and, qlit, qneg, qof, qn_add, qn_mul, qn_s, qn_z, qn_d, qn_dz, qm_1, qt_1, qt_0, qb_0, qb_1, qb_01, qb01b, q01_0, q01_1, qo_s, qo_n, qn_c, qn_le, qn_lt, qn_eq, qn_ne_m, qm_ne_n, qm_lt, qm_le, qn_lt_m, qn_le_m, qn_sub, qn_div, qn_mod, qle_t, qle_f, qlt_t, qlt_f, qeq_t, qeq_f, Nat.add_sub_cancel, qD_I, qD_s, qU_s, qU_a, qU_k, qdk_1, qdk_2, qdk_3, qdk_4, qdk_5, qdk_6, qdk_7, qdk_8, qdk_9, qdk_10, qdk_11, qdk_12, qdk_13, qdk_14, qdk_15, qdk_16, qdk_17, qdk_18, qdk_19, qdk_20, qdk_21, qdk_22, qdk_23, qdk_24, qdk_25, qdk_26, qdk_27, qdk_28, qdk_29, qdk_30, qdk_31, qdk_32, qdk_33, qdk_34, qdk_35, qdk_36, qdk_37, qdk_38, qdk_39, qdk_40, qdk_41, qdk_42, qdk_43, qdk_44, qdl_2, qdl_3, qdl_4, qdl_5, qdl_6, qdl_7, qdl_8, qdl_9, qdl_10, qdl_11, qdl_12, qdl_13, qdl_14, qdl_15, qdl_16, qdl_17, qdl_18, qdl_19, qdl_20, qdl_21, qdl_22, qdl_23, qdl_24, qdl_25, qdl_26, qdl_27, qdl_28, qdl_29, qdl_30, qdl_31, qdl_32, qdl_33, qdl_34, qdl_35, qdl_36, qdl_37, qdl_38, qdl_39, qdl_40, qdl_41, qdl_42, qdl_43, qdl_44, qdr_0, qdr_1, qdr_2, qdr_3, qdr_4, qdr_5, qdr_6, qdr_7, qdr_8, qdr_9, qdr_10, qdr_11, qdr_12, qdr_15, qdr_16, qdr_19, qdr_20, qdr_21, qdr_22, qdr_26, qdr_27, qdr_28, qdr_29, qdr_30, qdr_34, qdr_35, qdr_37, qdr_38, qdr_39, qdr_40, qdr_42, qdr_43, qdr_44, qdr_45, qdr_46, qdr_47, qdr_48, qdr_49, qdr_50, qdr_51, qdr_53, qdr_54, qdr_55, f1, hc]
theorem rOpenQ (hA : qRA I A) (x : Int32) : qRQ A (qaOpen A x) (fX8_open 1 x (qD I)) := by
  obtain ⟨hX1, hX2, -⟩ := qAok_X hA.1
  have hn := hA.1.2.2.1
  have h13 := hA.2.2.2.1.1
  have hX := hA.2.2.2.2.2.1
  have h1 := rIn (hi := A.2.2.2.1.length) (by omega) x (qD I)
  have h1 : fX8_in x 0 (qn A.2.2.2.1.length) (qD I) = _ := h1
  unfold fX8_open qaOpen qoAsk
  rw [qzg_i (qdk_1 _), qD_I, h13, h1, qzb_some, qzg_i (qdk_1 _), rGoes1, qzb_some]
  cases hx : qin x (A.2.2.2.1.length + 1) with
  | none =>
    rw [if_pos (show qb (none : Option Nat).isSome = 0 from rfl)]
    exact qRQ_of hA 1 _
  | some j =>
    obtain ⟨hj, rfl⟩ := qin_s (by omega) hx
    rw [if_neg (show ¬ qb (some j).isSome = 0 from (by decide : ¬ qb true = 0))]
    obtain ⟨a1, a2, a3, a4⟩ := qAll_rev hX (qAt_g (X := (qFA A).2) (j := j) (by omega)).1
    have e : (zg (zk (qD (qU I 1 56 (qn (qtag (some j).isSome true true)))) 1 = 8) (zg (zk (qD (qU I 1 56 (qn (qtag (some j).isSome true true)))) (zR (qD (qU I 1 56 (qn (qtag (some j).isSome true true)))) 1 42) = 100) (zg (¬ (qn j < 0 ∨ zl (qD (qU I 1 56 (qn (qtag (some j).isSome true true)))) (zR (qD (qU I 1 56 (qn (qtag (some j).isSome true true)))) 1 42) ≤ (qn j).toNatClampNeg)) (some ((zI (qD (qU I 1 56 (qn (qtag (some j).isSome true true)))) (zR (qD (qU I 1 56 (qn (qtag (some j).isSome true true)))) 1 42) (qn j).toNatClampNeg), (qD (qU I 1 56 (qn (qtag (some j).isSome true true)))))))) ) = some (qn (qAt (qFA A).2 j).1.1.length, qD (qU I 1 56 (qn 0))) := by
      simp (disch := omega) only [↓qlet, eq_self, qzg_t, qzb_some, ↓reduceIte, not_or, not_false_eq_true, not_true_eq_false, and_true, true_and, and_self, or_false, false_or, true_or, or_true, and_false, false_and, qlit, qneg, qof, qn_add, qn_mul, qn_s, qn_z, qn_d, qn_dz, qm_1, qt_1, qt_0, qb_0, qb_1, qb_01, qb01b, q01_0, q01_1, qo_s, qo_n, qn_c, qn_le, qn_lt, qn_eq, qn_ne_m, qm_ne_n, qm_lt, qm_le, qn_lt_m, qn_le_m, qn_sub, qn_div, qn_mod, qle_t, qle_f, qlt_t, qlt_f, qeq_t, qeq_f, Nat.add_sub_cancel, qD_I, qD_s, qU_s, qU_a, qU_k, qdk_1, qdk_2, qdk_3, qdk_4, qdk_5, qdk_6, qdk_7, qdk_8, qdk_9, qdk_10, qdk_11, qdk_12, qdk_13, qdk_14, qdk_15, qdk_16, qdk_17, qdk_18, qdk_19, qdk_20, qdk_21, qdk_22, qdk_23, qdk_24, qdk_25, qdk_26, qdk_27, qdk_28, qdk_29, qdk_30, qdk_31, qdk_32, qdk_33, qdk_34, qdk_35, qdk_36, qdk_37, qdk_38, qdk_39, qdk_40, qdk_41, qdk_42, qdk_43, qdk_44, qdl_2, qdl_3, qdl_4, qdl_5, qdl_6, qdl_7, qdl_8, qdl_9, qdl_10, qdl_11, qdl_12, qdl_13, qdl_14, qdl_15, qdl_16, qdl_17, qdl_18, qdl_19, qdl_20, qdl_21, qdl_22, qdl_23, qdl_24, qdl_25, qdl_26, qdl_27, qdl_28, qdl_29, qdl_30, qdl_31, qdl_32, qdl_33, qdl_34, qdl_35, qdl_36, qdl_37, qdl_38, qdl_39, qdl_40, qdl_41, qdl_42, qdl_43, qdl_44, qdr_0, qdr_1, qdr_2, qdr_3, qdr_4, qdr_5, qdr_6, qdr_7, qdr_8, qdr_9, qdr_10, qdr_11, qdr_12, qdr_15, qdr_16, qdr_19, qdr_20, qdr_21, qdr_22, qdr_26, qdr_27, qdr_28, qdr_29, qdr_30, qdr_34, qdr_35, qdr_37, qdr_38, qdr_39, qdr_40, qdr_42, qdr_43, qdr_44, qdr_45, qdr_46, qdr_47, qdr_48, qdr_49, qdr_50, qdr_51, qdr_53, qdr_54, qdr_55, qtag, Option.isSome_some, a1]
    rw [e]
    exact qRQ_of hA 0 _
theorem rCode {j : Nat} (hA : qRA I A) (hj : j < A.2.2.2.1.length + 1) : fX8_codeAt 1 (qn j) (qD I) = some ((match (qAt (qFA A).2 j).1.1 with
    | [] => qm
    | y :: _ => qCd y), qD I) := by
  obtain ⟨hX1, hX2, -⟩ := qAok_X hA.1
  have hn := hA.1.2.2.1
  have hX := hA.2.2.2.2.2.1
  obtain ⟨g1, g2⟩ := qAt_g (X := (qFA A).2) (j := j) (by omega)
  obtain ⟨a1, a2, a3, a4⟩ := qAll_rev hX g1
  have h20 := (hX1 _ g2).1.1
  unfold fX8_codeAt
  cases hs : (qAt (qFA A).2 j).1.1 with
  | nil =>
    rw [hs] at a1
    simp (disch := omega) only [↓qlet, eq_self, qzg_t, qzb_some, ↓reduceIte, not_or, not_false_eq_true, not_true_eq_false, and_true, true_and, and_self, or_false, false_or, true_or, or_true, and_false, false_and, qlit, qneg, qof, qn_add, qn_mul, qn_s, qn_z, qn_d, qn_dz, qm_1, qt_1, qt_0, qb_0, qb_1, qb_01, qb01b, q01_0, q01_1, qo_s, qo_n, qn_c, qn_le, qn_lt, qn_eq, qn_ne_m, qm_ne_n, qm_lt, qm_le, qn_lt_m, qn_le_m, qn_sub, qn_div, qn_mod, qle_t, qle_f, qlt_t, qlt_f, qeq_t, qeq_f, Nat.add_sub_cancel, qD_I, qD_s, qU_s, qU_a, qU_k, qdk_1, qdk_2, qdk_3, qdk_4, qdk_5, qdk_6, qdk_7, qdk_8, qdk_9, qdk_10, qdk_11, qdk_12, qdk_13, qdk_14, qdk_15, qdk_16, qdk_17, qdk_18, qdk_19, qdk_20, qdk_21, qdk_22, qdk_23, qdk_24, qdk_25, qdk_26, qdk_27, qdk_28, qdk_29, qdk_30, qdk_31, qdk_32, qdk_33, qdk_34, qdk_35, qdk_36, qdk_37, qdk_38, qdk_39, qdk_40, qdk_41, qdk_42, qdk_43, qdk_44, qdl_2, qdl_3, qdl_4, qdl_5, qdl_6, qdl_7, qdl_8, qdl_9, qdl_10, qdl_11, qdl_12, qdl_13, qdl_14, qdl_15, qdl_16, qdl_17, qdl_18, qdl_19, qdl_20, qdl_21, qdl_22, qdl_23, qdl_24, qdl_25, qdl_26, qdl_27, qdl_28, qdl_29, qdl_30, qdl_31, qdl_32, qdl_33, qdl_34, qdl_35, qdl_36, qdl_37, qdl_38, qdl_39, qdl_40, qdl_41, qdl_42, qdl_43, qdl_44, qdr_0, qdr_1, qdr_2, qdr_3, qdr_4, qdr_5, qdr_6, qdr_7, qdr_8, qdr_9, qdr_10, qdr_11, qdr_12, qdr_15, qdr_16, qdr_19, qdr_20, qdr_21, qdr_22, qdr_26, qdr_27, qdr_28, qdr_29, qdr_30, qdr_34, qdr_35, qdr_37, qdr_38, qdr_39, qdr_40, qdr_42, qdr_43, qdr_44, qdr_45, qdr_46, qdr_47, qdr_48, qdr_49, qdr_50, qdr_51, qdr_53, qdr_54, qdr_55, a1, List.length_nil]
  | cons y st =>
    rw [hs] at a1 a4 h20
    simp only [List.length_cons] at a1 h20
    have a5 := a4.1
    have e : qn (20 * j) + qn (st.length + 1) - qn 1 = qn (20 * j + st.length) := by rw [qn_add, qn_sub (by omega)]; congr 1
    simp (disch := omega) only [↓qlet, eq_self, qzg_t, ↓reduceIte, qlit, not_or, not_false_eq_true, not_true_eq_false, and_self, and_true, true_and, qn_mul, qn_c, qn_eq, qn_lt, qle_f, qle_t, qlt_f, qeq_f, qD_I, qdk_1, qdk_2, qdk_3, qdk_4, qdk_5, qdk_6, qdk_7, qdk_8, qdk_9, qdk_10, qdk_11, qdk_12, qdk_13, qdk_14, qdk_15, qdk_16, qdk_17, qdk_18, qdk_19, qdk_20, qdk_21, qdk_22, qdk_23, qdk_24, qdk_25, qdk_26, qdk_27, qdk_28, qdk_29, qdk_30, qdk_31, qdk_32, qdk_33, qdk_34, qdk_35, qdk_36, qdk_37, qdk_38, qdk_39, qdk_40, qdk_41, qdk_42, qdk_43, qdk_44, qdl_2, qdl_3, qdl_4, qdl_5, qdl_6, qdl_7, qdl_8, qdl_9, qdl_10, qdl_11, qdl_12, qdl_13, qdl_14, qdl_15, qdl_16, qdl_17, qdl_18, qdl_19, qdl_20, qdl_21, qdl_22, qdl_23, qdl_24, qdl_25, qdl_26, qdl_27, qdl_28, qdl_29, qdl_30, qdl_31, qdl_32, qdl_33, qdl_34, qdl_35, qdl_36, qdl_37, qdl_38, qdl_39, qdl_40, qdl_41, qdl_42, qdl_43, qdl_44, qdr_0, qdr_1, qdr_2, qdr_3, qdr_4, qdr_5, qdr_6, qdr_7, qdr_8, qdr_9, qdr_10, qdr_11, qdr_12, qdr_15, qdr_16, qdr_19, qdr_20, qdr_21, qdr_22, qdr_26, qdr_27, qdr_28, qdr_29, qdr_30, qdr_34, qdr_35, qdr_37, qdr_38, qdr_39, qdr_40, qdr_42, qdr_43, qdr_44, qdr_45, qdr_46, qdr_47, qdr_48, qdr_49, qdr_50, qdr_51, qdr_53, qdr_54, qdr_55, a1, e, a5]
theorem qCd_ne {y : Nat × Nat} (h : y.1 < 10 ∧ y.2 < 16) : ¬ qCd y = -1 := fun e => by
  have e : qn (16 * y.1 + y.2) = qm := e
  rw [qn_ne_m (by omega)] at e
  exact e
theorem rCurrentQ (hA : qRA I A) (x : Int32) : qRQ A (qaCurrent A x) (fX8_current 1 x (qD I)) := by
  obtain ⟨hX1, hX2, -⟩ := qAok_X hA.1
  have hn := hA.1.2.2.1
  have hg := hA.1.1
  have h13 := hA.2.2.2.1.1
  have h1 : fX8_in x 0 (qn A.2.2.2.1.length) (qD I) = _ := rIn (hi := A.2.2.2.1.length) (by omega) x (qD I)
  unfold fX8_current qaCurrent qoAsk
  rw [qzg_i (qdk_1 _), qD_I, h13, h1, qzb_some, qzg_i (qdk_1 _), rGoes1, qzb_some]
  cases hx : qin x (A.2.2.2.1.length + 1) with
  | none =>
    rw [if_pos (show qb (none : Option Nat).isSome = 0 from rfl)]
    exact qRQ_of hA 1 _
  | some j =>
    obtain ⟨hj, rfl⟩ := qin_s (by omega) hx
    have ht : qn (qtag (some j).isSome true true) = qn 0 := rfl
    rw [if_neg (show ¬ qb (some j).isSome = 0 from (by decide : ¬ qb true = 0)), ht, qzg_i (qdk_1 _), rCode (qRA_56 hA _) hj, qzb_some]
    have hz := (hX1 _ (qAt_g (X := (qFA A).2) (j := j) (by omega)).2).1
    cases hs : (qAt (qFA A).2 j).1.1 with
    | nil =>
      dsimp only
      rw [if_pos (show qm = -1 from rfl), show (-1 : Int32) = qm from rfl, hs]
      exact qRQ_of hA 0 _
    | cons y st =>
      have hy := hz.2.1 y (by rw [hs]; simp)
      have hy6 := (hg y.1 hy.1).1
      dsimp only
      rw [if_neg (qCd_ne ⟨hy.1, by omega⟩), qzg_i (qdk_1 _), rCode (qRA_56 hA _) hj, qzb_some, hs]
      dsimp only
      have e : qCd y / 16 = qn y.1 := by
        show qn (16 * y.1 + y.2) / qn 16 = qn y.1
        rw [qn_div (by omega) (by omega)]
        congr 1
        omega
      rw [e]
      exact qRQ_of hA 0 _
theorem rNextQ (hA : qRA I A) (x : Int32) : qRQ A (qaNext A x) (fX8_next 1 x (qD I)) := by
  obtain ⟨hX1, hX2, -⟩ := qAok_X hA.1
  have hn := hA.1.2.2.1
  have hg := hA.1.1
  have h13 := hA.2.2.2.1.1
  have hG := hA.2.1
  have h1 : fX8_in x 0 (qn A.2.2.2.1.length) (qD I) = _ := rIn (hi := A.2.2.2.1.length) (by omega) x (qD I)
  unfold fX8_next qaNext qoAsk
  rw [qzg_i (qdk_1 _), qD_I, h13, h1, qzb_some, qzg_i (qdk_1 _), rGoes1, qzb_some]
  cases hx : qin x (A.2.2.2.1.length + 1) with
  | none =>
    rw [if_pos (show qb (none : Option Nat).isSome = 0 from rfl)]
    exact qRQ_of hA 1 _
  | some j =>
    obtain ⟨hj, rfl⟩ := qin_s (by omega) hx
    have ht : qn (qtag (some j).isSome true true) = qn 0 := rfl
    rw [if_neg (show ¬ qb (some j).isSome = 0 from (by decide : ¬ qb true = 0)), ht, qzg_i (qdk_1 _), rCode (qRA_56 hA _) hj, qzb_some]
    have hz := (hX1 _ (qAt_g (X := (qFA A).2) (j := j) (by omega)).2).1
    unfold qGoes
    cases hs : (qAt (qFA A).2 j).1.1 with
    | nil =>
      dsimp only
      rw [if_pos (show qm = -1 from rfl), hs]
      exact qRQ_of hA 0 _
    | cons y st =>
      have hy := hz.2.1 y (by rw [hs]; simp)
      have hy6 := (hg y.1 hy.1).1
      have hgo := rGoesOn (I := qU I 1 56 (qn 0)) hy.1 (qRG_56 hG) hg hy.2
      dsimp only
      rw [if_neg (qCd_ne ⟨hy.1, by omega⟩), hs]
      dsimp only
      unfold qCd fX8_next_58
      have e1 : (16 * y.1 + y.2) / 16 = y.1 := by omega
      have e2 : (16 * y.1 + y.2) / 2 - (16 * y.1 + y.2) / 2 / 8 * 8 = y.2 / 2 := by omega
      have hb : y.2 % 2 = 0 ∨ y.2 % 2 = 1 := by omega
      rcases hb with hb | hb
      · have e3 : 16 * y.1 + y.2 - (16 * y.1 + y.2) / 2 * 2 = 0 := by omega
        rw [hb] at hgo
        have hgo : fX8_goesOn 1 (qn y.1) (qn (y.2 / 2)) (qn 0) (qD (qU I 1 56 (qn 0))) = some (qrOn A.1 y.1 y.2, qD (qU I 1 56 (qn 0))) := hgo
        simp (disch := omega) only [↓qlet, eq_self, qzg_t, qzb_some, ↓reduceIte, not_or, not_false_eq_true, not_true_eq_false, and_true, true_and, and_self, or_false, false_or, true_or, or_true, and_false, false_and, qlit, qneg, qof, qn_add, qn_mul, qn_s, qn_z, qn_d, qn_dz, qm_1, qt_1, qt_0, qb_0, qb_1, qb_01, qb01b, q01_0, q01_1, qo_s, qo_n, qn_c, qn_le, qn_lt, qn_eq, qn_ne_m, qm_ne_n, qm_lt, qm_le, qn_lt_m, qn_le_m, qn_sub, qn_div, qn_mod, qle_t, qle_f, qlt_t, qlt_f, qeq_t, qeq_f, Nat.add_sub_cancel, qD_I, qD_s, qU_s, qU_a, qU_k, qdk_1, qdk_2, qdk_3, qdk_4, qdk_5, qdk_6, qdk_7, qdk_8, qdk_9, qdk_10, qdk_11, qdk_12, qdk_13, qdk_14, qdk_15, qdk_16, qdk_17, qdk_18, qdk_19, qdk_20, qdk_21, qdk_22, qdk_23, qdk_24, qdk_25, qdk_26, qdk_27, qdk_28, qdk_29, qdk_30, qdk_31, qdk_32, qdk_33, qdk_34, qdk_35, qdk_36, qdk_37, qdk_38, qdk_39, qdk_40, qdk_41, qdk_42, qdk_43, qdk_44, qdl_2, qdl_3, qdl_4, qdl_5, qdl_6, qdl_7, qdl_8, qdl_9, qdl_10, qdl_11, qdl_12, qdl_13, qdl_14, qdl_15, qdl_16, qdl_17, qdl_18, qdl_19, qdl_20, qdl_21, qdl_22, qdl_23, qdl_24, qdl_25, qdl_26, qdl_27, qdl_28, qdl_29, qdl_30, qdl_31, qdl_32, qdl_33, qdl_34, qdl_35, qdl_36, qdl_37, qdl_38, qdl_39, qdl_40, qdl_41, qdl_42, qdl_43, qdl_44, qdr_0, qdr_1, qdr_2, qdr_3, qdr_4, qdr_5, qdr_6, qdr_7, qdr_8, qdr_9, qdr_10, qdr_11, qdr_12, qdr_15, qdr_16, qdr_19, qdr_20, qdr_21, qdr_22, qdr_26, qdr_27, qdr_28, qdr_29, qdr_30, qdr_34, qdr_35, qdr_37, qdr_38, qdr_39, qdr_40, qdr_42, qdr_43, qdr_44, qdr_45, qdr_46, qdr_47, qdr_48, qdr_49, qdr_50, qdr_51, qdr_53, qdr_54, qdr_55, e1, e2, e3, hgo]
        exact qRQ_of hA 0 _
      · have e3 : 16 * y.1 + y.2 - (16 * y.1 + y.2) / 2 * 2 = 1 := by omega
        rw [hb] at hgo
        have hgo : fX8_goesOn 1 (qn y.1) (qn (y.2 / 2)) (qn 1) (qD (qU I 1 56 (qn 0))) = some (qrOn A.1 y.1 y.2, qD (qU I 1 56 (qn 0))) := hgo
        simp (disch := omega) only [↓qlet, eq_self, qzg_t, qzb_some, ↓reduceIte, not_or, not_false_eq_true, not_true_eq_false, and_true, true_and, and_self, or_false, false_or, true_or, or_true, and_false, false_and, qlit, qneg, qof, qn_add, qn_mul, qn_s, qn_z, qn_d, qn_dz, qm_1, qt_1, qt_0, qb_0, qb_1, qb_01, qb01b, q01_0, q01_1, qo_s, qo_n, qn_c, qn_le, qn_lt, qn_eq, qn_ne_m, qm_ne_n, qm_lt, qm_le, qn_lt_m, qn_le_m, qn_sub, qn_div, qn_mod, qle_t, qle_f, qlt_t, qlt_f, qeq_t, qeq_f, Nat.add_sub_cancel, qD_I, qD_s, qU_s, qU_a, qU_k, qdk_1, qdk_2, qdk_3, qdk_4, qdk_5, qdk_6, qdk_7, qdk_8, qdk_9, qdk_10, qdk_11, qdk_12, qdk_13, qdk_14, qdk_15, qdk_16, qdk_17, qdk_18, qdk_19, qdk_20, qdk_21, qdk_22, qdk_23, qdk_24, qdk_25, qdk_26, qdk_27, qdk_28, qdk_29, qdk_30, qdk_31, qdk_32, qdk_33, qdk_34, qdk_35, qdk_36, qdk_37, qdk_38, qdk_39, qdk_40, qdk_41, qdk_42, qdk_43, qdk_44, qdl_2, qdl_3, qdl_4, qdl_5, qdl_6, qdl_7, qdl_8, qdl_9, qdl_10, qdl_11, qdl_12, qdl_13, qdl_14, qdl_15, qdl_16, qdl_17, qdl_18, qdl_19, qdl_20, qdl_21, qdl_22, qdl_23, qdl_24, qdl_25, qdl_26, qdl_27, qdl_28, qdl_29, qdl_30, qdl_31, qdl_32, qdl_33, qdl_34, qdl_35, qdl_36, qdl_37, qdl_38, qdl_39, qdl_40, qdl_41, qdl_42, qdl_43, qdl_44, qdr_0, qdr_1, qdr_2, qdr_3, qdr_4, qdr_5, qdr_6, qdr_7, qdr_8, qdr_9, qdr_10, qdr_11, qdr_12, qdr_15, qdr_16, qdr_19, qdr_20, qdr_21, qdr_22, qdr_26, qdr_27, qdr_28, qdr_29, qdr_30, qdr_34, qdr_35, qdr_37, qdr_38, qdr_39, qdr_40, qdr_42, qdr_43, qdr_44, qdr_45, qdr_46, qdr_47, qdr_48, qdr_49, qdr_50, qdr_51, qdr_53, qdr_54, qdr_55, e1, e2, e3, hgo]
        exact qRQ_of hA 0 _
end
