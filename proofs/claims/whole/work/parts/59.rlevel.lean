/-! THE REFERENCE: the rows of entities, level by level -/
section
variable {I : Nat → Nat → Int32} {G : qG} {V : qV} {p B lvl i : Nat} {ks : List qK} {sw : Nat → Nat} {en : Nat → List qK} {ent : Nat → Nat → qV → qV} {c : Nat}
theorem rKeepsNo (k : Nat → zM → Option (Int32 × zM)) (h : I 1 18 = qn 0 ∨ ∃ l, 0 < l ∧ l < 3 ∧ I 1 41 = qn l) : fX8_readsRow_154 k 1 (qD I) = k 1 (qD I) := by
  have h1 : fX8_keepsState 1 (qD I) = some (qn 0, qD I) := by
    unfold fX8_keepsState
    by_cases c : I 1 18 = qn 0
    · simp (disch := omega) only [↓qlet, eq_self, qzg_t, qzb_some, ↓reduceIte, not_or, not_false_eq_true, not_true_eq_false, and_true, true_and, and_self, or_false, false_or, true_or, or_true, and_false, false_and, qlit, qneg, qof, qn_add, qn_mul, qn_s, qn_z, qn_d, qn_dz, qm_1, qt_1, qt_0, qb_0, qb_1, qb_01, qb01b, q01_0, q01_1, qo_s, qo_n, qn_c, qn_le, qn_lt, qn_eq, qn_ne_m, qm_ne_n, qm_lt, qm_le, qn_lt_m, qn_le_m, qn_sub, qn_div, qn_mod, qle_t, qle_f, qlt_t, qlt_f, qeq_t, qeq_f, Nat.add_sub_cancel, qD_I, qD_s, qU_s, qU_a, qU_k, qdk_1, qdk_2, qdk_3, qdk_4, qdk_5, qdk_6, qdk_7, qdk_8, qdk_9, qdk_10, qdk_11, qdk_12, qdk_13, qdk_14, qdk_15, qdk_16, qdk_17, qdk_18, qdk_19, qdk_20, qdk_21, qdk_22, qdk_23, qdk_24, qdk_25, qdk_26, qdk_27, qdk_28, qdk_29, qdk_30, qdk_31, qdk_32, qdk_33, qdk_34, qdk_35, qdk_36, qdk_37, qdk_38, qdk_39, qdk_40, qdk_41, qdk_42, qdk_43, qdk_44, qdl_2, qdl_3, qdl_4, qdl_5, qdl_6, qdl_7, qdl_8, qdl_9, qdl_10, qdl_11, qdl_12, qdl_13, qdl_14, qdl_15, qdl_16, qdl_17, qdl_18, qdl_19, qdl_20, qdl_21, qdl_22, qdl_23, qdl_24, qdl_25, qdl_26, qdl_27, qdl_28, qdl_29, qdl_30, qdl_31, qdl_32, qdl_33, qdl_34, qdl_35, qdl_36, qdl_37, qdl_38, qdl_39, qdl_40, qdl_41, qdl_42, qdl_43, qdl_44, qdr_0, qdr_1, qdr_2, qdr_3, qdr_4, qdr_5, qdr_6, qdr_7, qdr_8, qdr_9, qdr_10, qdr_11, qdr_12, qdr_15, qdr_16, qdr_19, qdr_20, qdr_21, qdr_22, qdr_26, qdr_27, qdr_28, qdr_29, qdr_30, qdr_34, qdr_35, qdr_37, qdr_38, qdr_39, qdr_40, qdr_42, qdr_43, qdr_44, qdr_45, qdr_46, qdr_47, qdr_48, qdr_49, qdr_50, qdr_51, qdr_53, qdr_54, qdr_55, c]
    · rcases h with h | ⟨l, h1, h2, h3⟩
      · exact absurd h c
      · simp (disch := omega) only [↓qlet, eq_self, qzg_t, qzb_some, ↓reduceIte, not_or, not_false_eq_true, not_true_eq_false, and_true, true_and, and_self, or_false, false_or, true_or, or_true, and_false, false_and, qlit, qneg, qof, qn_add, qn_mul, qn_s, qn_z, qn_d, qn_dz, qm_1, qt_1, qt_0, qb_0, qb_1, qb_01, qb01b, q01_0, q01_1, qo_s, qo_n, qn_c, qn_le, qn_lt, qn_eq, qn_ne_m, qm_ne_n, qm_lt, qm_le, qn_lt_m, qn_le_m, qn_sub, qn_div, qn_mod, qle_t, qle_f, qlt_t, qlt_f, qeq_t, qeq_f, Nat.add_sub_cancel, qD_I, qD_s, qU_s, qU_a, qU_k, qdk_1, qdk_2, qdk_3, qdk_4, qdk_5, qdk_6, qdk_7, qdk_8, qdk_9, qdk_10, qdk_11, qdk_12, qdk_13, qdk_14, qdk_15, qdk_16, qdk_17, qdk_18, qdk_19, qdk_20, qdk_21, qdk_22, qdk_23, qdk_24, qdk_25, qdk_26, qdk_27, qdk_28, qdk_29, qdk_30, qdk_31, qdk_32, qdk_33, qdk_34, qdk_35, qdk_36, qdk_37, qdk_38, qdk_39, qdk_40, qdk_41, qdk_42, qdk_43, qdk_44, qdl_2, qdl_3, qdl_4, qdl_5, qdl_6, qdl_7, qdl_8, qdl_9, qdl_10, qdl_11, qdl_12, qdl_13, qdl_14, qdl_15, qdl_16, qdl_17, qdl_18, qdl_19, qdl_20, qdl_21, qdl_22, qdl_23, qdl_24, qdl_25, qdl_26, qdl_27, qdl_28, qdl_29, qdl_30, qdl_31, qdl_32, qdl_33, qdl_34, qdl_35, qdl_36, qdl_37, qdl_38, qdl_39, qdl_40, qdl_41, qdl_42, qdl_43, qdl_44, qdr_0, qdr_1, qdr_2, qdr_3, qdr_4, qdr_5, qdr_6, qdr_7, qdr_8, qdr_9, qdr_10, qdr_11, qdr_12, qdr_15, qdr_16, qdr_19, qdr_20, qdr_21, qdr_22, qdr_26, qdr_27, qdr_28, qdr_29, qdr_30, qdr_34, qdr_35, qdr_37, qdr_38, qdr_39, qdr_40, qdr_42, qdr_43, qdr_44, qdr_45, qdr_46, qdr_47, qdr_48, qdr_49, qdr_50, qdr_51, qdr_53, qdr_54, qdr_55, c, h3]
  unfold fX8_readsRow_154
  rw [qzg_i (qdk_1 _), h1, qzb_some]
theorem rRow58 (hl : lvl < 3) (hL : I 1 41 = qn lvl) (hi : I 29 lvl = qn i) (hk : qRk I lvl ks) (hn : ks.length ≤ 620) (hil : i < ks.length) {J : Nat → Nat → Int32} (hJ : fX8_readsToken 1 (qD I) = some (qn 0, qD J)) (N : Nat) : fX8_readsRow_58 (N + 1) 1 (qD I) = fX8_readsRow_154 (fX8_readsRow_58 N) 1 (qD J) := by
  have hll := rLevelLen hl hk
  have h78 : fX8_readsRow_78 (fX8_readsRow_58 N) 1 (qD I) = fX8_readsRow_154 (fX8_readsRow_58 N) 1 (qD J) := by
    unfold fX8_readsRow_78
    simp (disch := omega) only [↓qlet, eq_self, qzg_t, qzb_some, ↓reduceIte, not_or, not_false_eq_true, not_true_eq_false, and_true, true_and, and_self, or_false, false_or, true_or, or_true, and_false, false_and, qlit, qneg, qof, qn_add, qn_mul, qn_s, qn_z, qn_d, qn_dz, qm_1, qt_1, qt_0, qb_0, qb_1, qb_01, qb01b, q01_0, q01_1, qo_s, qo_n, qn_c, qn_le, qn_lt, qn_eq, qn_ne_m, qm_ne_n, qm_lt, qm_le, qn_lt_m, qn_le_m, qn_sub, qn_div, qn_mod, qle_t, qle_f, qlt_t, qlt_f, qeq_t, qeq_f, Nat.add_sub_cancel, qD_I, qD_s, qU_s, qU_a, qU_k, qdk_1, qdk_2, qdk_3, qdk_4, qdk_5, qdk_6, qdk_7, qdk_8, qdk_9, qdk_10, qdk_11, qdk_12, qdk_13, qdk_14, qdk_15, qdk_16, qdk_17, qdk_18, qdk_19, qdk_20, qdk_21, qdk_22, qdk_23, qdk_24, qdk_25, qdk_26, qdk_27, qdk_28, qdk_29, qdk_30, qdk_31, qdk_32, qdk_33, qdk_34, qdk_35, qdk_36, qdk_37, qdk_38, qdk_39, qdk_40, qdk_41, qdk_42, qdk_43, qdk_44, qdl_2, qdl_3, qdl_4, qdl_5, qdl_6, qdl_7, qdl_8, qdl_9, qdl_10, qdl_11, qdl_12, qdl_13, qdl_14, qdl_15, qdl_16, qdl_17, qdl_18, qdl_19, qdl_20, qdl_21, qdl_22, qdl_23, qdl_24, qdl_25, qdl_26, qdl_27, qdl_28, qdl_29, qdl_30, qdl_31, qdl_32, qdl_33, qdl_34, qdl_35, qdl_36, qdl_37, qdl_38, qdl_39, qdl_40, qdl_41, qdl_42, qdl_43, qdl_44, qdr_0, qdr_1, qdr_2, qdr_3, qdr_4, qdr_5, qdr_6, qdr_7, qdr_8, qdr_9, qdr_10, qdr_11, qdr_12, qdr_15, qdr_16, qdr_19, qdr_20, qdr_21, qdr_22, qdr_26, qdr_27, qdr_28, qdr_29, qdr_30, qdr_34, qdr_35, qdr_37, qdr_38, qdr_39, qdr_40, qdr_42, qdr_43, qdr_44, qdr_45, qdr_46, qdr_47, qdr_48, qdr_49, qdr_50, qdr_51, qdr_53, qdr_54, qdr_55, hL, hi, hll, hJ]
  rw [fX8_readsRow_58]
  by_cases c0 : lvl = 0
  · subst c0
    have hk17 : I 1 17 = qn ks.length := by unfold qRk at hk; rw [if_pos rfl] at hk; exact hk.1
    simp (disch := omega) only [↓qlet, eq_self, qzg_t, qzb_some, ↓reduceIte, not_or, not_false_eq_true, not_true_eq_false, and_true, true_and, and_self, or_false, false_or, true_or, or_true, and_false, false_and, qlit, qneg, qof, qn_add, qn_mul, qn_s, qn_z, qn_d, qn_dz, qm_1, qt_1, qt_0, qb_0, qb_1, qb_01, qb01b, q01_0, q01_1, qo_s, qo_n, qn_c, qn_le, qn_lt, qn_eq, qn_ne_m, qm_ne_n, qm_lt, qm_le, qn_lt_m, qn_le_m, qn_sub, qn_div, qn_mod, qle_t, qle_f, qlt_t, qlt_f, qeq_t, qeq_f, Nat.add_sub_cancel, qD_I, qD_s, qU_s, qU_a, qU_k, qdk_1, qdk_2, qdk_3, qdk_4, qdk_5, qdk_6, qdk_7, qdk_8, qdk_9, qdk_10, qdk_11, qdk_12, qdk_13, qdk_14, qdk_15, qdk_16, qdk_17, qdk_18, qdk_19, qdk_20, qdk_21, qdk_22, qdk_23, qdk_24, qdk_25, qdk_26, qdk_27, qdk_28, qdk_29, qdk_30, qdk_31, qdk_32, qdk_33, qdk_34, qdk_35, qdk_36, qdk_37, qdk_38, qdk_39, qdk_40, qdk_41, qdk_42, qdk_43, qdk_44, qdl_2, qdl_3, qdl_4, qdl_5, qdl_6, qdl_7, qdl_8, qdl_9, qdl_10, qdl_11, qdl_12, qdl_13, qdl_14, qdl_15, qdl_16, qdl_17, qdl_18, qdl_19, qdl_20, qdl_21, qdl_22, qdl_23, qdl_24, qdl_25, qdl_26, qdl_27, qdl_28, qdl_29, qdl_30, qdl_31, qdl_32, qdl_33, qdl_34, qdl_35, qdl_36, qdl_37, qdl_38, qdl_39, qdl_40, qdl_41, qdl_42, qdl_43, qdl_44, qdr_0, qdr_1, qdr_2, qdr_3, qdr_4, qdr_5, qdr_6, qdr_7, qdr_8, qdr_9, qdr_10, qdr_11, qdr_12, qdr_15, qdr_16, qdr_19, qdr_20, qdr_21, qdr_22, qdr_26, qdr_27, qdr_28, qdr_29, qdr_30, qdr_34, qdr_35, qdr_37, qdr_38, qdr_39, qdr_40, qdr_42, qdr_43, qdr_44, qdr_45, qdr_46, qdr_47, qdr_48, qdr_49, qdr_50, qdr_51, qdr_53, qdr_54, qdr_55, hL, hi, hk17, h78]
  · simp (disch := omega) only [↓qlet, eq_self, qzg_t, qzb_some, ↓reduceIte, not_or, not_false_eq_true, not_true_eq_false, and_true, true_and, and_self, or_false, false_or, true_or, or_true, and_false, false_and, qlit, qneg, qof, qn_add, qn_mul, qn_s, qn_z, qn_d, qn_dz, qm_1, qt_1, qt_0, qb_0, qb_1, qb_01, qb01b, q01_0, q01_1, qo_s, qo_n, qn_c, qn_le, qn_lt, qn_eq, qn_ne_m, qm_ne_n, qm_lt, qm_le, qn_lt_m, qn_le_m, qn_sub, qn_div, qn_mod, qle_t, qle_f, qlt_t, qlt_f, qeq_t, qeq_f, Nat.add_sub_cancel, qD_I, qD_s, qU_s, qU_a, qU_k, qdk_1, qdk_2, qdk_3, qdk_4, qdk_5, qdk_6, qdk_7, qdk_8, qdk_9, qdk_10, qdk_11, qdk_12, qdk_13, qdk_14, qdk_15, qdk_16, qdk_17, qdk_18, qdk_19, qdk_20, qdk_21, qdk_22, qdk_23, qdk_24, qdk_25, qdk_26, qdk_27, qdk_28, qdk_29, qdk_30, qdk_31, qdk_32, qdk_33, qdk_34, qdk_35, qdk_36, qdk_37, qdk_38, qdk_39, qdk_40, qdk_41, qdk_42, qdk_43, qdk_44, qdl_2, qdl_3, qdl_4, qdl_5, qdl_6, qdl_7, qdl_8, qdl_9, qdl_10, qdl_11, qdl_12, qdl_13, qdl_14, qdl_15, qdl_16, qdl_17, qdl_18, qdl_19, qdl_20, qdl_21, qdl_22, qdl_23, qdl_24, qdl_25, qdl_26, qdl_27, qdl_28, qdl_29, qdl_30, qdl_31, qdl_32, qdl_33, qdl_34, qdl_35, qdl_36, qdl_37, qdl_38, qdl_39, qdl_40, qdl_41, qdl_42, qdl_43, qdl_44, qdr_0, qdr_1, qdr_2, qdr_3, qdr_4, qdr_5, qdr_6, qdr_7, qdr_8, qdr_9, qdr_10, qdr_11, qdr_12, qdr_15, qdr_16, qdr_19, qdr_20, qdr_21, qdr_22, qdr_26, qdr_27, qdr_28, qdr_29, qdr_30, qdr_34, qdr_35, qdr_37, qdr_38, qdr_39, qdr_40, qdr_42, qdr_43, qdr_44, qdr_45, qdr_46, qdr_47, qdr_48, qdr_49, qdr_50, qdr_51, qdr_53, qdr_54, qdr_55, hL, h78]
/-- errors for the marks that stay open -/
theorem rErrs100 (hl : lvl < 3) {a : Nat} (ha : a ≤ 600) : ∀ n x B V I, x + n = a → B + n ≤ 4320 → I 1 41 = qn lvl → I 30 lvl = qn a → qVok G B V → qRV I p V → ∃ J, (∀ (k58 : Nat → zM → Option (Int32 × zM)) m, n < m → fX8_readsRow_100 k58 m 1 (qn x) (qD I) = fX8_readsRow_124 k58 1 (qD J)) ∧ qRV J p (qErrs 5 p n V) ∧ qFrR I J := by
  intro n
  induction n with
  | zero =>
    intro x B V I h1 h3 h4 h5 h6 h7
    refine ⟨I, fun k58 m h2 => ?_, h7, qFrR_refl I⟩
    obtain ⟨m, rfl⟩ : ∃ m', m = m' + 1 := ⟨m - 1, by omega⟩
    rw [fX8_readsRow_100]
    simp (disch := omega) only [↓qlet, eq_self, qzg_t, qzb_some, ↓reduceIte, not_or, not_false_eq_true, not_true_eq_false, and_true, true_and, and_self, or_false, false_or, true_or, or_true, and_false, false_and, qlit, qneg, qof, qn_add, qn_mul, qn_s, qn_z, qn_d, qn_dz, qm_1, qt_1, qt_0, qb_0, qb_1, qb_01, qb01b, q01_0, q01_1, qo_s, qo_n, qn_c, qn_le, qn_lt, qn_eq, qn_ne_m, qm_ne_n, qm_lt, qm_le, qn_lt_m, qn_le_m, qn_sub, qn_div, qn_mod, qle_t, qle_f, qlt_t, qlt_f, qeq_t, qeq_f, Nat.add_sub_cancel, qD_I, qD_s, qU_s, qU_a, qU_k, qdk_1, qdk_2, qdk_3, qdk_4, qdk_5, qdk_6, qdk_7, qdk_8, qdk_9, qdk_10, qdk_11, qdk_12, qdk_13, qdk_14, qdk_15, qdk_16, qdk_17, qdk_18, qdk_19, qdk_20, qdk_21, qdk_22, qdk_23, qdk_24, qdk_25, qdk_26, qdk_27, qdk_28, qdk_29, qdk_30, qdk_31, qdk_32, qdk_33, qdk_34, qdk_35, qdk_36, qdk_37, qdk_38, qdk_39, qdk_40, qdk_41, qdk_42, qdk_43, qdk_44, qdl_2, qdl_3, qdl_4, qdl_5, qdl_6, qdl_7, qdl_8, qdl_9, qdl_10, qdl_11, qdl_12, qdl_13, qdl_14, qdl_15, qdl_16, qdl_17, qdl_18, qdl_19, qdl_20, qdl_21, qdl_22, qdl_23, qdl_24, qdl_25, qdl_26, qdl_27, qdl_28, qdl_29, qdl_30, qdl_31, qdl_32, qdl_33, qdl_34, qdl_35, qdl_36, qdl_37, qdl_38, qdl_39, qdl_40, qdl_41, qdl_42, qdl_43, qdl_44, qdr_0, qdr_1, qdr_2, qdr_3, qdr_4, qdr_5, qdr_6, qdr_7, qdr_8, qdr_9, qdr_10, qdr_11, qdr_12, qdr_15, qdr_16, qdr_19, qdr_20, qdr_21, qdr_22, qdr_26, qdr_27, qdr_28, qdr_29, qdr_30, qdr_34, qdr_35, qdr_37, qdr_38, qdr_39, qdr_40, qdr_42, qdr_43, qdr_44, qdr_45, qdr_46, qdr_47, qdr_48, qdr_49, qdr_50, qdr_51, qdr_53, qdr_54, qdr_55, h4, h5]
  | succ n ih =>
    intro x B V I h1 h3 h4 h5 h6 h7
    have her := qVok_err6 h6 (by omega)
    obtain ⟨J, r1, r2, r3⟩ := rErr h7 (by omega) 5
    obtain ⟨K, k1, k2, k3⟩ := ih (x + 1) (B + 1) _ J (by omega) (by omega) (by rw [r3.2 41 (by omega) (by omega) (by omega) (by omega) (by omega) (by omega) (by omega)]; exact h4) (by rw [r3.1 30 (by omega) (by omega)]; exact h5) (qErr_ok h6 5) r2
    refine ⟨K, fun k58 m h2 => ?_, k2, qFrR_tr r3 k3⟩
    obtain ⟨m, rfl⟩ : ∃ m', m = m' + 1 := ⟨m - 1, by omega⟩
    have := k1 k58 m (by omega)
    rw [fX8_readsRow_100]
    simp (disch := omega) only [↓qlet, eq_self, qzg_t, qzb_some, ↓reduceIte, not_or, not_false_eq_true, not_true_eq_false, and_true, true_and, and_self, or_false, false_or, true_or, or_true, and_false, false_and, qlit, qneg, qof, qn_add, qn_mul, qn_s, qn_z, qn_d, qn_dz, qm_1, qt_1, qt_0, qb_0, qb_1, qb_01, qb01b, q01_0, q01_1, qo_s, qo_n, qn_c, qn_le, qn_lt, qn_eq, qn_ne_m, qm_ne_n, qm_lt, qm_le, qn_lt_m, qn_le_m, qn_sub, qn_div, qn_mod, qle_t, qle_f, qlt_t, qlt_f, qeq_t, qeq_f, Nat.add_sub_cancel, qD_I, qD_s, qU_s, qU_a, qU_k, qdk_1, qdk_2, qdk_3, qdk_4, qdk_5, qdk_6, qdk_7, qdk_8, qdk_9, qdk_10, qdk_11, qdk_12, qdk_13, qdk_14, qdk_15, qdk_16, qdk_17, qdk_18, qdk_19, qdk_20, qdk_21, qdk_22, qdk_23, qdk_24, qdk_25, qdk_26, qdk_27, qdk_28, qdk_29, qdk_30, qdk_31, qdk_32, qdk_33, qdk_34, qdk_35, qdk_36, qdk_37, qdk_38, qdk_39, qdk_40, qdk_41, qdk_42, qdk_43, qdk_44, qdl_2, qdl_3, qdl_4, qdl_5, qdl_6, qdl_7, qdl_8, qdl_9, qdl_10, qdl_11, qdl_12, qdl_13, qdl_14, qdl_15, qdl_16, qdl_17, qdl_18, qdl_19, qdl_20, qdl_21, qdl_22, qdl_23, qdl_24, qdl_25, qdl_26, qdl_27, qdl_28, qdl_29, qdl_30, qdl_31, qdl_32, qdl_33, qdl_34, qdl_35, qdl_36, qdl_37, qdl_38, qdl_39, qdl_40, qdl_41, qdl_42, qdl_43, qdl_44, qdr_0, qdr_1, qdr_2, qdr_3, qdr_4, qdr_5, qdr_6, qdr_7, qdr_8, qdr_9, qdr_10, qdr_11, qdr_12, qdr_15, qdr_16, qdr_19, qdr_20, qdr_21, qdr_22, qdr_26, qdr_27, qdr_28, qdr_29, qdr_30, qdr_34, qdr_35, qdr_37, qdr_38, qdr_39, qdr_40, qdr_42, qdr_43, qdr_44, qdr_45, qdr_46, qdr_47, qdr_48, qdr_49, qdr_50, qdr_51, qdr_53, qdr_54, qdr_55, h4, h5, r1]
    exact this
/-- out of an entity -/
theorem rRowEnd (hl : lvl < 2) (hp : lvl = 0 → p = i) (hk : qRk I (lvl + 1) ks) (hn : ks.length ≤ 620) {Q Q0 : qQ} (hok : qVok G B Q.2.2.2) (hB : B + Q.1 + Q.2.1 ≤ 4320) (hQ : Q.1 + Q.2.1 ≤ 600) (hS : qRst (lvl + 1) ks.length p Q I) (hi : I 29 lvl = qn i) (hi9 : i < 1000) (hm : qRm I lvl Q0.1 Q0.2.1 Q0.2.2.1) : ∃ J, (∀ N, fX8_readsRow_58 (N + 1) 1 (qD I) = fX8_readsRow_154 (fX8_readsRow_58 N) 1 (qD J)) ∧ qRst lvl (i + 1) (if lvl = 0 then i + 1 else p) (Q0.1, Q0.2.1, Q0.2.2.1, qErrs 5 p (Q.1 + Q.2.1) Q.2.2.2) J ∧ qFrL lvl I J := by
  obtain ⟨s1, s2, s3, s4⟩ := hS
  have hll := rLevelLen (by omega) hk
  obtain ⟨J, r1, r2, r3⟩ := rErrs100 (lvl := lvl + 1) (p := p) (by omega) hQ (Q.1 + Q.2.1) 0 B Q.2.2.2 I (by omega) (by omega) s1 s3.1 hok s4
  have t1 : J 1 41 = qn (lvl + 1) := by rw [r3.2 41 (by omega) (by omega) (by omega) (by omega) (by omega) (by omega) (by omega)]; exact s1
  have t2 : J 29 lvl = qn i := by rw [r3.1 29 (by omega) (by omega)]; exact hi
  refine ⟨qU (qU J 1 41 (qn lvl)) 29 lvl (qn (i + 1)), fun N => ?_, ⟨?_, qU_s .., qRm_fr hm ?_ ?_, ?_⟩, qFrL_tr (qFrL_of r3) ⟨?_, ?_, ?_, ?_, ?_⟩⟩
  · have h124 : fX8_readsRow_124 (fX8_readsRow_58 N) 1 (qD J) = fX8_readsRow_154 (fX8_readsRow_58 N) 1 (qD (qU (qU J 1 41 (qn lvl)) 29 lvl (qn (i + 1)))) := by
      unfold fX8_readsRow_124
      simp (disch := omega) only [↓qlet, eq_self, qzg_t, qzb_some, ↓reduceIte, not_or, not_false_eq_true, not_true_eq_false, and_true, true_and, and_self, or_false, false_or, true_or, or_true, and_false, false_and, qlit, qneg, qof, qn_add, qn_mul, qn_s, qn_z, qn_d, qn_dz, qm_1, qt_1, qt_0, qb_0, qb_1, qb_01, qb01b, q01_0, q01_1, qo_s, qo_n, qn_c, qn_le, qn_lt, qn_eq, qn_ne_m, qm_ne_n, qm_lt, qm_le, qn_lt_m, qn_le_m, qn_sub, qn_div, qn_mod, qle_t, qle_f, qlt_t, qlt_f, qeq_t, qeq_f, Nat.add_sub_cancel, qD_I, qD_s, qU_s, qU_a, qU_k, qdk_1, qdk_2, qdk_3, qdk_4, qdk_5, qdk_6, qdk_7, qdk_8, qdk_9, qdk_10, qdk_11, qdk_12, qdk_13, qdk_14, qdk_15, qdk_16, qdk_17, qdk_18, qdk_19, qdk_20, qdk_21, qdk_22, qdk_23, qdk_24, qdk_25, qdk_26, qdk_27, qdk_28, qdk_29, qdk_30, qdk_31, qdk_32, qdk_33, qdk_34, qdk_35, qdk_36, qdk_37, qdk_38, qdk_39, qdk_40, qdk_41, qdk_42, qdk_43, qdk_44, qdl_2, qdl_3, qdl_4, qdl_5, qdl_6, qdl_7, qdl_8, qdl_9, qdl_10, qdl_11, qdl_12, qdl_13, qdl_14, qdl_15, qdl_16, qdl_17, qdl_18, qdl_19, qdl_20, qdl_21, qdl_22, qdl_23, qdl_24, qdl_25, qdl_26, qdl_27, qdl_28, qdl_29, qdl_30, qdl_31, qdl_32, qdl_33, qdl_34, qdl_35, qdl_36, qdl_37, qdl_38, qdl_39, qdl_40, qdl_41, qdl_42, qdl_43, qdl_44, qdr_0, qdr_1, qdr_2, qdr_3, qdr_4, qdr_5, qdr_6, qdr_7, qdr_8, qdr_9, qdr_10, qdr_11, qdr_12, qdr_15, qdr_16, qdr_19, qdr_20, qdr_21, qdr_22, qdr_26, qdr_27, qdr_28, qdr_29, qdr_30, qdr_34, qdr_35, qdr_37, qdr_38, qdr_39, qdr_40, qdr_42, qdr_43, qdr_44, qdr_45, qdr_46, qdr_47, qdr_48, qdr_49, qdr_50, qdr_51, qdr_53, qdr_54, qdr_55, t1, t2]
    have h100 := r1 (fX8_readsRow_58 N) 10000 (by omega)
    rw [fX8_readsRow_58]
    unfold fX8_readsRow_78
    simp (disch := omega) only [↓qlet, eq_self, qzg_t, qzb_some, ↓reduceIte, not_or, not_false_eq_true, not_true_eq_false, and_true, true_and, and_self, or_false, false_or, true_or, or_true, and_false, false_and, qlit, qneg, qof, qn_add, qn_mul, qn_s, qn_z, qn_d, qn_dz, qm_1, qt_1, qt_0, qb_0, qb_1, qb_01, qb01b, q01_0, q01_1, qo_s, qo_n, qn_c, qn_le, qn_lt, qn_eq, qn_ne_m, qm_ne_n, qm_lt, qm_le, qn_lt_m, qn_le_m, qn_sub, qn_div, qn_mod, qle_t, qle_f, qlt_t, qlt_f, qeq_t, qeq_f, Nat.add_sub_cancel, qD_I, qD_s, qU_s, qU_a, qU_k, qdk_1, qdk_2, qdk_3, qdk_4, qdk_5, qdk_6, qdk_7, qdk_8, qdk_9, qdk_10, qdk_11, qdk_12, qdk_13, qdk_14, qdk_15, qdk_16, qdk_17, qdk_18, qdk_19, qdk_20, qdk_21, qdk_22, qdk_23, qdk_24, qdk_25, qdk_26, qdk_27, qdk_28, qdk_29, qdk_30, qdk_31, qdk_32, qdk_33, qdk_34, qdk_35, qdk_36, qdk_37, qdk_38, qdk_39, qdk_40, qdk_41, qdk_42, qdk_43, qdk_44, qdl_2, qdl_3, qdl_4, qdl_5, qdl_6, qdl_7, qdl_8, qdl_9, qdl_10, qdl_11, qdl_12, qdl_13, qdl_14, qdl_15, qdl_16, qdl_17, qdl_18, qdl_19, qdl_20, qdl_21, qdl_22, qdl_23, qdl_24, qdl_25, qdl_26, qdl_27, qdl_28, qdl_29, qdl_30, qdl_31, qdl_32, qdl_33, qdl_34, qdl_35, qdl_36, qdl_37, qdl_38, qdl_39, qdl_40, qdl_41, qdl_42, qdl_43, qdl_44, qdr_0, qdr_1, qdr_2, qdr_3, qdr_4, qdr_5, qdr_6, qdr_7, qdr_8, qdr_9, qdr_10, qdr_11, qdr_12, qdr_15, qdr_16, qdr_19, qdr_20, qdr_21, qdr_22, qdr_26, qdr_27, qdr_28, qdr_29, qdr_30, qdr_34, qdr_35, qdr_37, qdr_38, qdr_39, qdr_40, qdr_42, qdr_43, qdr_44, qdr_45, qdr_46, qdr_47, qdr_48, qdr_49, qdr_50, qdr_51, qdr_53, qdr_54, qdr_55, s1, s2, hll, h100]
    exact h124
  · simp (disch := omega) only [qU_s, qU_a, qU_k]
  · simp (disch := omega) only [qU_r]; exact r3.1 30 (by omega) (by omega)
  · simp (disch := omega) only [qU_r]; exact r3.1 31 (by omega) (by omega)
  · refine qRV_fr r2 (fun k hk => by simp (disch := omega) only [qU_s, qU_a, qU_k]) (fun a h1 h2 => by simp (disch := omega) only [qU_r]) ?_
    by_cases c0 : lvl = 0
    · rw [if_pos c0]; subst c0; exact qU_s ..
    · rw [if_neg c0, qU_k (by omega), qU_r (by omega)]; exact r2.2.2.2.2.2.2.2.2
  · intro a h1 h2; simp (disch := omega) only [qU_r]
  · intro k _ _ _ _ _ _ _ _; simp (disch := omega) only [qU_s, qU_a, qU_k]
  · intro j hj; simp (disch := omega) only [qU_s, qU_a, qU_k]
  · intro j hj; exact ⟨by simp (disch := omega) only [qU_s, qU_a, qU_k], by simp (disch := omega) only [qU_s, qU_a, qU_k]⟩
  · intro j hj; simp (disch := omega) only [qU_s, qU_a, qU_k]
theorem qRm_L {J : Nat → Nat → Int32} {a b c : Nat} (h : qRm I lvl a b c) (hb : a + b ≤ 600) (h30 : J 30 lvl = I 30 lvl) (h31 : ∀ j, j < 620 → J 31 (620 * lvl + j) = I 31 (620 * lvl + j)) : qRm J lvl a b c := by
  obtain ⟨m1, m2, m3, m4⟩ := h
  refine ⟨by rw [h30]; exact m1, fun j hj => by rw [h31 j (by omega)]; exact m2 j hj, fun h => ⟨(m3 h).1, by rw [h31 a (by omega)]; exact (m3 h).2⟩, fun j h1 h2 => by rw [h31 j (by omega)]; exact m4 j h1 h2⟩
theorem qREn_L {J : Nat → Nat → Int32} (h : qREn sw en I) (hf : qFrL lvl I J) : qREn sw en J := qREn_fr h fun a h1 h2 => hf.1 a (by omega) (by omega)
theorem qRk_L {J : Nat → Nat → Int32} (h : qRk I lvl ks) (hf : qFrL lvl I J) : qRk J lvl ks := qRk_fr h (hf.2.1 17 (by omega) (by omega) (by omega) (by omega) (by omega) (by omega) (by omega) (by omega)) (hf.2.2.1 lvl (by omega)) fun a h1 h2 => hf.1 a (by omega) (by omega)
/-- a token's step at a level -/
def qTokAt (G : qG) (sw : Nat → Nat) (en : Nat → List qK) (ent : Nat → Nat → qV → qV) (ks : List qK) (lvl D c p : Nat) (e : Int32) : Prop := ∀ i Q C I, qRG G I → qREn sw en I → qRk I lvl ks → I 28 lvl = e → qQok G C i Q → C + c ≤ 4320 → i < ks.length → qRst lvl i p Q I → ∃ d J, d ≤ D ∧ (∀ N, fX8_readsRow_58 (N + d) 1 (qD I) = fX8_readsRow_58 N 1 (qD J)) ∧ qRst lvl (i + 1) p (qStep G sw ent ks i p Q) J ∧ qFrL lvl I J
theorem rLoopE {D : Nat} {e : Int32} (hsw : ∀ j, j < 4 → sw j ≤ 2) (hc : 2 ≤ c) (hA : ∀ e p B V, e < 6 → p ≤ 600 → qVok G B V → qVok G (B + c) (ent e p V)) (hks : ∀ k ∈ ks, qKok k) (hp : p ≤ 600) (hT : qTokAt G sw en ent ks lvl D c p e) : ∀ m i Q C I, i + m = ks.length → C + c * m ≤ 4320 → qRG G I → qREn sw en I → qRk I lvl ks → I 28 lvl = e → qQok G C i Q → qRst lvl i p Q I → ∃ d J, d ≤ D * m ∧ (∀ N, fX8_readsRow_58 (N + d) 1 (qD I) = fX8_readsRow_58 N 1 (qD J)) ∧ qRst lvl ks.length p (qLoop G sw ent ks (some p) m i (Q, [])).1 J ∧ qFrL lvl I J := by
  intro m
  induction m with
  | zero =>
    intro i Q C I h1 h2 hG hE hk he hQ hS
    refine ⟨0, I, by omega, fun N => rfl, ?_, qFrL_refl _ I⟩
    rw [show ks.length = i by omega]
    exact hS
  | succ m ih =>
    intro i Q C I h1 h2 hG hE hk he hQ hS
    have hm : c * (m + 1) = c * m + c := Nat.mul_succ c m
    have hD : D * (m + 1) = D * m + D := Nat.mul_succ D m
    obtain ⟨d1, J, a1, a2, a3, a4⟩ := hT i Q C I hG hE hk he hQ (by omega) (by omega) hS
    have hs := qStep_ok (i := i) (p := p) hsw hc hA hks hp hQ
    obtain ⟨d2, K, b1, b2, b3, b4⟩ := ih (i + 1) _ (C + c) J (by omega) (by omega) (qFrL_G a4 hG) (qREn_L hE a4) (qRk_L hk a4) (by rw [a4.2.2.1 lvl (by omega)]; exact he) hs a3
    refine ⟨d2 + d1, K, by omega, fun N => ?_, b3, qFrL_tr a4 b4⟩
    rw [← Nat.add_assoc, a2, b2]
theorem rEntRow {D e : Nat} (he : e < 6) (hsw : ∀ j, j < 4 → sw j ≤ 2) (hEk : qEok sw en) (hc : 2 ≤ c) (hA : ∀ e p B V, e < 6 → p ≤ 600 → qVok G B V → qVok G (B + c) (ent e p V)) (hp : p ≤ 600) (hT : qTokAt G sw en ent (en e) (lvl + 1) D c p (qn e)) (hl : lvl < 2) (hpl : lvl = 0 → p = i) (hi9 : i < 1000) {Q : qQ} (hQ6 : Q.1 + Q.2.1 ≤ 600) (hok : qVok G B Q.2.2.2) (hB : B + c * 6 ≤ 4320) (hG : qRG G I) (hE : qREn sw en I) (hS : qRst lvl i p Q I) : ∃ d J, d ≤ D * 6 + 1 ∧ (∀ N, fX8_readsRow_58 (N + d) 1 (qD (qInto lvl (qn e) I)) = fX8_readsRow_154 (fX8_readsRow_58 N) 1 (qD J)) ∧ qRst lvl (i + 1) (if lvl = 0 then i + 1 else p) (Q.1, Q.2.1, Q.2.2.1, (qRow G sw ent (en e) (some p) Q.2.2.2 []).1) J ∧ qFrL lvl I J := by
  obtain ⟨t1, t2, t3, t4, t5⟩ := qInto_st hl hS (qn e)
  have hlen := (hEk.1 e he).1
  have hkk := (hEk.1 e he).2
  have hE2 := qREn_L hE t2
  have hk2 : qRk (qInto lvl (qn e) I) (lvl + 1) (en e) := by
    unfold qRk
    rw [if_neg (by omega)]
    exact ⟨e, he, t3, (hE2.1 e he).1, (hE2.1 e he).2⟩
  have hcm : c * (en e).length ≤ c * 6 := Nat.mul_le_mul_left c hlen
  have hDm : D * (en e).length ≤ D * 6 := Nat.mul_le_mul_left D hlen
  have hQ0 : qQok G B 0 (0, 0, 1, Q.2.2.2) := ⟨⟨B, hok, by show B + 0 + 0 ≤ B; omega⟩, by show 0 + 0 ≤ 0; omega, by show 1 ≤ 2; omega⟩
  obtain ⟨d, J, b1, b2, b3, b4⟩ := rLoopE hsw hc hA hkk hp hT (en e).length 0 _ B _ (by omega) (by omega) (qFrL_G t2 hG) hE2 hk2 t3 hQ0 t1
  have hL := (qLoop_ok (G := G) (sw := sw) (ent := ent) hsw hc hA hkk (by omega) (some p) (fun q h => by cases h; exact hp) (en e).length 0 B _ [] (by omega) hQ0 (fun x h => absurd h (by simp))).1
  rw [Nat.zero_add] at hL
  obtain ⟨⟨B2, v1, v2⟩, v3, v4⟩ := hL
  obtain ⟨K, k1, k2, k3⟩ := rRowEnd (Q0 := Q) hl hpl (qRk_L hk2 b4) (by omega) v1 (by omega) (by omega) b3 (i := i) (by rw [(b4.2.2.2.1 lvl (by omega)).1]; exact t4) hi9 (by
    exact qRm_L t5 hQ6 (b4.2.2.2.1 lvl (by omega)).2 fun j hj => b4.2.2.2.2 _ (by omega))
  refine ⟨d + 1, K, by omega, fun N => ?_, ?_, qFrL_tr t2 (qFrL_tr (qFrL_le b4 (by omega)) k3)⟩
  · rw [show N + (d + 1) = N + 1 + d by omega, b2, k1]
  · unfold qRow
    exact k2
theorem qEnt_step {Q : qQ} {v : Int32} {n : Nat} (hn : n < 6) (hv : v = qn n) (hg : ks[i]? = some (6, v)) (hc : Q.2.1 = 0) : qStep G sw ent ks i p Q = (Q.1, Q.2.1, Q.2.2.1, ent n p Q.2.2.2) := by
  unfold qStep qTok
  rw [hg]
  dsimp only
  rw [if_neg (by omega), if_neg (by omega), if_neg (by omega), if_neg (by omega), if_neg (by omega), if_neg (by omega), if_neg (by omega), if_neg (by omega), if_neg (by omega), if_pos rfl, hc, hv, qn_c (by omega)]
/-- within two entities -/
theorem rTok2 (hg9 : qGok G) (hEk : qEok sw en) (hks : ∀ k ∈ ks, qKok k) (hn : ks.length ≤ 6) (hp : p ≤ 600) (e : Int32) : qTokAt G sw en qEnt2 ks 2 1 2 p e := by
  intro i Q C I hG hE hk he hQ hC hil hS
  obtain ⟨⟨B, v1, v2⟩, v3, v4⟩ := hQ
  have hg2 : ks[i]? = some (ks[i].1, ks[i].2) := List.getElem?_eq_getElem hil
  have hJ : ∃ J, fX8_readsToken 1 (qD I) = some (qn 0, qD J) ∧ qRst 2 (i + 1) p (qStep G sw qEnt2 ks i p Q) J ∧ qFrL 2 I J := by
    by_cases c : 0 < Q.2.1 ∨ ks[i].1 ≠ 6
    · have := rTok (ent := qEnt2) hg9 (by omega) hG (by omega) v1 hp (by omega) hS (by omega) hk (by omega) (Or.inr hn) hks hE hEk hg2 c
      exact this
    · have h6 : ks[i].1 = 6 := by omega
      rw [h6] at hg2
      have := rRing (ent := qEnt2) (sw := sw) (by omega) (by omega) v1 (by omega) hS (by omega) hk (by omega) (Or.inr hn) hks hg2 (by omega) (Or.inl rfl) rfl
      exact this
  obtain ⟨J, j1, j2, j3⟩ := hJ
  refine ⟨1, J, by omega, fun N => ?_, j2, j3⟩
  rw [rRow58 (by omega) hS.1 hS.2.1 hk (by omega) hil j1, rKeepsNo _ (Or.inr ⟨2, by omega, by omega, j2.1⟩)]
/-- within one -/
theorem rTok1 (hg9 : qGok G) (hEk : qEok sw en) (hks : ∀ k ∈ ks, qKok k) (hn : ks.length ≤ 6) (hp : p ≤ 600) {e0 : Nat} (he0 : e0 < 6) : qTokAt G sw en (qEnt1 G sw en e0) ks 1 8 12 p (qn e0) := by
  intro i Q C I hG hE hk he hQ hC hil hS
  obtain ⟨⟨B, v1, v2⟩, v3, v4⟩ := hQ
  have hg2 : ks[i]? = some (ks[i].1, ks[i].2) := List.getElem?_eq_getElem hil
  by_cases c : 0 < Q.2.1 ∨ ks[i].1 ≠ 6
  · obtain ⟨J, j1, j2, j3⟩ := rTok (ent := qEnt1 G sw en e0) hg9 (by omega) hG (by omega) v1 hp (by omega) hS (by omega) hk (by omega) (Or.inr hn) hks hE hEk hg2 c
    refine ⟨1, J, by omega, fun N => ?_, j2, j3⟩
    rw [rRow58 (by omega) hS.1 hS.2.1 hk (by omega) hil j1, rKeepsNo _ (Or.inr ⟨1, by omega, by omega, j2.1⟩)]
  · have h6 : ks[i].1 = 6 := by omega
    have hkk := hks _ (List.getElem_mem hil)
    obtain ⟨n, n1, n2⟩ := hkk.2.2.2.1 h6
    rw [h6] at hg2
    by_cases cn : n = e0
    · have hev : I 28 1 = ks[i].2 := by rw [he, n2, cn]
      obtain ⟨J, j1, j2, j3⟩ := rRing (ent := qEnt1 G sw en e0) (by omega) (by omega) v1 (by omega) hS (by omega) hk (by omega) (Or.inr hn) hks hg2 (by omega) (Or.inr ⟨rfl, hev⟩) (by unfold qEnt1; rw [n2, qn_c (by omega), if_pos cn])
      refine ⟨1, J, by omega, fun N => ?_, j2, j3⟩
      rw [rRow58 (by omega) hS.1 hS.2.1 hk (by omega) hil j1, rKeepsNo _ (Or.inr ⟨1, by omega, by omega, j2.1⟩)]
    · have hin := rEnter (by omega) hS (by omega) hk (by omega) (Or.inr hn) hks hg2 (by omega) (fun _ h => by
        rw [he, n2, qn_eq (by omega) (by omega)] at h; exact cn h.symm)
      obtain ⟨d, J, d1, d2, d3, d4⟩ := rEntRow (D := 1) (c := 2) n1 hEk.2 hEk (by omega) qEnt2_ok hp (rTok2 hg9 hEk (hEk.1 n n1).2 (hEk.1 n n1).1 hp _) (by omega) (fun h => by omega) (by omega) (by omega) v1 (by omega) hG hE hS
      refine ⟨d + 1, J, by omega, fun N => ?_, ?_, d4⟩
      · rw [show N + (d + 1) = N + d + 1 by omega, rRow58 (by omega) hS.1 hS.2.1 hk (by omega) hil hin, n2, rKeepsNo _ (Or.inr ⟨2, by omega, by omega, (qInto_st (by omega) hS _).1.1⟩), d2, rKeepsNo _ (Or.inr ⟨1, by omega, by omega, d3.1⟩)]
      · rw [qEnt_step n1 n2 hg2 (by omega)]
        unfold qEnt1
        rw [if_neg cn]
        exact d3
end
