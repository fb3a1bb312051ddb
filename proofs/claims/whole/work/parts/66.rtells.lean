/-! THE REFERENCE: the states before a change; how many tokens are read anew -/
def qRXo (I : Nat → Nat → Int32) (X : List (qZ × Nat)) : Prop := qAll (fun j x => I 36 j = qn x.1.1.length ∧ I 38 j = qo x.1.2 ∧ I 39 j = qn x.2 ∧ qAll (fun k y => I 37 (20 * j + k) = qCd y) x.1.1) X
theorem qRXo_eq {I J : Nat → Nat → Int32} {X : List (qZ × Nat)} (h : qRXo I X) (hf : ∀ a, 36 ≤ a → a ≤ 39 → J a = I a) : qRXo J X := by
  unfold qRXo
  rw [hf 36 (by omega) (by omega), hf 37 (by omega) (by omega), hf 38 (by omega) (by omega), hf 39 (by omega) (by omega)]
  exact h
section
variable {I : Nat → Nat → Int32} {A : qA} {G : qG} {X X0 : List (qZ × Nat)}
theorem rKeepsOld48 (k2 : Nat → Int32 → zM → Option (Int32 × zM)) {u d : Nat} (hu : u ≤ 60) (hd : d ≤ 20) : ∀ n k I m, n + k = d → n < m → I 32 u = qn d → ∃ J, fX8_keepsOld_48 k2 m 1 (qn u) (qn k) (qD I) = k2 1 (qn (u + 1)) (qD J) ∧ (∀ a, a ≠ 37 → J a = I a) ∧ (∀ j, j < 20 * u + k ∨ 20 * u + d ≤ j → J 37 j = I 37 j) ∧ ∀ j, k ≤ j → j < d → J 37 (20 * u + j) = I 33 (20 * u + j) := by
  intro n
  induction n with
  | zero =>
    intro k I m h1 h2 h3
    obtain ⟨m, rfl⟩ : ∃ m', m = m' + 1 := ⟨m - 1, by omega⟩
    refine ⟨I, ?_, fun _ _ => rfl, fun _ _ => rfl, fun j _ _ => by omega⟩
    rw [fX8_keepsOld_48]
    unfold fX8_keepsOld_86
    simp (disch := omega) only [↓qlet, eq_self, qzg_t, qzb_some, ↓reduceIte, not_or, not_false_eq_true, not_true_eq_false, and_true, true_and, and_self, or_false, false_or, true_or, or_true, and_false, false_and, qlit, qneg, qof, qn_add, qn_mul, qn_s, qn_z, qn_d, qn_dz, qm_1, qt_1, qt_0, qb_0, qb_1, qb_01, qb01b, q01_0, q01_1, qo_s, qo_n, qn_c, qn_le, qn_lt, qn_eq, qn_ne_m, qm_ne_n, qm_lt, qm_le, qn_lt_m, qn_le_m, qn_sub, qn_div, qn_mod, qle_t, qle_f, qlt_t, qlt_f, qeq_t, qeq_f, Nat.add_sub_cancel, qD_I, qD_s, qU_s, qU_a, qU_k, qdk_1, qdk_2, qdk_3, qdk_4, qdk_5, qdk_6, qdk_7, qdk_8, qdk_9, qdk_10, qdk_11, qdk_12, qdk_13, qdk_14, qdk_15, qdk_16, qdk_17, qdk_18, qdk_19, qdk_20, qdk_21, qdk_22, qdk_23, qdk_24, qdk_25, qdk_26, qdk_27, qdk_28, qdk_29, qdk_30, qdk_31, qdk_32, qdk_33, qdk_34, qdk_35, qdk_36, qdk_37, qdk_38, qdk_39, qdk_40, qdk_41, qdk_42, qdk_43, qdk_44, qdl_2, qdl_3, qdl_4, qdl_5, qdl_6, qdl_7, qdl_8, qdl_9, qdl_10, qdl_11, qdl_12, qdl_13, qdl_14, qdl_15, qdl_16, qdl_17, qdl_18, qdl_19, qdl_20, qdl_21, qdl_22, qdl_23, qdl_24, qdl_25, qdl_26, qdl_27, qdl_28, qdl_29, qdl_30, qdl_31, qdl_32, qdl_33, qdl_34, qdl_35, qdl_36, qdl_37, qdl_38, qdl_39, qdl_40, qdl_41, qdl_42, qdl_43, qdl_44, qdr_0, qdr_1, qdr_2, qdr_3, qdr_4, qdr_5, qdr_6, qdr_7, qdr_8, qdr_9, qdr_10, qdr_11, qdr_12, qdr_15, qdr_16, qdr_19, qdr_20, qdr_21, qdr_22, qdr_26, qdr_27, qdr_28, qdr_29, qdr_30, qdr_34, qdr_35, qdr_37, qdr_38, qdr_39, qdr_40, qdr_42, qdr_43, qdr_44, qdr_45, qdr_46, qdr_47, qdr_48, qdr_49, qdr_50, qdr_51, qdr_53, qdr_54, qdr_55, h3]
  | succ n ih =>
    intro k I m h1 h2 h3
    obtain ⟨m, rfl⟩ : ∃ m', m = m' + 1 := ⟨m - 1, by omega⟩
    obtain ⟨J, j1, j2, j3, j4⟩ := ih (k + 1) (qU I 37 (20 * u + k) (I 33 (20 * u + k))) m (by omega) (by omega) (by rw [qU_r (by omega)]; exact h3)
    refine ⟨J, ?_, fun a ha => by rw [j2 a ha, qU_r ha], fun j hj => by rw [j3 j (by omega), qU_k (by omega)], fun j h4 h5 => ?_⟩
    · rw [fX8_keepsOld_48]
      simp (disch := omega) only [↓qlet, eq_self, qzg_t, qzb_some, ↓reduceIte, not_or, not_false_eq_true, not_true_eq_false, and_true, true_and, and_self, or_false, false_or, true_or, or_true, and_false, false_and, qlit, qneg, qof, qn_add, qn_mul, qn_s, qn_z, qn_d, qn_dz, qm_1, qt_1, qt_0, qb_0, qb_1, qb_01, qb01b, q01_0, q01_1, qo_s, qo_n, qn_c, qn_le, qn_lt, qn_eq, qn_ne_m, qm_ne_n, qm_lt, qm_le, qn_lt_m, qn_le_m, qn_sub, qn_div, qn_mod, qle_t, qle_f, qlt_t, qlt_f, qeq_t, qeq_f, Nat.add_sub_cancel, qD_I, qD_s, qU_s, qU_a, qU_k, qdk_1, qdk_2, qdk_3, qdk_4, qdk_5, qdk_6, qdk_7, qdk_8, qdk_9, qdk_10, qdk_11, qdk_12, qdk_13, qdk_14, qdk_15, qdk_16, qdk_17, qdk_18, qdk_19, qdk_20, qdk_21, qdk_22, qdk_23, qdk_24, qdk_25, qdk_26, qdk_27, qdk_28, qdk_29, qdk_30, qdk_31, qdk_32, qdk_33, qdk_34, qdk_35, qdk_36, qdk_37, qdk_38, qdk_39, qdk_40, qdk_41, qdk_42, qdk_43, qdk_44, qdl_2, qdl_3, qdl_4, qdl_5, qdl_6, qdl_7, qdl_8, qdl_9, qdl_10, qdl_11, qdl_12, qdl_13, qdl_14, qdl_15, qdl_16, qdl_17, qdl_18, qdl_19, qdl_20, qdl_21, qdl_22, qdl_23, qdl_24, qdl_25, qdl_26, qdl_27, qdl_28, qdl_29, qdl_30, qdl_31, qdl_32, qdl_33, qdl_34, qdl_35, qdl_36, qdl_37, qdl_38, qdl_39, qdl_40, qdl_41, qdl_42, qdl_43, qdl_44, qdr_0, qdr_1, qdr_2, qdr_3, qdr_4, qdr_5, qdr_6, qdr_7, qdr_8, qdr_9, qdr_10, qdr_11, qdr_12, qdr_15, qdr_16, qdr_19, qdr_20, qdr_21, qdr_22, qdr_26, qdr_27, qdr_28, qdr_29, qdr_30, qdr_34, qdr_35, qdr_37, qdr_38, qdr_39, qdr_40, qdr_42, qdr_43, qdr_44, qdr_45, qdr_46, qdr_47, qdr_48, qdr_49, qdr_50, qdr_51, qdr_53, qdr_54, qdr_55, h3]
      exact j1
    · by_cases c : j = k
      · subst c; rw [j3 _ (by omega), qU_s]
      · rw [j4 j (by omega) h5, qU_r (by omega)]
theorem rKeepsOld2 {len : Nat} (hl : len ≤ 60) (hX : ∀ x ∈ X, x.1.1.length ≤ 20) (hXl : X.length = len + 1) : ∀ n u I m, n + u = len + 1 → n < m → I 1 13 = qn len → qRX I X → ∃ J, fX8_keepsOld_2 m 1 (qn u) (qD I) = some (qn 0, qD J) ∧ (∀ a, a ≤ 35 ∨ 40 ≤ a → J a = I a) ∧ (∀ j, j < u → J 36 j = I 36 j ∧ J 38 j = I 38 j ∧ J 39 j = I 39 j) ∧ (∀ j, j < 20 * u → J 37 j = I 37 j) ∧ ∀ j x, u ≤ j → X.reverse[j]? = some x → J 36 j = qn x.1.1.length ∧ J 38 j = qo x.1.2 ∧ J 39 j = qn x.2 ∧ qAll (fun k y => J 37 (20 * j + k) = qCd y) x.1.1 := by
  intro n
  induction n with
  | zero =>
    intro u I m h1 h2 h3 hx
    obtain ⟨m, rfl⟩ : ∃ m', m = m' + 1 := ⟨m - 1, by omega⟩
    refine ⟨I, ?_, fun _ _ => rfl, fun _ _ => ⟨rfl, rfl, rfl⟩, fun _ _ => rfl, fun j x h4 h5 => ?_⟩
    · rw [fX8_keepsOld_2]
      simp (disch := omega) only [↓qlet, eq_self, qzg_t, qzb_some, ↓reduceIte, not_or, not_false_eq_true, not_true_eq_false, and_true, true_and, and_self, or_false, false_or, true_or, or_true, and_false, false_and, qlit, qneg, qof, qn_add, qn_mul, qn_s, qn_z, qn_d, qn_dz, qm_1, qt_1, qt_0, qb_0, qb_1, qb_01, qb01b, q01_0, q01_1, qo_s, qo_n, qn_c, qn_le, qn_lt, qn_eq, qn_ne_m, qm_ne_n, qm_lt, qm_le, qn_lt_m, qn_le_m, qn_sub, qn_div, qn_mod, qle_t, qle_f, qlt_t, qlt_f, qeq_t, qeq_f, Nat.add_sub_cancel, qD_I, qD_s, qU_s, qU_a, qU_k, qdk_1, qdk_2, qdk_3, qdk_4, qdk_5, qdk_6, qdk_7, qdk_8, qdk_9, qdk_10, qdk_11, qdk_12, qdk_13, qdk_14, qdk_15, qdk_16, qdk_17, qdk_18, qdk_19, qdk_20, qdk_21, qdk_22, qdk_23, qdk_24, qdk_25, qdk_26, qdk_27, qdk_28, qdk_29, qdk_30, qdk_31, qdk_32, qdk_33, qdk_34, qdk_35, qdk_36, qdk_37, qdk_38, qdk_39, qdk_40, qdk_41, qdk_42, qdk_43, qdk_44, qdl_2, qdl_3, qdl_4, qdl_5, qdl_6, qdl_7, qdl_8, qdl_9, qdl_10, qdl_11, qdl_12, qdl_13, qdl_14, qdl_15, qdl_16, qdl_17, qdl_18, qdl_19, qdl_20, qdl_21, qdl_22, qdl_23, qdl_24, qdl_25, qdl_26, qdl_27, qdl_28, qdl_29, qdl_30, qdl_31, qdl_32, qdl_33, qdl_34, qdl_35, qdl_36, qdl_37, qdl_38, qdl_39, qdl_40, qdl_41, qdl_42, qdl_43, qdl_44, qdr_0, qdr_1, qdr_2, qdr_3, qdr_4, qdr_5, qdr_6, qdr_7, qdr_8, qdr_9, qdr_10, qdr_11, qdr_12, qdr_15, qdr_16, qdr_19, qdr_20, qdr_21, qdr_22, qdr_26, qdr_27, qdr_28, qdr_29, qdr_30, qdr_34, qdr_35, qdr_37, qdr_38, qdr_39, qdr_40, qdr_42, qdr_43, qdr_44, qdr_45, qdr_46, qdr_47, qdr_48, qdr_49, qdr_50, qdr_51, qdr_53, qdr_54, qdr_55, h3]
    · have := (List.getElem?_eq_some_iff.mp h5).1
      rw [List.length_reverse] at this
      omega
  | succ n ih =>
    intro u I m h1 h2 h3 hx
    obtain ⟨m, rfl⟩ : ∃ m', m = m' + 1 := ⟨m - 1, by omega⟩
    obtain ⟨x, hgx⟩ : ∃ x, X.reverse[u]? = some x := ⟨_, List.getElem?_eq_getElem (by rw [List.length_reverse]; omega)⟩
    have hxm : x ∈ X := List.mem_reverse.mp (List.mem_of_getElem? hgx)
    obtain ⟨x1, x2, x3, x4⟩ := qAll_rev hx hgx
    have hx20 := hX x hxm
    obtain ⟨I1, hI1⟩ : ∃ I1, I1 = qU (qU (qU I 36 u (qn x.1.1.length)) 38 u (qo x.1.2)) 39 u (qn x.2) := ⟨_, rfl⟩
    have i1 : ∀ a, a ≠ 36 → a ≠ 38 → a ≠ 39 → I1 a = I a := fun a h4 h5 h6 => by rw [hI1]; simp (disch := omega) only [qU_r]
    obtain ⟨J, j1, j2, j3, j4⟩ := rKeepsOld48 (fX8_keepsOld_2 m) (u := u) (by omega) hx20 x.1.1.length 0 I1 10000 (by omega) (by omega) (by rw [i1 _ (by omega) (by omega) (by omega)]; exact x1)
    have jX : qRX J X := qRX_eq hx fun a h4 h5 => by rw [j2 a (by omega), i1 a (by omega) (by omega) (by omega)]
    obtain ⟨K, k1, k2, k3, k4, k5⟩ := ih (u + 1) J m (by omega) (by omega) (by rw [j2 1 (by omega), i1 1 (by omega) (by omega) (by omega)]; exact h3) jX
    refine ⟨K, ?_, fun a ha => by rw [k2 a ha, j2 a (by omega), i1 a (by omega) (by omega) (by omega)], fun j hj => ?_, fun j hj => ?_, fun j y h4 h5 => ?_⟩
    · rw [fX8_keepsOld_2]
      rw [hI1] at j1
      simp (disch := omega) only [↓qlet, eq_self, qzg_t, qzb_some, ↓reduceIte, not_or, not_false_eq_true, not_true_eq_false, and_true, true_and, and_self, or_false, false_or, true_or, or_true, and_false, false_and, qlit, qneg, qof, qn_add, qn_mul, qn_s, qn_z, qn_d, qn_dz, qm_1, qt_1, qt_0, qb_0, qb_1, qb_01, qb01b, q01_0, q01_1, qo_s, qo_n, qn_c, qn_le, qn_lt, qn_eq, qn_ne_m, qm_ne_n, qm_lt, qm_le, qn_lt_m, qn_le_m, qn_sub, qn_div, qn_mod, qle_t, qle_f, qlt_t, qlt_f, qeq_t, qeq_f, Nat.add_sub_cancel, qD_I, qD_s, qU_s, qU_a, qU_k, qdk_1, qdk_2, qdk_3, qdk_4, qdk_5, qdk_6, qdk_7, qdk_8, qdk_9, qdk_10, qdk_11, qdk_12, qdk_13, qdk_14, qdk_15, qdk_16, qdk_17, qdk_18, qdk_19, qdk_20, qdk_21, qdk_22, qdk_23, qdk_24, qdk_25, qdk_26, qdk_27, qdk_28, qdk_29, qdk_30, qdk_31, qdk_32, qdk_33, qdk_34, qdk_35, qdk_36, qdk_37, qdk_38, qdk_39, qdk_40, qdk_41, qdk_42, qdk_43, qdk_44, qdl_2, qdl_3, qdl_4, qdl_5, qdl_6, qdl_7, qdl_8, qdl_9, qdl_10, qdl_11, qdl_12, qdl_13, qdl_14, qdl_15, qdl_16, qdl_17, qdl_18, qdl_19, qdl_20, qdl_21, qdl_22, qdl_23, qdl_24, qdl_25, qdl_26, qdl_27, qdl_28, qdl_29, qdl_30, qdl_31, qdl_32, qdl_33, qdl_34, qdl_35, qdl_36, qdl_37, qdl_38, qdl_39, qdl_40, qdl_41, qdl_42, qdl_43, qdl_44, qdr_0, qdr_1, qdr_2, qdr_3, qdr_4, qdr_5, qdr_6, qdr_7, qdr_8, qdr_9, qdr_10, qdr_11, qdr_12, qdr_15, qdr_16, qdr_19, qdr_20, qdr_21, qdr_22, qdr_26, qdr_27, qdr_28, qdr_29, qdr_30, qdr_34, qdr_35, qdr_37, qdr_38, qdr_39, qdr_40, qdr_42, qdr_43, qdr_44, qdr_45, qdr_46, qdr_47, qdr_48, qdr_49, qdr_50, qdr_51, qdr_53, qdr_54, qdr_55, h3, x1, x2, x3, j1]
      exact k1
    · obtain ⟨e1, e2, e3⟩ := k3 j (by omega)
      rw [e1, e2, e3, j2 36 (by omega), j2 38 (by omega), j2 39 (by omega), hI1]
      exact ⟨by simp (disch := omega) only [qU_s, qU_a, qU_k], by simp (disch := omega) only [qU_s, qU_a, qU_k], by simp (disch := omega) only [qU_s, qU_a, qU_k]⟩
    · rw [k4 j (by omega), j3 j (by omega), i1 37 (by omega) (by omega) (by omega)]
    · by_cases c : j = u
      · subst c
        rw [hgx] at h5
        cases h5
        obtain ⟨e1, e2, e3⟩ := k3 j (by omega)
        rw [e1, e2, e3, j2 36 (by omega), j2 38 (by omega), j2 39 (by omega), hI1]
        refine ⟨by simp (disch := omega) only [qU_s, qU_a, qU_k], by simp (disch := omega) only [qU_s, qU_a, qU_k], by simp (disch := omega) only [qU_s, qU_a, qU_k], qAll_mono x4 fun k y hk _ hp => ?_⟩
        rw [k4 _ (by omega), j4 k (by omega) hk, i1 33 (by omega) (by omega) (by omega)]
        exact hp
      · exact k5 j y (by omega) h5
theorem rKeepsOld {len : Nat} (hl : len ≤ 60) (hX : ∀ x ∈ X, x.1.1.length ≤ 20) (hXl : X.length = len + 1) (h13 : I 1 13 = qn len) (hx : qRX I X) : ∃ J, fX8_keepsOld 1 (qD I) = some (qn 0, qD J) ∧ (∀ a, a ≤ 35 ∨ 40 ≤ a → J a = I a) ∧ qRXo J X := by
  obtain ⟨J, j1, j2, j3, j4, j5⟩ := rKeepsOld2 hl hX hXl (len + 1) 0 I 10000 (by omega) (by omega) h13 hx
  exact ⟨J, j1, j2, qAll_of_rev fun j x hj => j5 j x (by omega) hj⟩
/-- two stacks by their codes -/
def qEqF (S S0 : List (Nat × Nat)) : Nat → Nat → Bool
  | 0, _ => true
  | n + 1, k => decide ((S.reverse[k]?).map qCd = (S0.reverse[k]?).map qCd) && qEqF S S0 n (k + 1)
theorem rBefore_57 {S S0 : List (Nat × Nat)} {s b : Nat} (hs : s ≤ 60) (hb : b ≤ 60) (hS : S.length ≤ 20) (hS0 : S0.length = S.length) (h32 : I 32 s = qn S.length) (h33 : qAll (fun k y => I 33 (20 * s + k) = qCd y) S) (h37 : qAll (fun k y => I 37 (20 * b + k) = qCd y) S0) : ∀ n k m (z : Bool), n + k = S.length → n < m → fX8_isAsBefore_57 m 1 (qn s) (qn b) (qb z) (qn k) (qD I) = some (qb (z && qEqF S S0 n k), qD I) := by
  intro n
  induction n with
  | zero =>
    intro k m z h1 h2
    obtain ⟨m, rfl⟩ : ∃ m', m = m' + 1 := ⟨m - 1, by omega⟩
    rw [fX8_isAsBefore_57]
    unfold qEqF
    cases z with
    | false => simp (disch := omega) only [↓qlet, eq_self, qzg_t, qzb_some, ↓reduceIte, not_or, not_false_eq_true, not_true_eq_false, and_true, true_and, and_self, or_false, false_or, true_or, or_true, and_false, false_and, qlit, qneg, qof, qn_add, qn_mul, qn_s, qn_z, qn_d, qn_dz, qm_1, qt_1, qt_0, qb_0, qb_1, qb_01, qb01b, q01_0, q01_1, qo_s, qo_n, qn_c, qn_le, qn_lt, qn_eq, qn_ne_m, qm_ne_n, qm_lt, qm_le, qn_lt_m, qn_le_m, qn_sub, qn_div, qn_mod, qle_t, qle_f, qlt_t, qlt_f, qeq_t, qeq_f, Nat.add_sub_cancel, qD_I, qD_s, qU_s, qU_a, qU_k, qdk_1, qdk_2, qdk_3, qdk_4, qdk_5, qdk_6, qdk_7, qdk_8, qdk_9, qdk_10, qdk_11, qdk_12, qdk_13, qdk_14, qdk_15, qdk_16, qdk_17, qdk_18, qdk_19, qdk_20, qdk_21, qdk_22, qdk_23, qdk_24, qdk_25, qdk_26, qdk_27, qdk_28, qdk_29, qdk_30, qdk_31, qdk_32, qdk_33, qdk_34, qdk_35, qdk_36, qdk_37, qdk_38, qdk_39, qdk_40, qdk_41, qdk_42, qdk_43, qdk_44, qdl_2, qdl_3, qdl_4, qdl_5, qdl_6, qdl_7, qdl_8, qdl_9, qdl_10, qdl_11, qdl_12, qdl_13, qdl_14, qdl_15, qdl_16, qdl_17, qdl_18, qdl_19, qdl_20, qdl_21, qdl_22, qdl_23, qdl_24, qdl_25, qdl_26, qdl_27, qdl_28, qdl_29, qdl_30, qdl_31, qdl_32, qdl_33, qdl_34, qdl_35, qdl_36, qdl_37, qdl_38, qdl_39, qdl_40, qdl_41, qdl_42, qdl_43, qdl_44, qdr_0, qdr_1, qdr_2, qdr_3, qdr_4, qdr_5, qdr_6, qdr_7, qdr_8, qdr_9, qdr_10, qdr_11, qdr_12, qdr_15, qdr_16, qdr_19, qdr_20, qdr_21, qdr_22, qdr_26, qdr_27, qdr_28, qdr_29, qdr_30, qdr_34, qdr_35, qdr_37, qdr_38, qdr_39, qdr_40, qdr_42, qdr_43, qdr_44, qdr_45, qdr_46, qdr_47, qdr_48, qdr_49, qdr_50, qdr_51, qdr_53, qdr_54, qdr_55, qb_f, Bool.false_and]
    | true => simp (disch := omega) only [↓qlet, eq_self, qzg_t, qzb_some, ↓reduceIte, not_or, not_false_eq_true, not_true_eq_false, and_true, true_and, and_self, or_false, false_or, true_or, or_true, and_false, false_and, qlit, qneg, qof, qn_add, qn_mul, qn_s, qn_z, qn_d, qn_dz, qm_1, qt_1, qt_0, qb_0, qb_1, qb_01, qb01b, q01_0, q01_1, qo_s, qo_n, qn_c, qn_le, qn_lt, qn_eq, qn_ne_m, qm_ne_n, qm_lt, qm_le, qn_lt_m, qn_le_m, qn_sub, qn_div, qn_mod, qle_t, qle_f, qlt_t, qlt_f, qeq_t, qeq_f, Nat.add_sub_cancel, qD_I, qD_s, qU_s, qU_a, qU_k, qdk_1, qdk_2, qdk_3, qdk_4, qdk_5, qdk_6, qdk_7, qdk_8, qdk_9, qdk_10, qdk_11, qdk_12, qdk_13, qdk_14, qdk_15, qdk_16, qdk_17, qdk_18, qdk_19, qdk_20, qdk_21, qdk_22, qdk_23, qdk_24, qdk_25, qdk_26, qdk_27, qdk_28, qdk_29, qdk_30, qdk_31, qdk_32, qdk_33, qdk_34, qdk_35, qdk_36, qdk_37, qdk_38, qdk_39, qdk_40, qdk_41, qdk_42, qdk_43, qdk_44, qdl_2, qdl_3, qdl_4, qdl_5, qdl_6, qdl_7, qdl_8, qdl_9, qdl_10, qdl_11, qdl_12, qdl_13, qdl_14, qdl_15, qdl_16, qdl_17, qdl_18, qdl_19, qdl_20, qdl_21, qdl_22, qdl_23, qdl_24, qdl_25, qdl_26, qdl_27, qdl_28, qdl_29, qdl_30, qdl_31, qdl_32, qdl_33, qdl_34, qdl_35, qdl_36, qdl_37, qdl_38, qdl_39, qdl_40, qdl_41, qdl_42, qdl_43, qdl_44, qdr_0, qdr_1, qdr_2, qdr_3, qdr_4, qdr_5, qdr_6, qdr_7, qdr_8, qdr_9, qdr_10, qdr_11, qdr_12, qdr_15, qdr_16, qdr_19, qdr_20, qdr_21, qdr_22, qdr_26, qdr_27, qdr_28, qdr_29, qdr_30, qdr_34, qdr_35, qdr_37, qdr_38, qdr_39, qdr_40, qdr_42, qdr_43, qdr_44, qdr_45, qdr_46, qdr_47, qdr_48, qdr_49, qdr_50, qdr_51, qdr_53, qdr_54, qdr_55, qb_t, h32, Bool.and_self]
  | succ n ih =>
    intro k m z h1 h2
    obtain ⟨m, rfl⟩ : ∃ m', m = m' + 1 := ⟨m - 1, by omega⟩
    rw [fX8_isAsBefore_57]
    cases z with
    | false => simp (disch := omega) only [↓qlet, eq_self, qzg_t, qzb_some, ↓reduceIte, not_or, not_false_eq_true, not_true_eq_false, and_true, true_and, and_self, or_false, false_or, true_or, or_true, and_false, false_and, qlit, qneg, qof, qn_add, qn_mul, qn_s, qn_z, qn_d, qn_dz, qm_1, qt_1, qt_0, qb_0, qb_1, qb_01, qb01b, q01_0, q01_1, qo_s, qo_n, qn_c, qn_le, qn_lt, qn_eq, qn_ne_m, qm_ne_n, qm_lt, qm_le, qn_lt_m, qn_le_m, qn_sub, qn_div, qn_mod, qle_t, qle_f, qlt_t, qlt_f, qeq_t, qeq_f, Nat.add_sub_cancel, qD_I, qD_s, qU_s, qU_a, qU_k, qdk_1, qdk_2, qdk_3, qdk_4, qdk_5, qdk_6, qdk_7, qdk_8, qdk_9, qdk_10, qdk_11, qdk_12, qdk_13, qdk_14, qdk_15, qdk_16, qdk_17, qdk_18, qdk_19, qdk_20, qdk_21, qdk_22, qdk_23, qdk_24, qdk_25, qdk_26, qdk_27, qdk_28, qdk_29, qdk_30, qdk_31, qdk_32, qdk_33, qdk_34, qdk_35, qdk_36, qdk_37, qdk_38, qdk_39, qdk_40, qdk_41, qdk_42, qdk_43, qdk_44, qdl_2, qdl_3, qdl_4, qdl_5, qdl_6, qdl_7, qdl_8, qdl_9, qdl_10, qdl_11, qdl_12, qdl_13, qdl_14, qdl_15, qdl_16, qdl_17, qdl_18, qdl_19, qdl_20, qdl_21, qdl_22, qdl_23, qdl_24, qdl_25, qdl_26, qdl_27, qdl_28, qdl_29, qdl_30, qdl_31, qdl_32, qdl_33, qdl_34, qdl_35, qdl_36, qdl_37, qdl_38, qdl_39, qdl_40, qdl_41, qdl_42, qdl_43, qdl_44, qdr_0, qdr_1, qdr_2, qdr_3, qdr_4, qdr_5, qdr_6, qdr_7, qdr_8, qdr_9, qdr_10, qdr_11, qdr_12, qdr_15, qdr_16, qdr_19, qdr_20, qdr_21, qdr_22, qdr_26, qdr_27, qdr_28, qdr_29, qdr_30, qdr_34, qdr_35, qdr_37, qdr_38, qdr_39, qdr_40, qdr_42, qdr_43, qdr_44, qdr_45, qdr_46, qdr_47, qdr_48, qdr_49, qdr_50, qdr_51, qdr_53, qdr_54, qdr_55, qb_f, Bool.false_and]
    | true =>
      obtain ⟨x, hgx⟩ : ∃ x, S.reverse[k]? = some x := ⟨_, List.getElem?_eq_getElem (by rw [List.length_reverse]; omega)⟩
      obtain ⟨y, hgy⟩ : ∃ y, S0.reverse[k]? = some y := ⟨_, List.getElem?_eq_getElem (by rw [List.length_reverse]; omega)⟩
      have e1 : I 33 (20 * s + k) = qCd x := qAll_rev h33 hgx
      have e2 : I 37 (20 * b + k) = qCd y := qAll_rev h37 hgy
      unfold qEqF fX8_isAsBefore_104
      rw [hgx, hgy, Option.map_some, Option.map_some]
      by_cases c : qCd x = qCd y
      · have ih := ih (k + 1) m true (by omega) (by omega)
        rw [qb_t] at ih
        rw [decide_eq_true (by rw [c])]
        simp (disch := omega) only [↓qlet, eq_self, qzg_t, qzb_some, ↓reduceIte, not_or, not_false_eq_true, not_true_eq_false, and_true, true_and, and_self, or_false, false_or, true_or, or_true, and_false, false_and, qlit, qneg, qof, qn_add, qn_mul, qn_s, qn_z, qn_d, qn_dz, qm_1, qt_1, qt_0, qb_0, qb_1, qb_01, qb01b, q01_0, q01_1, qo_s, qo_n, qn_c, qn_le, qn_lt, qn_eq, qn_ne_m, qm_ne_n, qm_lt, qm_le, qn_lt_m, qn_le_m, qn_sub, qn_div, qn_mod, qle_t, qle_f, qlt_t, qlt_f, qeq_t, qeq_f, Nat.add_sub_cancel, qD_I, qD_s, qU_s, qU_a, qU_k, qdk_1, qdk_2, qdk_3, qdk_4, qdk_5, qdk_6, qdk_7, qdk_8, qdk_9, qdk_10, qdk_11, qdk_12, qdk_13, qdk_14, qdk_15, qdk_16, qdk_17, qdk_18, qdk_19, qdk_20, qdk_21, qdk_22, qdk_23, qdk_24, qdk_25, qdk_26, qdk_27, qdk_28, qdk_29, qdk_30, qdk_31, qdk_32, qdk_33, qdk_34, qdk_35, qdk_36, qdk_37, qdk_38, qdk_39, qdk_40, qdk_41, qdk_42, qdk_43, qdk_44, qdl_2, qdl_3, qdl_4, qdl_5, qdl_6, qdl_7, qdl_8, qdl_9, qdl_10, qdl_11, qdl_12, qdl_13, qdl_14, qdl_15, qdl_16, qdl_17, qdl_18, qdl_19, qdl_20, qdl_21, qdl_22, qdl_23, qdl_24, qdl_25, qdl_26, qdl_27, qdl_28, qdl_29, qdl_30, qdl_31, qdl_32, qdl_33, qdl_34, qdl_35, qdl_36, qdl_37, qdl_38, qdl_39, qdl_40, qdl_41, qdl_42, qdl_43, qdl_44, qdr_0, qdr_1, qdr_2, qdr_3, qdr_4, qdr_5, qdr_6, qdr_7, qdr_8, qdr_9, qdr_10, qdr_11, qdr_12, qdr_15, qdr_16, qdr_19, qdr_20, qdr_21, qdr_22, qdr_26, qdr_27, qdr_28, qdr_29, qdr_30, qdr_34, qdr_35, qdr_37, qdr_38, qdr_39, qdr_40, qdr_42, qdr_43, qdr_44, qdr_45, qdr_46, qdr_47, qdr_48, qdr_49, qdr_50, qdr_51, qdr_53, qdr_54, qdr_55, qb_t, h32, e1, e2, c, ih, Bool.true_and]
      · have ih := ih (k + 1) m false (by omega) (by omega)
        rw [qb_f] at ih
        rw [decide_eq_false (fun h => c (Option.some.inj h))]
        simp (disch := omega) only [↓qlet, eq_self, qzg_t, qzb_some, ↓reduceIte, not_or, not_false_eq_true, not_true_eq_false, and_true, true_and, and_self, or_false, false_or, true_or, or_true, and_false, false_and, qlit, qneg, qof, qn_add, qn_mul, qn_s, qn_z, qn_d, qn_dz, qm_1, qt_1, qt_0, qb_0, qb_1, qb_01, qb01b, q01_0, q01_1, qo_s, qo_n, qn_c, qn_le, qn_lt, qn_eq, qn_ne_m, qm_ne_n, qm_lt, qm_le, qn_lt_m, qn_le_m, qn_sub, qn_div, qn_mod, qle_t, qle_f, qlt_t, qlt_f, qeq_t, qeq_f, Nat.add_sub_cancel, qD_I, qD_s, qU_s, qU_a, qU_k, qdk_1, qdk_2, qdk_3, qdk_4, qdk_5, qdk_6, qdk_7, qdk_8, qdk_9, qdk_10, qdk_11, qdk_12, qdk_13, qdk_14, qdk_15, qdk_16, qdk_17, qdk_18, qdk_19, qdk_20, qdk_21, qdk_22, qdk_23, qdk_24, qdk_25, qdk_26, qdk_27, qdk_28, qdk_29, qdk_30, qdk_31, qdk_32, qdk_33, qdk_34, qdk_35, qdk_36, qdk_37, qdk_38, qdk_39, qdk_40, qdk_41, qdk_42, qdk_43, qdk_44, qdl_2, qdl_3, qdl_4, qdl_5, qdl_6, qdl_7, qdl_8, qdl_9, qdl_10, qdl_11, qdl_12, qdl_13, qdl_14, qdl_15, qdl_16, qdl_17, qdl_18, qdl_19, qdl_20, qdl_21, qdl_22, qdl_23, qdl_24, qdl_25, qdl_26, qdl_27, qdl_28, qdl_29, qdl_30, qdl_31, qdl_32, qdl_33, qdl_34, qdl_35, qdl_36, qdl_37, qdl_38, qdl_39, qdl_40, qdl_41, qdl_42, qdl_43, qdl_44, qdr_0, qdr_1, qdr_2, qdr_3, qdr_4, qdr_5, qdr_6, qdr_7, qdr_8, qdr_9, qdr_10, qdr_11, qdr_12, qdr_15, qdr_16, qdr_19, qdr_20, qdr_21, qdr_22, qdr_26, qdr_27, qdr_28, qdr_29, qdr_30, qdr_34, qdr_35, qdr_37, qdr_38, qdr_39, qdr_40, qdr_42, qdr_43, qdr_44, qdr_45, qdr_46, qdr_47, qdr_48, qdr_49, qdr_50, qdr_51, qdr_53, qdr_54, qdr_55, qb_t, qb_f, h32, e1, e2, c, ih, Bool.true_and, Bool.false_and]
theorem qEqF_is {S S0 : List (Nat × Nat)} (hS : ∀ x ∈ S, x.2 < 16 ∧ x.1 < 10) (hS0 : ∀ x ∈ S0, x.2 < 16 ∧ x.1 < 10) (hl : S0.length = S.length) : ∀ n k, n + k = S.length → qEqF S S0 n k = decide (S.reverse.drop k = S0.reverse.drop k) := by
  intro n
  induction n with
  | zero =>
    intro k h1
    unfold qEqF
    rw [List.drop_of_length_le (by rw [List.length_reverse]; omega), List.drop_of_length_le (by rw [List.length_reverse]; omega)]
    simp
  | succ n ih =>
    intro k h1
    have d1 : S.reverse.drop k = S.reverse[k]'(by rw [List.length_reverse]; omega) :: S.reverse.drop (k + 1) := List.drop_eq_getElem_cons _
    have d2 : S0.reverse.drop k = S0.reverse[k]'(by rw [List.length_reverse]; omega) :: S0.reverse.drop (k + 1) := List.drop_eq_getElem_cons _
    obtain ⟨x, hx⟩ : ∃ x, x = S.reverse[k]'(by rw [List.length_reverse]; omega) := ⟨_, rfl⟩
    obtain ⟨y, hy⟩ : ∃ y, y = S0.reverse[k]'(by rw [List.length_reverse]; omega) := ⟨_, rfl⟩
    have gx : S.reverse[k]? = some x := by rw [hx]; exact List.getElem?_eq_getElem _
    have gy : S0.reverse[k]? = some y := by rw [hy]; exact List.getElem?_eq_getElem _
    have mx := hS x (List.mem_reverse.mp (List.mem_of_getElem? gx))
    have my := hS0 y (List.mem_reverse.mp (List.mem_of_getElem? gy))
    have hcd : qCd x = qCd y ↔ x = y := by
      constructor
      · intro h
        unfold qCd at h
        rw [qn_eq (by omega) (by omega)] at h
        exact Prod.ext (by omega) (by omega)
      · intro h; rw [h]
    unfold qEqF
    rw [gx, gy, ih (k + 1) (by omega), d1, d2, ← hx, ← hy, Option.map_some, Option.map_some]
    by_cases c : x = y
    · rw [decide_eq_true (by rw [c]), Bool.true_and]
      refine decide_eq_decide.mpr ⟨fun h => by rw [c, h], fun h => (List.cons.inj h).2⟩
    · rw [decide_eq_false (fun h => c (hcd.mp (Option.some.inj h))), Bool.false_and]
      exact (decide_eq_false fun h => c (List.cons.inj h).1).symm
end
