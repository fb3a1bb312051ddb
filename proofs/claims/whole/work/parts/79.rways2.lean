/-! THE REFERENCE: ways, whole -/
section
variable {I : Nat → Nat → Int32} {A : qA} {G : qG} {sw : Nat → Nat} {en : Nat → List qK} {ks : List qK}
theorem rC19 (hg : qGok G) (hEk : qEok sw en) (hs : ∀ k ∈ ks, qSimp k) (h6 : ks.length ≤ 6) : ∀ n i f I m, n + i = ks.length + 1 → n < m → f ≤ 1000 → qWn G sw en ks I → ∃ J, fX8_countWays_19 m 1 (qn f) (qn i) (qD I) = some (qn (min 1000 (f + qC19 G ks n i)), qD J) ∧ qFrW I J := by
  intro n
  induction n with
  | zero =>
    intro i f I m h1 h2 h3 hW
    obtain ⟨m, rfl⟩ : ∃ m', m = m' + 1 := ⟨m - 1, by omega⟩
    have h13 := hW.2.2.1.1
    refine ⟨I, ?_, qFrW_refl I⟩
    have e : min 1000 (f + qC19 G ks 0 i) = f := by unfold qC19; omega
    rw [e, fX8_countWays_19]
    simp (disch := omega) only [↓qlet, eq_self, qzg_t, qzb_some, ↓reduceIte, not_or, not_false_eq_true, not_true_eq_false, and_true, true_and, and_self, or_false, false_or, true_or, or_true, and_false, false_and, qlit, qneg, qof, qn_add, qn_mul, qn_s, qn_z, qn_d, qn_dz, qm_1, qt_1, qt_0, qb_0, qb_1, qb_01, qb01b, q01_0, q01_1, qo_s, qo_n, qn_c, qn_le, qn_lt, qn_eq, qn_ne_m, qm_ne_n, qm_lt, qm_le, qn_lt_m, qn_le_m, qn_sub, qn_div, qn_mod, qle_t, qle_f, qlt_t, qlt_f, qeq_t, qeq_f, Nat.add_sub_cancel, qD_I, qD_s, qU_s, qU_a, qU_k, qdk_1, qdk_2, qdk_3, qdk_4, qdk_5, qdk_6, qdk_7, qdk_8, qdk_9, qdk_10, qdk_11, qdk_12, qdk_13, qdk_14, qdk_15, qdk_16, qdk_17, qdk_18, qdk_19, qdk_20, qdk_21, qdk_22, qdk_23, qdk_24, qdk_25, qdk_26, qdk_27, qdk_28, qdk_29, qdk_30, qdk_31, qdk_32, qdk_33, qdk_34, qdk_35, qdk_36, qdk_37, qdk_38, qdk_39, qdk_40, qdk_41, qdk_42, qdk_43, qdk_44, qdl_2, qdl_3, qdl_4, qdl_5, qdl_6, qdl_7, qdl_8, qdl_9, qdl_10, qdl_11, qdl_12, qdl_13, qdl_14, qdl_15, qdl_16, qdl_17, qdl_18, qdl_19, qdl_20, qdl_21, qdl_22, qdl_23, qdl_24, qdl_25, qdl_26, qdl_27, qdl_28, qdl_29, qdl_30, qdl_31, qdl_32, qdl_33, qdl_34, qdl_35, qdl_36, qdl_37, qdl_38, qdl_39, qdl_40, qdl_41, qdl_42, qdl_43, qdl_44, qdr_0, qdr_1, qdr_2, qdr_3, qdr_4, qdr_5, qdr_6, qdr_7, qdr_8, qdr_9, qdr_10, qdr_11, qdr_12, qdr_15, qdr_16, qdr_19, qdr_20, qdr_21, qdr_22, qdr_26, qdr_27, qdr_28, qdr_29, qdr_30, qdr_34, qdr_35, qdr_37, qdr_38, qdr_39, qdr_40, qdr_42, qdr_43, qdr_44, qdr_45, qdr_46, qdr_47, qdr_48, qdr_49, qdr_50, qdr_51, qdr_53, qdr_54, qdr_55, h13]
  | succ n ih =>
    intro i f I m h1 h2 h3 hW
    obtain ⟨m, rfl⟩ : ∃ m', m = m' + 1 := ⟨m - 1, by omega⟩
    have h13 := hW.2.2.1.1
    obtain ⟨K, k1, k2⟩ := rC29 hg hEk hs h6 (fX8_countWays_19 m) (i := i) (by omega) 20 0 f I 10000 (by omega) (by omega) h3 hW
    obtain ⟨J, j1, j2⟩ := ih (i + 1) (min 1000 (f + qC29 G ks i 20 0)) K m (by omega) (by omega) (by omega) (qWn_fr hW k2)
    refine ⟨J, ?_, qFrW_tr k2 j2⟩
    have em : min 1000 (min 1000 (f + qC29 G ks i 20 0) + qC19 G ks n (i + 1)) = min 1000 (f + qC19 G ks (n + 1) i) := by
      have : qC19 G ks (n + 1) i = qC29 G ks i 20 0 + qC19 G ks n (i + 1) := rfl
      omega
    rw [em] at j1
    have k1 : fX8_countWays_29 (fX8_countWays_19 m) 10000 1 (qn f) (qn i) (qn 0) (qD I) = fX8_countWays_19 m 1 (qn (min 1000 (f + qC29 G ks i 20 0))) (qn (i + 1)) (qD K) := by
      rw [k1]
      unfold fX8_countWays_156
      rw [qlet, show qn i + 1 = qn (i + 1) from qn_add i 1]
    rw [fX8_countWays_19]
    simp (disch := omega) only [↓qlet, eq_self, qzg_t, qzb_some, ↓reduceIte, not_or, not_false_eq_true, not_true_eq_false, and_true, true_and, and_self, or_false, false_or, true_or, or_true, and_false, false_and, qlit, qneg, qof, qn_add, qn_mul, qn_s, qn_z, qn_d, qn_dz, qm_1, qt_1, qt_0, qb_0, qb_1, qb_01, qb01b, q01_0, q01_1, qo_s, qo_n, qn_c, qn_le, qn_lt, qn_eq, qn_ne_m, qm_ne_n, qm_lt, qm_le, qn_lt_m, qn_le_m, qn_sub, qn_div, qn_mod, qle_t, qle_f, qlt_t, qlt_f, qeq_t, qeq_f, Nat.add_sub_cancel, qD_I, qD_s, qU_s, qU_a, qU_k, qdk_1, qdk_2, qdk_3, qdk_4, qdk_5, qdk_6, qdk_7, qdk_8, qdk_9, qdk_10, qdk_11, qdk_12, qdk_13, qdk_14, qdk_15, qdk_16, qdk_17, qdk_18, qdk_19, qdk_20, qdk_21, qdk_22, qdk_23, qdk_24, qdk_25, qdk_26, qdk_27, qdk_28, qdk_29, qdk_30, qdk_31, qdk_32, qdk_33, qdk_34, qdk_35, qdk_36, qdk_37, qdk_38, qdk_39, qdk_40, qdk_41, qdk_42, qdk_43, qdk_44, qdl_2, qdl_3, qdl_4, qdl_5, qdl_6, qdl_7, qdl_8, qdl_9, qdl_10, qdl_11, qdl_12, qdl_13, qdl_14, qdl_15, qdl_16, qdl_17, qdl_18, qdl_19, qdl_20, qdl_21, qdl_22, qdl_23, qdl_24, qdl_25, qdl_26, qdl_27, qdl_28, qdl_29, qdl_30, qdl_31, qdl_32, qdl_33, qdl_34, qdl_35, qdl_36, qdl_37, qdl_38, qdl_39, qdl_40, qdl_41, qdl_42, qdl_43, qdl_44, qdr_0, qdr_1, qdr_2, qdr_3, qdr_4, qdr_5, qdr_6, qdr_7, qdr_8, qdr_9, qdr_10, qdr_11, qdr_12, qdr_15, qdr_16, qdr_19, qdr_20, qdr_21, qdr_22, qdr_26, qdr_27, qdr_28, qdr_29, qdr_30, qdr_34, qdr_35, qdr_37, qdr_38, qdr_39, qdr_40, qdr_42, qdr_43, qdr_44, qdr_45, qdr_46, qdr_47, qdr_48, qdr_49, qdr_50, qdr_51, qdr_53, qdr_54, qdr_55, h13, k1]
    exact j1
/-- all ways that the reference counts -/
def qTot (G : qG) (ks : List qK) : Nat := qIsW G ks none none + qC19 G ks (ks.length + 1) 0
theorem rCountWays (hg : qGok G) (hEk : qEok sw en) (hs : ∀ k ∈ ks, qSimp k) (h6 : ks.length ≤ 6) (hW : qWn G sw en ks I) : ∃ J, fX8_countWays 1 (qD I) = some (qn (min 1000 (qTot G ks)), qD J) ∧ qFrW I J := by
  obtain ⟨w1, K, k1, k2⟩ := rIsWay (a := none) (b := none) hg hEk hs h6 (fun y h => by cases h) (fun y h => by cases h) hW
  have k1 : fX8_isWay 1 0 (-1) 0 (-1) (qD I) = some (qn (qIsW G ks none none), qD K) := k1
  obtain ⟨J, j1, j2⟩ := rC19 hg hEk hs h6 (ks.length + 1) 0 (qIsW G ks none none) K 10000 (by omega) (by omega) (by omega) (qWn_fr hW k2)
  refine ⟨J, ?_, qFrW_tr k2 j2⟩
  unfold fX8_countWays fX8_countWays_16
  rw [qzg_i (qdk_1 _), k1, qzb_some]
  have j1 : fX8_countWays_19 10000 1 (qn (qIsW G ks none none)) 0 (qD K) = some (qn (min 1000 (qTot G ks)), qD J) := j1
  obtain ⟨w, hw⟩ : ∃ w, w = qIsW G ks none none := ⟨_, rfl⟩
  rw [← hw] at w1 j1 ⊢
  by_cases c0 : w = 0
  · rw [c0] at j1 ⊢
    rw [if_pos (show qn 0 = 0 from rfl)]
    exact j1
  · have c1 : w = 1 := by omega
    rw [c1] at j1 ⊢
    rw [if_neg (show ¬ qn 1 = 0 by decide)]
    exact j1
theorem rWays_17 (hT : qRT I ks) (h60 : ks.length ≤ 60) (hk : ∀ k ∈ ks, k.1 ≤ 8) : ∀ d i m (z : Bool), d + i = ks.length → d < m → fX8_ways_17 m 1 (qb z) (qn i) (qD I) = fX8_ways_70 1 (qb (z && (ks.drop i).all fun k => k.1 == 0 || k.1 == 1 || k.1 == 4)) (qD I) := by
  intro d
  induction d with
  | zero =>
    intro i m z h1 h2
    obtain ⟨m, rfl⟩ : ∃ m', m = m' + 1 := ⟨m - 1, by omega⟩
    have h13 := hT.1
    rw [List.drop_of_length_le (by omega), fX8_ways_17]
    simp (disch := omega) only [↓qlet, eq_self, qzg_t, qzb_some, ↓reduceIte, not_or, not_false_eq_true, not_true_eq_false, and_true, true_and, and_self, or_false, false_or, true_or, or_true, and_false, false_and, qlit, qneg, qof, qn_add, qn_mul, qn_s, qn_z, qn_d, qn_dz, qm_1, qt_1, qt_0, qb_0, qb_1, qb_01, qb01b, q01_0, q01_1, qo_s, qo_n, qn_c, qn_le, qn_lt, qn_eq, qn_ne_m, qm_ne_n, qm_lt, qm_le, qn_lt_m, qn_le_m, qn_sub, qn_div, qn_mod, qle_t, qle_f, qlt_t, qlt_f, qeq_t, qeq_f, Nat.add_sub_cancel, qD_I, qD_s, qU_s, qU_a, qU_k, qdk_1, qdk_2, qdk_3, qdk_4, qdk_5, qdk_6, qdk_7, qdk_8, qdk_9, qdk_10, qdk_11, qdk_12, qdk_13, qdk_14, qdk_15, qdk_16, qdk_17, qdk_18, qdk_19, qdk_20, qdk_21, qdk_22, qdk_23, qdk_24, qdk_25, qdk_26, qdk_27, qdk_28, qdk_29, qdk_30, qdk_31, qdk_32, qdk_33, qdk_34, qdk_35, qdk_36, qdk_37, qdk_38, qdk_39, qdk_40, qdk_41, qdk_42, qdk_43, qdk_44, qdl_2, qdl_3, qdl_4, qdl_5, qdl_6, qdl_7, qdl_8, qdl_9, qdl_10, qdl_11, qdl_12, qdl_13, qdl_14, qdl_15, qdl_16, qdl_17, qdl_18, qdl_19, qdl_20, qdl_21, qdl_22, qdl_23, qdl_24, qdl_25, qdl_26, qdl_27, qdl_28, qdl_29, qdl_30, qdl_31, qdl_32, qdl_33, qdl_34, qdl_35, qdl_36, qdl_37, qdl_38, qdl_39, qdl_40, qdl_41, qdl_42, qdl_43, qdl_44, qdr_0, qdr_1, qdr_2, qdr_3, qdr_4, qdr_5, qdr_6, qdr_7, qdr_8, qdr_9, qdr_10, qdr_11, qdr_12, qdr_15, qdr_16, qdr_19, qdr_20, qdr_21, qdr_22, qdr_26, qdr_27, qdr_28, qdr_29, qdr_30, qdr_34, qdr_35, qdr_37, qdr_38, qdr_39, qdr_40, qdr_42, qdr_43, qdr_44, qdr_45, qdr_46, qdr_47, qdr_48, qdr_49, qdr_50, qdr_51, qdr_53, qdr_54, qdr_55, h13, List.all_nil, Bool.and_true]
  | succ d ih =>
    intro i m z h1 h2
    obtain ⟨m, rfl⟩ : ∃ m', m = m' + 1 := ⟨m - 1, by omega⟩
    have h13 := hT.1
    have hil : i < ks.length := by omega
    obtain ⟨t1, t2⟩ := hT.2 i _ (List.getElem?_eq_getElem hil)
    have h8 := hk _ (List.getElem_mem hil)
    have ihf := ih (i + 1) m false (by omega) (by omega)
    have iht := ih (i + 1) m true (by omega) (by omega)
    rw [qb_f, Bool.false_and, qb_f] at ihf
    rw [qb_t, Bool.true_and] at iht
    rw [List.drop_eq_getElem_cons hil, List.all_cons, fX8_ways_17]
    unfold fX8_ways_62 fX8_ways_58 fX8_ways_63
    cases z with
    | false =>
      rw [Bool.false_and]
      simp (disch := omega) only [↓qlet, eq_self, qzg_t, qzb_some, ↓reduceIte, not_or, not_false_eq_true, not_true_eq_false, and_true, true_and, and_self, or_false, false_or, true_or, or_true, and_false, false_and, qlit, qneg, qof, qn_add, qn_mul, qn_s, qn_z, qn_d, qn_dz, qm_1, qt_1, qt_0, qb_0, qb_1, qb_01, qb01b, q01_0, q01_1, qo_s, qo_n, qn_c, qn_le, qn_lt, qn_eq, qn_ne_m, qm_ne_n, qm_lt, qm_le, qn_lt_m, qn_le_m, qn_sub, qn_div, qn_mod, qle_t, qle_f, qlt_t, qlt_f, qeq_t, qeq_f, Nat.add_sub_cancel, qD_I, qD_s, qU_s, qU_a, qU_k, qdk_1, qdk_2, qdk_3, qdk_4, qdk_5, qdk_6, qdk_7, qdk_8, qdk_9, qdk_10, qdk_11, qdk_12, qdk_13, qdk_14, qdk_15, qdk_16, qdk_17, qdk_18, qdk_19, qdk_20, qdk_21, qdk_22, qdk_23, qdk_24, qdk_25, qdk_26, qdk_27, qdk_28, qdk_29, qdk_30, qdk_31, qdk_32, qdk_33, qdk_34, qdk_35, qdk_36, qdk_37, qdk_38, qdk_39, qdk_40, qdk_41, qdk_42, qdk_43, qdk_44, qdl_2, qdl_3, qdl_4, qdl_5, qdl_6, qdl_7, qdl_8, qdl_9, qdl_10, qdl_11, qdl_12, qdl_13, qdl_14, qdl_15, qdl_16, qdl_17, qdl_18, qdl_19, qdl_20, qdl_21, qdl_22, qdl_23, qdl_24, qdl_25, qdl_26, qdl_27, qdl_28, qdl_29, qdl_30, qdl_31, qdl_32, qdl_33, qdl_34, qdl_35, qdl_36, qdl_37, qdl_38, qdl_39, qdl_40, qdl_41, qdl_42, qdl_43, qdl_44, qdr_0, qdr_1, qdr_2, qdr_3, qdr_4, qdr_5, qdr_6, qdr_7, qdr_8, qdr_9, qdr_10, qdr_11, qdr_12, qdr_15, qdr_16, qdr_19, qdr_20, qdr_21, qdr_22, qdr_26, qdr_27, qdr_28, qdr_29, qdr_30, qdr_34, qdr_35, qdr_37, qdr_38, qdr_39, qdr_40, qdr_42, qdr_43, qdr_44, qdr_45, qdr_46, qdr_47, qdr_48, qdr_49, qdr_50, qdr_51, qdr_53, qdr_54, qdr_55, h13, qb_f, ihf]
    | true =>
      rw [Bool.true_and]
      by_cases c : ks[i].1 = 0 ∨ ks[i].1 = 1 ∨ ks[i].1 = 4
      · have e : (ks[i].1 == 0 || ks[i].1 == 1 || ks[i].1 == 4) = true := by simpa [or_assoc] using c
        rw [e, Bool.true_and]
        rcases c with c | c | c
        · simp (disch := omega) only [↓qlet, eq_self, qzg_t, qzb_some, ↓reduceIte, not_or, not_false_eq_true, not_true_eq_false, and_true, true_and, and_self, or_false, false_or, true_or, or_true, and_false, false_and, qlit, qneg, qof, qn_add, qn_mul, qn_s, qn_z, qn_d, qn_dz, qm_1, qt_1, qt_0, qb_0, qb_1, qb_01, qb01b, q01_0, q01_1, qo_s, qo_n, qn_c, qn_le, qn_lt, qn_eq, qn_ne_m, qm_ne_n, qm_lt, qm_le, qn_lt_m, qn_le_m, qn_sub, qn_div, qn_mod, qle_t, qle_f, qlt_t, qlt_f, qeq_t, qeq_f, Nat.add_sub_cancel, qD_I, qD_s, qU_s, qU_a, qU_k, qdk_1, qdk_2, qdk_3, qdk_4, qdk_5, qdk_6, qdk_7, qdk_8, qdk_9, qdk_10, qdk_11, qdk_12, qdk_13, qdk_14, qdk_15, qdk_16, qdk_17, qdk_18, qdk_19, qdk_20, qdk_21, qdk_22, qdk_23, qdk_24, qdk_25, qdk_26, qdk_27, qdk_28, qdk_29, qdk_30, qdk_31, qdk_32, qdk_33, qdk_34, qdk_35, qdk_36, qdk_37, qdk_38, qdk_39, qdk_40, qdk_41, qdk_42, qdk_43, qdk_44, qdl_2, qdl_3, qdl_4, qdl_5, qdl_6, qdl_7, qdl_8, qdl_9, qdl_10, qdl_11, qdl_12, qdl_13, qdl_14, qdl_15, qdl_16, qdl_17, qdl_18, qdl_19, qdl_20, qdl_21, qdl_22, qdl_23, qdl_24, qdl_25, qdl_26, qdl_27, qdl_28, qdl_29, qdl_30, qdl_31, qdl_32, qdl_33, qdl_34, qdl_35, qdl_36, qdl_37, qdl_38, qdl_39, qdl_40, qdl_41, qdl_42, qdl_43, qdl_44, qdr_0, qdr_1, qdr_2, qdr_3, qdr_4, qdr_5, qdr_6, qdr_7, qdr_8, qdr_9, qdr_10, qdr_11, qdr_12, qdr_15, qdr_16, qdr_19, qdr_20, qdr_21, qdr_22, qdr_26, qdr_27, qdr_28, qdr_29, qdr_30, qdr_34, qdr_35, qdr_37, qdr_38, qdr_39, qdr_40, qdr_42, qdr_43, qdr_44, qdr_45, qdr_46, qdr_47, qdr_48, qdr_49, qdr_50, qdr_51, qdr_53, qdr_54, qdr_55, h13, qb_t, t1, c, iht]
        · simp (disch := omega) only [↓qlet, eq_self, qzg_t, qzb_some, ↓reduceIte, not_or, not_false_eq_true, not_true_eq_false, and_true, true_and, and_self, or_false, false_or, true_or, or_true, and_false, false_and, qlit, qneg, qof, qn_add, qn_mul, qn_s, qn_z, qn_d, qn_dz, qm_1, qt_1, qt_0, qb_0, qb_1, qb_01, qb01b, q01_0, q01_1, qo_s, qo_n, qn_c, qn_le, qn_lt, qn_eq, qn_ne_m, qm_ne_n, qm_lt, qm_le, qn_lt_m, qn_le_m, qn_sub, qn_div, qn_mod, qle_t, qle_f, qlt_t, qlt_f, qeq_t, qeq_f, Nat.add_sub_cancel, qD_I, qD_s, qU_s, qU_a, qU_k, qdk_1, qdk_2, qdk_3, qdk_4, qdk_5, qdk_6, qdk_7, qdk_8, qdk_9, qdk_10, qdk_11, qdk_12, qdk_13, qdk_14, qdk_15, qdk_16, qdk_17, qdk_18, qdk_19, qdk_20, qdk_21, qdk_22, qdk_23, qdk_24, qdk_25, qdk_26, qdk_27, qdk_28, qdk_29, qdk_30, qdk_31, qdk_32, qdk_33, qdk_34, qdk_35, qdk_36, qdk_37, qdk_38, qdk_39, qdk_40, qdk_41, qdk_42, qdk_43, qdk_44, qdl_2, qdl_3, qdl_4, qdl_5, qdl_6, qdl_7, qdl_8, qdl_9, qdl_10, qdl_11, qdl_12, qdl_13, qdl_14, qdl_15, qdl_16, qdl_17, qdl_18, qdl_19, qdl_20, qdl_21, qdl_22, qdl_23, qdl_24, qdl_25, qdl_26, qdl_27, qdl_28, qdl_29, qdl_30, qdl_31, qdl_32, qdl_33, qdl_34, qdl_35, qdl_36, qdl_37, qdl_38, qdl_39, qdl_40, qdl_41, qdl_42, qdl_43, qdl_44, qdr_0, qdr_1, qdr_2, qdr_3, qdr_4, qdr_5, qdr_6, qdr_7, qdr_8, qdr_9, qdr_10, qdr_11, qdr_12, qdr_15, qdr_16, qdr_19, qdr_20, qdr_21, qdr_22, qdr_26, qdr_27, qdr_28, qdr_29, qdr_30, qdr_34, qdr_35, qdr_37, qdr_38, qdr_39, qdr_40, qdr_42, qdr_43, qdr_44, qdr_45, qdr_46, qdr_47, qdr_48, qdr_49, qdr_50, qdr_51, qdr_53, qdr_54, qdr_55, h13, qb_t, t1, c, iht]
        · simp (disch := omega) only [↓qlet, eq_self, qzg_t, qzb_some, ↓reduceIte, not_or, not_false_eq_true, not_true_eq_false, and_true, true_and, and_self, or_false, false_or, true_or, or_true, and_false, false_and, qlit, qneg, qof, qn_add, qn_mul, qn_s, qn_z, qn_d, qn_dz, qm_1, qt_1, qt_0, qb_0, qb_1, qb_01, qb01b, q01_0, q01_1, qo_s, qo_n, qn_c, qn_le, qn_lt, qn_eq, qn_ne_m, qm_ne_n, qm_lt, qm_le, qn_lt_m, qn_le_m, qn_sub, qn_div, qn_mod, qle_t, qle_f, qlt_t, qlt_f, qeq_t, qeq_f, Nat.add_sub_cancel, qD_I, qD_s, qU_s, qU_a, qU_k, qdk_1, qdk_2, qdk_3, qdk_4, qdk_5, qdk_6, qdk_7, qdk_8, qdk_9, qdk_10, qdk_11, qdk_12, qdk_13, qdk_14, qdk_15, qdk_16, qdk_17, qdk_18, qdk_19, qdk_20, qdk_21, qdk_22, qdk_23, qdk_24, qdk_25, qdk_26, qdk_27, qdk_28, qdk_29, qdk_30, qdk_31, qdk_32, qdk_33, qdk_34, qdk_35, qdk_36, qdk_37, qdk_38, qdk_39, qdk_40, qdk_41, qdk_42, qdk_43, qdk_44, qdl_2, qdl_3, qdl_4, qdl_5, qdl_6, qdl_7, qdl_8, qdl_9, qdl_10, qdl_11, qdl_12, qdl_13, qdl_14, qdl_15, qdl_16, qdl_17, qdl_18, qdl_19, qdl_20, qdl_21, qdl_22, qdl_23, qdl_24, qdl_25, qdl_26, qdl_27, qdl_28, qdl_29, qdl_30, qdl_31, qdl_32, qdl_33, qdl_34, qdl_35, qdl_36, qdl_37, qdl_38, qdl_39, qdl_40, qdl_41, qdl_42, qdl_43, qdl_44, qdr_0, qdr_1, qdr_2, qdr_3, qdr_4, qdr_5, qdr_6, qdr_7, qdr_8, qdr_9, qdr_10, qdr_11, qdr_12, qdr_15, qdr_16, qdr_19, qdr_20, qdr_21, qdr_22, qdr_26, qdr_27, qdr_28, qdr_29, qdr_30, qdr_34, qdr_35, qdr_37, qdr_38, qdr_39, qdr_40, qdr_42, qdr_43, qdr_44, qdr_45, qdr_46, qdr_47, qdr_48, qdr_49, qdr_50, qdr_51, qdr_53, qdr_54, qdr_55, h13, qb_t, t1, c, iht]
      · have e : (ks[i].1 == 0 || ks[i].1 == 1 || ks[i].1 == 4) = false := by simpa [or_assoc, and_assoc] using c
        rw [e, Bool.false_and, qb_f]
        simp (disch := omega) only [↓qlet, eq_self, qzg_t, qzb_some, ↓reduceIte, not_or, not_false_eq_true, not_true_eq_false, and_true, true_and, and_self, or_false, false_or, true_or, or_true, and_false, false_and, qlit, qneg, qof, qn_add, qn_mul, qn_s, qn_z, qn_d, qn_dz, qm_1, qt_1, qt_0, qb_0, qb_1, qb_01, qb01b, q01_0, q01_1, qo_s, qo_n, qn_c, qn_le, qn_lt, qn_eq, qn_ne_m, qm_ne_n, qm_lt, qm_le, qn_lt_m, qn_le_m, qn_sub, qn_div, qn_mod, qle_t, qle_f, qlt_t, qlt_f, qeq_t, qeq_f, Nat.add_sub_cancel, qD_I, qD_s, qU_s, qU_a, qU_k, qdk_1, qdk_2, qdk_3, qdk_4, qdk_5, qdk_6, qdk_7, qdk_8, qdk_9, qdk_10, qdk_11, qdk_12, qdk_13, qdk_14, qdk_15, qdk_16, qdk_17, qdk_18, qdk_19, qdk_20, qdk_21, qdk_22, qdk_23, qdk_24, qdk_25, qdk_26, qdk_27, qdk_28, qdk_29, qdk_30, qdk_31, qdk_32, qdk_33, qdk_34, qdk_35, qdk_36, qdk_37, qdk_38, qdk_39, qdk_40, qdk_41, qdk_42, qdk_43, qdk_44, qdl_2, qdl_3, qdl_4, qdl_5, qdl_6, qdl_7, qdl_8, qdl_9, qdl_10, qdl_11, qdl_12, qdl_13, qdl_14, qdl_15, qdl_16, qdl_17, qdl_18, qdl_19, qdl_20, qdl_21, qdl_22, qdl_23, qdl_24, qdl_25, qdl_26, qdl_27, qdl_28, qdl_29, qdl_30, qdl_31, qdl_32, qdl_33, qdl_34, qdl_35, qdl_36, qdl_37, qdl_38, qdl_39, qdl_40, qdl_41, qdl_42, qdl_43, qdl_44, qdr_0, qdr_1, qdr_2, qdr_3, qdr_4, qdr_5, qdr_6, qdr_7, qdr_8, qdr_9, qdr_10, qdr_11, qdr_12, qdr_15, qdr_16, qdr_19, qdr_20, qdr_21, qdr_22, qdr_26, qdr_27, qdr_28, qdr_29, qdr_30, qdr_34, qdr_35, qdr_37, qdr_38, qdr_39, qdr_40, qdr_42, qdr_43, qdr_44, qdr_45, qdr_46, qdr_47, qdr_48, qdr_49, qdr_50, qdr_51, qdr_53, qdr_54, qdr_55, h13, qb_t, t1, ihf]
theorem rWaysQ (hA : qRA I A) (htot : A.2.2.2.1.length ≤ 6 → (∀ k ∈ A.2.2.2.1, qSimp k) → min 1000 (qTot A.1 A.2.2.2.1) = qWay A) : ∃ J, fX8_ways 1 (qD I) = some ((qoWays A).2, qD J) ∧ qRA J A ∧ J 1 56 = qn (if (qoWays A).1 = 0 then 0 else 1) := by
  have hA0 := hA
  obtain ⟨⟨hg, hEk, hn, hk⟩, hG, hE, hT, hV, hX, h14, h18⟩ := hA
  have h13 := hT.1
  have hw := fun z => rWays_17 hT hn (fun k h => (hk k h).1) A.2.2.2.1.length 0 10000 z (by omega) (by omega)
  have hfr : fX8_ways 1 (qD I) = fX8_ways_70 1 (qb (decide (A.2.2.2.1.length ≤ 6) && A.2.2.2.1.all fun k => k.1 == 0 || k.1 == 1 || k.1 == 4)) (qD I) := by
    unfold fX8_ways fX8_ways_14
    rw [qzg_i (qdk_1 _), qD_I, h13]
    by_cases c : A.2.2.2.1.length ≤ 6
    · rw [if_neg (show ¬ 6 < qn A.2.2.2.1.length from fun h => by have h : qn 6 < qn A.2.2.2.1.length := h; rw [qn_lt (by omega) (by omega)] at h; omega), decide_eq_true c]
      exact hw true
    · rw [if_pos (show 6 < qn A.2.2.2.1.length from by show qn 6 < qn _; rw [qn_lt (by omega) (by omega)]; omega), decide_eq_false c]
      exact hw false
  rw [hfr]
  unfold qoWays fX8_ways_70
  rw [qzg_i (qdk_1 _), rGoes1, qzb_some]
  by_cases c : A.2.2.2.1.length ≤ 6 ∧ (A.2.2.2.1.all fun k => k.1 == 0 || k.1 == 1 || k.1 == 4) = true
  · rw [if_pos c, decide_eq_true c.1, c.2]
    have hs : ∀ k ∈ A.2.2.2.1, qSimp k := fun k hk2 => ⟨hk k hk2, by have := List.all_eq_true.mp c.2 k hk2; simpa [or_assoc] using this⟩
    have hA1 := qRA_56 hA0 (qn 0)
    have hg2 := hA1.1.1
    obtain ⟨J, j1, j2⟩ := rCountWays (I := qU I 1 56 (qn 0)) hg hEk hs c.1 ⟨hA1.2.1, hA1.2.2.1, hA1.2.2.2.1, hA1.2.2.2.2.2.2.2⟩
    obtain ⟨K, k1, k2, k3⟩ := rAgain hA1 j2.1 j2.2.1 j2.2.2.1
    refine ⟨K, ?_, k2, ?_⟩
    · have ht : qn (qtag (true && true) true true) = qn 0 := rfl
      rw [if_neg (show ¬ qb (true && true) = 0 by decide), ht, qzg_i (qdk_1 _), j1, qzb_some, qzg_i (qdk_1 _), k1, qzb_some, htot c.1 hs]
    · rw [k3, j2.2.2.2.2, qU_s]; rfl
  · rw [if_neg c]
    have e : (decide (A.2.2.2.1.length ≤ 6) && A.2.2.2.1.all fun k => k.1 == 0 || k.1 == 1 || k.1 == 4) = false := by
      by_cases c1 : A.2.2.2.1.length ≤ 6
      · rw [decide_eq_true c1, Bool.true_and]
        exact Bool.eq_false_iff.mpr fun h => c ⟨c1, h⟩
      · rw [decide_eq_false c1, Bool.false_and]
    rw [e, if_pos (show qb false = 0 from rfl)]
    exact ⟨qU I 1 56 (qn 1), rfl, qRA_56 hA0 _, qU_s ..⟩
end
