/-! THE REFERENCE: a thing is read -/
section
variable {I : Nat → Nat → Int32} {G : qG} {V : qV} {p B : Nat}
theorem qRV_to {J : Nat → Nat → Int32} {Z : qZ} (hV : qRV I p V) (hZ : qRZ J Z) (hJ : ∀ a, a ≠ 18 → a ≠ 19 → J a = I a) : qRV J p (qTo Z V) ∧ qFrR I J := by
  obtain ⟨h1, h2, h3, h4, h5, h6, h7, h8, h9⟩ := hV
  refine ⟨⟨hZ, ?_, ?_, ?_, ?_, ?_, ?_, ?_, ?_⟩, fun a h1 h2 => hJ a (by omega) (by omega), fun k _ _ _ _ _ _ _ => by rw [hJ 1 (by omega) (by omega)]⟩
  · rw [hJ 20 (by omega) (by omega)]; exact h2
  · rw [hJ 1 (by omega) (by omega)]; exact h3
  · rw [hJ 21 (by omega) (by omega), hJ 22 (by omega) (by omega), hJ 23 (by omega) (by omega), hJ 24 (by omega) (by omega), hJ 25 (by omega) (by omega)]; exact h4
  · rw [hJ 1 (by omega) (by omega)]; exact h5
  · rw [hJ 1 (by omega) (by omega)]; exact h6
  · rw [hJ 1 (by omega) (by omega)]; exact h7
  · rw [hJ 26 (by omega) (by omega), hJ 27 (by omega) (by omega)]; exact h8
  · rw [hJ 29 (by omega) (by omega)]; exact h9
theorem qVok_err6 (h : qVok G B V) (hB : B ≤ 4320) : V.2.2.2.2.2.length < 5000 := by
  obtain ⟨h1, h2, h3, h4, h5, h6, h7, h8, h9⟩ := h
  omega
/-- a cell of the object is written -/
theorem qRV_shut (hok : qVok G B V) (hd : 0 < V.1.1.length) (hV : qRV I p V) : qRV (qU (qU I 1 23 (qn (V.1.1.length - 1))) 1 32 (qn (V.2.2.2.1 + 1))) p (qShut V) ∧ qFrR I (qU (qU I 1 23 (qn (V.1.1.length - 1))) 1 32 (qn (V.2.2.2.1 + 1))) := by
  obtain ⟨⟨z1, z2, z3, z4⟩, h2, h3, h4, h5, h6, h7, h8, h9⟩ := hV
  have hs : qAll (fun j x => I 17 j = qn x.1 ∧ I 18 j = qn (x.2 / 2) ∧ I 19 j = qb (x.2 % 2 == 1)) V.1.1.tail := by
    cases e : V.1.1 with
    | nil => exact True.intro
    | cons a l => rw [e] at z4; exact z4.2
  have ho : qAll (fun j x => I 20 j = qn x) V.2.1.tail := by
    cases e : V.2.1 with
    | nil => exact True.intro
    | cons a l => rw [e] at h2; exact h2.2
  refine ⟨⟨⟨?_, ?_, ?_, ?_⟩, ?_, ?_, ?_, ?_, ?_, ?_, ?_, ?_⟩, ?_, ?_⟩
  · simp (disch := omega) only [qU_s, qU_a, qU_k, qShut, List.length_tail]
  · simp (disch := omega) only [qU_s, qU_a, qU_k, qShut]; exact z2
  · simp (disch := omega) only [qU_s, qU_a, qU_k, qShut]; exact z3
  · simp (disch := omega) only [qU_s, qU_a, qU_k, qShut]; exact hs
  · simp (disch := omega) only [qU_s, qU_a, qU_k, qShut]; exact ho
  · simp (disch := omega) only [qU_s, qU_a, qU_k, qShut]; exact h3
  · simp (disch := omega) only [qU_s, qU_a, qU_k, qShut]; exact h4
  · simp (disch := omega) only [qU_s, qU_a, qU_k, qShut]
  · simp (disch := omega) only [qU_s, qU_a, qU_k, qShut]; exact h6
  · simp (disch := omega) only [qU_s, qU_a, qU_k, qShut]; exact h7
  · simp (disch := omega) only [qU_s, qU_a, qU_k, qShut]; exact h8
  · simp (disch := omega) only [qU_s, qU_a, qU_k, qShut]; exact h9
  · intro a ha hb; simp (disch := omega) only [qU_r]
  · intro x a1 a2 a3 a4 a5 a6 a7; simp (disch := omega) only [qU_s, qU_a, qU_k]
theorem rRead {t l : Nat} {x2 : Int32} (htt : t ≤ 10) (hl : l < 128) (hx2 : t = 10 → x2 = qn l) (hp : p ≤ 600) (hg : qGok G) (hB : B ≤ 4320) : ∀ n put V I m, n < m → put ≤ 8 → qRG G I → qVok G B V → qRV I p V → ∀ V', qRead G t l p n put V = some V' → ∃ J, fX8_readsThing_2 m 1 (qn t) x2 (qn put) (qD I) = some (qn 0, qD J) ∧ qRV J p V' ∧ qFrR I J := by
  intro n
  induction n with
  | zero => intro put V I m _ _ _ _ _ V' h; cases h
  | succ n ih =>
    intro put V I m hm h8 hG hok hV V' hV'
    obtain ⟨m, rfl⟩ : ∃ m', m = m' + 1 := ⟨m - 1, by omega⟩
    have hz := hok.1
    have hlen := hz.1
    have h300 := hok.2.2.1
    have hZ := hV.1
    have hd := hZ.1
    have hth := hV.2.2.1
    have her := qVok_err6 hok hB
    unfold qRead at hV'
    rw [fX8_readsThing_2]
    by_cases c1 : 300 ≤ V.2.2.1.length ∨ t < 10 ∧ 20 ≤ V.1.1.length
    · rw [if_pos c1] at hV'
      injection hV' with hV'
      subst hV'
      obtain ⟨J, hJ, j1, j2⟩ := rErr hV (by omega) 6
      refine ⟨J, ?_, j1, j2⟩
      by_cases c3 : V.2.2.1.length = 300
      · simp (disch := omega) only [↓qlet, eq_self, qzg_t, qzb_some, ↓reduceIte, not_or, not_false_eq_true, not_true_eq_false, and_true, true_and, and_self, or_false, false_or, true_or, or_true, and_false, false_and, qlit, qneg, qof, qn_add, qn_mul, qn_s, qn_z, qn_d, qn_dz, qm_1, qt_1, qt_0, qb_0, qb_1, qb_01, qb01b, q01_0, q01_1, qo_s, qo_n, qn_c, qn_le, qn_lt, qn_eq, qn_ne_m, qm_ne_n, qm_lt, qm_le, qn_lt_m, qn_le_m, qn_sub, qn_div, qn_mod, qle_t, qle_f, qlt_t, qlt_f, qeq_t, qeq_f, Nat.add_sub_cancel, qD_I, qD_s, qU_s, qU_a, qU_k, qdk_1, qdk_2, qdk_3, qdk_4, qdk_5, qdk_6, qdk_7, qdk_8, qdk_9, qdk_10, qdk_11, qdk_12, qdk_13, qdk_14, qdk_15, qdk_16, qdk_17, qdk_18, qdk_19, qdk_20, qdk_21, qdk_22, qdk_23, qdk_24, qdk_25, qdk_26, qdk_27, qdk_28, qdk_29, qdk_30, qdk_31, qdk_32, qdk_33, qdk_34, qdk_35, qdk_36, qdk_37, qdk_38, qdk_39, qdk_40, qdk_41, qdk_42, qdk_43, qdk_44, qdl_2, qdl_3, qdl_4, qdl_5, qdl_6, qdl_7, qdl_8, qdl_9, qdl_10, qdl_11, qdl_12, qdl_13, qdl_14, qdl_15, qdl_16, qdl_17, qdl_18, qdl_19, qdl_20, qdl_21, qdl_22, qdl_23, qdl_24, qdl_25, qdl_26, qdl_27, qdl_28, qdl_29, qdl_30, qdl_31, qdl_32, qdl_33, qdl_34, qdl_35, qdl_36, qdl_37, qdl_38, qdl_39, qdl_40, qdl_41, qdl_42, qdl_43, qdl_44, qdr_0, qdr_1, qdr_2, qdr_3, qdr_4, qdr_5, qdr_6, qdr_7, qdr_8, qdr_9, qdr_10, qdr_11, qdr_12, qdr_15, qdr_16, qdr_19, qdr_20, qdr_21, qdr_22, qdr_26, qdr_27, qdr_28, qdr_29, qdr_30, qdr_34, qdr_35, qdr_37, qdr_38, qdr_39, qdr_40, qdr_42, qdr_43, qdr_44, qdr_45, qdr_46, qdr_47, qdr_48, qdr_49, qdr_50, qdr_51, qdr_53, qdr_54, qdr_55, hth, c3, fX8_readsThing_27, hJ]
      · have c4 : t < 10 ∧ V.1.1.length = 20 := by omega
        simp (disch := omega) only [↓qlet, eq_self, qzg_t, qzb_some, ↓reduceIte, not_or, not_false_eq_true, not_true_eq_false, and_true, true_and, and_self, or_false, false_or, true_or, or_true, and_false, false_and, qlit, qneg, qof, qn_add, qn_mul, qn_s, qn_z, qn_d, qn_dz, qm_1, qt_1, qt_0, qb_0, qb_1, qb_01, qb01b, q01_0, q01_1, qo_s, qo_n, qn_c, qn_le, qn_lt, qn_eq, qn_ne_m, qm_ne_n, qm_lt, qm_le, qn_lt_m, qn_le_m, qn_sub, qn_div, qn_mod, qle_t, qle_f, qlt_t, qlt_f, qeq_t, qeq_f, Nat.add_sub_cancel, qD_I, qD_s, qU_s, qU_a, qU_k, qdk_1, qdk_2, qdk_3, qdk_4, qdk_5, qdk_6, qdk_7, qdk_8, qdk_9, qdk_10, qdk_11, qdk_12, qdk_13, qdk_14, qdk_15, qdk_16, qdk_17, qdk_18, qdk_19, qdk_20, qdk_21, qdk_22, qdk_23, qdk_24, qdk_25, qdk_26, qdk_27, qdk_28, qdk_29, qdk_30, qdk_31, qdk_32, qdk_33, qdk_34, qdk_35, qdk_36, qdk_37, qdk_38, qdk_39, qdk_40, qdk_41, qdk_42, qdk_43, qdk_44, qdl_2, qdl_3, qdl_4, qdl_5, qdl_6, qdl_7, qdl_8, qdl_9, qdl_10, qdl_11, qdl_12, qdl_13, qdl_14, qdl_15, qdl_16, qdl_17, qdl_18, qdl_19, qdl_20, qdl_21, qdl_22, qdl_23, qdl_24, qdl_25, qdl_26, qdl_27, qdl_28, qdl_29, qdl_30, qdl_31, qdl_32, qdl_33, qdl_34, qdl_35, qdl_36, qdl_37, qdl_38, qdl_39, qdl_40, qdl_41, qdl_42, qdl_43, qdl_44, qdr_0, qdr_1, qdr_2, qdr_3, qdr_4, qdr_5, qdr_6, qdr_7, qdr_8, qdr_9, qdr_10, qdr_11, qdr_12, qdr_15, qdr_16, qdr_19, qdr_20, qdr_21, qdr_22, qdr_26, qdr_27, qdr_28, qdr_29, qdr_30, qdr_34, qdr_35, qdr_37, qdr_38, qdr_39, qdr_40, qdr_42, qdr_43, qdr_44, qdr_45, qdr_46, qdr_47, qdr_48, qdr_49, qdr_50, qdr_51, qdr_53, qdr_54, qdr_55, hth, hd, c4.2, fX8_readsThing_27, hJ]
    · rw [if_neg c1] at hV'
      have ht : V.2.2.1.length < 300 := by omega
      obtain ⟨J1, hA, hZ1, hJ1⟩ := rAcc hG hg hz hZ (t := t) htt
      obtain ⟨hV1, f1⟩ := qRV_to hV hZ1 hJ1
      have hG1 := qFrR_G f1 hG
      have hstep : (zg (zk (qD I) 1 = 8) (if (zI (qD I) 1 31) = 300 then fX8_readsThing_27 1 (qD I) else if 10 ≤ (qn t) then fX8_readsThing_34 (fX8_readsThing_2 m) 1 (qn t) x2 (qn put) (qD I) else if (zI (qD I) 1 23) = 20 then fX8_readsThing_27 1 (qD I) else fX8_readsThing_34 (fX8_readsThing_2 m) 1 (qn t) x2 (qn put) (qD I))) = fX8_readsThing_34 (fX8_readsThing_2 m) 1 (qn t) x2 (qn put) (qD I) := by
        by_cases c2 : 10 ≤ t
        · simp (disch := omega) only [↓qlet, eq_self, qzg_t, qzb_some, ↓reduceIte, not_or, not_false_eq_true, not_true_eq_false, and_true, true_and, and_self, or_false, false_or, true_or, or_true, and_false, false_and, qlit, qneg, qof, qn_add, qn_mul, qn_s, qn_z, qn_d, qn_dz, qm_1, qt_1, qt_0, qb_0, qb_1, qb_01, qb01b, q01_0, q01_1, qo_s, qo_n, qn_c, qn_le, qn_lt, qn_eq, qn_ne_m, qm_ne_n, qm_lt, qm_le, qn_lt_m, qn_le_m, qn_sub, qn_div, qn_mod, qle_t, qle_f, qlt_t, qlt_f, qeq_t, qeq_f, Nat.add_sub_cancel, qD_I, qD_s, qU_s, qU_a, qU_k, qdk_1, qdk_2, qdk_3, qdk_4, qdk_5, qdk_6, qdk_7, qdk_8, qdk_9, qdk_10, qdk_11, qdk_12, qdk_13, qdk_14, qdk_15, qdk_16, qdk_17, qdk_18, qdk_19, qdk_20, qdk_21, qdk_22, qdk_23, qdk_24, qdk_25, qdk_26, qdk_27, qdk_28, qdk_29, qdk_30, qdk_31, qdk_32, qdk_33, qdk_34, qdk_35, qdk_36, qdk_37, qdk_38, qdk_39, qdk_40, qdk_41, qdk_42, qdk_43, qdk_44, qdl_2, qdl_3, qdl_4, qdl_5, qdl_6, qdl_7, qdl_8, qdl_9, qdl_10, qdl_11, qdl_12, qdl_13, qdl_14, qdl_15, qdl_16, qdl_17, qdl_18, qdl_19, qdl_20, qdl_21, qdl_22, qdl_23, qdl_24, qdl_25, qdl_26, qdl_27, qdl_28, qdl_29, qdl_30, qdl_31, qdl_32, qdl_33, qdl_34, qdl_35, qdl_36, qdl_37, qdl_38, qdl_39, qdl_40, qdl_41, qdl_42, qdl_43, qdl_44, qdr_0, qdr_1, qdr_2, qdr_3, qdr_4, qdr_5, qdr_6, qdr_7, qdr_8, qdr_9, qdr_10, qdr_11, qdr_12, qdr_15, qdr_16, qdr_19, qdr_20, qdr_21, qdr_22, qdr_26, qdr_27, qdr_28, qdr_29, qdr_30, qdr_34, qdr_35, qdr_37, qdr_38, qdr_39, qdr_40, qdr_42, qdr_43, qdr_44, qdr_45, qdr_46, qdr_47, qdr_48, qdr_49, qdr_50, qdr_51, qdr_53, qdr_54, qdr_55, hth]
        · simp (disch := omega) only [↓qlet, eq_self, qzg_t, qzb_some, ↓reduceIte, not_or, not_false_eq_true, not_true_eq_false, and_true, true_and, and_self, or_false, false_or, true_or, or_true, and_false, false_and, qlit, qneg, qof, qn_add, qn_mul, qn_s, qn_z, qn_d, qn_dz, qm_1, qt_1, qt_0, qb_0, qb_1, qb_01, qb01b, q01_0, q01_1, qo_s, qo_n, qn_c, qn_le, qn_lt, qn_eq, qn_ne_m, qm_ne_n, qm_lt, qm_le, qn_lt_m, qn_le_m, qn_sub, qn_div, qn_mod, qle_t, qle_f, qlt_t, qlt_f, qeq_t, qeq_f, Nat.add_sub_cancel, qD_I, qD_s, qU_s, qU_a, qU_k, qdk_1, qdk_2, qdk_3, qdk_4, qdk_5, qdk_6, qdk_7, qdk_8, qdk_9, qdk_10, qdk_11, qdk_12, qdk_13, qdk_14, qdk_15, qdk_16, qdk_17, qdk_18, qdk_19, qdk_20, qdk_21, qdk_22, qdk_23, qdk_24, qdk_25, qdk_26, qdk_27, qdk_28, qdk_29, qdk_30, qdk_31, qdk_32, qdk_33, qdk_34, qdk_35, qdk_36, qdk_37, qdk_38, qdk_39, qdk_40, qdk_41, qdk_42, qdk_43, qdk_44, qdl_2, qdl_3, qdl_4, qdl_5, qdl_6, qdl_7, qdl_8, qdl_9, qdl_10, qdl_11, qdl_12, qdl_13, qdl_14, qdl_15, qdl_16, qdl_17, qdl_18, qdl_19, qdl_20, qdl_21, qdl_22, qdl_23, qdl_24, qdl_25, qdl_26, qdl_27, qdl_28, qdl_29, qdl_30, qdl_31, qdl_32, qdl_33, qdl_34, qdl_35, qdl_36, qdl_37, qdl_38, qdl_39, qdl_40, qdl_41, qdl_42, qdl_43, qdl_44, qdr_0, qdr_1, qdr_2, qdr_3, qdr_4, qdr_5, qdr_6, qdr_7, qdr_8, qdr_9, qdr_10, qdr_11, qdr_12, qdr_15, qdr_16, qdr_19, qdr_20, qdr_21, qdr_22, qdr_26, qdr_27, qdr_28, qdr_29, qdr_30, qdr_34, qdr_35, qdr_37, qdr_38, qdr_39, qdr_40, qdr_42, qdr_43, qdr_44, qdr_45, qdr_46, qdr_47, qdr_48, qdr_49, qdr_50, qdr_51, qdr_53, qdr_54, qdr_55, hth, hd]
      rw [hstep]
      unfold fX8_readsThing_34
      cases ha : qAcc G V.1 t with
      | some Z =>
        rw [ha] at hV' hA hV1 hZ1
        injection hV' with hV'
        have hT := qTo_ok hok ha
        have hlen2 := (qAcc_ok hz ha).2.1
        by_cases c2 : t < 10
        · rw [if_pos c2] at hV'
          subst hV'
          obtain ⟨J, hJ, j1, j2⟩ := rOpen hG1 hg hT.2.1 hT.1 hV1 ht c2 (by show Z.1.length < 20; omega) false
          refine ⟨J, ?_, j1, qFrR_tr f1 j2⟩
          rw [qb_f] at hJ
          simp (disch := omega) only [↓qlet, eq_self, qzg_t, qzb_some, ↓reduceIte, not_or, not_false_eq_true, not_true_eq_false, and_true, true_and, and_self, or_false, false_or, true_or, or_true, and_false, false_and, qlit, qneg, qof, qn_add, qn_mul, qn_s, qn_z, qn_d, qn_dz, qm_1, qt_1, qt_0, qb_0, qb_1, qb_01, qb01b, q01_0, q01_1, qo_s, qo_n, qn_c, qn_le, qn_lt, qn_eq, qn_ne_m, qm_ne_n, qm_lt, qm_le, qn_lt_m, qn_le_m, qn_sub, qn_div, qn_mod, qle_t, qle_f, qlt_t, qlt_f, qeq_t, qeq_f, Nat.add_sub_cancel, qD_I, qD_s, qU_s, qU_a, qU_k, qdk_1, qdk_2, qdk_3, qdk_4, qdk_5, qdk_6, qdk_7, qdk_8, qdk_9, qdk_10, qdk_11, qdk_12, qdk_13, qdk_14, qdk_15, qdk_16, qdk_17, qdk_18, qdk_19, qdk_20, qdk_21, qdk_22, qdk_23, qdk_24, qdk_25, qdk_26, qdk_27, qdk_28, qdk_29, qdk_30, qdk_31, qdk_32, qdk_33, qdk_34, qdk_35, qdk_36, qdk_37, qdk_38, qdk_39, qdk_40, qdk_41, qdk_42, qdk_43, qdk_44, qdl_2, qdl_3, qdl_4, qdl_5, qdl_6, qdl_7, qdl_8, qdl_9, qdl_10, qdl_11, qdl_12, qdl_13, qdl_14, qdl_15, qdl_16, qdl_17, qdl_18, qdl_19, qdl_20, qdl_21, qdl_22, qdl_23, qdl_24, qdl_25, qdl_26, qdl_27, qdl_28, qdl_29, qdl_30, qdl_31, qdl_32, qdl_33, qdl_34, qdl_35, qdl_36, qdl_37, qdl_38, qdl_39, qdl_40, qdl_41, qdl_42, qdl_43, qdl_44, qdr_0, qdr_1, qdr_2, qdr_3, qdr_4, qdr_5, qdr_6, qdr_7, qdr_8, qdr_9, qdr_10, qdr_11, qdr_12, qdr_15, qdr_16, qdr_19, qdr_20, qdr_21, qdr_22, qdr_26, qdr_27, qdr_28, qdr_29, qdr_30, qdr_34, qdr_35, qdr_37, qdr_38, qdr_39, qdr_40, qdr_42, qdr_43, qdr_44, qdr_45, qdr_46, qdr_47, qdr_48, qdr_49, qdr_50, qdr_51, qdr_53, qdr_54, qdr_55, hA, Option.isSome_some, qb_t, fX8_readsThing_42, hJ]
        · rw [if_neg c2] at hV'
          subst hV'
          have e10 : t = 10 := by omega
          subst e10
          have ex := hx2 rfl
          subst ex
          obtain ⟨J, hJ, j1, j2, -, -⟩ := rPuts (G := G) hT.2.1 hT.1 hV1 ht (kind := 10) l false
          refine ⟨J, ?_, j1, qFrR_tr f1 j2⟩
          rw [qb_f] at hJ
          simp (disch := omega) only [↓qlet, eq_self, qzg_t, qzb_some, ↓reduceIte, not_or, not_false_eq_true, not_true_eq_false, and_true, true_and, and_self, or_false, false_or, true_or, or_true, and_false, false_and, qlit, qneg, qof, qn_add, qn_mul, qn_s, qn_z, qn_d, qn_dz, qm_1, qt_1, qt_0, qb_0, qb_1, qb_01, qb01b, q01_0, q01_1, qo_s, qo_n, qn_c, qn_le, qn_lt, qn_eq, qn_ne_m, qm_ne_n, qm_lt, qm_le, qn_lt_m, qn_le_m, qn_sub, qn_div, qn_mod, qle_t, qle_f, qlt_t, qlt_f, qeq_t, qeq_f, Nat.add_sub_cancel, qD_I, qD_s, qU_s, qU_a, qU_k, qdk_1, qdk_2, qdk_3, qdk_4, qdk_5, qdk_6, qdk_7, qdk_8, qdk_9, qdk_10, qdk_11, qdk_12, qdk_13, qdk_14, qdk_15, qdk_16, qdk_17, qdk_18, qdk_19, qdk_20, qdk_21, qdk_22, qdk_23, qdk_24, qdk_25, qdk_26, qdk_27, qdk_28, qdk_29, qdk_30, qdk_31, qdk_32, qdk_33, qdk_34, qdk_35, qdk_36, qdk_37, qdk_38, qdk_39, qdk_40, qdk_41, qdk_42, qdk_43, qdk_44, qdl_2, qdl_3, qdl_4, qdl_5, qdl_6, qdl_7, qdl_8, qdl_9, qdl_10, qdl_11, qdl_12, qdl_13, qdl_14, qdl_15, qdl_16, qdl_17, qdl_18, qdl_19, qdl_20, qdl_21, qdl_22, qdl_23, qdl_24, qdl_25, qdl_26, qdl_27, qdl_28, qdl_29, qdl_30, qdl_31, qdl_32, qdl_33, qdl_34, qdl_35, qdl_36, qdl_37, qdl_38, qdl_39, qdl_40, qdl_41, qdl_42, qdl_43, qdl_44, qdr_0, qdr_1, qdr_2, qdr_3, qdr_4, qdr_5, qdr_6, qdr_7, qdr_8, qdr_9, qdr_10, qdr_11, qdr_12, qdr_15, qdr_16, qdr_19, qdr_20, qdr_21, qdr_22, qdr_26, qdr_27, qdr_28, qdr_29, qdr_30, qdr_34, qdr_35, qdr_37, qdr_38, qdr_39, qdr_40, qdr_42, qdr_43, qdr_44, qdr_45, qdr_46, qdr_47, qdr_48, qdr_49, qdr_50, qdr_51, qdr_53, qdr_54, qdr_55, hA, Option.isSome_some, qb_t, fX8_readsThing_42, hJ]
      | none =>
        rw [ha] at hV' hA hV1
        have hV1 : qRV J1 p V := hV1
        have hZ1 := hV1.1
        have hd1 := hZ1.1
        have hbg := hZ1.2.2.1
        have hth1 := hV1.2.2.1
        have hW := rWant hG1 hg hz hZ1 hth1 ht
        obtain ⟨wt, hwt⟩ : ∃ wt, wt = (if put < 8 then qWant G V.1 else none) := ⟨_, rfl⟩
        rw [← hwt] at hV'
        have hs2 : (zg (zk (qD I) 1 = 8) (zb (fX8_isAccepted 1 (qn t) (qD I)) fun r50 M51 => (if r50 = 0 then if 8 ≤ (qn put) then fX8_readsThing_80 (fX8_readsThing_2 m) 1 (qn t) x2 (qn put) (-1) M51 else zg (zk M51 1 = 8) (zb (fX8_wanted 1 M51) fun r56 M57 => (fX8_readsThing_80 (fX8_readsThing_2 m) 1 (qn t) x2 (qn put) r56 M57)) else fX8_readsThing_42 1 (qn t) x2 M51))) = fX8_readsThing_80 (fX8_readsThing_2 m) 1 (qn t) x2 (qn put) (qo wt) (qD J1) := by
          by_cases c3 : put < 8
          · rw [if_pos c3] at hwt
            simp (disch := omega) only [↓qlet, eq_self, qzg_t, qzb_some, ↓reduceIte, not_or, not_false_eq_true, not_true_eq_false, and_true, true_and, and_self, or_false, false_or, true_or, or_true, and_false, false_and, qlit, qneg, qof, qn_add, qn_mul, qn_s, qn_z, qn_d, qn_dz, qm_1, qt_1, qt_0, qb_0, qb_1, qb_01, qb01b, q01_0, q01_1, qo_s, qo_n, qn_c, qn_le, qn_lt, qn_eq, qn_ne_m, qm_ne_n, qm_lt, qm_le, qn_lt_m, qn_le_m, qn_sub, qn_div, qn_mod, qle_t, qle_f, qlt_t, qlt_f, qeq_t, qeq_f, Nat.add_sub_cancel, qD_I, qD_s, qU_s, qU_a, qU_k, qdk_1, qdk_2, qdk_3, qdk_4, qdk_5, qdk_6, qdk_7, qdk_8, qdk_9, qdk_10, qdk_11, qdk_12, qdk_13, qdk_14, qdk_15, qdk_16, qdk_17, qdk_18, qdk_19, qdk_20, qdk_21, qdk_22, qdk_23, qdk_24, qdk_25, qdk_26, qdk_27, qdk_28, qdk_29, qdk_30, qdk_31, qdk_32, qdk_33, qdk_34, qdk_35, qdk_36, qdk_37, qdk_38, qdk_39, qdk_40, qdk_41, qdk_42, qdk_43, qdk_44, qdl_2, qdl_3, qdl_4, qdl_5, qdl_6, qdl_7, qdl_8, qdl_9, qdl_10, qdl_11, qdl_12, qdl_13, qdl_14, qdl_15, qdl_16, qdl_17, qdl_18, qdl_19, qdl_20, qdl_21, qdl_22, qdl_23, qdl_24, qdl_25, qdl_26, qdl_27, qdl_28, qdl_29, qdl_30, qdl_31, qdl_32, qdl_33, qdl_34, qdl_35, qdl_36, qdl_37, qdl_38, qdl_39, qdl_40, qdl_41, qdl_42, qdl_43, qdl_44, qdr_0, qdr_1, qdr_2, qdr_3, qdr_4, qdr_5, qdr_6, qdr_7, qdr_8, qdr_9, qdr_10, qdr_11, qdr_12, qdr_15, qdr_16, qdr_19, qdr_20, qdr_21, qdr_22, qdr_26, qdr_27, qdr_28, qdr_29, qdr_30, qdr_34, qdr_35, qdr_37, qdr_38, qdr_39, qdr_40, qdr_42, qdr_43, qdr_44, qdr_45, qdr_46, qdr_47, qdr_48, qdr_49, qdr_50, qdr_51, qdr_53, qdr_54, qdr_55, hA, Option.isSome_none, qb_f, hW, hwt]
          · rw [if_neg c3] at hwt
            subst hwt
            simp (disch := omega) only [↓qlet, eq_self, qzg_t, qzb_some, ↓reduceIte, not_or, not_false_eq_true, not_true_eq_false, and_true, true_and, and_self, or_false, false_or, true_or, or_true, and_false, false_and, qlit, qneg, qof, qn_add, qn_mul, qn_s, qn_z, qn_d, qn_dz, qm_1, qt_1, qt_0, qb_0, qb_1, qb_01, qb01b, q01_0, q01_1, qo_s, qo_n, qn_c, qn_le, qn_lt, qn_eq, qn_ne_m, qm_ne_n, qm_lt, qm_le, qn_lt_m, qn_le_m, qn_sub, qn_div, qn_mod, qle_t, qle_f, qlt_t, qlt_f, qeq_t, qeq_f, Nat.add_sub_cancel, qD_I, qD_s, qU_s, qU_a, qU_k, qdk_1, qdk_2, qdk_3, qdk_4, qdk_5, qdk_6, qdk_7, qdk_8, qdk_9, qdk_10, qdk_11, qdk_12, qdk_13, qdk_14, qdk_15, qdk_16, qdk_17, qdk_18, qdk_19, qdk_20, qdk_21, qdk_22, qdk_23, qdk_24, qdk_25, qdk_26, qdk_27, qdk_28, qdk_29, qdk_30, qdk_31, qdk_32, qdk_33, qdk_34, qdk_35, qdk_36, qdk_37, qdk_38, qdk_39, qdk_40, qdk_41, qdk_42, qdk_43, qdk_44, qdl_2, qdl_3, qdl_4, qdl_5, qdl_6, qdl_7, qdl_8, qdl_9, qdl_10, qdl_11, qdl_12, qdl_13, qdl_14, qdl_15, qdl_16, qdl_17, qdl_18, qdl_19, qdl_20, qdl_21, qdl_22, qdl_23, qdl_24, qdl_25, qdl_26, qdl_27, qdl_28, qdl_29, qdl_30, qdl_31, qdl_32, qdl_33, qdl_34, qdl_35, qdl_36, qdl_37, qdl_38, qdl_39, qdl_40, qdl_41, qdl_42, qdl_43, qdl_44, qdr_0, qdr_1, qdr_2, qdr_3, qdr_4, qdr_5, qdr_6, qdr_7, qdr_8, qdr_9, qdr_10, qdr_11, qdr_12, qdr_15, qdr_16, qdr_19, qdr_20, qdr_21, qdr_22, qdr_26, qdr_27, qdr_28, qdr_29, qdr_30, qdr_34, qdr_35, qdr_37, qdr_38, qdr_39, qdr_40, qdr_42, qdr_43, qdr_44, qdr_45, qdr_46, qdr_47, qdr_48, qdr_49, qdr_50, qdr_51, qdr_53, qdr_54, qdr_55, hA, Option.isSome_none, qb_f]
        rw [hs2]
        unfold fX8_readsThing_80
        have hA0 := (hG1 0 (by omega)).2.2.2.2.1
        by_cases c2 : V.1.2 = none ∧ qgA G 0 = true
        · rw [if_pos c2] at hV'
          have e0 := hz.2.2.2 c2.1
          obtain ⟨J, hJ, j1, j2⟩ := rOpen hG1 hg hok.2.1 hz hV1 ht (e := 0) (by omega) (by rw [e0]; simp) true
          obtain ⟨K, hK, k1, k2⟩ := ih put _ J m (by omega) h8 (qFrR_G j2 hG1) (qOpen_ok hok ht (by omega) (by rw [e0]; simp) hp true) j1 V' hV'
          refine ⟨K, ?_, k1, qFrR_tr f1 (qFrR_tr j2 k2)⟩
          rw [qb_t] at hJ
          rw [c2.1] at hbg
          simp (disch := omega) only [↓qlet, eq_self, qzg_t, qzb_some, ↓reduceIte, not_or, not_false_eq_true, not_true_eq_false, and_true, true_and, and_self, or_false, false_or, true_or, or_true, and_false, false_and, qlit, qneg, qof, qn_add, qn_mul, qn_s, qn_z, qn_d, qn_dz, qm_1, qt_1, qt_0, qb_0, qb_1, qb_01, qb01b, q01_0, q01_1, qo_s, qo_n, qn_c, qn_le, qn_lt, qn_eq, qn_ne_m, qm_ne_n, qm_lt, qm_le, qn_lt_m, qn_le_m, qn_sub, qn_div, qn_mod, qle_t, qle_f, qlt_t, qlt_f, qeq_t, qeq_f, Nat.add_sub_cancel, qD_I, qD_s, qU_s, qU_a, qU_k, qdk_1, qdk_2, qdk_3, qdk_4, qdk_5, qdk_6, qdk_7, qdk_8, qdk_9, qdk_10, qdk_11, qdk_12, qdk_13, qdk_14, qdk_15, qdk_16, qdk_17, qdk_18, qdk_19, qdk_20, qdk_21, qdk_22, qdk_23, qdk_24, qdk_25, qdk_26, qdk_27, qdk_28, qdk_29, qdk_30, qdk_31, qdk_32, qdk_33, qdk_34, qdk_35, qdk_36, qdk_37, qdk_38, qdk_39, qdk_40, qdk_41, qdk_42, qdk_43, qdk_44, qdl_2, qdl_3, qdl_4, qdl_5, qdl_6, qdl_7, qdl_8, qdl_9, qdl_10, qdl_11, qdl_12, qdl_13, qdl_14, qdl_15, qdl_16, qdl_17, qdl_18, qdl_19, qdl_20, qdl_21, qdl_22, qdl_23, qdl_24, qdl_25, qdl_26, qdl_27, qdl_28, qdl_29, qdl_30, qdl_31, qdl_32, qdl_33, qdl_34, qdl_35, qdl_36, qdl_37, qdl_38, qdl_39, qdl_40, qdl_41, qdl_42, qdl_43, qdl_44, qdr_0, qdr_1, qdr_2, qdr_3, qdr_4, qdr_5, qdr_6, qdr_7, qdr_8, qdr_9, qdr_10, qdr_11, qdr_12, qdr_15, qdr_16, qdr_19, qdr_20, qdr_21, qdr_22, qdr_26, qdr_27, qdr_28, qdr_29, qdr_30, qdr_34, qdr_35, qdr_37, qdr_38, qdr_39, qdr_40, qdr_42, qdr_43, qdr_44, qdr_45, qdr_46, qdr_47, qdr_48, qdr_49, qdr_50, qdr_51, qdr_53, qdr_54, qdr_55, hbg, Option.isSome_none, qb_f, hA0, c2.2, qb_t, hJ, fX8_readsThing_196, hK]
        · rw [if_neg c2] at hV'
          have hs3 : (zg (zk (qD J1) 1 = 8) (if (zI (qD J1) 1 25) = 0 then zg (zk (qD J1) (zR (qD J1) 1 5) = 101) (zg (¬ ((0 : Int32) < 0 ∨ zl (qD J1) (zR (qD J1) 1 5) ≤ (0 : Int32).toNatClampNeg)) (if (zI (qD J1) (zR (qD J1) 1 5) (0 : Int32).toNatClampNeg) = 0 then fX8_readsThing_107 (fX8_readsThing_2 m) 1 (qn t) x2 (qn put) (qo wt) (qD J1) else zb (fX8_opensElement 1 0 1 (qD J1)) fun r37 M38 => (fX8_readsThing_196 (fX8_readsThing_2 m) 1 (qn t) x2 (qn put) M38))) else fX8_readsThing_107 (fX8_readsThing_2 m) 1 (qn t) x2 (qn put) (qo wt) (qD J1))) = fX8_readsThing_107 (fX8_readsThing_2 m) 1 (qn t) x2 (qn put) (qo wt) (qD J1) := by
            cases hla : V.1.2 with
            | none =>
              rw [hla] at hbg
              have c4 : qgA G 0 = false := by
                cases hc : qgA G 0
                · rfl
                · exact absurd ⟨hla, hc⟩ c2
              simp (disch := omega) only [↓qlet, eq_self, qzg_t, qzb_some, ↓reduceIte, not_or, not_false_eq_true, not_true_eq_false, and_true, true_and, and_self, or_false, false_or, true_or, or_true, and_false, false_and, qlit, qneg, qof, qn_add, qn_mul, qn_s, qn_z, qn_d, qn_dz, qm_1, qt_1, qt_0, qb_0, qb_1, qb_01, qb01b, q01_0, q01_1, qo_s, qo_n, qn_c, qn_le, qn_lt, qn_eq, qn_ne_m, qm_ne_n, qm_lt, qm_le, qn_lt_m, qn_le_m, qn_sub, qn_div, qn_mod, qle_t, qle_f, qlt_t, qlt_f, qeq_t, qeq_f, Nat.add_sub_cancel, qD_I, qD_s, qU_s, qU_a, qU_k, qdk_1, qdk_2, qdk_3, qdk_4, qdk_5, qdk_6, qdk_7, qdk_8, qdk_9, qdk_10, qdk_11, qdk_12, qdk_13, qdk_14, qdk_15, qdk_16, qdk_17, qdk_18, qdk_19, qdk_20, qdk_21, qdk_22, qdk_23, qdk_24, qdk_25, qdk_26, qdk_27, qdk_28, qdk_29, qdk_30, qdk_31, qdk_32, qdk_33, qdk_34, qdk_35, qdk_36, qdk_37, qdk_38, qdk_39, qdk_40, qdk_41, qdk_42, qdk_43, qdk_44, qdl_2, qdl_3, qdl_4, qdl_5, qdl_6, qdl_7, qdl_8, qdl_9, qdl_10, qdl_11, qdl_12, qdl_13, qdl_14, qdl_15, qdl_16, qdl_17, qdl_18, qdl_19, qdl_20, qdl_21, qdl_22, qdl_23, qdl_24, qdl_25, qdl_26, qdl_27, qdl_28, qdl_29, qdl_30, qdl_31, qdl_32, qdl_33, qdl_34, qdl_35, qdl_36, qdl_37, qdl_38, qdl_39, qdl_40, qdl_41, qdl_42, qdl_43, qdl_44, qdr_0, qdr_1, qdr_2, qdr_3, qdr_4, qdr_5, qdr_6, qdr_7, qdr_8, qdr_9, qdr_10, qdr_11, qdr_12, qdr_15, qdr_16, qdr_19, qdr_20, qdr_21, qdr_22, qdr_26, qdr_27, qdr_28, qdr_29, qdr_30, qdr_34, qdr_35, qdr_37, qdr_38, qdr_39, qdr_40, qdr_42, qdr_43, qdr_44, qdr_45, qdr_46, qdr_47, qdr_48, qdr_49, qdr_50, qdr_51, qdr_53, qdr_54, qdr_55, hbg, Option.isSome_none, qb_f, hA0, c4]
            | some e9 =>
              rw [hla] at hbg
              simp (disch := omega) only [↓qlet, eq_self, qzg_t, qzb_some, ↓reduceIte, not_or, not_false_eq_true, not_true_eq_false, and_true, true_and, and_self, or_false, false_or, true_or, or_true, and_false, false_and, qlit, qneg, qof, qn_add, qn_mul, qn_s, qn_z, qn_d, qn_dz, qm_1, qt_1, qt_0, qb_0, qb_1, qb_01, qb01b, q01_0, q01_1, qo_s, qo_n, qn_c, qn_le, qn_lt, qn_eq, qn_ne_m, qm_ne_n, qm_lt, qm_le, qn_lt_m, qn_le_m, qn_sub, qn_div, qn_mod, qle_t, qle_f, qlt_t, qlt_f, qeq_t, qeq_f, Nat.add_sub_cancel, qD_I, qD_s, qU_s, qU_a, qU_k, qdk_1, qdk_2, qdk_3, qdk_4, qdk_5, qdk_6, qdk_7, qdk_8, qdk_9, qdk_10, qdk_11, qdk_12, qdk_13, qdk_14, qdk_15, qdk_16, qdk_17, qdk_18, qdk_19, qdk_20, qdk_21, qdk_22, qdk_23, qdk_24, qdk_25, qdk_26, qdk_27, qdk_28, qdk_29, qdk_30, qdk_31, qdk_32, qdk_33, qdk_34, qdk_35, qdk_36, qdk_37, qdk_38, qdk_39, qdk_40, qdk_41, qdk_42, qdk_43, qdk_44, qdl_2, qdl_3, qdl_4, qdl_5, qdl_6, qdl_7, qdl_8, qdl_9, qdl_10, qdl_11, qdl_12, qdl_13, qdl_14, qdl_15, qdl_16, qdl_17, qdl_18, qdl_19, qdl_20, qdl_21, qdl_22, qdl_23, qdl_24, qdl_25, qdl_26, qdl_27, qdl_28, qdl_29, qdl_30, qdl_31, qdl_32, qdl_33, qdl_34, qdl_35, qdl_36, qdl_37, qdl_38, qdl_39, qdl_40, qdl_41, qdl_42, qdl_43, qdl_44, qdr_0, qdr_1, qdr_2, qdr_3, qdr_4, qdr_5, qdr_6, qdr_7, qdr_8, qdr_9, qdr_10, qdr_11, qdr_12, qdr_15, qdr_16, qdr_19, qdr_20, qdr_21, qdr_22, qdr_26, qdr_27, qdr_28, qdr_29, qdr_30, qdr_34, qdr_35, qdr_37, qdr_38, qdr_39, qdr_40, qdr_42, qdr_43, qdr_44, qdr_45, qdr_46, qdr_47, qdr_48, qdr_49, qdr_50, qdr_51, qdr_53, qdr_54, qdr_55, hbg, Option.isSome_some, qb_t]
          rw [hs3]
          unfold fX8_readsThing_107
          cases wt with
          | none =>
            dsimp only at hV'
            have hlm : ∀ x y : Nat × Nat, ∀ st, V.1.1 = x :: y :: st → qMay G V.1 = (qgB G x.1 && qrEnd G x.1 x.2) := fun x y st e => by unfold qMay; rw [e]
            -- what is open
            cases hst : V.1.1 with
            | nil =>
              have c3 : qMay G V.1 = false := by unfold qMay; rw [hst]
              rw [if_neg (by rw [c3]; decide)] at hV'
              injection hV' with hV'
              subst hV'
              obtain ⟨J, hJ, j1, j2⟩ := rErr hV1 (by omega) 0
              refine ⟨J, ?_, j1, qFrR_tr f1 j2⟩
              rw [hst] at hd1
              simp only [List.length_nil] at hd1
              simp (disch := omega) only [↓qlet, eq_self, qzg_t, qzb_some, ↓reduceIte, not_or, not_false_eq_true, not_true_eq_false, and_true, true_and, and_self, or_false, false_or, true_or, or_true, and_false, false_and, qlit, qneg, qof, qn_add, qn_mul, qn_s, qn_z, qn_d, qn_dz, qm_1, qt_1, qt_0, qb_0, qb_1, qb_01, qb01b, q01_0, q01_1, qo_s, qo_n, qn_c, qn_le, qn_lt, qn_eq, qn_ne_m, qm_ne_n, qm_lt, qm_le, qn_lt_m, qn_le_m, qn_sub, qn_div, qn_mod, qle_t, qle_f, qlt_t, qlt_f, qeq_t, qeq_f, Nat.add_sub_cancel, qD_I, qD_s, qU_s, qU_a, qU_k, qdk_1, qdk_2, qdk_3, qdk_4, qdk_5, qdk_6, qdk_7, qdk_8, qdk_9, qdk_10, qdk_11, qdk_12, qdk_13, qdk_14, qdk_15, qdk_16, qdk_17, qdk_18, qdk_19, qdk_20, qdk_21, qdk_22, qdk_23, qdk_24, qdk_25, qdk_26, qdk_27, qdk_28, qdk_29, qdk_30, qdk_31, qdk_32, qdk_33, qdk_34, qdk_35, qdk_36, qdk_37, qdk_38, qdk_39, qdk_40, qdk_41, qdk_42, qdk_43, qdk_44, qdl_2, qdl_3, qdl_4, qdl_5, qdl_6, qdl_7, qdl_8, qdl_9, qdl_10, qdl_11, qdl_12, qdl_13, qdl_14, qdl_15, qdl_16, qdl_17, qdl_18, qdl_19, qdl_20, qdl_21, qdl_22, qdl_23, qdl_24, qdl_25, qdl_26, qdl_27, qdl_28, qdl_29, qdl_30, qdl_31, qdl_32, qdl_33, qdl_34, qdl_35, qdl_36, qdl_37, qdl_38, qdl_39, qdl_40, qdl_41, qdl_42, qdl_43, qdl_44, qdr_0, qdr_1, qdr_2, qdr_3, qdr_4, qdr_5, qdr_6, qdr_7, qdr_8, qdr_9, qdr_10, qdr_11, qdr_12, qdr_15, qdr_16, qdr_19, qdr_20, qdr_21, qdr_22, qdr_26, qdr_27, qdr_28, qdr_29, qdr_30, qdr_34, qdr_35, qdr_37, qdr_38, qdr_39, qdr_40, qdr_42, qdr_43, qdr_44, qdr_45, qdr_46, qdr_47, qdr_48, qdr_49, qdr_50, qdr_51, qdr_53, qdr_54, qdr_55, hd1, fX8_readsThing_190, hJ]
            | cons x st =>
              cases st with
              | nil =>
                have c3 : qMay G V.1 = false := by unfold qMay; rw [hst]
                rw [if_neg (by rw [c3]; decide)] at hV'
                injection hV' with hV'
                subst hV'
                obtain ⟨J, hJ, j1, j2⟩ := rErr hV1 (by omega) 0
                refine ⟨J, ?_, j1, qFrR_tr f1 j2⟩
                rw [hst] at hd1
                simp only [List.length_cons, List.length_nil] at hd1
                simp (disch := omega) only [↓qlet, eq_self, qzg_t, qzb_some, ↓reduceIte, not_or, not_false_eq_true, not_true_eq_false, and_true, true_and, and_self, or_false, false_or, true_or, or_true, and_false, false_and, qlit, qneg, qof, qn_add, qn_mul, qn_s, qn_z, qn_d, qn_dz, qm_1, qt_1, qt_0, qb_0, qb_1, qb_01, qb01b, q01_0, q01_1, qo_s, qo_n, qn_c, qn_le, qn_lt, qn_eq, qn_ne_m, qm_ne_n, qm_lt, qm_le, qn_lt_m, qn_le_m, qn_sub, qn_div, qn_mod, qle_t, qle_f, qlt_t, qlt_f, qeq_t, qeq_f, Nat.add_sub_cancel, qD_I, qD_s, qU_s, qU_a, qU_k, qdk_1, qdk_2, qdk_3, qdk_4, qdk_5, qdk_6, qdk_7, qdk_8, qdk_9, qdk_10, qdk_11, qdk_12, qdk_13, qdk_14, qdk_15, qdk_16, qdk_17, qdk_18, qdk_19, qdk_20, qdk_21, qdk_22, qdk_23, qdk_24, qdk_25, qdk_26, qdk_27, qdk_28, qdk_29, qdk_30, qdk_31, qdk_32, qdk_33, qdk_34, qdk_35, qdk_36, qdk_37, qdk_38, qdk_39, qdk_40, qdk_41, qdk_42, qdk_43, qdk_44, qdl_2, qdl_3, qdl_4, qdl_5, qdl_6, qdl_7, qdl_8, qdl_9, qdl_10, qdl_11, qdl_12, qdl_13, qdl_14, qdl_15, qdl_16, qdl_17, qdl_18, qdl_19, qdl_20, qdl_21, qdl_22, qdl_23, qdl_24, qdl_25, qdl_26, qdl_27, qdl_28, qdl_29, qdl_30, qdl_31, qdl_32, qdl_33, qdl_34, qdl_35, qdl_36, qdl_37, qdl_38, qdl_39, qdl_40, qdl_41, qdl_42, qdl_43, qdl_44, qdr_0, qdr_1, qdr_2, qdr_3, qdr_4, qdr_5, qdr_6, qdr_7, qdr_8, qdr_9, qdr_10, qdr_11, qdr_12, qdr_15, qdr_16, qdr_19, qdr_20, qdr_21, qdr_22, qdr_26, qdr_27, qdr_28, qdr_29, qdr_30, qdr_34, qdr_35, qdr_37, qdr_38, qdr_39, qdr_40, qdr_42, qdr_43, qdr_44, qdr_45, qdr_46, qdr_47, qdr_48, qdr_49, qdr_50, qdr_51, qdr_53, qdr_54, qdr_55, hd1, fX8_readsThing_190, hJ]
              | cons y st =>
                have hm2 := hlm x y st hst
                have hCT := rCanTop hG1 hg hz hZ1 (by rw [hst]; simp)
                have hqc : qCan G V.1 = qrEnd G x.1 x.2 := by unfold qCan; rw [hst]
                rw [hqc] at hCT
                obtain ⟨b1, b2⟩ := hz.2.1 x (by rw [hst]; simp)
                have hgB := (hG1 x.1 b1).2.2.2.2.2
                have hal := hZ1.2.2.2
                rw [hst] at hal hd1 hlen
                simp only [List.length_cons] at hd1 hlen
                obtain ⟨⟨a1, -, -⟩, -⟩ := hal
                simp only [List.length_cons] at a1
                cases c3 : qMay G V.1 with
                | true =>
                  rw [if_pos c3] at hV'
                  rw [hm2] at c3
                  have c3 := Bool.and_eq_true_iff.mp c3
                  obtain ⟨v2, f2⟩ := qRV_shut hok (by rw [hst]; simp) hV1
                  obtain ⟨K, hK, k1, k2⟩ := ih put _ _ m (by omega) h8 (qFrR_G f2 hG1) (qShut_ok hok (by rw [hst]; simp)) v2 V' hV'
                  refine ⟨K, ?_, k1, qFrR_tr f1 (qFrR_tr f2 k2)⟩
                  have h32 := hV1.2.2.2.2.1
                  rw [hst] at hK
                  simp only [List.length_cons, Nat.add_sub_cancel] at hK
                  simp (disch := omega) only [↓qlet, eq_self, qzg_t, qzb_some, ↓reduceIte, not_or, not_false_eq_true, not_true_eq_false, and_true, true_and, and_self, or_false, false_or, true_or, or_true, and_false, false_and, qlit, qneg, qof, qn_add, qn_mul, qn_s, qn_z, qn_d, qn_dz, qm_1, qt_1, qt_0, qb_0, qb_1, qb_01, qb01b, q01_0, q01_1, qo_s, qo_n, qn_c, qn_le, qn_lt, qn_eq, qn_ne_m, qm_ne_n, qm_lt, qm_le, qn_lt_m, qn_le_m, qn_sub, qn_div, qn_mod, qle_t, qle_f, qlt_t, qlt_f, qeq_t, qeq_f, Nat.add_sub_cancel, qD_I, qD_s, qU_s, qU_a, qU_k, qdk_1, qdk_2, qdk_3, qdk_4, qdk_5, qdk_6, qdk_7, qdk_8, qdk_9, qdk_10, qdk_11, qdk_12, qdk_13, qdk_14, qdk_15, qdk_16, qdk_17, qdk_18, qdk_19, qdk_20, qdk_21, qdk_22, qdk_23, qdk_24, qdk_25, qdk_26, qdk_27, qdk_28, qdk_29, qdk_30, qdk_31, qdk_32, qdk_33, qdk_34, qdk_35, qdk_36, qdk_37, qdk_38, qdk_39, qdk_40, qdk_41, qdk_42, qdk_43, qdk_44, qdl_2, qdl_3, qdl_4, qdl_5, qdl_6, qdl_7, qdl_8, qdl_9, qdl_10, qdl_11, qdl_12, qdl_13, qdl_14, qdl_15, qdl_16, qdl_17, qdl_18, qdl_19, qdl_20, qdl_21, qdl_22, qdl_23, qdl_24, qdl_25, qdl_26, qdl_27, qdl_28, qdl_29, qdl_30, qdl_31, qdl_32, qdl_33, qdl_34, qdl_35, qdl_36, qdl_37, qdl_38, qdl_39, qdl_40, qdl_41, qdl_42, qdl_43, qdl_44, qdr_0, qdr_1, qdr_2, qdr_3, qdr_4, qdr_5, qdr_6, qdr_7, qdr_8, qdr_9, qdr_10, qdr_11, qdr_12, qdr_15, qdr_16, qdr_19, qdr_20, qdr_21, qdr_22, qdr_26, qdr_27, qdr_28, qdr_29, qdr_30, qdr_34, qdr_35, qdr_37, qdr_38, qdr_39, qdr_40, qdr_42, qdr_43, qdr_44, qdr_45, qdr_46, qdr_47, qdr_48, qdr_49, qdr_50, qdr_51, qdr_53, qdr_54, qdr_55, hd1, hCT, c3.2, qb_t, a1, hgB, c3.1, h32, fX8_readsThing_196]
                  exact hK
                | false =>
                  rw [if_neg (by rw [c3]; decide)] at hV'
                  injection hV' with hV'
                  subst hV'
                  rw [hm2] at c3
                  obtain ⟨J, hJ, j1, j2⟩ := rErr hV1 (by omega) 0
                  refine ⟨J, ?_, j1, qFrR_tr f1 j2⟩
                  cases hE : qrEnd G x.1 x.2 with
                  | false =>
                    rw [hE] at hCT
                    simp (disch := omega) only [↓qlet, eq_self, qzg_t, qzb_some, ↓reduceIte, not_or, not_false_eq_true, not_true_eq_false, and_true, true_and, and_self, or_false, false_or, true_or, or_true, and_false, false_and, qlit, qneg, qof, qn_add, qn_mul, qn_s, qn_z, qn_d, qn_dz, qm_1, qt_1, qt_0, qb_0, qb_1, qb_01, qb01b, q01_0, q01_1, qo_s, qo_n, qn_c, qn_le, qn_lt, qn_eq, qn_ne_m, qm_ne_n, qm_lt, qm_le, qn_lt_m, qn_le_m, qn_sub, qn_div, qn_mod, qle_t, qle_f, qlt_t, qlt_f, qeq_t, qeq_f, Nat.add_sub_cancel, qD_I, qD_s, qU_s, qU_a, qU_k, qdk_1, qdk_2, qdk_3, qdk_4, qdk_5, qdk_6, qdk_7, qdk_8, qdk_9, qdk_10, qdk_11, qdk_12, qdk_13, qdk_14, qdk_15, qdk_16, qdk_17, qdk_18, qdk_19, qdk_20, qdk_21, qdk_22, qdk_23, qdk_24, qdk_25, qdk_26, qdk_27, qdk_28, qdk_29, qdk_30, qdk_31, qdk_32, qdk_33, qdk_34, qdk_35, qdk_36, qdk_37, qdk_38, qdk_39, qdk_40, qdk_41, qdk_42, qdk_43, qdk_44, qdl_2, qdl_3, qdl_4, qdl_5, qdl_6, qdl_7, qdl_8, qdl_9, qdl_10, qdl_11, qdl_12, qdl_13, qdl_14, qdl_15, qdl_16, qdl_17, qdl_18, qdl_19, qdl_20, qdl_21, qdl_22, qdl_23, qdl_24, qdl_25, qdl_26, qdl_27, qdl_28, qdl_29, qdl_30, qdl_31, qdl_32, qdl_33, qdl_34, qdl_35, qdl_36, qdl_37, qdl_38, qdl_39, qdl_40, qdl_41, qdl_42, qdl_43, qdl_44, qdr_0, qdr_1, qdr_2, qdr_3, qdr_4, qdr_5, qdr_6, qdr_7, qdr_8, qdr_9, qdr_10, qdr_11, qdr_12, qdr_15, qdr_16, qdr_19, qdr_20, qdr_21, qdr_22, qdr_26, qdr_27, qdr_28, qdr_29, qdr_30, qdr_34, qdr_35, qdr_37, qdr_38, qdr_39, qdr_40, qdr_42, qdr_43, qdr_44, qdr_45, qdr_46, qdr_47, qdr_48, qdr_49, qdr_50, qdr_51, qdr_53, qdr_54, qdr_55, hd1, hCT, qb_f, fX8_readsThing_190, hJ]
                  | true =>
                    rw [hE] at hCT c3
                    rw [Bool.and_true] at c3
                    simp (disch := omega) only [↓qlet, eq_self, qzg_t, qzb_some, ↓reduceIte, not_or, not_false_eq_true, not_true_eq_false, and_true, true_and, and_self, or_false, false_or, true_or, or_true, and_false, false_and, qlit, qneg, qof, qn_add, qn_mul, qn_s, qn_z, qn_d, qn_dz, qm_1, qt_1, qt_0, qb_0, qb_1, qb_01, qb01b, q01_0, q01_1, qo_s, qo_n, qn_c, qn_le, qn_lt, qn_eq, qn_ne_m, qm_ne_n, qm_lt, qm_le, qn_lt_m, qn_le_m, qn_sub, qn_div, qn_mod, qle_t, qle_f, qlt_t, qlt_f, qeq_t, qeq_f, Nat.add_sub_cancel, qD_I, qD_s, qU_s, qU_a, qU_k, qdk_1, qdk_2, qdk_3, qdk_4, qdk_5, qdk_6, qdk_7, qdk_8, qdk_9, qdk_10, qdk_11, qdk_12, qdk_13, qdk_14, qdk_15, qdk_16, qdk_17, qdk_18, qdk_19, qdk_20, qdk_21, qdk_22, qdk_23, qdk_24, qdk_25, qdk_26, qdk_27, qdk_28, qdk_29, qdk_30, qdk_31, qdk_32, qdk_33, qdk_34, qdk_35, qdk_36, qdk_37, qdk_38, qdk_39, qdk_40, qdk_41, qdk_42, qdk_43, qdk_44, qdl_2, qdl_3, qdl_4, qdl_5, qdl_6, qdl_7, qdl_8, qdl_9, qdl_10, qdl_11, qdl_12, qdl_13, qdl_14, qdl_15, qdl_16, qdl_17, qdl_18, qdl_19, qdl_20, qdl_21, qdl_22, qdl_23, qdl_24, qdl_25, qdl_26, qdl_27, qdl_28, qdl_29, qdl_30, qdl_31, qdl_32, qdl_33, qdl_34, qdl_35, qdl_36, qdl_37, qdl_38, qdl_39, qdl_40, qdl_41, qdl_42, qdl_43, qdl_44, qdr_0, qdr_1, qdr_2, qdr_3, qdr_4, qdr_5, qdr_6, qdr_7, qdr_8, qdr_9, qdr_10, qdr_11, qdr_12, qdr_15, qdr_16, qdr_19, qdr_20, qdr_21, qdr_22, qdr_26, qdr_27, qdr_28, qdr_29, qdr_30, qdr_34, qdr_35, qdr_37, qdr_38, qdr_39, qdr_40, qdr_42, qdr_43, qdr_44, qdr_45, qdr_46, qdr_47, qdr_48, qdr_49, qdr_50, qdr_51, qdr_53, qdr_54, qdr_55, hd1, hCT, qb_t, a1, hgB, c3, qb_f, fX8_readsThing_190, hJ]
          | some e =>
            dsimp only at hV'
            have h9 : put < 8 := by
              by_cases c : put < 8
              · exact c
              · rw [if_neg c] at hwt; cases hwt
            rw [if_pos h9] at hwt
            obtain ⟨w1, w2, w3⟩ := qWant_some hwt.symm
            obtain ⟨J2, hA2, hZ2, hJ2⟩ := rAcc hG1 hg hz hZ1 (t := e) (by omega)
            obtain ⟨hV2, f2⟩ := qRV_to hV1 hZ2 hJ2
            have hG2 := qFrR_G f2 hG1
            have hL := qToD_len hok e
            have hT := qToD_ok hok e
            have hdl : (qTo ((qAcc G V.1 e).getD V.1) V).1.1.length < 20 := by show _ < 20; simp only [qTo]; rw [hL.1]; exact w2
            obtain ⟨J, hJ, j1, j2⟩ := rOpen hG2 hg hT.2.1 hT.1 hV2 ht w1 hdl true
            obtain ⟨K, hK, k1, k2⟩ := ih (put + 1) _ _ m (by omega) (by omega) (qFrR_G j2 hG2) (qOpen_ok hT ht w1 hdl hp true) j1 V' hV'
            refine ⟨K, ?_, k1, qFrR_tr f1 (qFrR_tr f2 (qFrR_tr j2 k2))⟩
            rw [qb_t] at hJ
            simp (disch := omega) only [↓qlet, eq_self, qzg_t, qzb_some, ↓reduceIte, not_or, not_false_eq_true, not_true_eq_false, and_true, true_and, and_self, or_false, false_or, true_or, or_true, and_false, false_and, qlit, qneg, qof, qn_add, qn_mul, qn_s, qn_z, qn_d, qn_dz, qm_1, qt_1, qt_0, qb_0, qb_1, qb_01, qb01b, q01_0, q01_1, qo_s, qo_n, qn_c, qn_le, qn_lt, qn_eq, qn_ne_m, qm_ne_n, qm_lt, qm_le, qn_lt_m, qn_le_m, qn_sub, qn_div, qn_mod, qle_t, qle_f, qlt_t, qlt_f, qeq_t, qeq_f, Nat.add_sub_cancel, qD_I, qD_s, qU_s, qU_a, qU_k, qdk_1, qdk_2, qdk_3, qdk_4, qdk_5, qdk_6, qdk_7, qdk_8, qdk_9, qdk_10, qdk_11, qdk_12, qdk_13, qdk_14, qdk_15, qdk_16, qdk_17, qdk_18, qdk_19, qdk_20, qdk_21, qdk_22, qdk_23, qdk_24, qdk_25, qdk_26, qdk_27, qdk_28, qdk_29, qdk_30, qdk_31, qdk_32, qdk_33, qdk_34, qdk_35, qdk_36, qdk_37, qdk_38, qdk_39, qdk_40, qdk_41, qdk_42, qdk_43, qdk_44, qdl_2, qdl_3, qdl_4, qdl_5, qdl_6, qdl_7, qdl_8, qdl_9, qdl_10, qdl_11, qdl_12, qdl_13, qdl_14, qdl_15, qdl_16, qdl_17, qdl_18, qdl_19, qdl_20, qdl_21, qdl_22, qdl_23, qdl_24, qdl_25, qdl_26, qdl_27, qdl_28, qdl_29, qdl_30, qdl_31, qdl_32, qdl_33, qdl_34, qdl_35, qdl_36, qdl_37, qdl_38, qdl_39, qdl_40, qdl_41, qdl_42, qdl_43, qdl_44, qdr_0, qdr_1, qdr_2, qdr_3, qdr_4, qdr_5, qdr_6, qdr_7, qdr_8, qdr_9, qdr_10, qdr_11, qdr_12, qdr_15, qdr_16, qdr_19, qdr_20, qdr_21, qdr_22, qdr_26, qdr_27, qdr_28, qdr_29, qdr_30, qdr_34, qdr_35, qdr_37, qdr_38, qdr_39, qdr_40, qdr_42, qdr_43, qdr_44, qdr_45, qdr_46, qdr_47, qdr_48, qdr_49, qdr_50, qdr_51, qdr_53, qdr_54, qdr_55, hA2, hJ, fX8_readsThing_196, hK]
theorem rRd {t l : Nat} {x2 : Int32} (htt : t ≤ 10) (hl : l < 128) (hx2 : t = 10 → x2 = qn l) (hp : p ≤ 600) (hg : qGok G) (hB : B ≤ 4320) (hG : qRG G I) (hok : qVok G B V) (hV : qRV I p V) : ∃ J, fX8_readsThing 1 (qn t) x2 (qD I) = some (qn 0, qD J) ∧ qRV J p (qRd G t l p V) ∧ qFrR I J := by
  have h := qRd_is (G := G) htt hl hp hok
  exact rRead htt hl hx2 hp hg hB 100 0 V I 10000 (by omega) (by omega) hG hok hV _ h.1
end
