/-! THE REFERENCE: insert, erase -/
section
variable {I : Nat → Nat → Int32} {A : qA} {G : qG}
theorem rIns47 {pl : Nat} (s v : Int32) : ∀ n x I m, n + pl = x → x < 60 → n < m → ∃ J, fX8_insert_47 m 1 (qn pl) s v (qn x) (qD I) = fX8_insert_91 1 (qn pl) s v (qD J) ∧ (∀ a, a ≠ 13 → a ≠ 14 → J a = I a) ∧ (∀ j, j ≤ pl ∨ x < j → J 13 j = I 13 j ∧ J 14 j = I 14 j) ∧ ∀ j, pl < j → j ≤ x → J 13 j = I 13 (j - 1) ∧ J 14 j = I 14 (j - 1) := by
  intro n
  induction n with
  | zero =>
    intro x I m h1 h2 h3
    obtain ⟨m, rfl⟩ : ∃ m', m = m' + 1 := ⟨m - 1, by omega⟩
    refine ⟨I, ?_, fun _ _ _ => rfl, fun _ _ => ⟨rfl, rfl⟩, fun j _ _ => by omega⟩
    rw [fX8_insert_47]
    simp (disch := omega) only [↓qlet, eq_self, qzg_t, qzb_some, ↓reduceIte, not_or, not_false_eq_true, not_true_eq_false, and_true, true_and, and_self, or_false, false_or, true_or, or_true, and_false, false_and, qlit, qneg, qof, qn_add, qn_mul, qn_s, qn_z, qn_d, qn_dz, qm_1, qt_1, qt_0, qb_0, qb_1, qb_01, qb01b, q01_0, q01_1, qo_s, qo_n, qn_c, qn_le, qn_lt, qn_eq, qn_ne_m, qm_ne_n, qm_lt, qm_le, qn_lt_m, qn_le_m, qn_sub, qn_div, qn_mod, qle_t, qle_f, qlt_t, qlt_f, qeq_t, qeq_f, Nat.add_sub_cancel, qD_I, qD_s, qU_s, qU_a, qU_k, qdk_1, qdk_2, qdk_3, qdk_4, qdk_5, qdk_6, qdk_7, qdk_8, qdk_9, qdk_10, qdk_11, qdk_12, qdk_13, qdk_14, qdk_15, qdk_16, qdk_17, qdk_18, qdk_19, qdk_20, qdk_21, qdk_22, qdk_23, qdk_24, qdk_25, qdk_26, qdk_27, qdk_28, qdk_29, qdk_30, qdk_31, qdk_32, qdk_33, qdk_34, qdk_35, qdk_36, qdk_37, qdk_38, qdk_39, qdk_40, qdk_41, qdk_42, qdk_43, qdk_44, qdl_2, qdl_3, qdl_4, qdl_5, qdl_6, qdl_7, qdl_8, qdl_9, qdl_10, qdl_11, qdl_12, qdl_13, qdl_14, qdl_15, qdl_16, qdl_17, qdl_18, qdl_19, qdl_20, qdl_21, qdl_22, qdl_23, qdl_24, qdl_25, qdl_26, qdl_27, qdl_28, qdl_29, qdl_30, qdl_31, qdl_32, qdl_33, qdl_34, qdl_35, qdl_36, qdl_37, qdl_38, qdl_39, qdl_40, qdl_41, qdl_42, qdl_43, qdl_44, qdr_0, qdr_1, qdr_2, qdr_3, qdr_4, qdr_5, qdr_6, qdr_7, qdr_8, qdr_9, qdr_10, qdr_11, qdr_12, qdr_15, qdr_16, qdr_19, qdr_20, qdr_21, qdr_22, qdr_26, qdr_27, qdr_28, qdr_29, qdr_30, qdr_34, qdr_35, qdr_37, qdr_38, qdr_39, qdr_40, qdr_42, qdr_43, qdr_44, qdr_45, qdr_46, qdr_47, qdr_48, qdr_49, qdr_50, qdr_51, qdr_53, qdr_54, qdr_55]
  | succ n ih =>
    intro x I m h1 h2 h3
    obtain ⟨m, rfl⟩ : ∃ m', m = m' + 1 := ⟨m - 1, by omega⟩
    obtain ⟨J, j1, j2, j3, j4⟩ := ih (x - 1) (qU (qU I 13 x (I 13 (x - 1))) 14 x (I 14 (x - 1))) m (by omega) (by omega) (by omega)
    have hd : qn x + qm = qn (x - 1) := qn_dd (by omega)
    refine ⟨J, ?_, fun a h4 h5 => ?_, fun j hj => ?_, fun j h4 h5 => ?_⟩
    · rw [fX8_insert_47]
      simp (disch := omega) only [↓qlet, eq_self, qzg_t, qzb_some, ↓reduceIte, not_or, not_false_eq_true, not_true_eq_false, and_true, true_and, and_self, or_false, false_or, true_or, or_true, and_false, false_and, qlit, qneg, qof, qn_add, qn_mul, qn_s, qn_z, qn_d, qn_dz, qm_1, qt_1, qt_0, qb_0, qb_1, qb_01, qb01b, q01_0, q01_1, qo_s, qo_n, qn_c, qn_le, qn_lt, qn_eq, qn_ne_m, qm_ne_n, qm_lt, qm_le, qn_lt_m, qn_le_m, qn_sub, qn_div, qn_mod, qle_t, qle_f, qlt_t, qlt_f, qeq_t, qeq_f, Nat.add_sub_cancel, qD_I, qD_s, qU_s, qU_a, qU_k, qdk_1, qdk_2, qdk_3, qdk_4, qdk_5, qdk_6, qdk_7, qdk_8, qdk_9, qdk_10, qdk_11, qdk_12, qdk_13, qdk_14, qdk_15, qdk_16, qdk_17, qdk_18, qdk_19, qdk_20, qdk_21, qdk_22, qdk_23, qdk_24, qdk_25, qdk_26, qdk_27, qdk_28, qdk_29, qdk_30, qdk_31, qdk_32, qdk_33, qdk_34, qdk_35, qdk_36, qdk_37, qdk_38, qdk_39, qdk_40, qdk_41, qdk_42, qdk_43, qdk_44, qdl_2, qdl_3, qdl_4, qdl_5, qdl_6, qdl_7, qdl_8, qdl_9, qdl_10, qdl_11, qdl_12, qdl_13, qdl_14, qdl_15, qdl_16, qdl_17, qdl_18, qdl_19, qdl_20, qdl_21, qdl_22, qdl_23, qdl_24, qdl_25, qdl_26, qdl_27, qdl_28, qdl_29, qdl_30, qdl_31, qdl_32, qdl_33, qdl_34, qdl_35, qdl_36, qdl_37, qdl_38, qdl_39, qdl_40, qdl_41, qdl_42, qdl_43, qdl_44, qdr_0, qdr_1, qdr_2, qdr_3, qdr_4, qdr_5, qdr_6, qdr_7, qdr_8, qdr_9, qdr_10, qdr_11, qdr_12, qdr_15, qdr_16, qdr_19, qdr_20, qdr_21, qdr_22, qdr_26, qdr_27, qdr_28, qdr_29, qdr_30, qdr_34, qdr_35, qdr_37, qdr_38, qdr_39, qdr_40, qdr_42, qdr_43, qdr_44, qdr_45, qdr_46, qdr_47, qdr_48, qdr_49, qdr_50, qdr_51, qdr_53, qdr_54, qdr_55, hd]
      exact j1
    · rw [j2 a h4 h5]; simp (disch := omega) only [qU_r]
    · obtain ⟨e1, e2⟩ := j3 j (by omega)
      rw [e1, e2]
      exact ⟨by simp (disch := omega) only [qU_s, qU_a, qU_k], by simp (disch := omega) only [qU_s, qU_a, qU_k]⟩
    · by_cases c : j = x
      · subst c
        obtain ⟨e1, e2⟩ := j3 j (by omega)
        rw [e1, e2]
        exact ⟨by simp (disch := omega) only [qU_s, qU_a, qU_k], by simp (disch := omega) only [qU_s, qU_a, qU_k]⟩
      · obtain ⟨e1, e2⟩ := j4 j h4 (by omega)
        rw [e1, e2]
        exact ⟨by simp (disch := omega) only [qU_s, qU_a, qU_k], by simp (disch := omega) only [qU_s, qU_a, qU_k]⟩
theorem rDel28 {pl len : Nat} (hl : len ≤ 60) (hp : 0 < len) : ∀ n x I m, n + x + 1 = len → n < m → I 1 13 = qn len → ∃ J, fX8_erase_28 m 1 (qn pl) (qn x) (qD I) = fX8_erase_72 1 (qn pl) (qD J) ∧ (∀ a, a ≠ 13 → a ≠ 14 → J a = I a) ∧ (∀ j, j < x → J 13 j = I 13 j ∧ J 14 j = I 14 j) ∧ ∀ j, x ≤ j → j + 1 < len → J 13 j = I 13 (j + 1) ∧ J 14 j = I 14 (j + 1) := by
  intro n
  induction n with
  | zero =>
    intro x I m h1 h2 h3
    obtain ⟨m, rfl⟩ : ∃ m', m = m' + 1 := ⟨m - 1, by omega⟩
    refine ⟨I, ?_, fun _ _ _ => rfl, fun _ _ => ⟨rfl, rfl⟩, fun j _ _ => by omega⟩
    rw [fX8_erase_28]
    simp (disch := omega) only [↓qlet, eq_self, qzg_t, qzb_some, ↓reduceIte, not_or, not_false_eq_true, not_true_eq_false, and_true, true_and, and_self, or_false, false_or, true_or, or_true, and_false, false_and, qlit, qneg, qof, qn_add, qn_mul, qn_s, qn_z, qn_d, qn_dz, qm_1, qt_1, qt_0, qb_0, qb_1, qb_01, qb01b, q01_0, q01_1, qo_s, qo_n, qn_c, qn_le, qn_lt, qn_eq, qn_ne_m, qm_ne_n, qm_lt, qm_le, qn_lt_m, qn_le_m, qn_sub, qn_div, qn_mod, qle_t, qle_f, qlt_t, qlt_f, qeq_t, qeq_f, Nat.add_sub_cancel, qD_I, qD_s, qU_s, qU_a, qU_k, qdk_1, qdk_2, qdk_3, qdk_4, qdk_5, qdk_6, qdk_7, qdk_8, qdk_9, qdk_10, qdk_11, qdk_12, qdk_13, qdk_14, qdk_15, qdk_16, qdk_17, qdk_18, qdk_19, qdk_20, qdk_21, qdk_22, qdk_23, qdk_24, qdk_25, qdk_26, qdk_27, qdk_28, qdk_29, qdk_30, qdk_31, qdk_32, qdk_33, qdk_34, qdk_35, qdk_36, qdk_37, qdk_38, qdk_39, qdk_40, qdk_41, qdk_42, qdk_43, qdk_44, qdl_2, qdl_3, qdl_4, qdl_5, qdl_6, qdl_7, qdl_8, qdl_9, qdl_10, qdl_11, qdl_12, qdl_13, qdl_14, qdl_15, qdl_16, qdl_17, qdl_18, qdl_19, qdl_20, qdl_21, qdl_22, qdl_23, qdl_24, qdl_25, qdl_26, qdl_27, qdl_28, qdl_29, qdl_30, qdl_31, qdl_32, qdl_33, qdl_34, qdl_35, qdl_36, qdl_37, qdl_38, qdl_39, qdl_40, qdl_41, qdl_42, qdl_43, qdl_44, qdr_0, qdr_1, qdr_2, qdr_3, qdr_4, qdr_5, qdr_6, qdr_7, qdr_8, qdr_9, qdr_10, qdr_11, qdr_12, qdr_15, qdr_16, qdr_19, qdr_20, qdr_21, qdr_22, qdr_26, qdr_27, qdr_28, qdr_29, qdr_30, qdr_34, qdr_35, qdr_37, qdr_38, qdr_39, qdr_40, qdr_42, qdr_43, qdr_44, qdr_45, qdr_46, qdr_47, qdr_48, qdr_49, qdr_50, qdr_51, qdr_53, qdr_54, qdr_55, h3]
  | succ n ih =>
    intro x I m h1 h2 h3
    obtain ⟨m, rfl⟩ : ∃ m', m = m' + 1 := ⟨m - 1, by omega⟩
    obtain ⟨J, j1, j2, j3, j4⟩ := ih (x + 1) (qU (qU I 13 x (I 13 (x + 1))) 14 x (I 14 (x + 1))) m (by omega) (by omega) (by simp (disch := omega) only [qU_r]; exact h3)
    refine ⟨J, ?_, fun a h4 h5 => ?_, fun j hj => ?_, fun j h4 h5 => ?_⟩
    · rw [fX8_erase_28]
      simp (disch := omega) only [↓qlet, eq_self, qzg_t, qzb_some, ↓reduceIte, not_or, not_false_eq_true, not_true_eq_false, and_true, true_and, and_self, or_false, false_or, true_or, or_true, and_false, false_and, qlit, qneg, qof, qn_add, qn_mul, qn_s, qn_z, qn_d, qn_dz, qm_1, qt_1, qt_0, qb_0, qb_1, qb_01, qb01b, q01_0, q01_1, qo_s, qo_n, qn_c, qn_le, qn_lt, qn_eq, qn_ne_m, qm_ne_n, qm_lt, qm_le, qn_lt_m, qn_le_m, qn_sub, qn_div, qn_mod, qle_t, qle_f, qlt_t, qlt_f, qeq_t, qeq_f, Nat.add_sub_cancel, qD_I, qD_s, qU_s, qU_a, qU_k, qdk_1, qdk_2, qdk_3, qdk_4, qdk_5, qdk_6, qdk_7, qdk_8, qdk_9, qdk_10, qdk_11, qdk_12, qdk_13, qdk_14, qdk_15, qdk_16, qdk_17, qdk_18, qdk_19, qdk_20, qdk_21, qdk_22, qdk_23, qdk_24, qdk_25, qdk_26, qdk_27, qdk_28, qdk_29, qdk_30, qdk_31, qdk_32, qdk_33, qdk_34, qdk_35, qdk_36, qdk_37, qdk_38, qdk_39, qdk_40, qdk_41, qdk_42, qdk_43, qdk_44, qdl_2, qdl_3, qdl_4, qdl_5, qdl_6, qdl_7, qdl_8, qdl_9, qdl_10, qdl_11, qdl_12, qdl_13, qdl_14, qdl_15, qdl_16, qdl_17, qdl_18, qdl_19, qdl_20, qdl_21, qdl_22, qdl_23, qdl_24, qdl_25, qdl_26, qdl_27, qdl_28, qdl_29, qdl_30, qdl_31, qdl_32, qdl_33, qdl_34, qdl_35, qdl_36, qdl_37, qdl_38, qdl_39, qdl_40, qdl_41, qdl_42, qdl_43, qdl_44, qdr_0, qdr_1, qdr_2, qdr_3, qdr_4, qdr_5, qdr_6, qdr_7, qdr_8, qdr_9, qdr_10, qdr_11, qdr_12, qdr_15, qdr_16, qdr_19, qdr_20, qdr_21, qdr_22, qdr_26, qdr_27, qdr_28, qdr_29, qdr_30, qdr_34, qdr_35, qdr_37, qdr_38, qdr_39, qdr_40, qdr_42, qdr_43, qdr_44, qdr_45, qdr_46, qdr_47, qdr_48, qdr_49, qdr_50, qdr_51, qdr_53, qdr_54, qdr_55, h3]
      exact j1
    · rw [j2 a h4 h5]; simp (disch := omega) only [qU_r]
    · obtain ⟨e1, e2⟩ := j3 j (by omega)
      rw [e1, e2]
      exact ⟨by simp (disch := omega) only [qU_s, qU_a, qU_k], by simp (disch := omega) only [qU_s, qU_a, qU_k]⟩
    · by_cases c : j = x
      · subst c
        obtain ⟨e1, e2⟩ := j3 j (by omega)
        rw [e1, e2]
        exact ⟨by simp (disch := omega) only [qU_s, qU_a, qU_k], by simp (disch := omega) only [qU_s, qU_a, qU_k]⟩
      · obtain ⟨e1, e2⟩ := j4 j (by omega) h5
        rw [e1, e2]
        exact ⟨by simp (disch := omega) only [qU_s, qU_a, qU_k], by simp (disch := omega) only [qU_s, qU_a, qU_k]⟩
/-- a change of the text is read, and told -/
theorem rReread {A0 : qA} {ks : List qK} (hA0 : qAok A0) (hA : qAok (A0.1, A0.2.1, A0.2.2.1, ks, 0)) (hG : qRG A0.1 I) (hE : qREn A0.2.1 A0.2.2.1 I) (hT : qRT I ks) (hX0 : qRXo I (qFA A0).2) (back : Bool) (hb1 : back = false → ks.length < A0.2.2.2.1.length + 1) (hb2 : back = true → ks.length ≤ A0.2.2.2.1.length + 1) {pl : Nat} (hpl : pl ≤ ks.length) : ∃ J K, fX8_readsText 1 (qD I) = some (qn 0, qD J) ∧ fX8_tells 1 (qn pl) (if back = true then qn 1 else qm) (qD J) = some (qn 0, qD K) ∧ K 1 13 = qn ks.length ∧ qRA K (A0.1, A0.2.1, A0.2.2.1, ks, qAnew ks (qFull A0.1 A0.2.1 A0.2.2.1 ks).2 (qFA A0).2 pl (if back = true then pl + 1 else pl) back) ∧ K 1 56 = I 1 56 := by
  obtain ⟨hg, hEk, hn, hk⟩ := hA
  dsimp only at hg hEk hn hk
  obtain ⟨J, j1, j2, j3, j4, j5⟩ := rReadsText hg hEk hk hn hG hE hT
  obtain ⟨f1, f2, f3, f4, f5⟩ := qFull_ok (G := A0.1) hA0.2.1 hA0.2.2.2 (by have := hA0.2.2.1; omega)
  obtain ⟨n1, n2, n3, n4, n5⟩ := qFull_ok (G := A0.1) hEk hk (by omega)
  have hn0 := hA0.2.2.1
  have hl0 : (qFA A0).2.length = A0.2.2.2.1.length + 1 := f4
  have jT : qRT J ks := qRT_fr hT (j5.2 13 (by omega) (by omega) (by omega) (by omega) (by omega) (by omega) (by omega) (by omega) (by omega) (by omega)) (j5.1 13 (by omega) (by omega)) (j5.1 14 (by omega) (by omega))
  have hTl := rTells hg jT hn (fun k hk2 => (hk k hk2).1) j3 (qRXo_eq hX0 fun a h1 h2 => j5.1 a (by omega) (by omega)) n3 f3 (by omega) (by omega) (by omega) back (fun h => by have := hb1 h; omega) (fun h => by have := hb2 h; omega) hpl
  refine ⟨J, _, j1, hTl, by rw [qU_k (by omega)]; exact jT.1, ⟨⟨hg, hEk, hn, hk⟩, qRG_fr hG fun a h1 h2 => by rw [qU_r (by omega), j5.1 a (by omega) (by omega)], qREn_fr hE fun a h1 h2 => by rw [qU_r (by omega), j5.1 a (by omega) (by omega)], qRT_fr jT (qU_k (by omega)) (qU_r (by omega)) (qU_r (by omega)), ?_, qRX_eq j3 fun a h1 h2 => qU_r (by omega), qU_s .., by rw [qU_k (by omega)]; exact j4⟩, ?_⟩
  · obtain ⟨z, h2, h3, h4, h5, h6, h7, h8, h9⟩ := j2
    refine ⟨?_, ?_, ?_, ?_, ?_⟩
    · rw [qU_k (by omega)]; exact h3
    · simp (disch := omega) only [qU_r]; exact h4
    · rw [qU_k (by omega)]; exact h5
    · rw [qU_k (by omega)]; exact h7
    · simp (disch := omega) only [qU_r]; exact h8
  · rw [qU_k (by omega), j5.2 56 (by omega) (by omega) (by omega) (by omega) (by omega) (by omega) (by omega) (by omega) (by omega) (by omega)]
theorem qAok_20 {A : qA} (h : qAok A) : ∀ x ∈ (qFA A).2, x.1.1.length ≤ 20 := fun x hx => (((qAok_X h).1) x hx).1.1
theorem rInsert (hA : qRA I A) (x s v : Int32) : qRAns I (qoInsert A x s v) (fX8_insert 1 x s v (qD I)) := by
  have hA0 := hA
  obtain ⟨⟨hg, hEk, hn, hk⟩, hG, hE, hT, hV, hX, h14, h18⟩ := hA
  have h13 := hT.1
  have h1 : fX8_in x 0 (qn A.2.2.2.1.length) (qD I) = some (qb (qin x (A.2.2.2.1.length + 1)).isSome, qD I) := rIn (by omega) x _
  have hfr : fX8_insert 1 x s v (qD I) = fX8_insert_29 1 x s v 1 (qb (qin x (A.2.2.2.1.length + 1)).isSome) (qb (qKin s v)) (qb (decide (A.2.2.2.1.length < 60))) (qD I) := by
    unfold fX8_insert
    rw [qzg_i (qdk_1 _), qD_I, h13, h1, qzb_some, rIsTok, qzb_some, qzg_i (qdk_1 _), qD_I, h13]
    by_cases c : A.2.2.2.1.length < 60
    · rw [decide_eq_true c, if_neg (show ¬ 60 ≤ qn A.2.2.2.1.length from fun h => by have h : qn 60 ≤ qn A.2.2.2.1.length := h; rw [qn_le (by omega) (by omega)] at h; omega)]
      rfl
    · rw [decide_eq_false c, if_pos (show 60 ≤ qn A.2.2.2.1.length from by show qn 60 ≤ qn A.2.2.2.1.length; rw [qn_le (by omega) (by omega)]; omega)]
      rfl
  rw [hfr]
  unfold fX8_insert_29 qoInsert
  rw [qzg_i (qdk_1 _), rGoes, qzb_some]
  cases hx : qin x (A.2.2.2.1.length + 1) with
  | none =>
    have e1 : (none : Option Nat).isSome = false := rfl
    rw [e1, Bool.false_and, Bool.false_and, if_pos (show qb false = 0 from rfl)]
    exact rRefuse hA0 (by simp [qtag])
  | some pl =>
    obtain ⟨hpl, rfl⟩ := qin_s (by omega) hx
    have e1 : (some pl).isSome = true := rfl
    rw [e1, Bool.true_and]
    dsimp only
    cases hq : qKin s v with
    | false =>
      rw [Bool.false_and, if_pos (show qb false = 0 from rfl), if_pos rfl]
      exact rRefuse hA0 (by simp [qtag])
    | true =>
      rw [Bool.true_and, if_neg (show ¬ true = false by decide)]
      by_cases c6 : 60 ≤ A.2.2.2.1.length
      · rw [if_pos c6, decide_eq_false (by omega), if_pos (show qb false = 0 from rfl)]
        exact rRefuse hA0 (by simp [qtag])
      · rw [if_neg c6, decide_eq_true (by omega), if_neg (show ¬ qb true = 0 by decide)]
        obtain ⟨k, k8, rfl, kc, hkk⟩ := qKin_ok hq
        rw [kc]
        have hl := qIns_len (ks := A.2.2.2.1) (pl := pl) (by omega) (k, v)
        have hk2 : ∀ z ∈ qIns A.2.2.2.1 pl (k, v), qKok z := by
          intro z hz
          unfold qIns at hz
          rcases List.mem_append.mp hz with hz | hz
          · exact hk z (List.mem_of_mem_take hz)
          · rcases List.mem_cons.mp hz with e | hz
            · rw [e]; exact hkk
            · exact hk z (List.mem_of_mem_drop hz)
        have ht : qn (qtag true true true) = qn 0 := rfl
        rw [ht]
        have hXl := (qAok_X hA0.1).2.1
        obtain ⟨I1, i1, i2, i3⟩ := rKeepsOld (I := qU I 1 56 (qn 0)) (X := (qFA A).2) hn (qAok_20 hA0.1) hXl (by rw [qU_k (by omega)]; exact h13) (qRX_eq hX fun a h1 h2 => qU_r (by omega))
        have i13 : I1 1 13 = qn A.2.2.2.1.length := by rw [i2 1 (by omega), qU_k (by omega)]; exact h13
        obtain ⟨I2, j1, j2, j3, j4⟩ := rIns47 (pl := pl) (qn k) v (A.2.2.2.1.length - pl) A.2.2.2.1.length I1 10000 (by omega) (by omega) (by omega)
        obtain ⟨I3, hI3⟩ : ∃ I3, I3 = qU (qU (qU I2 13 pl (qn k)) 14 pl v) 1 13 (qn (A.2.2.2.1.length + 1)) := ⟨_, rfl⟩
        have hf : ∀ a, a ≠ 1 → a ≠ 13 → a ≠ 14 → (a ≤ 35 ∨ 40 ≤ a) → I3 a = I a := fun a h1 h2 h3 h4 => by
          rw [hI3]; simp (disch := omega) only [qU_r]; rw [j2 a h2 h3, i2 a h4, qU_r (by omega)]
        have hT3 : qRT I3 (qIns A.2.2.2.1 pl (k, v)) := by
          refine ⟨by rw [hI3, hl, qU_s], fun j q hj => ?_⟩
          rw [qIns_get (by omega)] at hj
          rw [hI3]
          by_cases cj : j < pl
          · rw [if_pos cj] at hj
            obtain ⟨t1, t2⟩ := hT.2 j q hj
            obtain ⟨u1, u2⟩ := j3 j (by omega)
            simp (disch := omega) only [qU_s, qU_a, qU_k]
            rw [u1, u2, i2 13 (by omega), i2 14 (by omega), qU_r (by omega), qU_r (by omega)]
            exact ⟨t1, t2⟩
          · rw [if_neg cj] at hj
            by_cases cp : j = pl
            · rw [if_pos cp] at hj
              cases hj
              subst cp
              exact ⟨by simp (disch := omega) only [qU_s, qU_a, qU_k], by simp (disch := omega) only [qU_s, qU_a, qU_k]⟩
            · rw [if_neg cp] at hj
              have hjl := (List.getElem?_eq_some_iff.mp hj).1
              obtain ⟨t1, t2⟩ := hT.2 (j - 1) q hj
              obtain ⟨u1, u2⟩ := j4 j (by omega) (by omega)
              simp (disch := omega) only [qU_s, qU_a, qU_k]
              rw [u1, u2, i2 13 (by omega), i2 14 (by omega), qU_r (by omega), qU_r (by omega)]
              exact ⟨t1, t2⟩
        obtain ⟨J, K, r1, r2, r3, r4, r5⟩ := rReread (I := I3) (A0 := A) (ks := qIns A.2.2.2.1 pl (k, v)) hA0.1 ⟨hg, hEk, by dsimp only; omega, hk2⟩ (qRG_fr hG fun a h1 h2 => hf a (by omega) (by omega) (by omega) (by omega)) (qREn_fr hE fun a h1 h2 => hf a (by omega) (by omega) (by omega) (by omega)) hT3 (qRXo_eq i3 fun a h1 h2 => by rw [hI3]; simp (disch := omega) only [qU_r]; rw [j2 a (by omega) (by omega)]) true (fun h => by cases h) (fun _ => by omega) (pl := pl) (by omega)
        rw [if_pos rfl] at r2 r4
        rw [hl] at r3
        refine ⟨K, ?_, r4, ?_⟩
        · rw [hI3] at r1
          have h91 : fX8_insert_91 1 (qn pl) (qn k) v (qD I2) = some (qn (A.2.2.2.1.length + 1), qD K) := by
            have b13 : I2 1 13 = qn A.2.2.2.1.length := by rw [j2 1 (by omega) (by omega)]; exact i13
            unfold fX8_insert_91
            simp (disch := omega) only [↓qlet, eq_self, qzg_t, qzb_some, ↓reduceIte, not_or, not_false_eq_true, not_true_eq_false, and_true, true_and, and_self, or_false, false_or, true_or, or_true, and_false, false_and, qlit, qneg, qof, qn_add, qn_mul, qn_s, qn_z, qn_d, qn_dz, qm_1, qt_1, qt_0, qb_0, qb_1, qb_01, qb01b, q01_0, q01_1, qo_s, qo_n, qn_c, qn_le, qn_lt, qn_eq, qn_ne_m, qm_ne_n, qm_lt, qm_le, qn_lt_m, qn_le_m, qn_sub, qn_div, qn_mod, qle_t, qle_f, qlt_t, qlt_f, qeq_t, qeq_f, Nat.add_sub_cancel, qD_I, qD_s, qU_s, qU_a, qU_k, qdk_1, qdk_2, qdk_3, qdk_4, qdk_5, qdk_6, qdk_7, qdk_8, qdk_9, qdk_10, qdk_11, qdk_12, qdk_13, qdk_14, qdk_15, qdk_16, qdk_17, qdk_18, qdk_19, qdk_20, qdk_21, qdk_22, qdk_23, qdk_24, qdk_25, qdk_26, qdk_27, qdk_28, qdk_29, qdk_30, qdk_31, qdk_32, qdk_33, qdk_34, qdk_35, qdk_36, qdk_37, qdk_38, qdk_39, qdk_40, qdk_41, qdk_42, qdk_43, qdk_44, qdl_2, qdl_3, qdl_4, qdl_5, qdl_6, qdl_7, qdl_8, qdl_9, qdl_10, qdl_11, qdl_12, qdl_13, qdl_14, qdl_15, qdl_16, qdl_17, qdl_18, qdl_19, qdl_20, qdl_21, qdl_22, qdl_23, qdl_24, qdl_25, qdl_26, qdl_27, qdl_28, qdl_29, qdl_30, qdl_31, qdl_32, qdl_33, qdl_34, qdl_35, qdl_36, qdl_37, qdl_38, qdl_39, qdl_40, qdl_41, qdl_42, qdl_43, qdl_44, qdr_0, qdr_1, qdr_2, qdr_3, qdr_4, qdr_5, qdr_6, qdr_7, qdr_8, qdr_9, qdr_10, qdr_11, qdr_12, qdr_15, qdr_16, qdr_19, qdr_20, qdr_21, qdr_22, qdr_26, qdr_27, qdr_28, qdr_29, qdr_30, qdr_34, qdr_35, qdr_37, qdr_38, qdr_39, qdr_40, qdr_42, qdr_43, qdr_44, qdr_45, qdr_46, qdr_47, qdr_48, qdr_49, qdr_50, qdr_51, qdr_53, qdr_54, qdr_55, b13, r1, r2, r3]
          rw [qzg_i (qdk_1 _), i1, qzb_some, qzg_i (qdk_1 _), qlet, qD_I, i13, j1, h91]
        · rw [r5, hI3, qU_k (by omega), qU_r (by omega), qU_r (by omega), j2 1 (by omega) (by omega), i2 1 (by omega), qU_s]
theorem rErase (hA : qRA I A) (x : Int32) : qRAns I (qoErase A x) (fX8_erase 1 x (qD I)) := by
  have hA0 := hA
  obtain ⟨⟨hg, hEk, hn, hk⟩, hG, hE, hT, hV, hX, h14, h18⟩ := hA
  have h13 := hT.1
  have h1 : fX8_in x 0 (qn A.2.2.2.1.length - 1) (qD I) = some (qb (qin x A.2.2.2.1.length).isSome, qD I) := rInD (by omega) x _
  unfold fX8_erase qoErase
  rw [qzg_i (qdk_1 _), qD_I, h13, h1, qzb_some, qzg_i (qdk_1 _), rGoes1, qzb_some]
  cases hx : qin x A.2.2.2.1.length with
  | none =>
    rw [if_pos (show qb (none : Option Nat).isSome = 0 from rfl)]
    exact rRefuse hA0 rfl
  | some pl =>
    obtain ⟨hpl, rfl⟩ := qin_s (by omega) hx
    rw [if_neg (show ¬ qb (some pl).isSome = 0 from (by decide : ¬ qb true = 0))]
    dsimp only
    have hl := qDel_len hpl
    have hk2 : ∀ z ∈ qDel A.2.2.2.1 pl, qKok z := by
      intro z hz
      unfold qDel at hz
      rcases List.mem_append.mp hz with hz | hz
      · exact hk z (List.mem_of_mem_take hz)
      · exact hk z (List.mem_of_mem_drop hz)
    have ht : qn (qtag (some pl).isSome true true) = qn 0 := rfl
    rw [ht]
    have hXl := (qAok_X hA0.1).2.1
    obtain ⟨I1, i1, i2, i3⟩ := rKeepsOld (I := qU I 1 56 (qn 0)) (X := (qFA A).2) hn (qAok_20 hA0.1) hXl (by rw [qU_k (by omega)]; exact h13) (qRX_eq hX fun a h1 h2 => qU_r (by omega))
    have i13 : I1 1 13 = qn A.2.2.2.1.length := by rw [i2 1 (by omega), qU_k (by omega)]; exact h13
    obtain ⟨I2, j1, j2, j3, j4⟩ := rDel28 (pl := pl) hn (by omega) (A.2.2.2.1.length - pl - 1) pl I1 10000 (by omega) (by omega) i13
    obtain ⟨I3, hI3⟩ : ∃ I3, I3 = qU I2 1 13 (qn (A.2.2.2.1.length - 1)) := ⟨_, rfl⟩
    have hf : ∀ a, a ≠ 1 → a ≠ 13 → a ≠ 14 → (a ≤ 35 ∨ 40 ≤ a) → I3 a = I a := fun a h1 h2 h3 h4 => by
      rw [hI3, qU_r h1, j2 a h2 h3, i2 a h4, qU_r h1]
    have hT3 : qRT I3 (qDel A.2.2.2.1 pl) := by
      refine ⟨by rw [hI3, hl, qU_s], fun j q hj => ?_⟩
      have hjl := (List.getElem?_eq_some_iff.mp hj).1
      rw [qDel_get hpl] at hj
      rw [hI3, qU_r (by omega), qU_r (by omega)]
      by_cases cj : j < pl
      · rw [if_pos cj] at hj
        obtain ⟨t1, t2⟩ := hT.2 j q hj
        obtain ⟨u1, u2⟩ := j3 j cj
        rw [u1, u2, i2 13 (by omega), i2 14 (by omega), qU_r (by omega), qU_r (by omega)]
        exact ⟨t1, t2⟩
      · rw [if_neg cj] at hj
        obtain ⟨t1, t2⟩ := hT.2 (j + 1) q hj
        obtain ⟨u1, u2⟩ := j4 j (by omega) (by omega)
        rw [u1, u2, i2 13 (by omega), i2 14 (by omega), qU_r (by omega), qU_r (by omega)]
        exact ⟨t1, t2⟩
    obtain ⟨J, K, r1, r2, r3, r4, r5⟩ := rReread (I := I3) (A0 := A) (ks := qDel A.2.2.2.1 pl) hA0.1 ⟨hg, hEk, by dsimp only; omega, hk2⟩ (qRG_fr hG fun a h1 h2 => hf a (by omega) (by omega) (by omega) (by omega)) (qREn_fr hE fun a h1 h2 => hf a (by omega) (by omega) (by omega) (by omega)) hT3 (qRXo_eq i3 fun a h1 h2 => by rw [hI3, qU_r (by omega), j2 a (by omega) (by omega)]) false (fun _ => by omega) (fun h => by cases h) (pl := pl) (by omega)
    rw [if_neg (by decide)] at r2 r4
    rw [hl] at r3
    refine ⟨K, ?_, r4, ?_⟩
    · rw [hI3] at r1
      have h72 : fX8_erase_72 1 (qn pl) (qD I2) = some (qn (A.2.2.2.1.length - 1), qD K) := by
        have b13 : I2 1 13 = qn A.2.2.2.1.length := by rw [j2 1 (by omega) (by omega)]; exact i13
        unfold fX8_erase_72
        simp (disch := omega) only [↓qlet, eq_self, qzg_t, qzb_some, ↓reduceIte, not_or, not_false_eq_true, not_true_eq_false, and_true, true_and, and_self, or_false, false_or, true_or, or_true, and_false, false_and, qlit, qneg, qof, qn_add, qn_mul, qn_s, qn_z, qn_d, qn_dz, qm_1, qt_1, qt_0, qb_0, qb_1, qb_01, qb01b, q01_0, q01_1, qo_s, qo_n, qn_c, qn_le, qn_lt, qn_eq, qn_ne_m, qm_ne_n, qm_lt, qm_le, qn_lt_m, qn_le_m, qn_sub, qn_div, qn_mod, qle_t, qle_f, qlt_t, qlt_f, qeq_t, qeq_f, Nat.add_sub_cancel, qD_I, qD_s, qU_s, qU_a, qU_k, qdk_1, qdk_2, qdk_3, qdk_4, qdk_5, qdk_6, qdk_7, qdk_8, qdk_9, qdk_10, qdk_11, qdk_12, qdk_13, qdk_14, qdk_15, qdk_16, qdk_17, qdk_18, qdk_19, qdk_20, qdk_21, qdk_22, qdk_23, qdk_24, qdk_25, qdk_26, qdk_27, qdk_28, qdk_29, qdk_30, qdk_31, qdk_32, qdk_33, qdk_34, qdk_35, qdk_36, qdk_37, qdk_38, qdk_39, qdk_40, qdk_41, qdk_42, qdk_43, qdk_44, qdl_2, qdl_3, qdl_4, qdl_5, qdl_6, qdl_7, qdl_8, qdl_9, qdl_10, qdl_11, qdl_12, qdl_13, qdl_14, qdl_15, qdl_16, qdl_17, qdl_18, qdl_19, qdl_20, qdl_21, qdl_22, qdl_23, qdl_24, qdl_25, qdl_26, qdl_27, qdl_28, qdl_29, qdl_30, qdl_31, qdl_32, qdl_33, qdl_34, qdl_35, qdl_36, qdl_37, qdl_38, qdl_39, qdl_40, qdl_41, qdl_42, qdl_43, qdl_44, qdr_0, qdr_1, qdr_2, qdr_3, qdr_4, qdr_5, qdr_6, qdr_7, qdr_8, qdr_9, qdr_10, qdr_11, qdr_12, qdr_15, qdr_16, qdr_19, qdr_20, qdr_21, qdr_22, qdr_26, qdr_27, qdr_28, qdr_29, qdr_30, qdr_34, qdr_35, qdr_37, qdr_38, qdr_39, qdr_40, qdr_42, qdr_43, qdr_44, qdr_45, qdr_46, qdr_47, qdr_48, qdr_49, qdr_50, qdr_51, qdr_53, qdr_54, qdr_55, b13, r1, r2, r3]
      rw [qzg_i (qdk_1 _), i1, qzb_some, j1, h72]
    · rw [r5, hI3, qU_k (by omega), j2 1 (by omega) (by omega), i2 1 (by omega), qU_s]
end
