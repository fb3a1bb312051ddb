/-! THE REFERENCE: a thing is read; closing -/
def qRV (I : Nat → Nat → Int32) (p : Nat) (V : qV) : Prop := qRZ I V.1 ∧ qAll (fun j x => I 20 j = qn x) V.2.1 ∧ I 1 31 = qn V.2.2.1.length ∧ qAll (fun j t => I 21 j = qn t.1 ∧ I 22 j = qo t.2.1 ∧ I 23 j = qn t.2.2.1 ∧ I 24 j = qn t.2.2.2.1 ∧ I 25 j = qb t.2.2.2.2) V.2.2.1 ∧ I 1 32 = qn V.2.2.2.1 ∧ I 1 33 = qn V.2.2.2.2.1 ∧ I 1 36 = qn V.2.2.2.2.2.length ∧ qAll (fun j e => I 26 j = qn e.1 ∧ I 27 j = qn e.2) V.2.2.2.2.2 ∧ I 29 0 = qn p
def qFrR (I J : Nat → Nat → Int32) : Prop := (∀ a, a ≠ 1 → (a ≤ 16 ∨ 28 ≤ a) → J a = I a) ∧ ∀ k, k ≠ 23 → k ≠ 24 → k ≠ 25 → k ≠ 31 → k ≠ 32 → k ≠ 33 → k ≠ 36 → J 1 k = I 1 k
theorem qFrR_refl (I : Nat → Nat → Int32) : qFrR I I := ⟨fun _ _ _ => rfl, fun _ _ _ _ _ _ _ _ => rfl⟩
theorem qFrR_tr {I J K : Nat → Nat → Int32} (h : qFrR I J) (k : qFrR J K) : qFrR I K := ⟨fun a h1 h2 => by rw [k.1 a h1 h2, h.1 a h1 h2], fun x h1 h2 h3 h4 h5 h6 h7 => by rw [k.2 x h1 h2 h3 h4 h5 h6 h7, h.2 x h1 h2 h3 h4 h5 h6 h7]⟩
theorem qFrR_G {G : qG} {I J : Nat → Nat → Int32} (h : qFrR I J) (k : qRG G I) : qRG G J := qRG_fr k fun a h1 h2 => h.1 a (by omega) (by omega)
section
variable {I : Nat → Nat → Int32} {G : qG} {V : qV} {p B : Nat}
theorem rErr (hV : qRV I p V) (he : V.2.2.2.2.2.length < 6000) (k : Nat) : ∃ J, fX8_fails 1 (qn k) (qD I) = some (qn 0, qD J) ∧ qRV J p (qErr k p V) ∧ qFrR I J := by
  obtain ⟨h1, h2, h3, h4, h5, h6, h7, h8, h9⟩ := hV
  unfold fX8_fails
  refine ⟨qU (qU (qU I 26 V.2.2.2.2.2.length (qn k)) 27 V.2.2.2.2.2.length (qn p)) 1 36 (qn (V.2.2.2.2.2.length + 1)), ?_, ⟨?_, ?_, ?_, ?_, ?_, ?_, ?_, ?_, ?_⟩, ?_, ?_⟩
  · simp (disch := omega) only [↓qlet, eq_self, qzg_t, qzb_some, ↓reduceIte, not_or, not_false_eq_true, not_true_eq_false, and_true, true_and, and_self, or_false, false_or, true_or, or_true, and_false, false_and, qlit, qneg, qof, qn_add, qn_mul, qn_s, qn_z, qn_d, qn_dz, qm_1, qt_1, qt_0, qb_0, qb_1, qb_01, qb01b, q01_0, q01_1, qo_s, qo_n, qn_c, qn_le, qn_lt, qn_eq, qn_ne_m, qm_ne_n, qm_lt, qm_le, qn_lt_m, qn_le_m, qn_sub, qn_div, qn_mod, qle_t, qle_f, qlt_t, qlt_f, qeq_t, qeq_f, Nat.add_sub_cancel, qD_I, qD_s, qU_s, qU_a, qU_k, qdk_1, qdk_2, qdk_3, qdk_4, qdk_5, qdk_6, qdk_7, qdk_8, qdk_9, qdk_10, qdk_11, qdk_12, qdk_13, qdk_14, qdk_15, qdk_16, qdk_17, qdk_18, qdk_19, qdk_20, qdk_21, qdk_22, qdk_23, qdk_24, qdk_25, qdk_26, qdk_27, qdk_28, qdk_29, qdk_30, qdk_31, qdk_32, qdk_33, qdk_34, qdk_35, qdk_36, qdk_37, qdk_38, qdk_39, qdk_40, qdk_41, qdk_42, qdk_43, qdk_44, qdl_2, qdl_3, qdl_4, qdl_5, qdl_6, qdl_7, qdl_8, qdl_9, qdl_10, qdl_11, qdl_12, qdl_13, qdl_14, qdl_15, qdl_16, qdl_17, qdl_18, qdl_19, qdl_20, qdl_21, qdl_22, qdl_23, qdl_24, qdl_25, qdl_26, qdl_27, qdl_28, qdl_29, qdl_30, qdl_31, qdl_32, qdl_33, qdl_34, qdl_35, qdl_36, qdl_37, qdl_38, qdl_39, qdl_40, qdl_41, qdl_42, qdl_43, qdl_44, qdr_0, qdr_1, qdr_2, qdr_3, qdr_4, qdr_5, qdr_6, qdr_7, qdr_8, qdr_9, qdr_10, qdr_11, qdr_12, qdr_15, qdr_16, qdr_19, qdr_20, qdr_21, qdr_22, qdr_26, qdr_27, qdr_28, qdr_29, qdr_30, qdr_34, qdr_35, qdr_37, qdr_38, qdr_39, qdr_40, qdr_42, qdr_43, qdr_44, qdr_45, qdr_46, qdr_47, qdr_48, qdr_49, qdr_50, qdr_51, qdr_53, qdr_54, qdr_55, h7, h9]
  · exact qRZ_fr h1 (by simp (disch := omega) only [qU_s, qU_a, qU_k]) (by simp (disch := omega) only [qU_s, qU_a, qU_k]) (by simp (disch := omega) only [qU_s, qU_a, qU_k]) (by simp (disch := omega) only [qU_r]) (by simp (disch := omega) only [qU_r]) (by simp (disch := omega) only [qU_r])
  · simp (disch := omega) only [qU_s, qU_a, qU_k, qErr]; exact h2
  · simp (disch := omega) only [qU_s, qU_a, qU_k, qErr]; exact h3
  · simp (disch := omega) only [qU_s, qU_a, qU_k, qErr]; exact h4
  · simp (disch := omega) only [qU_s, qU_a, qU_k, qErr]; exact h5
  · simp (disch := omega) only [qU_s, qU_a, qU_k, qErr]; exact h6
  · simp (disch := omega) only [qU_s, qU_a, qU_k, qErr]; rfl
  · refine qAll_push h8 (fun j x hj hp => ?_) ?_
    · simp (disch := omega) only [qU_s, qU_a, qU_k]; exact hp
    · simp (disch := omega) only [qU_s, qU_a, qU_k]; exact ⟨trivial, trivial⟩
  · simp (disch := omega) only [qU_s, qU_a, qU_k]; exact h9
  · intro a ha hb; simp (disch := omega) only [qU_r]
  · intro x a1 a2 a3 a4 a5 a6 a7; simp (disch := omega) only [qU_s, qU_a, qU_k]
theorem rPuts (hok : V.2.1.length = V.1.1.length) (hz : qZok G V.1) (hV : qRV I p V) (ht : V.2.2.1.length < 300) {kind : Nat} (l : Nat) (b : Bool) : ∃ J, fX8_puts 1 (qn kind) (qn l) (qb b) (qD I) = some (qn 0, qD J) ∧ qRV J p (V.1, V.2.1, (kind, V.2.1.head?, l, p, b) :: V.2.2.1, V.2.2.2) ∧ qFrR I J ∧ (∀ a, a ≠ 1 → (a ≤ 20 ∨ 26 ≤ a) → J a = I a) ∧ ∀ k, k ≠ 31 → J 1 k = I 1 k := by
  obtain ⟨h1, h2, h3, h4, h5, h6, h7, h8, h9⟩ := hV
  have hd := h1.1
  have h20 := hz.1
  have hrun : fX8_puts 1 (qn kind) (qn l) (qb b) (qD I) = some (qn 0, qD (qU (qU (qU (qU (qU (qU I 21 V.2.2.1.length (qn kind)) 22 V.2.2.1.length (qo V.2.1.head?)) 23 V.2.2.1.length (qn l)) 24 V.2.2.1.length (qn p)) 25 V.2.2.1.length (qb b)) 1 31 (qn (V.2.2.1.length + 1)))) := by
    unfold fX8_puts fX8_puts_40
    cases ho : V.2.1 with
    | nil =>
      rw [ho] at hok
      have e0 : V.1.1.length = 0 := by simpa using hok.symm
      rw [e0] at hd
      rw [List.head?_nil, qo_n]
      simp (disch := omega) only [↓qlet, eq_self, qzg_t, qzb_some, ↓reduceIte, not_or, not_false_eq_true, not_true_eq_false, and_true, true_and, and_self, or_false, false_or, true_or, or_true, and_false, false_and, qlit, qneg, qof, qn_add, qn_mul, qn_s, qn_z, qn_d, qn_dz, qm_1, qt_1, qt_0, qb_0, qb_1, qb_01, qb01b, q01_0, q01_1, qo_s, qo_n, qn_c, qn_le, qn_lt, qn_eq, qn_ne_m, qm_ne_n, qm_lt, qm_le, qn_lt_m, qn_le_m, qn_sub, qn_div, qn_mod, qle_t, qle_f, qlt_t, qlt_f, qeq_t, qeq_f, Nat.add_sub_cancel, qD_I, qD_s, qU_s, qU_a, qU_k, qdk_1, qdk_2, qdk_3, qdk_4, qdk_5, qdk_6, qdk_7, qdk_8, qdk_9, qdk_10, qdk_11, qdk_12, qdk_13, qdk_14, qdk_15, qdk_16, qdk_17, qdk_18, qdk_19, qdk_20, qdk_21, qdk_22, qdk_23, qdk_24, qdk_25, qdk_26, qdk_27, qdk_28, qdk_29, qdk_30, qdk_31, qdk_32, qdk_33, qdk_34, qdk_35, qdk_36, qdk_37, qdk_38, qdk_39, qdk_40, qdk_41, qdk_42, qdk_43, qdk_44, qdl_2, qdl_3, qdl_4, qdl_5, qdl_6, qdl_7, qdl_8, qdl_9, qdl_10, qdl_11, qdl_12, qdl_13, qdl_14, qdl_15, qdl_16, qdl_17, qdl_18, qdl_19, qdl_20, qdl_21, qdl_22, qdl_23, qdl_24, qdl_25, qdl_26, qdl_27, qdl_28, qdl_29, qdl_30, qdl_31, qdl_32, qdl_33, qdl_34, qdl_35, qdl_36, qdl_37, qdl_38, qdl_39, qdl_40, qdl_41, qdl_42, qdl_43, qdl_44, qdr_0, qdr_1, qdr_2, qdr_3, qdr_4, qdr_5, qdr_6, qdr_7, qdr_8, qdr_9, qdr_10, qdr_11, qdr_12, qdr_15, qdr_16, qdr_19, qdr_20, qdr_21, qdr_22, qdr_26, qdr_27, qdr_28, qdr_29, qdr_30, qdr_34, qdr_35, qdr_37, qdr_38, qdr_39, qdr_40, qdr_42, qdr_43, qdr_44, qdr_45, qdr_46, qdr_47, qdr_48, qdr_49, qdr_50, qdr_51, qdr_53, qdr_54, qdr_55, hd, h3, h9]
    | cons y ot =>
      rw [ho] at hok h2
      have e0 : V.1.1.length = ot.length + 1 := by simpa using hok.symm
      rw [e0] at hd h20
      rw [List.head?_cons, qo_s]
      have a1 := h2.1
      simp (disch := omega) only [↓qlet, eq_self, qzg_t, qzb_some, ↓reduceIte, not_or, not_false_eq_true, not_true_eq_false, and_true, true_and, and_self, or_false, false_or, true_or, or_true, and_false, false_and, qlit, qneg, qof, qn_add, qn_mul, qn_s, qn_z, qn_d, qn_dz, qm_1, qt_1, qt_0, qb_0, qb_1, qb_01, qb01b, q01_0, q01_1, qo_s, qo_n, qn_c, qn_le, qn_lt, qn_eq, qn_ne_m, qm_ne_n, qm_lt, qm_le, qn_lt_m, qn_le_m, qn_sub, qn_div, qn_mod, qle_t, qle_f, qlt_t, qlt_f, qeq_t, qeq_f, Nat.add_sub_cancel, qD_I, qD_s, qU_s, qU_a, qU_k, qdk_1, qdk_2, qdk_3, qdk_4, qdk_5, qdk_6, qdk_7, qdk_8, qdk_9, qdk_10, qdk_11, qdk_12, qdk_13, qdk_14, qdk_15, qdk_16, qdk_17, qdk_18, qdk_19, qdk_20, qdk_21, qdk_22, qdk_23, qdk_24, qdk_25, qdk_26, qdk_27, qdk_28, qdk_29, qdk_30, qdk_31, qdk_32, qdk_33, qdk_34, qdk_35, qdk_36, qdk_37, qdk_38, qdk_39, qdk_40, qdk_41, qdk_42, qdk_43, qdk_44, qdl_2, qdl_3, qdl_4, qdl_5, qdl_6, qdl_7, qdl_8, qdl_9, qdl_10, qdl_11, qdl_12, qdl_13, qdl_14, qdl_15, qdl_16, qdl_17, qdl_18, qdl_19, qdl_20, qdl_21, qdl_22, qdl_23, qdl_24, qdl_25, qdl_26, qdl_27, qdl_28, qdl_29, qdl_30, qdl_31, qdl_32, qdl_33, qdl_34, qdl_35, qdl_36, qdl_37, qdl_38, qdl_39, qdl_40, qdl_41, qdl_42, qdl_43, qdl_44, qdr_0, qdr_1, qdr_2, qdr_3, qdr_4, qdr_5, qdr_6, qdr_7, qdr_8, qdr_9, qdr_10, qdr_11, qdr_12, qdr_15, qdr_16, qdr_19, qdr_20, qdr_21, qdr_22, qdr_26, qdr_27, qdr_28, qdr_29, qdr_30, qdr_34, qdr_35, qdr_37, qdr_38, qdr_39, qdr_40, qdr_42, qdr_43, qdr_44, qdr_45, qdr_46, qdr_47, qdr_48, qdr_49, qdr_50, qdr_51, qdr_53, qdr_54, qdr_55, hd, h3, h9, a1]
  refine ⟨_, hrun, ⟨?_, ?_, ?_, ?_, ?_, ?_, ?_, ?_, ?_⟩, ⟨?_, ?_⟩, ?_, ?_⟩
  · exact qRZ_fr h1 (by simp (disch := omega) only [qU_s, qU_a, qU_k]) (by simp (disch := omega) only [qU_s, qU_a, qU_k]) (by simp (disch := omega) only [qU_s, qU_a, qU_k]) (by simp (disch := omega) only [qU_r]) (by simp (disch := omega) only [qU_r]) (by simp (disch := omega) only [qU_r])
  · simp (disch := omega) only [qU_s, qU_a, qU_k]; exact h2
  · simp (disch := omega) only [qU_s, qU_a, qU_k]; rfl
  · refine qAll_push h4 (fun j x hj hp => ?_) ?_
    · simp (disch := omega) only [qU_s, qU_a, qU_k]; exact hp
    · simp (disch := omega) only [qU_s, qU_a, qU_k]; exact ⟨trivial, trivial, trivial, trivial, trivial⟩
  · simp (disch := omega) only [qU_s, qU_a, qU_k]; exact h5
  · simp (disch := omega) only [qU_s, qU_a, qU_k]; exact h6
  · simp (disch := omega) only [qU_s, qU_a, qU_k]; exact h7
  · simp (disch := omega) only [qU_s, qU_a, qU_k]; exact h8
  · simp (disch := omega) only [qU_s, qU_a, qU_k]; exact h9
  · intro a ha hb; simp (disch := omega) only [qU_r]
  · intro x a1 a2 a3 a4 a5 a6 a7; simp (disch := omega) only [qU_s, qU_a, qU_k]
  · intro a ha hb; simp (disch := omega) only [qU_r]
  · intro x a1; simp (disch := omega) only [qU_s, qU_a, qU_k]
theorem rOpen_22a {e : Nat} (he : e < 10) (a c : Int32) (k4 : I 4 e = qn 0) : fX8_opensElement_22 1 (qn e) 1 a c (qD I) = some (qn 0, qD (qU (qU (qU I 1 33 (a + c)) 1 25 (qn 1)) 1 24 (qn e))) := by
  unfold fX8_opensElement_22
  simp only [↓qlet, qD_s]
  simp (disch := omega) only [↓qlet, eq_self, qzg_t, qzb_some, ↓reduceIte, not_or, not_false_eq_true, not_true_eq_false, and_true, true_and, and_self, or_false, false_or, true_or, or_true, and_false, false_and, qlit, qneg, qof, qn_add, qn_mul, qn_s, qn_z, qn_d, qn_dz, qm_1, qt_1, qt_0, qb_0, qb_1, qb_01, qb01b, q01_0, q01_1, qo_s, qo_n, qn_c, qn_le, qn_lt, qn_eq, qn_ne_m, qm_ne_n, qm_lt, qm_le, qn_lt_m, qn_le_m, qn_sub, qn_div, qn_mod, qle_t, qle_f, qlt_t, qlt_f, qeq_t, qeq_f, Nat.add_sub_cancel, qD_I, qD_s, qU_s, qU_a, qU_k, qdk_1, qdk_2, qdk_3, qdk_4, qdk_5, qdk_6, qdk_7, qdk_8, qdk_9, qdk_10, qdk_11, qdk_12, qdk_13, qdk_14, qdk_15, qdk_16, qdk_17, qdk_18, qdk_19, qdk_20, qdk_21, qdk_22, qdk_23, qdk_24, qdk_25, qdk_26, qdk_27, qdk_28, qdk_29, qdk_30, qdk_31, qdk_32, qdk_33, qdk_34, qdk_35, qdk_36, qdk_37, qdk_38, qdk_39, qdk_40, qdk_41, qdk_42, qdk_43, qdk_44, qdl_2, qdl_3, qdl_4, qdl_5, qdl_6, qdl_7, qdl_8, qdl_9, qdl_10, qdl_11, qdl_12, qdl_13, qdl_14, qdl_15, qdl_16, qdl_17, qdl_18, qdl_19, qdl_20, qdl_21, qdl_22, qdl_23, qdl_24, qdl_25, qdl_26, qdl_27, qdl_28, qdl_29, qdl_30, qdl_31, qdl_32, qdl_33, qdl_34, qdl_35, qdl_36, qdl_37, qdl_38, qdl_39, qdl_40, qdl_41, qdl_42, qdl_43, qdl_44, qdr_0, qdr_1, qdr_2, qdr_3, qdr_4, qdr_5, qdr_6, qdr_7, qdr_8, qdr_9, qdr_10, qdr_11, qdr_12, qdr_15, qdr_16, qdr_19, qdr_20, qdr_21, qdr_22, qdr_26, qdr_27, qdr_28, qdr_29, qdr_30, qdr_34, qdr_35, qdr_37, qdr_38, qdr_39, qdr_40, qdr_42, qdr_43, qdr_44, qdr_45, qdr_46, qdr_47, qdr_48, qdr_49, qdr_50, qdr_51, qdr_53, qdr_54, qdr_55, k4]
theorem rOpen_22b {e n d th : Nat} (he : e < 10) (hn : 0 < n) (hn6 : n ≤ 6) (hd : d < 20) (ht : th < 1000) (a c : Int32) (k4 : I 4 e = qn n) (k23 : I 1 23 = qn d) (k31 : I 1 31 = qn (th + 1)) : fX8_opensElement_22 1 (qn e) 1 a c (qD I) = some (qn 0, qD (qU (qU (qU (qU (qU (qU (qU (qU I 1 33 (a + c)) 1 25 (qn 1)) 1 24 (qn e)) 17 d (qn e)) 18 d (qn 0)) 19 d (qn 0)) 20 d (qn th)) 1 23 (qn (d + 1)))) := by
  unfold fX8_opensElement_22
  simp only [↓qlet, qD_s]
  simp (disch := omega) only [↓qlet, eq_self, qzg_t, qzb_some, ↓reduceIte, not_or, not_false_eq_true, not_true_eq_false, and_true, true_and, and_self, or_false, false_or, true_or, or_true, and_false, false_and, qlit, qneg, qof, qn_add, qn_mul, qn_s, qn_z, qn_d, qn_dz, qm_1, qt_1, qt_0, qb_0, qb_1, qb_01, qb01b, q01_0, q01_1, qo_s, qo_n, qn_c, qn_le, qn_lt, qn_eq, qn_ne_m, qm_ne_n, qm_lt, qm_le, qn_lt_m, qn_le_m, qn_sub, qn_div, qn_mod, qle_t, qle_f, qlt_t, qlt_f, qeq_t, qeq_f, Nat.add_sub_cancel, qD_I, qD_s, qU_s, qU_a, qU_k, qdk_1, qdk_2, qdk_3, qdk_4, qdk_5, qdk_6, qdk_7, qdk_8, qdk_9, qdk_10, qdk_11, qdk_12, qdk_13, qdk_14, qdk_15, qdk_16, qdk_17, qdk_18, qdk_19, qdk_20, qdk_21, qdk_22, qdk_23, qdk_24, qdk_25, qdk_26, qdk_27, qdk_28, qdk_29, qdk_30, qdk_31, qdk_32, qdk_33, qdk_34, qdk_35, qdk_36, qdk_37, qdk_38, qdk_39, qdk_40, qdk_41, qdk_42, qdk_43, qdk_44, qdl_2, qdl_3, qdl_4, qdl_5, qdl_6, qdl_7, qdl_8, qdl_9, qdl_10, qdl_11, qdl_12, qdl_13, qdl_14, qdl_15, qdl_16, qdl_17, qdl_18, qdl_19, qdl_20, qdl_21, qdl_22, qdl_23, qdl_24, qdl_25, qdl_26, qdl_27, qdl_28, qdl_29, qdl_30, qdl_31, qdl_32, qdl_33, qdl_34, qdl_35, qdl_36, qdl_37, qdl_38, qdl_39, qdl_40, qdl_41, qdl_42, qdl_43, qdl_44, qdr_0, qdr_1, qdr_2, qdr_3, qdr_4, qdr_5, qdr_6, qdr_7, qdr_8, qdr_9, qdr_10, qdr_11, qdr_12, qdr_15, qdr_16, qdr_19, qdr_20, qdr_21, qdr_22, qdr_26, qdr_27, qdr_28, qdr_29, qdr_30, qdr_34, qdr_35, qdr_37, qdr_38, qdr_39, qdr_40, qdr_42, qdr_43, qdr_44, qdr_45, qdr_46, qdr_47, qdr_48, qdr_49, qdr_50, qdr_51, qdr_53, qdr_54, qdr_55, k4, k23, k31]
theorem rOpen (hG : qRG G I) (hg : qGok G) (hok : V.2.1.length = V.1.1.length) (hz : qZok G V.1) (hV : qRV I p V) (ht : V.2.2.1.length < 300) {e : Nat} (he : e < 10) (hd20 : V.1.1.length < 20) (b : Bool) : ∃ J, fX8_opensElement 1 (qn e) (qb b) (qD I) = some (qn 0, qD J) ∧ qRV J p (qOpen G e p b V) ∧ qFrR I J := by
  obtain ⟨J, hJ, j1, j2, j3, j4⟩ := rPuts (G := G) hok hz hV ht (kind := e) 60 b
  have hGJ := qFrR_G j2 hG
  have g1 := (hGJ e he).1
  have g6 := (hg e he).1
  obtain ⟨h1, h2, h3, h4, h5, h6, h7, h8, h9⟩ := j1
  have h3 : J 1 31 = qn (V.2.2.1.length + 1) := h3
  have h6 : J 1 33 = qn V.2.2.2.2.1 := h6
  have hd := h1.1
  have hd : J 1 23 = qn V.1.1.length := hd
  have hrun : fX8_opensElement 1 (qn e) (qb b) (qD I) = fX8_opensElement_22 1 (qn e) 1 (qn V.2.2.2.2.1) (qb b) (qD J) := by
    have e1 : fX8_puts 1 (qn e) 60 (qb b) (qD I) = some (qn 0, qD J) := hJ
    unfold fX8_opensElement
    rw [qzg_i (qdk_1 _), e1, qzb_some, qzg_i (qdk_1 _), qD_I, h6]
    cases b with
    | true => exact if_neg (by decide)
    | false => exact if_pos rfl
  have hst : qn V.2.2.2.2.1 + qb b = qn (if b = true then V.2.2.2.2.1 + 1 else V.2.2.2.2.1) := by
    cases b with
    | true => rw [qb_t, qn_add]; rfl
    | false => rw [qb_f, qn_add]; rfl
  obtain ⟨K, hK⟩ : ∃ K, K = qU (qU (qU J 1 33 (qn (if b = true then V.2.2.2.2.1 + 1 else V.2.2.2.2.1))) 1 25 (qn 1)) 1 24 (qn e) := ⟨_, rfl⟩
  have fK : ∀ a, a ≠ 1 → K a = J a := fun a h => by rw [hK]; simp (disch := omega) only [qU_r]
  have fK1 : ∀ k, k ≠ 33 → k ≠ 25 → k ≠ 24 → K 1 k = J 1 k := fun k a1 a2 a3 => by rw [hK]; simp (disch := omega) only [qU_s, qU_a, qU_k]
  by_cases c0 : qgN G e = 0
  · refine ⟨K, ?_, ?_, ?_, ?_⟩
    · rw [hrun, rOpen_22a he _ _ (by rw [g1, c0]), hst, ← hK]
    · unfold qOpen qEnter
      simp only [if_pos c0]
      refine ⟨⟨?_, ?_, ?_, ?_⟩, ?_, ?_, ?_, ?_, ?_, ?_, ?_, ?_⟩
      · rw [fK1 _ (by omega) (by omega) (by omega)]; exact hd
      · rw [hK, qU_s]; rfl
      · rw [hK]; simp (disch := omega) only [qU_s, qU_a, qU_k]; rfl
      · rw [fK _ (by omega), fK 18 (by omega), fK 19 (by omega)]; exact h1.2.2.2
      · rw [fK _ (by omega)]; exact h2
      · rw [fK1 _ (by omega) (by omega) (by omega)]; exact h3
      · rw [fK _ (by omega), fK 22 (by omega), fK 23 (by omega), fK 24 (by omega), fK 25 (by omega)]; exact h4
      · rw [fK1 _ (by omega) (by omega) (by omega)]; exact h5
      · rw [hK]; simp (disch := omega) only [qU_s, qU_a, qU_k]
      · rw [fK1 _ (by omega) (by omega) (by omega)]; exact h7
      · rw [fK _ (by omega), fK 27 (by omega)]; exact h8
      · rw [fK _ (by omega)]; exact h9
    · intro a h1 h2; rw [fK a h1, j2.1 a h1 h2]
    · intro k a1 a2 a3 a4 a5 a6 a7; rw [fK1 k (by omega) (by omega) (by omega), j2.2 k a1 a2 a3 a4 a5 a6 a7]
  · obtain ⟨L, hL⟩ : ∃ L, L = qU (qU (qU (qU (qU K 17 V.1.1.length (qn e)) 18 V.1.1.length (qn 0)) 19 V.1.1.length (qn 0)) 20 V.1.1.length (qn V.2.2.1.length)) 1 23 (qn (V.1.1.length + 1)) := ⟨_, rfl⟩
    have fL : ∀ a, a ≠ 1 → a ≠ 17 → a ≠ 18 → a ≠ 19 → a ≠ 20 → L a = K a := fun a h1 h2 h3 h4 h5 => by rw [hL]; simp (disch := omega) only [qU_r]
    have fL1 : ∀ k, k ≠ 23 → L 1 k = K 1 k := fun k a1 => by rw [hL]; simp (disch := omega) only [qU_s, qU_a, qU_k]
    refine ⟨L, ?_, ?_, ?_, ?_⟩
    · rw [hrun, rOpen_22b he (by omega) g6 hd20 (by omega) _ _ g1 hd h3, hst, hL, hK]
    · unfold qOpen qEnter
      simp only [if_neg c0]
      refine ⟨⟨?_, ?_, ?_, ?_⟩, ?_, ?_, ?_, ?_, ?_, ?_, ?_, ?_⟩
      · rw [hL, qU_s]; rfl
      · rw [fL1 _ (by omega), hK, qU_s]; rfl
      · rw [fL1 _ (by omega), hK]; simp (disch := omega) only [qU_s, qU_a, qU_k]; rfl
      · refine qAll_push h1.2.2.2 (fun j x hj hp => ?_) ?_
        · rw [hL]; simp (disch := omega) only [qU_s, qU_a, qU_k]
          rw [fK _ (by omega), fK 18 (by omega), fK 19 (by omega)]; exact hp
        · rw [hL]; simp (disch := omega) only [qU_s, qU_a, qU_k]
          exact ⟨trivial, trivial, rfl⟩
      · refine qAll_push h2 (fun j x hj hp => ?_) ?_
        · have hj : j < V.2.1.length := hj
          rw [hL]; simp (disch := omega) only [qU_s, qU_a, qU_k]
          rw [fK _ (by omega)]; exact hp
        · show L 20 V.2.1.length = _
          rw [hok, hL]; simp (disch := omega) only [qU_s, qU_a, qU_k]
      · rw [fL1 _ (by omega), fK1 _ (by omega) (by omega) (by omega)]; exact h3
      · rw [fL 21 (by omega) (by omega) (by omega) (by omega) (by omega), fL 22 (by omega) (by omega) (by omega) (by omega) (by omega), fL 23 (by omega) (by omega) (by omega) (by omega) (by omega), fL 24 (by omega) (by omega) (by omega) (by omega) (by omega), fL 25 (by omega) (by omega) (by omega) (by omega) (by omega), fK _ (by omega), fK 22 (by omega), fK 23 (by omega), fK 24 (by omega), fK 25 (by omega)]; exact h4
      · rw [fL1 _ (by omega), fK1 _ (by omega) (by omega) (by omega)]; exact h5
      · rw [fL1 _ (by omega), hK]; simp (disch := omega) only [qU_s, qU_a, qU_k]
      · rw [fL1 _ (by omega), fK1 _ (by omega) (by omega) (by omega)]; exact h7
      · rw [fL 26 (by omega) (by omega) (by omega) (by omega) (by omega), fL 27 (by omega) (by omega) (by omega) (by omega) (by omega), fK _ (by omega), fK 27 (by omega)]; exact h8
      · rw [fL 29 (by omega) (by omega) (by omega) (by omega) (by omega), fK _ (by omega)]; exact h9
    · intro a h1 h2; rw [fL a (by omega) (by omega) (by omega) (by omega) (by omega), fK a h1, j2.1 a h1 h2]
    · intro k a1 a2 a3 a4 a5 a6 a7; rw [fL1 k (by omega), fK1 k (by omega) (by omega) (by omega), j2.2 k a1 a2 a3 a4 a5 a6 a7]
end
