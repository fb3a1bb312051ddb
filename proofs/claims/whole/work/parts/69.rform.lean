/-! THE REFERENCE: the normal form -/
def qFm (I : Nat → Nat → Int32) (F : List qK) : Prop := I 1 52 = qn F.length ∧ ∀ i k, F[i]? = some k → I 40 i = qn k.1 ∧ I 41 i = k.2
def qTR (I : Nat → Nat → Int32) (th : List qT) : Prop := qAll (fun j t => I 21 j = qn t.1 ∧ I 22 j = qo t.2.1 ∧ I 23 j = qn t.2.2.1 ∧ I 24 j = qn t.2.2.2.1 ∧ I 25 j = qb t.2.2.2.2) th
def qhd (W : List (Nat × Nat)) : Option Nat := W.head?.map fun x => x.1
def qCh (I : Nat → Nat → Int32) : List (Nat × Nat) → Prop
  | [] => True
  | x :: l => I 22 x.1 = qo (qhd l) ∧ qCh I l
theorem qCh_fr {I J : Nat → Nat → Int32} (hf : J 22 = I 22) : ∀ {W : List (Nat × Nat)}, qCh I W → qCh J W := by
  intro W
  induction W with
  | nil => intro h; exact h
  | cons x l ih => intro h; exact ⟨by rw [hf]; exact h.1, ih h.2⟩
theorem qCh_pop {I : Nat → Nat → Int32} (p : Option Nat) : ∀ {W : List (Nat × Nat)}, qCh I W → qCh I (qPop p W) := by
  intro W
  induction W with
  | nil => intro h; exact h
  | cons x l ih =>
    intro h
    unfold qPop
    split
    · exact h
    · exact ih h.2
def qFrF (I J : Nat → Nat → Int32) : Prop := (∀ a, a ≠ 1 → a ≠ 40 → a ≠ 41 → J a = I a) ∧ ∀ k, k ≠ 52 → J 1 k = I 1 k
theorem qFrF_tr {I J K : Nat → Nat → Int32} (h : qFrF I J) (k : qFrF J K) : qFrF I K := ⟨fun a h1 h2 h3 => by rw [k.1 a h1 h2 h3, h.1 a h1 h2 h3], fun x h1 => by rw [k.2 x h1, h.2 x h1]⟩
theorem qFrF_refl (I : Nat → Nat → Int32) : qFrF I I := ⟨fun _ _ _ _ => rfl, fun _ _ => rfl⟩
section
variable {I : Nat → Nat → Int32} {A : qA} {G : qG}
theorem qCh_W : ∀ l : List qT, qWF G l → qTR I l → qCh I (qW G l) := by
  intro l
  induction l with
  | nil => intro _ _; exact True.intro
  | cons t l ih =>
    intro h1 h2
    have hl := ih h1.1 h2.2
    unfold qW
    split
    · refine ⟨?_, qCh_pop _ hl⟩
      rw [show qhd (qPop t.2.1 (qW G l)) = t.2.1 from h1.2.1.symm]
      exact h2.1.2.1
    · exact qCh_pop _ hl
theorem rWrites {F : List qK} (h : qFm I F) (hF : F.length < 620) (s : Nat) (v : Int32) : ∃ J, fX8_writes 1 (qn s) v (qD I) = some (qn 0, qD J) ∧ qFm J (F ++ [(s, v)]) ∧ qFrF I J := by
  obtain ⟨h1, h2⟩ := h
  refine ⟨qU (qU (qU I 40 F.length (qn s)) 41 F.length v) 1 52 (qn (F.length + 1)), ?_, ⟨?_, fun i k hi => ?_⟩, fun a h1 h2 h3 => ?_, fun k hk => ?_⟩
  · unfold fX8_writes
    simp (disch := omega) only [↓qlet, eq_self, qzg_t, qzb_some, ↓reduceIte, not_or, not_false_eq_true, not_true_eq_false, and_true, true_and, and_self, or_false, false_or, true_or, or_true, and_false, false_and, qlit, qneg, qof, qn_add, qn_mul, qn_s, qn_z, qn_d, qn_dz, qm_1, qt_1, qt_0, qb_0, qb_1, qb_01, qb01b, q01_0, q01_1, qo_s, qo_n, qn_c, qn_le, qn_lt, qn_eq, qn_ne_m, qm_ne_n, qm_lt, qm_le, qn_lt_m, qn_le_m, qn_sub, qn_div, qn_mod, qle_t, qle_f, qlt_t, qlt_f, qeq_t, qeq_f, Nat.add_sub_cancel, qD_I, qD_s, qU_s, qU_a, qU_k, qdk_1, qdk_2, qdk_3, qdk_4, qdk_5, qdk_6, qdk_7, qdk_8, qdk_9, qdk_10, qdk_11, qdk_12, qdk_13, qdk_14, qdk_15, qdk_16, qdk_17, qdk_18, qdk_19, qdk_20, qdk_21, qdk_22, qdk_23, qdk_24, qdk_25, qdk_26, qdk_27, qdk_28, qdk_29, qdk_30, qdk_31, qdk_32, qdk_33, qdk_34, qdk_35, qdk_36, qdk_37, qdk_38, qdk_39, qdk_40, qdk_41, qdk_42, qdk_43, qdk_44, qdl_2, qdl_3, qdl_4, qdl_5, qdl_6, qdl_7, qdl_8, qdl_9, qdl_10, qdl_11, qdl_12, qdl_13, qdl_14, qdl_15, qdl_16, qdl_17, qdl_18, qdl_19, qdl_20, qdl_21, qdl_22, qdl_23, qdl_24, qdl_25, qdl_26, qdl_27, qdl_28, qdl_29, qdl_30, qdl_31, qdl_32, qdl_33, qdl_34, qdl_35, qdl_36, qdl_37, qdl_38, qdl_39, qdl_40, qdl_41, qdl_42, qdl_43, qdl_44, qdr_0, qdr_1, qdr_2, qdr_3, qdr_4, qdr_5, qdr_6, qdr_7, qdr_8, qdr_9, qdr_10, qdr_11, qdr_12, qdr_15, qdr_16, qdr_19, qdr_20, qdr_21, qdr_22, qdr_26, qdr_27, qdr_28, qdr_29, qdr_30, qdr_34, qdr_35, qdr_37, qdr_38, qdr_39, qdr_40, qdr_42, qdr_43, qdr_44, qdr_45, qdr_46, qdr_47, qdr_48, qdr_49, qdr_50, qdr_51, qdr_53, qdr_54, qdr_55, h1]
  · rw [qU_s, List.length_append]; rfl
  · have hil := (List.getElem?_eq_some_iff.mp hi).1
    rw [List.length_append] at hil
    have hil : i < F.length + 1 := hil
    by_cases c : i = F.length
    · subst c
      rw [List.getElem?_append_right (Nat.le_refl _), Nat.sub_self] at hi
      have hi : some (s, v) = some k := hi
      cases hi
      exact ⟨by simp (disch := omega) only [qU_s, qU_a, qU_k], by simp (disch := omega) only [qU_s, qU_a, qU_k]⟩
    · rw [List.getElem?_append_left (by omega)] at hi
      simp (disch := omega) only [qU_s, qU_a, qU_k]
      exact h2 i k hi
  · simp (disch := omega) only [qU_r]
  · simp (disch := omega) only [qU_s, qU_a, qU_k]
theorem rForms36 (k9 : Nat → Int32 → Int32 → zM → Option (Int32 × zM)) (p : Option Nat) (hp : ∀ q, p = some q → q < 1000) (x2 : Int32) : ∀ W F I m, W.length < m → F.length + W.length ≤ 600 → (∀ x ∈ W, x.1 < 300 ∧ x.2 < 10 ∧ I 21 x.1 = qn x.2) → qCh I W → qFm I F.reverse → ∃ J, fX8_forms_36 k9 m 1 (qo (qhd W)) x2 (qo p) (qD I) = fX8_forms_67 k9 1 (qo (qhd (qPop p W))) x2 (qD J) ∧ qFm J (qEnds p W F).reverse ∧ qFrF I J := by
  intro W
  induction W with
  | nil =>
    intro F I m h1 h2 h3 h4 h5
    obtain ⟨m, rfl⟩ : ∃ m', m = m' + 1 := ⟨m - 1, by omega⟩
    refine ⟨I, ?_, h5, qFrF_refl I⟩
    rw [fX8_forms_36, if_pos (show qo (qhd []) = -1 from rfl)]
    rfl
  | cons x l ih =>
    intro F I m h1 h2 h3 h4 h5
    obtain ⟨m, rfl⟩ : ∃ m', m = m' + 1 := ⟨m - 1, by omega⟩
    simp only [List.length_cons] at h1 h2
    obtain ⟨x1, x2', x3⟩ := h3 x (by simp)
    have hx : qo (qhd (x :: l)) = qn x.1 := rfl
    have hne : ¬ qn x.1 = -1 := fun h => by have h : qn x.1 = qm := h; rw [qn_ne_m (by omega)] at h; exact h
    rw [fX8_forms_36, hx, if_neg hne]
    unfold qPop qEnds
    by_cases c : some x.1 = p
    · have e : qn x.1 = qo p := by rw [qo_eq2 (by omega) hp]; exact c
      rw [if_pos c, if_pos c, if_pos e]
      exact ⟨I, by rw [hx], h5, qFrF_refl I⟩
    · have e : ¬ qn x.1 = qo p := by rw [qo_eq2 (by omega) hp]; exact c
      rw [if_neg c, if_neg c, if_neg e]
      obtain ⟨J, j1, j2, j3⟩ := rWrites h5 (by rw [List.length_reverse]; omega) 1 (qn x.2)
      have j2 : qFm J (((1, qn x.2) :: F).reverse) := by rw [List.reverse_cons]; exact j2
      have h22 : J 22 x.1 = qo (qhd l) := by rw [j3.1 22 (by omega) (by omega) (by omega)]; exact h4.1
      obtain ⟨K, k1, k2, k3⟩ := ih ((1, qn x.2) :: F) J m (by omega) (by simp only [List.length_cons]; omega) (fun y hy => by rw [j3.1 21 (by omega) (by omega) (by omega)]; exact h3 y (by simp [hy])) (qCh_fr (j3.1 22 (by omega) (by omega) (by omega)) h4.2) j2
      refine ⟨K, ?_, k2, qFrF_tr j3 k3⟩
      simp (disch := omega) only [↓qlet, eq_self, qzg_t, qzb_some, ↓reduceIte, not_or, not_false_eq_true, not_true_eq_false, and_true, true_and, and_self, or_false, false_or, true_or, or_true, and_false, false_and, qlit, qneg, qof, qn_add, qn_mul, qn_s, qn_z, qn_d, qn_dz, qm_1, qt_1, qt_0, qb_0, qb_1, qb_01, qb01b, q01_0, q01_1, qo_s, qo_n, qn_c, qn_le, qn_lt, qn_eq, qn_ne_m, qm_ne_n, qm_lt, qm_le, qn_lt_m, qn_le_m, qn_sub, qn_div, qn_mod, qle_t, qle_f, qlt_t, qlt_f, qeq_t, qeq_f, Nat.add_sub_cancel, qD_I, qD_s, qU_s, qU_a, qU_k, qdk_1, qdk_2, qdk_3, qdk_4, qdk_5, qdk_6, qdk_7, qdk_8, qdk_9, qdk_10, qdk_11, qdk_12, qdk_13, qdk_14, qdk_15, qdk_16, qdk_17, qdk_18, qdk_19, qdk_20, qdk_21, qdk_22, qdk_23, qdk_24, qdk_25, qdk_26, qdk_27, qdk_28, qdk_29, qdk_30, qdk_31, qdk_32, qdk_33, qdk_34, qdk_35, qdk_36, qdk_37, qdk_38, qdk_39, qdk_40, qdk_41, qdk_42, qdk_43, qdk_44, qdl_2, qdl_3, qdl_4, qdl_5, qdl_6, qdl_7, qdl_8, qdl_9, qdl_10, qdl_11, qdl_12, qdl_13, qdl_14, qdl_15, qdl_16, qdl_17, qdl_18, qdl_19, qdl_20, qdl_21, qdl_22, qdl_23, qdl_24, qdl_25, qdl_26, qdl_27, qdl_28, qdl_29, qdl_30, qdl_31, qdl_32, qdl_33, qdl_34, qdl_35, qdl_36, qdl_37, qdl_38, qdl_39, qdl_40, qdl_41, qdl_42, qdl_43, qdl_44, qdr_0, qdr_1, qdr_2, qdr_3, qdr_4, qdr_5, qdr_6, qdr_7, qdr_8, qdr_9, qdr_10, qdr_11, qdr_12, qdr_15, qdr_16, qdr_19, qdr_20, qdr_21, qdr_22, qdr_26, qdr_27, qdr_28, qdr_29, qdr_30, qdr_34, qdr_35, qdr_37, qdr_38, qdr_39, qdr_40, qdr_42, qdr_43, qdr_44, qdr_45, qdr_46, qdr_47, qdr_48, qdr_49, qdr_50, qdr_51, qdr_53, qdr_54, qdr_55, x3, j1, h22]
      exact k1
theorem rForm_9 (hg : qGok G) {th : List qT} (hL : th.length ≤ 300) (ht : ∀ t ∈ th, t.1 ≤ 10 ∧ (∀ q, t.2.1 = some q → q < 300) ∧ t.2.2.1 < 128 ∧ t.2.2.2.1 ≤ 600) (hwf : ∀ k, qWF G (th.drop k)) : ∀ d l I m, d + 1 < m → d + l.length = th.length → l = th.drop d → qRG G I → qTR I th → I 1 31 = qn th.length → qFm I (qF G l).reverse → ∃ J, fX8_forms_9 m 1 (qo (qhd (qW G l))) (qn l.length) (qD I) = some (qn 0, qD J) ∧ qFm J (qForm G th) ∧ qFrF I J := by
  intro d
  induction d with
  | zero =>
    intro l I m h1 h2 h3 hG hT h5 hF
    obtain ⟨m, rfl⟩ : ∃ m', m = m' + 2 := ⟨m - 2, by omega⟩
    have hl : l = th := by rw [h3]; rfl
    subst hl
    have hf := qF_len G l
    have hm : ∀ x ∈ qW G l, x.1 < 300 ∧ x.2 < 10 ∧ I 21 x.1 = qn x.2 := by
      intro x hx
      obtain ⟨m1, m2, t, m3, m4⟩ := qW_mem G l x hx
      refine ⟨by omega, m2, ?_⟩
      rw [← m4]; exact (qAll_rev hT m3).1
    have hwl : qWF G l := by have := hwf 0; rwa [List.drop_zero] at this
    obtain ⟨J, e1, j1, j2⟩ := rForms36 (fX8_forms_9 (m + 1)) none (fun q h => by cases h) (qn l.length) (qW G l) (qF G l) I 10000 (by omega) (by omega) hm (qCh_W l hwl hT) hF
    refine ⟨J, ?_, j1, j2⟩
    have h5J : J 1 31 = qn l.length := by rw [j2.2 31 (by omega)]; exact h5
    rw [qo_n] at e1
    have hend : ∀ z, fX8_forms_67 (fX8_forms_9 (m + 1)) 1 z (qn l.length) (qD J) = some (qn 0, qD J) := by
      intro z
      have hk9 : fX8_forms_9 (m + 1) 1 z (qn (l.length + 1)) (qD J) = some (qn 0, qD J) := by
        rw [fX8_forms_9]
        simp (disch := omega) only [↓qlet, eq_self, qzg_t, qzb_some, ↓reduceIte, not_or, not_false_eq_true, not_true_eq_false, and_true, true_and, and_self, or_false, false_or, true_or, or_true, and_false, false_and, qlit, qneg, qof, qn_add, qn_mul, qn_s, qn_z, qn_d, qn_dz, qm_1, qt_1, qt_0, qb_0, qb_1, qb_01, qb01b, q01_0, q01_1, qo_s, qo_n, qn_c, qn_le, qn_lt, qn_eq, qn_ne_m, qm_ne_n, qm_lt, qm_le, qn_lt_m, qn_le_m, qn_sub, qn_div, qn_mod, qle_t, qle_f, qlt_t, qlt_f, qeq_t, qeq_f, Nat.add_sub_cancel, qD_I, qD_s, qU_s, qU_a, qU_k, qdk_1, qdk_2, qdk_3, qdk_4, qdk_5, qdk_6, qdk_7, qdk_8, qdk_9, qdk_10, qdk_11, qdk_12, qdk_13, qdk_14, qdk_15, qdk_16, qdk_17, qdk_18, qdk_19, qdk_20, qdk_21, qdk_22, qdk_23, qdk_24, qdk_25, qdk_26, qdk_27, qdk_28, qdk_29, qdk_30, qdk_31, qdk_32, qdk_33, qdk_34, qdk_35, qdk_36, qdk_37, qdk_38, qdk_39, qdk_40, qdk_41, qdk_42, qdk_43, qdk_44, qdl_2, qdl_3, qdl_4, qdl_5, qdl_6, qdl_7, qdl_8, qdl_9, qdl_10, qdl_11, qdl_12, qdl_13, qdl_14, qdl_15, qdl_16, qdl_17, qdl_18, qdl_19, qdl_20, qdl_21, qdl_22, qdl_23, qdl_24, qdl_25, qdl_26, qdl_27, qdl_28, qdl_29, qdl_30, qdl_31, qdl_32, qdl_33, qdl_34, qdl_35, qdl_36, qdl_37, qdl_38, qdl_39, qdl_40, qdl_41, qdl_42, qdl_43, qdl_44, qdr_0, qdr_1, qdr_2, qdr_3, qdr_4, qdr_5, qdr_6, qdr_7, qdr_8, qdr_9, qdr_10, qdr_11, qdr_12, qdr_15, qdr_16, qdr_19, qdr_20, qdr_21, qdr_22, qdr_26, qdr_27, qdr_28, qdr_29, qdr_30, qdr_34, qdr_35, qdr_37, qdr_38, qdr_39, qdr_40, qdr_42, qdr_43, qdr_44, qdr_45, qdr_46, qdr_47, qdr_48, qdr_49, qdr_50, qdr_51, qdr_53, qdr_54, qdr_55, h5J]
      unfold fX8_forms_67 fX8_forms_100 fX8_forms_139
      simp (disch := omega) only [↓qlet, eq_self, qzg_t, qzb_some, ↓reduceIte, not_or, not_false_eq_true, not_true_eq_false, and_true, true_and, and_self, or_false, false_or, true_or, or_true, and_false, false_and, qlit, qneg, qof, qn_add, qn_mul, qn_s, qn_z, qn_d, qn_dz, qm_1, qt_1, qt_0, qb_0, qb_1, qb_01, qb01b, q01_0, q01_1, qo_s, qo_n, qn_c, qn_le, qn_lt, qn_eq, qn_ne_m, qm_ne_n, qm_lt, qm_le, qn_lt_m, qn_le_m, qn_sub, qn_div, qn_mod, qle_t, qle_f, qlt_t, qlt_f, qeq_t, qeq_f, Nat.add_sub_cancel, qD_I, qD_s, qU_s, qU_a, qU_k, qdk_1, qdk_2, qdk_3, qdk_4, qdk_5, qdk_6, qdk_7, qdk_8, qdk_9, qdk_10, qdk_11, qdk_12, qdk_13, qdk_14, qdk_15, qdk_16, qdk_17, qdk_18, qdk_19, qdk_20, qdk_21, qdk_22, qdk_23, qdk_24, qdk_25, qdk_26, qdk_27, qdk_28, qdk_29, qdk_30, qdk_31, qdk_32, qdk_33, qdk_34, qdk_35, qdk_36, qdk_37, qdk_38, qdk_39, qdk_40, qdk_41, qdk_42, qdk_43, qdk_44, qdl_2, qdl_3, qdl_4, qdl_5, qdl_6, qdl_7, qdl_8, qdl_9, qdl_10, qdl_11, qdl_12, qdl_13, qdl_14, qdl_15, qdl_16, qdl_17, qdl_18, qdl_19, qdl_20, qdl_21, qdl_22, qdl_23, qdl_24, qdl_25, qdl_26, qdl_27, qdl_28, qdl_29, qdl_30, qdl_31, qdl_32, qdl_33, qdl_34, qdl_35, qdl_36, qdl_37, qdl_38, qdl_39, qdl_40, qdl_41, qdl_42, qdl_43, qdl_44, qdr_0, qdr_1, qdr_2, qdr_3, qdr_4, qdr_5, qdr_6, qdr_7, qdr_8, qdr_9, qdr_10, qdr_11, qdr_12, qdr_15, qdr_16, qdr_19, qdr_20, qdr_21, qdr_22, qdr_26, qdr_27, qdr_28, qdr_29, qdr_30, qdr_34, qdr_35, qdr_37, qdr_38, qdr_39, qdr_40, qdr_42, qdr_43, qdr_44, qdr_45, qdr_46, qdr_47, qdr_48, qdr_49, qdr_50, qdr_51, qdr_53, qdr_54, qdr_55, h5J, hk9]
    rw [hend] at e1
    rw [fX8_forms_9]
    unfold fX8_forms_35
    simp (disch := omega) only [↓qlet, eq_self, qzg_t, qzb_some, ↓reduceIte, not_or, not_false_eq_true, not_true_eq_false, and_true, true_and, and_self, or_false, false_or, true_or, or_true, and_false, false_and, qlit, qneg, qof, qn_add, qn_mul, qn_s, qn_z, qn_d, qn_dz, qm_1, qt_1, qt_0, qb_0, qb_1, qb_01, qb01b, q01_0, q01_1, qo_s, qo_n, qn_c, qn_le, qn_lt, qn_eq, qn_ne_m, qm_ne_n, qm_lt, qm_le, qn_lt_m, qn_le_m, qn_sub, qn_div, qn_mod, qle_t, qle_f, qlt_t, qlt_f, qeq_t, qeq_f, Nat.add_sub_cancel, qD_I, qD_s, qU_s, qU_a, qU_k, qdk_1, qdk_2, qdk_3, qdk_4, qdk_5, qdk_6, qdk_7, qdk_8, qdk_9, qdk_10, qdk_11, qdk_12, qdk_13, qdk_14, qdk_15, qdk_16, qdk_17, qdk_18, qdk_19, qdk_20, qdk_21, qdk_22, qdk_23, qdk_24, qdk_25, qdk_26, qdk_27, qdk_28, qdk_29, qdk_30, qdk_31, qdk_32, qdk_33, qdk_34, qdk_35, qdk_36, qdk_37, qdk_38, qdk_39, qdk_40, qdk_41, qdk_42, qdk_43, qdk_44, qdl_2, qdl_3, qdl_4, qdl_5, qdl_6, qdl_7, qdl_8, qdl_9, qdl_10, qdl_11, qdl_12, qdl_13, qdl_14, qdl_15, qdl_16, qdl_17, qdl_18, qdl_19, qdl_20, qdl_21, qdl_22, qdl_23, qdl_24, qdl_25, qdl_26, qdl_27, qdl_28, qdl_29, qdl_30, qdl_31, qdl_32, qdl_33, qdl_34, qdl_35, qdl_36, qdl_37, qdl_38, qdl_39, qdl_40, qdl_41, qdl_42, qdl_43, qdl_44, qdr_0, qdr_1, qdr_2, qdr_3, qdr_4, qdr_5, qdr_6, qdr_7, qdr_8, qdr_9, qdr_10, qdr_11, qdr_12, qdr_15, qdr_16, qdr_19, qdr_20, qdr_21, qdr_22, qdr_26, qdr_27, qdr_28, qdr_29, qdr_30, qdr_34, qdr_35, qdr_37, qdr_38, qdr_39, qdr_40, qdr_42, qdr_43, qdr_44, qdr_45, qdr_46, qdr_47, qdr_48, qdr_49, qdr_50, qdr_51, qdr_53, qdr_54, qdr_55, h5, e1]
  | succ d ih =>
    intro l I m h1 h2 h3 hG hT h5 hF
    obtain ⟨m, rfl⟩ : ∃ m', m = m' + 1 := ⟨m - 1, by omega⟩
    have hdl : d < th.length := by omega
    have hd : th.drop d = th[d] :: l := by rw [h3, List.getElem_cons_drop]
    obtain ⟨t, htt⟩ : ∃ t, t = th[d] := ⟨_, rfl⟩
    rw [← htt] at hd
    have htm : t ∈ th := by rw [htt]; exact List.getElem_mem hdl
    obtain ⟨t1, t2, t3, t4⟩ := ht t htm
    have hTd := qAll_drop d hT
    rw [hd] at hTd
    obtain ⟨⟨m1, m2, m3, m4, m5⟩, hTl⟩ := hTd
    have hf := qF_len G l
    have hmW : ∀ x ∈ qW G l, x.1 < 300 ∧ x.2 < 10 ∧ I 21 x.1 = qn x.2 := by
      intro x hx
      obtain ⟨n1, n2, t', n3, n4⟩ := qW_mem G l x hx
      refine ⟨by omega, n2, ?_⟩
      rw [← n4]; exact (qAll_rev hTl n3).1
    have hwl : qWF G l := by rw [h3]; exact hwf _
    have hwt : qWF G (t :: l) := by rw [← hd]; exact hwf _
    have hp : t.2.1 = qhd (qPop t.2.1 (qW G l)) := hwt.2.1
    obtain ⟨J, e1, j1, j2⟩ := rForms36 (fX8_forms_9 m) t.2.1 (fun q h => by have := t2 q h; omega) (qn l.length) (qW G l) (qF G l) I 10000 (by omega) (by omega) hmW (qCh_W l hwl hTl) hF
    have hpl := qEnds_len t.2.1 (qW G l) (qF G l)
    have hGJ : qRG G J := qRG_fr hG fun a h1 h2 => j2.1 a (by omega) (by omega) (by omega)
    have hTJ : qTR J th := by
      unfold qTR
      rw [j2.1 21 (by omega) (by omega) (by omega), j2.1 22 (by omega) (by omega) (by omega), j2.1 23 (by omega) (by omega) (by omega), j2.1 24 (by omega) (by omega) (by omega), j2.1 25 (by omega) (by omega) (by omega)]
      exact hT
    have n1 : J 21 l.length = qn t.1 := by rw [j2.1 21 (by omega) (by omega) (by omega)]; exact m1
    have n3 : J 23 l.length = qn t.2.2.1 := by rw [j2.1 23 (by omega) (by omega) (by omega)]; exact m3
    have h5J : J 1 31 = qn th.length := by rw [j2.2 31 (by omega)]; exact h5
    have hstep : fX8_forms_9 (m + 1) 1 (qo (qhd (qW G l))) (qn l.length) (qD I) = fX8_forms_67 (fX8_forms_9 m) 1 (qo (qhd (qPop t.2.1 (qW G l)))) (qn l.length) (qD J) := by
      rw [fX8_forms_9]
      unfold fX8_forms_35
      simp (disch := omega) only [↓qlet, eq_self, qzg_t, qzb_some, ↓reduceIte, not_or, not_false_eq_true, not_true_eq_false, and_true, true_and, and_self, or_false, false_or, true_or, or_true, and_false, false_and, qlit, qneg, qof, qn_add, qn_mul, qn_s, qn_z, qn_d, qn_dz, qm_1, qt_1, qt_0, qb_0, qb_1, qb_01, qb01b, q01_0, q01_1, qo_s, qo_n, qn_c, qn_le, qn_lt, qn_eq, qn_ne_m, qm_ne_n, qm_lt, qm_le, qn_lt_m, qn_le_m, qn_sub, qn_div, qn_mod, qle_t, qle_f, qlt_t, qlt_f, qeq_t, qeq_f, Nat.add_sub_cancel, qD_I, qD_s, qU_s, qU_a, qU_k, qdk_1, qdk_2, qdk_3, qdk_4, qdk_5, qdk_6, qdk_7, qdk_8, qdk_9, qdk_10, qdk_11, qdk_12, qdk_13, qdk_14, qdk_15, qdk_16, qdk_17, qdk_18, qdk_19, qdk_20, qdk_21, qdk_22, qdk_23, qdk_24, qdk_25, qdk_26, qdk_27, qdk_28, qdk_29, qdk_30, qdk_31, qdk_32, qdk_33, qdk_34, qdk_35, qdk_36, qdk_37, qdk_38, qdk_39, qdk_40, qdk_41, qdk_42, qdk_43, qdk_44, qdl_2, qdl_3, qdl_4, qdl_5, qdl_6, qdl_7, qdl_8, qdl_9, qdl_10, qdl_11, qdl_12, qdl_13, qdl_14, qdl_15, qdl_16, qdl_17, qdl_18, qdl_19, qdl_20, qdl_21, qdl_22, qdl_23, qdl_24, qdl_25, qdl_26, qdl_27, qdl_28, qdl_29, qdl_30, qdl_31, qdl_32, qdl_33, qdl_34, qdl_35, qdl_36, qdl_37, qdl_38, qdl_39, qdl_40, qdl_41, qdl_42, qdl_43, qdl_44, qdr_0, qdr_1, qdr_2, qdr_3, qdr_4, qdr_5, qdr_6, qdr_7, qdr_8, qdr_9, qdr_10, qdr_11, qdr_12, qdr_15, qdr_16, qdr_19, qdr_20, qdr_21, qdr_22, qdr_26, qdr_27, qdr_28, qdr_29, qdr_30, qdr_34, qdr_35, qdr_37, qdr_38, qdr_39, qdr_40, qdr_42, qdr_43, qdr_44, qdr_45, qdr_46, qdr_47, qdr_48, qdr_49, qdr_50, qdr_51, qdr_53, qdr_54, qdr_55, h5, m2]
      exact e1
    rw [hstep]
    unfold fX8_forms_67
    by_cases c10 : t.1 = 10
    · obtain ⟨K, e2, k1, k2⟩ := rWrites j1 (by rw [List.length_reverse]; omega) 4 (qn t.2.2.1)
      have eF : qF G (t :: l) = (4, qn t.2.2.1) :: qEnds t.2.1 (qW G l) (qF G l) := by simp only [qF]; rw [if_pos c10]
      have eW : qW G (t :: l) = qPop t.2.1 (qW G l) := by simp only [qW]; rw [if_neg (by omega)]
      have k1 : qFm K (qF G (t :: l)).reverse := by rw [eF, List.reverse_cons]; exact k1
      obtain ⟨L, e3, l1, l2⟩ := ih (t :: l) K m (by omega) (by simp only [List.length_cons]; omega) hd.symm (qRG_fr hGJ fun a h1 h2 => k2.1 a (by omega) (by omega) (by omega)) (by unfold qTR; rw [k2.1 21 (by omega) (by omega) (by omega), k2.1 22 (by omega) (by omega) (by omega), k2.1 23 (by omega) (by omega) (by omega), k2.1 24 (by omega) (by omega) (by omega), k2.1 25 (by omega) (by omega) (by omega)]; exact hTJ) (by rw [k2.2 31 (by omega)]; exact h5J) k1
      refine ⟨L, ?_, l1, qFrF_tr j2 (qFrF_tr k2 l2)⟩
      rw [eW] at e3
      simp only [List.length_cons] at e3
      unfold fX8_forms_139
      simp (disch := omega) only [↓qlet, eq_self, qzg_t, qzb_some, ↓reduceIte, not_or, not_false_eq_true, not_true_eq_false, and_true, true_and, and_self, or_false, false_or, true_or, or_true, and_false, false_and, qlit, qneg, qof, qn_add, qn_mul, qn_s, qn_z, qn_d, qn_dz, qm_1, qt_1, qt_0, qb_0, qb_1, qb_01, qb01b, q01_0, q01_1, qo_s, qo_n, qn_c, qn_le, qn_lt, qn_eq, qn_ne_m, qm_ne_n, qm_lt, qm_le, qn_lt_m, qn_le_m, qn_sub, qn_div, qn_mod, qle_t, qle_f, qlt_t, qlt_f, qeq_t, qeq_f, Nat.add_sub_cancel, qD_I, qD_s, qU_s, qU_a, qU_k, qdk_1, qdk_2, qdk_3, qdk_4, qdk_5, qdk_6, qdk_7, qdk_8, qdk_9, qdk_10, qdk_11, qdk_12, qdk_13, qdk_14, qdk_15, qdk_16, qdk_17, qdk_18, qdk_19, qdk_20, qdk_21, qdk_22, qdk_23, qdk_24, qdk_25, qdk_26, qdk_27, qdk_28, qdk_29, qdk_30, qdk_31, qdk_32, qdk_33, qdk_34, qdk_35, qdk_36, qdk_37, qdk_38, qdk_39, qdk_40, qdk_41, qdk_42, qdk_43, qdk_44, qdl_2, qdl_3, qdl_4, qdl_5, qdl_6, qdl_7, qdl_8, qdl_9, qdl_10, qdl_11, qdl_12, qdl_13, qdl_14, qdl_15, qdl_16, qdl_17, qdl_18, qdl_19, qdl_20, qdl_21, qdl_22, qdl_23, qdl_24, qdl_25, qdl_26, qdl_27, qdl_28, qdl_29, qdl_30, qdl_31, qdl_32, qdl_33, qdl_34, qdl_35, qdl_36, qdl_37, qdl_38, qdl_39, qdl_40, qdl_41, qdl_42, qdl_43, qdl_44, qdr_0, qdr_1, qdr_2, qdr_3, qdr_4, qdr_5, qdr_6, qdr_7, qdr_8, qdr_9, qdr_10, qdr_11, qdr_12, qdr_15, qdr_16, qdr_19, qdr_20, qdr_21, qdr_22, qdr_26, qdr_27, qdr_28, qdr_29, qdr_30, qdr_34, qdr_35, qdr_37, qdr_38, qdr_39, qdr_40, qdr_42, qdr_43, qdr_44, qdr_45, qdr_46, qdr_47, qdr_48, qdr_49, qdr_50, qdr_51, qdr_53, qdr_54, qdr_55, h5J, n1, n3, c10, e2, e3]
    · have he : t.1 < 10 := by omega
      obtain ⟨K, e2, k1, k2⟩ := rWrites j1 (by rw [List.length_reverse]; omega) 0 (qn t.1)
      have eF : qF G (t :: l) = (0, qn t.1) :: qEnds t.2.1 (qW G l) (qF G l) := by simp only [qF]; rw [if_neg c10]
      have k1 : qFm K (qF G (t :: l)).reverse := by rw [eF, List.reverse_cons]; exact k1
      have hGK : qRG G K := qRG_fr hGJ fun a h1 h2 => k2.1 a (by omega) (by omega) (by omega)
      have gn := (hGK t.1 he).1
      have g6 := (hg t.1 he).1
      have n1K : K 21 l.length = qn t.1 := by rw [k2.1 21 (by omega) (by omega) (by omega)]; exact n1
      obtain ⟨L, e3, l1, l2⟩ := ih (t :: l) K m (by omega) (by simp only [List.length_cons]; omega) hd.symm hGK (by unfold qTR; rw [k2.1 21 (by omega) (by omega) (by omega), k2.1 22 (by omega) (by omega) (by omega), k2.1 23 (by omega) (by omega) (by omega), k2.1 24 (by omega) (by omega) (by omega), k2.1 25 (by omega) (by omega) (by omega)]; exact hTJ) (by rw [k2.2 31 (by omega)]; exact h5J) k1
      refine ⟨L, ?_, l1, qFrF_tr j2 (qFrF_tr k2 l2)⟩
      simp only [List.length_cons] at e3
      unfold fX8_forms_100 fX8_forms_138 fX8_forms_139
      by_cases c0 : qgN G t.1 = 0
      · have eW : qW G (t :: l) = qPop t.2.1 (qW G l) := by simp only [qW]; rw [if_neg (by omega)]
        rw [eW] at e3
        simp (disch := omega) only [↓qlet, eq_self, qzg_t, qzb_some, ↓reduceIte, not_or, not_false_eq_true, not_true_eq_false, and_true, true_and, and_self, or_false, false_or, true_or, or_true, and_false, false_and, qlit, qneg, qof, qn_add, qn_mul, qn_s, qn_z, qn_d, qn_dz, qm_1, qt_1, qt_0, qb_0, qb_1, qb_01, qb01b, q01_0, q01_1, qo_s, qo_n, qn_c, qn_le, qn_lt, qn_eq, qn_ne_m, qm_ne_n, qm_lt, qm_le, qn_lt_m, qn_le_m, qn_sub, qn_div, qn_mod, qle_t, qle_f, qlt_t, qlt_f, qeq_t, qeq_f, Nat.add_sub_cancel, qD_I, qD_s, qU_s, qU_a, qU_k, qdk_1, qdk_2, qdk_3, qdk_4, qdk_5, qdk_6, qdk_7, qdk_8, qdk_9, qdk_10, qdk_11, qdk_12, qdk_13, qdk_14, qdk_15, qdk_16, qdk_17, qdk_18, qdk_19, qdk_20, qdk_21, qdk_22, qdk_23, qdk_24, qdk_25, qdk_26, qdk_27, qdk_28, qdk_29, qdk_30, qdk_31, qdk_32, qdk_33, qdk_34, qdk_35, qdk_36, qdk_37, qdk_38, qdk_39, qdk_40, qdk_41, qdk_42, qdk_43, qdk_44, qdl_2, qdl_3, qdl_4, qdl_5, qdl_6, qdl_7, qdl_8, qdl_9, qdl_10, qdl_11, qdl_12, qdl_13, qdl_14, qdl_15, qdl_16, qdl_17, qdl_18, qdl_19, qdl_20, qdl_21, qdl_22, qdl_23, qdl_24, qdl_25, qdl_26, qdl_27, qdl_28, qdl_29, qdl_30, qdl_31, qdl_32, qdl_33, qdl_34, qdl_35, qdl_36, qdl_37, qdl_38, qdl_39, qdl_40, qdl_41, qdl_42, qdl_43, qdl_44, qdr_0, qdr_1, qdr_2, qdr_3, qdr_4, qdr_5, qdr_6, qdr_7, qdr_8, qdr_9, qdr_10, qdr_11, qdr_12, qdr_15, qdr_16, qdr_19, qdr_20, qdr_21, qdr_22, qdr_26, qdr_27, qdr_28, qdr_29, qdr_30, qdr_34, qdr_35, qdr_37, qdr_38, qdr_39, qdr_40, qdr_42, qdr_43, qdr_44, qdr_45, qdr_46, qdr_47, qdr_48, qdr_49, qdr_50, qdr_51, qdr_53, qdr_54, qdr_55, h5J, n1, e2, n1K, gn, c0, e3]
      · have eW : qW G (t :: l) = (l.length, t.1) :: qPop t.2.1 (qW G l) := by simp only [qW]; rw [if_pos ⟨he, c0⟩]
        have hh : qo (qhd (qW G (t :: l))) = qn l.length := by rw [eW]; rfl
        rw [hh] at e3
        simp (disch := omega) only [↓qlet, eq_self, qzg_t, qzb_some, ↓reduceIte, not_or, not_false_eq_true, not_true_eq_false, and_true, true_and, and_self, or_false, false_or, true_or, or_true, and_false, false_and, qlit, qneg, qof, qn_add, qn_mul, qn_s, qn_z, qn_d, qn_dz, qm_1, qt_1, qt_0, qb_0, qb_1, qb_01, qb01b, q01_0, q01_1, qo_s, qo_n, qn_c, qn_le, qn_lt, qn_eq, qn_ne_m, qm_ne_n, qm_lt, qm_le, qn_lt_m, qn_le_m, qn_sub, qn_div, qn_mod, qle_t, qle_f, qlt_t, qlt_f, qeq_t, qeq_f, Nat.add_sub_cancel, qD_I, qD_s, qU_s, qU_a, qU_k, qdk_1, qdk_2, qdk_3, qdk_4, qdk_5, qdk_6, qdk_7, qdk_8, qdk_9, qdk_10, qdk_11, qdk_12, qdk_13, qdk_14, qdk_15, qdk_16, qdk_17, qdk_18, qdk_19, qdk_20, qdk_21, qdk_22, qdk_23, qdk_24, qdk_25, qdk_26, qdk_27, qdk_28, qdk_29, qdk_30, qdk_31, qdk_32, qdk_33, qdk_34, qdk_35, qdk_36, qdk_37, qdk_38, qdk_39, qdk_40, qdk_41, qdk_42, qdk_43, qdk_44, qdl_2, qdl_3, qdl_4, qdl_5, qdl_6, qdl_7, qdl_8, qdl_9, qdl_10, qdl_11, qdl_12, qdl_13, qdl_14, qdl_15, qdl_16, qdl_17, qdl_18, qdl_19, qdl_20, qdl_21, qdl_22, qdl_23, qdl_24, qdl_25, qdl_26, qdl_27, qdl_28, qdl_29, qdl_30, qdl_31, qdl_32, qdl_33, qdl_34, qdl_35, qdl_36, qdl_37, qdl_38, qdl_39, qdl_40, qdl_41, qdl_42, qdl_43, qdl_44, qdr_0, qdr_1, qdr_2, qdr_3, qdr_4, qdr_5, qdr_6, qdr_7, qdr_8, qdr_9, qdr_10, qdr_11, qdr_12, qdr_15, qdr_16, qdr_19, qdr_20, qdr_21, qdr_22, qdr_26, qdr_27, qdr_28, qdr_29, qdr_30, qdr_34, qdr_35, qdr_37, qdr_38, qdr_39, qdr_40, qdr_42, qdr_43, qdr_44, qdr_45, qdr_46, qdr_47, qdr_48, qdr_49, qdr_50, qdr_51, qdr_53, qdr_54, qdr_55, h5J, n1, e2, n1K, gn, e3]
theorem qFm_fr {J : Nat → Nat → Int32} {F : List qK} (h : qFm I F) (h1 : J 1 52 = I 1 52) (h2 : J 40 = I 40) (h3 : J 41 = I 41) : qFm J F := by
  unfold qFm
  rw [h1, h2, h3]
  exact h
theorem rForms (hA : qRA I A) : ∃ J, fX8_forms 1 (qD I) = some (qn 0, qD J) ∧ qFm J (qForm A.1 (qFA A).1.2.2.1) ∧ qFrF I J ∧ qRA J A := by
  have hA0 := hA
  obtain ⟨⟨hg, hEk, hn, hk⟩, hG, hE, hT, hV, hX, h14, h18⟩ := hA
  obtain ⟨f1, f2, f3, f4, f5⟩ := qFull_ok (G := A.1) hEk hk (by omega)
  obtain ⟨o1, o2, o3, o4, o5⟩ := qAok_X hA0.1
  obtain ⟨J, j1, j2, j3⟩ := rForm_9 hg o3 o4 (fun k => qWF_drop k f2.1) (qFA A).1.2.2.1.length [] (qU I 1 52 (qn 0)) 10000 (by omega) (by simp) (by simp) (qRG_fr hG fun a h1 h2 => qU_r (by omega)) (by unfold qTR; simp (disch := omega) only [qU_r]; exact hV.2.1) (by rw [qU_k (by omega)]; exact hV.1) ⟨by rw [qU_s]; rfl, fun i k h => by simp [qF] at h⟩
  have hF : qFrF I J := ⟨fun a h1 h2 h3 => by rw [j3.1 a h1 h2 h3, qU_r h1], fun k hk => by rw [j3.2 k hk, qU_k hk]⟩
  refine ⟨J, ?_, j2, hF, qRA_fr hA0 (fun k hk => hF.2 k (by omega)) fun a h1 h2 => hF.1 a (by omega) (by omega) (by omega)⟩
  have j1 : fX8_forms_9 10000 1 qm (qn 0) (qD (qU I 1 52 (qn 0))) = some (qn 0, qD J) := j1
  unfold fX8_forms
  simp (disch := omega) only [↓qlet, eq_self, qzg_t, qzb_some, ↓reduceIte, not_or, not_false_eq_true, not_true_eq_false, and_true, true_and, and_self, or_false, false_or, true_or, or_true, and_false, false_and, qlit, qneg, qof, qn_add, qn_mul, qn_s, qn_z, qn_d, qn_dz, qm_1, qt_1, qt_0, qb_0, qb_1, qb_01, qb01b, q01_0, q01_1, qo_s, qo_n, qn_c, qn_le, qn_lt, qn_eq, qn_ne_m, qm_ne_n, qm_lt, qm_le, qn_lt_m, qn_le_m, qn_sub, qn_div, qn_mod, qle_t, qle_f, qlt_t, qlt_f, qeq_t, qeq_f, Nat.add_sub_cancel, qD_I, qD_s, qU_s, qU_a, qU_k, qdk_1, qdk_2, qdk_3, qdk_4, qdk_5, qdk_6, qdk_7, qdk_8, qdk_9, qdk_10, qdk_11, qdk_12, qdk_13, qdk_14, qdk_15, qdk_16, qdk_17, qdk_18, qdk_19, qdk_20, qdk_21, qdk_22, qdk_23, qdk_24, qdk_25, qdk_26, qdk_27, qdk_28, qdk_29, qdk_30, qdk_31, qdk_32, qdk_33, qdk_34, qdk_35, qdk_36, qdk_37, qdk_38, qdk_39, qdk_40, qdk_41, qdk_42, qdk_43, qdk_44, qdl_2, qdl_3, qdl_4, qdl_5, qdl_6, qdl_7, qdl_8, qdl_9, qdl_10, qdl_11, qdl_12, qdl_13, qdl_14, qdl_15, qdl_16, qdl_17, qdl_18, qdl_19, qdl_20, qdl_21, qdl_22, qdl_23, qdl_24, qdl_25, qdl_26, qdl_27, qdl_28, qdl_29, qdl_30, qdl_31, qdl_32, qdl_33, qdl_34, qdl_35, qdl_36, qdl_37, qdl_38, qdl_39, qdl_40, qdl_41, qdl_42, qdl_43, qdl_44, qdr_0, qdr_1, qdr_2, qdr_3, qdr_4, qdr_5, qdr_6, qdr_7, qdr_8, qdr_9, qdr_10, qdr_11, qdr_12, qdr_15, qdr_16, qdr_19, qdr_20, qdr_21, qdr_22, qdr_26, qdr_27, qdr_28, qdr_29, qdr_30, qdr_34, qdr_35, qdr_37, qdr_38, qdr_39, qdr_40, qdr_42, qdr_43, qdr_44, qdr_45, qdr_46, qdr_47, qdr_48, qdr_49, qdr_50, qdr_51, qdr_53, qdr_54, qdr_55, j1]
end
