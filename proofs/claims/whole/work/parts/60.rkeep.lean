/-! THE REFERENCE: states kept, the row of the text -/
theorem qAll_of_rev {α : Type} {P : Nat → α → Prop} : ∀ {l : List α}, (∀ j x, l.reverse[j]? = some x → P j x) → qAll P l := by
  intro l
  induction l with
  | nil => intro _; exact True.intro
  | cons a l ih =>
    intro h
    refine ⟨h _ _ ?_, ih fun j x hj => h j x ?_⟩
    · rw [List.reverse_cons, List.getElem?_append_right (by simp)]; simp
    · have hl := (List.getElem?_eq_some_iff.mp hj).1
      rw [List.reverse_cons, List.getElem?_append_left hl]; exact hj
def qCd (x : Nat × Nat) : Int32 := qn (16 * x.1 + x.2)
def qRX (I : Nat → Nat → Int32) (X : List (qZ × Nat)) : Prop := qAll (fun j x => I 32 j = qn x.1.1.length ∧ I 34 j = qo x.1.2 ∧ I 35 j = qn x.2 ∧ qAll (fun k y => I 33 (20 * j + k) = qCd y) x.1.1) X
section
variable {I : Nat → Nat → Int32} {G : qG} {V : qV} {p B i : Nat} {ks : List qK} {sw : Nat → Nat} {en : Nat → List qK} {ent : Nat → Nat → qV → qV} {c : Nat}
theorem rKeep55 (hg : qGok G) {Z : qZ} {u : Nat} (hz : qZok G Z) (hu : u ≤ 60) : ∀ n k I m, n + k = Z.1.length → n < m → qRZ I Z → ∃ J, fX8_keepsState_55 m 1 (qn u) (qn k) (qD I) = some (qn 0, qD J) ∧ (∀ a, a ≠ 33 → J a = I a) ∧ (∀ j, j < 20 * u + k ∨ 20 * u + 20 ≤ j → J 33 j = I 33 j) ∧ ∀ j x, k ≤ j → Z.1.reverse[j]? = some x → J 33 (20 * u + j) = qCd x := by
  intro n
  induction n with
  | zero =>
    intro k I m h1 h2 hZ
    obtain ⟨m, rfl⟩ : ∃ m', m = m' + 1 := ⟨m - 1, by omega⟩
    have hd := hZ.1
    have hz20 := hz.1
    refine ⟨I, ?_, fun _ _ => rfl, fun _ _ => rfl, fun j x h3 h4 => ?_⟩
    · rw [fX8_keepsState_55]
      simp (disch := omega) only [↓qlet, eq_self, qzg_t, qzb_some, ↓reduceIte, not_or, not_false_eq_true, not_true_eq_false, and_true, true_and, and_self, or_false, false_or, true_or, or_true, and_false, false_and, qlit, qneg, qof, qn_add, qn_mul, qn_s, qn_z, qn_d, qn_dz, qm_1, qt_1, qt_0, qb_0, qb_1, qb_01, qb01b, q01_0, q01_1, qo_s, qo_n, qn_c, qn_le, qn_lt, qn_eq, qn_ne_m, qm_ne_n, qm_lt, qm_le, qn_lt_m, qn_le_m, qn_sub, qn_div, qn_mod, qle_t, qle_f, qlt_t, qlt_f, qeq_t, qeq_f, Nat.add_sub_cancel, qD_I, qD_s, qU_s, qU_a, qU_k, qdk_1, qdk_2, qdk_3, qdk_4, qdk_5, qdk_6, qdk_7, qdk_8, qdk_9, qdk_10, qdk_11, qdk_12, qdk_13, qdk_14, qdk_15, qdk_16, qdk_17, qdk_18, qdk_19, qdk_20, qdk_21, qdk_22, qdk_23, qdk_24, qdk_25, qdk_26, qdk_27, qdk_28, qdk_29, qdk_30, qdk_31, qdk_32, qdk_33, qdk_34, qdk_35, qdk_36, qdk_37, qdk_38, qdk_39, qdk_40, qdk_41, qdk_42, qdk_43, qdk_44, qdl_2, qdl_3, qdl_4, qdl_5, qdl_6, qdl_7, qdl_8, qdl_9, qdl_10, qdl_11, qdl_12, qdl_13, qdl_14, qdl_15, qdl_16, qdl_17, qdl_18, qdl_19, qdl_20, qdl_21, qdl_22, qdl_23, qdl_24, qdl_25, qdl_26, qdl_27, qdl_28, qdl_29, qdl_30, qdl_31, qdl_32, qdl_33, qdl_34, qdl_35, qdl_36, qdl_37, qdl_38, qdl_39, qdl_40, qdl_41, qdl_42, qdl_43, qdl_44, qdr_0, qdr_1, qdr_2, qdr_3, qdr_4, qdr_5, qdr_6, qdr_7, qdr_8, qdr_9, qdr_10, qdr_11, qdr_12, qdr_15, qdr_16, qdr_19, qdr_20, qdr_21, qdr_22, qdr_26, qdr_27, qdr_28, qdr_29, qdr_30, qdr_34, qdr_35, qdr_37, qdr_38, qdr_39, qdr_40, qdr_42, qdr_43, qdr_44, qdr_45, qdr_46, qdr_47, qdr_48, qdr_49, qdr_50, qdr_51, qdr_53, qdr_54, qdr_55, hd]
    · have := (List.getElem?_eq_some_iff.mp h4).1
      rw [List.length_reverse] at this
      omega
  | succ n ih =>
    intro k I m h1 h2 hZ
    obtain ⟨m, rfl⟩ : ∃ m', m = m' + 1 := ⟨m - 1, by omega⟩
    have hz20 := hz.1
    have hd := hZ.1
    obtain ⟨x, x1, x2, x3, x4, x5⟩ := qAll_at hZ.2.2.2 (k := k) (by omega)
    have hx := hz.2.1 x x1
    have hgx : Z.1.reverse[k]? = some x := by
      have : (Z.1.reverse.drop k)[0]? = some x := by rw [x2]; rfl
      rwa [List.getElem?_drop, Nat.add_zero] at this
    obtain ⟨J, j1, j2, j3, j4⟩ := ih (k + 1) (qU I 33 (20 * u + k) (qCd x)) m (by omega) (by omega) (qRZ_fr hZ (by rw [qU_r (by omega)]) (by rw [qU_r (by omega)]) (by rw [qU_r (by omega)]) (by rw [qU_r (by omega)]) (by rw [qU_r (by omega)]) (by rw [qU_r (by omega)]))
    refine ⟨J, ?_, fun a ha => by rw [j2 a ha, qU_r ha], fun j hj => by rw [j3 j (by omega), qU_k (by omega)], fun j y h3 h4 => ?_⟩
    · have hb : x.2 % 2 = 0 ∨ x.2 % 2 = 1 := by omega
      have hx2 : x.2 < 1000 := by have := (hg x.1 hx.1).1; omega
      have e0 : x.2 % 2 = 0 → 16 * x.1 + 2 * (x.2 / 2) + 0 = 16 * x.1 + x.2 := by omega
      have e1 : x.2 % 2 = 1 → 16 * x.1 + 2 * (x.2 / 2) + 1 = 16 * x.1 + x.2 := by omega
      rw [fX8_keepsState_55]
      rcases hb with hb | hb
      · have x5 : I 19 k = qn 0 := by rw [x5, hb]; rfl
        unfold fX8_keepsState_105
        simp (disch := omega) only [↓qlet, eq_self, qzg_t, qzb_some, ↓reduceIte, not_or, not_false_eq_true, not_true_eq_false, and_true, true_and, and_self, or_false, false_or, true_or, or_true, and_false, false_and, qlit, qneg, qof, qn_add, qn_mul, qn_s, qn_z, qn_d, qn_dz, qm_1, qt_1, qt_0, qb_0, qb_1, qb_01, qb01b, q01_0, q01_1, qo_s, qo_n, qn_c, qn_le, qn_lt, qn_eq, qn_ne_m, qm_ne_n, qm_lt, qm_le, qn_lt_m, qn_le_m, qn_sub, qn_div, qn_mod, qle_t, qle_f, qlt_t, qlt_f, qeq_t, qeq_f, Nat.add_sub_cancel, qD_I, qD_s, qU_s, qU_a, qU_k, qdk_1, qdk_2, qdk_3, qdk_4, qdk_5, qdk_6, qdk_7, qdk_8, qdk_9, qdk_10, qdk_11, qdk_12, qdk_13, qdk_14, qdk_15, qdk_16, qdk_17, qdk_18, qdk_19, qdk_20, qdk_21, qdk_22, qdk_23, qdk_24, qdk_25, qdk_26, qdk_27, qdk_28, qdk_29, qdk_30, qdk_31, qdk_32, qdk_33, qdk_34, qdk_35, qdk_36, qdk_37, qdk_38, qdk_39, qdk_40, qdk_41, qdk_42, qdk_43, qdk_44, qdl_2, qdl_3, qdl_4, qdl_5, qdl_6, qdl_7, qdl_8, qdl_9, qdl_10, qdl_11, qdl_12, qdl_13, qdl_14, qdl_15, qdl_16, qdl_17, qdl_18, qdl_19, qdl_20, qdl_21, qdl_22, qdl_23, qdl_24, qdl_25, qdl_26, qdl_27, qdl_28, qdl_29, qdl_30, qdl_31, qdl_32, qdl_33, qdl_34, qdl_35, qdl_36, qdl_37, qdl_38, qdl_39, qdl_40, qdl_41, qdl_42, qdl_43, qdl_44, qdr_0, qdr_1, qdr_2, qdr_3, qdr_4, qdr_5, qdr_6, qdr_7, qdr_8, qdr_9, qdr_10, qdr_11, qdr_12, qdr_15, qdr_16, qdr_19, qdr_20, qdr_21, qdr_22, qdr_26, qdr_27, qdr_28, qdr_29, qdr_30, qdr_34, qdr_35, qdr_37, qdr_38, qdr_39, qdr_40, qdr_42, qdr_43, qdr_44, qdr_45, qdr_46, qdr_47, qdr_48, qdr_49, qdr_50, qdr_51, qdr_53, qdr_54, qdr_55, hd, x3, x4, x5, e0 hb]
        exact j1
      · have x5 : I 19 k = qn 1 := by rw [x5, hb]; rfl
        unfold fX8_keepsState_105
        simp (disch := omega) only [↓qlet, eq_self, qzg_t, qzb_some, ↓reduceIte, not_or, not_false_eq_true, not_true_eq_false, and_true, true_and, and_self, or_false, false_or, true_or, or_true, and_false, false_and, qlit, qneg, qof, qn_add, qn_mul, qn_s, qn_z, qn_d, qn_dz, qm_1, qt_1, qt_0, qb_0, qb_1, qb_01, qb01b, q01_0, q01_1, qo_s, qo_n, qn_c, qn_le, qn_lt, qn_eq, qn_ne_m, qm_ne_n, qm_lt, qm_le, qn_lt_m, qn_le_m, qn_sub, qn_div, qn_mod, qle_t, qle_f, qlt_t, qlt_f, qeq_t, qeq_f, Nat.add_sub_cancel, qD_I, qD_s, qU_s, qU_a, qU_k, qdk_1, qdk_2, qdk_3, qdk_4, qdk_5, qdk_6, qdk_7, qdk_8, qdk_9, qdk_10, qdk_11, qdk_12, qdk_13, qdk_14, qdk_15, qdk_16, qdk_17, qdk_18, qdk_19, qdk_20, qdk_21, qdk_22, qdk_23, qdk_24, qdk_25, qdk_26, qdk_27, qdk_28, qdk_29, qdk_30, qdk_31, qdk_32, qdk_33, qdk_34, qdk_35, qdk_36, qdk_37, qdk_38, qdk_39, qdk_40, qdk_41, qdk_42, qdk_43, qdk_44, qdl_2, qdl_3, qdl_4, qdl_5, qdl_6, qdl_7, qdl_8, qdl_9, qdl_10, qdl_11, qdl_12, qdl_13, qdl_14, qdl_15, qdl_16, qdl_17, qdl_18, qdl_19, qdl_20, qdl_21, qdl_22, qdl_23, qdl_24, qdl_25, qdl_26, qdl_27, qdl_28, qdl_29, qdl_30, qdl_31, qdl_32, qdl_33, qdl_34, qdl_35, qdl_36, qdl_37, qdl_38, qdl_39, qdl_40, qdl_41, qdl_42, qdl_43, qdl_44, qdr_0, qdr_1, qdr_2, qdr_3, qdr_4, qdr_5, qdr_6, qdr_7, qdr_8, qdr_9, qdr_10, qdr_11, qdr_12, qdr_15, qdr_16, qdr_19, qdr_20, qdr_21, qdr_22, qdr_26, qdr_27, qdr_28, qdr_29, qdr_30, qdr_34, qdr_35, qdr_37, qdr_38, qdr_39, qdr_40, qdr_42, qdr_43, qdr_44, qdr_45, qdr_46, qdr_47, qdr_48, qdr_49, qdr_50, qdr_51, qdr_53, qdr_54, qdr_55, hd, x3, x4, x5, e1 hb]
        exact j1
    · by_cases cj : j = k
      · subst cj
        rw [hgx] at h4
        cases h4
        rw [j3 _ (by omega), qU_s]
      · exact j4 j y (by omega) h4
/-- frames of a row of the text -/
def qFrZ (K : Bool) (I J : Nat → Nat → Int32) : Prop := (∀ a, a ≠ 1 → (a ≤ 16 ∨ 36 ≤ a) → J a = I a) ∧ (K = false → ∀ a, 32 ≤ a → a ≤ 35 → J a = I a) ∧ ∀ k, k ≠ 23 → k ≠ 24 → k ≠ 25 → k ≠ 31 → k ≠ 32 → k ≠ 33 → k ≠ 36 → k ≠ 41 → J 1 k = I 1 k
theorem qFrZ_refl (K : Bool) (I : Nat → Nat → Int32) : qFrZ K I I := ⟨fun _ _ _ => rfl, fun _ _ _ _ => rfl, fun _ _ _ _ _ _ _ _ _ => rfl⟩
theorem qFrZ_tr {K : Bool} {I J L : Nat → Nat → Int32} (h : qFrZ K I J) (k : qFrZ K J L) : qFrZ K I L := ⟨fun a h1 h2 => by rw [k.1 a h1 h2, h.1 a h1 h2], fun hK a h1 h2 => by rw [k.2.1 hK a h1 h2, h.2.1 hK a h1 h2], fun x h1 h2 h3 h4 h5 h6 h7 h8 => by rw [k.2.2 x h1 h2 h3 h4 h5 h6 h7 h8, h.2.2 x h1 h2 h3 h4 h5 h6 h7 h8]⟩
theorem qFrZ_L {K : Bool} {I J : Nat → Nat → Int32} (h : qFrL 0 I J) : qFrZ K I J := ⟨fun a h1 h2 => h.1 a h1 (by omega), fun _ a h1 h2 => h.1 a (by omega) (by omega), h.2.1⟩
theorem qFrZ_G {K : Bool} {J : Nat → Nat → Int32} (h : qFrZ K I J) (k : qRG G I) : qRG G J := qRG_fr k fun a h1 h2 => h.1 a (by omega) (by omega)
theorem qFrZ_E {K : Bool} {J : Nat → Nat → Int32} (h : qFrZ K I J) (k : qREn sw en I) : qREn sw en J := qREn_fr k fun a h1 h2 => h.1 a (by omega) (by omega)
theorem qFrZ_k {K : Bool} {J : Nat → Nat → Int32} (h : qFrZ K I J) (k : qRk I 0 ks) : qRk J 0 ks := by
  unfold qRk at k ⊢
  rw [if_pos rfl] at k ⊢
  rw [h.2.2 17 (by omega) (by omega) (by omega) (by omega) (by omega) (by omega) (by omega) (by omega), h.1 15 (by omega) (by omega), h.1 16 (by omega) (by omega)]
  exact k
theorem qRX_fr {J : Nat → Nat → Int32} {X : List (qZ × Nat)} (h : qRX I X) (hl : ∀ x ∈ X, x.1.1.length ≤ 20) (h1 : ∀ j, j < X.length → J 32 j = I 32 j ∧ J 34 j = I 34 j ∧ J 35 j = I 35 j) (h2 : ∀ j, j < 20 * X.length → J 33 j = I 33 j) : qRX J X := by
  refine qAll_mono h fun j x hj hx hp => ?_
  obtain ⟨a1, a2, a3, a4⟩ := hp
  obtain ⟨b1, b2, b3⟩ := h1 j hj
  have := hl x hx
  exact ⟨by rw [b1]; exact a1, by rw [b2]; exact a2, by rw [b3]; exact a3, qAll_mono a4 fun k y hk _ hp => by rw [h2 _ (by omega)]; exact hp⟩
/-- the state behind a token is kept -/
theorem rKeeps (hg : qGok G) {K : Bool} {Q : qQ} {X : List (qZ × Nat)} (hQ : Q.1 + Q.2.1 ≤ 600) (hz : qZok G Q.2.2.2.1) (hX : K = true → X.length = i ∧ i ≤ 60 ∧ qRX I X ∧ ∀ x ∈ X, x.1.1.length ≤ 20) (hK : I 1 18 = qb K) (hS : qRst 0 i i Q I) : ∃ J, (∀ k58 : Nat → zM → Option (Int32 × zM), fX8_readsRow_154 k58 1 (qD I) = k58 1 (qD J)) ∧ qRst 0 i i Q J ∧ (K = true → qRX J ((Q.2.2.2.1, Q.1 + Q.2.1) :: X)) ∧ qFrZ K I J := by
  cases K with
  | false => exact ⟨I, fun k58 => rKeepsNo k58 (Or.inl (by rw [hK]; rfl)), hS, fun h => (by cases h), qFrZ_refl _ _⟩
  | true =>
    obtain ⟨x1, x2, x3, x4⟩ := hX rfl
    obtain ⟨s1, s2, s3, s4⟩ := hS
    have hz20 := hz.1
    have hd := s4.1.1
    have h24 := s4.1.2.1
    have h30 := s3.1
    have hK : I 1 18 = qn 1 := hK
    obtain ⟨J, j1, j2, j3, j4⟩ := rKeep55 hg (u := i) hz x2 Q.2.2.2.1.1.length 0 (qU (qU (qU I 32 i (qn Q.2.2.2.1.1.length)) 34 i (qo Q.2.2.2.1.2)) 35 i (qn (Q.1 + Q.2.1))) 10000 (by omega) (by omega) (qRZ_fr s4.1 (by simp (disch := omega) only [qU_r]) (by simp (disch := omega) only [qU_r]) (by simp (disch := omega) only [qU_r]) (by simp (disch := omega) only [qU_r]) (by simp (disch := omega) only [qU_r]) (by simp (disch := omega) only [qU_r]))
    have jr : ∀ a, a ≠ 32 → a ≠ 33 → a ≠ 34 → a ≠ 35 → J a = I a := fun a h1 h2 h3 h4 => by rw [j2 a h2]; simp (disch := omega) only [qU_r]
    refine ⟨J, ?_, ⟨by rw [jr 1 (by omega) (by omega) (by omega) (by omega)]; exact s1, by rw [jr 29 (by omega) (by omega) (by omega) (by omega)]; exact s2, qRm_fr s3 (jr 30 (by omega) (by omega) (by omega) (by omega)) (jr 31 (by omega) (by omega) (by omega) (by omega)), qRV_fr s4 (fun k _ => by rw [jr 1 (by omega) (by omega) (by omega) (by omega)]) (fun a h1 h2 => jr a (by omega) (by omega) (by omega) (by omega)) (by rw [jr 29 (by omega) (by omega) (by omega) (by omega)]; exact s2)⟩, fun _ => ⟨⟨?_, ?_, ?_, qAll_of_rev fun j x hj => ?_⟩, qRX_fr x3 x4 (fun j hj => ⟨?_, ?_, ?_⟩) fun j hj => ?_⟩, ⟨fun a h1 h2 => jr a (by omega) (by omega) (by omega) (by omega), fun h => (by cases h), fun k _ _ _ _ _ _ _ _ => by rw [jr 1 (by omega) (by omega) (by omega) (by omega)]⟩⟩
    · intro k58
      have h1 : fX8_keepsState 1 (qD I) = some (qn 0, qD J) := by
        unfold fX8_keepsState
        simp (disch := omega) only [↓qlet, eq_self, qzg_t, qzb_some, ↓reduceIte, not_or, not_false_eq_true, not_true_eq_false, and_true, true_and, and_self, or_false, false_or, true_or, or_true, and_false, false_and, qlit, qneg, qof, qn_add, qn_mul, qn_s, qn_z, qn_d, qn_dz, qm_1, qt_1, qt_0, qb_0, qb_1, qb_01, qb01b, q01_0, q01_1, qo_s, qo_n, qn_c, qn_le, qn_lt, qn_eq, qn_ne_m, qm_ne_n, qm_lt, qm_le, qn_lt_m, qn_le_m, qn_sub, qn_div, qn_mod, qle_t, qle_f, qlt_t, qlt_f, qeq_t, qeq_f, Nat.add_sub_cancel, qD_I, qD_s, qU_s, qU_a, qU_k, qdk_1, qdk_2, qdk_3, qdk_4, qdk_5, qdk_6, qdk_7, qdk_8, qdk_9, qdk_10, qdk_11, qdk_12, qdk_13, qdk_14, qdk_15, qdk_16, qdk_17, qdk_18, qdk_19, qdk_20, qdk_21, qdk_22, qdk_23, qdk_24, qdk_25, qdk_26, qdk_27, qdk_28, qdk_29, qdk_30, qdk_31, qdk_32, qdk_33, qdk_34, qdk_35, qdk_36, qdk_37, qdk_38, qdk_39, qdk_40, qdk_41, qdk_42, qdk_43, qdk_44, qdl_2, qdl_3, qdl_4, qdl_5, qdl_6, qdl_7, qdl_8, qdl_9, qdl_10, qdl_11, qdl_12, qdl_13, qdl_14, qdl_15, qdl_16, qdl_17, qdl_18, qdl_19, qdl_20, qdl_21, qdl_22, qdl_23, qdl_24, qdl_25, qdl_26, qdl_27, qdl_28, qdl_29, qdl_30, qdl_31, qdl_32, qdl_33, qdl_34, qdl_35, qdl_36, qdl_37, qdl_38, qdl_39, qdl_40, qdl_41, qdl_42, qdl_43, qdl_44, qdr_0, qdr_1, qdr_2, qdr_3, qdr_4, qdr_5, qdr_6, qdr_7, qdr_8, qdr_9, qdr_10, qdr_11, qdr_12, qdr_15, qdr_16, qdr_19, qdr_20, qdr_21, qdr_22, qdr_26, qdr_27, qdr_28, qdr_29, qdr_30, qdr_34, qdr_35, qdr_37, qdr_38, qdr_39, qdr_40, qdr_42, qdr_43, qdr_44, qdr_45, qdr_46, qdr_47, qdr_48, qdr_49, qdr_50, qdr_51, qdr_53, qdr_54, qdr_55, hK, s1, s2, hd, h24, h30]
        exact j1
      unfold fX8_readsRow_154
      rw [qzg_i (qdk_1 _), h1, qzb_some]
    · show J 32 X.length = _
      rw [j2 32 (by omega), x1]; simp (disch := omega) only [qU_s, qU_a, qU_k]
    · show J 34 X.length = _
      rw [j2 34 (by omega), x1]; simp (disch := omega) only [qU_s, qU_a, qU_k]
    · show J 35 X.length = _
      rw [j2 35 (by omega), x1]; simp (disch := omega) only [qU_s, qU_a, qU_k]
    · rw [x1]
      exact j4 j x (by omega) hj
    · rw [j2 32 (by omega)]; simp (disch := omega) only [qU_s, qU_a, qU_k]
    · rw [j2 34 (by omega)]; simp (disch := omega) only [qU_s, qU_a, qU_k]
    · rw [j2 35 (by omega)]; simp (disch := omega) only [qU_s, qU_a, qU_k]
    · rw [j3 j (by omega)]; simp (disch := omega) only [qU_r]
end
