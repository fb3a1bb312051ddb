/-! THE REFERENCE: a way is tried -/
def qTgk (t : Nat) : qK := (t / 10, qn (t % 10))
def qIf (a : Option (Nat × Nat)) (i : Nat) : List qK := match a with
  | none => []
  | some x => if x.1 = i then [qTgk x.2] else []
def qBld (a b : Option (Nat × Nat)) : Nat → List qK → List qK
  | i, [] => qIf a i ++ qIf b i
  | i, k :: l => qIf a i ++ (qIf b i ++ k :: qBld a b (i + 1) l)
def qa1 : Option (Nat × Nat) → Int32
  | none => qn 0
  | some x => qn x.1
def qa2 : Option (Nat × Nat) → Int32
  | none => qm
  | some x => qn x.2
def qFrA (I J : Nat → Nat → Int32) : Prop := (∀ a, a ≠ 1 → a ≠ 15 → a ≠ 16 → J a = I a) ∧ ∀ k, k ≠ 17 → J 1 k = I 1 k
theorem qFrA_tr {I J K : Nat → Nat → Int32} (h : qFrA I J) (k : qFrA J K) : qFrA I K := ⟨fun a h1 h2 h3 => by rw [k.1 a h1 h2 h3, h.1 a h1 h2 h3], fun x h1 => by rw [k.2 x h1, h.2 x h1]⟩
theorem qFrA_refl (I : Nat → Nat → Int32) : qFrA I I := ⟨fun _ _ _ _ => rfl, fun _ _ => rfl⟩
section
variable {I : Nat → Nat → Int32} {A : qA} {G : qG} {sw : Nat → Nat} {en : Nat → List qK} {ks : List qK} {a b : Option (Nat × Nat)}
theorem rAdds {P : List qK} (h : qRk I 0 P) (hP : P.length < 620) (s : Nat) (v : Int32) : ∃ J, fX8_adds 1 (qn s) v (qD I) = some (qn 0, qD J) ∧ qRk J 0 (P ++ [(s, v)]) ∧ qFrA I J := by
  unfold qRk at h
  rw [if_pos rfl] at h
  obtain ⟨h1, h2⟩ := h
  refine ⟨qU (qU (qU I 15 P.length (qn s)) 16 P.length v) 1 17 (qn (P.length + 1)), ?_, ?_, fun a h1 h2 h3 => ?_, fun k hk => ?_⟩
  · unfold fX8_adds
    simp (disch := omega) only [↓qlet, eq_self, qzg_t, qzb_some, ↓reduceIte, not_or, not_false_eq_true, not_true_eq_false, and_true, true_and, and_self, or_false, false_or, true_or, or_true, and_false, false_and, qlit, qneg, qof, qn_add, qn_mul, qn_s, qn_z, qn_d, qn_dz, qm_1, qt_1, qt_0, qb_0, qb_1, qb_01, qb01b, q01_0, q01_1, qo_s, qo_n, qn_c, qn_le, qn_lt, qn_eq, qn_ne_m, qm_ne_n, qm_lt, qm_le, qn_lt_m, qn_le_m, qn_sub, qn_div, qn_mod, qle_t, qle_f, qlt_t, qlt_f, qeq_t, qeq_f, Nat.add_sub_cancel, qD_I, qD_s, qU_s, qU_a, qU_k, qdk_1, qdk_2, qdk_3, qdk_4, qdk_5, qdk_6, qdk_7, qdk_8, qdk_9, qdk_10, qdk_11, qdk_12, qdk_13, qdk_14, qdk_15, qdk_16, qdk_17, qdk_18, qdk_19, qdk_20, qdk_21, qdk_22, qdk_23, qdk_24, qdk_25, qdk_26, qdk_27, qdk_28, qdk_29, qdk_30, qdk_31, qdk_32, qdk_33, qdk_34, qdk_35, qdk_36, qdk_37, qdk_38, qdk_39, qdk_40, qdk_41, qdk_42, qdk_43, qdk_44, qdl_2, qdl_3, qdl_4, qdl_5, qdl_6, qdl_7, qdl_8, qdl_9, qdl_10, qdl_11, qdl_12, qdl_13, qdl_14, qdl_15, qdl_16, qdl_17, qdl_18, qdl_19, qdl_20, qdl_21, qdl_22, qdl_23, qdl_24, qdl_25, qdl_26, qdl_27, qdl_28, qdl_29, qdl_30, qdl_31, qdl_32, qdl_33, qdl_34, qdl_35, qdl_36, qdl_37, qdl_38, qdl_39, qdl_40, qdl_41, qdl_42, qdl_43, qdl_44, qdr_0, qdr_1, qdr_2, qdr_3, qdr_4, qdr_5, qdr_6, qdr_7, qdr_8, qdr_9, qdr_10, qdr_11, qdr_12, qdr_15, qdr_16, qdr_19, qdr_20, qdr_21, qdr_22, qdr_26, qdr_27, qdr_28, qdr_29, qdr_30, qdr_34, qdr_35, qdr_37, qdr_38, qdr_39, qdr_40, qdr_42, qdr_43, qdr_44, qdr_45, qdr_46, qdr_47, qdr_48, qdr_49, qdr_50, qdr_51, qdr_53, qdr_54, qdr_55, h1]
  · unfold qRk
    rw [if_pos rfl]
    refine ⟨by rw [qU_s, List.length_append]; rfl, fun i k hi => ?_⟩
    have hil := (List.getElem?_eq_some_iff.mp hi).1
    rw [List.length_append] at hil
    have hil : i < P.length + 1 := hil
    by_cases c : i = P.length
    · subst c
      rw [List.getElem?_append_right (Nat.le_refl _), Nat.sub_self] at hi
      have hi : some (s, v) = some k := hi
      cases hi
      exact ⟨by simp (disch := omega) only [qU_s, qU_a, qU_k], by simp (disch := omega) only [qU_s, qU_a, qU_k]⟩
    · rw [List.getElem?_append_left (by omega)] at hi
      simp (disch := omega) only [qU_s, qU_a, qU_k]
      exact h2 i k hi
  · simp (disch := omega) only [qU_r]
  · simp (disch := omega) only [qU_s, qU_a, qU_k]
/-- a tag that is put in at its place, or none -/
theorem rPutTag (hab : ∀ x, a = some x → x.1 ≤ 60 ∧ x.2 < 20) {P : List qK} (h : qRk I 0 P) (hP : P.length < 600) {i : Nat} (hi : i ≤ 60) (f : zM → Option (Int32 × zM)) : ∃ J, (if qa2 a = -1 then f (qD I) else if qa1 a = qn i then (zb (fX8_adds 1 (qa2 a / 10) (qa2 a - qa2 a / 10 * 10) (qD I)) fun _ M => f M) else f (qD I)) = f (qD J) ∧ qRk J 0 (P ++ qIf a i) ∧ qFrA I J ∧ (qIf a i).length ≤ 1 := by
  unfold qIf
  cases a with
  | none => exact ⟨I, by rw [if_pos (show qa2 none = -1 from rfl)], by simpa using h, qFrA_refl I, by simp⟩
  | some x =>
    obtain ⟨x1, x2⟩ := hab x rfl
    have e1 : qa1 (some x) = qn x.1 := rfl
    have e2 : qa2 (some x) = qn x.2 := rfl
    have hne : ¬ qn x.2 = -1 := fun h => by have h : qn x.2 = qm := h; rw [qn_ne_m (by omega)] at h; exact h
    rw [e1, e2, if_neg hne]
    dsimp only
    by_cases c : x.1 = i
    · rw [if_pos c, if_pos (by rw [c])]
      obtain ⟨J, j1, j2, j3⟩ := rAdds h (by omega) (x.2 / 10) (qn (x.2 % 10))
      have d1 : qn x.2 / 10 = qn (x.2 / 10) := (qn_div (by omega) (by omega) : qn x.2 / qn 10 = qn (x.2 / 10))
      have d2 : qn x.2 - qn (x.2 / 10) * 10 = qn (x.2 % 10) := by
        rw [show (10 : Int32) = qn 10 from rfl, qn_mul, qn_sub (by omega)]
        congr 1
        omega
      refine ⟨J, ?_, j2, j3, by simp⟩
      rw [d1, d2, j1, qzb_some]
    · rw [if_neg c, if_neg (fun h => c (by rw [qn_eq (by omega) (by omega)] at h; exact h))]
      exact ⟨I, rfl, by simpa using h, qFrA_refl I, by simp⟩
theorem rIsWay_8 (ha : ∀ x, a = some x → x.1 ≤ 60 ∧ x.2 < 20) (hb : ∀ x, b = some x → x.1 ≤ 60 ∧ x.2 < 20) (h60 : ks.length ≤ 60) : ∀ d i P I m, d + i = ks.length → d + 1 < m → P.length ≤ 3 * i → qRT I ks → qRk I 0 P → ∃ J, fX8_isWay_8 m 1 (qa1 a) (qa2 a) (qa1 b) (qa2 b) (qn i) (qD I) = fX8_isWay_99 1 (qD J) ∧ qRk J 0 (P ++ qBld a b i (ks.drop i)) ∧ qFrA I J := by
  intro d
  induction d with
  | zero =>
    intro i P I m h1 h2 h3 hT hP
    obtain ⟨m, rfl⟩ : ∃ m', m = m' + 2 := ⟨m - 2, by omega⟩
    have h13 := hT.1
    obtain ⟨J, j1, j2, j3, j4⟩ := rPutTag ha hP (by omega) (i := i) (by omega) (fX8_isWay_40 (fX8_isWay_8 (m + 1)) 1 (qa1 a) (qa2 a) (qa1 b) (qa2 b) (qn i))
    obtain ⟨K, k1, k2, k3, k4⟩ := rPutTag hb j2 (by rw [List.length_append]; omega) (i := i) (by omega) (fX8_isWay_66 (fX8_isWay_8 (m + 1)) 1 (qa1 a) (qa2 a) (qa1 b) (qa2 b) (qn i))
    have k13 : K 1 13 = qn ks.length := by rw [k3.2 13 (by omega), j3.2 13 (by omega)]; exact h13
    refine ⟨K, ?_, ?_, qFrA_tr j3 k3⟩
    · have e1 : fX8_isWay_8 (m + 2) 1 (qa1 a) (qa2 a) (qa1 b) (qa2 b) (qn i) (qD I) = fX8_isWay_40 (fX8_isWay_8 (m + 1)) 1 (qa1 a) (qa2 a) (qa1 b) (qa2 b) (qn i) (qD J) := by
        rw [fX8_isWay_8, qzg_i (qdk_1 _), qD_I, h13, if_neg (fun h => by rw [qn_lt (by omega) (by omega)] at h; omega)]
        exact j1
      have e2 : fX8_isWay_40 (fX8_isWay_8 (m + 1)) 1 (qa1 a) (qa2 a) (qa1 b) (qa2 b) (qn i) (qD J) = fX8_isWay_66 (fX8_isWay_8 (m + 1)) 1 (qa1 a) (qa2 a) (qa1 b) (qa2 b) (qn i) (qD K) := by
        unfold fX8_isWay_40
        rw [qzg_i (qdk_1 _)]
        exact k1
      have e3 : fX8_isWay_66 (fX8_isWay_8 (m + 1)) 1 (qa1 a) (qa2 a) (qa1 b) (qa2 b) (qn i) (qD K) = fX8_isWay_99 1 (qD K) := by
        unfold fX8_isWay_66 fX8_isWay_93
        rw [qzg_i (qdk_1 _), qD_I, k13, if_pos (by rw [qn_le (by omega) (by omega)]; omega), qlet, show qn i + 1 = qn (i + 1) from qn_add i 1, fX8_isWay_8, qzg_i (qdk_1 _), qD_I, k13, if_pos (by rw [qn_lt (by omega) (by omega)]; omega)]
      rw [e1, e2, e3]
    · rw [List.drop_of_length_le (by omega)]
      unfold qBld
      rw [← List.append_assoc]
      exact k2
  | succ d ih =>
    intro i P I m h1 h2 h3 hT hP
    obtain ⟨m, rfl⟩ : ∃ m', m = m' + 1 := ⟨m - 1, by omega⟩
    have h13 := hT.1
    have hil : i < ks.length := by omega
    obtain ⟨J, j1, j2, j3, j4⟩ := rPutTag ha hP (by omega) (i := i) (by omega) (fX8_isWay_40 (fX8_isWay_8 m) 1 (qa1 a) (qa2 a) (qa1 b) (qa2 b) (qn i))
    obtain ⟨K, k1, k2, k3, k4⟩ := rPutTag hb j2 (by rw [List.length_append]; omega) (i := i) (by omega) (fX8_isWay_66 (fX8_isWay_8 m) 1 (qa1 a) (qa2 a) (qa1 b) (qa2 b) (qn i))
    have hJK := qFrA_tr j3 k3
    have k13 : K 1 13 = qn ks.length := by rw [hJK.2 13 (by omega)]; exact h13
    obtain ⟨t1, t2⟩ := hT.2 i _ (List.getElem?_eq_getElem hil)
    have u1 : K 13 i = qn ks[i].1 := by rw [hJK.1 13 (by omega) (by omega) (by omega)]; exact t1
    have u2 : K 14 i = ks[i].2 := by rw [hJK.1 14 (by omega) (by omega) (by omega)]; exact t2
    obtain ⟨L, l1, l2, l3⟩ := rAdds k2 (by rw [List.length_append, List.length_append]; omega) ks[i].1 ks[i].2
    have hIL := qFrA_tr hJK l3
    have hTL : qRT L ks := qRT_fr hT (hIL.2 13 (by omega)) (hIL.1 13 (by omega) (by omega) (by omega)) (hIL.1 14 (by omega) (by omega) (by omega))
    obtain ⟨R, r1, r2, r3⟩ := ih (i + 1) _ L m (by omega) (by omega) (by simp only [List.length_append, List.length_cons, List.length_nil]; omega) hTL l2
    refine ⟨R, ?_, ?_, qFrA_tr hIL r3⟩
    · have e1 : fX8_isWay_8 (m + 1) 1 (qa1 a) (qa2 a) (qa1 b) (qa2 b) (qn i) (qD I) = fX8_isWay_40 (fX8_isWay_8 m) 1 (qa1 a) (qa2 a) (qa1 b) (qa2 b) (qn i) (qD J) := by
        rw [fX8_isWay_8, qzg_i (qdk_1 _), qD_I, h13, if_neg (fun h => by rw [qn_lt (by omega) (by omega)] at h; omega)]
        exact j1
      have e2 : fX8_isWay_40 (fX8_isWay_8 m) 1 (qa1 a) (qa2 a) (qa1 b) (qa2 b) (qn i) (qD J) = fX8_isWay_66 (fX8_isWay_8 m) 1 (qa1 a) (qa2 a) (qa1 b) (qa2 b) (qn i) (qD K) := by
        unfold fX8_isWay_40
        rw [qzg_i (qdk_1 _)]
        exact k1
      have e3 : fX8_isWay_66 (fX8_isWay_8 m) 1 (qa1 a) (qa2 a) (qa1 b) (qa2 b) (qn i) (qD K) = fX8_isWay_8 m 1 (qa1 a) (qa2 a) (qa1 b) (qa2 b) (qn (i + 1)) (qD L) := by
        unfold fX8_isWay_66 fX8_isWay_93
        simp (disch := omega) only [↓qlet, eq_self, qzg_t, qzb_some, ↓reduceIte, not_or, not_false_eq_true, not_true_eq_false, and_true, true_and, and_self, or_false, false_or, true_or, or_true, and_false, false_and, qlit, qneg, qof, qn_add, qn_mul, qn_s, qn_z, qn_d, qn_dz, qm_1, qt_1, qt_0, qb_0, qb_1, qb_01, qb01b, q01_0, q01_1, qo_s, qo_n, qn_c, qn_le, qn_lt, qn_eq, qn_ne_m, qm_ne_n, qm_lt, qm_le, qn_lt_m, qn_le_m, qn_sub, qn_div, qn_mod, qle_t, qle_f, qlt_t, qlt_f, qeq_t, qeq_f, Nat.add_sub_cancel, qD_I, qD_s, qU_s, qU_a, qU_k, qdk_1, qdk_2, qdk_3, qdk_4, qdk_5, qdk_6, qdk_7, qdk_8, qdk_9, qdk_10, qdk_11, qdk_12, qdk_13, qdk_14, qdk_15, qdk_16, qdk_17, qdk_18, qdk_19, qdk_20, qdk_21, qdk_22, qdk_23, qdk_24, qdk_25, qdk_26, qdk_27, qdk_28, qdk_29, qdk_30, qdk_31, qdk_32, qdk_33, qdk_34, qdk_35, qdk_36, qdk_37, qdk_38, qdk_39, qdk_40, qdk_41, qdk_42, qdk_43, qdk_44, qdl_2, qdl_3, qdl_4, qdl_5, qdl_6, qdl_7, qdl_8, qdl_9, qdl_10, qdl_11, qdl_12, qdl_13, qdl_14, qdl_15, qdl_16, qdl_17, qdl_18, qdl_19, qdl_20, qdl_21, qdl_22, qdl_23, qdl_24, qdl_25, qdl_26, qdl_27, qdl_28, qdl_29, qdl_30, qdl_31, qdl_32, qdl_33, qdl_34, qdl_35, qdl_36, qdl_37, qdl_38, qdl_39, qdl_40, qdl_41, qdl_42, qdl_43, qdl_44, qdr_0, qdr_1, qdr_2, qdr_3, qdr_4, qdr_5, qdr_6, qdr_7, qdr_8, qdr_9, qdr_10, qdr_11, qdr_12, qdr_15, qdr_16, qdr_19, qdr_20, qdr_21, qdr_22, qdr_26, qdr_27, qdr_28, qdr_29, qdr_30, qdr_34, qdr_35, qdr_37, qdr_38, qdr_39, qdr_40, qdr_42, qdr_43, qdr_44, qdr_45, qdr_46, qdr_47, qdr_48, qdr_49, qdr_50, qdr_51, qdr_53, qdr_54, qdr_55, k13, u1, u2, l1]
      rw [e1, e2, e3, r1]
    · rw [List.drop_eq_getElem_cons hil]
      unfold qBld
      have : P ++ (qIf a i ++ (qIf b i ++ ks[i] :: qBld a b (i + 1) (List.drop (i + 1) ks))) = P ++ qIf a i ++ qIf b i ++ [(ks[i].1, ks[i].2)] ++ qBld a b (i + 1) (List.drop (i + 1) ks) := by simp
      rw [this]
      exact r2
end
