/-! THE REFERENCE: empty, except, omit, flip, clear, entity -/
section
variable {I : Nat → Nat → Int32} {A : qA} {G : qG}
theorem rGoes1 (a : Bool) : fX8_goes 1 (qb a) 1 1 (qD I) = some (qb a, qD (qU I 1 56 (qn (qtag a true true)))) := by
  have h := rGoes (I := I) a true true
  rw [Bool.and_true, Bool.and_true] at h
  exact h
theorem rGoes2 (a b : Bool) : fX8_goes 1 (qb a) (qb b) 1 (qD I) = some (qb (a && b), qD (qU I 1 56 (qn (qtag a b true)))) := by
  have h := rGoes (I := I) a b true
  rw [Bool.and_true] at h
  exact h
theorem qRT_56 {x : Int32} {ks : List qK} (h : qRT I ks) : qRT (qU I 1 56 x) ks := qRT_fr h (qU_k (by omega)) (qU_r (by omega)) (qU_r (by omega))
theorem rEmpty (hA : qRA I A) (x : Int32) : qRAns I (qoEmpty A x) (fX8_empty 1 x (qD I)) := by
  have hA0 := hA
  obtain ⟨⟨hg, hEk, hn, hk⟩, hG, hE, hT, hV, hX, h14, h18⟩ := hA
  have h1 : fX8_in x 0 9 (qD I) = some (qb (qin x 10).isSome, qD I) := rIn (hi := 9) (by omega) x _
  unfold fX8_empty qoEmpty
  rw [h1, qzb_some, qzg_i (qdk_1 _), rGoes1, qzb_some]
  cases hx : qin x 10 with
  | none =>
    rw [if_pos (show qb (none : Option Nat).isSome = 0 from rfl)]
    exact rRefuse hA0 rfl
  | some e =>
    obtain ⟨he, rfl⟩ := qin_s (by omega) hx
    have g1 := (hG e he).1
    have h6 := (hg e he).1
    rw [if_neg (show ¬ qb (some e).isSome = 0 from (by decide : ¬ qb true = 0))]
    have hgN := qgNil_ok hg e
    obtain ⟨J0, hJ0⟩ : ∃ J0, J0 = qU (qU I 1 56 (qn 0)) 4 e (qn 0) := ⟨_, rfl⟩
    have hG0 : qRG (qgNil A.1 e) J0 := by
      intro y hy
      obtain ⟨q1, q2, q3, q4, q5, q6⟩ := hG y hy
      have en : qgN (qgNil A.1 e) y = if y = e then 0 else qgN A.1 y := rfl
      rw [hJ0]
      refine ⟨?_, fun k hk => ?_, ?_, ?_, ?_, ?_⟩
      · rw [en]
        by_cases c : y = e
        · subst c; rw [if_pos rfl, qU_s]
        · rw [if_neg c, qU_k c, qU_r (by omega)]; exact q1
      · rw [en] at hk
        have hk2 : k < qgN A.1 y := by
          split at hk
          · omega
          · exact hk
        simp (disch := omega) only [qU_r]
        exact q2 k hk2
      · simp (disch := omega) only [qU_r]; exact q3
      · simp (disch := omega) only [qU_r]; exact q4
      · simp (disch := omega) only [qU_r]; exact q5
      · simp (disch := omega) only [qU_r]; exact q6
    obtain ⟨J, j1, j2, j3, -⟩ := rChange (A' := (qgNil A.1 e, A.2)) ⟨hgN, hEk, hn, hk⟩ hG0 (qREn_fr hE fun a h1 h2 => by rw [hJ0]; simp (disch := omega) only [qU_r]) (qRT_fr hT (by rw [hJ0]; simp (disch := omega) only [qU_s, qU_a, qU_k]) (by rw [hJ0]; simp (disch := omega) only [qU_r]) (by rw [hJ0]; simp (disch := omega) only [qU_r]))
    refine ⟨J, ?_, j2, by rw [j3, hJ0]; simp (disch := omega) only [qU_s, qU_a, qU_k]⟩
    rw [hJ0] at j1
    have ht : qn (qtag (some e).isSome true true) = qn 0 := rfl
    rw [ht]
    simp (disch := omega) only [↓qlet, eq_self, qzg_t, qzb_some, ↓reduceIte, not_or, not_false_eq_true, not_true_eq_false, and_true, true_and, and_self, or_false, false_or, true_or, or_true, and_false, false_and, qlit, qneg, qof, qn_add, qn_mul, qn_s, qn_z, qn_d, qn_dz, qm_1, qt_1, qt_0, qb_0, qb_1, qb_01, qb01b, q01_0, q01_1, qo_s, qo_n, qn_c, qn_le, qn_lt, qn_eq, qn_ne_m, qm_ne_n, qm_lt, qm_le, qn_lt_m, qn_le_m, qn_sub, qn_div, qn_mod, qle_t, qle_f, qlt_t, qlt_f, qeq_t, qeq_f, Nat.add_sub_cancel, qD_I, qD_s, qU_s, qU_a, qU_k, qdk_1, qdk_2, qdk_3, qdk_4, qdk_5, qdk_6, qdk_7, qdk_8, qdk_9, qdk_10, qdk_11, qdk_12, qdk_13, qdk_14, qdk_15, qdk_16, qdk_17, qdk_18, qdk_19, qdk_20, qdk_21, qdk_22, qdk_23, qdk_24, qdk_25, qdk_26, qdk_27, qdk_28, qdk_29, qdk_30, qdk_31, qdk_32, qdk_33, qdk_34, qdk_35, qdk_36, qdk_37, qdk_38, qdk_39, qdk_40, qdk_41, qdk_42, qdk_43, qdk_44, qdl_2, qdl_3, qdl_4, qdl_5, qdl_6, qdl_7, qdl_8, qdl_9, qdl_10, qdl_11, qdl_12, qdl_13, qdl_14, qdl_15, qdl_16, qdl_17, qdl_18, qdl_19, qdl_20, qdl_21, qdl_22, qdl_23, qdl_24, qdl_25, qdl_26, qdl_27, qdl_28, qdl_29, qdl_30, qdl_31, qdl_32, qdl_33, qdl_34, qdl_35, qdl_36, qdl_37, qdl_38, qdl_39, qdl_40, qdl_41, qdl_42, qdl_43, qdl_44, qdr_0, qdr_1, qdr_2, qdr_3, qdr_4, qdr_5, qdr_6, qdr_7, qdr_8, qdr_9, qdr_10, qdr_11, qdr_12, qdr_15, qdr_16, qdr_19, qdr_20, qdr_21, qdr_22, qdr_26, qdr_27, qdr_28, qdr_29, qdr_30, qdr_34, qdr_35, qdr_37, qdr_38, qdr_39, qdr_40, qdr_42, qdr_43, qdr_44, qdr_45, qdr_46, qdr_47, qdr_48, qdr_49, qdr_50, qdr_51, qdr_53, qdr_54, qdr_55, g1, j1]
theorem qRG_ff {G' : qG} {J : Nat → Nat → Int32} (hG : qRG G I) (h1 : G'.1 = G.1) (h2 : G'.2.1 = G.2.1) (h3 : G'.2.2.1 = G.2.2.1) (hf : ∀ a, 2 ≤ a → a ≤ 4 → J a = I a) (h4 : ∀ y, y < 10 → J 5 y = qgI G' y ∧ J 6 y = qgX G' y ∧ J 7 y = qb (qgA G' y) ∧ J 8 y = qb (qgB G' y)) : qRG G' J := by
  intro y hy
  obtain ⟨q1, q2, q3, q4, q5, q6⟩ := hG y hy
  obtain ⟨p1, p2, p3, p4⟩ := h4 y hy
  have n1 : qgN G' y = qgN G y := by unfold qgN; rw [h1]
  have n2 : ∀ k, qgS G' y k = qgS G y k := fun k => by unfold qgS; rw [h2]
  have n3 : ∀ k, qgO G' y k = qgO G y k := fun k => by unfold qgO; rw [h3]
  refine ⟨by rw [hf 4 (by omega) (by omega), n1]; exact q1, fun k hk => ?_, p1, p2, p3, p4⟩
  rw [hf 2 (by omega) (by omega), hf 3 (by omega) (by omega), n2, n3]
  rw [n1] at hk
  exact q2 k hk
theorem rExcept (hA : qRA I A) (x i z : Int32) : qRAns I (qoExcept A x i z) (fX8_except 1 x i z (qD I)) := by
  have hA0 := hA
  obtain ⟨⟨hg, hEk, hn, hk⟩, hG, hE, hT, hV, hX, h14, h18⟩ := hA
  have h1 : fX8_in x 0 9 (qD I) = some (qb (qin x 10).isSome, qD I) := rIn (hi := 9) (by omega) x _
  have h2 : fX8_in i 0 1023 (qD I) = some (qb (qin i 1024).isSome, qD I) := rIn (hi := 1023) (by omega) i _
  have h3 : fX8_in z 0 1023 (qD I) = some (qb (qin z 1024).isSome, qD I) := rIn (hi := 1023) (by omega) z _
  have hf : fX8_except 1 x i z (qD I) = fX8_except_35 1 x i z 1 (qb (qin x 10).isSome) (qb ((qin i 1024).isSome && (qin z 1024).isSome)) (qD I) := by
    unfold fX8_except fX8_except_34
    rw [h1, qzb_some, h2, qzb_some, h3, qzb_some]
    cases (qin i 1024).isSome with
    | false => rfl
    | true => cases (qin z 1024).isSome <;> rfl
  rw [hf]
  unfold fX8_except_35 qoExcept
  rw [qzg_i (qdk_1 _), rGoes2, qzb_some]
  cases hx : qin x 10 with
  | none =>
    have e1 : (none : Option Nat).isSome = false := rfl
    rw [e1, Bool.false_and, if_pos (show qb false = 0 from rfl)]
    exact rRefuse hA0 rfl
  | some e =>
    obtain ⟨he, rfl⟩ := qin_s (by omega) hx
    have e1 : (some e).isSome = true := rfl
    rw [e1, Bool.true_and]
    cases hi : qin i 1024 with
    | none =>
      have e2 : (none : Option Nat).isSome = false := rfl
      rw [e2, Bool.false_and, if_pos (show qb false = 0 from rfl)]
      exact rRefuse hA0 rfl
    | some i1 =>
      cases hz : qin z 1024 with
      | none =>
        have e2 : (none : Option Nat).isSome = false := rfl
        rw [e2, Bool.and_false, if_pos (show qb false = 0 from rfl)]
        exact rRefuse hA0 rfl
      | some z1 =>
        obtain ⟨hi1, rfl⟩ := qin_s (by omega) hi
        obtain ⟨hz1, rfl⟩ := qin_s (by omega) hz
        have e2 : (some i1).isSome = true := rfl
        have e3 : (some z1).isSome = true := rfl
        rw [e2, e3, Bool.and_self, if_neg (show ¬ qb true = 0 by decide)]
        have ht : qn (qtag true true true) = qn 0 := rfl
        rw [ht]
        obtain ⟨J0, hJ0⟩ : ∃ J0, J0 = qU (qU (qU I 1 56 (qn 0)) 5 e (qn i1)) 6 e (qn z1) := ⟨_, rfl⟩
        have hG0 : qRG (qgExc A.1 e (qn i1) (qn z1)) J0 := by
          refine qRG_ff hG rfl rfl rfl (fun a h1 h2 => by rw [hJ0]; simp (disch := omega) only [qU_r]) fun y hy => ?_
          obtain ⟨q1, q2, q3, q4, q5, q6⟩ := hG y hy
          have m1 : qgI (qgExc A.1 e (qn i1) (qn z1)) y = if y = e then qn i1 else qgI A.1 y := rfl
          have m2 : qgX (qgExc A.1 e (qn i1) (qn z1)) y = if y = e then qn z1 else qgX A.1 y := rfl
          rw [hJ0, m1, m2]
          refine ⟨?_, ?_, ?_, ?_⟩
          · rw [qU_r (by omega)]
            by_cases c : y = e
            · subst c; rw [if_pos rfl, qU_s]
            · rw [if_neg c, qU_k c, qU_r (by omega)]; exact q3
          · by_cases c : y = e
            · subst c; rw [if_pos rfl, qU_s]
            · rw [if_neg c, qU_k c]; simp (disch := omega) only [qU_r]; exact q4
          · simp (disch := omega) only [qU_r]; exact q5
          · simp (disch := omega) only [qU_r]; exact q6
        obtain ⟨J, j1, j2, j3, -⟩ := rChange (A' := (qgExc A.1 e (qn i1) (qn z1), A.2)) ⟨qgExc_ok hg hi1 hz1, hEk, hn, hk⟩ hG0 (qREn_fr hE fun a h1 h2 => by rw [hJ0]; simp (disch := omega) only [qU_r]) (qRT_fr hT (by rw [hJ0]; simp (disch := omega) only [qU_s, qU_a, qU_k]) (by rw [hJ0]; simp (disch := omega) only [qU_r]) (by rw [hJ0]; simp (disch := omega) only [qU_r]))
        refine ⟨J, ?_, j2, by rw [j3, hJ0]; simp (disch := omega) only [qU_s, qU_a, qU_k]⟩
        rw [hJ0] at j1
        simp (disch := omega) only [↓qlet, eq_self, qzg_t, qzb_some, ↓reduceIte, not_or, not_false_eq_true, not_true_eq_false, and_true, true_and, and_self, or_false, false_or, true_or, or_true, and_false, false_and, qlit, qneg, qof, qn_add, qn_mul, qn_s, qn_z, qn_d, qn_dz, qm_1, qt_1, qt_0, qb_0, qb_1, qb_01, qb01b, q01_0, q01_1, qo_s, qo_n, qn_c, qn_le, qn_lt, qn_eq, qn_ne_m, qm_ne_n, qm_lt, qm_le, qn_lt_m, qn_le_m, qn_sub, qn_div, qn_mod, qle_t, qle_f, qlt_t, qlt_f, qeq_t, qeq_f, Nat.add_sub_cancel, qD_I, qD_s, qU_s, qU_a, qU_k, qdk_1, qdk_2, qdk_3, qdk_4, qdk_5, qdk_6, qdk_7, qdk_8, qdk_9, qdk_10, qdk_11, qdk_12, qdk_13, qdk_14, qdk_15, qdk_16, qdk_17, qdk_18, qdk_19, qdk_20, qdk_21, qdk_22, qdk_23, qdk_24, qdk_25, qdk_26, qdk_27, qdk_28, qdk_29, qdk_30, qdk_31, qdk_32, qdk_33, qdk_34, qdk_35, qdk_36, qdk_37, qdk_38, qdk_39, qdk_40, qdk_41, qdk_42, qdk_43, qdk_44, qdl_2, qdl_3, qdl_4, qdl_5, qdl_6, qdl_7, qdl_8, qdl_9, qdl_10, qdl_11, qdl_12, qdl_13, qdl_14, qdl_15, qdl_16, qdl_17, qdl_18, qdl_19, qdl_20, qdl_21, qdl_22, qdl_23, qdl_24, qdl_25, qdl_26, qdl_27, qdl_28, qdl_29, qdl_30, qdl_31, qdl_32, qdl_33, qdl_34, qdl_35, qdl_36, qdl_37, qdl_38, qdl_39, qdl_40, qdl_41, qdl_42, qdl_43, qdl_44, qdr_0, qdr_1, qdr_2, qdr_3, qdr_4, qdr_5, qdr_6, qdr_7, qdr_8, qdr_9, qdr_10, qdr_11, qdr_12, qdr_15, qdr_16, qdr_19, qdr_20, qdr_21, qdr_22, qdr_26, qdr_27, qdr_28, qdr_29, qdr_30, qdr_34, qdr_35, qdr_37, qdr_38, qdr_39, qdr_40, qdr_42, qdr_43, qdr_44, qdr_45, qdr_46, qdr_47, qdr_48, qdr_49, qdr_50, qdr_51, qdr_53, qdr_54, qdr_55, j1]
theorem rOmit (hA : qRA I A) (x : Int32) (a b : Bool) : qRAns I (qoOmit A x a b) (fX8_omit 1 x (qb a) (qb b) (qD I)) := by
  have hA0 := hA
  obtain ⟨⟨hg, hEk, hn, hk⟩, hG, hE, hT, hV, hX, h14, h18⟩ := hA
  have h1 : fX8_in x 0 9 (qD I) = some (qb (qin x 10).isSome, qD I) := rIn (hi := 9) (by omega) x _
  unfold fX8_omit qoOmit
  rw [h1, qzb_some, qzg_i (qdk_1 _), rGoes1, qzb_some]
  cases hx : qin x 10 with
  | none =>
    rw [if_pos (show qb (none : Option Nat).isSome = 0 from rfl)]
    exact rRefuse hA0 rfl
  | some e =>
    obtain ⟨he, rfl⟩ := qin_s (by omega) hx
    rw [if_neg (show ¬ qb (some e).isSome = 0 from (by decide : ¬ qb true = 0))]
    have ht : qn (qtag (some e).isSome true true) = qn 0 := rfl
    rw [ht]
    obtain ⟨J0, hJ0⟩ : ∃ J0, J0 = qU (qU (qU I 1 56 (qn 0)) 7 e (qb a)) 8 e (qb b) := ⟨_, rfl⟩
    have hG0 : qRG (qgOmit A.1 e a b) J0 := by
      refine qRG_ff hG rfl rfl rfl (fun a h1 h2 => by rw [hJ0]; simp (disch := omega) only [qU_r]) fun y hy => ?_
      obtain ⟨q1, q2, q3, q4, q5, q6⟩ := hG y hy
      have m1 : qgA (qgOmit A.1 e a b) y = if y = e then a else qgA A.1 y := rfl
      have m2 : qgB (qgOmit A.1 e a b) y = if y = e then b else qgB A.1 y := rfl
      rw [hJ0, m1, m2]
      refine ⟨?_, ?_, ?_, ?_⟩
      · simp (disch := omega) only [qU_r]; exact q3
      · simp (disch := omega) only [qU_r]; exact q4
      · rw [qU_r (by omega)]
        by_cases c : y = e
        · subst c; rw [if_pos rfl, qU_s]
        · rw [if_neg c, qU_k c, qU_r (by omega)]; exact q5
      · by_cases c : y = e
        · subst c; rw [if_pos rfl, qU_s]
        · rw [if_neg c, qU_k c]; simp (disch := omega) only [qU_r]; exact q6
    have hgO : qGok (qgOmit A.1 e a b) := fun y hy => hg y hy
    obtain ⟨J, j1, j2, j3, -⟩ := rChange (A' := (qgOmit A.1 e a b, A.2)) ⟨hgO, hEk, hn, hk⟩ hG0 (qREn_fr hE fun a h1 h2 => by rw [hJ0]; simp (disch := omega) only [qU_r]) (qRT_fr hT (by rw [hJ0]; simp (disch := omega) only [qU_s, qU_a, qU_k]) (by rw [hJ0]; simp (disch := omega) only [qU_r]) (by rw [hJ0]; simp (disch := omega) only [qU_r]))
    refine ⟨J, ?_, j2, by rw [j3, hJ0]; simp (disch := omega) only [qU_s, qU_a, qU_k]⟩
    rw [hJ0] at j1
    simp (disch := omega) only [↓qlet, eq_self, qzg_t, qzb_some, ↓reduceIte, not_or, not_false_eq_true, not_true_eq_false, and_true, true_and, and_self, or_false, false_or, true_or, or_true, and_false, false_and, qlit, qneg, qof, qn_add, qn_mul, qn_s, qn_z, qn_d, qn_dz, qm_1, qt_1, qt_0, qb_0, qb_1, qb_01, qb01b, q01_0, q01_1, qo_s, qo_n, qn_c, qn_le, qn_lt, qn_eq, qn_ne_m, qm_ne_n, qm_lt, qm_le, qn_lt_m, qn_le_m, qn_sub, qn_div, qn_mod, qle_t, qle_f, qlt_t, qlt_f, qeq_t, qeq_f, Nat.add_sub_cancel, qD_I, qD_s, qU_s, qU_a, qU_k, qdk_1, qdk_2, qdk_3, qdk_4, qdk_5, qdk_6, qdk_7, qdk_8, qdk_9, qdk_10, qdk_11, qdk_12, qdk_13, qdk_14, qdk_15, qdk_16, qdk_17, qdk_18, qdk_19, qdk_20, qdk_21, qdk_22, qdk_23, qdk_24, qdk_25, qdk_26, qdk_27, qdk_28, qdk_29, qdk_30, qdk_31, qdk_32, qdk_33, qdk_34, qdk_35, qdk_36, qdk_37, qdk_38, qdk_39, qdk_40, qdk_41, qdk_42, qdk_43, qdk_44, qdl_2, qdl_3, qdl_4, qdl_5, qdl_6, qdl_7, qdl_8, qdl_9, qdl_10, qdl_11, qdl_12, qdl_13, qdl_14, qdl_15, qdl_16, qdl_17, qdl_18, qdl_19, qdl_20, qdl_21, qdl_22, qdl_23, qdl_24, qdl_25, qdl_26, qdl_27, qdl_28, qdl_29, qdl_30, qdl_31, qdl_32, qdl_33, qdl_34, qdl_35, qdl_36, qdl_37, qdl_38, qdl_39, qdl_40, qdl_41, qdl_42, qdl_43, qdl_44, qdr_0, qdr_1, qdr_2, qdr_3, qdr_4, qdr_5, qdr_6, qdr_7, qdr_8, qdr_9, qdr_10, qdr_11, qdr_12, qdr_15, qdr_16, qdr_19, qdr_20, qdr_21, qdr_22, qdr_26, qdr_27, qdr_28, qdr_29, qdr_30, qdr_34, qdr_35, qdr_37, qdr_38, qdr_39, qdr_40, qdr_42, qdr_43, qdr_44, qdr_45, qdr_46, qdr_47, qdr_48, qdr_49, qdr_50, qdr_51, qdr_53, qdr_54, qdr_55, j1]
theorem rFlip (hA : qRA I A) (x t : Int32) : qRAns I (qoFlip A x t) (fX8_flip 1 x t (qD I)) := by
  have hA0 := hA
  obtain ⟨⟨hg, hEk, hn, hk⟩, hG, hE, hT, hV, hX, h14, h18⟩ := hA
  have h1 : fX8_in x 0 3 (qD I) = some (qb (qin x 4).isSome, qD I) := rIn (hi := 3) (by omega) x _
  have h2 : fX8_in t 0 2 (qD I) = some (qb (qin t 3).isSome, qD I) := rIn (hi := 2) (by omega) t _
  unfold fX8_flip qoFlip
  rw [h1, qzb_some, h2, qzb_some, qzg_i (qdk_1 _), rGoes2, qzb_some]
  cases hx : qin x 4 with
  | none =>
    have e1 : (none : Option Nat).isSome = false := rfl
    rw [e1, Bool.false_and, if_pos (show qb false = 0 from rfl)]
    exact rRefuse hA0 rfl
  | some e =>
    obtain ⟨he, rfl⟩ := qin_s (by omega) hx
    have e1 : (some e).isSome = true := rfl
    rw [e1, Bool.true_and]
    cases ht : qin t 3 with
    | none =>
      rw [if_pos (show qb (none : Option Nat).isSome = 0 from rfl)]
      exact rRefuse hA0 rfl
    | some t1 =>
      obtain ⟨ht1, rfl⟩ := qin_s (by omega) ht
      rw [if_neg (show ¬ qb (some t1).isSome = 0 from (by decide : ¬ qb true = 0))]
      have htg : qn (qtag true (some t1).isSome true) = qn 0 := rfl
      rw [htg]
      have i12 := hE.2 e he
      have hsw := hEk.2 e he
      obtain ⟨J0, hJ0⟩ : ∃ J0, J0 = qU (qU I 1 56 (qn 0)) 12 e (qn t1) := ⟨_, rfl⟩
      have hE0 : qREn (fun y => if y = e then t1 else A.2.1 y) A.2.2.1 J0 := by
        refine ⟨fun y hy => ?_, fun y hy => ?_⟩
        · rw [hJ0]; simp (disch := omega) only [qU_r]; exact hE.1 y hy
        · show J0 12 y = qn (if y = e then t1 else A.2.1 y)
          rw [hJ0]
          by_cases c : y = e
          · subst c; rw [qU_s, if_pos rfl]
          · rw [qU_k c, if_neg c, qU_r (by omega)]; exact hE.2 y hy
      have hEk0 : qEok (fun y => if y = e then t1 else A.2.1 y) A.2.2.1 := ⟨hEk.1, fun y hy => by
        show (if y = e then t1 else A.2.1 y) ≤ 2
        split
        · omega
        · exact hEk.2 y hy⟩
      obtain ⟨J, j1, j2, j3, -⟩ := rChange (A' := (A.1, (fun y => if y = e then t1 else A.2.1 y), A.2.2)) ⟨hg, hEk0, hn, hk⟩ (qRG_fr hG fun a h1 h2 => by rw [hJ0]; simp (disch := omega) only [qU_r]) hE0 (qRT_fr hT (by rw [hJ0]; simp (disch := omega) only [qU_s, qU_a, qU_k]) (by rw [hJ0]; simp (disch := omega) only [qU_r]) (by rw [hJ0]; simp (disch := omega) only [qU_r]))
      refine ⟨J, ?_, j2, by rw [j3, hJ0]; simp (disch := omega) only [qU_s, qU_a, qU_k]⟩
      rw [hJ0] at j1
      simp (disch := omega) only [↓qlet, eq_self, qzg_t, qzb_some, ↓reduceIte, not_or, not_false_eq_true, not_true_eq_false, and_true, true_and, and_self, or_false, false_or, true_or, or_true, and_false, false_and, qlit, qneg, qof, qn_add, qn_mul, qn_s, qn_z, qn_d, qn_dz, qm_1, qt_1, qt_0, qb_0, qb_1, qb_01, qb01b, q01_0, q01_1, qo_s, qo_n, qn_c, qn_le, qn_lt, qn_eq, qn_ne_m, qm_ne_n, qm_lt, qm_le, qn_lt_m, qn_le_m, qn_sub, qn_div, qn_mod, qle_t, qle_f, qlt_t, qlt_f, qeq_t, qeq_f, Nat.add_sub_cancel, qD_I, qD_s, qU_s, qU_a, qU_k, qdk_1, qdk_2, qdk_3, qdk_4, qdk_5, qdk_6, qdk_7, qdk_8, qdk_9, qdk_10, qdk_11, qdk_12, qdk_13, qdk_14, qdk_15, qdk_16, qdk_17, qdk_18, qdk_19, qdk_20, qdk_21, qdk_22, qdk_23, qdk_24, qdk_25, qdk_26, qdk_27, qdk_28, qdk_29, qdk_30, qdk_31, qdk_32, qdk_33, qdk_34, qdk_35, qdk_36, qdk_37, qdk_38, qdk_39, qdk_40, qdk_41, qdk_42, qdk_43, qdk_44, qdl_2, qdl_3, qdl_4, qdl_5, qdl_6, qdl_7, qdl_8, qdl_9, qdl_10, qdl_11, qdl_12, qdl_13, qdl_14, qdl_15, qdl_16, qdl_17, qdl_18, qdl_19, qdl_20, qdl_21, qdl_22, qdl_23, qdl_24, qdl_25, qdl_26, qdl_27, qdl_28, qdl_29, qdl_30, qdl_31, qdl_32, qdl_33, qdl_34, qdl_35, qdl_36, qdl_37, qdl_38, qdl_39, qdl_40, qdl_41, qdl_42, qdl_43, qdl_44, qdr_0, qdr_1, qdr_2, qdr_3, qdr_4, qdr_5, qdr_6, qdr_7, qdr_8, qdr_9, qdr_10, qdr_11, qdr_12, qdr_15, qdr_16, qdr_19, qdr_20, qdr_21, qdr_22, qdr_26, qdr_27, qdr_28, qdr_29, qdr_30, qdr_34, qdr_35, qdr_37, qdr_38, qdr_39, qdr_40, qdr_42, qdr_43, qdr_44, qdr_45, qdr_46, qdr_47, qdr_48, qdr_49, qdr_50, qdr_51, qdr_53, qdr_54, qdr_55, i12, j1]
theorem rClear (hA : qRA I A) (x : Int32) : qRAns I (qoClear A x) (fX8_clear 1 x (qD I)) := by
  have hA0 := hA
  obtain ⟨⟨hg, hEk, hn, hk⟩, hG, hE, hT, hV, hX, h14, h18⟩ := hA
  have h1 : fX8_in x 0 5 (qD I) = some (qb (qin x 6).isSome, qD I) := rIn (hi := 5) (by omega) x _
  unfold fX8_clear qoClear
  rw [h1, qzb_some, qzg_i (qdk_1 _), rGoes1, qzb_some]
  cases hx : qin x 6 with
  | none =>
    rw [if_pos (show qb (none : Option Nat).isSome = 0 from rfl)]
    exact rRefuse hA0 rfl
  | some e =>
    obtain ⟨he, rfl⟩ := qin_s (by omega) hx
    rw [if_neg (show ¬ qb (some e).isSome = 0 from (by decide : ¬ qb true = 0))]
    have ht : qn (qtag (some e).isSome true true) = qn 0 := rfl
    rw [ht]
    have i11 := (hE.1 e he).1
    have hl6 := (hEk.1 e he).1
    obtain ⟨J0, hJ0⟩ : ∃ J0, J0 = qU (qU I 1 56 (qn 0)) 11 e (qn 0) := ⟨_, rfl⟩
    have hE0 : qREn A.2.1 (fun y => if y = e then [] else A.2.2.1 y) J0 := by
      refine ⟨fun y hy => ?_, fun y hy => ?_⟩
      · show J0 11 y = qn (if y = e then ([] : List qK) else A.2.2.1 y).length ∧ ∀ j k, (if y = e then ([] : List qK) else A.2.2.1 y)[j]? = some k → J0 9 (6 * y + j) = qn k.1 ∧ J0 10 (6 * y + j) = k.2
        rw [hJ0]
        by_cases c : y = e
        · subst c; rw [qU_s, if_pos rfl]; exact ⟨rfl, fun j k hj => by simp at hj⟩
        · rw [qU_k c, if_neg c]; simp (disch := omega) only [qU_r]; exact hE.1 y hy
      · rw [hJ0]; simp (disch := omega) only [qU_r]; exact hE.2 y hy
    have hEk0 : qEok A.2.1 (fun y => if y = e then [] else A.2.2.1 y) := ⟨fun y hy => by
      show (if y = e then ([] : List qK) else A.2.2.1 y).length ≤ 6 ∧ ∀ k ∈ (if y = e then ([] : List qK) else A.2.2.1 y), qKok k
      by_cases c : y = e
      · rw [if_pos c]; exact ⟨by simp, fun k hk => absurd hk (by simp)⟩
      · rw [if_neg c]; exact hEk.1 y hy, hEk.2⟩
    obtain ⟨J, j1, j2, j3, -⟩ := rChange (A' := (A.1, A.2.1, (fun y => if y = e then [] else A.2.2.1 y), A.2.2.2)) ⟨hg, hEk0, hn, hk⟩ (qRG_fr hG fun a h1 h2 => by rw [hJ0]; simp (disch := omega) only [qU_r]) hE0 (qRT_fr hT (by rw [hJ0]; simp (disch := omega) only [qU_s, qU_a, qU_k]) (by rw [hJ0]; simp (disch := omega) only [qU_r]) (by rw [hJ0]; simp (disch := omega) only [qU_r]))
    refine ⟨J, ?_, j2, by rw [j3, hJ0]; simp (disch := omega) only [qU_s, qU_a, qU_k]⟩
    rw [hJ0] at j1
    simp (disch := omega) only [↓qlet, eq_self, qzg_t, qzb_some, ↓reduceIte, not_or, not_false_eq_true, not_true_eq_false, and_true, true_and, and_self, or_false, false_or, true_or, or_true, and_false, false_and, qlit, qneg, qof, qn_add, qn_mul, qn_s, qn_z, qn_d, qn_dz, qm_1, qt_1, qt_0, qb_0, qb_1, qb_01, qb01b, q01_0, q01_1, qo_s, qo_n, qn_c, qn_le, qn_lt, qn_eq, qn_ne_m, qm_ne_n, qm_lt, qm_le, qn_lt_m, qn_le_m, qn_sub, qn_div, qn_mod, qle_t, qle_f, qlt_t, qlt_f, qeq_t, qeq_f, Nat.add_sub_cancel, qD_I, qD_s, qU_s, qU_a, qU_k, qdk_1, qdk_2, qdk_3, qdk_4, qdk_5, qdk_6, qdk_7, qdk_8, qdk_9, qdk_10, qdk_11, qdk_12, qdk_13, qdk_14, qdk_15, qdk_16, qdk_17, qdk_18, qdk_19, qdk_20, qdk_21, qdk_22, qdk_23, qdk_24, qdk_25, qdk_26, qdk_27, qdk_28, qdk_29, qdk_30, qdk_31, qdk_32, qdk_33, qdk_34, qdk_35, qdk_36, qdk_37, qdk_38, qdk_39, qdk_40, qdk_41, qdk_42, qdk_43, qdk_44, qdl_2, qdl_3, qdl_4, qdl_5, qdl_6, qdl_7, qdl_8, qdl_9, qdl_10, qdl_11, qdl_12, qdl_13, qdl_14, qdl_15, qdl_16, qdl_17, qdl_18, qdl_19, qdl_20, qdl_21, qdl_22, qdl_23, qdl_24, qdl_25, qdl_26, qdl_27, qdl_28, qdl_29, qdl_30, qdl_31, qdl_32, qdl_33, qdl_34, qdl_35, qdl_36, qdl_37, qdl_38, qdl_39, qdl_40, qdl_41, qdl_42, qdl_43, qdl_44, qdr_0, qdr_1, qdr_2, qdr_3, qdr_4, qdr_5, qdr_6, qdr_7, qdr_8, qdr_9, qdr_10, qdr_11, qdr_12, qdr_15, qdr_16, qdr_19, qdr_20, qdr_21, qdr_22, qdr_26, qdr_27, qdr_28, qdr_29, qdr_30, qdr_34, qdr_35, qdr_37, qdr_38, qdr_39, qdr_40, qdr_42, qdr_43, qdr_44, qdr_45, qdr_46, qdr_47, qdr_48, qdr_49, qdr_50, qdr_51, qdr_53, qdr_54, qdr_55, i11, j1]
theorem rEntity37 {e n : Nat} (he : e < 6) (h6 : n < 6) (i11 : I 11 e = qn n) (s v : Int32) {J : Nat → Nat → Int32} (hJ : fX8_allAnew 1 (qD (qU (qU (qU (qU I 1 56 (qn 0)) 9 (6 * e + n) s) 10 (6 * e + n) v) 11 e (qn (n + 1)))) = some (qn 0, qD J)) (j11 : J 11 e = qn (n + 1)) : fX8_entity_37 1 (qn e) s v 1 (qb true) (qb true) 1 (qD I) = some (qn (n + 1), qD J) := by
  have hgo := rGoes2 (I := I) true true
  have ht : qn (qtag true true true) = qn 0 := rfl
  unfold fX8_entity_37
  rw [qzg_i (qdk_1 _), hgo, qzb_some, Bool.and_self, if_neg (show ¬ qb true = 0 by decide), ht]
  simp only [↓qlet, qdr_7, qdr_8, qdr_9, qD_s]
  simp (disch := omega) only [↓qlet, eq_self, qzg_t, qzb_some, ↓reduceIte, not_or, not_false_eq_true, not_true_eq_false, and_true, true_and, and_self, or_false, false_or, true_or, or_true, and_false, false_and, qlit, qneg, qof, qn_add, qn_mul, qn_s, qn_z, qn_d, qn_dz, qm_1, qt_1, qt_0, qb_0, qb_1, qb_01, qb01b, q01_0, q01_1, qo_s, qo_n, qn_c, qn_le, qn_lt, qn_eq, qn_ne_m, qm_ne_n, qm_lt, qm_le, qn_lt_m, qn_le_m, qn_sub, qn_div, qn_mod, qle_t, qle_f, qlt_t, qlt_f, qeq_t, qeq_f, Nat.add_sub_cancel, qD_I, qD_s, qU_s, qU_a, qU_k, qdk_1, qdk_2, qdk_3, qdk_4, qdk_5, qdk_6, qdk_7, qdk_8, qdk_9, qdk_10, qdk_11, qdk_12, qdk_13, qdk_14, qdk_15, qdk_16, qdk_17, qdk_18, qdk_19, qdk_20, qdk_21, qdk_22, qdk_23, qdk_24, qdk_25, qdk_26, qdk_27, qdk_28, qdk_29, qdk_30, qdk_31, qdk_32, qdk_33, qdk_34, qdk_35, qdk_36, qdk_37, qdk_38, qdk_39, qdk_40, qdk_41, qdk_42, qdk_43, qdk_44, qdl_2, qdl_3, qdl_4, qdl_5, qdl_6, qdl_7, qdl_8, qdl_9, qdl_10, qdl_11, qdl_12, qdl_13, qdl_14, qdl_15, qdl_16, qdl_17, qdl_18, qdl_19, qdl_20, qdl_21, qdl_22, qdl_23, qdl_24, qdl_25, qdl_26, qdl_27, qdl_28, qdl_29, qdl_30, qdl_31, qdl_32, qdl_33, qdl_34, qdl_35, qdl_36, qdl_37, qdl_38, qdl_39, qdl_40, qdl_41, qdl_42, qdl_43, qdl_44, qdr_0, qdr_1, qdr_2, qdr_3, qdr_4, qdr_5, qdr_6, qdr_7, qdr_8, qdr_9, qdr_10, qdr_11, qdr_12, qdr_15, qdr_16, qdr_19, qdr_20, qdr_21, qdr_22, qdr_26, qdr_27, qdr_28, qdr_29, qdr_30, qdr_34, qdr_35, qdr_37, qdr_38, qdr_39, qdr_40, qdr_42, qdr_43, qdr_44, qdr_45, qdr_46, qdr_47, qdr_48, qdr_49, qdr_50, qdr_51, qdr_53, qdr_54, qdr_55, i11, hJ, j11]
theorem rEntity (hA : qRA I A) (x s v : Int32) : qRAns I (qoEntity A x s v) (fX8_entity 1 x s v (qD I)) := by
  have hA0 := hA
  obtain ⟨⟨hg, hEk, hn, hk⟩, hG, hE, hT, hV, hX, h14, h18⟩ := hA
  have h1 : fX8_in x 0 5 (qD I) = some (qb (qin x 6).isSome, qD I) := rIn (hi := 5) (by omega) x _
  unfold fX8_entity fX8_entity_36 qoEntity
  rw [h1, qzb_some, rIsTok, qzb_some]
  cases hx : qin x 6 with
  | none =>
    rw [if_pos (show qb (none : Option Nat).isSome = 0 from rfl)]
    have hgo := rGoes (I := I) false (qKin s v) false
    rw [Bool.false_and, Bool.false_and] at hgo
    have hgo : fX8_goes 1 (qb (none : Option Nat).isSome) (qb (qKin s v)) 0 (qD I) = _ := hgo
    unfold fX8_entity_37
    rw [qzg_i (qdk_1 _), hgo, qzb_some, if_pos (show qb false = 0 from rfl)]
    exact rRefuse hA0 (by simp [qtag])
  | some e =>
    obtain ⟨he, rfl⟩ := qin_s (by omega) hx
    have i11 := (hE.1 e he).1
    have hl6 := (hEk.1 e he).1
    rw [if_neg (show ¬ qb (some e).isSome = 0 from (by decide : ¬ qb true = 0))]
    dsimp only
    have hfr : (zg (zk (qD I) 1 = 8) (zg (zk (qD I) (zR (qD I) 1 9) = 100) (zg (¬ (qn e < 0 ∨ zl (qD I) (zR (qD I) 1 9) ≤ (qn e).toNatClampNeg)) (if 6 ≤ (zI (qD I) (zR (qD I) 1 9) (qn e).toNatClampNeg) then fX8_entity_37 1 (qn e) s v 1 (qb (some e).isSome) (qb (qKin s v)) 0 (qD I) else fX8_entity_37 1 (qn e) s v 1 (qb (some e).isSome) (qb (qKin s v)) 1 (qD I))))) = fX8_entity_37 1 (qn e) s v 1 (qb true) (qb (qKin s v)) (qb (decide ((A.2.2.1 e).length < 6))) (qD I) := by
      have e1 : (some e).isSome = true := rfl
      rw [e1]
      by_cases c : (A.2.2.1 e).length < 6
      · rw [decide_eq_true c]
        simp (disch := omega) only [↓qlet, eq_self, qzg_t, qzb_some, ↓reduceIte, not_or, not_false_eq_true, not_true_eq_false, and_true, true_and, and_self, or_false, false_or, true_or, or_true, and_false, false_and, qlit, qneg, qof, qn_add, qn_mul, qn_s, qn_z, qn_d, qn_dz, qm_1, qt_1, qt_0, qb_0, qb_1, qb_01, qb01b, q01_0, q01_1, qo_s, qo_n, qn_c, qn_le, qn_lt, qn_eq, qn_ne_m, qm_ne_n, qm_lt, qm_le, qn_lt_m, qn_le_m, qn_sub, qn_div, qn_mod, qle_t, qle_f, qlt_t, qlt_f, qeq_t, qeq_f, Nat.add_sub_cancel, qD_I, qD_s, qU_s, qU_a, qU_k, qdk_1, qdk_2, qdk_3, qdk_4, qdk_5, qdk_6, qdk_7, qdk_8, qdk_9, qdk_10, qdk_11, qdk_12, qdk_13, qdk_14, qdk_15, qdk_16, qdk_17, qdk_18, qdk_19, qdk_20, qdk_21, qdk_22, qdk_23, qdk_24, qdk_25, qdk_26, qdk_27, qdk_28, qdk_29, qdk_30, qdk_31, qdk_32, qdk_33, qdk_34, qdk_35, qdk_36, qdk_37, qdk_38, qdk_39, qdk_40, qdk_41, qdk_42, qdk_43, qdk_44, qdl_2, qdl_3, qdl_4, qdl_5, qdl_6, qdl_7, qdl_8, qdl_9, qdl_10, qdl_11, qdl_12, qdl_13, qdl_14, qdl_15, qdl_16, qdl_17, qdl_18, qdl_19, qdl_20, qdl_21, qdl_22, qdl_23, qdl_24, qdl_25, qdl_26, qdl_27, qdl_28, qdl_29, qdl_30, qdl_31, qdl_32, qdl_33, qdl_34, qdl_35, qdl_36, qdl_37, qdl_38, qdl_39, qdl_40, qdl_41, qdl_42, qdl_43, qdl_44, qdr_0, qdr_1, qdr_2, qdr_3, qdr_4, qdr_5, qdr_6, qdr_7, qdr_8, qdr_9, qdr_10, qdr_11, qdr_12, qdr_15, qdr_16, qdr_19, qdr_20, qdr_21, qdr_22, qdr_26, qdr_27, qdr_28, qdr_29, qdr_30, qdr_34, qdr_35, qdr_37, qdr_38, qdr_39, qdr_40, qdr_42, qdr_43, qdr_44, qdr_45, qdr_46, qdr_47, qdr_48, qdr_49, qdr_50, qdr_51, qdr_53, qdr_54, qdr_55, i11, qb_t]
      · rw [decide_eq_false c]
        simp (disch := omega) only [↓qlet, eq_self, qzg_t, qzb_some, ↓reduceIte, not_or, not_false_eq_true, not_true_eq_false, and_true, true_and, and_self, or_false, false_or, true_or, or_true, and_false, false_and, qlit, qneg, qof, qn_add, qn_mul, qn_s, qn_z, qn_d, qn_dz, qm_1, qt_1, qt_0, qb_0, qb_1, qb_01, qb01b, q01_0, q01_1, qo_s, qo_n, qn_c, qn_le, qn_lt, qn_eq, qn_ne_m, qm_ne_n, qm_lt, qm_le, qn_lt_m, qn_le_m, qn_sub, qn_div, qn_mod, qle_t, qle_f, qlt_t, qlt_f, qeq_t, qeq_f, Nat.add_sub_cancel, qD_I, qD_s, qU_s, qU_a, qU_k, qdk_1, qdk_2, qdk_3, qdk_4, qdk_5, qdk_6, qdk_7, qdk_8, qdk_9, qdk_10, qdk_11, qdk_12, qdk_13, qdk_14, qdk_15, qdk_16, qdk_17, qdk_18, qdk_19, qdk_20, qdk_21, qdk_22, qdk_23, qdk_24, qdk_25, qdk_26, qdk_27, qdk_28, qdk_29, qdk_30, qdk_31, qdk_32, qdk_33, qdk_34, qdk_35, qdk_36, qdk_37, qdk_38, qdk_39, qdk_40, qdk_41, qdk_42, qdk_43, qdk_44, qdl_2, qdl_3, qdl_4, qdl_5, qdl_6, qdl_7, qdl_8, qdl_9, qdl_10, qdl_11, qdl_12, qdl_13, qdl_14, qdl_15, qdl_16, qdl_17, qdl_18, qdl_19, qdl_20, qdl_21, qdl_22, qdl_23, qdl_24, qdl_25, qdl_26, qdl_27, qdl_28, qdl_29, qdl_30, qdl_31, qdl_32, qdl_33, qdl_34, qdl_35, qdl_36, qdl_37, qdl_38, qdl_39, qdl_40, qdl_41, qdl_42, qdl_43, qdl_44, qdr_0, qdr_1, qdr_2, qdr_3, qdr_4, qdr_5, qdr_6, qdr_7, qdr_8, qdr_9, qdr_10, qdr_11, qdr_12, qdr_15, qdr_16, qdr_19, qdr_20, qdr_21, qdr_22, qdr_26, qdr_27, qdr_28, qdr_29, qdr_30, qdr_34, qdr_35, qdr_37, qdr_38, qdr_39, qdr_40, qdr_42, qdr_43, qdr_44, qdr_45, qdr_46, qdr_47, qdr_48, qdr_49, qdr_50, qdr_51, qdr_53, qdr_54, qdr_55, i11, qb_t, qb_f]
    rw [hfr]
    have hgo := rGoes (I := I) true (qKin s v) (decide ((A.2.2.1 e).length < 6))
    rw [Bool.true_and] at hgo
    cases hq : qKin s v with
    | false =>
      rw [hq] at hgo
      rw [if_pos rfl]
      unfold fX8_entity_37
      rw [qzg_i (qdk_1 _), hgo, qzb_some, Bool.false_and, if_pos (show qb false = 0 from rfl)]
      exact rRefuse hA0 (by simp [qtag])
    | true =>
      rw [hq] at hgo
      rw [if_neg (by decide)]
      by_cases c6 : 6 ≤ (A.2.2.1 e).length
      · rw [if_pos c6]
        unfold fX8_entity_37
        rw [qzg_i (qdk_1 _), hgo, qzb_some, decide_eq_false (by omega), Bool.and_false, if_pos (show qb false = 0 from rfl)]
        exact rRefuse hA0 (by simp [qtag])
      · rw [if_neg c6, decide_eq_true (by omega)]
        obtain ⟨k, hk8, hs1, hs2, hkk⟩ := qKin_ok hq
        obtain ⟨J0, hJ0⟩ : ∃ J0, J0 = qU (qU (qU (qU I 1 56 (qn 0)) 9 (6 * e + (A.2.2.1 e).length) s) 10 (6 * e + (A.2.2.1 e).length) v) 11 e (qn ((A.2.2.1 e).length + 1)) := ⟨_, rfl⟩
        have hE0 : qREn A.2.1 (fun y => if y = e then A.2.2.1 e ++ [(s.toNatClampNeg, v)] else A.2.2.1 y) J0 := by
          refine ⟨fun y hy => ?_, fun y hy => ?_⟩
          · show J0 11 y = qn (if y = e then A.2.2.1 e ++ [(s.toNatClampNeg, v)] else A.2.2.1 y).length ∧ ∀ j k, (if y = e then A.2.2.1 e ++ [(s.toNatClampNeg, v)] else A.2.2.1 y)[j]? = some k → J0 9 (6 * y + j) = qn k.1 ∧ J0 10 (6 * y + j) = k.2
            have hy6 := (hEk.1 y hy).1
            rw [hJ0]
            by_cases c : y = e
            · subst c
              rw [qU_s, if_pos rfl]
              refine ⟨by rw [List.length_append]; rfl, fun j k2 hj => ?_⟩
              have hjl := (List.getElem?_eq_some_iff.mp hj).1
              rw [List.length_append] at hjl
              have hjl : j < (A.2.2.1 y).length + 1 := hjl
              by_cases cj : j = (A.2.2.1 y).length
              · subst cj
                rw [List.getElem?_append_right (Nat.le_refl _), Nat.sub_self] at hj
                have hj : some (s.toNatClampNeg, v) = some k2 := hj
                injection hj with hj
                subst hj
                rw [hs2]
                exact ⟨by simp (disch := omega) only [qU_s, qU_a, qU_k]; exact hs1, by simp (disch := omega) only [qU_s, qU_a, qU_k]⟩
              · rw [List.getElem?_append_left (by omega)] at hj
                simp (disch := omega) only [qU_s, qU_a, qU_k]
                exact (hE.1 y hy).2 j k2 hj
            · rw [qU_k c, if_neg c]
              refine ⟨by simp (disch := omega) only [qU_r]; exact (hE.1 y hy).1, fun j k2 hj => ?_⟩
              have hjl := (List.getElem?_eq_some_iff.mp hj).1
              have hne : 6 * y + j ≠ 6 * e + (A.2.2.1 e).length := by
                intro h
                exact c (by omega)
              obtain ⟨a1, a2⟩ := (hE.1 y hy).2 j k2 hj
              exact ⟨by rw [qU_r (by omega), qU_r (by omega), qU_k hne, qU_r (by omega)]; exact a1, by rw [qU_r (by omega), qU_k hne, qU_r (by omega), qU_r (by omega)]; exact a2⟩
          · rw [hJ0]; simp (disch := omega) only [qU_r]; exact hE.2 y hy
        have hEk0 : qEok A.2.1 (fun y => if y = e then A.2.2.1 e ++ [(s.toNatClampNeg, v)] else A.2.2.1 y) := ⟨fun y hy => by
          show (if y = e then A.2.2.1 e ++ [(s.toNatClampNeg, v)] else A.2.2.1 y).length ≤ 6 ∧ ∀ k ∈ (if y = e then A.2.2.1 e ++ [(s.toNatClampNeg, v)] else A.2.2.1 y), qKok k
          by_cases c : y = e
          · rw [if_pos c]
            refine ⟨by rw [List.length_append]; show (A.2.2.1 e).length + 1 ≤ 6; omega, fun q hq => ?_⟩
            rcases List.mem_append.mp hq with hq | hq
            · exact (hEk.1 e he).2 q hq
            · rw [List.mem_singleton.mp hq, hs2]; exact hkk
          · rw [if_neg c]; exact hEk.1 y hy, hEk.2⟩
        obtain ⟨J, j1, j2, j3, j4⟩ := rChange (A' := (A.1, A.2.1, (fun y => if y = e then A.2.2.1 e ++ [(s.toNatClampNeg, v)] else A.2.2.1 y), A.2.2.2)) ⟨hg, hEk0, hn, hk⟩ (qRG_fr hG fun a h1 h2 => by rw [hJ0]; simp (disch := omega) only [qU_r]) hE0 (qRT_fr hT (by rw [hJ0]; simp (disch := omega) only [qU_s, qU_a, qU_k]) (by rw [hJ0]; simp (disch := omega) only [qU_r]) (by rw [hJ0]; simp (disch := omega) only [qU_r]))
        refine ⟨J, ?_, j2, by rw [j3, hJ0]; simp (disch := omega) only [qU_s, qU_a, qU_k]⟩
        exact rEntity37 he (by omega) i11 s v (by rw [← hJ0]; exact j1) (by rw [j4 11 (by omega) (by omega), hJ0]; exact qU_s ..)
end
