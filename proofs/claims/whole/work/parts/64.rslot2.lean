/-! THE REFERENCE: slot -/
section
variable {I : Nat → Nat → Int32} {A : qA} {G : qG}
def qRAns (I : Nat → Nat → Int32) (r : Nat × Int32 × qA) (o : Option (Int32 × zM)) : Prop := ∃ J, o = some (r.2.1, qD J) ∧ qRA J r.2.2 ∧ J 1 56 = qn r.1
/-- refused -/
theorem rRefuse (hA : qRA I A) {a b c : Bool} {t : Nat} (h : qtag a b c = t) : qRAns I (qNo t A) (some (0, qD (qU I 1 56 (qn (qtag a b c))))) := ⟨_, rfl, qRA_56 hA _, by rw [qU_s, h]; rfl⟩
theorem rSlotFront (x s : Int32) (h : Bool) (o : Int32) : ∃ b, fX8_slot 1 x s (qb h) o (qD I) = fX8_slot_43 1 x s (qb h) o (qb (qin x 10).isSome) (qb b) (qD I) ∧ b = ((qin s 1024).isSome && (qin o 4).isSome && (decide (qn 0 < s) || h)) := by
  have h1 : fX8_in x 0 9 (qD I) = some (qb (qin x 10).isSome, qD I) := rIn (hi := 9) (by omega) x _
  have h2 : fX8_in s 0 1023 (qD I) = some (qb (qin s 1024).isSome, qD I) := rIn (hi := 1023) (by omega) s _
  have h3 : fX8_in o 0 3 (qD I) = some (qb (qin o 4).isSome, qD I) := rIn (hi := 3) (by omega) o _
  refine ⟨_, ?_, rfl⟩
  unfold fX8_slot fX8_slot_42 fX8_slot_38
  rw [h1, qzb_some, h2, qzb_some, h3, qzb_some]
  cases (qin s 1024).isSome with
  | false => rfl
  | true =>
    cases (qin o 4).isSome with
    | false => rfl
    | true =>
      rw [if_neg (show ¬ qb true = 0 by decide), if_neg (show ¬ qb true = 0 by decide)]
      by_cases c : (0 : Int32) < s
      · rw [if_pos c, decide_eq_true (show qn 0 < s from c)]; rfl
      · rw [if_neg c, decide_eq_false (show ¬ qn 0 < s from c)]
        cases h <;> rfl
theorem qRG_add (hG : qRG G I) (hg : qGok G) {e : Nat} (he : e < 10) (h6 : qgN G e < 6) (st : Int32) (o : Nat) : qRG (qgAdd G e st o) (qU (qU (qU I 2 (6 * e + qgN G e) st) 3 (6 * e + qgN G e) (qn o)) 4 e (qn (qgN G e + 1))) := by
  intro y hy
  obtain ⟨g1, g2, g3, g4, g5, g6⟩ := hG y hy
  have hy6 := (hg y hy).1
  have en : qgN (qgAdd G e st o) y = if y = e then qgN G e + 1 else qgN G y := rfl
  refine ⟨?_, fun k hk => ?_, ?_, ?_, ?_, ?_⟩
  · rw [en]
    by_cases c : y = e
    · subst c; rw [if_pos rfl, qU_s]
    · rw [if_neg c, qU_k c, qU_r (by omega), qU_r (by omega)]; exact g1
  · have es : qgS (qgAdd G e st o) y k = if y = e ∧ k = qgN G e then st else qgS G y k := rfl
    have eo : qgO (qgAdd G e st o) y k = if y = e ∧ k = qgN G e then o else qgO G y k := rfl
    rw [es, eo]
    rw [en] at hk
    by_cases c : y = e ∧ k = qgN G e
    · rw [if_pos c, if_pos c, c.1, c.2]
      exact ⟨by simp (disch := omega) only [qU_s, qU_a, qU_k], by simp (disch := omega) only [qU_s, qU_a, qU_k]⟩
    · rw [if_neg c, if_neg c]
      have hk2 : k < qgN G y := by
        by_cases c2 : y = e
        · subst c2; rw [if_pos rfl] at hk
          have : ¬ k = qgN G y := fun e => c ⟨rfl, e⟩
          omega
        · rw [if_neg c2] at hk; exact hk
      have hne : 6 * y + k ≠ 6 * e + qgN G e := by
        intro h
        exact c (by omega)
      obtain ⟨a1, a2⟩ := g2 k hk2
      exact ⟨by simp (disch := omega) only [qU_r]; rw [qU_k hne]; exact a1, by simp (disch := omega) only [qU_r]; rw [qU_k hne]; simp (disch := omega) only [qU_r]; exact a2⟩
  · simp (disch := omega) only [qU_r]; exact g3
  · simp (disch := omega) only [qU_r]; exact g4
  · simp (disch := omega) only [qU_r]; exact g5
  · simp (disch := omega) only [qU_r]; exact g6
/-- a call whose state is untouched but for the tag -/
theorem qRG_56 {x : Int32} (hG : qRG G I) : qRG G (qU I 1 56 x) := qRG_fr hG fun a h1 h2 => qU_r (by omega)
theorem rSlot106 {e n s1 o1 : Nat} (he : e < 10) (h6 : n < 6) (hs1 : s1 < 1024) (i4 : I 4 e = qn n) (h : Bool) : (zg (zk (qD I) 1 = 8) (zg (zk (qD I) (zR (qD I) 1 2) = 100) (zg (¬ (qn e < 0 ∨ zl (qD I) (zR (qD I) 1 2) ≤ (qn e).toNatClampNeg)) (if qb h = 0 then fX8_slot_106 1 (qn e) (qn o1) (zR (qD I) 1 0) ((6 * qn e) + (zI (qD I) (zR (qD I) 1 2) (qn e).toNatClampNeg)) (qn s1) 0 (qD I) else fX8_slot_106 1 (qn e) (qn o1) (zR (qD I) 1 0) ((6 * qn e) + (zI (qD I) (zR (qD I) 1 2) (qn e).toNatClampNeg)) (qn s1) 1024 (qD I))))) = fX8_slot_139 10000 1 (qn e) (qn 0) (qD (qU (qU (qU I 2 (6 * e + n) (qn s1 ||| (if h = true then qn 1024 else qn 0))) 3 (6 * e + n) (qn o1)) 4 e (qn (n + 1)))) := by
  unfold fX8_slot_106
  simp only [↓qlet, qdr_0, qdr_1, qdr_2, qD_s]
  cases h with
  | true => simp (disch := omega) only [↓qlet, eq_self, qzg_t, qzb_some, ↓reduceIte, not_or, not_false_eq_true, not_true_eq_false, and_true, true_and, and_self, or_false, false_or, true_or, or_true, and_false, false_and, qlit, qneg, qof, qn_add, qn_mul, qn_s, qn_z, qn_d, qn_dz, qm_1, qt_1, qt_0, qb_0, qb_1, qb_01, qb01b, q01_0, q01_1, qo_s, qo_n, qn_c, qn_le, qn_lt, qn_eq, qn_ne_m, qm_ne_n, qm_lt, qm_le, qn_lt_m, qn_le_m, qn_sub, qn_div, qn_mod, qle_t, qle_f, qlt_t, qlt_f, qeq_t, qeq_f, Nat.add_sub_cancel, qD_I, qD_s, qU_s, qU_a, qU_k, qdk_1, qdk_2, qdk_3, qdk_4, qdk_5, qdk_6, qdk_7, qdk_8, qdk_9, qdk_10, qdk_11, qdk_12, qdk_13, qdk_14, qdk_15, qdk_16, qdk_17, qdk_18, qdk_19, qdk_20, qdk_21, qdk_22, qdk_23, qdk_24, qdk_25, qdk_26, qdk_27, qdk_28, qdk_29, qdk_30, qdk_31, qdk_32, qdk_33, qdk_34, qdk_35, qdk_36, qdk_37, qdk_38, qdk_39, qdk_40, qdk_41, qdk_42, qdk_43, qdk_44, qdl_2, qdl_3, qdl_4, qdl_5, qdl_6, qdl_7, qdl_8, qdl_9, qdl_10, qdl_11, qdl_12, qdl_13, qdl_14, qdl_15, qdl_16, qdl_17, qdl_18, qdl_19, qdl_20, qdl_21, qdl_22, qdl_23, qdl_24, qdl_25, qdl_26, qdl_27, qdl_28, qdl_29, qdl_30, qdl_31, qdl_32, qdl_33, qdl_34, qdl_35, qdl_36, qdl_37, qdl_38, qdl_39, qdl_40, qdl_41, qdl_42, qdl_43, qdl_44, qdr_0, qdr_1, qdr_2, qdr_3, qdr_4, qdr_5, qdr_6, qdr_7, qdr_8, qdr_9, qdr_10, qdr_11, qdr_12, qdr_15, qdr_16, qdr_19, qdr_20, qdr_21, qdr_22, qdr_26, qdr_27, qdr_28, qdr_29, qdr_30, qdr_34, qdr_35, qdr_37, qdr_38, qdr_39, qdr_40, qdr_42, qdr_43, qdr_44, qdr_45, qdr_46, qdr_47, qdr_48, qdr_49, qdr_50, qdr_51, qdr_53, qdr_54, qdr_55, i4, qb_t]
  | false => simp (disch := omega) only [↓qlet, eq_self, qzg_t, qzb_some, ↓reduceIte, not_or, not_false_eq_true, not_true_eq_false, and_true, true_and, and_self, or_false, false_or, true_or, or_true, and_false, false_and, qlit, qneg, qof, qn_add, qn_mul, qn_s, qn_z, qn_d, qn_dz, qm_1, qt_1, qt_0, qb_0, qb_1, qb_01, qb01b, q01_0, q01_1, qo_s, qo_n, qn_c, qn_le, qn_lt, qn_eq, qn_ne_m, qm_ne_n, qm_lt, qm_le, qn_lt_m, qn_le_m, qn_sub, qn_div, qn_mod, qle_t, qle_f, qlt_t, qlt_f, qeq_t, qeq_f, Nat.add_sub_cancel, qD_I, qD_s, qU_s, qU_a, qU_k, qdk_1, qdk_2, qdk_3, qdk_4, qdk_5, qdk_6, qdk_7, qdk_8, qdk_9, qdk_10, qdk_11, qdk_12, qdk_13, qdk_14, qdk_15, qdk_16, qdk_17, qdk_18, qdk_19, qdk_20, qdk_21, qdk_22, qdk_23, qdk_24, qdk_25, qdk_26, qdk_27, qdk_28, qdk_29, qdk_30, qdk_31, qdk_32, qdk_33, qdk_34, qdk_35, qdk_36, qdk_37, qdk_38, qdk_39, qdk_40, qdk_41, qdk_42, qdk_43, qdk_44, qdl_2, qdl_3, qdl_4, qdl_5, qdl_6, qdl_7, qdl_8, qdl_9, qdl_10, qdl_11, qdl_12, qdl_13, qdl_14, qdl_15, qdl_16, qdl_17, qdl_18, qdl_19, qdl_20, qdl_21, qdl_22, qdl_23, qdl_24, qdl_25, qdl_26, qdl_27, qdl_28, qdl_29, qdl_30, qdl_31, qdl_32, qdl_33, qdl_34, qdl_35, qdl_36, qdl_37, qdl_38, qdl_39, qdl_40, qdl_41, qdl_42, qdl_43, qdl_44, qdr_0, qdr_1, qdr_2, qdr_3, qdr_4, qdr_5, qdr_6, qdr_7, qdr_8, qdr_9, qdr_10, qdr_11, qdr_12, qdr_15, qdr_16, qdr_19, qdr_20, qdr_21, qdr_22, qdr_26, qdr_27, qdr_28, qdr_29, qdr_30, qdr_34, qdr_35, qdr_37, qdr_38, qdr_39, qdr_40, qdr_42, qdr_43, qdr_44, qdr_45, qdr_46, qdr_47, qdr_48, qdr_49, qdr_50, qdr_51, qdr_53, qdr_54, qdr_55, i4, qb_f, Bool.false_eq_true]
theorem rSlotBack (hA : qRA I A) {e : Nat} (he : e < 10) (h6 : qgN A.1 e < 6) (a b c : Int32) : qRA (qU (qU (qU (qU (qU I 1 56 (qn 0)) 2 (6 * e + qgN A.1 e) a) 3 (6 * e + qgN A.1 e) b) 4 e c) 4 e (qn (qgN A.1 e))) A := by
  obtain ⟨⟨hg, hEk, hn, hk⟩, hG, hE, hT, hV, hX, h14, h18⟩ := hA
  refine ⟨⟨hg, hEk, hn, hk⟩, ?_, qREn_fr hE fun a h1 h2 => ?_, qRT_fr hT ?_ ?_ ?_, ?_, qRX_eq hX fun a h1 h2 => ?_, ?_, ?_⟩
  · intro y hy
    obtain ⟨q1, q2, q3, q4, q5, q6⟩ := hG y hy
    have hy6 := (hg y hy).1
    refine ⟨?_, fun k hk => ?_, ?_, ?_, ?_, ?_⟩
    · by_cases c : y = e
      · subst c; exact qU_s ..
      · rw [qU_k c, qU_k c]; simp (disch := omega) only [qU_r]; exact q1
    · have hne : 6 * y + k ≠ 6 * e + qgN A.1 e := by
        intro h
        have : y = e := by omega
        subst this
        omega
      obtain ⟨a1, a2⟩ := q2 k hk
      exact ⟨by simp (disch := omega) only [qU_r]; rw [qU_k hne]; simp (disch := omega) only [qU_r]; exact a1, by simp (disch := omega) only [qU_r]; rw [qU_k hne]; simp (disch := omega) only [qU_r]; exact a2⟩
    · simp (disch := omega) only [qU_r]; exact q3
    · simp (disch := omega) only [qU_r]; exact q4
    · simp (disch := omega) only [qU_r]; exact q5
    · simp (disch := omega) only [qU_r]; exact q6
  · simp (disch := omega) only [qU_r]
  · simp (disch := omega) only [qU_s, qU_a, qU_k]
  · simp (disch := omega) only [qU_r]
  · simp (disch := omega) only [qU_r]
  · unfold qRVs at hV ⊢
    simp (disch := omega) only [qU_s, qU_a, qU_k]
    exact hV
  · simp (disch := omega) only [qU_r]
  · simp (disch := omega) only [qU_s, qU_a, qU_k]; exact h14
  · simp (disch := omega) only [qU_s, qU_a, qU_k]; exact h18
theorem rSlot (hA : qRA I A) (x s : Int32) (h : Bool) (o : Int32) : qRAns I (qoSlot A x s h o) (fX8_slot 1 x s (qb h) o (qD I)) := by
  obtain ⟨b, hb, hb2⟩ := rSlotFront (I := I) x s h o
  rw [hb]
  have hA0 := hA
  obtain ⟨⟨hg, hEk, hn, hk⟩, hG, hE, hT, hV, hX, h14, h18⟩ := hA
  unfold fX8_slot_43 fX8_slot_70 qoSlot
  cases hx : qin x 10 with
  | none =>
    have hgo := rGoes (I := I) false b false
    rw [Bool.false_and, Bool.false_and] at hgo
    unfold fX8_slot_71
    rw [if_pos (show qb (none : Option Nat).isSome = 0 from rfl), qzg_i (qdk_1 _)]
    have hgo : fX8_goes 1 (qb (none : Option Nat).isSome) (qb b) 0 (qD I) = _ := hgo
    rw [hgo, qzb_some, if_pos (show qb false = 0 from rfl)]
    exact rRefuse hA0 (by simp [qtag])
  | some e =>
    obtain ⟨he, rfl⟩ := qin_s (by omega) hx
    have g1 := (hG e he).1
    have h6 := (hg e he).1
    dsimp only
    have hfr : (if qb (some e).isSome = 0 then fX8_slot_71 1 (qn e) s (qb h) o 1 (qb (some e).isSome) (qb b) 0 (qD I) else zg (zk (qD I) 1 = 8) (zg (zk (qD I) (zR (qD I) 1 2) = 100) (zg (¬ (qn e < 0 ∨ zl (qD I) (zR (qD I) 1 2) ≤ (qn e).toNatClampNeg)) (if 6 ≤ (zI (qD I) (zR (qD I) 1 2) (qn e).toNatClampNeg) then fX8_slot_71 1 (qn e) s (qb h) o 1 (qb (some e).isSome) (qb b) 0 (qD I) else fX8_slot_71 1 (qn e) s (qb h) o 1 (qb (some e).isSome) (qb b) 1 (qD I))))) = fX8_slot_71 1 (qn e) s (qb h) o 1 (qb true) (qb b) (qb (decide (qgN A.1 e < 6))) (qD I) := by
      have e1 : (some e).isSome = true := rfl
      rw [e1]
      by_cases c : qgN A.1 e < 6
      · rw [decide_eq_true c]
        simp (disch := omega) only [↓qlet, eq_self, qzg_t, qzb_some, ↓reduceIte, not_or, not_false_eq_true, not_true_eq_false, and_true, true_and, and_self, or_false, false_or, true_or, or_true, and_false, false_and, qlit, qneg, qof, qn_add, qn_mul, qn_s, qn_z, qn_d, qn_dz, qm_1, qt_1, qt_0, qb_0, qb_1, qb_01, qb01b, q01_0, q01_1, qo_s, qo_n, qn_c, qn_le, qn_lt, qn_eq, qn_ne_m, qm_ne_n, qm_lt, qm_le, qn_lt_m, qn_le_m, qn_sub, qn_div, qn_mod, qle_t, qle_f, qlt_t, qlt_f, qeq_t, qeq_f, Nat.add_sub_cancel, qD_I, qD_s, qU_s, qU_a, qU_k, qdk_1, qdk_2, qdk_3, qdk_4, qdk_5, qdk_6, qdk_7, qdk_8, qdk_9, qdk_10, qdk_11, qdk_12, qdk_13, qdk_14, qdk_15, qdk_16, qdk_17, qdk_18, qdk_19, qdk_20, qdk_21, qdk_22, qdk_23, qdk_24, qdk_25, qdk_26, qdk_27, qdk_28, qdk_29, qdk_30, qdk_31, qdk_32, qdk_33, qdk_34, qdk_35, qdk_36, qdk_37, qdk_38, qdk_39, qdk_40, qdk_41, qdk_42, qdk_43, qdk_44, qdl_2, qdl_3, qdl_4, qdl_5, qdl_6, qdl_7, qdl_8, qdl_9, qdl_10, qdl_11, qdl_12, qdl_13, qdl_14, qdl_15, qdl_16, qdl_17, qdl_18, qdl_19, qdl_20, qdl_21, qdl_22, qdl_23, qdl_24, qdl_25, qdl_26, qdl_27, qdl_28, qdl_29, qdl_30, qdl_31, qdl_32, qdl_33, qdl_34, qdl_35, qdl_36, qdl_37, qdl_38, qdl_39, qdl_40, qdl_41, qdl_42, qdl_43, qdl_44, qdr_0, qdr_1, qdr_2, qdr_3, qdr_4, qdr_5, qdr_6, qdr_7, qdr_8, qdr_9, qdr_10, qdr_11, qdr_12, qdr_15, qdr_16, qdr_19, qdr_20, qdr_21, qdr_22, qdr_26, qdr_27, qdr_28, qdr_29, qdr_30, qdr_34, qdr_35, qdr_37, qdr_38, qdr_39, qdr_40, qdr_42, qdr_43, qdr_44, qdr_45, qdr_46, qdr_47, qdr_48, qdr_49, qdr_50, qdr_51, qdr_53, qdr_54, qdr_55, g1, qb_t]
      · rw [decide_eq_false c]
        simp (disch := omega) only [↓qlet, eq_self, qzg_t, qzb_some, ↓reduceIte, not_or, not_false_eq_true, not_true_eq_false, and_true, true_and, and_self, or_false, false_or, true_or, or_true, and_false, false_and, qlit, qneg, qof, qn_add, qn_mul, qn_s, qn_z, qn_d, qn_dz, qm_1, qt_1, qt_0, qb_0, qb_1, qb_01, qb01b, q01_0, q01_1, qo_s, qo_n, qn_c, qn_le, qn_lt, qn_eq, qn_ne_m, qm_ne_n, qm_lt, qm_le, qn_lt_m, qn_le_m, qn_sub, qn_div, qn_mod, qle_t, qle_f, qlt_t, qlt_f, qeq_t, qeq_f, Nat.add_sub_cancel, qD_I, qD_s, qU_s, qU_a, qU_k, qdk_1, qdk_2, qdk_3, qdk_4, qdk_5, qdk_6, qdk_7, qdk_8, qdk_9, qdk_10, qdk_11, qdk_12, qdk_13, qdk_14, qdk_15, qdk_16, qdk_17, qdk_18, qdk_19, qdk_20, qdk_21, qdk_22, qdk_23, qdk_24, qdk_25, qdk_26, qdk_27, qdk_28, qdk_29, qdk_30, qdk_31, qdk_32, qdk_33, qdk_34, qdk_35, qdk_36, qdk_37, qdk_38, qdk_39, qdk_40, qdk_41, qdk_42, qdk_43, qdk_44, qdl_2, qdl_3, qdl_4, qdl_5, qdl_6, qdl_7, qdl_8, qdl_9, qdl_10, qdl_11, qdl_12, qdl_13, qdl_14, qdl_15, qdl_16, qdl_17, qdl_18, qdl_19, qdl_20, qdl_21, qdl_22, qdl_23, qdl_24, qdl_25, qdl_26, qdl_27, qdl_28, qdl_29, qdl_30, qdl_31, qdl_32, qdl_33, qdl_34, qdl_35, qdl_36, qdl_37, qdl_38, qdl_39, qdl_40, qdl_41, qdl_42, qdl_43, qdl_44, qdr_0, qdr_1, qdr_2, qdr_3, qdr_4, qdr_5, qdr_6, qdr_7, qdr_8, qdr_9, qdr_10, qdr_11, qdr_12, qdr_15, qdr_16, qdr_19, qdr_20, qdr_21, qdr_22, qdr_26, qdr_27, qdr_28, qdr_29, qdr_30, qdr_34, qdr_35, qdr_37, qdr_38, qdr_39, qdr_40, qdr_42, qdr_43, qdr_44, qdr_45, qdr_46, qdr_47, qdr_48, qdr_49, qdr_50, qdr_51, qdr_53, qdr_54, qdr_55, g1, qb_t, qb_f]
    rw [hfr]
    have hgo := rGoes (I := I) true b (decide (qgN A.1 e < 6))
    unfold fX8_slot_71
    rw [qzg_i (qdk_1 _), hgo, qzb_some, Bool.true_and]
    cases hs : qin s 1024 with
    | none =>
      rw [hs] at hb2
      have hb2 : b = false := hb2
      rw [hb2, Bool.false_and, if_pos (show qb false = 0 from rfl)]
      exact rRefuse hA0 (by simp [qtag])
    | some s1 =>
      rw [hs] at hb2
      cases ho : qin o 4 with
      | none =>
        rw [ho] at hb2
        have hb2 : b = false := hb2
        rw [hb2, Bool.false_and, if_pos (show qb false = 0 from rfl)]
        exact rRefuse hA0 (by simp [qtag])
      | some o1 =>
        rw [ho] at hb2
        have hb2 : b = (decide (qn 0 < s) || h) := hb2
        obtain ⟨hs1, rfl⟩ := qin_s (by omega) hs
        obtain ⟨ho1, rfl⟩ := qin_s (by omega) ho
        dsimp only
        by_cases c0 : s1 = 0 ∧ h = false
        · rw [if_pos c0]
          have hb3 : b = false := by
            rw [hb2, c0.1, c0.2]; rfl
          rw [hb3, Bool.false_and, if_pos (show qb false = 0 from rfl)]
          exact rRefuse hA0 (by simp [qtag])
        · rw [if_neg c0]
          have hb3 : b = true := by
            rw [hb2]
            cases h with
            | true => exact Bool.or_true _
            | false =>
              rw [Bool.or_false]
              refine decide_eq_true ?_
              rw [qn_lt (by omega) (by omega)]
              have : ¬ s1 = 0 := fun e => c0 ⟨e, rfl⟩
              omega
          rw [hb3, Bool.true_and]
          by_cases c6 : 6 ≤ qgN A.1 e
          · rw [if_pos c6, decide_eq_false (by omega), if_pos (show qb false = 0 from rfl)]
            exact rRefuse hA0 (by simp [qtag])
          · rw [if_neg c6, decide_eq_true (by omega), if_neg (show ¬ qb true = 0 by decide)]
            obtain ⟨st, hst⟩ : ∃ st, st = qn s1 ||| (if h = true then qn 1024 else qn 0) := ⟨_, rfl⟩
            rw [← hst]
            have hSst : qS st := by
              rw [hst]
              refine qS_or ⟨s1, by omega, rfl⟩ ?_
              split
              · exact ⟨1024, by omega, rfl⟩
              · exact qS_z
            have hgA := qgAdd_ok hg he (by omega) hSst (o := o1) (by omega)
            obtain ⟨I1, hI1⟩ : ∃ I1, I1 = qU I 1 56 (qn 0) := ⟨_, rfl⟩
            have ht0 : qn (qtag true true true) = qn 0 := rfl
            rw [ht0, ← hI1]
            have i4 : I1 4 e = qn (qgN A.1 e) := by rw [hI1, qU_r (by omega)]; exact g1
            obtain ⟨J, hJ⟩ : ∃ J, J = qU (qU (qU I1 2 (6 * e + qgN A.1 e) st) 3 (6 * e + qgN A.1 e) (qn o1)) 4 e (qn (qgN A.1 e + 1)) := ⟨_, rfl⟩
            have hG1 : qRG A.1 I1 := by rw [hI1]; exact qRG_56 hG
            have hGJ : qRG (qgAdd A.1 e st o1) J := by rw [hJ]; exact qRG_add hG1 hg he (by omega) st o1
            rw [rSlot106 he (by omega) hs1 i4 h, ← hst, ← hJ, rSlotC he hGJ hgA]
            have jT : qRT J A.2.2.2.1 := qRT_fr hT (by rw [hJ, hI1]; simp (disch := omega) only [qU_s, qU_a, qU_k]) (by rw [hJ, hI1]; simp (disch := omega) only [qU_r]) (by rw [hJ, hI1]; simp (disch := omega) only [qU_r])
            have jE : qREn A.2.1 A.2.2.1 J := qREn_fr hE fun a h1 h2 => by rw [hJ, hI1]; simp (disch := omega) only [qU_r]
            have j56 : J 1 56 = qn 0 := by rw [hJ, hI1]; simp (disch := omega) only [qU_s, qU_a, qU_k]
            have j4 : J 4 e = qn (qgN A.1 e + 1) := by rw [hJ]; exact qU_s ..
            cases hcl : qClash (qgAdd A.1 e st o1) e with
            | none =>
              dsimp only
              obtain ⟨K, k1, k2, k3, -⟩ := rChange (A' := (qgAdd A.1 e st o1, A.2)) ⟨hgA, hEk, hn, hk⟩ hGJ jE jT
              refine ⟨K, ?_, k2, by rw [k3]; exact j56⟩
              unfold fX8_slot_211
              rw [qzg_i (qdk_1 _), k1, qzb_some]
              rfl
            | some u =>
              dsimp only
              refine ⟨qU J 4 e (qn (qgN A.1 e)), ?_, ?_, ?_⟩
              · unfold fX8_slot_186
                simp (disch := omega) only [↓qlet, eq_self, qzg_t, qzb_some, ↓reduceIte, not_or, not_false_eq_true, not_true_eq_false, and_true, true_and, and_self, or_false, false_or, true_or, or_true, and_false, false_and, qlit, qneg, qof, qn_add, qn_mul, qn_s, qn_z, qn_d, qn_dz, qm_1, qt_1, qt_0, qb_0, qb_1, qb_01, qb01b, q01_0, q01_1, qo_s, qo_n, qn_c, qn_le, qn_lt, qn_eq, qn_ne_m, qm_ne_n, qm_lt, qm_le, qn_lt_m, qn_le_m, qn_sub, qn_div, qn_mod, qle_t, qle_f, qlt_t, qlt_f, qeq_t, qeq_f, Nat.add_sub_cancel, qD_I, qD_s, qU_s, qU_a, qU_k, qdk_1, qdk_2, qdk_3, qdk_4, qdk_5, qdk_6, qdk_7, qdk_8, qdk_9, qdk_10, qdk_11, qdk_12, qdk_13, qdk_14, qdk_15, qdk_16, qdk_17, qdk_18, qdk_19, qdk_20, qdk_21, qdk_22, qdk_23, qdk_24, qdk_25, qdk_26, qdk_27, qdk_28, qdk_29, qdk_30, qdk_31, qdk_32, qdk_33, qdk_34, qdk_35, qdk_36, qdk_37, qdk_38, qdk_39, qdk_40, qdk_41, qdk_42, qdk_43, qdk_44, qdl_2, qdl_3, qdl_4, qdl_5, qdl_6, qdl_7, qdl_8, qdl_9, qdl_10, qdl_11, qdl_12, qdl_13, qdl_14, qdl_15, qdl_16, qdl_17, qdl_18, qdl_19, qdl_20, qdl_21, qdl_22, qdl_23, qdl_24, qdl_25, qdl_26, qdl_27, qdl_28, qdl_29, qdl_30, qdl_31, qdl_32, qdl_33, qdl_34, qdl_35, qdl_36, qdl_37, qdl_38, qdl_39, qdl_40, qdl_41, qdl_42, qdl_43, qdl_44, qdr_0, qdr_1, qdr_2, qdr_3, qdr_4, qdr_5, qdr_6, qdr_7, qdr_8, qdr_9, qdr_10, qdr_11, qdr_12, qdr_15, qdr_16, qdr_19, qdr_20, qdr_21, qdr_22, qdr_26, qdr_27, qdr_28, qdr_29, qdr_30, qdr_34, qdr_35, qdr_37, qdr_38, qdr_39, qdr_40, qdr_42, qdr_43, qdr_44, qdr_45, qdr_46, qdr_47, qdr_48, qdr_49, qdr_50, qdr_51, qdr_53, qdr_54, qdr_55, j4]
              · rw [hJ, hI1]; exact rSlotBack hA0 he (by omega) _ _ _
              · rw [qU_r (by omega)]; exact j56
end
