/-! THE REFERENCE: what a call is given, what it holds -/
/-- what calls ask of the last reading -/
def qRVs (I : Nat → Nat → Int32) (V : qV) : Prop := I 1 31 = qn V.2.2.1.length ∧ qAll (fun j t => I 21 j = qn t.1 ∧ I 22 j = qo t.2.1 ∧ I 23 j = qn t.2.2.1 ∧ I 24 j = qn t.2.2.2.1 ∧ I 25 j = qb t.2.2.2.2) V.2.2.1 ∧ I 1 32 = qn V.2.2.2.1 ∧ I 1 36 = qn V.2.2.2.2.2.length ∧ qAll (fun j e => I 26 j = qn e.1 ∧ I 27 j = qn e.2) V.2.2.2.2.2
def qRA (I : Nat → Nat → Int32) (A : qA) : Prop := qAok A ∧ qRG A.1 I ∧ qREn A.2.1 A.2.2.1 I ∧ qRT I A.2.2.2.1 ∧ qRVs I (qFA A).1 ∧ qRX I (qFA A).2 ∧ I 1 14 = qn A.2.2.2.2 ∧ I 1 18 = qn 0
section
variable {I : Nat → Nat → Int32} {A : qA}
theorem qRA_fr {J : Nat → Nat → Int32} (h : qRA I A) (h1 : ∀ k, k < 50 → J 1 k = I 1 k) (hf : ∀ a, 2 ≤ a → a ≤ 35 → J a = I a) : qRA J A := by
  obtain ⟨a1, a2, a3, a4, a5, a6, a7, a8⟩ := h
  refine ⟨a1, qRG_fr a2 fun a h1 h2 => hf a (by omega) (by omega), qREn_fr a3 fun a h1 h2 => hf a (by omega) (by omega), ?_, ?_, qRX_eq a6 fun a h1 h2 => hf a (by omega) (by omega), by rw [h1 _ (by omega)]; exact a7, by rw [h1 _ (by omega)]; exact a8⟩
  · unfold qRT at a4 ⊢
    rw [h1 _ (by omega), hf 13 (by omega) (by omega), hf 14 (by omega) (by omega)]
    exact a4
  · unfold qRVs at a5 ⊢
    rw [h1 _ (by omega), h1 32 (by omega), h1 36 (by omega), hf 21 (by omega) (by omega), hf 22 (by omega) (by omega), hf 23 (by omega) (by omega), hf 24 (by omega) (by omega), hf 25 (by omega) (by omega), hf 26 (by omega) (by omega), hf 27 (by omega) (by omega)]
    exact a5
theorem qRA_56 (h : qRA I A) (x : Int32) : qRA (qU I 1 56 x) A := qRA_fr h (fun k hk => by rw [qU_k (by omega)]) fun a h1 h2 => qU_r (by omega)
def qtag (a b c : Bool) : Nat := if a = true then (if b = true then (if c = true then 0 else 3) else 2) else 1
theorem rGoes (a b c : Bool) : fX8_goes 1 (qb a) (qb b) (qb c) (qD I) = some (qb (a && b && c), qD (qU I 1 56 (qn (qtag a b c)))) := by
  unfold fX8_goes fX8_goes_26 qtag
  cases a <;> cases b <;> cases c <;> simp (disch := omega) only [↓qlet, eq_self, qzg_t, qzb_some, ↓reduceIte, not_or, not_false_eq_true, not_true_eq_false, and_true, true_and, and_self, or_false, false_or, true_or, or_true, and_false, false_and, qlit, qneg, qof, qn_add, qn_mul, qn_s, qn_z, qn_d, qn_dz, qm_1, qt_1, qt_0, qb_0, qb_1, qb_01, qb01b, q01_0, q01_1, qo_s, qo_n, qn_c, qn_le, qn_lt, qn_eq, qn_ne_m, qm_ne_n, qm_lt, qm_le, qn_lt_m, qn_le_m, qn_sub, qn_div, qn_mod, qle_t, qle_f, qlt_t, qlt_f, qeq_t, qeq_f, Nat.add_sub_cancel, qD_I, qD_s, qU_s, qU_a, qU_k, qdk_1, qdk_2, qdk_3, qdk_4, qdk_5, qdk_6, qdk_7, qdk_8, qdk_9, qdk_10, qdk_11, qdk_12, qdk_13, qdk_14, qdk_15, qdk_16, qdk_17, qdk_18, qdk_19, qdk_20, qdk_21, qdk_22, qdk_23, qdk_24, qdk_25, qdk_26, qdk_27, qdk_28, qdk_29, qdk_30, qdk_31, qdk_32, qdk_33, qdk_34, qdk_35, qdk_36, qdk_37, qdk_38, qdk_39, qdk_40, qdk_41, qdk_42, qdk_43, qdk_44, qdl_2, qdl_3, qdl_4, qdl_5, qdl_6, qdl_7, qdl_8, qdl_9, qdl_10, qdl_11, qdl_12, qdl_13, qdl_14, qdl_15, qdl_16, qdl_17, qdl_18, qdl_19, qdl_20, qdl_21, qdl_22, qdl_23, qdl_24, qdl_25, qdl_26, qdl_27, qdl_28, qdl_29, qdl_30, qdl_31, qdl_32, qdl_33, qdl_34, qdl_35, qdl_36, qdl_37, qdl_38, qdl_39, qdl_40, qdl_41, qdl_42, qdl_43, qdl_44, qdr_0, qdr_1, qdr_2, qdr_3, qdr_4, qdr_5, qdr_6, qdr_7, qdr_8, qdr_9, qdr_10, qdr_11, qdr_12, qdr_15, qdr_16, qdr_19, qdr_20, qdr_21, qdr_22, qdr_26, qdr_27, qdr_28, qdr_29, qdr_30, qdr_34, qdr_35, qdr_37, qdr_38, qdr_39, qdr_40, qdr_42, qdr_43, qdr_44, qdr_45, qdr_46, qdr_47, qdr_48, qdr_49, qdr_50, qdr_51, qdr_53, qdr_54, qdr_55, qb_t, qb_f, Bool.false_eq_true, Bool.and_self, Bool.and_false, Bool.false_and, Bool.true_and, Bool.and_true]
theorem rIn {hi : Nat} (h : hi < 1000000) (x : Int32) (M : zM) : fX8_in x (qn 0) (qn hi) M = some (qb (qin x (hi + 1)).isSome, M) := by
  unfold fX8_in
  cases hx : qin x (hi + 1) with
  | none =>
    rcases qin_n hx with c | c
    · rw [if_pos (show x < qn 0 from c)]; rfl
    · by_cases c1 : x < qn 0
      · rw [if_pos c1]; rfl
      · rw [if_neg c1]
        have c5 : qn x.toNatClampNeg = x := Int32.ofNat_toNatClampNeg x (Int32.not_lt.mp c1)
        have c6 := Int32.toNatClampNeg_lt x
        rw [← c5, qn_lt (by omega) (by omega)] at c
        rw [if_pos (by rw [← c5, qn_lt (by omega) (by omega)]; omega)]
        rfl
  | some k =>
    obtain ⟨h1, rfl⟩ := qin_s (by omega) hx
    rw [if_neg (by rw [qn_lt (by omega) (by omega)]; omega), if_neg (by rw [qn_lt (by omega) (by omega)]; omega)]
    rfl
theorem rInD {n : Nat} (h : n < 1000000) (x : Int32) (M : zM) : fX8_in x (qn 0) (qn n - qn 1) M = some (qb (qin x n).isSome, M) := by
  cases n with
  | zero =>
    have hx : qin x 0 = none := by
      unfold qin
      rw [if_neg]
      intro c
      have := Int32.lt_of_le_of_lt c.1 c.2
      exact absurd this (by decide)
    rw [hx]
    unfold fX8_in
    rw [show qn 0 - qn 1 = qm from rfl]
    by_cases c1 : x < qn 0
    · rw [if_pos c1]; rfl
    · rw [if_neg c1]
      have c5 : qn x.toNatClampNeg = x := Int32.ofNat_toNatClampNeg x (Int32.not_lt.mp c1)
      have c6 := Int32.toNatClampNeg_lt x
      rw [if_pos (by rw [← c5, qm_lt (by omega)]; exact True.intro)]
      rfl
  | succ n =>
    rw [qn_sub (by omega), Nat.add_sub_cancel]
    exact rIn (by omega) x M
theorem rIsTok (s v : Int32) (M : zM) : fX8_isToken s v M = some (qb (qKin s v), M) := by
  have h9 : fX8_in v (qn 0) (qn 9) M = some (qb (qin v 10).isSome, M) := rIn (by omega) v M
  have h5 : fX8_in v (qn 0) (qn 5) M = some (qb (qin v 6).isSome, M) := rIn (by omega) v M
  have h3 : fX8_in v (qn 0) (qn 3) M = some (qb (qin v 4).isSome, M) := rIn (by omega) v M
  have h8 : fX8_in s (qn 0) (qn 8) M = some (qb (qin s 9).isSome, M) := rIn (by omega) s M
  have h32 : fX8_in v (qn 32) (qn 126) M = some (qb (decide (qn 32 ≤ v ∧ v ≤ qn 126)), M) := by
    unfold fX8_in
    by_cases c1 : v < qn 32
    · rw [if_pos c1, decide_eq_false (fun h => Int32.not_lt.mpr h.1 c1)]; rfl
    · rw [if_neg c1]
      by_cases c2 : qn 126 < v
      · rw [if_pos c2, decide_eq_false (fun h => Int32.not_lt.mpr h.2 c2)]; rfl
      · rw [if_neg c2, decide_eq_true ⟨Int32.not_lt.mp c1, Int32.not_lt.mp c2⟩]; rfl
  unfold fX8_isToken fX8_isToken_9 qKin
  cases hs : qin s 9 with
  | none =>
    have hne : ∀ k, k < 9 → ¬ s = qn k := fun k hk h => by rw [h, qin_of (by omega) hk] at hs; cases hs
    rw [hs] at h8
    rw [if_neg (show ¬ s = 0 from hne 0 (by omega)), if_neg (show ¬ s = 1 from hne 1 (by omega)), if_neg (show ¬ s = 4 from hne 4 (by omega)), if_neg (show ¬ s = 6 from hne 6 (by omega)), if_neg (show ¬ s = 7 from hne 7 (by omega))]
    have h8 : fX8_in s 0 8 M = some (qn 0, M) := h8
    rw [h8, qzb_some, qzg_i (show qn 0 = 0 ∨ qn 0 = 1 from Or.inl rfl)]
    rfl
  | some k =>
    obtain ⟨hk, rfl⟩ := qin_s (by omega) hs
    rw [hs] at h8
    simp only [qlit, qn_eq (show k < 2147483648 by omega) (show 0 < 2147483648 by omega), qn_eq (show k < 2147483648 by omega) (show 1 < 2147483648 by omega), qn_eq (show k < 2147483648 by omega) (show 4 < 2147483648 by omega), qn_eq (show k < 2147483648 by omega) (show 6 < 2147483648 by omega), qn_eq (show k < 2147483648 by omega) (show 7 < 2147483648 by omega), h9, h5, h3, h8, h32, qzb_some, qb_01, qzg_t]
    by_cases c0 : k = 0
    · simp [c0]
    · by_cases c1 : k = 1
      · simp [c1]
      · by_cases c4 : k = 4
        · simp [c4]
        · by_cases c6 : k = 6
          · simp [c6]
          · by_cases c7 : k = 7
            · simp [c7]
            · simp [c0, c1, c4, c6, c7, qb]
/-- what was changed is read -/
theorem rChange {A' : qA} (hA' : qAok A') (hG : qRG A'.1 I) (hE : qREn A'.2.1 A'.2.2.1 I) (hT : qRT I A'.2.2.2.1) : ∃ J, fX8_allAnew 1 (qD I) = some (qn 0, qD J) ∧ qRA J (qNew A') ∧ J 1 56 = I 1 56 ∧ (∀ a, a ≠ 1 → a ≤ 14 → J a = I a) := by
  obtain ⟨hg, hEk, hn, hk⟩ := hA'
  obtain ⟨J, j1, j2, j3, j4, j5⟩ := rReadsText hg hEk hk hn hG hE hT
  have j13 : J 1 13 = qn A'.2.2.2.1.length := by rw [j5.2 13 (by omega) (by omega) (by omega) (by omega) (by omega) (by omega) (by omega) (by omega) (by omega) (by omega)]; exact hT.1
  refine ⟨qU J 1 14 (qn A'.2.2.2.1.length), ?_, ⟨⟨hg, hEk, hn, hk⟩, qRG_fr hG fun a h1 h2 => by rw [qU_r (by omega), j5.1 a (by omega) (by omega)], qREn_fr hE fun a h1 h2 => by rw [qU_r (by omega), j5.1 a (by omega) (by omega)], ⟨by rw [qU_k (by omega)]; exact j13, fun i k hi => ?_⟩, ?_, qRX_eq j3 fun a h1 h2 => qU_r (by omega), qU_s .., by rw [qU_k (by omega)]; exact j4⟩, ?_, fun a h1 h2 => by rw [qU_r h1, j5.1 a h1 (by omega)]⟩
  · unfold fX8_allAnew
    simp (disch := omega) only [↓qlet, eq_self, qzg_t, qzb_some, ↓reduceIte, not_or, not_false_eq_true, not_true_eq_false, and_true, true_and, and_self, or_false, false_or, true_or, or_true, and_false, false_and, qlit, qneg, qof, qn_add, qn_mul, qn_s, qn_z, qn_d, qn_dz, qm_1, qt_1, qt_0, qb_0, qb_1, qb_01, qb01b, q01_0, q01_1, qo_s, qo_n, qn_c, qn_le, qn_lt, qn_eq, qn_ne_m, qm_ne_n, qm_lt, qm_le, qn_lt_m, qn_le_m, qn_sub, qn_div, qn_mod, qle_t, qle_f, qlt_t, qlt_f, qeq_t, qeq_f, Nat.add_sub_cancel, qD_I, qD_s, qU_s, qU_a, qU_k, qdk_1, qdk_2, qdk_3, qdk_4, qdk_5, qdk_6, qdk_7, qdk_8, qdk_9, qdk_10, qdk_11, qdk_12, qdk_13, qdk_14, qdk_15, qdk_16, qdk_17, qdk_18, qdk_19, qdk_20, qdk_21, qdk_22, qdk_23, qdk_24, qdk_25, qdk_26, qdk_27, qdk_28, qdk_29, qdk_30, qdk_31, qdk_32, qdk_33, qdk_34, qdk_35, qdk_36, qdk_37, qdk_38, qdk_39, qdk_40, qdk_41, qdk_42, qdk_43, qdk_44, qdl_2, qdl_3, qdl_4, qdl_5, qdl_6, qdl_7, qdl_8, qdl_9, qdl_10, qdl_11, qdl_12, qdl_13, qdl_14, qdl_15, qdl_16, qdl_17, qdl_18, qdl_19, qdl_20, qdl_21, qdl_22, qdl_23, qdl_24, qdl_25, qdl_26, qdl_27, qdl_28, qdl_29, qdl_30, qdl_31, qdl_32, qdl_33, qdl_34, qdl_35, qdl_36, qdl_37, qdl_38, qdl_39, qdl_40, qdl_41, qdl_42, qdl_43, qdl_44, qdr_0, qdr_1, qdr_2, qdr_3, qdr_4, qdr_5, qdr_6, qdr_7, qdr_8, qdr_9, qdr_10, qdr_11, qdr_12, qdr_15, qdr_16, qdr_19, qdr_20, qdr_21, qdr_22, qdr_26, qdr_27, qdr_28, qdr_29, qdr_30, qdr_34, qdr_35, qdr_37, qdr_38, qdr_39, qdr_40, qdr_42, qdr_43, qdr_44, qdr_45, qdr_46, qdr_47, qdr_48, qdr_49, qdr_50, qdr_51, qdr_53, qdr_54, qdr_55, j1, j13]
  · rw [qU_r (by omega), qU_r (by omega), j5.1 13 (by omega) (by omega), j5.1 14 (by omega) (by omega)]
    exact hT.2 i k hi
  · obtain ⟨z, h2, h3, h4, h5, h6, h7, h8, h9⟩ := j2
    refine ⟨?_, ?_, ?_, ?_, ?_⟩
    · rw [qU_k (by omega)]; exact h3
    · simp (disch := omega) only [qU_r]; exact h4
    · rw [qU_k (by omega)]; exact h5
    · rw [qU_k (by omega)]; exact h7
    · simp (disch := omega) only [qU_r]; exact h8
  · rw [qU_k (by omega), j5.2 56 (by omega) (by omega) (by omega) (by omega) (by omega) (by omega) (by omega) (by omega) (by omega) (by omega)]
theorem qRT_fr {J : Nat → Nat → Int32} {ks : List qK} (h : qRT I ks) (h1 : J 1 13 = I 1 13) (h13 : J 13 = I 13) (h14 : J 14 = I 14) : qRT J ks := by
  unfold qRT
  rw [h1, h13, h14]
  exact h
end
