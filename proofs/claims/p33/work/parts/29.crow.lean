/-! THE CLASS: rows of tokens are gone through -/
def qCK (I : Nat → Nat → Int32) (x : Nat) (ks : List qK) : Prop := I x 2 = qn ks.length ∧ ∀ i k, ks[i]? = some k → I (x + 1) i = qn k.1 ∧ I (x + 2) i = k.2
theorem qCK_fr {I J : Nat → Nat → Int32} {x : Nat} {ks : List qK} (h : qCK I x ks) (h0 : J x 2 = I x 2) (h1 : J (x + 1) = I (x + 1)) (h2 : J (x + 2) = I (x + 2)) : qCK J x ks := by
  unfold qCK
  rw [h0, h1, h2]
  exact h
section
variable {w : Bool} {I : Nat → Nat → Int32} {G : qG} {V : qV} {p B x n i : Nat} {ks : List qK}
theorem cSortAt (hx : qRw x n) (hk : qCK I x ks) (hn : ks.length ≤ n) (hi : i < 100000) (hs : ∀ k ∈ ks, k.1 ≤ 8) : fX3_sortAt x (qn i) (qC w I) = some (qo (qSo ks i), qC w I) := by
  obtain ⟨h1, h2⟩ := hk
  have hx9 := hx.2.2
  unfold fX3_sortAt qSo
  rcases Nat.lt_or_ge i ks.length with h | h
  · have hg : ks[i]? = some ks[i] := List.getElem?_eq_getElem h
    obtain ⟨a1, a2⟩ := h2 i _ hg
    simp (disch := omega) only [↓qlet, eq_self, qzg_t, qzb_some, ↓reduceIte, not_or, not_false_eq_true, not_true_eq_false, and_true, true_and, and_self, or_false, false_or, true_or, or_true, and_false, false_and, qlit, qneg, qof, qn_add, qn_mul, qn_s, qn_z, qn_d, qn_dz, qm_1, qt_1, qt_0, qb_0, qb_1, qb_01, qb01b, q01_0, q01_1, qo_s, qo_n, qn_c, qn_le, qn_lt, qn_eq, qn_ne_m, qm_ne_n, qm_lt, qm_le, qn_lt_m, qn_le_m, qn_sub, qn_div, qn_mod, qle_t, qle_f, qlt_t, qlt_f, qeq_t, qeq_f, Nat.add_sub_cancel, qC_I, qC_s, qU_s, qU_a, qU_k, qRw_k _ _ hx, qRw_k1 _ _ hx, qRw_k2 _ _ hx, qRw_l1 _ _ hx, qRw_l2 _ _ hx, qRw_r0 _ _ hx, qRw_r1 _ _ hx, h1, a1, hg, Option.map_some]
  · rw [List.getElem?_eq_none h]
    simp (disch := omega) only [↓qlet, eq_self, qzg_t, qzb_some, ↓reduceIte, not_or, not_false_eq_true, not_true_eq_false, and_true, true_and, and_self, or_false, false_or, true_or, or_true, and_false, false_and, qlit, qneg, qof, qn_add, qn_mul, qn_s, qn_z, qn_d, qn_dz, qm_1, qt_1, qt_0, qb_0, qb_1, qb_01, qb01b, q01_0, q01_1, qo_s, qo_n, qn_c, qn_le, qn_lt, qn_eq, qn_ne_m, qm_ne_n, qm_lt, qm_le, qn_lt_m, qn_le_m, qn_sub, qn_div, qn_mod, qle_t, qle_f, qlt_t, qlt_f, qeq_t, qeq_f, Nat.add_sub_cancel, qC_I, qC_s, qU_s, qU_a, qU_k, qRw_k _ _ hx, qRw_k1 _ _ hx, qRw_k2 _ _ hx, qRw_l1 _ _ hx, qRw_l2 _ _ hx, qRw_r0 _ _ hx, qRw_r1 _ _ hx, h1, Option.map_none]
theorem cSortAh (hx : qRw x n) (hk : qCK I x ks) (hn : ks.length ≤ n) (hi : i < 100000) (hs : ∀ k ∈ ks, k.1 ≤ 8) : fX3_sortAt x (qn i - qn 1) (qC w I) = some (qo (qAhead ks i), qC w I) := by
  unfold qAhead
  cases i with
  | zero =>
    unfold fX3_sortAt
    simp (disch := omega) only [↓qlet, eq_self, qzg_t, qzb_some, ↓reduceIte, not_or, not_false_eq_true, not_true_eq_false, and_true, true_and, and_self, or_false, false_or, true_or, or_true, and_false, false_and, qlit, qneg, qof, qn_add, qn_mul, qn_s, qn_z, qn_d, qn_dz, qm_1, qt_1, qt_0, qb_0, qb_1, qb_01, qb01b, q01_0, q01_1, qo_s, qo_n, qn_c, qn_le, qn_lt, qn_eq, qn_ne_m, qm_ne_n, qm_lt, qm_le, qn_lt_m, qn_le_m, qn_sub, qn_div, qn_mod, qle_t, qle_f, qlt_t, qlt_f, qeq_t, qeq_f, Nat.add_sub_cancel, qC_I, qC_s, qU_s, qU_a, qU_k]
  | succ i =>
    rw [qn_s, cSortAt hx hk hn (by omega) hs]
    simp
theorem qSo_lt (hs : ∀ k ∈ ks, k.1 ≤ 8) : ∀ q, qSo ks i = some q → q ≤ 8 := by
  intro q hq
  unfold qSo at hq
  cases h : ks[i]? with
  | none => rw [h] at hq; cases hq
  | some k =>
    rw [h] at hq
    injection hq with hq
    have hq : k.1 = q := hq
    have := hs k (List.mem_of_getElem? h)
    omega
theorem qo_eq {a : Option Nat} {c : Nat} (ha : ∀ q, a = some q → q ≤ 8) (hc : c ≤ 8) : (qo a = qn c) = (a = some c) := by
  cases a with
  | none => simp (disch := omega) [qo, qm_ne_n]
  | some q => have := ha q rfl; simp (disch := omega) [qo, qn_eq]
theorem cLine (hx : qRw x n) (hk : qCK I x ks) (hn : ks.length ≤ n) (hi : i < 99999) (hs : ∀ k ∈ ks, k.1 ≤ 8) : fX2_isLineLeftOut x (qn i) (qC w I) = some (qb (qLine ks i), qC w I) := by
  have h1 := cSortAh (w := w) hx hk hn (i := i) (by omega) hs
  have h2 := cSortAt (w := w) hx hk hn (i := i + 1) (by omega) hs
  have h3 : ∀ q, qAhead ks i = some q → q ≤ 8 := by
    unfold qAhead
    split
    · intro q h; cases h
    · exact qSo_lt hs
  have h4 := qSo_lt (ks := ks) (i := i + 1) hs
  have hx9 := hx.2.2
  unfold fX2_isLineLeftOut qLine fX2_isLineLeftOut_35
  simp (disch := omega) only [↓qlet, eq_self, qzg_t, qzb_some, qRw_k _ _ hx, qRw_k1 _ _ hx, qRw_k2 _ _ hx, qRw_l1 _ _ hx, qRw_l2 _ _ hx, qRw_r0 _ _ hx, qRw_r1 _ _ hx, qlit, qn_add, h1, h2, qo_eq h3, qo_eq h4]
  by_cases c1 : qAhead ks i = some 0
  · simp [c1, qb]
  · by_cases c2 : qAhead ks i = some 2
    · simp [c2, qb]
    · by_cases c3 : qSo ks (i + 1) = some 1
      · simp [c1, c2, c3, qb]
      · by_cases c4 : qSo ks (i + 1) = some 3
        · simp [c1, c2, c4, qb]
        · simp [c1, c2, c3, c4, qb]
theorem cPlain {s : Nat} {v : Int32} (hk : qKok (s, v)) (M : zM) : fX2_plainLetter (qn s) v M = some (qn (qPlain s v), M) ∧ qPlain s v < 128 := by
  have h8 := hk.1
  unfold fX2_plainLetter qPlain
  by_cases c1 : s = 4
  · obtain ⟨n, h1, h2, h3⟩ := hk.2.2.1 c1
    have h3 : v = qn n := h3
    subst h3
    have hc := qch n (by omega)
    rw [if_pos c1, qn_c (by omega)]
    simp (disch := omega) only [↓qlet, eq_self, qzg_t, qzb_some, ↓reduceIte, not_or, not_false_eq_true, not_true_eq_false, and_true, true_and, and_self, or_false, false_or, true_or, or_true, and_false, false_and, qlit, qneg, qof, qn_add, qn_mul, qn_s, qn_z, qn_d, qn_dz, qm_1, qt_1, qt_0, qb_0, qb_1, qb_01, qb01b, q01_0, q01_1, qo_s, qo_n, qn_c, qn_le, qn_lt, qn_eq, qn_ne_m, qm_ne_n, qm_lt, qm_le, qn_lt_m, qn_le_m, qn_sub, qn_div, qn_mod, qle_t, qle_f, qlt_t, qlt_f, qeq_t, qeq_f, Nat.add_sub_cancel, qC_I, qC_s, qU_s, qU_a, qU_k, c1, hc.1, hc.2]
  · rw [if_neg c1]
    by_cases c2 : s = 5
    · rw [if_pos c2]
      have hc := (qch 32 (by omega)).2
      simp (disch := omega) only [↓qlet, eq_self, qzg_t, qzb_some, ↓reduceIte, not_or, not_false_eq_true, not_true_eq_false, and_true, true_and, and_self, or_false, false_or, true_or, or_true, and_false, false_and, qlit, qneg, qof, qn_add, qn_mul, qn_s, qn_z, qn_d, qn_dz, qm_1, qt_1, qt_0, qb_0, qb_1, qb_01, qb01b, q01_0, q01_1, qo_s, qo_n, qn_c, qn_le, qn_lt, qn_eq, qn_ne_m, qm_ne_n, qm_lt, qm_le, qn_lt_m, qn_le_m, qn_sub, qn_div, qn_mod, qle_t, qle_f, qlt_t, qlt_f, qeq_t, qeq_f, Nat.add_sub_cancel, qC_I, qC_s, qU_s, qU_a, qU_k, c1, c2, hc]
    · rw [if_neg c2]
      have hc := (qch 42 (by omega)).2
      simp (disch := omega) only [↓qlet, eq_self, qzg_t, qzb_some, ↓reduceIte, not_or, not_false_eq_true, not_true_eq_false, and_true, true_and, and_self, or_false, false_or, true_or, or_true, and_false, false_and, qlit, qneg, qof, qn_add, qn_mul, qn_s, qn_z, qn_d, qn_dz, qm_1, qt_1, qt_0, qb_0, qb_1, qb_01, qb01b, q01_0, q01_1, qo_s, qo_n, qn_c, qn_le, qn_lt, qn_eq, qn_ne_m, qm_ne_n, qm_lt, qm_le, qn_lt_m, qn_le_m, qn_sub, qn_div, qn_mod, qle_t, qle_f, qlt_t, qlt_f, qeq_t, qeq_f, Nat.add_sub_cancel, qC_I, qC_s, qU_s, qU_a, qU_k, c1, c2, hc]
/-- the place in the text is told -/
theorem qCV_place {p' : Nat} (hV : qCV I p V) : qCV (qU I 91 15 (qn p')) p' V ∧ qFrC I (qU I 91 15 (qn p')) := by
  obtain ⟨h1, h2, h3, h4, h5, h6, h7, h8⟩ := hV
  refine ⟨⟨qCZ_fr h1 (qU_r (by omega)) (qU_r (by omega)) (qU_r (by omega)), ?_, ?_, ?_, ?_, ?_, ?_, qU_s ..⟩, ?_, ?_, ?_⟩
  · simp (disch := omega) only [qU_r]; exact h2
  · simp (disch := omega) only [qU_r]; exact h3
  · simp (disch := omega) only [qU_r]; exact h4
  · rw [qU_k (by omega)]; exact h5
  · rw [qU_k (by omega)]; exact h6
  · simp (disch := omega) only [qU_r]; exact h7
  · intro a ha; rw [qU_r (by omega)]
  · rw [qU_k (by omega)]
  · rw [qU_r (by omega)]
theorem cKeep (hz : qZok G V.1) (hZ : qCZ I 107 V.1) {m : Nat} (hi : i < 61) : ∃ J, fX2_keepState 91 (qn i) (qn m) (qC w I) = some (qn 0, qC w J) ∧ qCZ J (qSc w i) V.1 ∧ J (qSc w i) 5 = qn m ∧ ∀ a, a ≠ qSc w i → a ≠ qSc w i + 1 → a ≠ qSc w i + 2 → J a = I a := by
  have hs := qSt_c w hi
  have hq : 110 ≤ qSc w i := by unfold qSc; split <;> omega
  obtain ⟨J, hJ, j1, j2, j3⟩ := cCopy (w := w) hs qSt_107 (by omega) hz hZ
  refine ⟨qU J (qSc w i) 5 (qn m), ?_, ?_, qU_s .., fun a h1 h2 h3 => by rw [qU_r h1, j3 a h1 h2 h3]⟩
  · unfold fX2_keepState
    have e61 : Int32.ofNat 61 = qn 61 := rfl
    simp (disch := omega) only [↓qlet, eq_self, qzg_t, qzb_some, ↓reduceIte, not_or, not_false_eq_true, not_true_eq_false, and_true, true_and, and_self, or_false, false_or, true_or, or_true, and_false, false_and, qlit, qneg, qof, qn_add, qn_mul, qn_s, qn_z, qn_d, qn_dz, qm_1, qt_1, qt_0, qb_0, qb_1, qb_01, qb01b, q01_0, q01_1, qo_s, qo_n, qn_c, qn_le, qn_lt, qn_eq, qn_ne_m, qm_ne_n, qm_lt, qm_le, qn_lt_m, qn_le_m, qn_sub, qn_div, qn_mod, qle_t, qle_f, qlt_t, qlt_f, qeq_t, qeq_f, Nat.add_sub_cancel, qC_I, qC_s, qU_s, qU_a, qU_k, qk_1, qk_2, qk_3, qk_4, qk_5, qk_6, qk_7, qk_68, qk_69, qk_70, qk_71, qk_72, qk_91, qk_92, qk_93, qk_94, qk_95, qk_96, qk_97, qk_98, qk_99, qk_100, qk_101, qk_102, qk_103, qk_104, qk_105, qk_106, qk_107, qk_108, qk_109, qk_476, qk_477, qr_1_0, qr_1_1, qr_1_2, qr_1_3, qr_1_4, qr_1_5, qr_2_0, qr_2_1, qr_2_2, qr_2_3, qr_2_4, qr_68_0, qr_68_1, qr_91_0, qr_91_1, qr_91_2, qr_91_3, qr_91_4, qr_91_5, qr_91_6, qr_91_7, qr_91_10, qr_91_11, qr_91_14, qr_92_0, qr_92_1, qr_92_2, qr_92_3, qr_92_4, qr_98_0, qr_98_1, qr_107_0, qr_107_1, qr_107_2, qr_476_0, qr_476_1, qr_476_2, qSA_r, qSA_k, qSA_l, qSA_c, qSt_k _ _ hs, hJ]
  · obtain ⟨k1, k2, k3⟩ := j1
    refine ⟨?_, ?_, ?_⟩
    · rw [qU_k (by omega)]; exact k1
    · rw [qU_k (by omega)]; exact k2
    · simp (disch := omega) only [qU_r]; exact k3
end
