/-! THE LAW: the tree is asked -/
section
variable {w : Bool} {I : Nat → Nat → Int32} {W : Nat → Nat → Nat} {A : qA} {p : Nat}
theorem qAll_rv {α : Type} {P : Nat → α → Prop} {l : List α} (h : qAll P l) {j : Nat} (hj : j < l.length) : ∃ x, x ∈ l ∧ l.reverse[j]? = some x ∧ P j x := by
  obtain ⟨x, hx, hg, hp⟩ := qAll_get h j hj
  exact ⟨x, hx, by rw [List.getElem?_reverse hj, hg], hp⟩
theorem lTree_48 (hA : qCA w I A) (hV : qLV I p (qFA A).1 false) (h60 : (qFA A).1.2.2.1.length ≤ 60) : ∀ d i m, i + d = (qFA A).1.2.2.1.length → d < m → fL_isTree_48 m 1 510 513 514 515 516 517 (qn 1) (qn (qFA A).1.2.2.1.length) (qn 0) (qn i) (qL w I W) = fL_isTree_154 1 510 517 (qn 1) (qn (qFA A).1.2.2.1.length) (qn 0) (qL w I W) := by
  obtain ⟨-, -, -, hx4, -⟩ := qAok_X hA.1
  obtain ⟨g1, g2, g3, g4, g5, g6, g7, g8, g9, g10, g11, g12, g13⟩ := hV
  intro d
  induction d with
  | zero =>
    intro i m h1 h2
    obtain ⟨m, rfl⟩ : ∃ q, m = q + 1 := ⟨m - 1, by omega⟩
    have c : (qFA A).1.2.2.1.length ≤ i := by omega
    unfold fL_isTree_48
    generalize fL_isTree_154 = F
    simp (disch := omega) only [↓qlet, eq_self, qzg_t, qzb_some, ↓reduceIte, not_or, not_false_eq_true, not_true_eq_false, and_true, true_and, and_self, or_false, false_or, true_or, or_true, and_false, false_and, qlit, qneg, qof, qn_add, qn_mul, qn_s, qn_z, qn_d, qn_dz, qm_1, qt_1, qt_0, qb_0, qb_1, qb_01, qb01b, q01_0, q01_1, qo_s, qo_n, qn_c, qn_le, qn_lt, qn_eq, qn_ne_m, qm_ne_n, qm_lt, qm_le, qn_lt_m, qn_le_m, qn_sub, qn_div, qn_mod, qle_t, qle_f, qlt_t, qlt_f, qeq_t, qeq_f, Nat.add_sub_cancel, qU_s, qU_a, qU_k, qn_rem, qL_I, qL_s, lk_505, lk_506, lk_507, lk_508, lk_509, lk_510, lk_511, lk_512, lk_513, lk_514, lk_515, lk_516, lk_517, lk_518, lk_519, ll_505, ll_506, ll_507, ll_508, ll_509, ll_510, ll_511, ll_512, ll_513, ll_514, ll_515, ll_516, ll_517, ll_518, ll_519, g4, c]
  | succ d ih =>
    intro i m h1 h2
    obtain ⟨m, rfl⟩ : ∃ q, m = q + 1 := ⟨m - 1, by omega⟩
    have ih := ih (i + 1) m (by omega) (by omega)
    have hi : i < (qFA A).1.2.2.1.length := by omega
    have c : ¬ (qFA A).1.2.2.1.length ≤ i := by omega
    obtain ⟨t, ht, hr, k1, k2, k3, k4⟩ := qAll_rv g12 hi
    obtain ⟨t10, -, -, -⟩ := hx4 t ht
    have hT : qThing A i = t := by unfold qThing; rw [hr]; rfl
    obtain ⟨q1, q2, q3, q4, q5⟩ := cKindQ hA (qn i)
    unfold qaThing qoAsk at q1 q2 q3 q4 q5
    rw [qin_of (by omega) hi] at q1 q2 q3 q4 q5
    dsimp only at q1 q2 q3 q4 q5
    rw [hT] at q1 q2 q3 q4 q5
    have e1 : ∀ b : Nat, (t.1 + 32 * b) % 32 = t.1 := fun b => by omega
    unfold fL_isTree_48 fL_isTree_138 fL_isTree_146
    generalize fL_isTree_154 = F at ih ⊢
    cases hb : t.2.2.2.2 with
    | true =>
      rw [hb] at k1 q5
      simp only [if_true] at k1
      have c31 : ¬ t.1 + 32 * 1 ≤ 31 := by omega
      rw [qb_t] at q5
      simp (disch := omega) only [↓qlet, eq_self, qzg_t, qzb_some, ↓reduceIte, not_or, not_false_eq_true, not_true_eq_false, and_true, true_and, and_self, or_false, false_or, true_or, or_true, and_false, false_and, qlit, qneg, qof, qn_add, qn_mul, qn_s, qn_z, qn_d, qn_dz, qm_1, qt_1, qt_0, qb_0, qb_1, qb_01, qb01b, q01_0, q01_1, qo_s, qo_n, qn_c, qn_le, qn_lt, qn_eq, qn_ne_m, qm_ne_n, qm_lt, qm_le, qn_lt_m, qn_le_m, qn_sub, qn_div, qn_mod, qle_t, qle_f, qlt_t, qlt_f, qeq_t, qeq_f, Nat.add_sub_cancel, qU_s, qU_a, qU_k, qn_rem, qL_I, qL_s, lk_505, lk_506, lk_507, lk_508, lk_509, lk_510, lk_511, lk_512, lk_513, lk_514, lk_515, lk_516, lk_517, lk_518, lk_519, ll_505, ll_506, ll_507, ll_508, ll_509, ll_510, ll_511, ll_512, ll_513, ll_514, ll_515, ll_516, ll_517, ll_518, ll_519, lcut, zbc_0, zbd_0, lCel, lk_1, qJn_r, qJn_self, g4, c, q1, q2, q3, q4, q5, k1, k2, k3, k4, e1, c31]
      exact ih
    | false =>
      rw [hb] at k1 q5
      simp only [Bool.false_eq_true, if_false] at k1
      have c31 : t.1 + 32 * 0 ≤ 31 := by omega
      rw [qb_f] at q5
      simp (disch := omega) only [↓qlet, eq_self, qzg_t, qzb_some, ↓reduceIte, not_or, not_false_eq_true, not_true_eq_false, and_true, true_and, and_self, or_false, false_or, true_or, or_true, and_false, false_and, qlit, qneg, qof, qn_add, qn_mul, qn_s, qn_z, qn_d, qn_dz, qm_1, qt_1, qt_0, qb_0, qb_1, qb_01, qb01b, q01_0, q01_1, qo_s, qo_n, qn_c, qn_le, qn_lt, qn_eq, qn_ne_m, qm_ne_n, qm_lt, qm_le, qn_lt_m, qn_le_m, qn_sub, qn_div, qn_mod, qle_t, qle_f, qlt_t, qlt_f, qeq_t, qeq_f, Nat.add_sub_cancel, qU_s, qU_a, qU_k, qn_rem, qL_I, qL_s, lk_505, lk_506, lk_507, lk_508, lk_509, lk_510, lk_511, lk_512, lk_513, lk_514, lk_515, lk_516, lk_517, lk_518, lk_519, ll_505, ll_506, ll_507, ll_508, ll_509, ll_510, ll_511, ll_512, ll_513, ll_514, ll_515, ll_516, ll_517, ll_518, ll_519, lcut, zbc_0, zbd_0, lCel, lk_1, qJn_r, qJn_self, g4, c, q1, q2, q3, q4, q5, k1, k2, k3, k4, e1, c31]
      exact ih
theorem lTree_239 (hA : qCA w I A) (h60 : (qFA A).1.2.2.1.length ≤ 60) {s : Nat} (hs : s < 100) (hz : s = 0 ↔ ¬ qSh (qFA A).1) : ∃ J, fL_isTree_239 1 (qn 1) (qn (qFA A).1.2.2.1.length) (qn s) (qL w I W) = some (qn 1, qL w (qJn J I) W) ∧ qCA w (qJn J I) A := by
  have hno := cNormal hA
  obtain ⟨f1, f2⟩ := qForm_len A.1 (qFA A).1.2.2.1
  obtain ⟨J, j1, j2⟩ := cSameQ hA
  obtain ⟨s1, s2⟩ := qSame_is hA.1
  refine ⟨J, ?_, qCA_J j2⟩
  have c1 : ¬ (qForm A.1 (qFA A).1.2.2.1).length < (qFA A).1.2.2.1.length := by omega
  have c2 : ¬ 2 * (qFA A).1.2.2.1.length < (qForm A.1 (qFA A).1.2.2.1).length := by omega
  unfold fL_isTree_239 fL_isTree_278
  by_cases c : s = 0
  · rw [s2 (hz.mp c), qb_t] at j1
    simp (disch := omega) only [↓qlet, eq_self, qzg_t, qzb_some, ↓reduceIte, not_or, not_false_eq_true, not_true_eq_false, and_true, true_and, and_self, or_false, false_or, true_or, or_true, and_false, false_and, qlit, qneg, qof, qn_add, qn_mul, qn_s, qn_z, qn_d, qn_dz, qm_1, qt_1, qt_0, qb_0, qb_1, qb_01, qb01b, q01_0, q01_1, qo_s, qo_n, qn_c, qn_le, qn_lt, qn_eq, qn_ne_m, qm_ne_n, qm_lt, qm_le, qn_lt_m, qn_le_m, qn_sub, qn_div, qn_mod, qle_t, qle_f, qlt_t, qlt_f, qeq_t, qeq_f, Nat.add_sub_cancel, qU_s, qU_a, qU_k, qn_rem, qL_I, qL_s, lk_505, lk_506, lk_507, lk_508, lk_509, lk_510, lk_511, lk_512, lk_513, lk_514, lk_515, lk_516, lk_517, lk_518, lk_519, ll_505, ll_506, ll_507, ll_508, ll_509, ll_510, ll_511, ll_512, ll_513, ll_514, ll_515, ll_516, ll_517, ll_518, ll_519, lcut, zbc_0, zbd_0, lCel, lk_1, qJn_r, qJn_self, hno, c1, c2, j1, c]
  · have hsh : qSh (qFA A).1 := Classical.byContradiction fun h => c (hz.mpr h)
    rw [s1 hsh, qb_f] at j1
    simp (disch := omega) only [↓qlet, eq_self, qzg_t, qzb_some, ↓reduceIte, not_or, not_false_eq_true, not_true_eq_false, and_true, true_and, and_self, or_false, false_or, true_or, or_true, and_false, false_and, qlit, qneg, qof, qn_add, qn_mul, qn_s, qn_z, qn_d, qn_dz, qm_1, qt_1, qt_0, qb_0, qb_1, qb_01, qb01b, q01_0, q01_1, qo_s, qo_n, qn_c, qn_le, qn_lt, qn_eq, qn_ne_m, qm_ne_n, qm_lt, qm_le, qn_lt_m, qn_le_m, qn_sub, qn_div, qn_mod, qle_t, qle_f, qlt_t, qlt_f, qeq_t, qeq_f, Nat.add_sub_cancel, qU_s, qU_a, qU_k, qn_rem, qL_I, qL_s, lk_505, lk_506, lk_507, lk_508, lk_509, lk_510, lk_511, lk_512, lk_513, lk_514, lk_515, lk_516, lk_517, lk_518, lk_519, ll_505, ll_506, ll_507, ll_508, ll_509, ll_510, ll_511, ll_512, ll_513, ll_514, ll_515, ll_516, ll_517, ll_518, ll_519, lcut, zbc_0, zbd_0, lCel, lk_1, qJn_r, qJn_self, hno, c1, c2, j1, c]
theorem lTree_157 (hA : qCA w I A) (hV : qLV I p (qFA A).1 false) (h60 : (qFA A).1.2.2.1.length ≤ 60) (h60e : (qFA A).1.2.2.2.2.2.length ≤ 60) : ∀ d i s m, i + d = (qFA A).1.2.2.2.2.2.length → d < m → s ≤ i → (s = 0 ↔ ∀ j, j < i → ∀ e, (qFA A).1.2.2.2.2.2.reverse[j]? = some e → e.1 ≠ 2) → ∃ J, fL_isTree_157 m 1 510 517 (qn 1) (qn (qFA A).1.2.2.1.length) (qn s) (qn i) (qL w I W) = some (qn 1, qL w (qJn J I) W) ∧ qCA w (qJn J I) A := by
  have hPE := qFA_E hA.1
  have hV0 := hV
  obtain ⟨g1, g2, g3, g4, g5, g6, g7, g8, g9, g10, g11, g12, g13⟩ := hV
  intro d
  induction d with
  | zero =>
    intro i s m h1 h2 h3 h4
    obtain ⟨m, rfl⟩ : ∃ q, m = q + 1 := ⟨m - 1, by omega⟩
    have c : (qFA A).1.2.2.2.2.2.length ≤ i := by omega
    have hz : s = 0 ↔ ¬ qSh (qFA A).1 := by
      rw [h4]
      constructor
      · rintro h ⟨e, he, he2⟩
        rw [← List.mem_reverse] at he
        obtain ⟨j, hj⟩ := List.getElem?_of_mem he
        have hlt := (List.getElem?_eq_some_iff.mp hj).1
        rw [List.length_reverse] at hlt
        exact h j (by omega) e hj he2
      · intro h j hj e he he2
        exact h ⟨e, List.mem_reverse.mp (List.mem_of_getElem? he), he2⟩
    obtain ⟨J, j1, j2⟩ := lTree_239 (W := W) hA h60 (s := s) (by omega) hz
    refine ⟨J, ?_, j2⟩
    unfold fL_isTree_157
    generalize fL_isTree_239 = F at j1 ⊢
    simp (disch := omega) only [↓qlet, eq_self, qzg_t, qzb_some, ↓reduceIte, not_or, not_false_eq_true, not_true_eq_false, and_true, true_and, and_self, or_false, false_or, true_or, or_true, and_false, false_and, qlit, qneg, qof, qn_add, qn_mul, qn_s, qn_z, qn_d, qn_dz, qm_1, qt_1, qt_0, qb_0, qb_1, qb_01, qb01b, q01_0, q01_1, qo_s, qo_n, qn_c, qn_le, qn_lt, qn_eq, qn_ne_m, qm_ne_n, qm_lt, qm_le, qn_lt_m, qn_le_m, qn_sub, qn_div, qn_mod, qle_t, qle_f, qlt_t, qlt_f, qeq_t, qeq_f, Nat.add_sub_cancel, qU_s, qU_a, qU_k, qn_rem, qL_I, qL_s, lk_505, lk_506, lk_507, lk_508, lk_509, lk_510, lk_511, lk_512, lk_513, lk_514, lk_515, lk_516, lk_517, lk_518, lk_519, ll_505, ll_506, ll_507, ll_508, ll_509, ll_510, ll_511, ll_512, ll_513, ll_514, ll_515, ll_516, ll_517, ll_518, ll_519, g6, c]
    exact j1
  | succ d ih =>
    intro i s m h1 h2 h3 h4
    obtain ⟨m, rfl⟩ : ∃ q, m = q + 1 := ⟨m - 1, by omega⟩
    have hi : i < (qFA A).1.2.2.2.2.2.length := by omega
    have c : ¬ (qFA A).1.2.2.2.2.2.length ≤ i := by omega
    obtain ⟨e, he, hr, k1⟩ := qAll_rv g13 hi
    obtain ⟨e6, e60⟩ := hPE e he
    obtain ⟨q1, q2⟩ := cErrorQ hA (qn i)
    unfold qaError qoAsk at q1 q2
    rw [qin_of (by omega) hi] at q1 q2
    dsimp only at q1 q2
    rw [hr, Option.getD_some] at q1 q2
    have e1 : (64 * e.1 + e.2) / 64 = e.1 := by omega
    have e2 : (64 * e.1 + e.2) % 64 = e.2 := by omega
    by_cases c2 : e.1 = 2
    · obtain ⟨J, j1, j2⟩ := ih (i + 1) (s + 1) m (by omega) (by omega) (by omega) ⟨fun h => by omega, fun h => absurd c2 (h i (by omega) e hr)⟩
      refine ⟨J, ?_, j2⟩
      unfold fL_isTree_157 fL_isTree_189 fL_isTree_231
      generalize fL_isTree_239 = F
      rw [c2] at q1 e1
      simp (disch := omega) only [↓qlet, eq_self, qzg_t, qzb_some, ↓reduceIte, not_or, not_false_eq_true, not_true_eq_false, and_true, true_and, and_self, or_false, false_or, true_or, or_true, and_false, false_and, qlit, qneg, qof, qn_add, qn_mul, qn_s, qn_z, qn_d, qn_dz, qm_1, qt_1, qt_0, qb_0, qb_1, qb_01, qb01b, q01_0, q01_1, qo_s, qo_n, qn_c, qn_le, qn_lt, qn_eq, qn_ne_m, qm_ne_n, qm_lt, qm_le, qn_lt_m, qn_le_m, qn_sub, qn_div, qn_mod, qle_t, qle_f, qlt_t, qlt_f, qeq_t, qeq_f, Nat.add_sub_cancel, qU_s, qU_a, qU_k, qn_rem, qL_I, qL_s, lk_505, lk_506, lk_507, lk_508, lk_509, lk_510, lk_511, lk_512, lk_513, lk_514, lk_515, lk_516, lk_517, lk_518, lk_519, ll_505, ll_506, ll_507, ll_508, ll_509, ll_510, ll_511, ll_512, ll_513, ll_514, ll_515, ll_516, ll_517, ll_518, ll_519, lcut, zbc_0, zbd_0, lCel, lk_1, qJn_r, qJn_self, g6, c, k1, e1, e2, q1, q2]
      exact j1
    · obtain ⟨J, j1, j2⟩ := ih (i + 1) s m (by omega) (by omega) (by omega) (by
        rw [h4]
        constructor
        · intro h j hj e' he'
          by_cases cj : j = i
          · subst cj
            rw [hr] at he'
            injection he' with he'
            subst he'
            exact c2
          · exact h j (by omega) e' he'
        · intro h j hj e' he'
          exact h j (by omega) e' he')
      refine ⟨J, ?_, j2⟩
      unfold fL_isTree_157 fL_isTree_189 fL_isTree_231
      generalize fL_isTree_239 = F
      simp (disch := omega) only [↓qlet, eq_self, qzg_t, qzb_some, ↓reduceIte, not_or, not_false_eq_true, not_true_eq_false, and_true, true_and, and_self, or_false, false_or, true_or, or_true, and_false, false_and, qlit, qneg, qof, qn_add, qn_mul, qn_s, qn_z, qn_d, qn_dz, qm_1, qt_1, qt_0, qb_0, qb_1, qb_01, qb01b, q01_0, q01_1, qo_s, qo_n, qn_c, qn_le, qn_lt, qn_eq, qn_ne_m, qm_ne_n, qm_lt, qm_le, qn_lt_m, qn_le_m, qn_sub, qn_div, qn_mod, qle_t, qle_f, qlt_t, qlt_f, qeq_t, qeq_f, Nat.add_sub_cancel, qU_s, qU_a, qU_k, qn_rem, qL_I, qL_s, lk_505, lk_506, lk_507, lk_508, lk_509, lk_510, lk_511, lk_512, lk_513, lk_514, lk_515, lk_516, lk_517, lk_518, lk_519, ll_505, ll_506, ll_507, ll_508, ll_509, ll_510, ll_511, ll_512, ll_513, ll_514, ll_515, ll_516, ll_517, ll_518, ll_519, lcut, zbc_0, zbd_0, lCel, lk_1, qJn_r, qJn_self, g6, c, k1, e1, e2, q1, q2, c2, Nat.add_zero]
      exact j1
theorem lIsTree (hA : qCA w I A) (hV : qLV I p (qFA A).1 false) (h60 : (qFA A).1.2.2.1.length ≤ 60) (h60e : (qFA A).1.2.2.2.2.2.length ≤ 60) : ∃ J, fL_isTree 1 510 513 514 515 516 517 (qL w I W) = some (qn 1, qL w (qJn J I) W) ∧ qCA w (qJn J I) A := by
  obtain ⟨J, j1, j2⟩ := lTree_157 (W := W) hA hV h60 h60e _ 0 0 10000 (Nat.zero_add _) (by omega) (Nat.le_refl _) ⟨fun _ j hj => by omega, fun _ => rfl⟩
  have h48 := lTree_48 (W := W) hA hV h60 _ 0 10000 (Nat.zero_add _) (by omega)
  obtain ⟨g1, g2, g3, g4, g5, g6, -⟩ := hV
  have t1 := cThings hA
  have t2 := cEndsPut hA
  have t3 := cErrors hA
  have hends : (qFA A).1.2.2.2.1 ≤ 60 := by
    have h := (qFull_ok (G := A.1) hA.1.2.1 hA.1.2.2.2 (by have := hA.1.2.2.1; omega)).1.2.2.2.2.2.2.1
    have h : (qFA A).1.2.2.2.1 + (qFA A).1.1.1.length ≤ (qFA A).1.2.2.1.length := h
    omega
  refine ⟨J, ?_, j2⟩
  unfold fL_isTree_154 at h48
  unfold fL_isTree fL_isTree_35
  generalize fL_isTree_157 10000 = F at h48 j1
  generalize fL_isTree_48 10000 = F2 at h48 ⊢
  have e0 : (0 : Int32) = qn 0 := rfl
  rw [e0] at h48
  rw [j1] at h48
  simp (disch := omega) only [↓qlet, eq_self, qzg_t, qzb_some, ↓reduceIte, not_or, not_false_eq_true, not_true_eq_false, and_true, true_and, and_self, or_false, false_or, true_or, or_true, and_false, false_and, qlit, qneg, qof, qn_add, qn_mul, qn_s, qn_z, qn_d, qn_dz, qm_1, qt_1, qt_0, qb_0, qb_1, qb_01, qb01b, q01_0, q01_1, qo_s, qo_n, qn_c, qn_le, qn_lt, qn_eq, qn_ne_m, qm_ne_n, qm_lt, qm_le, qn_lt_m, qn_le_m, qn_sub, qn_div, qn_mod, qle_t, qle_f, qlt_t, qlt_f, qeq_t, qeq_f, Nat.add_sub_cancel, qU_s, qU_a, qU_k, qn_rem, qL_I, qL_s, lk_505, lk_506, lk_507, lk_508, lk_509, lk_510, lk_511, lk_512, lk_513, lk_514, lk_515, lk_516, lk_517, lk_518, lk_519, ll_505, ll_506, ll_507, ll_508, ll_509, ll_510, ll_511, ll_512, ll_513, ll_514, ll_515, ll_516, ll_517, ll_518, ll_519, lcut, zbc_0, zbd_0, lCel, lk_1, qJn_r, qJn_self, t1, t2, t3, g4, g5, g6]
  exact h48
end
