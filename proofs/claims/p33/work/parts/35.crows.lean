/-! THE CLASS: tokens into rows and out of them -/
section
variable {w : Bool} {I : Nat → Nat → Int32} {x n : Nat} {ks : List qK}
/-- tokens from a place on move one up -/
theorem cPut_31 (hx : qRw x n) (s : Int32) (v : Int32) {pl : Nat} : ∀ d I m, d < m → I x 2 = qn ks.length → pl + d ≤ ks.length → ks.length < n → ∃ J, fX3_putToken_31 m x (qn pl) s v (qn (pl + d)) (qC w I) = some (qn 0, qC w J) ∧ J x 2 = qn (ks.length + 1) ∧ (∀ j, J (x + 1) j = if j < pl then I (x + 1) j else if j = pl then s else if j ≤ pl + d then I (x + 1) (j - 1) else I (x + 1) j) ∧ (∀ j, J (x + 2) j = if j < pl then I (x + 2) j else if j = pl then v else if j ≤ pl + d then I (x + 2) (j - 1) else I (x + 2) j) ∧ (∀ a, a ≠ x → a ≠ x + 1 → a ≠ x + 2 → J a = I a) := by
  have hx9 := hx.2.2
  intro d
  induction d with
  | zero =>
    intro I m h1 h2 h3 h4
    obtain ⟨m, rfl⟩ : ∃ m', m = m' + 1 := ⟨m - 1, by omega⟩
    refine ⟨qU (qU (qU I (x + 1) pl s) (x + 2) pl v) x 2 (qn (ks.length + 1)), ?_, qU_s .., fun j => ?_, fun j => ?_, fun a h1 h2 h3 => ?_⟩
    · unfold fX3_putToken_31 fX3_putToken_75
      simp (disch := omega) only [↓qlet, eq_self, qzg_t, qzb_some, ↓reduceIte, not_or, not_false_eq_true, not_true_eq_false, and_true, true_and, and_self, or_false, false_or, true_or, or_true, and_false, false_and, qlit, qneg, qof, qn_add, qn_mul, qn_s, qn_z, qn_d, qn_dz, qm_1, qt_1, qt_0, qb_0, qb_1, qb_01, qb01b, q01_0, q01_1, qo_s, qo_n, qn_c, qn_le, qn_lt, qn_eq, qn_ne_m, qm_ne_n, qm_lt, qm_le, qn_lt_m, qn_le_m, qn_sub, qn_div, qn_mod, qle_t, qle_f, qlt_t, qlt_f, qeq_t, qeq_f, Nat.add_sub_cancel, qC_I, qC_s, qU_s, qU_a, qU_k, qRw_k _ _ hx, qRw_k1 _ _ hx, qRw_k2 _ _ hx, qRw_l1 _ _ hx, qRw_l2 _ _ hx, qRw_r0 _ _ hx, qRw_r1 _ _ hx, Nat.add_zero, h2]
    · rw [qU_r (by omega), qU_r (by omega)]
      by_cases c : j = pl
      · subst c; rw [qU_s, if_neg (by omega), if_pos rfl]
      · rw [qU_k c]
        split
        · rfl
        · rw [if_neg (by omega)]
    · rw [qU_r (by omega)]
      by_cases c : j = pl
      · subst c; rw [qU_s, if_neg (by omega), if_pos rfl]
      · rw [qU_k c, qU_r (by omega)]
        split
        · rfl
        · rw [if_neg (by omega)]
    · rw [qU_r h1, qU_r h3, qU_r h2]
  | succ d ih =>
    intro I m h1 h2 h3 h4
    obtain ⟨m, rfl⟩ : ∃ m', m = m' + 1 := ⟨m - 1, by omega⟩
    obtain ⟨J, e1, j0, j1, j2, j3⟩ := ih (qU (qU I (x + 1) (pl + d + 1) (I (x + 1) (pl + d))) (x + 2) (pl + d + 1) (I (x + 2) (pl + d))) m (by omega) (by rw [qU_r (by omega), qU_r (by omega)]; exact h2) (by omega) h4
    refine ⟨J, ?_, j0, fun j => ?_, fun j => ?_, fun a h1 h2 h3 => ?_⟩
    · unfold fX3_putToken_31
      rw [show pl + (d + 1) = pl + d + 1 by omega]
      simp (disch := omega) only [↓qlet, eq_self, qzg_t, qzb_some, ↓reduceIte, not_or, not_false_eq_true, not_true_eq_false, and_true, true_and, and_self, or_false, false_or, true_or, or_true, and_false, false_and, qlit, qneg, qof, qn_add, qn_mul, qn_s, qn_z, qn_d, qn_dz, qm_1, qt_1, qt_0, qb_0, qb_1, qb_01, qb01b, q01_0, q01_1, qo_s, qo_n, qn_c, qn_le, qn_lt, qn_eq, qn_ne_m, qm_ne_n, qm_lt, qm_le, qn_lt_m, qn_le_m, qn_sub, qn_div, qn_mod, qle_t, qle_f, qlt_t, qlt_f, qeq_t, qeq_f, Nat.add_sub_cancel, qC_I, qC_s, qU_s, qU_a, qU_k, qRw_k _ _ hx, qRw_k1 _ _ hx, qRw_k2 _ _ hx, qRw_l1 _ _ hx, qRw_l2 _ _ hx, qRw_r0 _ _ hx, qRw_r1 _ _ hx, h2, e1]
    · rw [j1 j, qU_r (by omega)]
      by_cases c1 : j < pl
      · rw [if_pos c1, if_pos c1, qU_k (by omega)]
      · rw [if_neg c1, if_neg c1]
        by_cases c2 : j = pl
        · rw [if_pos c2, if_pos c2]
        · rw [if_neg c2, if_neg c2]
          by_cases c3 : j ≤ pl + d
          · rw [if_pos c3, if_pos (by omega), qU_k (by omega)]
          · rw [if_neg c3]
            by_cases c4 : j = pl + d + 1
            · subst c4; rw [qU_s, if_pos (by omega)]; rfl
            · rw [qU_k c4, if_neg (by omega)]
    · rw [j2 j]
      by_cases c1 : j < pl
      · rw [if_pos c1, if_pos c1, qU_k (by omega), qU_r (by omega)]
      · rw [if_neg c1, if_neg c1]
        by_cases c2 : j = pl
        · rw [if_pos c2, if_pos c2]
        · rw [if_neg c2, if_neg c2]
          by_cases c3 : j ≤ pl + d
          · rw [if_pos c3, if_pos (by omega), qU_k (by omega), qU_r (by omega)]
          · rw [if_neg c3]
            by_cases c4 : j = pl + d + 1
            · subst c4; rw [qU_s, if_pos (by omega)]; rfl
            · rw [qU_k c4, if_neg (by omega), qU_r (by omega)]
    · rw [j3 a h1 h2 h3, qU_r h3, qU_r h2]
/-- a row with a token put in -/
def qIns (ks : List qK) (pl : Nat) (k : qK) : List qK := ks.take pl ++ k :: ks.drop pl
theorem qIns_get {pl : Nat} (h : pl ≤ ks.length) (k : qK) (j : Nat) : (qIns ks pl k)[j]? = if j < pl then ks[j]? else if j = pl then some k else ks[j - 1]? := by
  unfold qIns
  have hl : (ks.take pl).length = pl := by simp; omega
  rcases Nat.lt_or_ge j pl with c | c
  · rw [if_pos c, List.getElem?_append_left (by omega), List.getElem?_take_of_lt c]
  · rw [if_neg (by omega), List.getElem?_append_right (by omega), hl]
    by_cases c2 : j = pl
    · rw [if_pos c2]; subst c2; simp
    · rw [if_neg c2]
      obtain ⟨d, rfl⟩ : ∃ d, j = pl + d + 1 := ⟨j - pl - 1, by omega⟩
      rw [show pl + d + 1 - pl = d + 1 by omega, List.getElem?_cons_succ, List.getElem?_drop]
      rfl
theorem qIns_len {pl : Nat} (h : pl ≤ ks.length) (k : qK) : (qIns ks pl k).length = ks.length + 1 := by
  unfold qIns
  simp; omega
theorem cPutTok (hx : qRw x n) (hk : qCK I x ks) (hn : ks.length < n) (hn6 : n ≤ 600) {pl : Nat} (hp : pl ≤ ks.length) {s : Nat} {v : Int32} : ∃ J, fX3_putToken x (qn pl) (qn s) v (qC w I) = some (qn 0, qC w J) ∧ qCK J x (qIns ks pl (s, v)) ∧ ∀ a, a ≠ x → a ≠ x + 1 → a ≠ x + 2 → J a = I a := by
  have hx9 := hx.2.2
  obtain ⟨h1, h2⟩ := hk
  obtain ⟨J, e1, j0, j1, j2, j3⟩ := cPut_31 (w := w) (ks := ks) hx (qn s) v (pl := pl) (ks.length - pl) I 10000 (by omega) h1 (by omega) hn
  rw [show pl + (ks.length - pl) = ks.length by omega] at e1 j1 j2
  refine ⟨J, ?_, ⟨by rw [j0, qIns_len hp], fun j k hj => ?_⟩, j3⟩
  · unfold fX3_putToken
    simp (disch := omega) only [↓qlet, eq_self, qzg_t, qzb_some, ↓reduceIte, not_or, not_false_eq_true, not_true_eq_false, and_true, true_and, and_self, or_false, false_or, true_or, or_true, and_false, false_and, qlit, qneg, qof, qn_add, qn_mul, qn_s, qn_z, qn_d, qn_dz, qm_1, qt_1, qt_0, qb_0, qb_1, qb_01, qb01b, q01_0, q01_1, qo_s, qo_n, qn_c, qn_le, qn_lt, qn_eq, qn_ne_m, qm_ne_n, qm_lt, qm_le, qn_lt_m, qn_le_m, qn_sub, qn_div, qn_mod, qle_t, qle_f, qlt_t, qlt_f, qeq_t, qeq_f, Nat.add_sub_cancel, qC_I, qC_s, qU_s, qU_a, qU_k, qRw_k _ _ hx, qRw_k1 _ _ hx, qRw_k2 _ _ hx, qRw_l1 _ _ hx, qRw_l2 _ _ hx, qRw_r0 _ _ hx, qRw_r1 _ _ hx, h1, e1]
  · have hlt := (List.getElem?_eq_some_iff.mp hj).1
    rw [qIns_len hp] at hlt
    rw [qIns_get hp] at hj
    rw [j1 j, j2 j]
    by_cases c1 : j < pl
    · rw [if_pos c1] at hj
      rw [if_pos c1, if_pos c1]
      exact h2 j k hj
    · rw [if_neg c1] at hj
      rw [if_neg c1, if_neg c1]
      by_cases c2 : j = pl
      · rw [if_pos c2] at hj
        injection hj with hj
        subst hj
        rw [if_pos c2, if_pos c2]
        exact ⟨rfl, rfl⟩
      · rw [if_neg c2] at hj
        rw [if_neg c2, if_neg c2, if_pos (by omega), if_pos (by omega)]
        exact h2 _ k hj
theorem qIns_end (ks : List qK) (k : qK) : qIns ks ks.length k = ks ++ [k] := by
  unfold qIns
  simp
def qDel (ks : List qK) (pl : Nat) : List qK := ks.take pl ++ ks.drop (pl + 1)
theorem qDel_len {pl : Nat} (h : pl < ks.length) : (qDel ks pl).length = ks.length - 1 := by
  unfold qDel
  simp; omega
theorem qDel_get {pl : Nat} (h : pl < ks.length) (j : Nat) : (qDel ks pl)[j]? = if j < pl then ks[j]? else ks[j + 1]? := by
  unfold qDel
  have hl : (ks.take pl).length = pl := by simp; omega
  rcases Nat.lt_or_ge j pl with c | c
  · rw [if_pos c, List.getElem?_append_left (by omega), List.getElem?_take_of_lt c]
  · rw [if_neg (by omega), List.getElem?_append_right (by omega), hl, List.getElem?_drop]
    congr 1
    omega
theorem cDrop_25 (hx : qRw x n) {l : Nat} (hl : l < n) : ∀ d i I m, d < m → I x 2 = qn l → i + d = l → ∃ J, fX3_dropToken_25 m x (qn i) (qC w I) = some (qn 0, qC w J) ∧ J x 2 = qn l ∧ (∀ j, J (x + 1) j = if i ≤ j ∧ j < l then I (x + 1) (j + 1) else I (x + 1) j) ∧ (∀ j, J (x + 2) j = if i ≤ j ∧ j < l then I (x + 2) (j + 1) else I (x + 2) j) ∧ (∀ a, a ≠ x + 1 → a ≠ x + 2 → J a = I a) := by
  have hx9 := hx.2.2
  intro d
  induction d with
  | zero =>
    intro i I m h1 h2 h3
    obtain ⟨m, rfl⟩ : ∃ m', m = m' + 1 := ⟨m - 1, by omega⟩
    refine ⟨I, ?_, h2, fun j => ?_, fun j => ?_, fun a _ _ => rfl⟩
    · unfold fX3_dropToken_25
      simp (disch := omega) only [↓qlet, eq_self, qzg_t, qzb_some, ↓reduceIte, not_or, not_false_eq_true, not_true_eq_false, and_true, true_and, and_self, or_false, false_or, true_or, or_true, and_false, false_and, qlit, qneg, qof, qn_add, qn_mul, qn_s, qn_z, qn_d, qn_dz, qm_1, qt_1, qt_0, qb_0, qb_1, qb_01, qb01b, q01_0, q01_1, qo_s, qo_n, qn_c, qn_le, qn_lt, qn_eq, qn_ne_m, qm_ne_n, qm_lt, qm_le, qn_lt_m, qn_le_m, qn_sub, qn_div, qn_mod, qle_t, qle_f, qlt_t, qlt_f, qeq_t, qeq_f, Nat.add_sub_cancel, qC_I, qC_s, qU_s, qU_a, qU_k, qRw_k _ _ hx, qRw_k1 _ _ hx, qRw_k2 _ _ hx, qRw_l1 _ _ hx, qRw_l2 _ _ hx, qRw_r0 _ _ hx, qRw_r1 _ _ hx, h2]
    · rw [if_neg (by omega)]
    · rw [if_neg (by omega)]
  | succ d ih =>
    intro i I m h1 h2 h3
    obtain ⟨m, rfl⟩ : ∃ m', m = m' + 1 := ⟨m - 1, by omega⟩
    obtain ⟨J, e1, j0, j1, j2, j3⟩ := ih (i + 1) (qU (qU I (x + 1) i (I (x + 1) (i + 1))) (x + 2) i (I (x + 2) (i + 1))) m (by omega) (by rw [qU_r (by omega), qU_r (by omega)]; exact h2) (by omega)
    refine ⟨J, ?_, j0, fun j => ?_, fun j => ?_, fun a h1 h2 => ?_⟩
    · unfold fX3_dropToken_25
      simp (disch := omega) only [↓qlet, eq_self, qzg_t, qzb_some, ↓reduceIte, not_or, not_false_eq_true, not_true_eq_false, and_true, true_and, and_self, or_false, false_or, true_or, or_true, and_false, false_and, qlit, qneg, qof, qn_add, qn_mul, qn_s, qn_z, qn_d, qn_dz, qm_1, qt_1, qt_0, qb_0, qb_1, qb_01, qb01b, q01_0, q01_1, qo_s, qo_n, qn_c, qn_le, qn_lt, qn_eq, qn_ne_m, qm_ne_n, qm_lt, qm_le, qn_lt_m, qn_le_m, qn_sub, qn_div, qn_mod, qle_t, qle_f, qlt_t, qlt_f, qeq_t, qeq_f, Nat.add_sub_cancel, qC_I, qC_s, qU_s, qU_a, qU_k, qRw_k _ _ hx, qRw_k1 _ _ hx, qRw_k2 _ _ hx, qRw_l1 _ _ hx, qRw_l2 _ _ hx, qRw_r0 _ _ hx, qRw_r1 _ _ hx, h2, e1]
    · rw [j1 j, qU_r (by omega)]
      by_cases c1 : i + 1 ≤ j ∧ j < l
      · rw [if_pos c1, if_pos (by omega), qU_k (by omega)]
      · rw [if_neg c1]
        by_cases c2 : j = i
        · subst c2; rw [qU_s, if_pos (by omega)]
        · rw [qU_k c2, if_neg (by omega)]
    · rw [j2 j]
      by_cases c1 : i + 1 ≤ j ∧ j < l
      · rw [if_pos c1, if_pos (by omega), qU_k (by omega), qU_r (by omega)]
      · rw [if_neg c1]
        by_cases c2 : j = i
        · subst c2; rw [qU_s, if_pos (by omega)]
        · rw [qU_k c2, if_neg (by omega), qU_r (by omega)]
    · rw [j3 a h1 h2, qU_r h2, qU_r h1]
theorem cDropTok (hx : qRw x n) (hk : qCK I x ks) (hn : ks.length ≤ n) (hn6 : n ≤ 600) {pl : Nat} (hp : pl < ks.length) : ∃ J, fX3_dropToken x (qn pl) (qC w I) = some (qn 0, qC w J) ∧ qCK J x (qDel ks pl) ∧ ∀ a, a ≠ x → a ≠ x + 1 → a ≠ x + 2 → J a = I a := by
  have hx9 := hx.2.2
  obtain ⟨h1, h2⟩ := hk
  obtain ⟨J, e1, j0, j1, j2, j3⟩ := cDrop_25 (w := w) hx (l := ks.length - 1) (by omega) (ks.length - 1 - pl) pl (qU I x 2 (qn (ks.length - 1))) 10000 (by omega) (qU_s ..) (by omega)
  refine ⟨J, ?_, ⟨by rw [j0, qDel_len hp], fun j k hj => ?_⟩, fun a a1 a2 a3 => by rw [j3 a a2 a3, qU_r a1]⟩
  · unfold fX3_dropToken
    simp (disch := omega) only [↓qlet, eq_self, qzg_t, qzb_some, ↓reduceIte, not_or, not_false_eq_true, not_true_eq_false, and_true, true_and, and_self, or_false, false_or, true_or, or_true, and_false, false_and, qlit, qneg, qof, qn_add, qn_mul, qn_s, qn_z, qn_d, qn_dz, qm_1, qt_1, qt_0, qb_0, qb_1, qb_01, qb01b, q01_0, q01_1, qo_s, qo_n, qn_c, qn_le, qn_lt, qn_eq, qn_ne_m, qm_ne_n, qm_lt, qm_le, qn_lt_m, qn_le_m, qn_sub, qn_div, qn_mod, qle_t, qle_f, qlt_t, qlt_f, qeq_t, qeq_f, Nat.add_sub_cancel, qC_I, qC_s, qU_s, qU_a, qU_k, qRw_k _ _ hx, qRw_k1 _ _ hx, qRw_k2 _ _ hx, qRw_l1 _ _ hx, qRw_l2 _ _ hx, qRw_r0 _ _ hx, qRw_r1 _ _ hx, h1, e1]
  · have hlt := (List.getElem?_eq_some_iff.mp hj).1
    rw [qDel_len hp] at hlt
    rw [qDel_get hp] at hj
    rw [j1 j, j2 j, qU_r (by omega), qU_r (by omega)]
    by_cases c1 : j < pl
    · rw [if_pos c1] at hj
      rw [if_neg (by omega), if_neg (by omega)]
      exact h2 j k hj
    · rw [if_neg c1] at hj
      rw [if_pos (by omega), if_pos (by omega)]
      exact h2 _ k hj
end
