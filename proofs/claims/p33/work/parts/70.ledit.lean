/-! THE LAW: tokens drawn; edits; entities and switches -/
theorem lDrawn (w : Bool) (I : Nat → Nat → Int32) (W : Nat → Nat → Nat) {u : Nat} (hu : u < 100000000) : ∃ s v, v < 128 ∧ fL_drawn (qn u) (qL w I W) = some (qn (128 * s + v), qL w I W) ∧ qKl (s, qn v) := by
  have hk : ∀ s v, s ≤ 8 → v < 128 → (s = 0 ∨ s = 1 → v < 5) → (s = 4 → 32 ≤ v ∧ v < 127) → (s = 6 ∨ s = 7 → v < 2) → qKl (s, qn v) := fun s v h1 h2 h3 h4 h5 => ⟨h1, v, h2, rfl, h3, h4, h5⟩
  have h5 : u / 32 % 5 < 5 := Nat.mod_lt _ (by decide)
  have h3 : u / 32 % 3 < 3 := Nat.mod_lt _ (by decide)
  have h2 : u / 32 % 2 < 2 := Nat.mod_lt _ (by decide)
  have h16 : u % 16 < 16 := Nat.mod_lt _ (by decide)
  unfold fL_drawn fL_drawn_26 fL_drawn_102 fL_drawn_146 fL_drawn_156
  by_cases c11 : u % 16 = 11
  · exact ⟨2, 0, by omega, by simp (disch := omega) only [↓qlet, eq_self, qzg_t, qzb_some, ↓reduceIte, not_or, not_false_eq_true, not_true_eq_false, and_true, true_and, and_self, or_false, false_or, true_or, or_true, and_false, false_and, qlit, qneg, qof, qn_add, qn_mul, qn_s, qn_z, qn_d, qn_dz, qm_1, qt_1, qt_0, qb_0, qb_1, qb_01, qb01b, q01_0, q01_1, qo_s, qo_n, qn_c, qn_le, qn_lt, qn_eq, qn_ne_m, qm_ne_n, qm_lt, qm_le, qn_lt_m, qn_le_m, qn_sub, qn_div, qn_mod, qle_t, qle_f, qlt_t, qlt_f, qeq_t, qeq_f, Nat.add_sub_cancel, qU_s, qU_a, qU_k, qn_rem, qL_I, qL_s, lk_505, lk_506, lk_507, lk_508, lk_509, lk_510, lk_511, lk_512, lk_513, lk_514, lk_515, lk_516, lk_517, lk_518, lk_519, ll_505, ll_506, ll_507, ll_508, ll_509, ll_510, ll_511, ll_512, ll_513, ll_514, ll_515, ll_516, ll_517, ll_518, ll_519, c11], hk 2 0 (by omega) (by omega) (by omega) (by omega) (by omega)⟩
  by_cases c12 : u % 16 = 12
  · exact ⟨3, 0, by omega, by simp (disch := omega) only [↓qlet, eq_self, qzg_t, qzb_some, ↓reduceIte, not_or, not_false_eq_true, not_true_eq_false, and_true, true_and, and_self, or_false, false_or, true_or, or_true, and_false, false_and, qlit, qneg, qof, qn_add, qn_mul, qn_s, qn_z, qn_d, qn_dz, qm_1, qt_1, qt_0, qb_0, qb_1, qb_01, qb01b, q01_0, q01_1, qo_s, qo_n, qn_c, qn_le, qn_lt, qn_eq, qn_ne_m, qm_ne_n, qm_lt, qm_le, qn_lt_m, qn_le_m, qn_sub, qn_div, qn_mod, qle_t, qle_f, qlt_t, qlt_f, qeq_t, qeq_f, Nat.add_sub_cancel, qU_s, qU_a, qU_k, qn_rem, qL_I, qL_s, lk_505, lk_506, lk_507, lk_508, lk_509, lk_510, lk_511, lk_512, lk_513, lk_514, lk_515, lk_516, lk_517, lk_518, lk_519, ll_505, ll_506, ll_507, ll_508, ll_509, ll_510, ll_511, ll_512, ll_513, ll_514, ll_515, ll_516, ll_517, ll_518, ll_519, c12], hk 3 0 (by omega) (by omega) (by omega) (by omega) (by omega)⟩
  by_cases c13 : u % 16 = 13
  · exact ⟨5, 0, by omega, by simp (disch := omega) only [↓qlet, eq_self, qzg_t, qzb_some, ↓reduceIte, not_or, not_false_eq_true, not_true_eq_false, and_true, true_and, and_self, or_false, false_or, true_or, or_true, and_false, false_and, qlit, qneg, qof, qn_add, qn_mul, qn_s, qn_z, qn_d, qn_dz, qm_1, qt_1, qt_0, qb_0, qb_1, qb_01, qb01b, q01_0, q01_1, qo_s, qo_n, qn_c, qn_le, qn_lt, qn_eq, qn_ne_m, qm_ne_n, qm_lt, qm_le, qn_lt_m, qn_le_m, qn_sub, qn_div, qn_mod, qle_t, qle_f, qlt_t, qlt_f, qeq_t, qeq_f, Nat.add_sub_cancel, qU_s, qU_a, qU_k, qn_rem, qL_I, qL_s, lk_505, lk_506, lk_507, lk_508, lk_509, lk_510, lk_511, lk_512, lk_513, lk_514, lk_515, lk_516, lk_517, lk_518, lk_519, ll_505, ll_506, ll_507, ll_508, ll_509, ll_510, ll_511, ll_512, ll_513, ll_514, ll_515, ll_516, ll_517, ll_518, ll_519, c13], hk 5 0 (by omega) (by omega) (by omega) (by omega) (by omega)⟩
  by_cases c14 : u % 16 = 14
  · exact ⟨6, u / 32 % 2, by omega, by simp (disch := omega) only [↓qlet, eq_self, qzg_t, qzb_some, ↓reduceIte, not_or, not_false_eq_true, not_true_eq_false, and_true, true_and, and_self, or_false, false_or, true_or, or_true, and_false, false_and, qlit, qneg, qof, qn_add, qn_mul, qn_s, qn_z, qn_d, qn_dz, qm_1, qt_1, qt_0, qb_0, qb_1, qb_01, qb01b, q01_0, q01_1, qo_s, qo_n, qn_c, qn_le, qn_lt, qn_eq, qn_ne_m, qm_ne_n, qm_lt, qm_le, qn_lt_m, qn_le_m, qn_sub, qn_div, qn_mod, qle_t, qle_f, qlt_t, qlt_f, qeq_t, qeq_f, Nat.add_sub_cancel, qU_s, qU_a, qU_k, qn_rem, qL_I, qL_s, lk_505, lk_506, lk_507, lk_508, lk_509, lk_510, lk_511, lk_512, lk_513, lk_514, lk_515, lk_516, lk_517, lk_518, lk_519, ll_505, ll_506, ll_507, ll_508, ll_509, ll_510, ll_511, ll_512, ll_513, ll_514, ll_515, ll_516, ll_517, ll_518, ll_519, c14], hk 6 _ (by omega) (by omega) (by omega) (by omega) (by omega)⟩
  by_cases c15 : u % 16 = 15
  · rcases Nat.mod_two_eq_zero_or_one (u / 16) with c | c
    · exact ⟨7, u / 32 % 2, by omega, by simp (disch := omega) only [↓qlet, eq_self, qzg_t, qzb_some, ↓reduceIte, not_or, not_false_eq_true, not_true_eq_false, and_true, true_and, and_self, or_false, false_or, true_or, or_true, and_false, false_and, qlit, qneg, qof, qn_add, qn_mul, qn_s, qn_z, qn_d, qn_dz, qm_1, qt_1, qt_0, qb_0, qb_1, qb_01, qb01b, q01_0, q01_1, qo_s, qo_n, qn_c, qn_le, qn_lt, qn_eq, qn_ne_m, qm_ne_n, qm_lt, qm_le, qn_lt_m, qn_le_m, qn_sub, qn_div, qn_mod, qle_t, qle_f, qlt_t, qlt_f, qeq_t, qeq_f, Nat.add_sub_cancel, qU_s, qU_a, qU_k, qn_rem, qL_I, qL_s, lk_505, lk_506, lk_507, lk_508, lk_509, lk_510, lk_511, lk_512, lk_513, lk_514, lk_515, lk_516, lk_517, lk_518, lk_519, ll_505, ll_506, ll_507, ll_508, ll_509, ll_510, ll_511, ll_512, ll_513, ll_514, ll_515, ll_516, ll_517, ll_518, ll_519, c15, c], hk 7 _ (by omega) (by omega) (by omega) (by omega) (by omega)⟩
    · exact ⟨8, 0, by omega, by simp (disch := omega) only [↓qlet, eq_self, qzg_t, qzb_some, ↓reduceIte, not_or, not_false_eq_true, not_true_eq_false, and_true, true_and, and_self, or_false, false_or, true_or, or_true, and_false, false_and, qlit, qneg, qof, qn_add, qn_mul, qn_s, qn_z, qn_d, qn_dz, qm_1, qt_1, qt_0, qb_0, qb_1, qb_01, qb01b, q01_0, q01_1, qo_s, qo_n, qn_c, qn_le, qn_lt, qn_eq, qn_ne_m, qm_ne_n, qm_lt, qm_le, qn_lt_m, qn_le_m, qn_sub, qn_div, qn_mod, qle_t, qle_f, qlt_t, qlt_f, qeq_t, qeq_f, Nat.add_sub_cancel, qU_s, qU_a, qU_k, qn_rem, qL_I, qL_s, lk_505, lk_506, lk_507, lk_508, lk_509, lk_510, lk_511, lk_512, lk_513, lk_514, lk_515, lk_516, lk_517, lk_518, lk_519, ll_505, ll_506, ll_507, ll_508, ll_509, ll_510, ll_511, ll_512, ll_513, ll_514, ll_515, ll_516, ll_517, ll_518, ll_519, c15, c], hk 8 0 (by omega) (by omega) (by omega) (by omega) (by omega)⟩
  by_cases c5 : 5 ≤ u % 16
  · by_cases c8 : 8 ≤ u % 16
    · exact ⟨4, 97 + u / 32 % 3, by omega, by simp (disch := omega) only [↓qlet, eq_self, qzg_t, qzb_some, ↓reduceIte, not_or, not_false_eq_true, not_true_eq_false, and_true, true_and, and_self, or_false, false_or, true_or, or_true, and_false, false_and, qlit, qneg, qof, qn_add, qn_mul, qn_s, qn_z, qn_d, qn_dz, qm_1, qt_1, qt_0, qb_0, qb_1, qb_01, qb01b, q01_0, q01_1, qo_s, qo_n, qn_c, qn_le, qn_lt, qn_eq, qn_ne_m, qm_ne_n, qm_lt, qm_le, qn_lt_m, qn_le_m, qn_sub, qn_div, qn_mod, qle_t, qle_f, qlt_t, qlt_f, qeq_t, qeq_f, Nat.add_sub_cancel, qU_s, qU_a, qU_k, qn_rem, qL_I, qL_s, lk_505, lk_506, lk_507, lk_508, lk_509, lk_510, lk_511, lk_512, lk_513, lk_514, lk_515, lk_516, lk_517, lk_518, lk_519, ll_505, ll_506, ll_507, ll_508, ll_509, ll_510, ll_511, ll_512, ll_513, ll_514, ll_515, ll_516, ll_517, ll_518, ll_519, c5, c8, c11, c12, c13, c14, c15], hk 4 _ (by omega) (by omega) (by omega) (by omega) (by omega)⟩
    · exact ⟨1, u / 32 % 5, by omega, by simp (disch := omega) only [↓qlet, eq_self, qzg_t, qzb_some, ↓reduceIte, not_or, not_false_eq_true, not_true_eq_false, and_true, true_and, and_self, or_false, false_or, true_or, or_true, and_false, false_and, qlit, qneg, qof, qn_add, qn_mul, qn_s, qn_z, qn_d, qn_dz, qm_1, qt_1, qt_0, qb_0, qb_1, qb_01, qb01b, q01_0, q01_1, qo_s, qo_n, qn_c, qn_le, qn_lt, qn_eq, qn_ne_m, qm_ne_n, qm_lt, qm_le, qn_lt_m, qn_le_m, qn_sub, qn_div, qn_mod, qle_t, qle_f, qlt_t, qlt_f, qeq_t, qeq_f, Nat.add_sub_cancel, qU_s, qU_a, qU_k, qn_rem, qL_I, qL_s, lk_505, lk_506, lk_507, lk_508, lk_509, lk_510, lk_511, lk_512, lk_513, lk_514, lk_515, lk_516, lk_517, lk_518, lk_519, ll_505, ll_506, ll_507, ll_508, ll_509, ll_510, ll_511, ll_512, ll_513, ll_514, ll_515, ll_516, ll_517, ll_518, ll_519, c5, c8, c11, c12, c13, c14, c15], hk 1 _ (by omega) (by omega) (by omega) (by omega) (by omega)⟩
  · exact ⟨0, u / 32 % 5, by omega, by simp (disch := omega) only [↓qlet, eq_self, qzg_t, qzb_some, ↓reduceIte, not_or, not_false_eq_true, not_true_eq_false, and_true, true_and, and_self, or_false, false_or, true_or, or_true, and_false, false_and, qlit, qneg, qof, qn_add, qn_mul, qn_s, qn_z, qn_d, qn_dz, qm_1, qt_1, qt_0, qb_0, qb_1, qb_01, qb01b, q01_0, q01_1, qo_s, qo_n, qn_c, qn_le, qn_lt, qn_eq, qn_ne_m, qm_ne_n, qm_lt, qm_le, qn_lt_m, qn_le_m, qn_sub, qn_div, qn_mod, qle_t, qle_f, qlt_t, qlt_f, qeq_t, qeq_f, Nat.add_sub_cancel, qU_s, qU_a, qU_k, qn_rem, qL_I, qL_s, lk_505, lk_506, lk_507, lk_508, lk_509, lk_510, lk_511, lk_512, lk_513, lk_514, lk_515, lk_516, lk_517, lk_518, lk_519, ll_505, ll_506, ll_507, ll_508, ll_509, ll_510, ll_511, ll_512, ll_513, ll_514, ll_515, ll_516, ll_517, ll_518, ll_519, c5, c11, c12, c13, c14, c15], hk 0 _ (by omega) (by omega) (by omega) (by omega) (by omega)⟩
theorem qKin_l {s v : Nat} (h : qKl (s, qn v)) (hv : v < 128) : qKin (qn s) (qn v) = true := by
  obtain ⟨h1, n, h2, h3, h4, h5, h6⟩ := h
  have h1 : s ≤ 8 := h1
  have h3 : qn v = qn n := h3
  rw [qn_eq (by omega) (by omega)] at h3
  subst h3
  have h4 : s = 0 ∨ s = 1 → v < 5 := h4
  have h5 : s = 4 → 32 ≤ v ∧ v < 127 := h5
  have h6 : s = 6 ∨ s = 7 → v < 2 := h6
  unfold qKin
  rw [qin_of (by omega) (show s < 9 by omega)]
  dsimp only
  by_cases c0 : s = 0 ∨ s = 1
  · rw [if_pos c0, qin_of (by omega) (by have := h4 c0; omega)]; rfl
  · rw [if_neg c0]
    by_cases c4 : s = 4
    · have := h5 c4
      rw [if_pos c4]
      exact decide_eq_true ⟨by rw [qn_le (by omega) (by omega)]; omega, by rw [qn_le (by omega) (by omega)]; omega⟩
    · rw [if_neg c4]
      by_cases c6 : s = 6
      · rw [if_pos c6, qin_of (by omega) (by have := h6 (Or.inl c6); omega)]; rfl
      · rw [if_neg c6]
        by_cases c7 : s = 7
        · rw [if_pos c7, qin_of (by omega) (by have := h6 (Or.inr c7); omega)]; rfl
        · rw [if_neg c7]
section
variable {w : Bool} {I : Nat → Nat → Int32} {W : Nat → Nat → Nat} {A : qA}
/-- tokens from a place on, one up; one down -/
def qShU (I : Nat → Nat → Int32) (pl d : Nat) : Nat → Nat → Int32 := fun a k => if a = 509 ∧ pl < k ∧ k ≤ pl + d then I 509 (k - 1) else I a k
def qShD (I : Nat → Nat → Int32) (i n : Nat) : Nat → Nat → Int32 := fun a k => if a = 509 ∧ i ≤ k ∧ k + 1 < n then I 509 (k + 1) else I a k
theorem qShU_s (I : Nat → Nat → Int32) (pl d : Nat) : qShU (qU I 509 (pl + d + 1) (I 509 (pl + d))) pl d = qShU I pl (d + 1) := by
  funext a k
  unfold qShU
  by_cases ca : a = 509
  · subst ca
    by_cases c1 : pl < k ∧ k ≤ pl + d
    · rw [if_pos ⟨rfl, c1⟩, if_pos ⟨rfl, by omega⟩, qU_k (by omega)]
    · rw [if_neg (fun h => c1 h.2)]
      by_cases c2 : k = pl + d + 1
      · subst c2
        rw [if_pos ⟨rfl, by omega⟩, qU_s]
        rfl
      · rw [if_neg (by omega), qU_k c2]
  · rw [if_neg (fun h => ca h.1), if_neg (fun h => ca h.1), qU_r ca]
theorem qShD_s (I : Nat → Nat → Int32) {i n : Nat} (h : i + 1 < n) : qShD (qU I 509 i (I 509 (i + 1))) (i + 1) n = qShD I i n := by
  funext a k
  unfold qShD
  by_cases ca : a = 509
  · subst ca
    by_cases c1 : i + 1 ≤ k ∧ k + 1 < n
    · rw [if_pos ⟨rfl, c1⟩, if_pos ⟨rfl, by omega⟩, qU_k (by omega)]
    · rw [if_neg (fun h => c1 h.2)]
      by_cases c2 : k = i
      · subst c2
        rw [if_pos ⟨rfl, by omega⟩, qU_s]
      · rw [if_neg (by omega), qU_k c2]
  · rw [if_neg (fun h => ca h.1), if_neg (fun h => ca h.1), qU_r ca]
theorem lUp (tok : Int32) {pl : Nat} : ∀ d I m, pl + d ≤ 18 → d < m → fL_isEdited_37 m 1 509 tok (qn pl) (qn (pl + d)) (qL w I W) = fL_isEdited_60 1 509 tok (qn pl) (qL w (qShU I pl d) W) := by
  intro d
  induction d with
  | zero =>
    intro I m h1 h2
    obtain ⟨m, rfl⟩ : ∃ q, m = q + 1 := ⟨m - 1, by omega⟩
    have e : qShU I pl 0 = I := by
      funext a k
      unfold qShU
      rw [if_neg (by omega)]
    rw [e]
    unfold fL_isEdited_37
    generalize fL_isEdited_60 = F
    simp (disch := omega) only [↓qlet, eq_self, qzg_t, qzb_some, ↓reduceIte, not_or, not_false_eq_true, not_true_eq_false, and_true, true_and, and_self, or_false, false_or, true_or, or_true, and_false, false_and, qlit, qneg, qof, qn_add, qn_mul, qn_s, qn_z, qn_d, qn_dz, qm_1, qt_1, qt_0, qb_0, qb_1, qb_01, qb01b, q01_0, q01_1, qo_s, qo_n, qn_c, qn_le, qn_lt, qn_eq, qn_ne_m, qm_ne_n, qm_lt, qm_le, qn_lt_m, qn_le_m, qn_sub, qn_div, qn_mod, qle_t, qle_f, qlt_t, qlt_f, qeq_t, qeq_f, Nat.add_sub_cancel, qU_s, qU_a, qU_k, qn_rem, qL_I, qL_s, lk_505, lk_506, lk_507, lk_508, lk_509, lk_510, lk_511, lk_512, lk_513, lk_514, lk_515, lk_516, lk_517, lk_518, lk_519, ll_505, ll_506, ll_507, ll_508, ll_509, ll_510, ll_511, ll_512, ll_513, ll_514, ll_515, ll_516, ll_517, ll_518, ll_519, Nat.add_zero, Nat.le_refl]
  | succ d ih =>
    intro I m h1 h2
    obtain ⟨m, rfl⟩ : ∃ q, m = q + 1 := ⟨m - 1, by omega⟩
    have ih := ih (qU I 509 (pl + d + 1) (I 509 (pl + d))) m (by omega) (by omega)
    rw [qShU_s] at ih
    have c : ¬ pl + d + 1 ≤ pl := by omega
    rw [show pl + (d + 1) = pl + d + 1 by omega]
    unfold fL_isEdited_37
    generalize fL_isEdited_60 = F at ih ⊢
    simp (disch := omega) only [↓qlet, eq_self, qzg_t, qzb_some, ↓reduceIte, not_or, not_false_eq_true, not_true_eq_false, and_true, true_and, and_self, or_false, false_or, true_or, or_true, and_false, false_and, qlit, qneg, qof, qn_add, qn_mul, qn_s, qn_z, qn_d, qn_dz, qm_1, qt_1, qt_0, qb_0, qb_1, qb_01, qb01b, q01_0, q01_1, qo_s, qo_n, qn_c, qn_le, qn_lt, qn_eq, qn_ne_m, qm_ne_n, qm_lt, qm_le, qn_lt_m, qn_le_m, qn_sub, qn_div, qn_mod, qle_t, qle_f, qlt_t, qlt_f, qeq_t, qeq_f, Nat.add_sub_cancel, qU_s, qU_a, qU_k, qn_rem, qL_I, qL_s, lk_505, lk_506, lk_507, lk_508, lk_509, lk_510, lk_511, lk_512, lk_513, lk_514, lk_515, lk_516, lk_517, lk_518, lk_519, ll_505, ll_506, ll_507, ll_508, ll_509, ll_510, ll_511, ll_512, ll_513, ll_514, ll_515, ll_516, ll_517, ll_518, ll_519, c]
    exact ih
theorem lDown {n pl : Nat} (hn : n ≤ 18) : ∀ d i I m, i + d + 1 = n → d < m → I 509 20 = qn n → fL_isEdited_109 m 1 509 (qn pl) (qn i) (qL w I W) = fL_isEdited_136 1 509 (qn pl) (qL w (qShD I i n) W) := by
  intro d
  induction d with
  | zero =>
    intro i I m h1 h2 h20
    obtain ⟨m, rfl⟩ : ∃ q, m = q + 1 := ⟨m - 1, by omega⟩
    have e : qShD I i n = I := by
      funext a k
      unfold qShD
      rw [if_neg (by omega)]
    rw [e]
    have c : n ≤ i + 1 := by omega
    unfold fL_isEdited_109
    generalize fL_isEdited_136 = F
    simp (disch := omega) only [↓qlet, eq_self, qzg_t, qzb_some, ↓reduceIte, not_or, not_false_eq_true, not_true_eq_false, and_true, true_and, and_self, or_false, false_or, true_or, or_true, and_false, false_and, qlit, qneg, qof, qn_add, qn_mul, qn_s, qn_z, qn_d, qn_dz, qm_1, qt_1, qt_0, qb_0, qb_1, qb_01, qb01b, q01_0, q01_1, qo_s, qo_n, qn_c, qn_le, qn_lt, qn_eq, qn_ne_m, qm_ne_n, qm_lt, qm_le, qn_lt_m, qn_le_m, qn_sub, qn_div, qn_mod, qle_t, qle_f, qlt_t, qlt_f, qeq_t, qeq_f, Nat.add_sub_cancel, qU_s, qU_a, qU_k, qn_rem, qL_I, qL_s, lk_505, lk_506, lk_507, lk_508, lk_509, lk_510, lk_511, lk_512, lk_513, lk_514, lk_515, lk_516, lk_517, lk_518, lk_519, ll_505, ll_506, ll_507, ll_508, ll_509, ll_510, ll_511, ll_512, ll_513, ll_514, ll_515, ll_516, ll_517, ll_518, ll_519, h20, c]
  | succ d ih =>
    intro i I m h1 h2 h20
    obtain ⟨m, rfl⟩ : ∃ q, m = q + 1 := ⟨m - 1, by omega⟩
    have ih := ih (i + 1) (qU I 509 i (I 509 (i + 1))) m (by omega) (by omega) (by rw [qU_k (by omega)]; exact h20)
    rw [qShD_s I (by omega)] at ih
    have c : ¬ n ≤ i + 1 := by omega
    unfold fL_isEdited_109
    generalize fL_isEdited_136 = F at ih ⊢
    simp (disch := omega) only [↓qlet, eq_self, qzg_t, qzb_some, ↓reduceIte, not_or, not_false_eq_true, not_true_eq_false, and_true, true_and, and_self, or_false, false_or, true_or, or_true, and_false, false_and, qlit, qneg, qof, qn_add, qn_mul, qn_s, qn_z, qn_d, qn_dz, qm_1, qt_1, qt_0, qb_0, qb_1, qb_01, qb01b, q01_0, q01_1, qo_s, qo_n, qn_c, qn_le, qn_lt, qn_eq, qn_ne_m, qm_ne_n, qm_lt, qm_le, qn_lt_m, qn_le_m, qn_sub, qn_div, qn_mod, qle_t, qle_f, qlt_t, qlt_f, qeq_t, qeq_f, Nat.add_sub_cancel, qU_s, qU_a, qU_k, qn_rem, qL_I, qL_s, lk_505, lk_506, lk_507, lk_508, lk_509, lk_510, lk_511, lk_512, lk_513, lk_514, lk_515, lk_516, lk_517, lk_518, lk_519, ll_505, ll_506, ll_507, ll_508, ll_509, ll_510, ll_511, ll_512, ll_513, ll_514, ll_515, ll_516, ll_517, ll_518, ll_519, h20, c]
    exact ih
theorem lInsert (hA : qCA w I A) (hL : qLI I A) {u : Nat} (hu : u < 100000000) (h18 : A.2.2.2.1.length < 18) : ∃ w2 J ks', fL_isEdited 1 509 (qn 1) (qn u) (qL w I W) = some (qn 1, qL w2 J W) ∧ qCA w2 J (A.1, A.2.1, A.2.2.1, ks', qAnew ks' (qFull A.1 A.2.1 A.2.2.1 ks').2 (qFA A).2 (u % (A.2.2.2.1.length + 1)) (u % (A.2.2.2.1.length + 1) + 1) true) ∧ qLI J (A.1, A.2.1, A.2.2.1, ks', 0) ∧ ks'.length = A.2.2.2.1.length + 1 ∧ ∀ a, 510 ≤ a → J a = I a := by
  obtain ⟨hG, ⟨t1, t2, t3⟩, hEn, hSw⟩ := hL
  have t3 : qLTk I 509 0 A.2.2.2.1 := t3
  have t1 : I 509 20 = qn A.2.2.2.1.length := t1
  generalize hks : A.2.2.2.1 = ks at *
  obtain ⟨pl, hpl⟩ : ∃ pl, pl = u % (ks.length + 1) := ⟨_, rfl⟩
  rw [← hpl]
  have hpl1 : pl ≤ ks.length := by have := Nat.mod_lt u (show 0 < ks.length + 1 by omega); omega
  obtain ⟨s, v, d1, d2, d3⟩ := lDrawn w I W (u := u / 32) (by omega)
  have d8 : s ≤ 8 := d3.1
  have e1 : (128 * s + v) / 128 = s := by omega
  have e2 : (128 * s + v) % 128 = v := by omega
  have hup := lUp (w := w) (W := W) (qn (128 * s + v)) (pl := pl) (ks.length - pl) I 10000 (by omega) (by omega)
  rw [show pl + (ks.length - pl) = ks.length by omega] at hup
  obtain ⟨I1, hI1⟩ : ∃ I1, I1 = qU (qU (qShU I pl (ks.length - pl)) 509 pl (qn (128 * s + v))) 509 20 (qn (ks.length + 1)) := ⟨_, rfl⟩
  have r0 : ∀ a, a ≠ 509 → I1 a = I a := fun a ha => by
    rw [hI1, qU_r ha, qU_r ha]
    funext k
    unfold qShU
    rw [if_neg (fun h => ha h.1)]
  have h20 : qShU I pl (ks.length - pl) 509 20 = qn ks.length := by
    unfold qShU
    rw [if_neg (by omega)]
    exact t1
  have hCA1 : qCA w I1 A := qCA_st hA fun a ha => r0 a (by omega)
  obtain ⟨w2, J, c1, c2⟩ := cInsert (w := w) (I := I1) hCA1 (qn pl) (qn s) (qn v)
  have hq : qoInsert A (qn pl) (qn s) (qn v) = (0, qn (ks.length + 1), A.1, A.2.1, A.2.2.1, qIns ks pl (s, qn v), qAnew (qIns ks pl (s, qn v)) (qFull A.1 A.2.1 A.2.2.1 (qIns ks pl (s, qn v))).2 (qFA A).2 pl (pl + 1) true) := by
    unfold qoInsert
    rw [hks, qin_of (by omega) (show pl < ks.length + 1 by omega)]
    dsimp only
    rw [qKin_l d3 d1, if_neg (by decide), if_neg (by omega), qn_c (by omega)]
  rw [hq] at c1 c2
  dsimp only at c1 c2
  refine ⟨w2, qJn J I1, qIns ks pl (s, qn v), ?_, qCA_J c2, ⟨?_, ⟨?_, ?_, ?_⟩, ?_, ?_⟩, qIns_len hpl1 _, fun a ha => by rw [qJn_r (by omega), r0 a (by omega)]⟩
  · have h21 : I1 509 20 = qn (ks.length + 1) := by rw [hI1, qU_s]
    have hm : u % (ks.length + 1) = pl := hpl.symm
    have h60 : fL_isEdited_60 1 509 (qn (128 * s + v)) (qn pl) (qL w (qShU I pl (ks.length - pl)) W) = some (qn 1, qL w2 (qJn J I1) W) := by
      unfold fL_isEdited_60
      simp (disch := omega) only [↓qlet, eq_self, qzg_t, qzb_some, ↓reduceIte, not_or, not_false_eq_true, not_true_eq_false, and_true, true_and, and_self, or_false, false_or, true_or, or_true, and_false, false_and, qlit, qneg, qof, qn_add, qn_mul, qn_s, qn_z, qn_d, qn_dz, qm_1, qt_1, qt_0, qb_0, qb_1, qb_01, qb01b, q01_0, q01_1, qo_s, qo_n, qn_c, qn_le, qn_lt, qn_eq, qn_ne_m, qm_ne_n, qm_lt, qm_le, qn_lt_m, qn_le_m, qn_sub, qn_div, qn_mod, qle_t, qle_f, qlt_t, qlt_f, qeq_t, qeq_f, Nat.add_sub_cancel, qU_s, qU_a, qU_k, qn_rem, qL_I, qL_s, lk_505, lk_506, lk_507, lk_508, lk_509, lk_510, lk_511, lk_512, lk_513, lk_514, lk_515, lk_516, lk_517, lk_518, lk_519, ll_505, ll_506, ll_507, ll_508, ll_509, ll_510, ll_511, ll_512, ll_513, ll_514, ll_515, ll_516, ll_517, ll_518, ll_519, lcut, zbc_0, zbd_0, lCel, lk_1, qJn_r, h20, ← hI1, e1, e2, c1, h21]
    rw [h60] at hup
    unfold fL_isEdited fL_isEdited_23
    generalize fL_isEdited_37 10000 = F at hup ⊢
    generalize fL_isEdited_109 10000 = F2
    simp (disch := omega) only [↓qlet, eq_self, qzg_t, qzb_some, ↓reduceIte, not_or, not_false_eq_true, not_true_eq_false, and_true, true_and, and_self, or_false, false_or, true_or, or_true, and_false, false_and, qlit, qneg, qof, qn_add, qn_mul, qn_s, qn_z, qn_d, qn_dz, qm_1, qt_1, qt_0, qb_0, qb_1, qb_01, qb01b, q01_0, q01_1, qo_s, qo_n, qn_c, qn_le, qn_lt, qn_eq, qn_ne_m, qm_ne_n, qm_lt, qm_le, qn_lt_m, qn_le_m, qn_sub, qn_div, qn_mod, qle_t, qle_f, qlt_t, qlt_f, qeq_t, qeq_f, Nat.add_sub_cancel, qU_s, qU_a, qU_k, qn_rem, qL_I, qL_s, lk_505, lk_506, lk_507, lk_508, lk_509, lk_510, lk_511, lk_512, lk_513, lk_514, lk_515, lk_516, lk_517, lk_518, lk_519, ll_505, ll_506, ll_507, ll_508, ll_509, ll_510, ll_511, ll_512, ll_513, ll_514, ll_515, ll_516, ll_517, ll_518, ll_519, d2, t1, hm]
    exact hup
  · exact qLG_fr hG (by rw [qJn_r (by omega), r0 _ (by omega)]) (by rw [qJn_r (by omega), r0 _ (by omega)]) (by rw [qJn_r (by omega), r0 _ (by omega)])
  · show qJn J I1 509 20 = qn (qIns ks pl (s, qn v)).length
    rw [qJn_r (by omega), qIns_len hpl1, hI1, qU_s]
  · show (qIns ks pl (s, qn v)).length ≤ 18
    rw [qIns_len hpl1]; omega
  · intro i k hk
    rw [qIns_get hpl1] at hk
    rw [qJn_r (by omega), Nat.zero_add]
    by_cases ci : i < pl
    · rw [if_pos ci] at hk
      obtain ⟨a1, a2⟩ := t3 i k hk
      rw [Nat.zero_add] at a2
      refine ⟨a1, ?_⟩
      rw [hI1, qU_k (by omega), qU_k (by omega)]
      unfold qShU
      rw [if_neg (by omega)]
      exact a2
    · rw [if_neg ci] at hk
      by_cases ci2 : i = pl
      · rw [if_pos ci2] at hk
        injection hk with hk
        subst hk
        refine ⟨d3, ?_⟩
        rw [hI1, qU_k (by omega), ci2, qU_s, qn_add]
      · rw [if_neg ci2] at hk
        obtain ⟨a1, a2⟩ := t3 (i - 1) k hk
        have hlt := (List.getElem?_eq_some_iff.mp hk).1
        rw [Nat.zero_add] at a2
        refine ⟨a1, ?_⟩
        rw [hI1, qU_k (by omega), qU_k (by omega)]
        unfold qShU
        rw [if_pos ⟨rfl, by omega⟩]
        exact a2
  · intro e he
    rw [qJn_r (by omega), r0 508 (by omega)]
    obtain ⟨b1, b2, b3⟩ := hEn e he
    refine ⟨b1, b2, fun i k hk => ?_⟩
    rw [qJn_r (by omega), r0 508 (by omega)]
    exact b3 i k hk
  · intro j hj
    rw [qJn_r (by omega), r0 508 (by omega)]
    exact hSw j hj
theorem lErase (hA : qCA w I A) (hL : qLI I A) {u : Nat} (hu : u < 100000000) (h0 : 0 < A.2.2.2.1.length) : ∃ w2 J ks', fL_isEdited 1 509 (qn 0) (qn u) (qL w I W) = some (qn 1, qL w2 J W) ∧ qCA w2 J (A.1, A.2.1, A.2.2.1, ks', qAnew ks' (qFull A.1 A.2.1 A.2.2.1 ks').2 (qFA A).2 (u % A.2.2.2.1.length) (u % A.2.2.2.1.length) false) ∧ qLI J (A.1, A.2.1, A.2.2.1, ks', 0) ∧ ks'.length + 1 = A.2.2.2.1.length ∧ ∀ a, 510 ≤ a → J a = I a := by
  obtain ⟨hG, ⟨t1, t2, t3⟩, hEn, hSw⟩ := hL
  have t3 : qLTk I 509 0 A.2.2.2.1 := t3
  have t1 : I 509 20 = qn A.2.2.2.1.length := t1
  generalize hks : A.2.2.2.1 = ks at *
  obtain ⟨pl, hpl⟩ : ∃ pl, pl = u % ks.length := ⟨_, rfl⟩
  rw [← hpl]
  have hpl1 : pl < ks.length := by have := Nat.mod_lt u h0; omega
  obtain ⟨s, v, d1, d2, d3⟩ := lDrawn w I W (u := u / 32) (by omega)
  have hdn := lDown (w := w) (W := W) (pl := pl) t2 (ks.length - 1 - pl) pl I 10000 (by omega) (by omega) t1
  obtain ⟨I1, hI1⟩ : ∃ I1, I1 = qU (qShD I pl ks.length) 509 20 (qn (ks.length - 1)) := ⟨_, rfl⟩
  have r0 : ∀ a, a ≠ 509 → I1 a = I a := fun a ha => by
    rw [hI1, qU_r ha]
    funext k
    unfold qShD
    rw [if_neg (fun h => ha h.1)]
  have h20 : qShD I pl ks.length 509 20 = qn ks.length := by
    unfold qShD
    rw [if_neg (by omega)]
    exact t1
  have hCA1 : qCA w I1 A := qCA_st hA fun a ha => r0 a (by omega)
  obtain ⟨w2, J, c1, c2⟩ := cErase (w := w) (I := I1) hCA1 (qn pl)
  have hq : qoErase A (qn pl) = (0, qn (ks.length - 1), A.1, A.2.1, A.2.2.1, qDel ks pl, qAnew (qDel ks pl) (qFull A.1 A.2.1 A.2.2.1 (qDel ks pl)).2 (qFA A).2 pl pl false) := by
    unfold qoErase
    rw [hks, qin_of (by omega) hpl1]
  rw [hq] at c1 c2
  dsimp only at c1 c2
  refine ⟨w2, qJn J I1, qDel ks pl, ?_, qCA_J c2, ⟨?_, ⟨?_, ?_, ?_⟩, ?_, ?_⟩, by rw [qDel_len hpl1]; omega, fun a ha => by rw [qJn_r (by omega), r0 a (by omega)]⟩
  · have h21 : I1 509 20 = qn (ks.length - 1) := by rw [hI1, qU_s]
    have hm : u % ks.length = pl := hpl.symm
    have h136 : fL_isEdited_136 1 509 (qn pl) (qL w (qShD I pl ks.length) W) = some (qn 1, qL w2 (qJn J I1) W) := by
      unfold fL_isEdited_136
      simp (disch := omega) only [↓qlet, eq_self, qzg_t, qzb_some, ↓reduceIte, not_or, not_false_eq_true, not_true_eq_false, and_true, true_and, and_self, or_false, false_or, true_or, or_true, and_false, false_and, qlit, qneg, qof, qn_add, qn_mul, qn_s, qn_z, qn_d, qn_dz, qm_1, qt_1, qt_0, qb_0, qb_1, qb_01, qb01b, q01_0, q01_1, qo_s, qo_n, qn_c, qn_le, qn_lt, qn_eq, qn_ne_m, qm_ne_n, qm_lt, qm_le, qn_lt_m, qn_le_m, qn_sub, qn_div, qn_mod, qle_t, qle_f, qlt_t, qlt_f, qeq_t, qeq_f, Nat.add_sub_cancel, qU_s, qU_a, qU_k, qn_rem, qL_I, qL_s, lk_505, lk_506, lk_507, lk_508, lk_509, lk_510, lk_511, lk_512, lk_513, lk_514, lk_515, lk_516, lk_517, lk_518, lk_519, ll_505, ll_506, ll_507, ll_508, ll_509, ll_510, ll_511, ll_512, ll_513, ll_514, ll_515, ll_516, ll_517, ll_518, ll_519, lcut, zbc_0, zbd_0, lCel, lk_1, qJn_r, h20, ← hI1, c1, h21]
    rw [h136] at hdn
    have c0 : ¬ ks.length = 0 := by omega
    unfold fL_isEdited fL_isEdited_23
    generalize fL_isEdited_37 10000 = F2
    generalize fL_isEdited_109 10000 = F at hdn ⊢
    simp (disch := omega) only [↓qlet, eq_self, qzg_t, qzb_some, ↓reduceIte, not_or, not_false_eq_true, not_true_eq_false, and_true, true_and, and_self, or_false, false_or, true_or, or_true, and_false, false_and, qlit, qneg, qof, qn_add, qn_mul, qn_s, qn_z, qn_d, qn_dz, qm_1, qt_1, qt_0, qb_0, qb_1, qb_01, qb01b, q01_0, q01_1, qo_s, qo_n, qn_c, qn_le, qn_lt, qn_eq, qn_ne_m, qm_ne_n, qm_lt, qm_le, qn_lt_m, qn_le_m, qn_sub, qn_div, qn_mod, qle_t, qle_f, qlt_t, qlt_f, qeq_t, qeq_f, Nat.add_sub_cancel, qU_s, qU_a, qU_k, qn_rem, qL_I, qL_s, lk_505, lk_506, lk_507, lk_508, lk_509, lk_510, lk_511, lk_512, lk_513, lk_514, lk_515, lk_516, lk_517, lk_518, lk_519, ll_505, ll_506, ll_507, ll_508, ll_509, ll_510, ll_511, ll_512, ll_513, ll_514, ll_515, ll_516, ll_517, ll_518, ll_519, d2, t1, hm, Nat.add_zero, c0]
    exact hdn
  · exact qLG_fr hG (by rw [qJn_r (by omega), r0 _ (by omega)]) (by rw [qJn_r (by omega), r0 _ (by omega)]) (by rw [qJn_r (by omega), r0 _ (by omega)])
  · show qJn J I1 509 20 = qn (qDel ks pl).length
    rw [qJn_r (by omega), qDel_len hpl1, hI1, qU_s]
  · show (qDel ks pl).length ≤ 18
    rw [qDel_len hpl1]; omega
  · intro i k hk
    rw [qDel_get hpl1] at hk
    rw [qJn_r (by omega), Nat.zero_add]
    by_cases ci : i < pl
    · rw [if_pos ci] at hk
      obtain ⟨a1, a2⟩ := t3 i k hk
      rw [Nat.zero_add] at a2
      refine ⟨a1, ?_⟩
      rw [hI1, qU_k (by omega)]
      unfold qShD
      rw [if_neg (by omega)]
      exact a2
    · rw [if_neg ci] at hk
      obtain ⟨a1, a2⟩ := t3 (i + 1) k hk
      have hlt := (List.getElem?_eq_some_iff.mp hk).1
      rw [Nat.zero_add] at a2
      refine ⟨a1, ?_⟩
      rw [hI1, qU_k (by omega)]
      unfold qShD
      rw [if_pos ⟨rfl, by omega, by omega⟩]
      exact a2
  · intro e he
    rw [qJn_r (by omega), r0 508 (by omega)]
    obtain ⟨b1, b2, b3⟩ := hEn e he
    refine ⟨b1, b2, fun i k hk => ?_⟩
    rw [qJn_r (by omega), r0 508 (by omega)]
    exact b3 i k hk
  · intro j hj
    rw [qJn_r (by omega), r0 508 (by omega)]
    exact hSw j hj
end
