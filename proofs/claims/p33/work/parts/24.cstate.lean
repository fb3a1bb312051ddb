/-! THE CLASS: grammar and State -/
theorem qlet {α β : Type} (x : α) (f : α → β) : zlet x f = f x := rfl
theorem qzg_t {α : Type} [Decidable True] (k : Option α) : zg True k = k := if_pos True.intro
theorem qzg_i {α : Type} {c : Prop} [Decidable c] (h : c) (k : Option α) : zg c k = k := if_pos h
theorem qle_t {a b : Nat} (h : a ≤ b) : (a ≤ b) = True := eq_true h
theorem qle_f {a b : Nat} (h : b < a) : (a ≤ b) = False := eq_false (by omega)
theorem qlt_t {a b : Nat} (h : a < b) : (a < b) = True := eq_true h
theorem qlt_f {a b : Nat} (h : b ≤ a) : (a < b) = False := eq_false (by omega)
theorem qeq_t {a b : Nat} (h : a = b) : (a = b) = True := eq_true h
theorem qeq_f {a b : Nat} (h : ¬ a = b) : (a = b) = False := eq_false h
/-- the class's grammar -/
def qCG (G : qG) (I : Nat → Nat → Int32) : Prop := ∀ e, e < 10 → I (8 + 6 * e) 3 = qn (qgN G e) ∧ (∀ k, k < qgN G e → I (9 + 6 * e) k = qgS G e k ∧ I (10 + 6 * e) k = qb (qmany (qgO G e k)) ∧ I (11 + 6 * e) k = qb (qlack (qgO G e k))) ∧ (∀ r, r < 2 * qgN G e → I (12 + 6 * e) r = qrOn G e r ∧ I (13 + 6 * e) r = qb (qrEnd G e r)) ∧ I 4 e = qgI G e ∧ I 5 e = qgX G e ∧ I 6 e = qb (qgA G e) ∧ I 7 e = qb (qgB G e)
theorem qCG_fr {G : qG} {I J : Nat → Nat → Int32} (h : qCG G I) (hf : ∀ a, a ≤ 67 → J a = I a) : qCG G J := by
  intro e he
  obtain ⟨h1, h2, h3, h4, h5, h6, h7⟩ := h e he
  rw [hf (8 + 6 * e) (by omega), hf (9 + 6 * e) (by omega), hf (10 + 6 * e) (by omega), hf (11 + 6 * e) (by omega), hf (12 + 6 * e) (by omega), hf (13 + 6 * e) (by omega), hf 4 (by omega), hf 5 (by omega), hf 6 (by omega), hf 7 (by omega)]
  exact ⟨h1, h2, h3, h4, h5, h6, h7⟩
/-- a State -/
def qCZ (I : Nat → Nat → Int32) (s : Nat) (Z : qZ) : Prop := I s 3 = qn Z.1.length ∧ I s 4 = qo Z.2 ∧ qAll (fun j x => I (s + 1) j = qn x.1 ∧ I (s + 2) j = qn x.2) Z.1
theorem qCZ_fr {I J : Nat → Nat → Int32} {s : Nat} {Z : qZ} (h : qCZ I s Z) (h0 : J s = I s) (h1 : J (s + 1) = I (s + 1)) (h2 : J (s + 2) = I (s + 2)) : qCZ J s Z := by
  unfold qCZ
  rw [h0, h1, h2]
  exact h
section
variable {w : Bool} {I : Nat → Nat → Int32} {G : qG} {s : Nat} {Z : qZ}
theorem cCanEnd (hs : qSt s) (hG : qCG G I) (hg : qGok G) (hz : qZok G Z) (hZ : qCZ I s Z) : fX4_canEnd s (qC w I) = some (qb (qCan G Z), qC w I) := by
  obtain ⟨st, la⟩ := Z
  obtain ⟨h3, h4, ha⟩ := hZ
  unfold fX4_canEnd
  cases st with
  | nil =>
    simp only [List.length_nil] at h3
    simp (disch := omega) only [↓qlet, eq_self, qzg_t, qzb_some, ↓reduceIte, not_or, not_false_eq_true, not_true_eq_false, and_true, true_and, and_self, or_false, false_or, true_or, or_true, and_false, false_and, qlit, qneg, qof, qn_add, qn_mul, qn_s, qn_z, qn_d, qn_dz, qm_1, qt_1, qt_0, qb_0, qb_1, qb_01, qb01b, q01_0, q01_1, qo_s, qo_n, qn_c, qn_le, qn_lt, qn_eq, qn_ne_m, qm_ne_n, qm_lt, qm_le, qn_lt_m, qn_le_m, qn_sub, qn_div, qn_mod, qle_t, qle_f, qlt_t, qlt_f, qeq_t, qeq_f, Nat.add_sub_cancel, qC_I, qC_s, qU_s, qU_a, qU_k, qSt_k _ _ hs, qSt_k1 _ _ hs, qSt_k2 _ _ hs, qSt_l1 _ _ hs, qSt_l2 _ _ hs, qSt_r0 _ _ hs, qSt_r1 _ _ hs, qSt_r2 _ _ hs, h3, qCan, qb_f]
  | cons x st =>
    simp only [List.length_cons] at h3
    obtain ⟨⟨a1, a2⟩, -⟩ := ha
    obtain ⟨b1, b2⟩ := hz.2.1 x (by simp)
    have hl := hz.1
    simp only [List.length_cons] at hl
    obtain ⟨g1, g2, g3, g4, g5, g6, g7⟩ := hG x.1 b1
    obtain ⟨g8, g9⟩ := g3 x.2 b2
    have hn := (hg x.1 b1).1
    simp (disch := omega) only [↓qlet, eq_self, qzg_t, qzb_some, ↓reduceIte, not_or, not_false_eq_true, not_true_eq_false, and_true, true_and, and_self, or_false, false_or, true_or, or_true, and_false, false_and, qlit, qneg, qof, qn_add, qn_mul, qn_s, qn_z, qn_d, qn_dz, qm_1, qt_1, qt_0, qb_0, qb_1, qb_01, qb01b, q01_0, q01_1, qo_s, qo_n, qn_c, qn_le, qn_lt, qn_eq, qn_ne_m, qm_ne_n, qm_lt, qm_le, qn_lt_m, qn_le_m, qn_sub, qn_div, qn_mod, qle_t, qle_f, qlt_t, qlt_f, qeq_t, qeq_f, Nat.add_sub_cancel, qC_I, qC_s, qU_s, qU_a, qU_k, qSt_k _ _ hs, qSt_k1 _ _ hs, qSt_k2 _ _ hs, qSt_l1 _ _ hs, qSt_l2 _ _ hs, qSt_r0 _ _ hs, qSt_r1 _ _ hs, qSt_r2 _ _ hs, qk_2, qk_3, qk_4, qk_5, qk_6, qk_7, ql_3, ql_4, ql_5, ql_6, ql_7, qr_2_0, qr_2_1, qr_2_2, qr_2_3, qr_2_4, qmo_r, qmo_k, qmo0_k, qmo0_l, qmo1_k, qmo1_l, qmo2_k, qmo2_l, qmo4_k, qmo4_l, qmo5_k, qmo5_l, qmo_r0, qmo_r1, qmo_r2, qmo_r4, qmo_r5, h3, a1, a2, g9, qCan]
    cases qrEnd G x.1 x.2 <;> rfl
theorem qAll_at {α : Type} {P : Nat → α → Prop} {l : List α} (h : qAll P l) {k : Nat} (hk : k < l.length) : ∃ x, x ∈ l ∧ l.reverse.drop k = x :: l.reverse.drop (k + 1) ∧ P k x := by
  obtain ⟨x, hx, hg, hp⟩ := qAll_get h k hk
  refine ⟨x, hx, ?_, hp⟩
  have hr : l.reverse[k]? = some x := by
    rw [List.getElem?_reverse hk]
    exact hg
  obtain ⟨h1, h2⟩ := List.getElem?_eq_some_iff.mp hr
  rw [← h2, List.getElem_cons_drop]
theorem cExc_2 (hs : qSt s) (hG : qCG G I) (hz : qZok G Z) (hZ : qCZ I s Z) (t : Nat) : ∀ n k, k ≤ Z.1.length → Z.1.length < n + k → fX4_isExcluded_2 n s (qn t) (qn k) (qC w I) = some (qb ((Z.1.reverse.drop k).any fun x => qt (qgX G x.1) t), qC w I) := by
  obtain ⟨h3, h4, ha⟩ := hZ
  have hl := hz.1
  intro n
  induction n with
  | zero => intro k h1 h2; omega
  | succ n ih =>
    intro k h1 h2
    unfold fX4_isExcluded_2
    rcases Nat.lt_or_ge k Z.1.length with hk | hk
    · obtain ⟨x, hx, hd, a1, a2⟩ := qAll_at ha hk
      obtain ⟨b1, b2⟩ := hz.2.1 x hx
      obtain ⟨g1, g2, g3, g4, g5, g6, g7⟩ := hG x.1 b1
      have ih := ih (k + 1) (by omega) (by omega)
      rw [hd]
      simp (disch := omega) only [↓qlet, eq_self, qzg_t, qzb_some, ↓reduceIte, not_or, not_false_eq_true, not_true_eq_false, and_true, true_and, and_self, or_false, false_or, true_or, or_true, and_false, false_and, qlit, qneg, qof, qn_add, qn_mul, qn_s, qn_z, qn_d, qn_dz, qm_1, qt_1, qt_0, qb_0, qb_1, qb_01, qb01b, q01_0, q01_1, qo_s, qo_n, qn_c, qn_le, qn_lt, qn_eq, qn_ne_m, qm_ne_n, qm_lt, qm_le, qn_lt_m, qn_le_m, qn_sub, qn_div, qn_mod, qle_t, qle_f, qlt_t, qlt_f, qeq_t, qeq_f, Nat.add_sub_cancel, qC_I, qC_s, qU_s, qU_a, qU_k, qSt_k _ _ hs, qSt_k1 _ _ hs, qSt_k2 _ _ hs, qSt_l1 _ _ hs, qSt_l2 _ _ hs, qSt_r0 _ _ hs, qSt_r1 _ _ hs, qSt_r2 _ _ hs, qk_2, qk_3, qk_4, qk_5, qk_6, qk_7, ql_3, ql_4, ql_5, ql_6, ql_7, qr_2_0, qr_2_1, qr_2_2, qr_2_3, qr_2_4, qmo_r, qmo_k, qmo0_k, qmo0_l, qmo1_k, qmo1_l, qmo2_k, qmo2_l, qmo4_k, qmo4_l, qmo5_k, qmo5_l, qmo_r0, qmo_r1, qmo_r2, qmo_r4, qmo_r5, h3, a1, g5, ih, List.any_cons]
      cases qt (qgX G x.1) t <;> rfl
    · rw [List.drop_of_length_le (by simp; omega)]
      simp (disch := omega) only [↓qlet, eq_self, qzg_t, qzb_some, ↓reduceIte, not_or, not_false_eq_true, not_true_eq_false, and_true, true_and, and_self, or_false, false_or, true_or, or_true, and_false, false_and, qlit, qneg, qof, qn_add, qn_mul, qn_s, qn_z, qn_d, qn_dz, qm_1, qt_1, qt_0, qb_0, qb_1, qb_01, qb01b, q01_0, q01_1, qo_s, qo_n, qn_c, qn_le, qn_lt, qn_eq, qn_ne_m, qm_ne_n, qm_lt, qm_le, qn_lt_m, qn_le_m, qn_sub, qn_div, qn_mod, qle_t, qle_f, qlt_t, qlt_f, qeq_t, qeq_f, Nat.add_sub_cancel, qC_I, qC_s, qU_s, qU_a, qU_k, qSt_k _ _ hs, qSt_k1 _ _ hs, qSt_k2 _ _ hs, qSt_l1 _ _ hs, qSt_l2 _ _ hs, qSt_r0 _ _ hs, qSt_r1 _ _ hs, qSt_r2 _ _ hs, h3, List.any_nil, qb_f]
theorem cExc (hs : qSt s) (hG : qCG G I) (hz : qZok G Z) (hZ : qCZ I s Z) (t : Nat) : fX4_isExcluded s (qn t) (qC w I) = some (qb (qExc G Z.1 t), qC w I) := by
  have hl := hz.1
  have h := cExc_2 (w := w) hs hG hz hZ t 10000 0 (by omega) (by omega)
  unfold fX4_isExcluded qExc
  rw [List.drop_zero, List.any_reverse] at h
  exact h
theorem cInc_2 (hs : qSt s) (hG : qCG G I) (hz : qZok G Z) (hZ : qCZ I s Z) (t : Nat) : ∀ n k, k ≤ Z.1.length → Z.1.length < n + k → fX4_isIncluded_2 n s (qn t) (qn k) (qC w I) = some (qb ((Z.1.reverse.drop k).any fun x => qt (qgI G x.1) t), qC w I) := by
  obtain ⟨h3, h4, ha⟩ := hZ
  have hl := hz.1
  intro n
  induction n with
  | zero => intro k h1 h2; omega
  | succ n ih =>
    intro k h1 h2
    unfold fX4_isIncluded_2
    rcases Nat.lt_or_ge k Z.1.length with hk | hk
    · obtain ⟨x, hx, hd, a1, a2⟩ := qAll_at ha hk
      obtain ⟨b1, b2⟩ := hz.2.1 x hx
      obtain ⟨g1, g2, g3, g4, g5, g6, g7⟩ := hG x.1 b1
      have ih := ih (k + 1) (by omega) (by omega)
      rw [hd]
      simp (disch := omega) only [↓qlet, eq_self, qzg_t, qzb_some, ↓reduceIte, not_or, not_false_eq_true, not_true_eq_false, and_true, true_and, and_self, or_false, false_or, true_or, or_true, and_false, false_and, qlit, qneg, qof, qn_add, qn_mul, qn_s, qn_z, qn_d, qn_dz, qm_1, qt_1, qt_0, qb_0, qb_1, qb_01, qb01b, q01_0, q01_1, qo_s, qo_n, qn_c, qn_le, qn_lt, qn_eq, qn_ne_m, qm_ne_n, qm_lt, qm_le, qn_lt_m, qn_le_m, qn_sub, qn_div, qn_mod, qle_t, qle_f, qlt_t, qlt_f, qeq_t, qeq_f, Nat.add_sub_cancel, qC_I, qC_s, qU_s, qU_a, qU_k, qSt_k _ _ hs, qSt_k1 _ _ hs, qSt_k2 _ _ hs, qSt_l1 _ _ hs, qSt_l2 _ _ hs, qSt_r0 _ _ hs, qSt_r1 _ _ hs, qSt_r2 _ _ hs, qk_2, qk_3, qk_4, qk_5, qk_6, qk_7, ql_3, ql_4, ql_5, ql_6, ql_7, qr_2_0, qr_2_1, qr_2_2, qr_2_3, qr_2_4, qmo_r, qmo_k, qmo0_k, qmo0_l, qmo1_k, qmo1_l, qmo2_k, qmo2_l, qmo4_k, qmo4_l, qmo5_k, qmo5_l, qmo_r0, qmo_r1, qmo_r2, qmo_r4, qmo_r5, h3, a1, g4, ih, List.any_cons]
      cases qt (qgI G x.1) t <;> rfl
    · rw [List.drop_of_length_le (by simp; omega)]
      simp (disch := omega) only [↓qlet, eq_self, qzg_t, qzb_some, ↓reduceIte, not_or, not_false_eq_true, not_true_eq_false, and_true, true_and, and_self, or_false, false_or, true_or, or_true, and_false, false_and, qlit, qneg, qof, qn_add, qn_mul, qn_s, qn_z, qn_d, qn_dz, qm_1, qt_1, qt_0, qb_0, qb_1, qb_01, qb01b, q01_0, q01_1, qo_s, qo_n, qn_c, qn_le, qn_lt, qn_eq, qn_ne_m, qm_ne_n, qm_lt, qm_le, qn_lt_m, qn_le_m, qn_sub, qn_div, qn_mod, qle_t, qle_f, qlt_t, qlt_f, qeq_t, qeq_f, Nat.add_sub_cancel, qC_I, qC_s, qU_s, qU_a, qU_k, qSt_k _ _ hs, qSt_k1 _ _ hs, qSt_k2 _ _ hs, qSt_l1 _ _ hs, qSt_l2 _ _ hs, qSt_r0 _ _ hs, qSt_r1 _ _ hs, qSt_r2 _ _ hs, h3, List.any_nil, qb_f]
theorem cInc (hs : qSt s) (hG : qCG G I) (hz : qZok G Z) (hZ : qCZ I s Z) (t : Nat) : fX4_isIncluded s (qn t) (qC w I) = some (qb (qInc G Z.1 t), qC w I) := by
  have hl := hz.1
  have h := cInc_2 (w := w) hs hG hz hZ t 10000 0 (by omega) (by omega)
  unfold fX4_isIncluded qInc
  rw [List.drop_zero, List.any_reverse] at h
  exact h
/-- the first slot that has the thing -/
def qFst (G : qG) (e t : Nat) : Nat → Nat → Bool → Option Nat
  | 0, _, _ => none
  | n + 1, k, b => if qgHas G e k t b = true then some k else qFst G e t n (k + 1) false
theorem qFst_by (G : qG) (e t : Nat) : ∀ n k b, (qgBy G e t n k b).isSome = true → qFst G e t n k b = qgBy G e t n k b := by
  intro n
  induction n with
  | zero => intro k b h; cases h
  | succ n ih =>
    intro k b h
    unfold qFst qgBy
    unfold qgBy at h
    by_cases h1 : qgHas G e k t b = true
    · rw [if_pos h1, if_pos h1]
    · rw [if_neg h1] at h
      rw [if_neg h1, if_neg h1]
      by_cases h2 : qgEn G e k b = true
      · rw [if_pos h2] at h
        rw [if_pos h2]
        exact ih _ _ h
      · rw [if_neg h2] at h; cases h
theorem qOn_by (G : qG) (e : Nat) {t : Nat} (ht : t < 32) : ∀ n k b, qt (qgOn G e n k b) t = (qgBy G e t n k b).isSome := by
  intro n
  induction n with
  | zero => intro k b; exact qt_z ht
  | succ n ih =>
    intro k b
    unfold qgOn qgBy
    rw [qt_or _ _ ht]
    have h1 : qt (if (!b || qmany (qgO G e k)) = true then qgS G e k else qn 0) t = qgHas G e k t b := by
      unfold qgHas
      cases (!b || qmany (qgO G e k))
      · simp [qt_z ht]
      · simp
    rw [h1]
    cases qgHas G e k t b
    · cases qgEn G e k b
      · simp [qt_z ht]
      · simp [ih]
    · simp
theorem qBy_lt (G : qG) (e t : Nat) : ∀ n k b i, qgBy G e t n k b = some i → i < k + n := by
  intro n
  induction n with
  | zero => intro k b i h; cases h
  | succ n ih =>
    intro k b i h
    unfold qgBy at h
    split at h
    · injection h; omega
    · split at h
      · have := ih _ _ _ h; omega
      · cases h
theorem cSlotFor_29 {e : Nat} (he : e < 10) (hG : qCG G I) (hg : qGok G) {r t : Nat} (hr : r < 12) : ∀ n k b, b = (decide (k = r / 2) && decide (r % 2 = 1)) → r / 2 ≤ k → k ≤ qgN G e → qgN G e < n + k → fX1_slotFor_29 n (8 + 6 * e) (qn r) (qn t) (qn k) (qC w I) = some (qo (qFst G e t (qgN G e - k) k b), qC w I) := by
  obtain ⟨g1, g2, g3, g4, g5, g6, g7⟩ := hG e he
  have hn := (hg e he).1
  intro n
  induction n with
  | zero => intro k b h0 h1 h2 h3; omega
  | succ n ih =>
    intro k b h0 h1 h2 h3
    unfold fX1_slotFor_29
    rcases Nat.lt_or_ge k (qgN G e) with hk | hk
    · obtain ⟨i1, i2, i3⟩ := g2 k hk
      have ih := ih (k + 1) false (by simp; omega) (by omega) (by omega) (by omega)
      rw [show qgN G e - k = (qgN G e - (k + 1)) + 1 by omega]
      unfold qFst qgHas
      by_cases c1 : k = r / 2
      · by_cases c2 : r % 2 = 1
        · have hb : b = true := by rw [h0]; simp [c1, c2]
          subst hb
          simp (disch := omega) only [↓qlet, eq_self, qzg_t, qzb_some, ↓reduceIte, not_or, not_false_eq_true, not_true_eq_false, and_true, true_and, and_self, or_false, false_or, true_or, or_true, and_false, false_and, qlit, qneg, qof, qn_add, qn_mul, qn_s, qn_z, qn_d, qn_dz, qm_1, qt_1, qt_0, qb_0, qb_1, qb_01, qb01b, q01_0, q01_1, qo_s, qo_n, qn_c, qn_le, qn_lt, qn_eq, qn_ne_m, qm_ne_n, qm_lt, qm_le, qn_lt_m, qn_le_m, qn_sub, qn_div, qn_mod, qle_t, qle_f, qlt_t, qlt_f, qeq_t, qeq_f, Nat.add_sub_cancel, qC_I, qC_s, qU_s, qU_a, qU_k, qk_2, qk_3, qk_4, qk_5, qk_6, qk_7, ql_3, ql_4, ql_5, ql_6, ql_7, qr_2_0, qr_2_1, qr_2_2, qr_2_3, qr_2_4, qmo_r, qmo_k, qmo0_k, qmo0_l, qmo1_k, qmo1_l, qmo2_k, qmo2_l, qmo4_k, qmo4_l, qmo5_k, qmo5_l, qmo_r0, qmo_r1, qmo_r2, qmo_r4, qmo_r5, g1, i1, i2, ih, fX1_slotFor_56, fX1_slotFor_88]
          cases qt (qgS G e k) t <;> cases qmany (qgO G e k) <;> simp [qo]
        · have hb : b = false := by rw [h0]; simp [c1, c2]
          subst hb
          simp (disch := omega) only [↓qlet, eq_self, qzg_t, qzb_some, ↓reduceIte, not_or, not_false_eq_true, not_true_eq_false, and_true, true_and, and_self, or_false, false_or, true_or, or_true, and_false, false_and, qlit, qneg, qof, qn_add, qn_mul, qn_s, qn_z, qn_d, qn_dz, qm_1, qt_1, qt_0, qb_0, qb_1, qb_01, qb01b, q01_0, q01_1, qo_s, qo_n, qn_c, qn_le, qn_lt, qn_eq, qn_ne_m, qm_ne_n, qm_lt, qm_le, qn_lt_m, qn_le_m, qn_sub, qn_div, qn_mod, qle_t, qle_f, qlt_t, qlt_f, qeq_t, qeq_f, Nat.add_sub_cancel, qC_I, qC_s, qU_s, qU_a, qU_k, qk_2, qk_3, qk_4, qk_5, qk_6, qk_7, ql_3, ql_4, ql_5, ql_6, ql_7, qr_2_0, qr_2_1, qr_2_2, qr_2_3, qr_2_4, qmo_r, qmo_k, qmo0_k, qmo0_l, qmo1_k, qmo1_l, qmo2_k, qmo2_l, qmo4_k, qmo4_l, qmo5_k, qmo5_l, qmo_r0, qmo_r1, qmo_r2, qmo_r4, qmo_r5, g1, i1, i2, ih, fX1_slotFor_56, fX1_slotFor_88, fX1_slotFor_55]
          cases qt (qgS G e k) t <;> simp [qo]
      · have hb : b = false := by rw [h0]; simp [c1]
        subst hb
        simp (disch := omega) only [↓qlet, eq_self, qzg_t, qzb_some, ↓reduceIte, not_or, not_false_eq_true, not_true_eq_false, and_true, true_and, and_self, or_false, false_or, true_or, or_true, and_false, false_and, qlit, qneg, qof, qn_add, qn_mul, qn_s, qn_z, qn_d, qn_dz, qm_1, qt_1, qt_0, qb_0, qb_1, qb_01, qb01b, q01_0, q01_1, qo_s, qo_n, qn_c, qn_le, qn_lt, qn_eq, qn_ne_m, qm_ne_n, qm_lt, qm_le, qn_lt_m, qn_le_m, qn_sub, qn_div, qn_mod, qle_t, qle_f, qlt_t, qlt_f, qeq_t, qeq_f, Nat.add_sub_cancel, qC_I, qC_s, qU_s, qU_a, qU_k, qk_2, qk_3, qk_4, qk_5, qk_6, qk_7, ql_3, ql_4, ql_5, ql_6, ql_7, qr_2_0, qr_2_1, qr_2_2, qr_2_3, qr_2_4, qmo_r, qmo_k, qmo0_k, qmo0_l, qmo1_k, qmo1_l, qmo2_k, qmo2_l, qmo4_k, qmo4_l, qmo5_k, qmo5_l, qmo_r0, qmo_r1, qmo_r2, qmo_r4, qmo_r5, g1, i1, i2, ih, fX1_slotFor_56, fX1_slotFor_88, fX1_slotFor_55]
        cases qt (qgS G e k) t <;> simp [qo]
    · have hk : k = qgN G e := by omega
      subst hk
      rw [Nat.sub_self]
      simp (disch := omega) only [↓qlet, eq_self, qzg_t, qzb_some, ↓reduceIte, not_or, not_false_eq_true, not_true_eq_false, and_true, true_and, and_self, or_false, false_or, true_or, or_true, and_false, false_and, qlit, qneg, qof, qn_add, qn_mul, qn_s, qn_z, qn_d, qn_dz, qm_1, qt_1, qt_0, qb_0, qb_1, qb_01, qb01b, q01_0, q01_1, qo_s, qo_n, qn_c, qn_le, qn_lt, qn_eq, qn_ne_m, qm_ne_n, qm_lt, qm_le, qn_lt_m, qn_le_m, qn_sub, qn_div, qn_mod, qle_t, qle_f, qlt_t, qlt_f, qeq_t, qeq_f, Nat.add_sub_cancel, qC_I, qC_s, qU_s, qU_a, qU_k, qk_2, qk_3, qk_4, qk_5, qk_6, qk_7, ql_3, ql_4, ql_5, ql_6, ql_7, qr_2_0, qr_2_1, qr_2_2, qr_2_3, qr_2_4, qmo_r, qmo_k, qmo0_k, qmo0_l, qmo1_k, qmo1_l, qmo2_k, qmo2_l, qmo4_k, qmo4_l, qmo5_k, qmo5_l, qmo_r0, qmo_r1, qmo_r2, qmo_r4, qmo_r5, g1, qFst]
theorem cSlotFor {e : Nat} (he : e < 10) (hG : qCG G I) (hg : qGok G) {r t : Nat} (hr : r < 2 * qgN G e) (ht : t < 32) : fX1_slotFor (8 + 6 * e) (qn r) (qn t) (qC w I) = some (qo (qrBy G e r t), qC w I) := by
  obtain ⟨g1, g2, g3, g4, g5, g6, g7⟩ := hG e he
  obtain ⟨g8, g9⟩ := g3 r hr
  have hn := (hg e he).1
  have hb : (r % 2 == 1) = (decide (r / 2 = r / 2) && decide (r % 2 = 1)) := by simp; rfl
  have h := cSlotFor_29 (w := w) (t := t) he hG hg (r := r) (by omega) 10000 (r / 2) (r % 2 == 1) hb (by omega) (by omega) (by omega)
  have ho := qOn_by G e ht (qgN G e - r / 2) (r / 2) (r % 2 == 1)
  unfold fX1_slotFor
  unfold qrOn at g8
  unfold qrBy
  simp (disch := omega) only [↓qlet, eq_self, qzg_t, qzb_some, ↓reduceIte, not_or, not_false_eq_true, not_true_eq_false, and_true, true_and, and_self, or_false, false_or, true_or, or_true, and_false, false_and, qlit, qneg, qof, qn_add, qn_mul, qn_s, qn_z, qn_d, qn_dz, qm_1, qt_1, qt_0, qb_0, qb_1, qb_01, qb01b, q01_0, q01_1, qo_s, qo_n, qn_c, qn_le, qn_lt, qn_eq, qn_ne_m, qm_ne_n, qm_lt, qm_le, qn_lt_m, qn_le_m, qn_sub, qn_div, qn_mod, qle_t, qle_f, qlt_t, qlt_f, qeq_t, qeq_f, Nat.add_sub_cancel, qC_I, qC_s, qU_s, qU_a, qU_k, qk_2, qk_3, qk_4, qk_5, qk_6, qk_7, ql_3, ql_4, ql_5, ql_6, ql_7, qr_2_0, qr_2_1, qr_2_2, qr_2_3, qr_2_4, qmo_r, qmo_k, qmo0_k, qmo0_l, qmo1_k, qmo1_l, qmo2_k, qmo2_l, qmo4_k, qmo4_l, qmo5_k, qmo5_l, qmo_r0, qmo_r1, qmo_r2, qmo_r4, qmo_r5, g8, h, ho]
  cases hh : qgBy G e t (qgN G e - r / 2) (r / 2) (r % 2 == 1) with
  | none => simp [qo]
  | some i =>
    rw [qFst_by G e t _ _ _ (by rw [hh]; rfl), hh]
    simp
theorem cGoes (hs : qSt s) (hG : qCG G I) (hg : qGok G) (hz : qZok G Z) (hZ : qCZ I s Z) : fX4_goesOnWith s (qC w I) = some (qGoes G Z, qC w I) := by
  obtain ⟨st, la⟩ := Z
  obtain ⟨h3, h4, ha⟩ := hZ
  unfold fX4_goesOnWith
  cases st with
  | nil =>
    simp only [List.length_nil] at h3
    simp (disch := omega) only [↓qlet, eq_self, qzg_t, qzb_some, ↓reduceIte, not_or, not_false_eq_true, not_true_eq_false, and_true, true_and, and_self, or_false, false_or, true_or, or_true, and_false, false_and, qlit, qneg, qof, qn_add, qn_mul, qn_s, qn_z, qn_d, qn_dz, qm_1, qt_1, qt_0, qb_0, qb_1, qb_01, qb01b, q01_0, q01_1, qo_s, qo_n, qn_c, qn_le, qn_lt, qn_eq, qn_ne_m, qm_ne_n, qm_lt, qm_le, qn_lt_m, qn_le_m, qn_sub, qn_div, qn_mod, qle_t, qle_f, qlt_t, qlt_f, qeq_t, qeq_f, Nat.add_sub_cancel, qC_I, qC_s, qU_s, qU_a, qU_k, qSt_k _ _ hs, qSt_k1 _ _ hs, qSt_k2 _ _ hs, qSt_l1 _ _ hs, qSt_l2 _ _ hs, qSt_r0 _ _ hs, qSt_r1 _ _ hs, qSt_r2 _ _ hs, h3, qGoes]
  | cons x st =>
    simp only [List.length_cons] at h3
    obtain ⟨⟨a1, a2⟩, -⟩ := ha
    obtain ⟨b1, b2⟩ := hz.2.1 x (by simp)
    have hl := hz.1
    simp only [List.length_cons] at hl
    obtain ⟨g1, g2, g3, g4, g5, g6, g7⟩ := hG x.1 b1
    obtain ⟨g8, g9⟩ := g3 x.2 b2
    have hn := (hg x.1 b1).1
    simp (disch := omega) only [↓qlet, eq_self, qzg_t, qzb_some, ↓reduceIte, not_or, not_false_eq_true, not_true_eq_false, and_true, true_and, and_self, or_false, false_or, true_or, or_true, and_false, false_and, qlit, qneg, qof, qn_add, qn_mul, qn_s, qn_z, qn_d, qn_dz, qm_1, qt_1, qt_0, qb_0, qb_1, qb_01, qb01b, q01_0, q01_1, qo_s, qo_n, qn_c, qn_le, qn_lt, qn_eq, qn_ne_m, qm_ne_n, qm_lt, qm_le, qn_lt_m, qn_le_m, qn_sub, qn_div, qn_mod, qle_t, qle_f, qlt_t, qlt_f, qeq_t, qeq_f, Nat.add_sub_cancel, qC_I, qC_s, qU_s, qU_a, qU_k, qSt_k _ _ hs, qSt_k1 _ _ hs, qSt_k2 _ _ hs, qSt_l1 _ _ hs, qSt_l2 _ _ hs, qSt_r0 _ _ hs, qSt_r1 _ _ hs, qSt_r2 _ _ hs, qk_2, qk_3, qk_4, qk_5, qk_6, qk_7, ql_3, ql_4, ql_5, ql_6, ql_7, qr_2_0, qr_2_1, qr_2_2, qr_2_3, qr_2_4, qmo_r, qmo_k, qmo0_k, qmo0_l, qmo1_k, qmo1_l, qmo2_k, qmo2_l, qmo4_k, qmo4_l, qmo5_k, qmo5_l, qmo_r0, qmo_r1, qmo_r2, qmo_r4, qmo_r5, h3, a1, a2, g8, qGoes]
theorem cCur (hs : qSt s) (hz : qZok G Z) (hZ : qCZ I s Z) : fX4_currentElement s (qC w I) = some (qo (Z.1.head?.map fun x => x.1), qC w I) := by
  obtain ⟨st, la⟩ := Z
  obtain ⟨h3, h4, ha⟩ := hZ
  unfold fX4_currentElement
  cases st with
  | nil =>
    simp only [List.length_nil] at h3
    simp (disch := omega) only [↓qlet, eq_self, qzg_t, qzb_some, ↓reduceIte, not_or, not_false_eq_true, not_true_eq_false, and_true, true_and, and_self, or_false, false_or, true_or, or_true, and_false, false_and, qlit, qneg, qof, qn_add, qn_mul, qn_s, qn_z, qn_d, qn_dz, qm_1, qt_1, qt_0, qb_0, qb_1, qb_01, qb01b, q01_0, q01_1, qo_s, qo_n, qn_c, qn_le, qn_lt, qn_eq, qn_ne_m, qm_ne_n, qm_lt, qm_le, qn_lt_m, qn_le_m, qn_sub, qn_div, qn_mod, qle_t, qle_f, qlt_t, qlt_f, qeq_t, qeq_f, Nat.add_sub_cancel, qC_I, qC_s, qU_s, qU_a, qU_k, qSt_k _ _ hs, qSt_k1 _ _ hs, qSt_k2 _ _ hs, qSt_l1 _ _ hs, qSt_l2 _ _ hs, qSt_r0 _ _ hs, qSt_r1 _ _ hs, qSt_r2 _ _ hs, h3, List.head?_nil, Option.map_none]
  | cons x st =>
    simp only [List.length_cons] at h3
    obtain ⟨⟨a1, a2⟩, -⟩ := ha
    have hl := hz.1
    simp only [List.length_cons] at hl
    simp (disch := omega) only [↓qlet, eq_self, qzg_t, qzb_some, ↓reduceIte, not_or, not_false_eq_true, not_true_eq_false, and_true, true_and, and_self, or_false, false_or, true_or, or_true, and_false, false_and, qlit, qneg, qof, qn_add, qn_mul, qn_s, qn_z, qn_d, qn_dz, qm_1, qt_1, qt_0, qb_0, qb_1, qb_01, qb01b, q01_0, q01_1, qo_s, qo_n, qn_c, qn_le, qn_lt, qn_eq, qn_ne_m, qm_ne_n, qm_lt, qm_le, qn_lt_m, qn_le_m, qn_sub, qn_div, qn_mod, qle_t, qle_f, qlt_t, qlt_f, qeq_t, qeq_f, Nat.add_sub_cancel, qC_I, qC_s, qU_s, qU_a, qU_k, qSt_k _ _ hs, qSt_k1 _ _ hs, qSt_k2 _ _ hs, qSt_l1 _ _ hs, qSt_l2 _ _ hs, qSt_r0 _ _ hs, qSt_r1 _ _ hs, qSt_r2 _ _ hs, h3, a1, List.head?_cons, Option.map_some]
theorem cLast_7 (hs : qSt s) (e : Nat) (he : e < 100) : ∀ (st : List (Nat × Nat)), st.length ≤ 20 → (∀ x ∈ st, x.1 < 10) → qAll (fun j x => I (s + 1) j = qn x.1 ∧ I (s + 2) j = qn x.2) st → ∀ n, st.length < n → fX4_lastOpenOf_7 n s (qn e) (qn st.length - qn 1) (qC w I) = some (qo (qLast st e), qC w I) := by
  intro st
  induction st with
  | nil =>
    intro h1 h2 h3 n hn
    obtain ⟨m, rfl⟩ : ∃ m, n = m + 1 := ⟨n - 1, by omega⟩
    unfold fX4_lastOpenOf_7
    simp (disch := omega) only [↓qlet, eq_self, qzg_t, qzb_some, ↓reduceIte, not_or, not_false_eq_true, not_true_eq_false, and_true, true_and, and_self, or_false, false_or, true_or, or_true, and_false, false_and, qlit, qneg, qof, qn_add, qn_mul, qn_s, qn_z, qn_d, qn_dz, qm_1, qt_1, qt_0, qb_0, qb_1, qb_01, qb01b, q01_0, q01_1, qo_s, qo_n, qn_c, qn_le, qn_lt, qn_eq, qn_ne_m, qm_ne_n, qm_lt, qm_le, qn_lt_m, qn_le_m, qn_sub, qn_div, qn_mod, qle_t, qle_f, qlt_t, qlt_f, qeq_t, qeq_f, Nat.add_sub_cancel, qC_I, qC_s, qU_s, qU_a, qU_k, List.length_nil, qLast, qn_lt_m, qm_lt]
  | cons x st ih =>
    intro h1 h2 h3 n hn
    obtain ⟨m, rfl⟩ : ∃ m, n = m + 1 := ⟨n - 1, by omega⟩
    obtain ⟨⟨a1, a2⟩, h3⟩ := h3
    simp only [List.length_cons] at h1 hn
    have hx := h2 x (by simp)
    have ih := ih (by omega) (fun y hy => h2 y (by simp [hy])) h3 m (by omega)
    unfold fX4_lastOpenOf_7 qLast
    simp (disch := omega) only [↓qlet, eq_self, qzg_t, qzb_some, ↓reduceIte, not_or, not_false_eq_true, not_true_eq_false, and_true, true_and, and_self, or_false, false_or, true_or, or_true, and_false, false_and, qlit, qneg, qof, qn_add, qn_mul, qn_s, qn_z, qn_d, qn_dz, qm_1, qt_1, qt_0, qb_0, qb_1, qb_01, qb01b, q01_0, q01_1, qo_s, qo_n, qn_c, qn_le, qn_lt, qn_eq, qn_ne_m, qm_ne_n, qm_lt, qm_le, qn_lt_m, qn_le_m, qn_sub, qn_div, qn_mod, qle_t, qle_f, qlt_t, qlt_f, qeq_t, qeq_f, Nat.add_sub_cancel, qC_I, qC_s, qU_s, qU_a, qU_k, qSt_k _ _ hs, qSt_k1 _ _ hs, qSt_k2 _ _ hs, qSt_l1 _ _ hs, qSt_l2 _ _ hs, qSt_r0 _ _ hs, qSt_r1 _ _ hs, qSt_r2 _ _ hs, List.length_cons, a1, qneg, qm_1b, ih]
    split <;> rfl
theorem cLast (hs : qSt s) (hz : qZok G Z) (hZ : qCZ I s Z) {e : Nat} (he : e < 100) : fX4_lastOpenOf s (qn e) (qC w I) = some (qo (qLast Z.1 e), qC w I) := by
  obtain ⟨h3, h4, ha⟩ := hZ
  have hl := hz.1
  have h := cLast_7 (w := w) hs e he Z.1 hl (fun x hx => (hz.2.1 x hx).1) ha 10000 (by omega)
  unfold fX4_lastOpenOf
  simp only [↓qlet, qzg_t, qSt_k _ _ hs, qlit, qC_I, h3, h]
theorem qAll_up {P : Nat → Nat × Nat → Prop} {R : Nat → Nat × Nat → Prop} {st : List (Nat × Nat)} (h : qAll P st) (k : ∀ j x, j < st.length → P j x → R j x) : qAll R st := qAll_mono h fun j x hj _ hp => k j x hj hp
theorem cAcc (hs : qSt s) (hG : qCG G I) (hg : qGok G) (hz : qZok G Z) (hZ : qCZ I s Z) {t : Nat} (ht : t ≤ 10) : ∃ J, fX4_accept s (qn t) (qC w I) = some (qb (qAcc G Z t).isSome, qC w J) ∧ qCZ J s ((qAcc G Z t).getD Z) ∧ ∀ a, a ≠ s + 2 → J a = I a := by
  have hE := cExc (w := w) hs hG hz hZ t
  have hI := cInc (w := w) hs hG hz hZ t
  have hZ0 := hZ
  obtain ⟨st, la⟩ := Z
  obtain ⟨h3, h4, ha⟩ := hZ
  unfold fX4_accept qAcc
  cases la with
  | none =>
    have : st = [] := hz.2.2.2 rfl
    subst this
    refine ⟨I, ?_, ?_, fun a _ => rfl⟩
    · simp only [List.length_nil] at h3
      simp (disch := omega) only [↓qlet, eq_self, qzg_t, qzb_some, ↓reduceIte, not_or, not_false_eq_true, not_true_eq_false, and_true, true_and, and_self, or_false, false_or, true_or, or_true, and_false, false_and, qlit, qneg, qof, qn_add, qn_mul, qn_s, qn_z, qn_d, qn_dz, qm_1, qt_1, qt_0, qb_0, qb_1, qb_01, qb01b, q01_0, q01_1, qo_s, qo_n, qn_c, qn_le, qn_lt, qn_eq, qn_ne_m, qm_ne_n, qm_lt, qm_le, qn_lt_m, qn_le_m, qn_sub, qn_div, qn_mod, qle_t, qle_f, qlt_t, qlt_f, qeq_t, qeq_f, Nat.add_sub_cancel, qC_I, qC_s, qU_s, qU_a, qU_k, qSt_k _ _ hs, qSt_k1 _ _ hs, qSt_k2 _ _ hs, qSt_l1 _ _ hs, qSt_l2 _ _ hs, qSt_r0 _ _ hs, qSt_r1 _ _ hs, qSt_r2 _ _ hs, h3, h4]
      by_cases h0 : t = 0
      · simp [h0, qb]
      · simp [h0, qb]
    · dsimp only
      split <;> exact hZ0
  | some e9 =>
    have he9 := hz.2.2.1 e9 rfl
    cases st with
    | nil =>
      refine ⟨I, ?_, hZ0, fun a _ => rfl⟩
      simp only [List.length_nil] at h3
      simp (disch := omega) only [↓qlet, eq_self, qzg_t, qzb_some, ↓reduceIte, not_or, not_false_eq_true, not_true_eq_false, and_true, true_and, and_self, or_false, false_or, true_or, or_true, and_false, false_and, qlit, qneg, qof, qn_add, qn_mul, qn_s, qn_z, qn_d, qn_dz, qm_1, qt_1, qt_0, qb_0, qb_1, qb_01, qb01b, q01_0, q01_1, qo_s, qo_n, qn_c, qn_le, qn_lt, qn_eq, qn_ne_m, qm_ne_n, qm_lt, qm_le, qn_lt_m, qn_le_m, qn_sub, qn_div, qn_mod, qle_t, qle_f, qlt_t, qlt_f, qeq_t, qeq_f, Nat.add_sub_cancel, qC_I, qC_s, qU_s, qU_a, qU_k, qSt_k _ _ hs, qSt_k1 _ _ hs, qSt_k2 _ _ hs, qSt_l1 _ _ hs, qSt_l2 _ _ hs, qSt_r0 _ _ hs, qSt_r1 _ _ hs, qSt_r2 _ _ hs, h3, h4]
      rfl
    | cons x st =>
      simp only [List.length_cons] at h3
      obtain ⟨⟨a1, a2⟩, ha'⟩ := ha
      obtain ⟨b1, b2⟩ := hz.2.1 x (by simp)
      have hl := hz.1
      simp only [List.length_cons] at hl
      have hS := cSlotFor (w := w) b1 hG hg b2 (t := t) (by omega)
      have hn := (hg x.1 b1).1
      dsimp only
      cases hx : qExc G (x :: st) t with
      | true =>
        refine ⟨I, ?_, hZ0, fun a _ => rfl⟩
        simp (disch := omega) only [↓qlet, eq_self, qzg_t, qzb_some, ↓reduceIte, not_or, not_false_eq_true, not_true_eq_false, and_true, true_and, and_self, or_false, false_or, true_or, or_true, and_false, false_and, qlit, qneg, qof, qn_add, qn_mul, qn_s, qn_z, qn_d, qn_dz, qm_1, qt_1, qt_0, qb_0, qb_1, qb_01, qb01b, q01_0, q01_1, qo_s, qo_n, qn_c, qn_le, qn_lt, qn_eq, qn_ne_m, qm_ne_n, qm_lt, qm_le, qn_lt_m, qn_le_m, qn_sub, qn_div, qn_mod, qle_t, qle_f, qlt_t, qlt_f, qeq_t, qeq_f, Nat.add_sub_cancel, qC_I, qC_s, qU_s, qU_a, qU_k, qSt_k _ _ hs, qSt_k1 _ _ hs, qSt_k2 _ _ hs, qSt_l1 _ _ hs, qSt_l2 _ _ hs, qSt_r0 _ _ hs, qSt_r1 _ _ hs, qSt_r2 _ _ hs, h3, h4, hE, hx, qb_t]
        rfl
      | false =>
        cases hb : qrBy G x.1 x.2 t with
        | none =>
          refine ⟨I, ?_, ?_, fun a _ => rfl⟩
          · simp (disch := omega) only [↓qlet, eq_self, qzg_t, qzb_some, ↓reduceIte, not_or, not_false_eq_true, not_true_eq_false, and_true, true_and, and_self, or_false, false_or, true_or, or_true, and_false, false_and, qlit, qneg, qof, qn_add, qn_mul, qn_s, qn_z, qn_d, qn_dz, qm_1, qt_1, qt_0, qb_0, qb_1, qb_01, qb01b, q01_0, q01_1, qo_s, qo_n, qn_c, qn_le, qn_lt, qn_eq, qn_ne_m, qm_ne_n, qm_lt, qm_le, qn_lt_m, qn_le_m, qn_sub, qn_div, qn_mod, qle_t, qle_f, qlt_t, qlt_f, qeq_t, qeq_f, Nat.add_sub_cancel, qC_I, qC_s, qU_s, qU_a, qU_k, qSt_k _ _ hs, qSt_k1 _ _ hs, qSt_k2 _ _ hs, qSt_l1 _ _ hs, qSt_l2 _ _ hs, qSt_r0 _ _ hs, qSt_r1 _ _ hs, qSt_r2 _ _ hs, qk_2, qk_3, qk_4, qk_5, qk_6, qk_7, ql_3, ql_4, ql_5, ql_6, ql_7, qr_2_0, qr_2_1, qr_2_2, qr_2_3, qr_2_4, qmo_r, qmo_k, qmo0_k, qmo0_l, qmo1_k, qmo1_l, qmo2_k, qmo2_l, qmo4_k, qmo4_l, qmo5_k, qmo5_l, qmo_r0, qmo_r1, qmo_r2, qmo_r4, qmo_r5, h3, h4, hE, hx, qb_f, a1, a2, hS, hb, hI]
            cases qInc G (x :: st) t <;> simp [qzg_t]
          · simp only [Bool.false_eq_true, ↓reduceIte]
            split <;> exact hZ0
        | some k =>
          have hk : k < x.2 / 2 + (qgN G x.1 - x.2 / 2) := qBy_lt G x.1 t _ _ _ k hb
          refine ⟨qU I (s + 2) st.length (qn (2 * k + 1)), ?_, ?_, fun a h => qU_r h⟩
          · simp (disch := omega) only [↓qlet, eq_self, qzg_t, qzb_some, ↓reduceIte, not_or, not_false_eq_true, not_true_eq_false, and_true, true_and, and_self, or_false, false_or, true_or, or_true, and_false, false_and, qlit, qneg, qof, qn_add, qn_mul, qn_s, qn_z, qn_d, qn_dz, qm_1, qt_1, qt_0, qb_0, qb_1, qb_01, qb01b, q01_0, q01_1, qo_s, qo_n, qn_c, qn_le, qn_lt, qn_eq, qn_ne_m, qm_ne_n, qm_lt, qm_le, qn_lt_m, qn_le_m, qn_sub, qn_div, qn_mod, qle_t, qle_f, qlt_t, qlt_f, qeq_t, qeq_f, Nat.add_sub_cancel, qC_I, qC_s, qU_s, qU_a, qU_k, qSt_k _ _ hs, qSt_k1 _ _ hs, qSt_k2 _ _ hs, qSt_l1 _ _ hs, qSt_l2 _ _ hs, qSt_r0 _ _ hs, qSt_r1 _ _ hs, qSt_r2 _ _ hs, qk_2, qk_3, qk_4, qk_5, qk_6, qk_7, ql_3, ql_4, ql_5, ql_6, ql_7, qr_2_0, qr_2_1, qr_2_2, qr_2_3, qr_2_4, qmo_r, qmo_k, qmo0_k, qmo0_l, qmo1_k, qmo1_l, qmo2_k, qmo2_l, qmo4_k, qmo4_l, qmo5_k, qmo5_l, qmo_r0, qmo_r1, qmo_r2, qmo_r4, qmo_r5, h3, h4, hE, hx, qb_f, a1, a2, hS, hb]
            rfl
          · simp only [Bool.false_eq_true, ↓reduceIte, Option.getD_some]
            refine ⟨?_, ?_, ⟨?_, ?_⟩, ?_⟩
            · rw [qU_r (by omega)]; exact h3
            · rw [qU_r (by omega)]; exact h4
            · rw [qU_r (by omega)]; exact a1
            · rw [qU_s]
            · refine qAll_up ha' fun j y hj hp => ⟨?_, ?_⟩
              · rw [qU_r (by omega)]; exact hp.1
              · rw [qU_k (by omega)]; exact hp.2
theorem cEnter (hs : qSt s) (hG : qCG G I) (hg : qGok G) (hz : qZok G Z) (hZ : qCZ I s Z) {e : Nat} (he : e < 10) (hd : Z.1.length < 20) : ∃ J, fX4_enter s (qn e) (qC w I) = some (qn 0, qC w J) ∧ qCZ J s (qEnter G Z e) ∧ J s 5 = I s 5 ∧ ∀ a, a ≠ s → a ≠ s + 1 → a ≠ s + 2 → J a = I a := by
  obtain ⟨h3, h4, ha⟩ := hZ
  obtain ⟨g1, g2, g3, g4, g5, g6, g7⟩ := hG e he
  have hn := (hg e he).1
  have h107 := hs.2.2.1
  unfold fX4_enter qEnter
  by_cases h0 : qgN G e = 0
  · refine ⟨qU I s 4 (qn e), ?_, ⟨?_, ?_, ?_⟩, ?_, fun a h1 h2 h3 => qU_r h1⟩
    · simp (disch := omega) only [↓qlet, eq_self, qzg_t, qzb_some, ↓reduceIte, not_or, not_false_eq_true, not_true_eq_false, and_true, true_and, and_self, or_false, false_or, true_or, or_true, and_false, false_and, qlit, qneg, qof, qn_add, qn_mul, qn_s, qn_z, qn_d, qn_dz, qm_1, qt_1, qt_0, qb_0, qb_1, qb_01, qb01b, q01_0, q01_1, qo_s, qo_n, qn_c, qn_le, qn_lt, qn_eq, qn_ne_m, qm_ne_n, qm_lt, qm_le, qn_lt_m, qn_le_m, qn_sub, qn_div, qn_mod, qle_t, qle_f, qlt_t, qlt_f, qeq_t, qeq_f, Nat.add_sub_cancel, qC_I, qC_s, qU_s, qU_a, qU_k, qSt_k _ _ hs, qSt_k1 _ _ hs, qSt_k2 _ _ hs, qSt_l1 _ _ hs, qSt_l2 _ _ hs, qSt_r0 _ _ hs, qSt_r1 _ _ hs, qSt_r2 _ _ hs, qk_2, qk_3, qk_4, qk_5, qk_6, qk_7, ql_3, ql_4, ql_5, ql_6, ql_7, qr_2_0, qr_2_1, qr_2_2, qr_2_3, qr_2_4, qmo_r, qmo_k, qmo0_k, qmo0_l, qmo1_k, qmo1_l, qmo2_k, qmo2_l, qmo4_k, qmo4_l, qmo5_k, qmo5_l, qmo_r0, qmo_r1, qmo_r2, qmo_r4, qmo_r5, h3, g1, h0]
    · rw [if_pos h0, qU_k (by omega)]; exact h3
    · rw [qU_s]; rfl
    · rw [if_pos h0]
      refine qAll_up ha fun j y hj hp => ⟨?_, ?_⟩
      · rw [qU_r (by omega)]; exact hp.1
      · rw [qU_r (by omega)]; exact hp.2
    · rw [qU_k (by omega)]
  · rw [if_neg h0]
    refine ⟨qU (qU (qU (qU I s 4 (qn e)) (s + 1) Z.1.length (qn e)) (s + 2) Z.1.length (qn 0)) s 3 (qn (Z.1.length + 1)), ?_, ⟨?_, ?_, ⟨?_, ?_⟩, ?_⟩, ?_, fun a h1 h2 h3 => ?_⟩
    · simp (disch := omega) only [↓qlet, eq_self, qzg_t, qzb_some, ↓reduceIte, not_or, not_false_eq_true, not_true_eq_false, and_true, true_and, and_self, or_false, false_or, true_or, or_true, and_false, false_and, qlit, qneg, qof, qn_add, qn_mul, qn_s, qn_z, qn_d, qn_dz, qm_1, qt_1, qt_0, qb_0, qb_1, qb_01, qb01b, q01_0, q01_1, qo_s, qo_n, qn_c, qn_le, qn_lt, qn_eq, qn_ne_m, qm_ne_n, qm_lt, qm_le, qn_lt_m, qn_le_m, qn_sub, qn_div, qn_mod, qle_t, qle_f, qlt_t, qlt_f, qeq_t, qeq_f, Nat.add_sub_cancel, qC_I, qC_s, qU_s, qU_a, qU_k, qSt_k _ _ hs, qSt_k1 _ _ hs, qSt_k2 _ _ hs, qSt_l1 _ _ hs, qSt_l2 _ _ hs, qSt_r0 _ _ hs, qSt_r1 _ _ hs, qSt_r2 _ _ hs, qk_2, qk_3, qk_4, qk_5, qk_6, qk_7, ql_3, ql_4, ql_5, ql_6, ql_7, qr_2_0, qr_2_1, qr_2_2, qr_2_3, qr_2_4, qmo_r, qmo_k, qmo0_k, qmo0_l, qmo1_k, qmo1_l, qmo2_k, qmo2_l, qmo4_k, qmo4_l, qmo5_k, qmo5_l, qmo_r0, qmo_r1, qmo_r2, qmo_r4, qmo_r5, h3, g1, h0]
    · rw [qU_s]; rfl
    · rw [qU_k (by omega), qU_r (by omega), qU_r (by omega), qU_s]; rfl
    · rw [qU_r (by omega), qU_r (by omega), qU_s]
    · rw [qU_r (by omega), qU_s]
    · refine qAll_up ha fun j y hj hp => ⟨?_, ?_⟩
      · rw [qU_r (by omega), qU_r (by omega), qU_k (by omega), qU_r (by omega)]; exact hp.1
      · rw [qU_r (by omega), qU_k (by omega), qU_r (by omega), qU_r (by omega)]; exact hp.2
    · rw [qU_k (by omega), qU_r (by omega), qU_r (by omega), qU_k (by omega)]
    · rw [qU_r h1, qU_r h3, qU_r h2, qU_r h1]
theorem cLeave (hs : qSt s) (hz : qZok G Z) (hZ : qCZ I s Z) : ∃ J, fX4_leave s (qC w I) = some (qn 0, qC w J) ∧ qCZ J s (Z.1.tail, Z.2) ∧ J s 5 = I s 5 ∧ ∀ a, a ≠ s → J a = I a := by
  have hZ0 := hZ
  obtain ⟨st, la⟩ := Z
  obtain ⟨h3, h4, ha⟩ := hZ
  have h107 := hs.2.2.1
  unfold fX4_leave
  cases st with
  | nil =>
    refine ⟨I, ?_, hZ0, rfl, fun a _ => rfl⟩
    simp only [List.length_nil] at h3
    simp (disch := omega) only [↓qlet, eq_self, qzg_t, qzb_some, ↓reduceIte, not_or, not_false_eq_true, not_true_eq_false, and_true, true_and, and_self, or_false, false_or, true_or, or_true, and_false, false_and, qlit, qneg, qof, qn_add, qn_mul, qn_s, qn_z, qn_d, qn_dz, qm_1, qt_1, qt_0, qb_0, qb_1, qb_01, qb01b, q01_0, q01_1, qo_s, qo_n, qn_c, qn_le, qn_lt, qn_eq, qn_ne_m, qm_ne_n, qm_lt, qm_le, qn_lt_m, qn_le_m, qn_sub, qn_div, qn_mod, qle_t, qle_f, qlt_t, qlt_f, qeq_t, qeq_f, Nat.add_sub_cancel, qC_I, qC_s, qU_s, qU_a, qU_k, qSt_k _ _ hs, qSt_k1 _ _ hs, qSt_k2 _ _ hs, qSt_l1 _ _ hs, qSt_l2 _ _ hs, qSt_r0 _ _ hs, qSt_r1 _ _ hs, qSt_r2 _ _ hs, h3]
  | cons x st =>
    simp only [List.length_cons] at h3
    have hl := hz.1
    simp only [List.length_cons] at hl
    refine ⟨qU I s 3 (qn st.length), ?_, ⟨?_, ?_, ?_⟩, ?_, fun a h => qU_r h⟩
    · simp (disch := omega) only [↓qlet, eq_self, qzg_t, qzb_some, ↓reduceIte, not_or, not_false_eq_true, not_true_eq_false, and_true, true_and, and_self, or_false, false_or, true_or, or_true, and_false, false_and, qlit, qneg, qof, qn_add, qn_mul, qn_s, qn_z, qn_d, qn_dz, qm_1, qt_1, qt_0, qb_0, qb_1, qb_01, qb01b, q01_0, q01_1, qo_s, qo_n, qn_c, qn_le, qn_lt, qn_eq, qn_ne_m, qm_ne_n, qm_lt, qm_le, qn_lt_m, qn_le_m, qn_sub, qn_div, qn_mod, qle_t, qle_f, qlt_t, qlt_f, qeq_t, qeq_f, Nat.add_sub_cancel, qC_I, qC_s, qU_s, qU_a, qU_k, qSt_k _ _ hs, qSt_k1 _ _ hs, qSt_k2 _ _ hs, qSt_l1 _ _ hs, qSt_l2 _ _ hs, qSt_r0 _ _ hs, qSt_r1 _ _ hs, qSt_r2 _ _ hs, h3]
    · rw [qU_s]; rfl
    · rw [qU_k (by omega)]; exact h4
    · refine qAll_up ha.2 fun j y hj hp => ⟨?_, ?_⟩
      · rw [qU_r (by omega)]; exact hp.1
      · rw [qU_r (by omega)]; exact hp.2
    · rw [qU_k (by omega)]
theorem cRestart (hs : qSt s) : ∃ J, fX4_restart s (qC w I) = some (qn 0, qC w J) ∧ qCZ J s qZ0 ∧ J s 5 = qn 0 ∧ ∀ a, a ≠ s → J a = I a := by
  have h107 := hs.2.2.1
  unfold fX4_restart
  refine ⟨qU (qU (qU I s 3 (qn 0)) s 4 qm) s 5 (qn 0), ?_, ⟨?_, ?_, True.intro⟩, qU_s .., fun a h => ?_⟩
  · simp (disch := omega) only [↓qlet, eq_self, qzg_t, qzb_some, ↓reduceIte, not_or, not_false_eq_true, not_true_eq_false, and_true, true_and, and_self, or_false, false_or, true_or, or_true, and_false, false_and, qlit, qneg, qof, qn_add, qn_mul, qn_s, qn_z, qn_d, qn_dz, qm_1, qt_1, qt_0, qb_0, qb_1, qb_01, qb01b, q01_0, q01_1, qo_s, qo_n, qn_c, qn_le, qn_lt, qn_eq, qn_ne_m, qm_ne_n, qm_lt, qm_le, qn_lt_m, qn_le_m, qn_sub, qn_div, qn_mod, qle_t, qle_f, qlt_t, qlt_f, qeq_t, qeq_f, Nat.add_sub_cancel, qC_I, qC_s, qU_s, qU_a, qU_k, qSt_k _ _ hs, qSt_k1 _ _ hs, qSt_k2 _ _ hs, qSt_l1 _ _ hs, qSt_l2 _ _ hs, qSt_r0 _ _ hs, qSt_r1 _ _ hs, qSt_r2 _ _ hs]
  · rw [qU_k (by omega), qU_k (by omega), qU_s]; rfl
  · rw [qU_k (by omega), qU_s]; rfl
  · rw [qU_r h, qU_r h, qU_r h]
theorem cMay (hs : qSt s) (hG : qCG G I) (hg : qGok G) (hz : qZok G Z) (hZ : qCZ I s Z) : fX4_mayCloseUnasked s (qC w I) = some (qb (qMay G Z), qC w I) := by
  have hC := cCanEnd (w := w) hs hG hg hz hZ
  obtain ⟨st, la⟩ := Z
  obtain ⟨h3, h4, ha⟩ := hZ
  unfold fX4_mayCloseUnasked qMay
  cases st with
  | nil =>
    simp only [List.length_nil] at h3
    simp (disch := omega) only [↓qlet, eq_self, qzg_t, qzb_some, ↓reduceIte, not_or, not_false_eq_true, not_true_eq_false, and_true, true_and, and_self, or_false, false_or, true_or, or_true, and_false, false_and, qlit, qneg, qof, qn_add, qn_mul, qn_s, qn_z, qn_d, qn_dz, qm_1, qt_1, qt_0, qb_0, qb_1, qb_01, qb01b, q01_0, q01_1, qo_s, qo_n, qn_c, qn_le, qn_lt, qn_eq, qn_ne_m, qm_ne_n, qm_lt, qm_le, qn_lt_m, qn_le_m, qn_sub, qn_div, qn_mod, qle_t, qle_f, qlt_t, qlt_f, qeq_t, qeq_f, Nat.add_sub_cancel, qC_I, qC_s, qU_s, qU_a, qU_k, qSt_k _ _ hs, qSt_k1 _ _ hs, qSt_k2 _ _ hs, qSt_l1 _ _ hs, qSt_l2 _ _ hs, qSt_r0 _ _ hs, qSt_r1 _ _ hs, qSt_r2 _ _ hs, h3, qb_f]
  | cons x st =>
    cases st with
    | nil =>
      simp only [List.length_cons, List.length_nil] at h3
      simp (disch := omega) only [↓qlet, eq_self, qzg_t, qzb_some, ↓reduceIte, not_or, not_false_eq_true, not_true_eq_false, and_true, true_and, and_self, or_false, false_or, true_or, or_true, and_false, false_and, qlit, qneg, qof, qn_add, qn_mul, qn_s, qn_z, qn_d, qn_dz, qm_1, qt_1, qt_0, qb_0, qb_1, qb_01, qb01b, q01_0, q01_1, qo_s, qo_n, qn_c, qn_le, qn_lt, qn_eq, qn_ne_m, qm_ne_n, qm_lt, qm_le, qn_lt_m, qn_le_m, qn_sub, qn_div, qn_mod, qle_t, qle_f, qlt_t, qlt_f, qeq_t, qeq_f, Nat.add_sub_cancel, qC_I, qC_s, qU_s, qU_a, qU_k, qSt_k _ _ hs, qSt_k1 _ _ hs, qSt_k2 _ _ hs, qSt_l1 _ _ hs, qSt_l2 _ _ hs, qSt_r0 _ _ hs, qSt_r1 _ _ hs, qSt_r2 _ _ hs, h3, qb_f]
    | cons y st =>
      simp only [List.length_cons] at h3
      obtain ⟨⟨a1, a2⟩, -⟩ := ha
      obtain ⟨b1, b2⟩ := hz.2.1 x (by simp)
      have hl := hz.1
      simp only [List.length_cons] at hl a1 a2
      obtain ⟨g1, g2, g3, g4, g5, g6, g7⟩ := hG x.1 b1
      simp (disch := omega) only [↓qlet, eq_self, qzg_t, qzb_some, ↓reduceIte, not_or, not_false_eq_true, not_true_eq_false, and_true, true_and, and_self, or_false, false_or, true_or, or_true, and_false, false_and, qlit, qneg, qof, qn_add, qn_mul, qn_s, qn_z, qn_d, qn_dz, qm_1, qt_1, qt_0, qb_0, qb_1, qb_01, qb01b, q01_0, q01_1, qo_s, qo_n, qn_c, qn_le, qn_lt, qn_eq, qn_ne_m, qm_ne_n, qm_lt, qm_le, qn_lt_m, qn_le_m, qn_sub, qn_div, qn_mod, qle_t, qle_f, qlt_t, qlt_f, qeq_t, qeq_f, Nat.add_sub_cancel, qC_I, qC_s, qU_s, qU_a, qU_k, qSt_k _ _ hs, qSt_k1 _ _ hs, qSt_k2 _ _ hs, qSt_l1 _ _ hs, qSt_l2 _ _ hs, qSt_r0 _ _ hs, qSt_r1 _ _ hs, qSt_r2 _ _ hs, qk_2, qk_3, qk_4, qk_5, qk_6, qk_7, ql_3, ql_4, ql_5, ql_6, ql_7, qr_2_0, qr_2_1, qr_2_2, qr_2_3, qr_2_4, qmo_r, qmo_k, qmo0_k, qmo0_l, qmo1_k, qmo1_l, qmo2_k, qmo2_l, qmo4_k, qmo4_l, qmo5_k, qmo5_l, qmo_r0, qmo_r1, qmo_r2, qmo_r4, qmo_r5, h3, a1, g7, hC, qCan]
      cases qgB G x.1 <;> cases qrEnd G x.1 x.2 <;> rfl
/-- Integer.bitCount, as it is written -/
def qbc (x0 : Int32) : Int32 := zlet ((x0 - (((x0.toUInt32 >>> ((1 : Int32).toUInt32 &&& Int32.toUInt32 31)).toInt32) &&& 1431655765))) fun u1 => (zlet (((u1 &&& 858993459) + (((u1.toUInt32 >>> ((2 : Int32).toUInt32 &&& Int32.toUInt32 31)).toInt32) &&& 858993459))) fun u3 => (zlet (((u3 + ((u3.toUInt32 >>> ((4 : Int32).toUInt32 &&& Int32.toUInt32 31)).toInt32)) &&& 252645135)) fun u5 => (zlet ((u5 + ((u5.toUInt32 >>> ((8 : Int32).toUInt32 &&& Int32.toUInt32 31)).toInt32))) fun u7 => (zlet ((u7 + ((u7.toUInt32 >>> ((16 : Int32).toUInt32 &&& Int32.toUInt32 31)).toInt32))) fun u9 => (u9 &&& 63)))))
theorem cBc (x : Int32) (M : zM) : fJ6_bitCount_0f7a4 x M = some (qbc x, M) := rfl
theorem cLow (x : Int32) (M : zM) : fX7_lowestOf x M = some (qbc ((x &&& (-x)) - 1), M) := rfl
def qbk (n : Nat) : Bool := if qbc (qn n) = qn 1 then (match qOnly (qn n) with
  | some k => decide (qbc ((qn n &&& (-(qn n))) - 1) = qn k ∧ k < 10)
  | none => decide (qbc ((qn n &&& (-(qn n))) - 1) = qn 10)) else decide (qOnly (qn n) = none)
set_option maxRecDepth 1000000 in
theorem qbk_is : ∀ n, n < 2048 → qbk n = true := by decide +kernel
theorem qOn_S (hg : qGok G) {e : Nat} (he : e < 10) : ∀ n k b, n + k ≤ qgN G e → qS (qgOn G e n k b) := by
  intro n
  induction n with
  | zero => intro k b _; exact qS_z
  | succ n ih =>
    intro k b hk
    unfold qgOn
    refine qS_or ?_ ?_
    · split
      · exact ((hg e he).2.1 k (by omega)).1
      · exact qS_z
    · split
      · exact ih _ _ (by omega)
      · exact qS_z
theorem qGoes_S (hg : qGok G) (hz : qZok G Z) : qS (qGoes G Z) := by
  obtain ⟨st, la⟩ := Z
  unfold qGoes
  cases st with
  | nil => exact qS_z
  | cons x st =>
    obtain ⟨b1, b2⟩ := hz.2.1 x (by simp)
    exact qOn_S hg b1 _ _ _ (by omega)
theorem cWant (hs : qSt s) (hG : qCG G I) (hg : qGok G) (hz : qZok G Z) (hZ : qCZ I s Z) : fX4_elementToPutIn s (qC w I) = some (qo (qWant G Z), qC w I) := by
  have hC := cCanEnd (w := w) hs hG hg hz hZ
  have hO := cGoes (w := w) hs hG hg hz hZ
  obtain ⟨n, hn, he⟩ := qGoes_S hg hz
  have hb := qbk_is n hn
  have h3 := hZ.1
  have hl := hz.1
  have hE := cExc (w := w) hs hG hz hZ
  unfold fX4_elementToPutIn qWant
  simp (disch := omega) only [↓qlet, eq_self, qzg_t, qzb_some, ↓reduceIte, not_or, not_false_eq_true, not_true_eq_false, and_true, true_and, and_self, or_false, false_or, true_or, or_true, and_false, false_and, qlit, qneg, qof, qn_add, qn_mul, qn_s, qn_z, qn_d, qn_dz, qm_1, qt_1, qt_0, qb_0, qb_1, qb_01, qb01b, q01_0, q01_1, qo_s, qo_n, qn_c, qn_le, qn_lt, qn_eq, qn_ne_m, qm_ne_n, qm_lt, qm_le, qn_lt_m, qn_le_m, qn_sub, qn_div, qn_mod, qle_t, qle_f, qlt_t, qlt_f, qeq_t, qeq_f, Nat.add_sub_cancel, qC_I, qC_s, qU_s, qU_a, qU_k, qSt_k _ _ hs, qSt_k1 _ _ hs, qSt_k2 _ _ hs, qSt_l1 _ _ hs, qSt_l2 _ _ hs, qSt_r0 _ _ hs, qSt_r1 _ _ hs, qSt_r2 _ _ hs, hO, cBc, hC, cLow, h3, he]
  unfold qbk at hb
  by_cases c1 : qbc (qn n) = qn 1
  · rw [if_pos c1] at hb
    rw [if_pos c1]
    cases ho : qOnly (qn n) with
    | none =>
      rw [ho] at hb
      have hb := of_decide_eq_true hb
      simp only [qlit] at hb
      simp (disch := omega) only [↓qlet, eq_self, qzg_t, qzb_some, ↓reduceIte, not_or, not_false_eq_true, not_true_eq_false, and_true, true_and, and_self, or_false, false_or, true_or, or_true, and_false, false_and, qlit, qneg, qof, qn_add, qn_mul, qn_s, qn_z, qn_d, qn_dz, qm_1, qt_1, qt_0, qb_0, qb_1, qb_01, qb01b, q01_0, q01_1, qo_s, qo_n, qn_c, qn_le, qn_lt, qn_eq, qn_ne_m, qm_ne_n, qm_lt, qm_le, qn_lt_m, qn_le_m, qn_sub, qn_div, qn_mod, qle_t, qle_f, qlt_t, qlt_f, qeq_t, qeq_f, Nat.add_sub_cancel, qC_I, qC_s, qU_s, qU_a, qU_k, hb]
      cases qCan G Z <;> simp only [Bool.true_eq_false, ↓reduceIte]
      split <;> rfl
    | some k =>
      rw [ho] at hb
      have hb := of_decide_eq_true hb
      simp only [qlit] at hb
      obtain ⟨hb, hk⟩ := hb
      obtain ⟨g1, g2, g3, g4, g5, g6, g7⟩ := hG k hk
      have h6 := (hg k hk).1
      have hE := hE k
      simp (disch := omega) only [↓qlet, eq_self, qzg_t, qzb_some, ↓reduceIte, not_or, not_false_eq_true, not_true_eq_false, and_true, true_and, and_self, or_false, false_or, true_or, or_true, and_false, false_and, qlit, qneg, qof, qn_add, qn_mul, qn_s, qn_z, qn_d, qn_dz, qm_1, qt_1, qt_0, qb_0, qb_1, qb_01, qb01b, q01_0, q01_1, qo_s, qo_n, qn_c, qn_le, qn_lt, qn_eq, qn_ne_m, qm_ne_n, qm_lt, qm_le, qn_lt_m, qn_le_m, qn_sub, qn_div, qn_mod, qle_t, qle_f, qlt_t, qlt_f, qeq_t, qeq_f, Nat.add_sub_cancel, qC_I, qC_s, qU_s, qU_a, qU_k, hb]
      cases qCan G Z with
      | true => simp [qo]
      | false =>
        by_cases c2 : 20 ≤ Z.1.length
        · simp (disch := omega) only [↓qlet, eq_self, qzg_t, qzb_some, ↓reduceIte, not_or, not_false_eq_true, not_true_eq_false, and_true, true_and, and_self, or_false, false_or, true_or, or_true, and_false, false_and, qlit, qneg, qof, qn_add, qn_mul, qn_s, qn_z, qn_d, qn_dz, qm_1, qt_1, qt_0, qb_0, qb_1, qb_01, qb01b, q01_0, q01_1, qo_s, qo_n, qn_c, qn_le, qn_lt, qn_eq, qn_ne_m, qm_ne_n, qm_lt, qm_le, qn_lt_m, qn_le_m, qn_sub, qn_div, qn_mod, qle_t, qle_f, qlt_t, qlt_f, qeq_t, qeq_f, Nat.add_sub_cancel, qC_I, qC_s, qU_s, qU_a, qU_k, c2]
        · cases c3 : qgA G k with
          | false => simp (disch := omega) only [↓qlet, eq_self, qzg_t, qzb_some, ↓reduceIte, not_or, not_false_eq_true, not_true_eq_false, and_true, true_and, and_self, or_false, false_or, true_or, or_true, and_false, false_and, qlit, qneg, qof, qn_add, qn_mul, qn_s, qn_z, qn_d, qn_dz, qm_1, qt_1, qt_0, qb_0, qb_1, qb_01, qb01b, q01_0, q01_1, qo_s, qo_n, qn_c, qn_le, qn_lt, qn_eq, qn_ne_m, qm_ne_n, qm_lt, qm_le, qn_lt_m, qn_le_m, qn_sub, qn_div, qn_mod, qle_t, qle_f, qlt_t, qlt_f, qeq_t, qeq_f, Nat.add_sub_cancel, qC_I, qC_s, qU_s, qU_a, qU_k, qSt_k _ _ hs, qSt_k1 _ _ hs, qSt_k2 _ _ hs, qSt_l1 _ _ hs, qSt_l2 _ _ hs, qSt_r0 _ _ hs, qSt_r1 _ _ hs, qSt_r2 _ _ hs, qk_2, qk_3, qk_4, qk_5, qk_6, qk_7, ql_3, ql_4, ql_5, ql_6, ql_7, qr_2_0, qr_2_1, qr_2_2, qr_2_3, qr_2_4, qmo_r, qmo_k, qmo0_k, qmo0_l, qmo1_k, qmo1_l, qmo2_k, qmo2_l, qmo4_k, qmo4_l, qmo5_k, qmo5_l, qmo_r0, qmo_r1, qmo_r2, qmo_r4, qmo_r5, g6, c3, qb_f]
          | true =>
            by_cases c4 : qgN G k = 0
            · simp (disch := omega) only [↓qlet, eq_self, qzg_t, qzb_some, ↓reduceIte, not_or, not_false_eq_true, not_true_eq_false, and_true, true_and, and_self, or_false, false_or, true_or, or_true, and_false, false_and, qlit, qneg, qof, qn_add, qn_mul, qn_s, qn_z, qn_d, qn_dz, qm_1, qt_1, qt_0, qb_0, qb_1, qb_01, qb01b, q01_0, q01_1, qo_s, qo_n, qn_c, qn_le, qn_lt, qn_eq, qn_ne_m, qm_ne_n, qm_lt, qm_le, qn_lt_m, qn_le_m, qn_sub, qn_div, qn_mod, qle_t, qle_f, qlt_t, qlt_f, qeq_t, qeq_f, Nat.add_sub_cancel, qC_I, qC_s, qU_s, qU_a, qU_k, qSt_k _ _ hs, qSt_k1 _ _ hs, qSt_k2 _ _ hs, qSt_l1 _ _ hs, qSt_l2 _ _ hs, qSt_r0 _ _ hs, qSt_r1 _ _ hs, qSt_r2 _ _ hs, qk_2, qk_3, qk_4, qk_5, qk_6, qk_7, ql_3, ql_4, ql_5, ql_6, ql_7, qr_2_0, qr_2_1, qr_2_2, qr_2_3, qr_2_4, qmo_r, qmo_k, qmo0_k, qmo0_l, qmo1_k, qmo1_l, qmo2_k, qmo2_l, qmo4_k, qmo4_l, qmo5_k, qmo5_l, qmo_r0, qmo_r1, qmo_r2, qmo_r4, qmo_r5, g6, c3, qb_t, g1, c4]
            · simp (disch := omega) only [↓qlet, eq_self, qzg_t, qzb_some, ↓reduceIte, not_or, not_false_eq_true, not_true_eq_false, and_true, true_and, and_self, or_false, false_or, true_or, or_true, and_false, false_and, qlit, qneg, qof, qn_add, qn_mul, qn_s, qn_z, qn_d, qn_dz, qm_1, qt_1, qt_0, qb_0, qb_1, qb_01, qb01b, q01_0, q01_1, qo_s, qo_n, qn_c, qn_le, qn_lt, qn_eq, qn_ne_m, qm_ne_n, qm_lt, qm_le, qn_lt_m, qn_le_m, qn_sub, qn_div, qn_mod, qle_t, qle_f, qlt_t, qlt_f, qeq_t, qeq_f, Nat.add_sub_cancel, qC_I, qC_s, qU_s, qU_a, qU_k, qSt_k _ _ hs, qSt_k1 _ _ hs, qSt_k2 _ _ hs, qSt_l1 _ _ hs, qSt_l2 _ _ hs, qSt_r0 _ _ hs, qSt_r1 _ _ hs, qSt_r2 _ _ hs, qk_2, qk_3, qk_4, qk_5, qk_6, qk_7, ql_3, ql_4, ql_5, ql_6, ql_7, qr_2_0, qr_2_1, qr_2_2, qr_2_3, qr_2_4, qmo_r, qmo_k, qmo0_k, qmo0_l, qmo1_k, qmo1_l, qmo2_k, qmo2_l, qmo4_k, qmo4_l, qmo5_k, qmo5_l, qmo_r0, qmo_r1, qmo_r2, qmo_r4, qmo_r5, g6, c3, qb_t, g1, c4, hE]
              cases qExc G Z.1 k
              · simp [c2, qo]
              · simp [qo]
  · rw [if_neg c1] at hb
    rw [if_neg c1]
    rw [of_decide_eq_true hb]; rfl
end
