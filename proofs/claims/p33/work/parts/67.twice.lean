/-! THE LAW: the lowest thing by which a model could go on by two slots -/
def qMn (lo : Option Nat) (t : Nat) : Option Nat := match lo with
  | none => some t
  | some l => if l ≤ t then some l else some t
theorem qFind_add (p : Nat → Bool) (n j : Nat) (hj : j < n) : (List.range n).find? (fun t => p t || t == j) = qMn ((List.range n).find? p) j := by
  cases h : (List.range n).find? p with
  | none =>
    rw [List.find?_eq_none] at h
    show _ = some j
    rw [List.find?_range_eq_some]
    refine ⟨by simp, by simpa using hj, fun i hi => ?_⟩
    have h1 := h i (by simp; omega)
    have h2 : (i == j) = false := by simp; omega
    simp only [h2, Bool.or_false]
    simpa using h1
  | some l =>
    rw [List.find?_range_eq_some] at h
    obtain ⟨h1, h2, h3⟩ := h
    have h2 : l < n := by simpa using h2
    unfold qMn
    dsimp only
    by_cases c : l ≤ j
    · rw [if_pos c, List.find?_range_eq_some]
      refine ⟨by simp [h1], by simpa using h2, fun i hi => ?_⟩
      have h4 : (i == j) = false := by simp; omega
      simp only [h4, Bool.or_false]
      exact h3 i hi
    · rw [if_neg c, List.find?_range_eq_some]
      refine ⟨by simp, by simpa using hj, fun i hi => ?_⟩
      have h4 : (i == j) = false := by simp; omega
      simp only [h4, Bool.or_false]
      exact h3 i (by omega)
/-- the lowest thing of so many rows -/
def qLw (G : qG) (e r : Nat) : Option Nat := (List.range 11).find? fun t => (List.range r).any fun q => qgDb G e t (qgN G e - q / 2) (q / 2) (q % 2 == 1) false
/-- the law's row g holds the slots of an element -/
def qLE (G : qG) (e : Nat) (I : Nat → Nat → Int32) : Prop := qgN G e ≤ 4 ∧ ∀ k, k < qgN G e → ∃ n, n < 2048 ∧ qgS G e k = qn n ∧ I 505 (4 * e + k) = qn (n + 2048 * qgO G e k) ∧ qgO G e k ≤ 3
section
variable {w : Bool} {I : Nat → Nat → Int32} {W : Nat → Nat → Nat} {G : qG}
theorem lEnoughE {e k : Nat} (hE : qLE G e I) (he : e < 5) (hk : k < qgN G e) (s : Bool) : fL_enough 505 (qn (4 * e + k)) (qb s) (qL w I W) = some (qb (qgEn G e k s), qL w I W) := by
  obtain ⟨h4, g3⟩ := hE
  obtain ⟨n, n1, n2, n3, n4⟩ := g3 k hk
  unfold fL_enough fL_enough_27 qgEn qlack
  have hd : (n + 2048 * qgO G e k) / 2048 = qgO G e k := by omega
  cases s with
  | true => simp (disch := omega) only [↓qlet, eq_self, qzg_t, qzb_some, ↓reduceIte, not_or, not_false_eq_true, not_true_eq_false, and_true, true_and, and_self, or_false, false_or, true_or, or_true, and_false, false_and, qlit, qneg, qof, qn_add, qn_mul, qn_s, qn_z, qn_d, qn_dz, qm_1, qt_1, qt_0, qb_0, qb_1, qb_01, qb01b, q01_0, q01_1, qo_s, qo_n, qn_c, qn_le, qn_lt, qn_eq, qn_ne_m, qm_ne_n, qm_lt, qm_le, qn_lt_m, qn_le_m, qn_sub, qn_div, qn_mod, qle_t, qle_f, qlt_t, qlt_f, qeq_t, qeq_f, Nat.add_sub_cancel, qU_s, qU_a, qU_k, qn_rem, qL_I, qL_s, lk_505, lk_506, lk_507, lk_508, lk_509, lk_510, lk_511, lk_512, lk_513, lk_514, lk_515, lk_516, lk_517, lk_518, lk_519, ll_505, ll_506, ll_507, ll_508, ll_509, ll_510, ll_511, ll_512, ll_513, ll_514, ll_515, ll_516, ll_517, ll_518, ll_519, qb_t, Bool.true_or]
  | false =>
    simp (disch := omega) only [↓qlet, eq_self, qzg_t, qzb_some, ↓reduceIte, not_or, not_false_eq_true, not_true_eq_false, and_true, true_and, and_self, or_false, false_or, true_or, or_true, and_false, false_and, qlit, qneg, qof, qn_add, qn_mul, qn_s, qn_z, qn_d, qn_dz, qm_1, qt_1, qt_0, qb_0, qb_1, qb_01, qb01b, q01_0, q01_1, qo_s, qo_n, qn_c, qn_le, qn_lt, qn_eq, qn_ne_m, qm_ne_n, qm_lt, qm_le, qn_lt_m, qn_le_m, qn_sub, qn_div, qn_mod, qle_t, qle_f, qlt_t, qlt_f, qeq_t, qeq_f, Nat.add_sub_cancel, qU_s, qU_a, qU_k, qn_rem, qL_I, qL_s, lk_505, lk_506, lk_507, lk_508, lk_509, lk_510, lk_511, lk_512, lk_513, lk_514, lk_515, lk_516, lk_517, lk_518, lk_519, ll_505, ll_506, ll_507, ll_508, ll_509, ll_510, ll_511, ll_512, ll_513, ll_514, ll_515, ll_516, ll_517, ll_518, ll_519, qb_f, n3, hd, Bool.false_or]
    rcases (show qgO G e k = 0 ∨ qgO G e k = 1 ∨ qgO G e k = 2 ∨ qgO G e k = 3 by omega) with h | h | h | h <;> rw [h] <;> rfl
theorem lTw_129 (k5 : Nat → Int32 → Int32 → Int32 → Int32 → zM → Option (Int32 × zM)) (x1 x2 x4 both : Int32) (P : Nat → Bool) (M : zM) : ∀ j m, j ≤ 11 → j < m → fL_twice_129 k5 m 505 x1 x2 (qo ((List.range 11).find? fun t => P t || (decide (j ≤ t) && qt both t))) x4 both (if j = 0 then qm else qn (j - 1)) M = fL_twice_168 k5 505 x1 x2 (qo ((List.range 11).find? fun t => P t || qt both t)) x4 M := by
  intro j
  induction j with
  | zero =>
    intro m _ hm
    obtain ⟨m, rfl⟩ : ∃ q, m = q + 1 := ⟨m - 1, by omega⟩
    have hm0 : (qm < qn 0) = True := qm_lt (by omega)
    have e : (fun t => P t || (decide (0 ≤ t) && qt both t)) = fun t => P t || qt both t := by
      funext t; simp
    rw [e, if_pos rfl]
    unfold fL_twice_129
    generalize fL_twice_168 = F
    simp (disch := omega) only [↓qlet, eq_self, qzg_t, qzb_some, ↓reduceIte, not_or, not_false_eq_true, not_true_eq_false, and_true, true_and, and_self, or_false, false_or, true_or, or_true, and_false, false_and, qlit, qneg, qof, qn_add, qn_mul, qn_s, qn_z, qn_d, qn_dz, qm_1, qt_1, qt_0, qb_0, qb_1, qb_01, qb01b, q01_0, q01_1, qo_s, qo_n, qn_c, qn_le, qn_lt, qn_eq, qn_ne_m, qm_ne_n, qm_lt, qm_le, qn_lt_m, qn_le_m, qn_sub, qn_div, qn_mod, qle_t, qle_f, qlt_t, qlt_f, qeq_t, qeq_f, Nat.add_sub_cancel, qU_s, qU_a, qU_k, qn_rem, qL_I, qL_s, lk_505, lk_506, lk_507, lk_508, lk_509, lk_510, lk_511, lk_512, lk_513, lk_514, lk_515, lk_516, lk_517, lk_518, lk_519, ll_505, ll_506, ll_507, ll_508, ll_509, ll_510, ll_511, ll_512, ll_513, ll_514, ll_515, ll_516, ll_517, ll_518, ll_519, hm0]
  | succ j ih =>
    intro m hj hm
    obtain ⟨m, rfl⟩ : ∃ q, m = q + 1 := ⟨m - 1, by omega⟩
    have ih := ih m (by omega) (by omega)
    have hnext : qn j + qm = if j = 0 then qm else qn (j - 1) := by
      cases j with
      | zero => exact qn_dz
      | succ j => exact qn_d j
    have hlo : ∀ l, (List.range 11).find? (fun t => P t || (decide (j + 1 ≤ t) && qt both t)) = some l → l < 11 := fun l h => by
      have := List.mem_of_find?_eq_some h
      simpa using this
    rw [if_neg (by omega), Nat.add_sub_cancel]
    unfold fL_twice_129
    generalize fL_twice_168 = F at ih ⊢
    by_cases c : qt both j = true
    · have e : (fun t => P t || (decide (j ≤ t) && qt both t)) = fun t => (P t || (decide (j + 1 ≤ t) && qt both t)) || t == j := by
        funext t
        by_cases ct : t = j
        · subst ct; simp [c]
        · have h1 : (t == j) = false := by simp [ct]
          have h2 : decide (j ≤ t) = decide (j + 1 ≤ t) := by simp; omega
          rw [h1, Bool.or_false, h2]
      rw [e, qFind_add _ 11 j (by omega)] at ih
      cases hf : (List.range 11).find? (fun t => P t || (decide (j + 1 ≤ t) && qt both t)) with
      | none =>
        rw [hf] at ih
        have hm0 : (qm < qn 0) = True := qm_lt (by omega)
        simp only [qMn, qo_s] at ih
        simp (disch := omega) only [↓qlet, eq_self, qzg_t, qzb_some, ↓reduceIte, not_or, not_false_eq_true, not_true_eq_false, and_true, true_and, and_self, or_false, false_or, true_or, or_true, and_false, false_and, qlit, qneg, qof, qn_add, qn_mul, qn_s, qn_z, qn_d, qn_dz, qm_1, qt_1, qt_0, qb_0, qb_1, qb_01, qb01b, q01_0, q01_1, qo_s, qo_n, qn_c, qn_le, qn_lt, qn_eq, qn_ne_m, qm_ne_n, qm_lt, qm_le, qn_lt_m, qn_le_m, qn_sub, qn_div, qn_mod, qle_t, qle_f, qlt_t, qlt_f, qeq_t, qeq_f, Nat.add_sub_cancel, qU_s, qU_a, qU_k, qn_rem, qL_I, qL_s, lk_505, lk_506, lk_507, lk_508, lk_509, lk_510, lk_511, lk_512, lk_513, lk_514, lk_515, lk_516, lk_517, lk_518, lk_519, ll_505, ll_506, ll_507, ll_508, ll_509, ll_510, ll_511, ll_512, ll_513, ll_514, ll_515, ll_516, ll_517, ll_518, ll_519, c, hm0, fL_twice_155, fL_twice_161, hnext, ih]
      | some l =>
        have hl := hlo l hf
        rw [hf] at ih
        by_cases c2 : l ≤ j
        · simp only [qMn, if_pos c2, qo_s] at ih
          simp (disch := omega) only [↓qlet, eq_self, qzg_t, qzb_some, ↓reduceIte, not_or, not_false_eq_true, not_true_eq_false, and_true, true_and, and_self, or_false, false_or, true_or, or_true, and_false, false_and, qlit, qneg, qof, qn_add, qn_mul, qn_s, qn_z, qn_d, qn_dz, qm_1, qt_1, qt_0, qb_0, qb_1, qb_01, qb01b, q01_0, q01_1, qo_s, qo_n, qn_c, qn_le, qn_lt, qn_eq, qn_ne_m, qm_ne_n, qm_lt, qm_le, qn_lt_m, qn_le_m, qn_sub, qn_div, qn_mod, qle_t, qle_f, qlt_t, qlt_f, qeq_t, qeq_f, Nat.add_sub_cancel, qU_s, qU_a, qU_k, qn_rem, qL_I, qL_s, lk_505, lk_506, lk_507, lk_508, lk_509, lk_510, lk_511, lk_512, lk_513, lk_514, lk_515, lk_516, lk_517, lk_518, lk_519, ll_505, ll_506, ll_507, ll_508, ll_509, ll_510, ll_511, ll_512, ll_513, ll_514, ll_515, ll_516, ll_517, ll_518, ll_519, c, c2, fL_twice_160, fL_twice_161, hnext, ih]
        · simp only [qMn, if_neg c2, qo_s] at ih
          simp (disch := omega) only [↓qlet, eq_self, qzg_t, qzb_some, ↓reduceIte, not_or, not_false_eq_true, not_true_eq_false, and_true, true_and, and_self, or_false, false_or, true_or, or_true, and_false, false_and, qlit, qneg, qof, qn_add, qn_mul, qn_s, qn_z, qn_d, qn_dz, qm_1, qt_1, qt_0, qb_0, qb_1, qb_01, qb01b, q01_0, q01_1, qo_s, qo_n, qn_c, qn_le, qn_lt, qn_eq, qn_ne_m, qm_ne_n, qm_lt, qm_le, qn_lt_m, qn_le_m, qn_sub, qn_div, qn_mod, qle_t, qle_f, qlt_t, qlt_f, qeq_t, qeq_f, Nat.add_sub_cancel, qU_s, qU_a, qU_k, qn_rem, qL_I, qL_s, lk_505, lk_506, lk_507, lk_508, lk_509, lk_510, lk_511, lk_512, lk_513, lk_514, lk_515, lk_516, lk_517, lk_518, lk_519, ll_505, ll_506, ll_507, ll_508, ll_509, ll_510, ll_511, ll_512, ll_513, ll_514, ll_515, ll_516, ll_517, ll_518, ll_519, c, c2, fL_twice_155, fL_twice_161, hnext, ih]
    · have c : qt both j = false := by simpa using c
      have e : (fun t => P t || (decide (j ≤ t) && qt both t)) = fun t => P t || (decide (j + 1 ≤ t) && qt both t) := by
        funext t
        by_cases ct : t = j
        · subst ct; simp [c]
        · have h2 : decide (j ≤ t) = decide (j + 1 ≤ t) := by simp; omega
          rw [h2]
      rw [e] at ih
      simp (disch := omega) only [↓qlet, eq_self, qzg_t, qzb_some, ↓reduceIte, not_or, not_false_eq_true, not_true_eq_false, and_true, true_and, and_self, or_false, false_or, true_or, or_true, and_false, false_and, qlit, qneg, qof, qn_add, qn_mul, qn_s, qn_z, qn_d, qn_dz, qm_1, qt_1, qt_0, qb_0, qb_1, qb_01, qb01b, q01_0, q01_1, qo_s, qo_n, qn_c, qn_le, qn_lt, qn_eq, qn_ne_m, qm_ne_n, qm_lt, qm_le, qn_lt_m, qn_le_m, qn_sub, qn_div, qn_mod, qle_t, qle_f, qlt_t, qlt_f, qeq_t, qeq_f, Nat.add_sub_cancel, qU_s, qU_a, qU_k, qn_rem, qL_I, qL_s, lk_505, lk_506, lk_507, lk_508, lk_509, lk_510, lk_511, lk_512, lk_513, lk_514, lk_515, lk_516, lk_517, lk_518, lk_519, ll_505, ll_506, ll_507, ll_508, ll_509, ll_510, ll_511, ll_512, ll_513, ll_514, ll_515, ll_516, ll_517, ll_518, ll_519, c, fL_twice_160, fL_twice_161, hnext, ih, Bool.false_eq_true]
theorem lTw_125 (k5 : Nat → Int32 → Int32 → Int32 → Int32 → zM → Option (Int32 × zM)) (x1 x2 x4 both : Int32) (P : Nat → Bool) (M : zM) : fL_twice_125 k5 505 x1 x2 (qo ((List.range 11).find? P)) x4 both M = fL_twice_168 k5 505 x1 x2 (qo ((List.range 11).find? fun t => P t || qt both t)) x4 M := by
  have h := lTw_129 k5 x1 x2 x4 both P M 11 10000 (Nat.le_refl _) (by omega)
  have e : (List.range 11).find? (fun t => P t || (decide (11 ≤ t) && qt both t)) = (List.range 11).find? P := by
    have key : ∀ (l : List Nat), (∀ t ∈ l, t < 11) → l.find? (fun t => P t || (decide (11 ≤ t) && qt both t)) = l.find? P := by
      intro l
      induction l with
      | nil => intro _; rfl
      | cons t l ih =>
        intro hm
        have ht := hm t (by simp)
        have h2 : decide (11 ≤ t) = false := by simp; omega
        rw [List.find?_cons, List.find?_cons, ih fun y hy => hm y (by simp [hy]), h2, Bool.false_and, Bool.or_false]
    exact key _ fun t ht => by simpa using ht
  rw [e, if_neg (by omega)] at h
  exact h
theorem lTw_31 (k5 : Nat → Int32 → Int32 → Int32 → Int32 → zM → Option (Int32 × zM)) {e : Nat} (hE : qLE G e I) (he : e < 5) (lo x4 : Int32) : ∀ d k s z b m, k + d = qgN G e → d + 1 < m → fL_twice_31 k5 m 505 (qn (qgN G e)) (qn e) lo x4 z b (qb s) (qn k) (qL w I W) = fL_twice_125 k5 505 (qn (qgN G e)) (qn e) lo x4 (b ||| qgCl G e d k s z) (qL w I W) := by
  have h4 := hE.1
  have hend : ∀ k z b m v, qgN G e ≤ k → k < 100 → fL_twice_31 k5 (m + 1) 505 (qn (qgN G e)) (qn e) lo x4 z b v (qn k) (qL w I W) = fL_twice_125 k5 505 (qn (qgN G e)) (qn e) lo x4 b (qL w I W) := by
    intro k z b m v h1 h2
    unfold fL_twice_31
    generalize fL_twice_125 = F
    simp (disch := omega) only [↓qlet, eq_self, qzg_t, qzb_some, ↓reduceIte, not_or, not_false_eq_true, not_true_eq_false, and_true, true_and, and_self, or_false, false_or, true_or, or_true, and_false, false_and, qlit, qneg, qof, qn_add, qn_mul, qn_s, qn_z, qn_d, qn_dz, qm_1, qt_1, qt_0, qb_0, qb_1, qb_01, qb01b, q01_0, q01_1, qo_s, qo_n, qn_c, qn_le, qn_lt, qn_eq, qn_ne_m, qm_ne_n, qm_lt, qm_le, qn_lt_m, qn_le_m, qn_sub, qn_div, qn_mod, qle_t, qle_f, qlt_t, qlt_f, qeq_t, qeq_f, Nat.add_sub_cancel, qU_s, qU_a, qU_k, qn_rem, qL_I, qL_s, lk_505, lk_506, lk_507, lk_508, lk_509, lk_510, lk_511, lk_512, lk_513, lk_514, lk_515, lk_516, lk_517, lk_518, lk_519, ll_505, ll_506, ll_507, ll_508, ll_509, ll_510, ll_511, ll_512, ll_513, ll_514, ll_515, ll_516, ll_517, ll_518, ll_519, h1]
  intro d
  induction d with
  | zero =>
    intro k s z b m h1 h2
    obtain ⟨m, rfl⟩ : ∃ q, m = q + 1 := ⟨m - 1, by omega⟩
    rw [hend k z b m _ (by omega) (by omega)]
    unfold qgCl
    rw [q_or0r]
  | succ d ih =>
    intro k s z b m h1 h2
    obtain ⟨m, rfl⟩ : ∃ q, m = q + 2 := ⟨m - 2, by omega⟩
    obtain ⟨n, n1, n2, n3, n4⟩ := hE.2 k (by omega)
    have hk : ¬ qgN G e ≤ k := by omega
    have hen := lEnoughE (w := w) (W := W) hE he (show k < qgN G e by omega) s
    have hd : (n + 2048 * qgO G e k) / 2048 = qgO G e k := by omega
    have hr : (n + 2048 * qgO G e k) % 2048 = n := by omega
    have ho : (qgO G e k ≤ 1) = (qmany (qgO G e k) = false) := by
      rcases (show qgO G e k = 0 ∨ qgO G e k = 1 ∨ qgO G e k = 2 ∨ qgO G e k = 3 by omega) with h | h | h | h <;> rw [h] <;> simp [qmany]
    have h74 : ∀ st : Int32, fL_twice_74 k5 (fL_twice_31 k5 (m + 1)) 505 (qn (qgN G e)) (qn e) lo x4 z b (qb s) (qn k) st (qL w I W) = fL_twice_125 k5 505 (qn (qgN G e)) (qn e) lo x4 (b ||| ((z &&& st) ||| (if qgEn G e k s = true then qgCl G e d (k + 1) false (z ||| st) else qn 0))) (qL w I W) := by
      intro st
      unfold fL_twice_74 fL_twice_114
      have i1 := ih (k + 1) false (z ||| st) (b ||| (z &&& st)) (m + 1) (by omega) (by omega)
      have i2 := hend (qgN G e + 1) (z ||| st) (b ||| (z &&& st)) m (qn 0) (by omega) (by omega)
      rw [qb_f] at i1
      generalize fL_twice_125 = F at i1 i2 ⊢
      cases hq : qgEn G e k s with
      | true =>
        rw [hq, qb_t] at hen
        simp (disch := omega) only [↓qlet, eq_self, qzg_t, qzb_some, ↓reduceIte, not_or, not_false_eq_true, not_true_eq_false, and_true, true_and, and_self, or_false, false_or, true_or, or_true, and_false, false_and, qlit, qneg, qof, qn_add, qn_mul, qn_s, qn_z, qn_d, qn_dz, qm_1, qt_1, qt_0, qb_0, qb_1, qb_01, qb01b, q01_0, q01_1, qo_s, qo_n, qn_c, qn_le, qn_lt, qn_eq, qn_ne_m, qm_ne_n, qm_lt, qm_le, qn_lt_m, qn_le_m, qn_sub, qn_div, qn_mod, qle_t, qle_f, qlt_t, qlt_f, qeq_t, qeq_f, Nat.add_sub_cancel, qU_s, qU_a, qU_k, qn_rem, qL_I, qL_s, lk_505, lk_506, lk_507, lk_508, lk_509, lk_510, lk_511, lk_512, lk_513, lk_514, lk_515, lk_516, lk_517, lk_518, lk_519, ll_505, ll_506, ll_507, ll_508, ll_509, ll_510, ll_511, ll_512, ll_513, ll_514, ll_515, ll_516, ll_517, ll_518, ll_519, hen, i1, q_orA]
      | false =>
        rw [hq, qb_f] at hen
        simp (disch := omega) only [↓qlet, eq_self, qzg_t, qzb_some, ↓reduceIte, not_or, not_false_eq_true, not_true_eq_false, and_true, true_and, and_self, or_false, false_or, true_or, or_true, and_false, false_and, qlit, qneg, qof, qn_add, qn_mul, qn_s, qn_z, qn_d, qn_dz, qm_1, qt_1, qt_0, qb_0, qb_1, qb_01, qb01b, q01_0, q01_1, qo_s, qo_n, qn_c, qn_le, qn_lt, qn_eq, qn_ne_m, qm_ne_n, qm_lt, qm_le, qn_lt_m, qn_le_m, qn_sub, qn_div, qn_mod, qle_t, qle_f, qlt_t, qlt_f, qeq_t, qeq_f, Nat.add_sub_cancel, qU_s, qU_a, qU_k, qn_rem, qL_I, qL_s, lk_505, lk_506, lk_507, lk_508, lk_509, lk_510, lk_511, lk_512, lk_513, lk_514, lk_515, lk_516, lk_517, lk_518, lk_519, ll_505, ll_506, ll_507, ll_508, ll_509, ll_510, ll_511, ll_512, ll_513, ll_514, ll_515, ll_516, ll_517, ll_518, ll_519, hen, i2, q_or0r, Bool.false_eq_true]
    have hset : qgCl G e (d + 1) k s z = (z &&& (if (!s || qmany (qgO G e k)) = true then qgS G e k else qn 0)) ||| (if qgEn G e k s = true then qgCl G e d (k + 1) false (z ||| (if (!s || qmany (qgO G e k)) = true then qgS G e k else qn 0)) else qn 0) := rfl
    rw [hset]
    unfold fL_twice_31
    generalize fL_twice_125 = F at h74 ⊢
    have h58 : fL_twice_58 k5 (fL_twice_31 k5 (m + 1)) 505 (qn (qgN G e)) (qn e) lo x4 z b (qb s) (qn k) (qL w I W) = fL_twice_74 k5 (fL_twice_31 k5 (m + 1)) 505 (qn (qgN G e)) (qn e) lo x4 z b (qb s) (qn k) (qn n) (qL w I W) := by
      unfold fL_twice_58
      generalize fL_twice_74 = F2
      simp (disch := omega) only [↓qlet, eq_self, qzg_t, qzb_some, ↓reduceIte, not_or, not_false_eq_true, not_true_eq_false, and_true, true_and, and_self, or_false, false_or, true_or, or_true, and_false, false_and, qlit, qneg, qof, qn_add, qn_mul, qn_s, qn_z, qn_d, qn_dz, qm_1, qt_1, qt_0, qb_0, qb_1, qb_01, qb01b, q01_0, q01_1, qo_s, qo_n, qn_c, qn_le, qn_lt, qn_eq, qn_ne_m, qm_ne_n, qm_lt, qm_le, qn_lt_m, qn_le_m, qn_sub, qn_div, qn_mod, qle_t, qle_f, qlt_t, qlt_f, qeq_t, qeq_f, Nat.add_sub_cancel, qU_s, qU_a, qU_k, qn_rem, qL_I, qL_s, lk_505, lk_506, lk_507, lk_508, lk_509, lk_510, lk_511, lk_512, lk_513, lk_514, lk_515, lk_516, lk_517, lk_518, lk_519, ll_505, ll_506, ll_507, ll_508, ll_509, ll_510, ll_511, ll_512, ll_513, ll_514, ll_515, ll_516, ll_517, ll_518, ll_519, n3, hr]
    cases s with
    | false =>
      rw [Bool.not_false, Bool.true_or, if_pos rfl, n2]
      rw [qb_f] at h58 h74 ⊢
      simp (disch := omega) only [↓qlet, eq_self, qzg_t, qzb_some, ↓reduceIte, not_or, not_false_eq_true, not_true_eq_false, and_true, true_and, and_self, or_false, false_or, true_or, or_true, and_false, false_and, qlit, qneg, qof, qn_add, qn_mul, qn_s, qn_z, qn_d, qn_dz, qm_1, qt_1, qt_0, qb_0, qb_1, qb_01, qb01b, q01_0, q01_1, qo_s, qo_n, qn_c, qn_le, qn_lt, qn_eq, qn_ne_m, qm_ne_n, qm_lt, qm_le, qn_lt_m, qn_le_m, qn_sub, qn_div, qn_mod, qle_t, qle_f, qlt_t, qlt_f, qeq_t, qeq_f, Nat.add_sub_cancel, qU_s, qU_a, qU_k, qn_rem, qL_I, qL_s, lk_505, lk_506, lk_507, lk_508, lk_509, lk_510, lk_511, lk_512, lk_513, lk_514, lk_515, lk_516, lk_517, lk_518, lk_519, ll_505, ll_506, ll_507, ll_508, ll_509, ll_510, ll_511, ll_512, ll_513, ll_514, ll_515, ll_516, ll_517, ll_518, ll_519, hk, h58, h74]
    | true =>
      rw [Bool.not_true, Bool.false_or]
      rw [qb_t] at h58 h74 ⊢
      cases hm : qmany (qgO G e k) with
      | true =>
        rw [if_pos rfl, n2]
        simp (disch := omega) only [↓qlet, eq_self, qzg_t, qzb_some, ↓reduceIte, not_or, not_false_eq_true, not_true_eq_false, and_true, true_and, and_self, or_false, false_or, true_or, or_true, and_false, false_and, qlit, qneg, qof, qn_add, qn_mul, qn_s, qn_z, qn_d, qn_dz, qm_1, qt_1, qt_0, qb_0, qb_1, qb_01, qb01b, q01_0, q01_1, qo_s, qo_n, qn_c, qn_le, qn_lt, qn_eq, qn_ne_m, qm_ne_n, qm_lt, qm_le, qn_lt_m, qn_le_m, qn_sub, qn_div, qn_mod, qle_t, qle_f, qlt_t, qlt_f, qeq_t, qeq_f, Nat.add_sub_cancel, qU_s, qU_a, qU_k, qn_rem, qL_I, qL_s, lk_505, lk_506, lk_507, lk_508, lk_509, lk_510, lk_511, lk_512, lk_513, lk_514, lk_515, lk_516, lk_517, lk_518, lk_519, ll_505, ll_506, ll_507, ll_508, ll_509, ll_510, ll_511, ll_512, ll_513, ll_514, ll_515, ll_516, ll_517, ll_518, ll_519, hk, n3, hd, ho, hm, h58, h74, Bool.true_eq_false]
      | false =>
        rw [if_neg Bool.false_ne_true]
        simp (disch := omega) only [↓qlet, eq_self, qzg_t, qzb_some, ↓reduceIte, not_or, not_false_eq_true, not_true_eq_false, and_true, true_and, and_self, or_false, false_or, true_or, or_true, and_false, false_and, qlit, qneg, qof, qn_add, qn_mul, qn_s, qn_z, qn_d, qn_dz, qm_1, qt_1, qt_0, qb_0, qb_1, qb_01, qb01b, q01_0, q01_1, qo_s, qo_n, qn_c, qn_le, qn_lt, qn_eq, qn_ne_m, qm_ne_n, qm_lt, qm_le, qn_lt_m, qn_le_m, qn_sub, qn_div, qn_mod, qle_t, qle_f, qlt_t, qlt_f, qeq_t, qeq_f, Nat.add_sub_cancel, qU_s, qU_a, qU_k, qn_rem, qL_I, qL_s, lk_505, lk_506, lk_507, lk_508, lk_509, lk_510, lk_511, lk_512, lk_513, lk_514, lk_515, lk_516, lk_517, lk_518, lk_519, ll_505, ll_506, ll_507, ll_508, ll_509, ll_510, ll_511, ll_512, ll_513, ll_514, ll_515, ll_516, ll_517, ll_518, ll_519, hk, n3, hd, ho, hm, h74]
theorem lTw_5 {e : Nat} (hE : qLE G e I) (he : e < 5) : ∀ d r m, r + d = 2 * qgN G e → d < m → fL_twice_5 m 505 (qn (qgN G e)) (qn e) (qo (qLw G e r)) (qn r) (qL w I W) = some (qo (qClash G e), qL w I W) := by
  have h4 := hE.1
  intro d
  induction d with
  | zero =>
    intro r m h1 h2
    obtain ⟨m, rfl⟩ : ∃ q, m = q + 1 := ⟨m - 1, by omega⟩
    have e1 : r = 2 * qgN G e := by omega
    have e2 : qClash G e = qLw G e r := by rw [e1]; rfl
    rw [e2]
    have c : 2 * qgN G e ≤ r := by omega
    unfold fL_twice_5
    simp (disch := omega) only [↓qlet, eq_self, qzg_t, qzb_some, ↓reduceIte, not_or, not_false_eq_true, not_true_eq_false, and_true, true_and, and_self, or_false, false_or, true_or, or_true, and_false, false_and, qlit, qneg, qof, qn_add, qn_mul, qn_s, qn_z, qn_d, qn_dz, qm_1, qt_1, qt_0, qb_0, qb_1, qb_01, qb01b, q01_0, q01_1, qo_s, qo_n, qn_c, qn_le, qn_lt, qn_eq, qn_ne_m, qm_ne_n, qm_lt, qm_le, qn_lt_m, qn_le_m, qn_sub, qn_div, qn_mod, qle_t, qle_f, qlt_t, qlt_f, qeq_t, qeq_f, Nat.add_sub_cancel, qU_s, qU_a, qU_k, qn_rem, qL_I, qL_s, lk_505, lk_506, lk_507, lk_508, lk_509, lk_510, lk_511, lk_512, lk_513, lk_514, lk_515, lk_516, lk_517, lk_518, lk_519, ll_505, ll_506, ll_507, ll_508, ll_509, ll_510, ll_511, ll_512, ll_513, ll_514, ll_515, ll_516, ll_517, ll_518, ll_519, c]
  | succ d ih =>
    intro r m h1 h2
    obtain ⟨m, rfl⟩ : ∃ q, m = q + 1 := ⟨m - 1, by omega⟩
    have c : ¬ 2 * qgN G e ≤ r := by omega
    have ih := ih (r + 1) m (by omega) (by omega)
    have h31 := lTw_31 (w := w) (W := W) (fL_twice_5 m) hE he (qo (qLw G e r)) (qn r) (qgN G e - r / 2) (r / 2) (r % 2 == 1) (qn 0) (qn 0) 10000 (by omega) (by omega)
    rw [← qb_n, q_or0] at h31
    have h125 := lTw_125 (fL_twice_5 m) (qn (qgN G e)) (qn e) (qn r) (qgCl G e (qgN G e - r / 2) (r / 2) (r % 2 == 1) (qn 0)) (fun t => (List.range r).any fun q => qgDb G e t (qgN G e - q / 2) (q / 2) (q % 2 == 1) false) (qL w I W)
    have hp : ((List.range 11).find? fun t => ((List.range r).any fun q => qgDb G e t (qgN G e - q / 2) (q / 2) (q % 2 == 1) false) || qt (qgCl G e (qgN G e - r / 2) (r / 2) (r % 2 == 1) (qn 0)) t) = qLw G e (r + 1) := by
      have key : ∀ (l : List Nat), (∀ t ∈ l, t < 11) → (l.find? fun t => ((List.range r).any fun q => qgDb G e t (qgN G e - q / 2) (q / 2) (q % 2 == 1) false) || qt (qgCl G e (qgN G e - r / 2) (r / 2) (r % 2 == 1) (qn 0)) t) = l.find? fun t => (List.range (r + 1)).any fun q => qgDb G e t (qgN G e - q / 2) (q / 2) (q % 2 == 1) false := by
        intro l
        induction l with
        | nil => intro _; rfl
        | cons t l ih =>
          intro hm
          have ht := hm t (by simp)
          rw [List.find?_cons, List.find?_cons, ih fun y hy => hm y (by simp [hy]), qCl_t G e (by omega), qt_z (by omega), List.range_succ, List.any_append]
          simp
      exact key _ fun t ht => by simpa using ht
    rw [hp] at h125
    have h125 : fL_twice_125 (fL_twice_5 m) 505 (qn (qgN G e)) (qn e) (qo (qLw G e r)) (qn r) (qgCl G e (qgN G e - r / 2) (r / 2) (r % 2 == 1) (qn 0)) (qL w I W) = _ := h125
    rw [h125] at h31
    unfold fL_twice_168 at h31
    unfold fL_twice_5
    generalize fL_twice_31 (fL_twice_5 m) 10000 = F at h31 ⊢
    simp (disch := omega) only [↓qlet, eq_self, qzg_t, qzb_some, ↓reduceIte, not_or, not_false_eq_true, not_true_eq_false, and_true, true_and, and_self, or_false, false_or, true_or, or_true, and_false, false_and, qlit, qneg, qof, qn_add, qn_mul, qn_s, qn_z, qn_d, qn_dz, qm_1, qt_1, qt_0, qb_0, qb_1, qb_01, qb01b, q01_0, q01_1, qo_s, qo_n, qn_c, qn_le, qn_lt, qn_eq, qn_ne_m, qm_ne_n, qm_lt, qm_le, qn_lt_m, qn_le_m, qn_sub, qn_div, qn_mod, qle_t, qle_f, qlt_t, qlt_f, qeq_t, qeq_f, Nat.add_sub_cancel, qU_s, qU_a, qU_k, qn_rem, qL_I, qL_s, lk_505, lk_506, lk_507, lk_508, lk_509, lk_510, lk_511, lk_512, lk_513, lk_514, lk_515, lk_516, lk_517, lk_518, lk_519, ll_505, ll_506, ll_507, ll_508, ll_509, ll_510, ll_511, ll_512, ll_513, ll_514, ll_515, ll_516, ll_517, ll_518, ll_519, c] at h31 ⊢
    rw [h31, ih]
theorem lTwice {e : Nat} (hE : qLE G e I) (he : e < 5) : fL_twice 505 (qn (qgN G e)) (qn e) (qL w I W) = some (qo (qClash G e), qL w I W) := by
  have h4 := hE.1
  have h0 : qLw G e 0 = none := by
    unfold qLw
    rw [List.find?_eq_none]
    intro t _
    simp
  have h := lTw_5 (w := w) (W := W) hE he (2 * qgN G e) 0 10000 (by omega) (by omega)
  rw [h0, qo_n] at h
  exact h
end
