/-! THE LAW: it changes the grammar -/
section
variable {w : Bool} {I : Nat → Nat → Int32} {W : Nat → Nat → Nat} {A : qA}
/-- what a change of the grammar leaves -/
def qGr (w : Bool) (I : Nat → Nat → Int32) (W : Nat → Nat → Nat) (A : qA) (x : Option (Int32 × zM)) : Prop := ∃ w2 J A', x = some (qn 1, qL w2 J W) ∧ qCA w2 J A' ∧ qLI J A' ∧ A'.2.2.2.1 = A.2.2.2.1 ∧ ∀ a, 510 ≤ a → J a = I a
theorem lGr_31 (hA : qCA w I A) (hL : qLI I A) {e v : Nat} (he : e < 5) (hv : v = 0 ∨ v = qgN A.1 e) : qGr w I W A (fL_isGrammar_31 1 506 (qn e) 506 (qn e) (qn v) (qL w I W)) := by
  obtain ⟨g1, g2, g3, g4⟩ := hL.1 e he
  have g1 : I 506 e = qn (qgN A.1 e) := g1
  have hn0 : ∀ n, n < 100 → (qn n < qn 0) = False := fun n h => by
    rw [qn_lt (by omega) (by omega)]
    exact eq_false (Nat.not_lt_zero n)
  by_cases c : v = 0
  · subst c
    obtain ⟨w2, J, c1, c2⟩ := cEmpty (w := w) (I := qU I 506 e (qn 0)) (qCA_U hA (by omega) e (qn 0)) (qn e)
    have hq : qoEmpty A (qn e) = (0, qn (qgN A.1 e), qNew (qgNil A.1 e, A.2)) := by
      unfold qoEmpty
      rw [qin_of (by omega) (show e < 10 by omega)]
    rw [hq] at c1 c2
    dsimp only at c1 c2
    have hlt := hn0 (qgN A.1 e) (by omega)
    refine ⟨w2, qJn J (qU I 506 e (qn 0)), _, ?_, qCA_J c2, ⟨?_, ?_⟩, rfl, fun a ha => by rw [qJn_r (by omega), qU_r (by omega)]⟩
    · unfold fL_isGrammar_31 fL_isGrammar_48
      simp (disch := omega) only [↓qlet, eq_self, qzg_t, qzb_some, ↓reduceIte, not_or, not_false_eq_true, not_true_eq_false, and_true, true_and, and_self, or_false, false_or, true_or, or_true, and_false, false_and, qlit, qneg, qof, qn_add, qn_mul, qn_s, qn_z, qn_d, qn_dz, qm_1, qt_1, qt_0, qb_0, qb_1, qb_01, qb01b, q01_0, q01_1, qo_s, qo_n, qn_c, qn_le, qn_lt, qn_eq, qn_ne_m, qm_ne_n, qm_lt, qm_le, qn_lt_m, qn_le_m, qn_sub, qn_div, qn_mod, qle_t, qle_f, qlt_t, qlt_f, qeq_t, qeq_f, Nat.add_sub_cancel, qU_s, qU_a, qU_k, qn_rem, qL_I, qL_s, lk_505, lk_506, lk_507, lk_508, lk_509, lk_510, lk_511, lk_512, lk_513, lk_514, lk_515, lk_516, lk_517, lk_518, lk_519, ll_505, ll_506, ll_507, ll_508, ll_509, ll_510, ll_511, ll_512, ll_513, ll_514, ll_515, ll_516, ll_517, ll_518, ll_519, lcut, zbc_0, zbd_0, lCel, lk_1, qJn_r, Nat.le_refl, c1, hlt]
    · have r5 : ∀ a, 504 < a → a ≠ 506 → qJn J (qU I 506 e (qn 0)) a = I a := fun a h1 h2 => by rw [qJn_r h1, qU_r h2]
      have r6 : qJn J (qU I 506 e (qn 0)) 506 = qU I 506 e (qn 0) 506 := qJn_r (by omega)
      refine qLG_set (e := e) hL.1 (fun y hy => ⟨if_neg hy, fun k => ⟨rfl, rfl⟩, rfl, rfl, rfl, rfl⟩) (fun y k _ _ => by rw [r5 _ (by omega) (by omega)]) (fun y hy => by rw [r6, qU_k hy]) (fun y _ => by rw [r5 _ (by omega) (by omega)]) (fun _ => ?_)
      have en : qgN (qgNil A.1 e) e = 0 := if_pos rfl
      refine ⟨?_, ?_, fun k hk => ?_, ?_⟩
      · show qJn J (qU I 506 e (qn 0)) 506 e = qn (qgN (qgNil A.1 e) e)
        rw [r6, qU_s, en]
      · show qgN (qgNil A.1 e) e ≤ 4
        rw [en]; omega
      · have hk : k < qgN (qgNil A.1 e) e := hk
        rw [en] at hk; omega
      · rw [r5 507 (by omega) (by omega)]
        exact g4
    · exact qLX_fr hL.2 (by rw [qJn_r (by omega), qU_r (by omega)]) (by rw [qJn_r (by omega), qU_r (by omega)])
  · have c2 : v = qgN A.1 e := by omega
    have e0 : qU I 506 e (qn v) = I := by
      funext a k
      unfold qU
      by_cases h : a = 506 ∧ k = e
      · rw [if_pos h, h.1, h.2, g1, c2]
      · rw [if_neg h]
    refine ⟨w, I, A, ?_, hA, hL, rfl, fun a _ => rfl⟩
    have c3 : 0 < v := by omega
    have c4 : 0 < qgN A.1 e := by omega
    unfold fL_isGrammar_31 fL_isGrammar_48
    simp (disch := omega) only [↓qlet, eq_self, qzg_t, qzb_some, ↓reduceIte, not_or, not_false_eq_true, not_true_eq_false, and_true, true_and, and_self, or_false, false_or, true_or, or_true, and_false, false_and, qlit, qneg, qof, qn_add, qn_mul, qn_s, qn_z, qn_d, qn_dz, qm_1, qt_1, qt_0, qb_0, qb_1, qb_01, qb01b, q01_0, q01_1, qo_s, qo_n, qn_c, qn_le, qn_lt, qn_eq, qn_ne_m, qm_ne_n, qm_lt, qm_le, qn_lt_m, qn_le_m, qn_sub, qn_div, qn_mod, qle_t, qle_f, qlt_t, qlt_f, qeq_t, qeq_f, Nat.add_sub_cancel, qU_s, qU_a, qU_k, qn_rem, qL_I, qL_s, lk_505, lk_506, lk_507, lk_508, lk_509, lk_510, lk_511, lk_512, lk_513, lk_514, lk_515, lk_516, lk_517, lk_518, lk_519, ll_505, ll_506, ll_507, ll_508, ll_509, ll_510, ll_511, ll_512, ll_513, ll_514, ll_515, ll_516, ll_517, ll_518, ll_519, e0, g1, c3, c4]
theorem lGr_0 (hA : qCA w I A) (hL : qLI I A) {u : Nat} (hu : u < 100000000) : qGr w I W A (fL_isGrammar 1 505 506 507 (qn 0) (qn u) (qL w I W)) := by
  have he : u % 5 < 5 := Nat.mod_lt _ (by decide)
  have g1 : I 506 (u % 5) = qn (qgN A.1 (u % 5)) := (hL.1 _ he).1
  have h0 := lGr_31 (w := w) (W := W) hA hL he (Or.inl rfl)
  have h1 := lGr_31 (w := w) (W := W) hA hL he (Or.inr rfl)
  unfold fL_isGrammar
  generalize fL_isGrammar_31 = F at h0 h1 ⊢
  by_cases c : u / 5 % 3 ≤ 0
  · simp (disch := omega) only [↓qlet, eq_self, qzg_t, qzb_some, ↓reduceIte, not_or, not_false_eq_true, not_true_eq_false, and_true, true_and, and_self, or_false, false_or, true_or, or_true, and_false, false_and, qlit, qneg, qof, qn_add, qn_mul, qn_s, qn_z, qn_d, qn_dz, qm_1, qt_1, qt_0, qb_0, qb_1, qb_01, qb01b, q01_0, q01_1, qo_s, qo_n, qn_c, qn_le, qn_lt, qn_eq, qn_ne_m, qm_ne_n, qm_lt, qm_le, qn_lt_m, qn_le_m, qn_sub, qn_div, qn_mod, qle_t, qle_f, qlt_t, qlt_f, qeq_t, qeq_f, Nat.add_sub_cancel, qU_s, qU_a, qU_k, qn_rem, qL_I, qL_s, lk_505, lk_506, lk_507, lk_508, lk_509, lk_510, lk_511, lk_512, lk_513, lk_514, lk_515, lk_516, lk_517, lk_518, lk_519, ll_505, ll_506, ll_507, ll_508, ll_509, ll_510, ll_511, ll_512, ll_513, ll_514, ll_515, ll_516, ll_517, ll_518, ll_519, c]
    exact h0
  · simp (disch := omega) only [↓qlet, eq_self, qzg_t, qzb_some, ↓reduceIte, not_or, not_false_eq_true, not_true_eq_false, and_true, true_and, and_self, or_false, false_or, true_or, or_true, and_false, false_and, qlit, qneg, qof, qn_add, qn_mul, qn_s, qn_z, qn_d, qn_dz, qm_1, qt_1, qt_0, qb_0, qb_1, qb_01, qb01b, q01_0, q01_1, qo_s, qo_n, qn_c, qn_le, qn_lt, qn_eq, qn_ne_m, qm_ne_n, qm_lt, qm_le, qn_lt_m, qn_le_m, qn_sub, qn_div, qn_mod, qle_t, qle_f, qlt_t, qlt_f, qeq_t, qeq_f, Nat.add_sub_cancel, qU_s, qU_a, qU_k, qn_rem, qL_I, qL_s, lk_505, lk_506, lk_507, lk_508, lk_509, lk_510, lk_511, lk_512, lk_513, lk_514, lk_515, lk_516, lk_517, lk_518, lk_519, ll_505, ll_506, ll_507, ll_508, ll_509, ll_510, ll_511, ll_512, ll_513, ll_514, ll_515, ll_516, ll_517, ll_518, ll_519, c, g1]
    exact h1
theorem lGr_119 (hA : qCA w I A) (hL : qLI I A) {e : Nat} (he : e < 5) (b c : Bool) {j k : Nat} (hj : j < 5) (hk : k < 5) : qGr w I W A (fL_isGrammar_119 1 507 (qn e) 507 (qn e) ((I 507 e &&& qn 3145728) ||| qpi b j) (qpj c k) (qL w I W)) := by
  obtain ⟨g1, g2, g3, i, x, i1, i2, i3, i4, i5⟩ := hL.1 e he
  have hz := qAB4 (qgA A.1 e) (qgB A.1 e)
  generalize hzz : ((if qgA A.1 e = true then 1 else 0) + 2 * (if qgB A.1 e = true then 1 else 0) : Nat) = z at hz i5
  obtain ⟨o1, o2, o3⟩ := qpOr z hz b j hj c k hk
  have l1 := qpw_lt b j hj
  have l2 := qpw_lt c k hk
  have hval : (I 507 e &&& qn 3145728) ||| qpi b j ||| qpj c k = qn (qpw b j + 1024 * (qpw c k + 1024 * z)) := by rw [i5, qX20 i1 i2 hz, o1]
  obtain ⟨I1, hI1⟩ : ∃ I1, I1 = qU I 507 e (qn (qpw b j + 1024 * (qpw c k + 1024 * z))) := ⟨_, rfl⟩
  obtain ⟨w2, J, c1, c2⟩ := cExcept (w := w) (I := I1) (by rw [hI1]; exact qCA_U hA (by omega) _ _) (qn e) (qn (qpw b j)) (qn (qpw c k))
  have hq : qoExcept A (qn e) (qn (qpw b j)) (qn (qpw c k)) = (0, qn 0, qNew (qgExc A.1 e (qn (qpw b j)) (qn (qpw c k)), A.2)) := by
    unfold qoExcept
    rw [qin_of (by omega) (show e < 10 by omega)]
    dsimp only
    rw [qin_of (by omega) l1, qin_of (by omega) l2]
  rw [hq] at c1 c2
  dsimp only at c1 c2
  have r0 : ∀ a, 504 < a → a ≠ 507 → qJn J I1 a = I a := fun a h1 h2 => by rw [qJn_r h1, hI1, qU_r h2]
  have r7 : qJn J I1 507 = qU I 507 e (qn (qpw b j + 1024 * (qpw c k + 1024 * z))) 507 := by rw [qJn_r (by omega), hI1]
  refine ⟨w2, qJn J I1, _, ?_, qCA_J c2, ⟨?_, ?_⟩, rfl, fun a ha => r0 a (by omega) (by omega)⟩
  · have r8 : I1 507 e = qn (qpw b j + 1024 * (qpw c k + 1024 * z)) := by rw [hI1, qU_s]
    unfold fL_isGrammar_119
    rw [hval]
    simp (disch := omega) only [↓qlet, eq_self, qzg_t, qzb_some, ↓reduceIte, not_or, not_false_eq_true, not_true_eq_false, and_true, true_and, and_self, or_false, false_or, true_or, or_true, and_false, false_and, qlit, qneg, qof, qn_add, qn_mul, qn_s, qn_z, qn_d, qn_dz, qm_1, qt_1, qt_0, qb_0, qb_1, qb_01, qb01b, q01_0, q01_1, qo_s, qo_n, qn_c, qn_le, qn_lt, qn_eq, qn_ne_m, qm_ne_n, qm_lt, qm_le, qn_lt_m, qn_le_m, qn_sub, qn_div, qn_mod, qle_t, qle_f, qlt_t, qlt_f, qeq_t, qeq_f, Nat.add_sub_cancel, qU_s, qU_a, qU_k, qn_rem, qL_I, qL_s, lk_505, lk_506, lk_507, lk_508, lk_509, lk_510, lk_511, lk_512, lk_513, lk_514, lk_515, lk_516, lk_517, lk_518, lk_519, ll_505, ll_506, ll_507, ll_508, ll_509, ll_510, ll_511, ll_512, ll_513, ll_514, ll_515, ll_516, ll_517, ll_518, ll_519, lcut, zbc_0, zbd_0, lCel, lk_1, qJn_r, ← hI1, r8, o2, o3, Nat.le_refl, c1]
  · refine qLG_set (e := e) hL.1 (fun y hy => ⟨rfl, fun k => ⟨rfl, rfl⟩, if_neg hy, if_neg hy, rfl, rfl⟩) (fun y k _ _ => by rw [r0 _ (by omega) (by omega)]) (fun y hy => by rw [r0 _ (by omega) (by omega)]) (fun y hy => by rw [r7, qU_k hy]) (fun _ => ?_)
    refine ⟨by rw [r0 _ (by omega) (by omega)]; exact g1, g2, fun k hk => by rw [r0 _ (by omega) (by omega)]; exact g3 k hk, qpw b j, qpw c k, l1, l2, if_pos rfl, if_pos rfl, ?_⟩
    rw [r7, qU_s, ← hzz]
    rfl
  · exact qLX_fr hL.2 (r0 _ (by omega) (by omega)) (r0 _ (by omega) (by omega))
theorem lGr_1 (hA : qCA w I A) (hL : qLI I A) {u : Nat} (hu : u < 100000000) : qGr w I W A (fL_isGrammar 1 505 506 507 (qn 1) (qn u) (qL w I W)) := by
  have he : u % 5 < 5 := Nat.mod_lt _ (by decide)
  have h := fun b c => lGr_119 (w := w) (W := W) hA hL he b c (show u / 15 % 5 < 5 from Nat.mod_lt _ (by decide)) (show u / 225 % 5 < 5 from Nat.mod_lt _ (by decide))
  unfold fL_isGrammar fL_isGrammar_92
  generalize fL_isGrammar_119 = F at h ⊢
  have h00 := h false false
  have h01 := h false true
  have h10 := h true false
  have h11 := h true true
  simp only [qpi, qpj, if_true, Bool.false_eq_true, if_false] at h00 h01 h10 h11
  by_cases c1 : u / 5 % 3 = 0
  · by_cases c2 : u / 75 % 3 = 0
    · simp (disch := omega) only [↓qlet, eq_self, qzg_t, qzb_some, ↓reduceIte, not_or, not_false_eq_true, not_true_eq_false, and_true, true_and, and_self, or_false, false_or, true_or, or_true, and_false, false_and, qlit, qneg, qof, qn_add, qn_mul, qn_s, qn_z, qn_d, qn_dz, qm_1, qt_1, qt_0, qb_0, qb_1, qb_01, qb01b, q01_0, q01_1, qo_s, qo_n, qn_c, qn_le, qn_lt, qn_eq, qn_ne_m, qm_ne_n, qm_lt, qm_le, qn_lt_m, qn_le_m, qn_sub, qn_div, qn_mod, qle_t, qle_f, qlt_t, qlt_f, qeq_t, qeq_f, Nat.add_sub_cancel, qU_s, qU_a, qU_k, qn_rem, qL_I, qL_s, lk_505, lk_506, lk_507, lk_508, lk_509, lk_510, lk_511, lk_512, lk_513, lk_514, lk_515, lk_516, lk_517, lk_518, lk_519, ll_505, ll_506, ll_507, ll_508, ll_509, ll_510, ll_511, ll_512, ll_513, ll_514, ll_515, ll_516, ll_517, ll_518, ll_519, c1, c2]
      exact h11
    · simp (disch := omega) only [↓qlet, eq_self, qzg_t, qzb_some, ↓reduceIte, not_or, not_false_eq_true, not_true_eq_false, and_true, true_and, and_self, or_false, false_or, true_or, or_true, and_false, false_and, qlit, qneg, qof, qn_add, qn_mul, qn_s, qn_z, qn_d, qn_dz, qm_1, qt_1, qt_0, qb_0, qb_1, qb_01, qb01b, q01_0, q01_1, qo_s, qo_n, qn_c, qn_le, qn_lt, qn_eq, qn_ne_m, qm_ne_n, qm_lt, qm_le, qn_lt_m, qn_le_m, qn_sub, qn_div, qn_mod, qle_t, qle_f, qlt_t, qlt_f, qeq_t, qeq_f, Nat.add_sub_cancel, qU_s, qU_a, qU_k, qn_rem, qL_I, qL_s, lk_505, lk_506, lk_507, lk_508, lk_509, lk_510, lk_511, lk_512, lk_513, lk_514, lk_515, lk_516, lk_517, lk_518, lk_519, ll_505, ll_506, ll_507, ll_508, ll_509, ll_510, ll_511, ll_512, ll_513, ll_514, ll_515, ll_516, ll_517, ll_518, ll_519, c1, c2]
      exact h10
  · by_cases c2 : u / 75 % 3 = 0
    · simp (disch := omega) only [↓qlet, eq_self, qzg_t, qzb_some, ↓reduceIte, not_or, not_false_eq_true, not_true_eq_false, and_true, true_and, and_self, or_false, false_or, true_or, or_true, and_false, false_and, qlit, qneg, qof, qn_add, qn_mul, qn_s, qn_z, qn_d, qn_dz, qm_1, qt_1, qt_0, qb_0, qb_1, qb_01, qb01b, q01_0, q01_1, qo_s, qo_n, qn_c, qn_le, qn_lt, qn_eq, qn_ne_m, qm_ne_n, qm_lt, qm_le, qn_lt_m, qn_le_m, qn_sub, qn_div, qn_mod, qle_t, qle_f, qlt_t, qlt_f, qeq_t, qeq_f, Nat.add_sub_cancel, qU_s, qU_a, qU_k, qn_rem, qL_I, qL_s, lk_505, lk_506, lk_507, lk_508, lk_509, lk_510, lk_511, lk_512, lk_513, lk_514, lk_515, lk_516, lk_517, lk_518, lk_519, ll_505, ll_506, ll_507, ll_508, ll_509, ll_510, ll_511, ll_512, ll_513, ll_514, ll_515, ll_516, ll_517, ll_518, ll_519, c1, c2]
      exact h01
    · simp (disch := omega) only [↓qlet, eq_self, qzg_t, qzb_some, ↓reduceIte, not_or, not_false_eq_true, not_true_eq_false, and_true, true_and, and_self, or_false, false_or, true_or, or_true, and_false, false_and, qlit, qneg, qof, qn_add, qn_mul, qn_s, qn_z, qn_d, qn_dz, qm_1, qt_1, qt_0, qb_0, qb_1, qb_01, qb01b, q01_0, q01_1, qo_s, qo_n, qn_c, qn_le, qn_lt, qn_eq, qn_ne_m, qm_ne_n, qm_lt, qm_le, qn_lt_m, qn_le_m, qn_sub, qn_div, qn_mod, qle_t, qle_f, qlt_t, qlt_f, qeq_t, qeq_f, Nat.add_sub_cancel, qU_s, qU_a, qU_k, qn_rem, qL_I, qL_s, lk_505, lk_506, lk_507, lk_508, lk_509, lk_510, lk_511, lk_512, lk_513, lk_514, lk_515, lk_516, lk_517, lk_518, lk_519, ll_505, ll_506, ll_507, ll_508, ll_509, ll_510, ll_511, ll_512, ll_513, ll_514, ll_515, ll_516, ll_517, ll_518, ll_519, c1, c2]
      exact h00
theorem lGr_2 (hA : qCA w I A) (hL : qLI I A) {u : Nat} (hu : u < 100000000) : qGr w I W A (fL_isGrammar 1 505 506 507 (qn 2) (qn u) (qL w I W)) := by
  have he : u % 5 < 5 := Nat.mod_lt _ (by decide)
  obtain ⟨g1, g2, g3, i, x, i1, i2, i3, i4, i5⟩ := hL.1 _ he
  have hz := qAB4 (qgA A.1 (u % 5)) (qgB A.1 (u % 5))
  generalize ((if qgA A.1 (u % 5) = true then 1 else 0) + 2 * (if qgB A.1 (u % 5) = true then 1 else 0) : Nat) = z at hz i5
  have hs : u / 5 % 4 < 4 := Nat.mod_lt _ (by decide)
  have hm : (i + 1024 * (x + 1024 * z)) % 2 ^ 20 = i + 1024 * x := by
    have : (2 : Nat) ^ 20 = 1048576 := by decide
    omega
  have hval : (I 507 (u % 5) &&& qn 1048575) ||| (qn (u / 5 % 4) <<< (qn 20 &&& qn 31)) = qn (i + 1024 * (x + 1024 * (u / 5 % 4))) := by
    have e1 := qAndM (n := i + 1024 * (x + 1024 * z)) (k := 20) (by omega) (by omega)
    rw [hm] at e1
    have e1 : qn (i + 1024 * (x + 1024 * z)) &&& qn 1048575 = qn (i + 1024 * x) := e1
    rw [i5, e1, qSh20 _ hs, qOrA (k := 20) (by show _ < 1048576; omega) (by show 1048576 * _ + _ < _; omega)]
    congr 1
    show i + 1024 * x + 1048576 * (u / 5 % 4) = _
    omega
  obtain ⟨I1, hI1⟩ : ∃ I1, I1 = qU I 507 (u % 5) (qn (i + 1024 * (x + 1024 * (u / 5 % 4)))) := ⟨_, rfl⟩
  obtain ⟨a, ha⟩ : ∃ a : Bool, a = (u / 5 % 2 == 1) := ⟨_, rfl⟩
  obtain ⟨b, hb⟩ : ∃ b : Bool, b = (u / 10 % 2 == 1) := ⟨_, rfl⟩
  obtain ⟨w2, J, c1, c2⟩ := cOmit (w := w) (I := I1) (by rw [hI1]; exact qCA_U hA (by omega) _ _) (qn (u % 5)) a b
  have hq : qoOmit A (qn (u % 5)) a b = (0, qn 0, qNew (qgOmit A.1 (u % 5) a b, A.2)) := by
    unfold qoOmit
    rw [qin_of (by omega) (show u % 5 < 10 by omega)]
  rw [hq] at c1 c2
  dsimp only at c1 c2
  have r0 : ∀ a, 504 < a → a ≠ 507 → qJn J I1 a = I a := fun a h1 h2 => by rw [qJn_r h1, hI1, qU_r h2]
  have r7 : qJn J I1 507 = qU I 507 (u % 5) (qn (i + 1024 * (x + 1024 * (u / 5 % 4)))) 507 := by rw [qJn_r (by omega), hI1]
  have hab : (if a = true then 1 else 0) + 2 * (if b = true then 1 else 0) = u / 5 % 4 := by
    rw [ha, hb]
    rcases Nat.mod_two_eq_zero_or_one (u / 5) with h1 | h1 <;> rcases Nat.mod_two_eq_zero_or_one (u / 10) with h2 | h2 <;> simp [h1, h2] <;> omega
  refine ⟨w2, qJn J I1, _, ?_, qCA_J c2, ⟨?_, ?_⟩, rfl, fun a ha => r0 a (by omega) (by omega)⟩
  · unfold fL_isGrammar fL_isGrammar_193 fL_isGrammar_209
    cases a with
    | true =>
      have h1 : u / 5 % 2 = 1 := by simpa using ha.symm
      cases b with
      | true =>
        have h2 : u / 10 % 2 = 1 := by simpa using hb.symm
        rw [qb_t] at c1
        simp (disch := omega) only [↓qlet, eq_self, qzg_t, qzb_some, ↓reduceIte, not_or, not_false_eq_true, not_true_eq_false, and_true, true_and, and_self, or_false, false_or, true_or, or_true, and_false, false_and, qlit, qneg, qof, qn_add, qn_mul, qn_s, qn_z, qn_d, qn_dz, qm_1, qt_1, qt_0, qb_0, qb_1, qb_01, qb01b, q01_0, q01_1, qo_s, qo_n, qn_c, qn_le, qn_lt, qn_eq, qn_ne_m, qm_ne_n, qm_lt, qm_le, qn_lt_m, qn_le_m, qn_sub, qn_div, qn_mod, qle_t, qle_f, qlt_t, qlt_f, qeq_t, qeq_f, Nat.add_sub_cancel, qU_s, qU_a, qU_k, qn_rem, qL_I, qL_s, lk_505, lk_506, lk_507, lk_508, lk_509, lk_510, lk_511, lk_512, lk_513, lk_514, lk_515, lk_516, lk_517, lk_518, lk_519, ll_505, ll_506, ll_507, ll_508, ll_509, ll_510, ll_511, ll_512, ll_513, ll_514, ll_515, ll_516, ll_517, ll_518, ll_519, lcut, zbc_0, zbd_0, lCel, lk_1, qJn_r, hval, ← hI1, h1, h2, Nat.le_refl, c1]
      | false =>
        have h2 : ¬ u / 10 % 2 = 1 := by simpa using hb.symm
        rw [qb_t, qb_f] at c1
        simp (disch := omega) only [↓qlet, eq_self, qzg_t, qzb_some, ↓reduceIte, not_or, not_false_eq_true, not_true_eq_false, and_true, true_and, and_self, or_false, false_or, true_or, or_true, and_false, false_and, qlit, qneg, qof, qn_add, qn_mul, qn_s, qn_z, qn_d, qn_dz, qm_1, qt_1, qt_0, qb_0, qb_1, qb_01, qb01b, q01_0, q01_1, qo_s, qo_n, qn_c, qn_le, qn_lt, qn_eq, qn_ne_m, qm_ne_n, qm_lt, qm_le, qn_lt_m, qn_le_m, qn_sub, qn_div, qn_mod, qle_t, qle_f, qlt_t, qlt_f, qeq_t, qeq_f, Nat.add_sub_cancel, qU_s, qU_a, qU_k, qn_rem, qL_I, qL_s, lk_505, lk_506, lk_507, lk_508, lk_509, lk_510, lk_511, lk_512, lk_513, lk_514, lk_515, lk_516, lk_517, lk_518, lk_519, ll_505, ll_506, ll_507, ll_508, ll_509, ll_510, ll_511, ll_512, ll_513, ll_514, ll_515, ll_516, ll_517, ll_518, ll_519, lcut, zbc_0, zbd_0, lCel, lk_1, qJn_r, hval, ← hI1, h1, h2, Nat.le_refl, c1]
    | false =>
      have h1 : ¬ u / 5 % 2 = 1 := by simpa using ha.symm
      cases b with
      | true =>
        have h2 : u / 10 % 2 = 1 := by simpa using hb.symm
        rw [qb_t, qb_f] at c1
        simp (disch := omega) only [↓qlet, eq_self, qzg_t, qzb_some, ↓reduceIte, not_or, not_false_eq_true, not_true_eq_false, and_true, true_and, and_self, or_false, false_or, true_or, or_true, and_false, false_and, qlit, qneg, qof, qn_add, qn_mul, qn_s, qn_z, qn_d, qn_dz, qm_1, qt_1, qt_0, qb_0, qb_1, qb_01, qb01b, q01_0, q01_1, qo_s, qo_n, qn_c, qn_le, qn_lt, qn_eq, qn_ne_m, qm_ne_n, qm_lt, qm_le, qn_lt_m, qn_le_m, qn_sub, qn_div, qn_mod, qle_t, qle_f, qlt_t, qlt_f, qeq_t, qeq_f, Nat.add_sub_cancel, qU_s, qU_a, qU_k, qn_rem, qL_I, qL_s, lk_505, lk_506, lk_507, lk_508, lk_509, lk_510, lk_511, lk_512, lk_513, lk_514, lk_515, lk_516, lk_517, lk_518, lk_519, ll_505, ll_506, ll_507, ll_508, ll_509, ll_510, ll_511, ll_512, ll_513, ll_514, ll_515, ll_516, ll_517, ll_518, ll_519, lcut, zbc_0, zbd_0, lCel, lk_1, qJn_r, hval, ← hI1, h1, h2, Nat.le_refl, c1]
      | false =>
        have h2 : ¬ u / 10 % 2 = 1 := by simpa using hb.symm
        rw [qb_f] at c1
        simp (disch := omega) only [↓qlet, eq_self, qzg_t, qzb_some, ↓reduceIte, not_or, not_false_eq_true, not_true_eq_false, and_true, true_and, and_self, or_false, false_or, true_or, or_true, and_false, false_and, qlit, qneg, qof, qn_add, qn_mul, qn_s, qn_z, qn_d, qn_dz, qm_1, qt_1, qt_0, qb_0, qb_1, qb_01, qb01b, q01_0, q01_1, qo_s, qo_n, qn_c, qn_le, qn_lt, qn_eq, qn_ne_m, qm_ne_n, qm_lt, qm_le, qn_lt_m, qn_le_m, qn_sub, qn_div, qn_mod, qle_t, qle_f, qlt_t, qlt_f, qeq_t, qeq_f, Nat.add_sub_cancel, qU_s, qU_a, qU_k, qn_rem, qL_I, qL_s, lk_505, lk_506, lk_507, lk_508, lk_509, lk_510, lk_511, lk_512, lk_513, lk_514, lk_515, lk_516, lk_517, lk_518, lk_519, ll_505, ll_506, ll_507, ll_508, ll_509, ll_510, ll_511, ll_512, ll_513, ll_514, ll_515, ll_516, ll_517, ll_518, ll_519, lcut, zbc_0, zbd_0, lCel, lk_1, qJn_r, hval, ← hI1, h1, h2, Nat.le_refl, c1]
  · refine qLG_set (e := u % 5) hL.1 (fun y hy => ⟨rfl, fun k => ⟨rfl, rfl⟩, rfl, rfl, if_neg hy, if_neg hy⟩) (fun y k _ _ => by rw [r0 _ (by omega) (by omega)]) (fun y hy => by rw [r0 _ (by omega) (by omega)]) (fun y hy => by rw [r7, qU_k hy]) (fun _ => ?_)
    refine ⟨by rw [r0 _ (by omega) (by omega)]; exact g1, g2, fun k hk => by rw [r0 _ (by omega) (by omega)]; exact g3 k hk, i, x, i1, i2, i3, i4, ?_⟩
    have eA : qgA (qNew (qgOmit A.1 (u % 5) a b, A.2)).1 (u % 5) = a := if_pos rfl
    have eB : qgB (qNew (qgOmit A.1 (u % 5) a b, A.2)).1 (u % 5) = b := if_pos rfl
    rw [eA, eB, hab, r7, qU_s]
  · exact qLX_fr hL.2 (r0 _ (by omega) (by omega)) (r0 _ (by omega) (by omega))
/-- a slot -/
theorem lGr_308 (hA : qCA w I A) (hL : qLI I A) {e s o : Nat} (he : e < 5) (hs : s < 32) (h : Bool) (hh : s = 0 → h = true) {u : Nat} (hu : u < 100000000) (ho : u / 1500 % 4 = o) (hn : qgN A.1 e < 4) : qGr w I W A (fL_isGrammar_308 1 505 506 (qn u) (qn e) (qn s) (qb h) 505 (qn 4 * qn e + I 506 e) (qn s) (if h = true then qn 1024 else qn 0) (qL w I W)) := by
  obtain ⟨g1, g2, g3, g4⟩ := hL.1 e he
  have g1 : I 506 e = qn (qgN A.1 e) := g1
  have ho4 : o < 4 := by omega
  obtain ⟨s1, s2, s3⟩ := qSet32 s hs
  obtain ⟨st, hst⟩ : ∃ st, st = s + (if h = true then 1024 else 0) := ⟨_, rfl⟩
  have hor : qn s ||| (if h = true then qn 1024 else qn 0) = qn st := by
    rw [hst]
    cases h with
    | true => exact s1
    | false => exact s2
  have hstl : st < 2048 := by rw [hst]; cases h <;> simp <;> omega
  have hadd : qn s + (if h = true then qn 1024 else qn 0) = qn st := by
    rw [hst]
    cases h with
    | true => exact qn_add _ _
    | false => exact qn_add _ _
  obtain ⟨G', hG'⟩ : ∃ G', G' = qgAdd A.1 e (qn st) o := ⟨_, rfl⟩
  obtain ⟨I1, hI1⟩ : ∃ I1, I1 = qU I 505 (4 * e + qgN A.1 e) (qn (st + 2048 * o)) := ⟨_, rfl⟩
  have eN : qgN G' e = qgN A.1 e + 1 := by rw [hG']; exact if_pos rfl
  have eS : ∀ k, qgS G' e k = if k = qgN A.1 e then qn st else qgS A.1 e k := fun k => by
    rw [hG']
    show (if e = e ∧ k = qgN A.1 e then _ else _) = _
    by_cases c : k = qgN A.1 e
    · rw [if_pos ⟨rfl, c⟩, if_pos c]
    · rw [if_neg (fun h => c h.2), if_neg c]
  have eO : ∀ k, qgO G' e k = if k = qgN A.1 e then o else qgO A.1 e k := fun k => by
    rw [hG']
    show (if e = e ∧ k = qgN A.1 e then _ else _) = _
    by_cases c : k = qgN A.1 e
    · rw [if_pos ⟨rfl, c⟩, if_pos c]
    · rw [if_neg (fun h => c h.2), if_neg c]
  have hslots : ∀ k, k < qgN A.1 e + 1 → ∃ n, n < 2048 ∧ qgS G' e k = qn n ∧ I1 505 (4 * e + k) = qn (n + 2048 * qgO G' e k) ∧ qgO G' e k ≤ 3 ∧ ∀ t, 5 ≤ t → t < 10 → qt (qn n) t = false := by
    intro k hk
    rw [eS, eO, hI1]
    by_cases c : k = qgN A.1 e
    · subst c
      rw [if_pos rfl, if_pos rfl]
      refine ⟨st, hstl, rfl, qU_s _ _ _ _, by omega, fun t h5 h10 => ?_⟩
      rw [hst]
      cases h with
      | true => exact (s3 t h10 h5).2
      | false => exact (s3 t h10 h5).1
    · rw [if_neg c, if_neg c, qU_k (by omega)]
      exact g3 k (by show k < qgN A.1 e; omega)
  have hE : qLE G' e I1 := ⟨by omega, fun k hk => by
    obtain ⟨n, a1, a2, a3, a4, -⟩ := hslots k (by omega)
    exact ⟨n, a1, a2, a3, a4⟩⟩
  have htw := lTwice (w := w) (W := W) hE he
  rw [eN] at htw
  have hCA1 : qCA w I1 A := by rw [hI1]; exact qCA_U hA (by omega) _ _
  have g1' : I1 506 e = qn (qgN A.1 e) := by rw [hI1, qU_r (by omega)]; exact g1
  have hidx : qn 4 * qn e + I 506 e = qn (4 * e + qgN A.1 e) := by rw [g1, qn_mul, qn_add]
  have h1500 : u / 1500 % 4 = o := ho
  have hq0 : qoSlot A (qn e) (qn s) h (qn o) = match qClash G' e with
      | some t => (0, qn t, A)
      | none => (0, qm, qNew (G', A.2)) := by
    unfold qoSlot
    rw [qin_of (by omega) (show e < 10 by omega)]
    dsimp only
    rw [qin_of (by omega) (show s < 1024 by omega), qin_of (by omega) ho4]
    dsimp only
    rw [if_neg (fun hc => by have := hh hc.1; rw [this] at hc; exact absurd hc.2 (by decide)), if_neg (by omega), hor, ← hG']
    cases qClash G' e <;> rfl
  have hfun : ∀ r2 : Int32, ∀ (J : Nat → Nat → Int32) (w2 : Bool), ∀ s3 : Nat, s3 ≤ 1 → fX7_slot 1 (qn e) (qn s) (qb h) (qn o) (qC w (qU I1 506 e (qn (qgN A.1 e + s3)))) = some (0, r2, qC w2 J) → fL_isGrammar_352 1 (qn u) (qn e) (qn s) (qb h) r2 506 (qn e) (qn (qgN A.1 e)) (qn s3) (qL w I1 W) = some (qn 1, qL w2 (qJn J (qU I1 506 e (qn (qgN A.1 e + s3)))) W) := by
    intro r2 J w2 s3 hs3 hc
    unfold fL_isGrammar_352 fL_slot
    simp (disch := omega) only [↓qlet, eq_self, qzg_t, qzb_some, ↓reduceIte, not_or, not_false_eq_true, not_true_eq_false, and_true, true_and, and_self, or_false, false_or, true_or, or_true, and_false, false_and, qlit, qneg, qof, qn_add, qn_mul, qn_s, qn_z, qn_d, qn_dz, qm_1, qt_1, qt_0, qb_0, qb_1, qb_01, qb01b, q01_0, q01_1, qo_s, qo_n, qn_c, qn_le, qn_lt, qn_eq, qn_ne_m, qm_ne_n, qm_lt, qm_le, qn_lt_m, qn_le_m, qn_sub, qn_div, qn_mod, qle_t, qle_f, qlt_t, qlt_f, qeq_t, qeq_f, Nat.add_sub_cancel, qU_s, qU_a, qU_k, qn_rem, qL_I, qL_s, lk_505, lk_506, lk_507, lk_508, lk_509, lk_510, lk_511, lk_512, lk_513, lk_514, lk_515, lk_516, lk_517, lk_518, lk_519, ll_505, ll_506, ll_507, ll_508, ll_509, ll_510, ll_511, ll_512, ll_513, ll_514, ll_515, ll_516, ll_517, ll_518, ll_519, lcut, zbc_0, zbd_0, lCel, lk_1, qJn_r, h1500, Nat.le_refl, hc]
  have hidx2 : 4 * e + qgN A.1 e < 20 := by omega
  have h308 : ∀ r : Int32, ∀ s3 : Nat, qo (qClash G' e) = r → (if qn 0 ≤ r then (0 : Nat) else 1) = s3 → fL_isGrammar_308 1 505 506 (qn u) (qn e) (qn s) (qb h) 505 (qn 4 * qn e + I 506 e) (qn s) (if h = true then qn 1024 else qn 0) (qL w I W) = fL_isGrammar_352 1 (qn u) (qn e) (qn s) (qb h) r 506 (qn e) (qn (qgN A.1 e)) (qn s3) (qL w I1 W) := by
    intro r s3 hr hs3
    rw [hr] at htw
    rw [hidx]
    unfold fL_isGrammar_308
    generalize fL_isGrammar_352 = F
    by_cases c : qn 0 ≤ r
    · rw [if_pos c] at hs3
      subst hs3
      simp (disch := omega) only [↓qlet, eq_self, qzg_t, qzb_some, ↓reduceIte, not_or, not_false_eq_true, not_true_eq_false, and_true, true_and, and_self, or_false, false_or, true_or, or_true, and_false, false_and, qlit, qneg, qof, qn_add, qn_mul, qn_s, qn_z, qn_d, qn_dz, qm_1, qt_1, qt_0, qb_0, qb_1, qb_01, qb01b, q01_0, q01_1, qo_s, qo_n, qn_c, qn_le, qn_lt, qn_eq, qn_ne_m, qm_ne_n, qm_lt, qm_le, qn_lt_m, qn_le_m, qn_sub, qn_div, qn_mod, qle_t, qle_f, qlt_t, qlt_f, qeq_t, qeq_f, Nat.add_sub_cancel, qU_s, qU_a, qU_k, qn_rem, qL_I, qL_s, lk_505, lk_506, lk_507, lk_508, lk_509, lk_510, lk_511, lk_512, lk_513, lk_514, lk_515, lk_516, lk_517, lk_518, lk_519, ll_505, ll_506, ll_507, ll_508, ll_509, ll_510, ll_511, ll_512, ll_513, ll_514, ll_515, ll_516, ll_517, ll_518, ll_519, h1500, hadd, ← hI1, g1', htw, c]
    · rw [if_neg c] at hs3
      subst hs3
      simp (disch := omega) only [↓qlet, eq_self, qzg_t, qzb_some, ↓reduceIte, not_or, not_false_eq_true, not_true_eq_false, and_true, true_and, and_self, or_false, false_or, true_or, or_true, and_false, false_and, qlit, qneg, qof, qn_add, qn_mul, qn_s, qn_z, qn_d, qn_dz, qm_1, qt_1, qt_0, qb_0, qb_1, qb_01, qb01b, q01_0, q01_1, qo_s, qo_n, qn_c, qn_le, qn_lt, qn_eq, qn_ne_m, qm_ne_n, qm_lt, qm_le, qn_lt_m, qn_le_m, qn_sub, qn_div, qn_mod, qle_t, qle_f, qlt_t, qlt_f, qeq_t, qeq_f, Nat.add_sub_cancel, qU_s, qU_a, qU_k, qn_rem, qL_I, qL_s, lk_505, lk_506, lk_507, lk_508, lk_509, lk_510, lk_511, lk_512, lk_513, lk_514, lk_515, lk_516, lk_517, lk_518, lk_519, ll_505, ll_506, ll_507, ll_508, ll_509, ll_510, ll_511, ll_512, ll_513, ll_514, ll_515, ll_516, ll_517, ll_518, ll_519, h1500, hadd, ← hI1, g1', htw, c]
  cases hcl : qClash G' e with
  | some t =>
    rw [hcl] at hq0 h308
    have ht11 : t < 11 := by
      have := List.mem_of_find?_eq_some hcl
      simpa using this
    obtain ⟨w2, J, c1, c2⟩ := cSlot (w := w) (I := qU I1 506 e (qn (qgN A.1 e + 0))) (qCA_U hCA1 (by omega) _ _) (qn e) (qn s) h (qn o)
    rw [hq0] at c1 c2
    dsimp only at c1 c2
    have e1 := h308 (qn t) 0 rfl (if_pos (by rw [qn_le (by omega) (by omega)]; omega))
    rw [e1, hfun _ _ _ 0 (by omega) c1]
    have r0 : ∀ a, 504 < a → a ≠ 505 → qJn J (qU I1 506 e (qn (qgN A.1 e + 0))) a = I a := fun a h1 h2 => by
      rw [qJn_r h1]
      by_cases c : a = 506
      · subst c
        funext k
        by_cases ck : k = e
        · subst ck; rw [qU_s, Nat.add_zero]; exact g1.symm
        · rw [qU_k ck, hI1, qU_r (by omega)]
      · rw [qU_r c, hI1, qU_r h2]
    have r5 : qJn J (qU I1 506 e (qn (qgN A.1 e + 0))) 505 = I1 505 := by rw [qJn_r (by omega), qU_r (by omega)]
    refine ⟨w2, _, A, rfl, qCA_J c2, ⟨?_, qLX_fr hL.2 (r0 _ (by omega) (by omega)) (r0 _ (by omega) (by omega))⟩, rfl, fun a ha => r0 a (by omega) (by omega)⟩
    intro y hy
    obtain ⟨y1, y2, y3, y4⟩ := hL.1 y hy
    rw [r0 506 (by omega) (by omega), r0 507 (by omega) (by omega), r5]
    refine ⟨y1, y2, fun k hk => ?_, y4⟩
    have hk' : k < qgN A.1 y := hk
    have y2' : qgN A.1 y ≤ 4 := y2
    have e9 : I1 505 (4 * y + k) = I 505 (4 * y + k) := by
      rw [hI1]
      by_cases c : y = e
      · subst c; rw [qU_k (by omega)]
      · rw [qU_k (by omega)]
    rw [e9]
    exact y3 k hk
  | none =>
    rw [hcl] at hq0 h308
    obtain ⟨w2, J, c1, c2⟩ := cSlot (w := w) (I := qU I1 506 e (qn (qgN A.1 e + 1))) (qCA_U hCA1 (by omega) _ _) (qn e) (qn s) h (qn o)
    rw [hq0] at c1 c2
    dsimp only at c1 c2
    have e1 := h308 qm 1 rfl (if_neg (by rw [qn_le_m (by omega)]; exact id))
    rw [e1, hfun _ _ _ 1 (by omega) c1]
    have r0 : ∀ a, 504 < a → a ≠ 505 → a ≠ 506 → qJn J (qU I1 506 e (qn (qgN A.1 e + 1))) a = I a := fun a h1 h2 h3 => by rw [qJn_r h1, qU_r h3, hI1, qU_r h2]
    have r5 : qJn J (qU I1 506 e (qn (qgN A.1 e + 1))) 505 = I1 505 := by rw [qJn_r (by omega), qU_r (by omega)]
    have r6 : qJn J (qU I1 506 e (qn (qgN A.1 e + 1))) 506 = qU I1 506 e (qn (qgN A.1 e + 1)) 506 := qJn_r (by omega)
    refine ⟨w2, _, _, rfl, qCA_J c2, ⟨?_, qLX_fr hL.2 (r0 _ (by omega) (by omega) (by omega)) (r0 _ (by omega) (by omega) (by omega))⟩, rfl, fun a ha => r0 a (by omega) (by omega) (by omega)⟩
    show qLG G' _
    refine qLG_set (e := e) hL.1 (fun y hy => by
      rw [hG']
      exact ⟨if_neg hy, fun k => ⟨if_neg (fun h => hy h.1), if_neg (fun h => hy h.1)⟩, rfl, rfl, rfl, rfl⟩) (fun y k hy hk => by rw [r5, hI1, qU_k (by omega)]) (fun y hy => by rw [r6, qU_k hy, hI1, qU_r (by omega)]) (fun y hy => by rw [r0 _ (by omega) (by omega) (by omega)]) (fun _ => ?_)
    refine ⟨by rw [r6, qU_s, eN], by rw [eN]; omega, fun k hk => ?_, ?_⟩
    · rw [eN] at hk
      rw [r5]
      exact hslots k hk
    · rw [r0 _ (by omega) (by omega) (by omega), hG']
      exact g4
theorem lGr_3 (hA : qCA w I A) (hL : qLI I A) {u : Nat} (hu : u < 100000000) : qGr w I W A (fL_isGrammar 1 505 506 507 (qn 3) (qn u) (qL w I W)) := by
  have he : u % 5 < 5 := Nat.mod_lt _ (by decide)
  have g1 : I 506 (u % 5) = qn (qgN A.1 (u % 5)) := (hL.1 _ he).1
  have g2 : qgN A.1 (u % 5) ≤ 4 := (hL.1 _ he).2.1
  by_cases c4 : qgN A.1 (u % 5) = 4
  · refine ⟨w, I, A, ?_, hA, hL, rfl, fun a _ => rfl⟩
    unfold fL_isGrammar
    simp (disch := omega) only [↓qlet, eq_self, qzg_t, qzb_some, ↓reduceIte, not_or, not_false_eq_true, not_true_eq_false, and_true, true_and, and_self, or_false, false_or, true_or, or_true, and_false, false_and, qlit, qneg, qof, qn_add, qn_mul, qn_s, qn_z, qn_d, qn_dz, qm_1, qt_1, qt_0, qb_0, qb_1, qb_01, qb01b, q01_0, q01_1, qo_s, qo_n, qn_c, qn_le, qn_lt, qn_eq, qn_ne_m, qm_ne_n, qm_lt, qm_le, qn_lt_m, qn_le_m, qn_sub, qn_div, qn_mod, qle_t, qle_f, qlt_t, qlt_f, qeq_t, qeq_f, Nat.add_sub_cancel, qU_s, qU_a, qU_k, qn_rem, qL_I, qL_s, lk_505, lk_506, lk_507, lk_508, lk_509, lk_510, lk_511, lk_512, lk_513, lk_514, lk_515, lk_516, lk_517, lk_518, lk_519, ll_505, ll_506, ll_507, ll_508, ll_509, ll_510, ll_511, ll_512, ll_513, ll_514, ll_515, ll_516, ll_517, ll_518, ll_519, g1, c4]
  · have hset : ∃ s, s < 32 ∧ ∀ f5, (f5 = if u / 125 % 3 = 0 then (qn 0) else qn 31) → (qn 1 <<< (qn (u / 5 % 5) &&& qn 31) ||| qn 1 <<< (qn (u / 25 % 5) &&& qn 31)) &&& f5 = qn s := by
      obtain ⟨t1, t2, t3⟩ := qTwo (u / 5 % 5) (Nat.mod_lt _ (by decide)) (u / 25 % 5) (Nat.mod_lt _ (by decide))
      by_cases c : u / 125 % 3 = 0
      · exact ⟨0, by omega, fun f5 hf => by rw [hf, if_pos c]; exact t3⟩
      · exact ⟨_, t2, fun f5 hf => by rw [hf, if_neg c]; exact t1⟩
    obtain ⟨s, hs, hset⟩ := hset
    have h258 : ∀ f5, (f5 = if u / 125 % 3 = 0 then (qn 0) else qn 31) → qGr w I W A (fL_isGrammar_258 1 505 506 (qn u) (qn (u % 5)) (qn 1 <<< (qn (u / 5 % 5) &&& qn 31) ||| qn 1 <<< (qn (u / 25 % 5) &&& qn 31)) f5 (qL w I W)) := by
      intro f5 hf
      have h1 := lGr_308 (w := w) (W := W) hA hL he hs true (fun _ => rfl) hu rfl (by omega)
      rw [qb_t, if_pos rfl] at h1
      have hset := hset f5 hf
      unfold fL_isGrammar_258 fL_isGrammar_277 fL_isGrammar_282
      rw [hset]
      by_cases cs : s = 0
      · subst cs
        generalize fL_isGrammar_308 = F at h1 ⊢
        simp (disch := omega) only [↓qlet, eq_self, qzg_t, qzb_some, ↓reduceIte, not_or, not_false_eq_true, not_true_eq_false, and_true, true_and, and_self, or_false, false_or, true_or, or_true, and_false, false_and, qlit, qneg, qof, qn_add, qn_mul, qn_s, qn_z, qn_d, qn_dz, qm_1, qt_1, qt_0, qb_0, qb_1, qb_01, qb01b, q01_0, q01_1, qo_s, qo_n, qn_c, qn_le, qn_lt, qn_eq, qn_ne_m, qm_ne_n, qm_lt, qm_le, qn_lt_m, qn_le_m, qn_sub, qn_div, qn_mod, qle_t, qle_f, qlt_t, qlt_f, qeq_t, qeq_f, Nat.add_sub_cancel, qU_s, qU_a, qU_k, qn_rem, qL_I, qL_s, lk_505, lk_506, lk_507, lk_508, lk_509, lk_510, lk_511, lk_512, lk_513, lk_514, lk_515, lk_516, lk_517, lk_518, lk_519, ll_505, ll_506, ll_507, ll_508, ll_509, ll_510, ll_511, ll_512, ll_513, ll_514, ll_515, ll_516, ll_517, ll_518, ll_519, g1] at h1 ⊢
        exact h1
      · by_cases c3 : u / 375 % 4 = 0
        · generalize fL_isGrammar_308 = F at h1 ⊢
          simp (disch := omega) only [↓qlet, eq_self, qzg_t, qzb_some, ↓reduceIte, not_or, not_false_eq_true, not_true_eq_false, and_true, true_and, and_self, or_false, false_or, true_or, or_true, and_false, false_and, qlit, qneg, qof, qn_add, qn_mul, qn_s, qn_z, qn_d, qn_dz, qm_1, qt_1, qt_0, qb_0, qb_1, qb_01, qb01b, q01_0, q01_1, qo_s, qo_n, qn_c, qn_le, qn_lt, qn_eq, qn_ne_m, qm_ne_n, qm_lt, qm_le, qn_lt_m, qn_le_m, qn_sub, qn_div, qn_mod, qle_t, qle_f, qlt_t, qlt_f, qeq_t, qeq_f, Nat.add_sub_cancel, qU_s, qU_a, qU_k, qn_rem, qL_I, qL_s, lk_505, lk_506, lk_507, lk_508, lk_509, lk_510, lk_511, lk_512, lk_513, lk_514, lk_515, lk_516, lk_517, lk_518, lk_519, ll_505, ll_506, ll_507, ll_508, ll_509, ll_510, ll_511, ll_512, ll_513, ll_514, ll_515, ll_516, ll_517, ll_518, ll_519, cs, c3, g1] at h1 ⊢
          exact h1
        · have h0 := lGr_308 (w := w) (W := W) hA hL he hs false (fun h => absurd h cs) hu rfl (by omega)
          rw [qb_f, if_neg Bool.false_ne_true] at h0
          generalize fL_isGrammar_308 = F at h0 ⊢
          simp (disch := omega) only [↓qlet, eq_self, qzg_t, qzb_some, ↓reduceIte, not_or, not_false_eq_true, not_true_eq_false, and_true, true_and, and_self, or_false, false_or, true_or, or_true, and_false, false_and, qlit, qneg, qof, qn_add, qn_mul, qn_s, qn_z, qn_d, qn_dz, qm_1, qt_1, qt_0, qb_0, qb_1, qb_01, qb01b, q01_0, q01_1, qo_s, qo_n, qn_c, qn_le, qn_lt, qn_eq, qn_ne_m, qm_ne_n, qm_lt, qm_le, qn_lt_m, qn_le_m, qn_sub, qn_div, qn_mod, qle_t, qle_f, qlt_t, qlt_f, qeq_t, qeq_f, Nat.add_sub_cancel, qU_s, qU_a, qU_k, qn_rem, qL_I, qL_s, lk_505, lk_506, lk_507, lk_508, lk_509, lk_510, lk_511, lk_512, lk_513, lk_514, lk_515, lk_516, lk_517, lk_518, lk_519, ll_505, ll_506, ll_507, ll_508, ll_509, ll_510, ll_511, ll_512, ll_513, ll_514, ll_515, ll_516, ll_517, ll_518, ll_519, cs, c3, g1] at h0 ⊢
          exact h0
    unfold fL_isGrammar
    generalize fL_isGrammar_258 = F at h258 ⊢
    by_cases c : u / 125 % 3 = 0
    · have h := h258 (qn 0) (if_pos c).symm
      simp (disch := omega) only [↓qlet, eq_self, qzg_t, qzb_some, ↓reduceIte, not_or, not_false_eq_true, not_true_eq_false, and_true, true_and, and_self, or_false, false_or, true_or, or_true, and_false, false_and, qlit, qneg, qof, qn_add, qn_mul, qn_s, qn_z, qn_d, qn_dz, qm_1, qt_1, qt_0, qb_0, qb_1, qb_01, qb01b, q01_0, q01_1, qo_s, qo_n, qn_c, qn_le, qn_lt, qn_eq, qn_ne_m, qm_ne_n, qm_lt, qm_le, qn_lt_m, qn_le_m, qn_sub, qn_div, qn_mod, qle_t, qle_f, qlt_t, qlt_f, qeq_t, qeq_f, Nat.add_sub_cancel, qU_s, qU_a, qU_k, qn_rem, qL_I, qL_s, lk_505, lk_506, lk_507, lk_508, lk_509, lk_510, lk_511, lk_512, lk_513, lk_514, lk_515, lk_516, lk_517, lk_518, lk_519, ll_505, ll_506, ll_507, ll_508, ll_509, ll_510, ll_511, ll_512, ll_513, ll_514, ll_515, ll_516, ll_517, ll_518, ll_519, g1, c4, c]
      exact h
    · have h := h258 (qn 31) (if_neg c).symm
      simp (disch := omega) only [↓qlet, eq_self, qzg_t, qzb_some, ↓reduceIte, not_or, not_false_eq_true, not_true_eq_false, and_true, true_and, and_self, or_false, false_or, true_or, or_true, and_false, false_and, qlit, qneg, qof, qn_add, qn_mul, qn_s, qn_z, qn_d, qn_dz, qm_1, qt_1, qt_0, qb_0, qb_1, qb_01, qb01b, q01_0, q01_1, qo_s, qo_n, qn_c, qn_le, qn_lt, qn_eq, qn_ne_m, qm_ne_n, qm_lt, qm_le, qn_lt_m, qn_le_m, qn_sub, qn_div, qn_mod, qle_t, qle_f, qlt_t, qlt_f, qeq_t, qeq_f, Nat.add_sub_cancel, qU_s, qU_a, qU_k, qn_rem, qL_I, qL_s, lk_505, lk_506, lk_507, lk_508, lk_509, lk_510, lk_511, lk_512, lk_513, lk_514, lk_515, lk_516, lk_517, lk_518, lk_519, ll_505, ll_506, ll_507, ll_508, ll_509, ll_510, ll_511, ll_512, ll_513, ll_514, ll_515, ll_516, ll_517, ll_518, ll_519, g1, c4, c]
      exact h
theorem lGrammar (hA : qCA w I A) (hL : qLI I A) {way u : Nat} (hw : way < 4) (hu : u < 100000000) : qGr w I W A (fL_isGrammar 1 505 506 507 (qn way) (qn u) (qL w I W)) := by
  rcases (show way = 0 ∨ way = 1 ∨ way = 2 ∨ way = 3 by omega) with rfl | rfl | rfl | rfl
  · exact lGr_0 hA hL hu
  · exact lGr_1 hA hL hu
  · exact lGr_2 hA hL hu
  · exact lGr_3 hA hL hu
end
