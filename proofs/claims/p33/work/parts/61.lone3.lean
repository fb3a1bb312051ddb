/-! THE LAW: one token, marks and all -/
/-- the marks that are open at a level: those that include, then the cover and those within it -/
def qLMk (I : Nat → Nat → Int32) (lev inc cov cover : Nat) : Prop := I 510 (14 + lev) = qn (inc + cov) ∧ (∀ i, i < inc → I 512 (20 * lev + i) = qn 0) ∧ (0 < cov → (cover = 1 ∨ cover = 2) ∧ I 512 (20 * lev + inc) = qn cover) ∧ ∀ i, inc < i → i < inc + cov → I 512 (20 * lev + i) = qn (cover + 2)
def qTop (cov cover : Nat) : Nat := if cov = 0 then 0 else if cov = 1 then cover else cover + 2
/-- what stays when a row at a level is gone through -/
def qFrO (lev : Nat) (I J : Nat → Nat → Int32) : Prop := (∀ a, (a ≤ 509 ∨ 518 ≤ a) → J a = I a) ∧ (∀ j, j < lev → J 510 (8 + j) = I 510 (8 + j) ∧ J 510 (14 + j) = I 510 (14 + j)) ∧ (∀ j, 1 ≤ j → j ≤ lev → J 510 (11 + j) = I 510 (11 + j)) ∧ ∀ q, q < 20 * lev → J 512 q = I 512 q
theorem qFrO_refl (lev : Nat) (I : Nat → Nat → Int32) : qFrO lev I I := ⟨fun _ _ => rfl, fun _ _ => ⟨rfl, rfl⟩, fun _ _ _ => rfl, fun _ _ => rfl⟩
theorem qFrO_tr {lev : Nat} {I J K : Nat → Nat → Int32} (h : qFrO lev I J) (k : qFrO lev J K) : qFrO lev I K := ⟨fun a ha => by rw [k.1 a ha, h.1 a ha], fun j hj => by rw [(k.2.1 j hj).1, (k.2.1 j hj).2]; exact h.2.1 j hj, fun j h1 h2 => by rw [k.2.2.1 j h1 h2, h.2.2.1 j h1 h2], fun q hq => by rw [k.2.2.2 q hq, h.2.2.2 q hq]⟩
theorem qFrO_le {l l2 : Nat} {I J : Nat → Nat → Int32} (h : qFrO l I J) (hl : l2 ≤ l) : qFrO l2 I J := ⟨h.1, fun j hj => h.2.1 j (by omega), fun j h1 h2 => h.2.2.1 j h1 (by omega), fun q hq => h.2.2.2 q (by omega)⟩
theorem qFrO_L {lev : Nat} {I J : Nat → Nat → Int32} (h : qFrL I J) (hl : lev ≤ 2) : qFrO lev I J := ⟨fun a ha => h.1 a (by omega), fun j hj => ⟨h.2.1 _ (by omega) (by omega), h.2.1 _ (by omega) (by omega)⟩, fun j h1 h2 => h.2.1 _ (by omega) (by omega), fun q hq => by rw [h.1 512 (by omega)]⟩
theorem qFrO_G {lev : Nat} {G : qG} {I J : Nat → Nat → Int32} (h : qFrO lev I J) (k : qLG G I) : qLG G J := qLG_fr k (h.1 _ (by omega)) (h.1 _ (by omega)) (h.1 _ (by omega))
theorem qFrO_X {lev : Nat} {sw : Nat → Nat} {en : Nat → List qK} {txt : List qK} {I J : Nat → Nat → Int32} (h : qFrO lev I J) (k : qLX I sw en txt) : qLX J sw en txt := qLX_fr k (h.1 _ (by omega)) (h.1 _ (by omega))
theorem qFrO_R {lev : Nat} {en : Nat → List qK} {txt ks : List qK} {I J : Nat → Nat → Int32} (h : qFrO lev I J) (k : qLRow I en txt lev ks) : qLRow J en txt lev ks := by
  rcases k with k | ⟨k1, e, k2, k3, k4⟩
  · exact Or.inl k
  · exact Or.inr ⟨k1, e, k2, by rw [h.2.2.1 lev (by omega) (Nat.le_refl _)]; exact k3, k4⟩
theorem qLMk_fr {I J : Nat → Nat → Int32} {lev inc cov cover : Nat} (h : qLMk I lev inc cov cover) (h1 : J 510 (14 + lev) = I 510 (14 + lev)) (h2 : ∀ q, 20 * lev ≤ q → J 512 q = I 512 q) : qLMk J lev inc cov cover := ⟨by rw [h1]; exact h.1, fun i hi => by rw [h2 _ (by omega)]; exact h.2.1 i hi, fun hc => ⟨(h.2.2.1 hc).1, by rw [h2 _ (by omega)]; exact (h.2.2.1 hc).2⟩, fun i h3 h4 => by rw [h2 _ (by omega)]; exact h.2.2.2 i h3 h4⟩
section
variable {w : Bool} {I : Nat → Nat → Int32} {W : Nat → Nat → Nat} {G : qG} {V : qV} {f : Bool} {p : Nat} {sw : Nat → Nat} {en : Nat → List qK} {txt ks : List qK} {lev : Nat}
theorem qLV_lev (hV : qLV I p V f) {k : Nat} (h1 : 7 ≤ k) (h2 : k ≤ 16) (v : Int32) : qLV (qU I 510 k v) p V f := by
  obtain ⟨g1, g2, g3, g4, g5, g6, g7, g8, g9, g10, g11, g12, g13⟩ := hV
  refine ⟨?_, ?_, ?_, ?_, ?_, ?_, ?_, ?_, ?_, ?_, ?_, ?_, ?_⟩
  all_goals (simp (disch := omega) only [qU_s, qU_a, qU_k]; assumption)
theorem qLV_mk (hV : qLV I p V f) (q : Nat) (v : Int32) : qLV (qU I 512 q v) p V f := by
  obtain ⟨g1, g2, g3, g4, g5, g6, g7, g8, g9, g10, g11, g12, g13⟩ := hV
  refine ⟨?_, ?_, ?_, ?_, ?_, ?_, ?_, ?_, ?_, ?_, ?_, ?_, ?_⟩
  all_goals (simp (disch := omega) only [qU_s, qU_a, qU_k]; assumption)
theorem qLV_pl (hV : qLV I p V f) (p' : Nat) : qLV (qU I 510 18 (qn p')) p' V f := by
  obtain ⟨g1, g2, g3, g4, g5, g6, g7, g8, g9, g10, g11, g12, g13⟩ := hV
  refine ⟨?_, ?_, ?_, ?_, ?_, ?_, ?_, ?_, ?_, ?_, ?_, ?_, ?_⟩
  all_goals (try (simp (disch := omega) only [qU_s, qU_a, qU_k]; assumption))
  simp (disch := omega) only [qU_s, qU_a, qU_k]
theorem lOne_A (hV : qLV I p V f) (hX : qLX I sw en txt) (hr : qLRow I en txt lev ks) (h7 : I 510 7 = qn lev) {i s n inc cov cover : Nat} (hi : ks[i]? = some (s, qn n)) (hn : n < 128) (h8 : I 510 (8 + lev) = qn i) (hM : qLMk I lev inc cov cover) (hc : inc + cov ≤ i) : fL_one 505 506 507 508 509 510 511 512 513 514 515 516 517 (qL w I W) = fL_one_148 505 506 507 508 509 510 511 512 513 514 515 516 517 (qn i) (qn s) (qn n) (qn (qTop cov cover)) (if cov = 0 then qm else qn (cover + 2)) (qL w (qU (qU I 510 18 (qn (if lev = 0 then i else p))) 510 (8 + lev) (qn (i + 1))) W) := by
  obtain ⟨l1, l2, l3⟩ := qLRow_l hX hr
  have hi18 : i < 18 := by have := (List.getElem?_eq_some_iff.mp hi).1; omega
  obtain ⟨k1, n', k2, k3, -⟩ := l3 _ (List.mem_of_getElem? hi)
  have k1 : s ≤ 8 := k1
  have hT := lToken (w := w) (W := W) h7 hX hr (show i < 100 by omega)
  have hTc : qTc ks i = qn (128 * s + n) := by
    unfold qTc
    rw [hi]
    dsimp only
    rw [qn_add]
  rw [hTc] at hT
  have h18 := hV.2.2.2.2.2.2.2.2.1
  obtain ⟨m1, m2, m3, m4⟩ := hM
  have e1 : (128 * s + n) / 128 = s := by omega
  have e2 : (128 * s + n) % 128 = n := by omega
  have key : ∀ pl, fL_one_47 505 506 507 508 509 510 511 512 513 514 515 516 517 (qn i) (qn (128 * s + n)) 510 (qn 18) (qn pl) (qL w I W) = fL_one_148 505 506 507 508 509 510 511 512 513 514 515 516 517 (qn i) (qn s) (qn n) (qn (qTop cov cover)) (if cov = 0 then qm else qn (cover + 2)) (qL w (qU (qU I 510 18 (qn pl)) 510 (8 + lev) (qn (i + 1))) W) := by
    intro pl
    unfold fL_one_47 fL_one_107
    rcases (show (inc = 0 ∧ cov = 0) ∨ (0 < inc ∧ cov = 0) ∨ cov = 1 ∨ 1 < cov by omega) with ⟨c1, c2⟩ | ⟨c1, c2⟩ | c2 | c2
    · subst c1; subst c2
      rw [show qTop 0 cover = 0 from rfl, if_pos rfl]
      simp (disch := omega) only [↓qlet, eq_self, qzg_t, qzb_some, ↓reduceIte, not_or, not_false_eq_true, not_true_eq_false, and_true, true_and, and_self, or_false, false_or, true_or, or_true, and_false, false_and, qlit, qneg, qof, qn_add, qn_mul, qn_s, qn_z, qn_d, qn_dz, qm_1, qt_1, qt_0, qb_0, qb_1, qb_01, qb01b, q01_0, q01_1, qo_s, qo_n, qn_c, qn_le, qn_lt, qn_eq, qn_ne_m, qm_ne_n, qm_lt, qm_le, qn_lt_m, qn_le_m, qn_sub, qn_div, qn_mod, qle_t, qle_f, qlt_t, qlt_f, qeq_t, qeq_f, Nat.add_sub_cancel, qU_s, qU_a, qU_k, qn_rem, qL_I, qL_s, lk_505, lk_506, lk_507, lk_508, lk_509, lk_510, lk_511, lk_512, lk_513, lk_514, lk_515, lk_516, lk_517, lk_518, lk_519, ll_505, ll_506, ll_507, ll_508, ll_509, ll_510, ll_511, ll_512, ll_513, ll_514, ll_515, ll_516, ll_517, ll_518, ll_519, h7, h8, m1, e1, e2, Nat.add_zero]
    · subst c2
      have m5 := m2 (inc - 1) (by omega)
      have e3 : 20 * lev + inc - 1 = 20 * lev + (inc - 1) := by omega
      have c3 : ¬ inc = 0 := by omega
      rw [show qTop 0 cover = 0 from rfl, if_pos rfl]
      simp (disch := omega) only [↓qlet, eq_self, qzg_t, qzb_some, ↓reduceIte, not_or, not_false_eq_true, not_true_eq_false, and_true, true_and, and_self, or_false, false_or, true_or, or_true, and_false, false_and, qlit, qneg, qof, qn_add, qn_mul, qn_s, qn_z, qn_d, qn_dz, qm_1, qt_1, qt_0, qb_0, qb_1, qb_01, qb01b, q01_0, q01_1, qo_s, qo_n, qn_c, qn_le, qn_lt, qn_eq, qn_ne_m, qm_ne_n, qm_lt, qm_le, qn_lt_m, qn_le_m, qn_sub, qn_div, qn_mod, qle_t, qle_f, qlt_t, qlt_f, qeq_t, qeq_f, Nat.add_sub_cancel, qU_s, qU_a, qU_k, qn_rem, qL_I, qL_s, lk_505, lk_506, lk_507, lk_508, lk_509, lk_510, lk_511, lk_512, lk_513, lk_514, lk_515, lk_516, lk_517, lk_518, lk_519, ll_505, ll_506, ll_507, ll_508, ll_509, ll_510, ll_511, ll_512, ll_513, ll_514, ll_515, ll_516, ll_517, ll_518, ll_519, h7, h8, m1, e1, e2, Nat.add_zero, c3, e3, m5]
    · subst c2
      obtain ⟨m5, m6⟩ := m3 (by omega)
      have e3 : 20 * lev + (inc + 1) - 1 = 20 * lev + inc := by omega
      have c3 : ¬ inc + 1 = 0 := by omega
      rw [show qTop 1 cover = cover from rfl, if_neg (by decide)]
      rcases m5 with rfl | rfl
      · simp (disch := omega) only [↓qlet, eq_self, qzg_t, qzb_some, ↓reduceIte, not_or, not_false_eq_true, not_true_eq_false, and_true, true_and, and_self, or_false, false_or, true_or, or_true, and_false, false_and, qlit, qneg, qof, qn_add, qn_mul, qn_s, qn_z, qn_d, qn_dz, qm_1, qt_1, qt_0, qb_0, qb_1, qb_01, qb01b, q01_0, q01_1, qo_s, qo_n, qn_c, qn_le, qn_lt, qn_eq, qn_ne_m, qm_ne_n, qm_lt, qm_le, qn_lt_m, qn_le_m, qn_sub, qn_div, qn_mod, qle_t, qle_f, qlt_t, qlt_f, qeq_t, qeq_f, Nat.add_sub_cancel, qU_s, qU_a, qU_k, qn_rem, qL_I, qL_s, lk_505, lk_506, lk_507, lk_508, lk_509, lk_510, lk_511, lk_512, lk_513, lk_514, lk_515, lk_516, lk_517, lk_518, lk_519, ll_505, ll_506, ll_507, ll_508, ll_509, ll_510, ll_511, ll_512, ll_513, ll_514, ll_515, ll_516, ll_517, ll_518, ll_519, h7, h8, m1, e1, e2, c3, e3, m6]
      · simp (disch := omega) only [↓qlet, eq_self, qzg_t, qzb_some, ↓reduceIte, not_or, not_false_eq_true, not_true_eq_false, and_true, true_and, and_self, or_false, false_or, true_or, or_true, and_false, false_and, qlit, qneg, qof, qn_add, qn_mul, qn_s, qn_z, qn_d, qn_dz, qm_1, qt_1, qt_0, qb_0, qb_1, qb_01, qb01b, q01_0, q01_1, qo_s, qo_n, qn_c, qn_le, qn_lt, qn_eq, qn_ne_m, qm_ne_n, qm_lt, qm_le, qn_lt_m, qn_le_m, qn_sub, qn_div, qn_mod, qle_t, qle_f, qlt_t, qlt_f, qeq_t, qeq_f, Nat.add_sub_cancel, qU_s, qU_a, qU_k, qn_rem, qL_I, qL_s, lk_505, lk_506, lk_507, lk_508, lk_509, lk_510, lk_511, lk_512, lk_513, lk_514, lk_515, lk_516, lk_517, lk_518, lk_519, ll_505, ll_506, ll_507, ll_508, ll_509, ll_510, ll_511, ll_512, ll_513, ll_514, ll_515, ll_516, ll_517, ll_518, ll_519, h7, h8, m1, e1, e2, c3, e3, m6]
    · obtain ⟨m5, m6⟩ := m3 (by omega)
      have m7 := m4 (inc + cov - 1) (by omega) (by omega)
      have e3 : 20 * lev + (inc + cov) - 1 = 20 * lev + (inc + cov - 1) := by omega
      have c3 : ¬ inc + cov = 0 := by omega
      have c4 : qTop cov cover = cover + 2 := by unfold qTop; rw [if_neg (by omega), if_neg (by omega)]
      rw [c4, if_neg (by omega)]
      rcases m5 with rfl | rfl
      · simp (disch := omega) only [↓qlet, eq_self, qzg_t, qzb_some, ↓reduceIte, not_or, not_false_eq_true, not_true_eq_false, and_true, true_and, and_self, or_false, false_or, true_or, or_true, and_false, false_and, qlit, qneg, qof, qn_add, qn_mul, qn_s, qn_z, qn_d, qn_dz, qm_1, qt_1, qt_0, qb_0, qb_1, qb_01, qb01b, q01_0, q01_1, qo_s, qo_n, qn_c, qn_le, qn_lt, qn_eq, qn_ne_m, qm_ne_n, qm_lt, qm_le, qn_lt_m, qn_le_m, qn_sub, qn_div, qn_mod, qle_t, qle_f, qlt_t, qlt_f, qeq_t, qeq_f, Nat.add_sub_cancel, qU_s, qU_a, qU_k, qn_rem, qL_I, qL_s, lk_505, lk_506, lk_507, lk_508, lk_509, lk_510, lk_511, lk_512, lk_513, lk_514, lk_515, lk_516, lk_517, lk_518, lk_519, ll_505, ll_506, ll_507, ll_508, ll_509, ll_510, ll_511, ll_512, ll_513, ll_514, ll_515, ll_516, ll_517, ll_518, ll_519, h7, h8, m1, e1, e2, c3, e3, m7]
      · simp (disch := omega) only [↓qlet, eq_self, qzg_t, qzb_some, ↓reduceIte, not_or, not_false_eq_true, not_true_eq_false, and_true, true_and, and_self, or_false, false_or, true_or, or_true, and_false, false_and, qlit, qneg, qof, qn_add, qn_mul, qn_s, qn_z, qn_d, qn_dz, qm_1, qt_1, qt_0, qb_0, qb_1, qb_01, qb01b, q01_0, q01_1, qo_s, qo_n, qn_c, qn_le, qn_lt, qn_eq, qn_ne_m, qm_ne_n, qm_lt, qm_le, qn_lt_m, qn_le_m, qn_sub, qn_div, qn_mod, qle_t, qle_f, qlt_t, qlt_f, qeq_t, qeq_f, Nat.add_sub_cancel, qU_s, qU_a, qU_k, qn_rem, qL_I, qL_s, lk_505, lk_506, lk_507, lk_508, lk_509, lk_510, lk_511, lk_512, lk_513, lk_514, lk_515, lk_516, lk_517, lk_518, lk_519, ll_505, ll_506, ll_507, ll_508, ll_509, ll_510, ll_511, ll_512, ll_513, ll_514, ll_515, ll_516, ll_517, ll_518, ll_519, h7, h8, m1, e1, e2, c3, e3, m7]
  unfold fL_one
  by_cases c0 : lev = 0
  · have k := key i
    rw [if_pos c0]
    subst c0
    simp (disch := omega) only [↓qlet, eq_self, qzg_t, qzb_some, ↓reduceIte, not_or, not_false_eq_true, not_true_eq_false, and_true, true_and, and_self, or_false, false_or, true_or, or_true, and_false, false_and, qlit, qneg, qof, qn_add, qn_mul, qn_s, qn_z, qn_d, qn_dz, qm_1, qt_1, qt_0, qb_0, qb_1, qb_01, qb01b, q01_0, q01_1, qo_s, qo_n, qn_c, qn_le, qn_lt, qn_eq, qn_ne_m, qm_ne_n, qm_lt, qm_le, qn_lt_m, qn_le_m, qn_sub, qn_div, qn_mod, qle_t, qle_f, qlt_t, qlt_f, qeq_t, qeq_f, Nat.add_sub_cancel, qU_s, qU_a, qU_k, qn_rem, qL_I, qL_s, lk_505, lk_506, lk_507, lk_508, lk_509, lk_510, lk_511, lk_512, lk_513, lk_514, lk_515, lk_516, lk_517, lk_518, lk_519, ll_505, ll_506, ll_507, ll_508, ll_509, ll_510, ll_511, ll_512, ll_513, ll_514, ll_515, ll_516, ll_517, ll_518, ll_519, h7, hT] at h8 k ⊢
    simp (disch := omega) only [↓qlet, eq_self, qzg_t, qzb_some, ↓reduceIte, not_or, not_false_eq_true, not_true_eq_false, and_true, true_and, and_self, or_false, false_or, true_or, or_true, and_false, false_and, qlit, qneg, qof, qn_add, qn_mul, qn_s, qn_z, qn_d, qn_dz, qm_1, qt_1, qt_0, qb_0, qb_1, qb_01, qb01b, q01_0, q01_1, qo_s, qo_n, qn_c, qn_le, qn_lt, qn_eq, qn_ne_m, qm_ne_n, qm_lt, qm_le, qn_lt_m, qn_le_m, qn_sub, qn_div, qn_mod, qle_t, qle_f, qlt_t, qlt_f, qeq_t, qeq_f, Nat.add_sub_cancel, qU_s, qU_a, qU_k, qn_rem, qL_I, qL_s, lk_505, lk_506, lk_507, lk_508, lk_509, lk_510, lk_511, lk_512, lk_513, lk_514, lk_515, lk_516, lk_517, lk_518, lk_519, ll_505, ll_506, ll_507, ll_508, ll_509, ll_510, ll_511, ll_512, ll_513, ll_514, ll_515, ll_516, ll_517, ll_518, ll_519, h7, h8, hT, k]
  · rw [if_neg c0]
    simp (disch := omega) only [↓qlet, eq_self, qzg_t, qzb_some, ↓reduceIte, not_or, not_false_eq_true, not_true_eq_false, and_true, true_and, and_self, or_false, false_or, true_or, or_true, and_false, false_and, qlit, qneg, qof, qn_add, qn_mul, qn_s, qn_z, qn_d, qn_dz, qm_1, qt_1, qt_0, qb_0, qb_1, qb_01, qb01b, q01_0, q01_1, qo_s, qo_n, qn_c, qn_le, qn_lt, qn_eq, qn_ne_m, qm_ne_n, qm_lt, qm_le, qn_lt_m, qn_le_m, qn_sub, qn_div, qn_mod, qle_t, qle_f, qlt_t, qlt_f, qeq_t, qeq_f, Nat.add_sub_cancel, qU_s, qU_a, qU_k, qn_rem, qL_I, qL_s, lk_505, lk_506, lk_507, lk_508, lk_509, lk_510, lk_511, lk_512, lk_513, lk_514, lk_515, lk_516, lk_517, lk_518, lk_519, ll_505, ll_506, ll_507, ll_508, ll_509, ll_510, ll_511, ll_512, ll_513, ll_514, ll_515, ll_516, ll_517, ll_518, ll_519, h7, h8, hT, c0, h18, key]
end
