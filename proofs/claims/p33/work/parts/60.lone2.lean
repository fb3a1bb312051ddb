/-! THE LAW: one token, without a cover; with one -/
section
variable {w : Bool} {I : Nat → Nat → Int32} {W : Nat → Nat → Nat} {G : qG} {V : qV} {f : Bool} {p : Nat} {sw : Nat → Nat} {en : Nat → List qK} {txt ks : List qK} {lev : Nat}
theorem l475_3 (hV : qLV I p V f) (hok : qLok G V) (m : Nat) (v to : Int32) : fL_one_475 (m + 1) 505 506 507 510 511 517 (qn 3) v to (qn 0) (qL w I W) = fL_one_518 505 506 507 510 511 517 to (qL w I W) := by
  have h0 := hV.1
  have hl9 := hok.1
  unfold fL_one_475
  by_cases c : V.1.1.length ≤ 0
  · simp (disch := omega) only [↓qlet, eq_self, qzg_t, qzb_some, ↓reduceIte, not_or, not_false_eq_true, not_true_eq_false, and_true, true_and, and_self, or_false, false_or, true_or, or_true, and_false, false_and, qlit, qneg, qof, qn_add, qn_mul, qn_s, qn_z, qn_d, qn_dz, qm_1, qt_1, qt_0, qb_0, qb_1, qb_01, qb01b, q01_0, q01_1, qo_s, qo_n, qn_c, qn_le, qn_lt, qn_eq, qn_ne_m, qm_ne_n, qm_lt, qm_le, qn_lt_m, qn_le_m, qn_sub, qn_div, qn_mod, qle_t, qle_f, qlt_t, qlt_f, qeq_t, qeq_f, Nat.add_sub_cancel, qU_s, qU_a, qU_k, qn_rem, qL_I, qL_s, lk_505, lk_506, lk_507, lk_508, lk_509, lk_510, lk_511, lk_512, lk_513, lk_514, lk_515, lk_516, lk_517, lk_518, lk_519, ll_505, ll_506, ll_507, ll_508, ll_509, ll_510, ll_511, ll_512, ll_513, ll_514, ll_515, ll_516, ll_517, ll_518, ll_519, h0, c]
  · simp (disch := omega) only [↓qlet, eq_self, qzg_t, qzb_some, ↓reduceIte, not_or, not_false_eq_true, not_true_eq_false, and_true, true_and, and_self, or_false, false_or, true_or, or_true, and_false, false_and, qlit, qneg, qof, qn_add, qn_mul, qn_s, qn_z, qn_d, qn_dz, qm_1, qt_1, qt_0, qb_0, qb_1, qb_01, qb01b, q01_0, q01_1, qo_s, qo_n, qn_c, qn_le, qn_lt, qn_eq, qn_ne_m, qm_ne_n, qm_lt, qm_le, qn_lt_m, qn_le_m, qn_sub, qn_div, qn_mod, qle_t, qle_f, qlt_t, qlt_f, qeq_t, qeq_f, Nat.add_sub_cancel, qU_s, qU_a, qU_k, qn_rem, qL_I, qL_s, lk_505, lk_506, lk_507, lk_508, lk_509, lk_510, lk_511, lk_512, lk_513, lk_514, lk_515, lk_516, lk_517, lk_518, lk_519, ll_505, ll_506, ll_507, ll_508, ll_509, ll_510, ll_511, ll_512, ll_513, ll_514, ll_515, ll_516, ll_517, ll_518, ll_519, h0, c]
theorem l475_1 (hG : qLG G I) (hV : qLV I p V f) (hok : qLok G V) {e : Nat} (he : e < 128) (m : Nat) (hm : 20 < m) : fL_one_475 m 505 506 507 510 511 517 (qn 1) (qn e) qm (qn 0) (qL w I W) = fL_one_518 505 506 507 510 511 517 (qo (qLast V.1.1 e)) (qL w I W) := by
  have hl9 := hok.1
  have h := lLast_475 (w := w) (W := W) hG hV hok he V.1.1.length m (Nat.le_refl _) (by omega)
  rw [List.drop_length, Nat.sub_self, show qLast [] e = none from rfl, qo_n] at h
  exact h
theorem lOne_352 (hg : qGok G) (hG : qLG G I) (hV : qLV I p V f) (hok : qLok G V) (h7 : I 510 7 = qn lev) (hX : qLX I sw en txt) (hr : qLRow I en txt lev ks) {i s n : Nat} (hi : ks[i]? = some (s, qn n)) (hn : n < 128) (h6 : ¬ s = 6) (ent : Nat → Nat → qV → qV) : ∃ J V' f', fL_one_352 505 506 507 508 509 510 511 513 514 515 516 517 (qn i) (qn s) (qn n) (qn 0) (qL w I W) = some (qn 0, qL w J W) ∧ qLV J p V' f' ∧ qLok G V' ∧ qFrL I J ∧ (f' = false → f = false ∧ V' = (if s = 7 ∨ s = 8 then V else qTok G ent ks i p s (qn n) V)) := by
  obtain ⟨l1, l2, l3⟩ := qLRow_l hX hr
  have hi18 : i < 18 := by have := (List.getElem?_eq_some_iff.mp hi).1; omega
  obtain ⟨k1, n', k2, k3, k4, k5, k6⟩ := l3 _ (List.mem_of_getElem? hi)
  have k3 : qn n = qn n' := k3
  rw [qn_eq (by omega) (by omega)] at k3
  subst k3
  have k1 : s ≤ 8 := k1
  have k4 : s = 0 ∨ s = 1 → n < 5 := k4
  have hnn : (qn n).toNatClampNeg = n := qn_c (by omega)
  have h1 := hV.2.1
  rcases (show s = 0 ∨ s = 1 ∨ s = 2 ∨ s = 3 ∨ s = 4 ∨ s = 5 ∨ s = 7 ∨ s = 8 by omega) with rfl | rfl | rfl | rfl | rfl | rfl | rfl | rfl
  · have hn5 := k4 (Or.inl rfl)
    obtain ⟨T, V1, f1, t1, t2, t3, t4, t5⟩ := lThing (w := w) (W := W) (t := n) (l := 0) hg (Or.inl hn5) hG hV hok
    refine ⟨T, V1, f1, ?_, t2, t3, t4, fun h => ⟨(t5 h).1, ?_⟩⟩
    · unfold fL_one_352 fL_one_375 fL_one_408
      simp (disch := omega) only [↓qlet, eq_self, qzg_t, qzb_some, ↓reduceIte, not_or, not_false_eq_true, not_true_eq_false, and_true, true_and, and_self, or_false, false_or, true_or, or_true, and_false, false_and, qlit, qneg, qof, qn_add, qn_mul, qn_s, qn_z, qn_d, qn_dz, qm_1, qt_1, qt_0, qb_0, qb_1, qb_01, qb01b, q01_0, q01_1, qo_s, qo_n, qn_c, qn_le, qn_lt, qn_eq, qn_ne_m, qm_ne_n, qm_lt, qm_le, qn_lt_m, qn_le_m, qn_sub, qn_div, qn_mod, qle_t, qle_f, qlt_t, qlt_f, qeq_t, qeq_f, Nat.add_sub_cancel, qU_s, qU_a, qU_k, qn_rem, qL_I, qL_s, lk_505, lk_506, lk_507, lk_508, lk_509, lk_510, lk_511, lk_512, lk_513, lk_514, lk_515, lk_516, lk_517, lk_518, lk_519, ll_505, ll_506, ll_507, ll_508, ll_509, ll_510, ll_511, ll_512, ll_513, ll_514, ll_515, ll_516, ll_517, ll_518, ll_519, t1]
    · rw [if_neg (by decide), (t5 h).2, qRd_l (by omega) 0 60]
      unfold qTok
      rw [if_pos rfl, hnn]
  · have hn5 := k4 (Or.inr rfl)
    have h475 := l475_1 (w := w) (W := W) hG hV hok (show n < 128 by omega) 10000 (by omega)
    obtain ⟨T, V1, f1, t1, t2, t3, t4, t5⟩ := lOne_518 (w := w) (W := W) hG hV hok (qLast V.1.1 n) (fun q hq => by have := qLast_lt _ _ _ hq; have := hok.1; omega)
    rw [t1] at h475
    refine ⟨T, V1, f1, ?_, t2, t3, t4, fun h => ⟨(t5 h).1, ?_⟩⟩
    · unfold fL_one_352 fL_one_415 fL_one_437 fL_one_454 fL_one_470
      generalize fL_one_475 10000 = F at h475 ⊢
      simp (disch := omega) only [↓qlet, eq_self, qzg_t, qzb_some, ↓reduceIte, not_or, not_false_eq_true, not_true_eq_false, and_true, true_and, and_self, or_false, false_or, true_or, or_true, and_false, false_and, qlit, qneg, qof, qn_add, qn_mul, qn_s, qn_z, qn_d, qn_dz, qm_1, qt_1, qt_0, qb_0, qb_1, qb_01, qb01b, q01_0, q01_1, qo_s, qo_n, qn_c, qn_le, qn_lt, qn_eq, qn_ne_m, qm_ne_n, qm_lt, qm_le, qn_lt_m, qn_le_m, qn_sub, qn_div, qn_mod, qle_t, qle_f, qlt_t, qlt_f, qeq_t, qeq_f, Nat.add_sub_cancel, qU_s, qU_a, qU_k, qn_rem, qL_I, qL_s, lk_505, lk_506, lk_507, lk_508, lk_509, lk_510, lk_511, lk_512, lk_513, lk_514, lk_515, lk_516, lk_517, lk_518, lk_519, ll_505, ll_506, ll_507, ll_508, ll_509, ll_510, ll_511, ll_512, ll_513, ll_514, ll_515, ll_516, ll_517, ll_518, ll_519, h475]
    · rw [if_neg (by decide), (t5 h).2]
      unfold qTok
      rw [if_neg (by decide), if_pos rfl, hnn]
      cases qLast V.1.1 n <;> rfl
  · cases hla : V.1.2 with
    | none =>
      rw [hla] at h1
      have h1 : I 510 1 = qn 0 := h1
      obtain ⟨T, V1, f1, t1, t2, t3, t4, -, -, -, t5⟩ := lFailsK (w := w) (W := W) hV hok 1
      refine ⟨T, V1, f1, ?_, t2, t3, t4, fun h => ⟨(t5 h).1, ?_⟩⟩
      · unfold fL_one_352 fL_one_415
        simp (disch := omega) only [↓qlet, eq_self, qzg_t, qzb_some, ↓reduceIte, not_or, not_false_eq_true, not_true_eq_false, and_true, true_and, and_self, or_false, false_or, true_or, or_true, and_false, false_and, qlit, qneg, qof, qn_add, qn_mul, qn_s, qn_z, qn_d, qn_dz, qm_1, qt_1, qt_0, qb_0, qb_1, qb_01, qb01b, q01_0, q01_1, qo_s, qo_n, qn_c, qn_le, qn_lt, qn_eq, qn_ne_m, qm_ne_n, qm_lt, qm_le, qn_lt_m, qn_le_m, qn_sub, qn_div, qn_mod, qle_t, qle_f, qlt_t, qlt_f, qeq_t, qeq_f, Nat.add_sub_cancel, qU_s, qU_a, qU_k, qn_rem, qL_I, qL_s, lk_505, lk_506, lk_507, lk_508, lk_509, lk_510, lk_511, lk_512, lk_513, lk_514, lk_515, lk_516, lk_517, lk_518, lk_519, ll_505, ll_506, ll_507, ll_508, ll_509, ll_510, ll_511, ll_512, ll_513, ll_514, ll_515, ll_516, ll_517, ll_518, ll_519, h1, t1, Nat.le_refl]
      · rw [if_neg (by decide), (t5 h).2]
        unfold qTok
        rw [if_neg (by decide), if_neg (by decide), if_pos rfl, hla]
    | some e =>
      rw [hla] at h1
      have h1 : I 510 1 = qn (e + 1) := h1
      have he := hok.2.2.2.1 e hla
      obtain ⟨T, V1, f1, t1, t2, t3, t4, t5⟩ := lThing (w := w) (W := W) (t := e) (l := 0) hg (Or.inl he) hG hV hok
      refine ⟨T, V1, f1, ?_, t2, t3, t4, fun h => ⟨(t5 h).1, ?_⟩⟩
      · unfold fL_one_352 fL_one_375 fL_one_408
        simp (disch := omega) only [↓qlet, eq_self, qzg_t, qzb_some, ↓reduceIte, not_or, not_false_eq_true, not_true_eq_false, and_true, true_and, and_self, or_false, false_or, true_or, or_true, and_false, false_and, qlit, qneg, qof, qn_add, qn_mul, qn_s, qn_z, qn_d, qn_dz, qm_1, qt_1, qt_0, qb_0, qb_1, qb_01, qb01b, q01_0, q01_1, qo_s, qo_n, qn_c, qn_le, qn_lt, qn_eq, qn_ne_m, qm_ne_n, qm_lt, qm_le, qn_lt_m, qn_le_m, qn_sub, qn_div, qn_mod, qle_t, qle_f, qlt_t, qlt_f, qeq_t, qeq_f, Nat.add_sub_cancel, qU_s, qU_a, qU_k, qn_rem, qL_I, qL_s, lk_505, lk_506, lk_507, lk_508, lk_509, lk_510, lk_511, lk_512, lk_513, lk_514, lk_515, lk_516, lk_517, lk_518, lk_519, ll_505, ll_506, ll_507, ll_508, ll_509, ll_510, ll_511, ll_512, ll_513, ll_514, ll_515, ll_516, ll_517, ll_518, ll_519, h1, t1]
      · rw [if_neg (by decide), (t5 h).2, qRd_l (by omega) 0 60]
        unfold qTok
        rw [if_neg (by decide), if_neg (by decide), if_pos rfl, hla]
  · have h0 := hV.1
    have h475 := fun to => l475_3 (w := w) (W := W) hV hok 9999 (qn n) to
    obtain ⟨T, V1, f1, t1, t2, t3, t4, t5⟩ := lOne_518 (w := w) (W := W) hG hV hok (match V.1.1 with
      | [] => none
      | _ :: st => some st.length) (fun q hq => by
        have h9 := hok.1
        cases hst : V.1.1 with
        | nil => rw [hst] at hq; cases hq
        | cons x st => rw [hst] at hq h9; simp only [List.length_cons] at h9; cases hq; omega)
    refine ⟨T, V1, f1, ?_, t2, t3, t4, fun h => ⟨(t5 h).1, ?_⟩⟩
    · have h475 : ∀ to, fL_one_475 10000 505 506 507 510 511 517 (qn 3) (qn n) to (qn 0) (qL w I W) = fL_one_518 505 506 507 510 511 517 to (qL w I W) := h475
      unfold fL_one_352 fL_one_415 fL_one_437 fL_one_454 fL_one_470
      generalize fL_one_475 10000 = F at h475 ⊢
      cases hst : V.1.1 with
      | nil =>
        rw [hst] at t1 h0
        simp only [List.length_nil] at h0
        simp only [qo_n] at t1
        simp (disch := omega) only [↓qlet, eq_self, qzg_t, qzb_some, ↓reduceIte, not_or, not_false_eq_true, not_true_eq_false, and_true, true_and, and_self, or_false, false_or, true_or, or_true, and_false, false_and, qlit, qneg, qof, qn_add, qn_mul, qn_s, qn_z, qn_d, qn_dz, qm_1, qt_1, qt_0, qb_0, qb_1, qb_01, qb01b, q01_0, q01_1, qo_s, qo_n, qn_c, qn_le, qn_lt, qn_eq, qn_ne_m, qm_ne_n, qm_lt, qm_le, qn_lt_m, qn_le_m, qn_sub, qn_div, qn_mod, qle_t, qle_f, qlt_t, qlt_f, qeq_t, qeq_f, Nat.add_sub_cancel, qU_s, qU_a, qU_k, qn_rem, qL_I, qL_s, lk_505, lk_506, lk_507, lk_508, lk_509, lk_510, lk_511, lk_512, lk_513, lk_514, lk_515, lk_516, lk_517, lk_518, lk_519, ll_505, ll_506, ll_507, ll_508, ll_509, ll_510, ll_511, ll_512, ll_513, ll_514, ll_515, ll_516, ll_517, ll_518, ll_519, h0, h475, t1]
      | cons x st =>
        rw [hst] at t1 h0
        simp only [List.length_cons] at h0
        simp only [qo_s] at t1
        simp (disch := omega) only [↓qlet, eq_self, qzg_t, qzb_some, ↓reduceIte, not_or, not_false_eq_true, not_true_eq_false, and_true, true_and, and_self, or_false, false_or, true_or, or_true, and_false, false_and, qlit, qneg, qof, qn_add, qn_mul, qn_s, qn_z, qn_d, qn_dz, qm_1, qt_1, qt_0, qb_0, qb_1, qb_01, qb01b, q01_0, q01_1, qo_s, qo_n, qn_c, qn_le, qn_lt, qn_eq, qn_ne_m, qm_ne_n, qm_lt, qm_le, qn_lt_m, qn_le_m, qn_sub, qn_div, qn_mod, qle_t, qle_f, qlt_t, qlt_f, qeq_t, qeq_f, Nat.add_sub_cancel, qU_s, qU_a, qU_k, qn_rem, qL_I, qL_s, lk_505, lk_506, lk_507, lk_508, lk_509, lk_510, lk_511, lk_512, lk_513, lk_514, lk_515, lk_516, lk_517, lk_518, lk_519, ll_505, ll_506, ll_507, ll_508, ll_509, ll_510, ll_511, ll_512, ll_513, ll_514, ll_515, ll_516, ll_517, ll_518, ll_519, h0, h475, t1]
    · rw [if_neg (by decide), (t5 h).2]
      unfold qTok
      rw [if_neg (by decide), if_neg (by decide), if_neg (by decide), if_pos rfl]
      cases V.1.1 <;> rfl
  · obtain ⟨T, V1, f1, t1, t2, t3, t4, t5⟩ := lThing (w := w) (W := W) (t := 10) (l := n) hg (Or.inr rfl) hG hV hok
    refine ⟨T, V1, f1, ?_, t2, t3, t4, fun h => ⟨(t5 h).1, ?_⟩⟩
    · unfold fL_one_352 fL_one_415 fL_one_437 fL_one_552
      simp (disch := omega) only [↓qlet, eq_self, qzg_t, qzb_some, ↓reduceIte, not_or, not_false_eq_true, not_true_eq_false, and_true, true_and, and_self, or_false, false_or, true_or, or_true, and_false, false_and, qlit, qneg, qof, qn_add, qn_mul, qn_s, qn_z, qn_d, qn_dz, qm_1, qt_1, qt_0, qb_0, qb_1, qb_01, qb01b, q01_0, q01_1, qo_s, qo_n, qn_c, qn_le, qn_lt, qn_eq, qn_ne_m, qm_ne_n, qm_lt, qm_le, qn_lt_m, qn_le_m, qn_sub, qn_div, qn_mod, qle_t, qle_f, qlt_t, qlt_f, qeq_t, qeq_f, Nat.add_sub_cancel, qU_s, qU_a, qU_k, qn_rem, qL_I, qL_s, lk_505, lk_506, lk_507, lk_508, lk_509, lk_510, lk_511, lk_512, lk_513, lk_514, lk_515, lk_516, lk_517, lk_518, lk_519, ll_505, ll_506, ll_507, ll_508, ll_509, ll_510, ll_511, ll_512, ll_513, ll_514, ll_515, ll_516, ll_517, ll_518, ll_519, t1]
    · rw [if_neg (by decide), (t5 h).2]
      unfold qTok
      rw [if_neg (by decide), if_neg (by decide), if_neg (by decide), if_neg (by decide), if_pos rfl, hnn]
  · obtain ⟨T, V1, f1, t1, t2, t3, t4, t5⟩ := lLine (w := w) (W := W) h7 hX hr (show i < 50 by omega) hV hok hG hg (qn n)
    refine ⟨T, V1, f1, ?_, t2, t3, t4, fun h => ⟨(t5 h).1, ?_⟩⟩
    · unfold fL_one_352 fL_one_415 fL_one_437 fL_one_552
      simp (disch := omega) only [↓qlet, eq_self, qzg_t, qzb_some, ↓reduceIte, not_or, not_false_eq_true, not_true_eq_false, and_true, true_and, and_self, or_false, false_or, true_or, or_true, and_false, false_and, qlit, qneg, qof, qn_add, qn_mul, qn_s, qn_z, qn_d, qn_dz, qm_1, qt_1, qt_0, qb_0, qb_1, qb_01, qb01b, q01_0, q01_1, qo_s, qo_n, qn_c, qn_le, qn_lt, qn_eq, qn_ne_m, qm_ne_n, qm_lt, qm_le, qn_lt_m, qn_le_m, qn_sub, qn_div, qn_mod, qle_t, qle_f, qlt_t, qlt_f, qeq_t, qeq_f, Nat.add_sub_cancel, qU_s, qU_a, qU_k, qn_rem, qL_I, qL_s, lk_505, lk_506, lk_507, lk_508, lk_509, lk_510, lk_511, lk_512, lk_513, lk_514, lk_515, lk_516, lk_517, lk_518, lk_519, ll_505, ll_506, ll_507, ll_508, ll_509, ll_510, ll_511, ll_512, ll_513, ll_514, ll_515, ll_516, ll_517, ll_518, ll_519, t1]
    · rw [if_neg (show ¬ ((5 : Nat) = 7 ∨ (5 : Nat) = 8) by decide), (t5 h).2]
      rfl
  · refine ⟨I, V, f, ?_, hV, hok, qFrL_refl I, fun h => ⟨h, by rw [if_pos (Or.inl rfl)]⟩⟩
    unfold fL_one_352 fL_one_415 fL_one_437 fL_one_552 fL_one_590 fL_one_717 fL_one_768
    simp (disch := omega) only [↓qlet, eq_self, qzg_t, qzb_some, ↓reduceIte, not_or, not_false_eq_true, not_true_eq_false, and_true, true_and, and_self, or_false, false_or, true_or, or_true, and_false, false_and, qlit, qneg, qof, qn_add, qn_mul, qn_s, qn_z, qn_d, qn_dz, qm_1, qt_1, qt_0, qb_0, qb_1, qb_01, qb01b, q01_0, q01_1, qo_s, qo_n, qn_c, qn_le, qn_lt, qn_eq, qn_ne_m, qm_ne_n, qm_lt, qm_le, qn_lt_m, qn_le_m, qn_sub, qn_div, qn_mod, qle_t, qle_f, qlt_t, qlt_f, qeq_t, qeq_f, Nat.add_sub_cancel, qU_s, qU_a, qU_k, qn_rem, qL_I, qL_s, lk_505, lk_506, lk_507, lk_508, lk_509, lk_510, lk_511, lk_512, lk_513, lk_514, lk_515, lk_516, lk_517, lk_518, lk_519, ll_505, ll_506, ll_507, ll_508, ll_509, ll_510, ll_511, ll_512, ll_513, ll_514, ll_515, ll_516, ll_517, ll_518, ll_519]
  · refine ⟨I, V, f, ?_, hV, hok, qFrL_refl I, fun h => ⟨h, by rw [if_pos (Or.inr rfl)]⟩⟩
    unfold fL_one_352 fL_one_415 fL_one_437 fL_one_552 fL_one_590 fL_one_717 fL_one_768
    simp (disch := omega) only [↓qlet, eq_self, qzg_t, qzb_some, ↓reduceIte, not_or, not_false_eq_true, not_true_eq_false, and_true, true_and, and_self, or_false, false_or, true_or, or_true, and_false, false_and, qlit, qneg, qof, qn_add, qn_mul, qn_s, qn_z, qn_d, qn_dz, qm_1, qt_1, qt_0, qb_0, qb_1, qb_01, qb01b, q01_0, q01_1, qo_s, qo_n, qn_c, qn_le, qn_lt, qn_eq, qn_ne_m, qm_ne_n, qm_lt, qm_le, qn_lt_m, qn_le_m, qn_sub, qn_div, qn_mod, qle_t, qle_f, qlt_t, qlt_f, qeq_t, qeq_f, Nat.add_sub_cancel, qU_s, qU_a, qU_k, qn_rem, qL_I, qL_s, lk_505, lk_506, lk_507, lk_508, lk_509, lk_510, lk_511, lk_512, lk_513, lk_514, lk_515, lk_516, lk_517, lk_518, lk_519, ll_505, ll_506, ll_507, ll_508, ll_509, ll_510, ll_511, ll_512, ll_513, ll_514, ll_515, ll_516, ll_517, ll_518, ll_519]
/-- an ENTITY that would be a ring -/
theorem lOne_ring (hV : qLV I p V f) (hok : qLok G V) (h7 : I 510 7 = qn lev) {n : Nat} (hn : n < 2) (h : lev = 2 ∨ lev = 1 ∧ I 510 12 = qn n) (i : Int32) : ∃ J V' f', fL_one_352 505 506 507 508 509 510 511 513 514 515 516 517 i (qn 6) (qn n) (qn 0) (qL w I W) = some (qn 0, qL w J W) ∧ qLV J p V' f' ∧ qLok G V' ∧ qFrL I J ∧ (f' = false → f = false ∧ V' = qErr 4 p V) := by
  obtain ⟨T, V1, f1, t1, t2, t3, t4, -, -, -, t5⟩ := lFailsK (w := w) (W := W) hV hok 4
  refine ⟨T, V1, f1, ?_, t2, t3, t4, t5⟩
  unfold fL_one_352 fL_one_415 fL_one_437 fL_one_552 fL_one_590 fL_one_717 fL_one_757
  rcases h with rfl | ⟨rfl, h⟩
  · simp (disch := omega) only [↓qlet, eq_self, qzg_t, qzb_some, ↓reduceIte, not_or, not_false_eq_true, not_true_eq_false, and_true, true_and, and_self, or_false, false_or, true_or, or_true, and_false, false_and, qlit, qneg, qof, qn_add, qn_mul, qn_s, qn_z, qn_d, qn_dz, qm_1, qt_1, qt_0, qb_0, qb_1, qb_01, qb01b, q01_0, q01_1, qo_s, qo_n, qn_c, qn_le, qn_lt, qn_eq, qn_ne_m, qm_ne_n, qm_lt, qm_le, qn_lt_m, qn_le_m, qn_sub, qn_div, qn_mod, qle_t, qle_f, qlt_t, qlt_f, qeq_t, qeq_f, Nat.add_sub_cancel, qU_s, qU_a, qU_k, qn_rem, qL_I, qL_s, lk_505, lk_506, lk_507, lk_508, lk_509, lk_510, lk_511, lk_512, lk_513, lk_514, lk_515, lk_516, lk_517, lk_518, lk_519, ll_505, ll_506, ll_507, ll_508, ll_509, ll_510, ll_511, ll_512, ll_513, ll_514, ll_515, ll_516, ll_517, ll_518, ll_519, h7, t1]
  · simp (disch := omega) only [↓qlet, eq_self, qzg_t, qzb_some, ↓reduceIte, not_or, not_false_eq_true, not_true_eq_false, and_true, true_and, and_self, or_false, false_or, true_or, or_true, and_false, false_and, qlit, qneg, qof, qn_add, qn_mul, qn_s, qn_z, qn_d, qn_dz, qm_1, qt_1, qt_0, qb_0, qb_1, qb_01, qb01b, q01_0, q01_1, qo_s, qo_n, qn_c, qn_le, qn_lt, qn_eq, qn_ne_m, qm_ne_n, qm_lt, qm_le, qn_lt_m, qn_le_m, qn_sub, qn_div, qn_mod, qle_t, qle_f, qlt_t, qlt_f, qeq_t, qeq_f, Nat.add_sub_cancel, qU_s, qU_a, qU_k, qn_rem, qL_I, qL_s, lk_505, lk_506, lk_507, lk_508, lk_509, lk_510, lk_511, lk_512, lk_513, lk_514, lk_515, lk_516, lk_517, lk_518, lk_519, ll_505, ll_506, ll_507, ll_508, ll_509, ll_510, ll_511, ll_512, ll_513, ll_514, ll_515, ll_516, ll_517, ll_518, ll_519, h7, h, t1]
/-- an ENTITY that is gone into -/
theorem lOne_enter (h7 : I 510 7 = qn lev) {n : Nat} (hn : n < 2) (h : lev = 0 ∨ lev = 1 ∧ ∃ q, q < 2 ∧ ¬ q = n ∧ I 510 12 = qn q) (i : Int32) : fL_one_352 505 506 507 508 509 510 511 513 514 515 516 517 i (qn 6) (qn n) (qn 0) (qL w I W) = some (qn 0, qL w (qU (qU (qU (qU I 510 7 (qn (lev + 1))) 510 (8 + (lev + 1)) (qn 0)) 510 (11 + (lev + 1)) (qn n)) 510 (14 + (lev + 1)) (qn 0)) W) := by
  unfold fL_one_352 fL_one_415 fL_one_437 fL_one_552 fL_one_590 fL_one_717 fL_one_768
  rcases h with rfl | ⟨rfl, q, q1, q2, h⟩
  · simp (disch := omega) only [↓qlet, eq_self, qzg_t, qzb_some, ↓reduceIte, not_or, not_false_eq_true, not_true_eq_false, and_true, true_and, and_self, or_false, false_or, true_or, or_true, and_false, false_and, qlit, qneg, qof, qn_add, qn_mul, qn_s, qn_z, qn_d, qn_dz, qm_1, qt_1, qt_0, qb_0, qb_1, qb_01, qb01b, q01_0, q01_1, qo_s, qo_n, qn_c, qn_le, qn_lt, qn_eq, qn_ne_m, qm_ne_n, qm_lt, qm_le, qn_lt_m, qn_le_m, qn_sub, qn_div, qn_mod, qle_t, qle_f, qlt_t, qlt_f, qeq_t, qeq_f, Nat.add_sub_cancel, qU_s, qU_a, qU_k, qn_rem, qL_I, qL_s, lk_505, lk_506, lk_507, lk_508, lk_509, lk_510, lk_511, lk_512, lk_513, lk_514, lk_515, lk_516, lk_517, lk_518, lk_519, ll_505, ll_506, ll_507, ll_508, ll_509, ll_510, ll_511, ll_512, ll_513, ll_514, ll_515, ll_516, ll_517, ll_518, ll_519, h7]
  · simp (disch := omega) only [↓qlet, eq_self, qzg_t, qzb_some, ↓reduceIte, not_or, not_false_eq_true, not_true_eq_false, and_true, true_and, and_self, or_false, false_or, true_or, or_true, and_false, false_and, qlit, qneg, qof, qn_add, qn_mul, qn_s, qn_z, qn_d, qn_dz, qm_1, qt_1, qt_0, qb_0, qb_1, qb_01, qb01b, q01_0, q01_1, qo_s, qo_n, qn_c, qn_le, qn_lt, qn_eq, qn_ne_m, qm_ne_n, qm_lt, qm_le, qn_lt_m, qn_le_m, qn_sub, qn_div, qn_mod, qle_t, qle_f, qlt_t, qlt_f, qeq_t, qeq_f, Nat.add_sub_cancel, qU_s, qU_a, qU_k, qn_rem, qL_I, qL_s, lk_505, lk_506, lk_507, lk_508, lk_509, lk_510, lk_511, lk_512, lk_513, lk_514, lk_515, lk_516, lk_517, lk_518, lk_519, ll_505, ll_506, ll_507, ll_508, ll_509, ll_510, ll_511, ll_512, ll_513, ll_514, ll_515, ll_516, ll_517, ll_518, ll_519, h7, h, q2]
/-- a token below PLAIN -/
theorem lOne_303 (hg : qGok G) (hG : qLG G I) (hV : qLV I p V f) (hok : qLok G V) {s n : Nat} (hs : s ≤ 8) (hn : n < 128) : ∃ J V' f', fL_one_303 505 506 507 510 511 513 514 515 516 517 (qn s) (qn n) (qL w I W) = some (qn 0, qL w J W) ∧ qLV J p V' f' ∧ qLok G V' ∧ qFrL I J ∧ (f' = false → f = false ∧ V' = qRd G 10 (qPlain s (qn n)) p V) := by
  have hnn : (qn n).toNatClampNeg = n := qn_c (by omega)
  obtain ⟨T, V1, f1, t1, t2, t3, t4, t5⟩ := lThing (w := w) (W := W) (t := 10) (l := qPlain s (qn n)) hg (Or.inr rfl) hG hV hok
  refine ⟨T, V1, f1, ?_, t2, t3, t4, t5⟩
  unfold fL_one_303 fL_one_346
  unfold qPlain at t1
  rw [hnn] at t1
  by_cases c4 : s = 4
  · rw [if_pos c4] at t1
    simp (disch := omega) only [↓qlet, eq_self, qzg_t, qzb_some, ↓reduceIte, not_or, not_false_eq_true, not_true_eq_false, and_true, true_and, and_self, or_false, false_or, true_or, or_true, and_false, false_and, qlit, qneg, qof, qn_add, qn_mul, qn_s, qn_z, qn_d, qn_dz, qm_1, qt_1, qt_0, qb_0, qb_1, qb_01, qb01b, q01_0, q01_1, qo_s, qo_n, qn_c, qn_le, qn_lt, qn_eq, qn_ne_m, qm_ne_n, qm_lt, qm_le, qn_lt_m, qn_le_m, qn_sub, qn_div, qn_mod, qle_t, qle_f, qlt_t, qlt_f, qeq_t, qeq_f, Nat.add_sub_cancel, qU_s, qU_a, qU_k, qn_rem, qL_I, qL_s, lk_505, lk_506, lk_507, lk_508, lk_509, lk_510, lk_511, lk_512, lk_513, lk_514, lk_515, lk_516, lk_517, lk_518, lk_519, ll_505, ll_506, ll_507, ll_508, ll_509, ll_510, ll_511, ll_512, ll_513, ll_514, ll_515, ll_516, ll_517, ll_518, ll_519, c4, t1]
  · by_cases c5 : s = 5
    · rw [if_neg c4, if_pos c5] at t1
      simp (disch := omega) only [↓qlet, eq_self, qzg_t, qzb_some, ↓reduceIte, not_or, not_false_eq_true, not_true_eq_false, and_true, true_and, and_self, or_false, false_or, true_or, or_true, and_false, false_and, qlit, qneg, qof, qn_add, qn_mul, qn_s, qn_z, qn_d, qn_dz, qm_1, qt_1, qt_0, qb_0, qb_1, qb_01, qb01b, q01_0, q01_1, qo_s, qo_n, qn_c, qn_le, qn_lt, qn_eq, qn_ne_m, qm_ne_n, qm_lt, qm_le, qn_lt_m, qn_le_m, qn_sub, qn_div, qn_mod, qle_t, qle_f, qlt_t, qlt_f, qeq_t, qeq_f, Nat.add_sub_cancel, qU_s, qU_a, qU_k, qn_rem, qL_I, qL_s, lk_505, lk_506, lk_507, lk_508, lk_509, lk_510, lk_511, lk_512, lk_513, lk_514, lk_515, lk_516, lk_517, lk_518, lk_519, ll_505, ll_506, ll_507, ll_508, ll_509, ll_510, ll_511, ll_512, ll_513, ll_514, ll_515, ll_516, ll_517, ll_518, ll_519, c5, t1]
    · rw [if_neg c4, if_neg c5] at t1
      simp (disch := omega) only [↓qlet, eq_self, qzg_t, qzb_some, ↓reduceIte, not_or, not_false_eq_true, not_true_eq_false, and_true, true_and, and_self, or_false, false_or, true_or, or_true, and_false, false_and, qlit, qneg, qof, qn_add, qn_mul, qn_s, qn_z, qn_d, qn_dz, qm_1, qt_1, qt_0, qb_0, qb_1, qb_01, qb01b, q01_0, q01_1, qo_s, qo_n, qn_c, qn_le, qn_lt, qn_eq, qn_ne_m, qm_ne_n, qm_lt, qm_le, qn_lt_m, qn_le_m, qn_sub, qn_div, qn_mod, qle_t, qle_f, qlt_t, qlt_f, qeq_t, qeq_f, Nat.add_sub_cancel, qU_s, qU_a, qU_k, qn_rem, qL_I, qL_s, lk_505, lk_506, lk_507, lk_508, lk_509, lk_510, lk_511, lk_512, lk_513, lk_514, lk_515, lk_516, lk_517, lk_518, lk_519, ll_505, ll_506, ll_507, ll_508, ll_509, ll_510, ll_511, ll_512, ll_513, ll_514, ll_515, ll_516, ll_517, ll_518, ll_519, c4, c5, t1]
end
