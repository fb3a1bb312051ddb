/-! THE LAW: a thing is read, all of it -/
section
variable {w : Bool} {I : Nat → Nat → Int32} {W : Nat → Nat → Nat} {G : qG} {V : qV} {f : Bool} {p : Nat}
theorem lThing_258 (hV : qLV I p V f) (hok : qLok G V) (m t l put : Nat) : ∃ J V' f', fL_thing_258 (fL_thing_6 (m + 1)) 505 506 507 510 511 513 514 515 516 517 (qn t) (qn l) (qn put) (qL w I W) = some (qn 0, qL w J W) ∧ qLV J p V' f' ∧ qLok G V' ∧ qFrL I J ∧ (f' = false → f = false ∧ V' = qErr 0 p V) := by
  obtain ⟨J, V', f', j1, j2, j3, j4⟩ := lFails (w := w) (W := W) hV hok.2.2.2.2.2.2.1 0
  have kx := lThing_x (w := w) (W := W) j2 m (t := t) (l := l) (g := 0) (put := put) (by omega) (Or.inl rfl)
  refine ⟨J, V', f', ?_, j2, ?_, j3, fun h => ?_⟩
  · unfold fL_thing_258 fL_thing_268
    simp (disch := omega) only [↓qlet, eq_self, qzg_t, qzb_some, ↓reduceIte, not_or, not_false_eq_true, not_true_eq_false, and_true, true_and, and_self, or_false, false_or, true_or, or_true, and_false, false_and, qlit, qneg, qof, qn_add, qn_mul, qn_s, qn_z, qn_d, qn_dz, qm_1, qt_1, qt_0, qb_0, qb_1, qb_01, qb01b, q01_0, q01_1, qo_s, qo_n, qn_c, qn_le, qn_lt, qn_eq, qn_ne_m, qm_ne_n, qm_lt, qm_le, qn_lt_m, qn_le_m, qn_sub, qn_div, qn_mod, qle_t, qle_f, qlt_t, qlt_f, qeq_t, qeq_f, Nat.add_sub_cancel, qU_s, qU_a, qU_k, qn_rem, qL_I, qL_s, lk_505, lk_506, lk_507, lk_508, lk_509, lk_510, lk_511, lk_512, lk_513, lk_514, lk_515, lk_516, lk_517, lk_518, lk_519, ll_505, ll_506, ll_507, ll_508, ll_509, ll_510, ll_511, ll_512, ll_513, ll_514, ll_515, ll_516, ll_517, ll_518, ll_519, j1, kx]
  · rcases j4 with ⟨q1, q2⟩ | ⟨q1, q2, q3⟩
    · rw [q1]; exact hok
    · subst q1
      obtain ⟨o1, o2, o3, o4, o5, o6, o7, o8⟩ := hok
      exact ⟨o1, o2, o3, o4, o5, o6, by show V.2.2.2.2.2.length + 1 ≤ 60; omega, o8⟩
  · rcases j4 with ⟨q1, q2⟩ | ⟨q1, q2, q3⟩
    · rw [q2] at h; cases h
    · exact ⟨q2.symm.trans h, q1⟩
theorem qWant_nil {Z : qZ} (h : Z.1 = []) : qWant G Z = none := by
  unfold qWant qGoes
  rw [h]
  simp only [qOnly_0]
theorem lXa (hG : qLG G I) {e : Nat} (he : e < 5) : qt (I 507 e) 20 = qgA G e ∧ qt (I 507 e) 21 = qgB G e := by
  obtain ⟨-, -, -, y, z, i1, i2, i3, i4, i5⟩ := hG e he
  rw [i5]
  exact ⟨(qx_2 i1 i2 (t := 0) (by decide)).trans (qx_ab _ _).1, (qx_2 i1 i2 (t := 1) (by decide)).trans (qx_ab _ _).2⟩
theorem lThing_6 (hg : qGok G) {t l : Nat} (ht : t < 5 ∨ t = 10) : ∀ n put V f I m, 2 * (8 - put) + V.1.1.length + (if V.1.2 = none then 2 else 0) < n → n < m → put ≤ 8 → qLG G I → qLV I p V f → qLok G V → ∃ J V' f', fL_thing_6 m 505 506 507 510 511 513 514 515 516 517 (qn t) (qn l) (qn 1) (qn put) (qL w I W) = some (qn 0, qL w J W) ∧ qLV J p V' f' ∧ qLok G V' ∧ qFrL I J ∧ (f' = false → f = false ∧ qRead G t l p n put V = some V') := by
  intro n
  induction n with
  | zero => intro put V f I m h; omega
  | succ n ih =>
    intro put V f I m hn hm hput hG hV hok
    obtain ⟨m, rfl⟩ : ∃ q, m = q + 2 := ⟨m - 2, by omega⟩
    cases f with
    | true => exact ⟨I, V, true, lThing_x hV (m + 1) (by omega) (Or.inr rfl), hV, hok, qFrL_refl I, fun h => (by cases h)⟩
    | false =>
    have hR : qRead G t l p (n + 1) put V = match qAcc G V.1 t with
        | some Z => some (if t < 10 then qOpen G t p false (qTo Z V) else qPut 10 l p false (qTo Z V))
        | none => if V.1.2 = none ∧ qgA G 0 = true then qRead G t l p n put (qOpen G 0 p true V) else
          match (if put < 8 then qWant G V.1 else none) with
          | some e => qRead G t l p n (put + 1) (qOpen G e p true (qTo ((qAcc G V.1 e).getD V.1) V))
          | none => if qMay G V.1 = true then qRead G t l p n put (qShut V) else some (qErr 0 p V) := by
      have h1 := hok.1
      have h2 := hok.2.2.2.2.2.1
      show (if 300 ≤ V.2.2.1.length ∨ t < 10 ∧ 20 ≤ V.1.1.length then _ else _) = _
      rw [if_neg (by omega)]
      rfl
    have key : ∃ J V' f', fL_thing_38 (fL_thing_6 (m + 1)) 505 506 507 510 511 513 514 515 516 517 (qn t) (qn l) (qn 1) (qn put) (qo (if put < 8 then qWant G V.1 else none)) (qL w I W) = some (qn 0, qL w J W) ∧ qLV J p V' f' ∧ qLok G V' ∧ qFrL I J ∧ (f' = false → qRead G t l p (n + 1) put V = some V') := by
      obtain ⟨J1, j1, j2, j3⟩ := lTakes (w := w) (W := W) hG hV hok (show t ≤ 10 by omega)
      have hG1 := qFrL_G j3 hG
      rw [hR]
      unfold fL_thing_38
      cases hA : qAcc G V.1 t with
      | some Z =>
        rw [hA, Option.isSome_some, qb_t] at j1
        rw [hA, Option.getD_some] at j2
        have hokZ := lTo_ok hok Z hA
        rcases ht with ht | rfl
        · obtain ⟨K, V2, f2, k1, k2, k3, k4, k5⟩ := lOpen (w := w) (W := W) hG1 j2 hokZ ht false
          rw [qb_f] at k1
          have kx := lThing_x (w := w) (W := W) k2 m (t := t) (l := l) (g := 0) (put := put) (by omega) (Or.inl rfl)
          refine ⟨K, V2, f2, ?_, k2, k3, qFrL_tr j3 k4, fun h => ?_⟩
          · simp (disch := omega) only [↓qlet, eq_self, qzg_t, qzb_some, ↓reduceIte, not_or, not_false_eq_true, not_true_eq_false, and_true, true_and, and_self, or_false, false_or, true_or, or_true, and_false, false_and, qlit, qneg, qof, qn_add, qn_mul, qn_s, qn_z, qn_d, qn_dz, qm_1, qt_1, qt_0, qb_0, qb_1, qb_01, qb01b, q01_0, q01_1, qo_s, qo_n, qn_c, qn_le, qn_lt, qn_eq, qn_ne_m, qm_ne_n, qm_lt, qm_le, qn_lt_m, qn_le_m, qn_sub, qn_div, qn_mod, qle_t, qle_f, qlt_t, qlt_f, qeq_t, qeq_f, Nat.add_sub_cancel, qU_s, qU_a, qU_k, qn_rem, qL_I, qL_s, lk_505, lk_506, lk_507, lk_508, lk_509, lk_510, lk_511, lk_512, lk_513, lk_514, lk_515, lk_516, lk_517, lk_518, lk_519, ll_505, ll_506, ll_507, ll_508, ll_509, ll_510, ll_511, ll_512, ll_513, ll_514, ll_515, ll_516, ll_517, ll_518, ll_519, j1, k1, fL_thing_100, fL_thing_268, kx]
          · obtain ⟨q1, q2⟩ := k5 h
            dsimp only
            rw [q2, if_pos (by omega)]
        · obtain ⟨K, V2, f2, k1, k2, k3, k4⟩ := lPut (w := w) (W := W) j2 hokZ.2.1 hokZ.1 hokZ.2.2.2.2.2.1 10 l false
          simp only [Bool.false_eq_true, if_false, Nat.mul_zero, Nat.add_zero] at k1
          have kx := lThing_x (w := w) (W := W) k2 m (t := 10) (l := l) (g := 0) (put := put) (by omega) (Or.inl rfl)
          refine ⟨K, V2, f2, ?_, k2, ?_, qFrL_tr j3 k3, fun h => ?_⟩
          · simp (disch := omega) only [↓qlet, eq_self, qzg_t, qzb_some, ↓reduceIte, not_or, not_false_eq_true, not_true_eq_false, and_true, true_and, and_self, or_false, false_or, true_or, or_true, and_false, false_and, qlit, qneg, qof, qn_add, qn_mul, qn_s, qn_z, qn_d, qn_dz, qm_1, qt_1, qt_0, qb_0, qb_1, qb_01, qb01b, q01_0, q01_1, qo_s, qo_n, qn_c, qn_le, qn_lt, qn_eq, qn_ne_m, qm_ne_n, qm_lt, qm_le, qn_lt_m, qn_le_m, qn_sub, qn_div, qn_mod, qle_t, qle_f, qlt_t, qlt_f, qeq_t, qeq_f, Nat.add_sub_cancel, qU_s, qU_a, qU_k, qn_rem, qL_I, qL_s, lk_505, lk_506, lk_507, lk_508, lk_509, lk_510, lk_511, lk_512, lk_513, lk_514, lk_515, lk_516, lk_517, lk_518, lk_519, ll_505, ll_506, ll_507, ll_508, ll_509, ll_510, ll_511, ll_512, ll_513, ll_514, ll_515, ll_516, ll_517, ll_518, ll_519, j1, k1, fL_thing_100, fL_thing_268, kx]
          · rcases k4 with ⟨q1, q2, q3⟩ | ⟨q1, q2, q3⟩
            · rw [q1]; exact hokZ
            · subst q1
              obtain ⟨o1, o2, o3, o4, o5, o6, o7, o8⟩ := hokZ
              exact ⟨o1, o2, o3, o4, o5, by show (qTo Z V).2.2.1.length + 1 ≤ 60; omega, o7, o8⟩
          · rcases k4 with ⟨q1, q2, q3⟩ | ⟨q1, q2, q3⟩
            · rw [q2] at h; cases h
            · dsimp only
              rw [q1, if_neg (by omega)]
      | none =>
        rw [hA, Option.isSome_none, qb_f] at j1
        have j2 : qLV J1 p V false := by rw [hA] at j2; exact j2
        have k144 : ∃ J V' f', fL_thing_144 (fL_thing_6 (m + 1)) 505 506 507 510 511 513 514 515 516 517 (qn t) (qn l) (qn 1) (qn put) (qo (if put < 8 then qWant G V.1 else none)) (qL w J1 W) = some (qn 0, qL w J W) ∧ qLV J p V' f' ∧ qLok G V' ∧ qFrL J1 J ∧ (f' = false → (match (if put < 8 then qWant G V.1 else none) with
              | some e => qRead G t l p n (put + 1) (qOpen G e p true (qTo ((qAcc G V.1 e).getD V.1) V))
              | none => if qMay G V.1 = true then qRead G t l p n put (qShut V) else some (qErr 0 p V)) = some V') := by
          have h1 := j2.1
          have h10 := j2.2.2.2.2.2.2.2.2.2.1
          obtain ⟨F, F1, F2, f1, f2, f3, f4, f5⟩ := lThing_258 (w := w) (W := W) j2 hok m t l put
          unfold fL_thing_144
          cases hw : (if put < 8 then qWant G V.1 else none) with
          | none =>
            have hm0 : (qm < qn 0) = True := qm_lt (by omega)
            cases hst : V.1.1 with
            | nil =>
              rw [hst, List.length_nil] at h1
              refine ⟨F, F1, F2, ?_, f2, f3, f4, fun h => ?_⟩
              · simp (disch := omega) only [↓qlet, eq_self, qzg_t, qzb_some, ↓reduceIte, not_or, not_false_eq_true, not_true_eq_false, and_true, true_and, and_self, or_false, false_or, true_or, or_true, and_false, false_and, qlit, qneg, qof, qn_add, qn_mul, qn_s, qn_z, qn_d, qn_dz, qm_1, qt_1, qt_0, qb_0, qb_1, qb_01, qb01b, q01_0, q01_1, qo_s, qo_n, qn_c, qn_le, qn_lt, qn_eq, qn_ne_m, qm_ne_n, qm_lt, qm_le, qn_lt_m, qn_le_m, qn_sub, qn_div, qn_mod, qle_t, qle_f, qlt_t, qlt_f, qeq_t, qeq_f, Nat.add_sub_cancel, qU_s, qU_a, qU_k, qn_rem, qL_I, qL_s, lk_505, lk_506, lk_507, lk_508, lk_509, lk_510, lk_511, lk_512, lk_513, lk_514, lk_515, lk_516, lk_517, lk_518, lk_519, ll_505, ll_506, ll_507, ll_508, ll_509, ll_510, ll_511, ll_512, ll_513, ll_514, ll_515, ll_516, ll_517, ll_518, ll_519, hm0, h1, f1, Nat.zero_le]
              · dsimp only
                rw [(f5 h).2, if_neg]
                unfold qMay
                rw [hst]
                exact Bool.false_ne_true
            | cons x st =>
              rw [hst] at h1 h10
              simp only [List.length_cons] at h1
              cases hst2 : st with
              | nil =>
                rw [hst2, List.length_nil] at h1
                refine ⟨F, F1, F2, ?_, f2, f3, f4, fun h => ?_⟩
                · simp (disch := omega) only [↓qlet, eq_self, qzg_t, qzb_some, ↓reduceIte, not_or, not_false_eq_true, not_true_eq_false, and_true, true_and, and_self, or_false, false_or, true_or, or_true, and_false, false_and, qlit, qneg, qof, qn_add, qn_mul, qn_s, qn_z, qn_d, qn_dz, qm_1, qt_1, qt_0, qb_0, qb_1, qb_01, qb01b, q01_0, q01_1, qo_s, qo_n, qn_c, qn_le, qn_lt, qn_eq, qn_ne_m, qm_ne_n, qm_lt, qm_le, qn_lt_m, qn_le_m, qn_sub, qn_div, qn_mod, qle_t, qle_f, qlt_t, qlt_f, qeq_t, qeq_f, Nat.add_sub_cancel, qU_s, qU_a, qU_k, qn_rem, qL_I, qL_s, lk_505, lk_506, lk_507, lk_508, lk_509, lk_510, lk_511, lk_512, lk_513, lk_514, lk_515, lk_516, lk_517, lk_518, lk_519, ll_505, ll_506, ll_507, ll_508, ll_509, ll_510, ll_511, ll_512, ll_513, ll_514, ll_515, ll_516, ll_517, ll_518, ll_519, hm0, h1, f1, Nat.le_refl]
                · dsimp only
                  rw [(f5 h).2, if_neg]
                  unfold qMay
                  rw [hst, hst2]
                  exact Bool.false_ne_true
              | cons y st2 =>
                have hl9 := hok.1
                obtain ⟨b1, b2⟩ := hok.2.2.1 x (by rw [hst]; exact List.mem_cons_self)
                have hmay : qMay G V.1 = (qgB G x.1 && qrEnd G x.1 x.2) := by unfold qMay; rw [hst, hst2]
                have hends := lEnds (w := w) (W := W) hG1 b1 b2
                have hB := (lXa hG1 b1).2
                have a1 := h10.1
                have h4 := (hG x.1 b1).2.1
                have e1 : (16 * x.1 + x.2) / 16 = x.1 := by omega
                rw [hst, hst2] at hl9
                simp only [List.length_cons] at hl9
                have hs := lShutV j2 hst
                have h5 := j2.2.2.2.2.1
                rw [hst2] at h1 a1 hs
                simp only [List.length_cons] at h1 a1 hs
                have c1 : ¬ st2.length + 1 + 1 ≤ 1 := by omega
                cases hE : qrEnd G x.1 x.2 with
                | false =>
                  rw [hE, qb_f] at hends
                  rw [hE, Bool.and_false] at hmay
                  refine ⟨F, F1, F2, ?_, f2, f3, f4, fun h => ?_⟩
                  · simp (disch := omega) only [↓qlet, eq_self, qzg_t, qzb_some, ↓reduceIte, not_or, not_false_eq_true, not_true_eq_false, and_true, true_and, and_self, or_false, false_or, true_or, or_true, and_false, false_and, qlit, qneg, qof, qn_add, qn_mul, qn_s, qn_z, qn_d, qn_dz, qm_1, qt_1, qt_0, qb_0, qb_1, qb_01, qb01b, q01_0, q01_1, qo_s, qo_n, qn_c, qn_le, qn_lt, qn_eq, qn_ne_m, qm_ne_n, qm_lt, qm_le, qn_lt_m, qn_le_m, qn_sub, qn_div, qn_mod, qle_t, qle_f, qlt_t, qlt_f, qeq_t, qeq_f, Nat.add_sub_cancel, qU_s, qU_a, qU_k, qn_rem, qL_I, qL_s, lk_505, lk_506, lk_507, lk_508, lk_509, lk_510, lk_511, lk_512, lk_513, lk_514, lk_515, lk_516, lk_517, lk_518, lk_519, ll_505, ll_506, ll_507, ll_508, ll_509, ll_510, ll_511, ll_512, ll_513, ll_514, ll_515, ll_516, ll_517, ll_518, ll_519, hm0, h1, c1, a1, hends, f1]
                  · dsimp only
                    rw [(f5 h).2, if_neg (by rw [hmay]; decide)]
                | true =>
                  rw [hE, qb_t] at hends
                  rw [hE, Bool.and_true] at hmay
                  cases hBb : qgB G x.1 with
                  | false =>
                    rw [hBb] at hB hmay
                    refine ⟨F, F1, F2, ?_, f2, f3, f4, fun h => ?_⟩
                    · simp (disch := omega) only [↓qlet, eq_self, qzg_t, qzb_some, ↓reduceIte, not_or, not_false_eq_true, not_true_eq_false, and_true, true_and, and_self, or_false, false_or, true_or, or_true, and_false, false_and, qlit, qneg, qof, qn_add, qn_mul, qn_s, qn_z, qn_d, qn_dz, qm_1, qt_1, qt_0, qb_0, qb_1, qb_01, qb01b, q01_0, q01_1, qo_s, qo_n, qn_c, qn_le, qn_lt, qn_eq, qn_ne_m, qm_ne_n, qm_lt, qm_le, qn_lt_m, qn_le_m, qn_sub, qn_div, qn_mod, qle_t, qle_f, qlt_t, qlt_f, qeq_t, qeq_f, Nat.add_sub_cancel, qU_s, qU_a, qU_k, qn_rem, qL_I, qL_s, lk_505, lk_506, lk_507, lk_508, lk_509, lk_510, lk_511, lk_512, lk_513, lk_514, lk_515, lk_516, lk_517, lk_518, lk_519, ll_505, ll_506, ll_507, ll_508, ll_509, ll_510, ll_511, ll_512, ll_513, ll_514, ll_515, ll_516, ll_517, ll_518, ll_519, hm0, h1, c1, a1, e1, hends, hB, f1, Bool.false_eq_true]
                    · dsimp only
                      rw [(f5 h).2, if_neg (by rw [hmay]; decide)]
                  | true =>
                    rw [hBb] at hB hmay
                    have hlen : (qShut V).1.1.length = st2.length + 1 := by
                      show V.1.1.tail.length = _
                      rw [hst, hst2]; rfl
                    have hla2 : ¬ V.1.2 = none := fun h => by
                      have := hok.2.2.2.2.1 h
                      rw [hst] at this; cases this
                    rw [if_neg hla2, hst, hst2] at hn
                    simp only [List.length_cons] at hn
                    obtain ⟨K, V2, f2', k1, k2, k3, k4, k5⟩ := ih put (qShut V) false _ (m + 1) (by
                      rw [hlen, if_neg (show ¬ (qShut V).1.2 = none from hla2)]; omega) (by omega) hput (qFrL_G hs.2 hG1) hs.1 (lShut_ok hok)
                    refine ⟨K, V2, f2', ?_, k2, k3, qFrL_tr hs.2 k4, fun h => ?_⟩
                    · simp (disch := omega) only [↓qlet, eq_self, qzg_t, qzb_some, ↓reduceIte, not_or, not_false_eq_true, not_true_eq_false, and_true, true_and, and_self, or_false, false_or, true_or, or_true, and_false, false_and, qlit, qneg, qof, qn_add, qn_mul, qn_s, qn_z, qn_d, qn_dz, qm_1, qt_1, qt_0, qb_0, qb_1, qb_01, qb01b, q01_0, q01_1, qo_s, qo_n, qn_c, qn_le, qn_lt, qn_eq, qn_ne_m, qm_ne_n, qm_lt, qm_le, qn_lt_m, qn_le_m, qn_sub, qn_div, qn_mod, qle_t, qle_f, qlt_t, qlt_f, qeq_t, qeq_f, Nat.add_sub_cancel, qU_s, qU_a, qU_k, qn_rem, qL_I, qL_s, lk_505, lk_506, lk_507, lk_508, lk_509, lk_510, lk_511, lk_512, lk_513, lk_514, lk_515, lk_516, lk_517, lk_518, lk_519, ll_505, ll_506, ll_507, ll_508, ll_509, ll_510, ll_511, ll_512, ll_513, ll_514, ll_515, ll_516, ll_517, ll_518, ll_519, hm0, h1, c1, a1, e1, hends, hB, h5, fL_thing_268, k1]
                    · dsimp only
                      rw [if_pos hmay]
                      exact (k5 h).2
          | some e =>
            have c8 : put < 8 := by
              by_cases c8 : put < 8
              · exact c8
              · rw [if_neg c8] at hw; cases hw
            rw [if_pos c8] at hw
            have he := lWant_5 hG1 hok hw
            cases hst : V.1.1 with
            | nil => rw [qWant_nil hst] at hw; cases hw
            | cons x st =>
              have hl9 := hok.1
              obtain ⟨b1, b2⟩ := hok.2.2.1 x (by rw [hst]; exact List.mem_cons_self)
              have hla2 : ¬ V.1.2 = none := fun h => by
                have := hok.2.2.2.2.1 h
                rw [hst] at this; cases this
              obtain ⟨j, hj, hacc⟩ := lWant_some hst hla2 hw
              have hstep := lStep (w := w) (W := W) hG1 b1 b2 (show e < 11 by omega)
              rw [hj] at hstep
              dsimp only at hstep
              have htop := qLV_top j2 hst hok.2.1 hok.1 (2 * j + 1)
              have hokT := lTo_ok hok _ hacc
              obtain ⟨K, V2, f2', k1, k2, k3, k4, k5⟩ := lOpen (w := w) (W := W) (qFrL_G htop.2 hG1) htop.1 hokT he true
              rw [qb_t] at k1
              rw [hst] at h1 h10 hl9 hn
              simp only [List.length_cons] at h1 hl9 hn
              have a1 := h10.1
              have e1 : 16 * x.1 + (2 * j + 1) = 16 * x.1 + 2 * j + 1 := by omega
              rw [e1] at k1
              have k6 : ∃ K' V' f'', fL_thing_6 (m + 1) 505 506 507 510 511 513 514 515 516 517 (qn t) (qn l) (qn 1) (qn (put + 1)) (qL w K W) = some (qn 0, qL w K' W) ∧ qLV K' p V' f'' ∧ qLok G V' ∧ qFrL K K' ∧ (f'' = false → qRead G t l p n (put + 1) (qOpen G e p true (qTo ((x.1, 2 * j + 1) :: st, V.1.2) V)) = some V') := by
                cases f2' with
                | true => exact ⟨K, V2, true, lThing_x k2 m (by omega) (Or.inr rfl), k2, k3, qFrL_refl K, fun h => (by cases h)⟩
                | false =>
                  have hV2 := (k5 rfl).2
                  have hl2 : V2.1.1.length ≤ st.length + 2 ∧ ¬ V2.1.2 = none := by
                    rw [hV2]
                    refine ⟨?_, fun h => by cases h⟩
                    show (if qgN G e = 0 then _ else _ : List (Nat × Nat)).length ≤ _
                    split
                    · show st.length + 1 ≤ _; omega
                    · show st.length + 1 + 1 ≤ _; omega
                  rw [if_neg hla2] at hn
                  obtain ⟨K', V', f'', m1, m2, m3, m4, m5⟩ := ih (put + 1) V2 false K (m + 1) (by rw [if_neg hl2.2]; omega) (by omega) (by omega) (qFrL_G k4 (qFrL_G htop.2 hG1)) k2 k3
                  refine ⟨K', V', f'', m1, m2, m3, m4, fun h => ?_⟩
                  rw [← hV2]
                  exact (m5 h).2
              obtain ⟨K', V', f'', m1, m2, m3, m4, m5⟩ := k6
              refine ⟨K', V', f'', ?_, m2, m3, qFrL_tr htop.2 (qFrL_tr k4 m4), fun h => ?_⟩
              · rw [qo_s]
                simp (disch := omega) only [↓qlet, eq_self, qzg_t, qzb_some, ↓reduceIte, not_or, not_false_eq_true, not_true_eq_false, and_true, true_and, and_self, or_false, false_or, true_or, or_true, and_false, false_and, qlit, qneg, qof, qn_add, qn_mul, qn_s, qn_z, qn_d, qn_dz, qm_1, qt_1, qt_0, qb_0, qb_1, qb_01, qb01b, q01_0, q01_1, qo_s, qo_n, qn_c, qn_le, qn_lt, qn_eq, qn_ne_m, qm_ne_n, qm_lt, qm_le, qn_lt_m, qn_le_m, qn_sub, qn_div, qn_mod, qle_t, qle_f, qlt_t, qlt_f, qeq_t, qeq_f, Nat.add_sub_cancel, qU_s, qU_a, qU_k, qn_rem, qL_I, qL_s, lk_505, lk_506, lk_507, lk_508, lk_509, lk_510, lk_511, lk_512, lk_513, lk_514, lk_515, lk_516, lk_517, lk_518, lk_519, ll_505, ll_506, ll_507, ll_508, ll_509, ll_510, ll_511, ll_512, ll_513, ll_514, ll_515, ll_516, ll_517, ll_518, ll_519, h1, a1, hstep, k1, fL_thing_268, m1]
              · dsimp only
                rw [hacc, Option.getD_some]
                exact m5 h
        obtain ⟨F, F1, F2, f1, f2, f3, f4, f5⟩ := k144
        have h3 := j2.2.2.1
        by_cases hla : V.1.2 = none
        · rw [hla] at h3
          simp only [qany] at h3
          have hA0 := (lXa hG1 (show 0 < 5 by omega)).1
          cases hA00 : qgA G 0 with
          | false =>
            rw [hA00] at hA0
            refine ⟨F, F1, F2, ?_, f2, f3, qFrL_tr j3 f4, fun h => ?_⟩
            · simp (disch := omega) only [↓qlet, eq_self, qzg_t, qzb_some, ↓reduceIte, not_or, not_false_eq_true, not_true_eq_false, and_true, true_and, and_self, or_false, false_or, true_or, or_true, and_false, false_and, qlit, qneg, qof, qn_add, qn_mul, qn_s, qn_z, qn_d, qn_dz, qm_1, qt_1, qt_0, qb_0, qb_1, qb_01, qb01b, q01_0, q01_1, qo_s, qo_n, qn_c, qn_le, qn_lt, qn_eq, qn_ne_m, qm_ne_n, qm_lt, qm_le, qn_lt_m, qn_le_m, qn_sub, qn_div, qn_mod, qle_t, qle_f, qlt_t, qlt_f, qeq_t, qeq_f, Nat.add_sub_cancel, qU_s, qU_a, qU_k, qn_rem, qL_I, qL_s, lk_505, lk_506, lk_507, lk_508, lk_509, lk_510, lk_511, lk_512, lk_513, lk_514, lk_515, lk_516, lk_517, lk_518, lk_519, ll_505, ll_506, ll_507, ll_508, ll_509, ll_510, ll_511, ll_512, ll_513, ll_514, ll_515, ll_516, ll_517, ll_518, ll_519, j1, h3, hA0, f1, Bool.false_eq_true]
            · dsimp only
              rw [if_neg (fun h => Bool.false_ne_true h.2)]
              exact f5 h
          | true =>
            rw [hA00] at hA0
            have hnil := hok.2.2.2.2.1 hla
            obtain ⟨K, V2, f2', k1, k2, k3, k4, k5⟩ := lOpen (w := w) (W := W) hG1 j2 hok (show 0 < 5 by omega) true
            rw [qb_t] at k1
            have k6 : ∃ K' V' f'', fL_thing_6 (m + 1) 505 506 507 510 511 513 514 515 516 517 (qn t) (qn l) (qn 1) (qn put) (qL w K W) = some (qn 0, qL w K' W) ∧ qLV K' p V' f'' ∧ qLok G V' ∧ qFrL K K' ∧ (f'' = false → qRead G t l p n put (qOpen G 0 p true V) = some V') := by
              cases f2' with
              | true => exact ⟨K, V2, true, lThing_x k2 m (by omega) (Or.inr rfl), k2, k3, qFrL_refl K, fun h => (by cases h)⟩
              | false =>
                have hV2 := (k5 rfl).2
                have hl2 : V2.1.1.length ≤ 1 ∧ ¬ V2.1.2 = none := by
                  rw [hV2]
                  refine ⟨?_, fun h => by cases h⟩
                  show (if qgN G 0 = 0 then V.1.1 else (0, 0) :: V.1.1 : List (Nat × Nat)).length ≤ _
                  rw [hnil]
                  split <;> simp
                rw [if_pos hla, hnil, List.length_nil] at hn
                obtain ⟨K', V', f'', m1, m2, m3, m4, m5⟩ := ih put V2 false K (m + 1) (by rw [if_neg hl2.2]; omega) (by omega) hput (qFrL_G k4 hG1) k2 k3
                refine ⟨K', V', f'', m1, m2, m3, m4, fun h => ?_⟩
                rw [← hV2]
                exact (m5 h).2
            obtain ⟨K', V', f'', m1, m2, m3, m4, m5⟩ := k6
            refine ⟨K', V', f'', ?_, m2, m3, qFrL_tr j3 (qFrL_tr k4 m4), fun h => ?_⟩
            · simp (disch := omega) only [↓qlet, eq_self, qzg_t, qzb_some, ↓reduceIte, not_or, not_false_eq_true, not_true_eq_false, and_true, true_and, and_self, or_false, false_or, true_or, or_true, and_false, false_and, qlit, qneg, qof, qn_add, qn_mul, qn_s, qn_z, qn_d, qn_dz, qm_1, qt_1, qt_0, qb_0, qb_1, qb_01, qb01b, q01_0, q01_1, qo_s, qo_n, qn_c, qn_le, qn_lt, qn_eq, qn_ne_m, qm_ne_n, qm_lt, qm_le, qn_lt_m, qn_le_m, qn_sub, qn_div, qn_mod, qle_t, qle_f, qlt_t, qlt_f, qeq_t, qeq_f, Nat.add_sub_cancel, qU_s, qU_a, qU_k, qn_rem, qL_I, qL_s, lk_505, lk_506, lk_507, lk_508, lk_509, lk_510, lk_511, lk_512, lk_513, lk_514, lk_515, lk_516, lk_517, lk_518, lk_519, ll_505, ll_506, ll_507, ll_508, ll_509, ll_510, ll_511, ll_512, ll_513, ll_514, ll_515, ll_516, ll_517, ll_518, ll_519, j1, h3, hA0, k1, fL_thing_268, m1]
            · dsimp only
              rw [if_pos ⟨hla, rfl⟩]
              exact m5 h
        · obtain ⟨q, hq⟩ : ∃ q, V.1.2 = some q := by
            cases hq : V.1.2 with
            | none => exact absurd hq hla
            | some q => exact ⟨q, rfl⟩
          rw [hq] at h3
          simp only [qany] at h3
          refine ⟨F, F1, F2, ?_, f2, f3, qFrL_tr j3 f4, fun h => ?_⟩
          · simp (disch := omega) only [↓qlet, eq_self, qzg_t, qzb_some, ↓reduceIte, not_or, not_false_eq_true, not_true_eq_false, and_true, true_and, and_self, or_false, false_or, true_or, or_true, and_false, false_and, qlit, qneg, qof, qn_add, qn_mul, qn_s, qn_z, qn_d, qn_dz, qm_1, qt_1, qt_0, qb_0, qb_1, qb_01, qb01b, q01_0, q01_1, qo_s, qo_n, qn_c, qn_le, qn_lt, qn_eq, qn_ne_m, qm_ne_n, qm_lt, qm_le, qn_lt_m, qn_le_m, qn_sub, qn_div, qn_mod, qle_t, qle_f, qlt_t, qlt_f, qeq_t, qeq_f, Nat.add_sub_cancel, qU_s, qU_a, qU_k, qn_rem, qL_I, qL_s, lk_505, lk_506, lk_507, lk_508, lk_509, lk_510, lk_511, lk_512, lk_513, lk_514, lk_515, lk_516, lk_517, lk_518, lk_519, ll_505, ll_506, ll_507, ll_508, ll_509, ll_510, ll_511, ll_512, ll_513, ll_514, ll_515, ll_516, ll_517, ll_518, ll_519, j1, h3, f1]
          · dsimp only
            rw [if_neg (fun h => hla h.1)]
            exact f5 h
    obtain ⟨J, V', f', k1, k2, k3, k4, k5⟩ := key
    have h6 := hV.2.2.2.2.2.2.1
    rw [qb_f] at h6
    refine ⟨J, V', f', ?_, k2, k3, k4, fun h => ⟨rfl, k5 h⟩⟩
    unfold fL_thing_6
    by_cases c8 : put < 8
    · rw [if_pos c8] at k1
      have hwn := lWanted (w := w) (W := W) hg hG hV hok
      simp (disch := omega) only [↓qlet, eq_self, qzg_t, qzb_some, ↓reduceIte, not_or, not_false_eq_true, not_true_eq_false, and_true, true_and, and_self, or_false, false_or, true_or, or_true, and_false, false_and, qlit, qneg, qof, qn_add, qn_mul, qn_s, qn_z, qn_d, qn_dz, qm_1, qt_1, qt_0, qb_0, qb_1, qb_01, qb01b, q01_0, q01_1, qo_s, qo_n, qn_c, qn_le, qn_lt, qn_eq, qn_ne_m, qm_ne_n, qm_lt, qm_le, qn_lt_m, qn_le_m, qn_sub, qn_div, qn_mod, qle_t, qle_f, qlt_t, qlt_f, qeq_t, qeq_f, Nat.add_sub_cancel, qU_s, qU_a, qU_k, qn_rem, qL_I, qL_s, lk_505, lk_506, lk_507, lk_508, lk_509, lk_510, lk_511, lk_512, lk_513, lk_514, lk_515, lk_516, lk_517, lk_518, lk_519, ll_505, ll_506, ll_507, ll_508, ll_509, ll_510, ll_511, ll_512, ll_513, ll_514, ll_515, ll_516, ll_517, ll_518, ll_519, h6, hwn, k1]
    · rw [if_neg c8, qo_n] at k1
      have c9 : 8 ≤ put := by omega
      simp (disch := omega) only [↓qlet, eq_self, qzg_t, qzb_some, ↓reduceIte, not_or, not_false_eq_true, not_true_eq_false, and_true, true_and, and_self, or_false, false_or, true_or, or_true, and_false, false_and, qlit, qneg, qof, qn_add, qn_mul, qn_s, qn_z, qn_d, qn_dz, qm_1, qt_1, qt_0, qb_0, qb_1, qb_01, qb01b, q01_0, q01_1, qo_s, qo_n, qn_c, qn_le, qn_lt, qn_eq, qn_ne_m, qm_ne_n, qm_lt, qm_le, qn_lt_m, qn_le_m, qn_sub, qn_div, qn_mod, qle_t, qle_f, qlt_t, qlt_f, qeq_t, qeq_f, Nat.add_sub_cancel, qU_s, qU_a, qU_k, qn_rem, qL_I, qL_s, lk_505, lk_506, lk_507, lk_508, lk_509, lk_510, lk_511, lk_512, lk_513, lk_514, lk_515, lk_516, lk_517, lk_518, lk_519, ll_505, ll_506, ll_507, ll_508, ll_509, ll_510, ll_511, ll_512, ll_513, ll_514, ll_515, ll_516, ll_517, ll_518, ll_519, h6, c9, k1]
theorem lThing (hg : qGok G) {t l : Nat} (ht : t < 5 ∨ t = 10) (hG : qLG G I) (hV : qLV I p V f) (hok : qLok G V) : ∃ J V' f', fL_thing 505 506 507 510 511 513 514 515 516 517 (qn t) (qn l) (qL w I W) = some (qn 0, qL w J W) ∧ qLV J p V' f' ∧ qLok G V' ∧ qFrL I J ∧ (f' = false → f = false ∧ V' = qRd G t l p V) := by
  have hl := hok.1
  obtain ⟨J, V', f', j1, j2, j3, j4, j5⟩ := lThing_6 (w := w) (W := W) (p := p) (l := l) hg ht 100 0 V f I 10000 (by split <;> omega) (by omega) (by omega) hG hV hok
  refine ⟨J, V', f', j1, j2, j3, j4, fun h => ?_⟩
  obtain ⟨q1, q2⟩ := j5 h
  refine ⟨q1, ?_⟩
  unfold qRd
  rw [q2]
  rfl
end
