/-! THE LAW: it changes entities and switches -/
section
variable {w : Bool} {I : Nat → Nat → Int32} {W : Nat → Nat → Nat} {A : qA}
theorem lTurn_0 (hA : qCA w I A) (hL : qLI I A) {u : Nat} (hu : u < 100000000) : qGr w I W A (fL_isTurned 1 508 509 (qn 0) (qn u) (qL w I W)) := by
  obtain ⟨hG, ⟨t1, t2, t3⟩, hEn, hSw⟩ := hL
  have he : u % 2 < 2 := Nat.mod_lt _ (by decide)
  have ht : u / 2 % 3 < 3 := Nat.mod_lt _ (by decide)
  obtain ⟨s1, s2⟩ := hSw _ he
  obtain ⟨I1, hI1⟩ : ∃ I1, I1 = qU I 508 (10 + u % 2) (qn (u / 2 % 3)) := ⟨_, rfl⟩
  have r0 : ∀ a, a ≠ 508 → I1 a = I a := fun a ha => by rw [hI1, qU_r ha]
  have hCA1 : qCA w I1 A := qCA_st hA fun a ha => r0 a (by omega)
  obtain ⟨w2, J, c1, c2⟩ := cFlip (w := w) (I := I1) hCA1 (qn (u % 2)) (qn (u / 2 % 3))
  have hq : qoFlip A (qn (u % 2)) (qn (u / 2 % 3)) = (0, qn (A.2.1 (u % 2)), qNew (A.1, (fun y => if y = u % 2 then u / 2 % 3 else A.2.1 y), A.2.2)) := by
    unfold qoFlip
    rw [qin_of (by omega) (show u % 2 < 4 by omega)]
    dsimp only
    rw [qin_of (by omega) ht]
  rw [hq] at c1 c2
  dsimp only at c1 c2
  have hK := qCA_J (I := I1) c2
  have han := cAnew hK
  have ht20 : qJn J I1 509 20 = qn A.2.2.2.1.length := by rw [qJn_r (by omega), r0 509 (by omega)]; exact t1
  have han : fX7_anew 1 (qC w2 (qJn J I1)) = some (qn A.2.2.2.1.length, qC w2 (qJn J I1)) := han
  refine ⟨w2, qJn J I1, _, ?_, hK, ⟨?_, ⟨?_, t2, ?_⟩, ?_, ?_⟩, rfl, fun a ha => by rw [qJn_r (by omega), r0 a (by omega)]⟩
  · have hz : ∀ K : Nat → Nat → Int32, fX7_anew 1 (qC w2 (qJn J I1)) = some (qn A.2.2.2.1.length, qC w2 K) → K = qJn J I1 → True := fun _ _ _ => trivial
    unfold fL_isTurned
    generalize fL_isTurned_84 = F
    simp (disch := omega) only [↓qlet, eq_self, qzg_t, qzb_some, ↓reduceIte, not_or, not_false_eq_true, not_true_eq_false, and_true, true_and, and_self, or_false, false_or, true_or, or_true, and_false, false_and, qlit, qneg, qof, qn_add, qn_mul, qn_s, qn_z, qn_d, qn_dz, qm_1, qt_1, qt_0, qb_0, qb_1, qb_01, qb01b, q01_0, q01_1, qo_s, qo_n, qn_c, qn_le, qn_lt, qn_eq, qn_ne_m, qm_ne_n, qm_lt, qm_le, qn_lt_m, qn_le_m, qn_sub, qn_div, qn_mod, qle_t, qle_f, qlt_t, qlt_f, qeq_t, qeq_f, Nat.add_sub_cancel, qU_s, qU_a, qU_k, qn_rem, qL_I, qL_s, lk_505, lk_506, lk_507, lk_508, lk_509, lk_510, lk_511, lk_512, lk_513, lk_514, lk_515, lk_516, lk_517, lk_518, lk_519, ll_505, ll_506, ll_507, ll_508, ll_509, ll_510, ll_511, ll_512, ll_513, ll_514, ll_515, ll_516, ll_517, ll_518, ll_519, lcut, zbc_0, zbd_0, lCel, lk_1, qJn_r, s1, ← hI1, c1, han, qJn_self, r0, t1]
    try rfl
  · exact qLG_fr hG (by rw [qJn_r (by omega), r0 _ (by omega)]) (by rw [qJn_r (by omega), r0 _ (by omega)]) (by rw [qJn_r (by omega), r0 _ (by omega)])
  · exact ht20
  · intro i k hk
    rw [qJn_r (by omega), r0 509 (by omega)]
    exact t3 i k hk
  · intro e he
    obtain ⟨b1, b2, b3⟩ := hEn e he
    rw [qJn_r (by omega), hI1, qU_k (by omega)]
    refine ⟨b1, b2, fun i k hk => ?_⟩
    rw [qJn_r (by omega), qU_k (by have := (List.getElem?_eq_some_iff.mp hk).1; have b2' : (A.2.2.1 e).length ≤ 4 := b2; have : i < (A.2.2.1 e).length := (List.getElem?_eq_some_iff.mp hk).1; omega)]
    exact b3 i k hk
  · intro j hj
    obtain ⟨b1, b2⟩ := hSw j hj
    rw [qJn_r (by omega), hI1]
    show qU I 508 (10 + u % 2) (qn (u / 2 % 3)) 508 (10 + j) = qn (if j = u % 2 then u / 2 % 3 else A.2.1 j) ∧ (if j = u % 2 then u / 2 % 3 else A.2.1 j) ≤ 2
    by_cases c : j = u % 2
    · rw [if_pos c, c, qU_s]
      exact ⟨rfl, by omega⟩
    · rw [if_neg c, qU_k (by omega)]
      exact ⟨b1, b2⟩
theorem lTurn_84 (hA : qCA w I A) (hL : qLI I A) {u : Nat} (hu : u < 100000000) : qGr w I W A (fL_isTurned_84 1 508 (qn u) (qL w I W)) := by
  obtain ⟨hG, ⟨t1, t2, t3⟩, hEn, hSw⟩ := hL
  have he : u % 2 < 2 := Nat.mod_lt _ (by decide)
  obtain ⟨e1, e2, e3⟩ := hEn _ he
  obtain ⟨I1, hI1⟩ : ∃ I1, I1 = qU I 508 (8 + u % 2) (qn 0) := ⟨_, rfl⟩
  have r0 : ∀ a, a ≠ 508 → I1 a = I a := fun a ha => by rw [hI1, qU_r ha]
  have hCA1 : qCA w I1 A := qCA_st hA fun a ha => r0 a (by omega)
  obtain ⟨w2, J, c1, c2⟩ := cClear (w := w) (I := I1) hCA1 (qn (u % 2))
  have hq : qoClear A (qn (u % 2)) = (0, qn (A.2.2.1 (u % 2)).length, qNew (A.1, A.2.1, (fun y => if y = u % 2 then [] else A.2.2.1 y), A.2.2.2)) := by
    unfold qoClear
    rw [qin_of (by omega) (show u % 2 < 6 by omega)]
  rw [hq] at c1 c2
  dsimp only at c1 c2
  refine ⟨w2, qJn J I1, _, ?_, qCA_J c2, ⟨?_, ⟨?_, t2, ?_⟩, ?_, ?_⟩, rfl, fun a ha => by rw [qJn_r (by omega), r0 a (by omega)]⟩
  · unfold fL_isTurned_84
    simp (disch := omega) only [↓qlet, eq_self, qzg_t, qzb_some, ↓reduceIte, not_or, not_false_eq_true, not_true_eq_false, and_true, true_and, and_self, or_false, false_or, true_or, or_true, and_false, false_and, qlit, qneg, qof, qn_add, qn_mul, qn_s, qn_z, qn_d, qn_dz, qm_1, qt_1, qt_0, qb_0, qb_1, qb_01, qb01b, q01_0, q01_1, qo_s, qo_n, qn_c, qn_le, qn_lt, qn_eq, qn_ne_m, qm_ne_n, qm_lt, qm_le, qn_lt_m, qn_le_m, qn_sub, qn_div, qn_mod, qle_t, qle_f, qlt_t, qlt_f, qeq_t, qeq_f, Nat.add_sub_cancel, qU_s, qU_a, qU_k, qn_rem, qL_I, qL_s, lk_505, lk_506, lk_507, lk_508, lk_509, lk_510, lk_511, lk_512, lk_513, lk_514, lk_515, lk_516, lk_517, lk_518, lk_519, ll_505, ll_506, ll_507, ll_508, ll_509, ll_510, ll_511, ll_512, ll_513, ll_514, ll_515, ll_516, ll_517, ll_518, ll_519, lcut, zbc_0, zbd_0, lCel, lk_1, qJn_r, e1, ← hI1, c1]
  · exact qLG_fr hG (by rw [qJn_r (by omega), r0 _ (by omega)]) (by rw [qJn_r (by omega), r0 _ (by omega)]) (by rw [qJn_r (by omega), r0 _ (by omega)])
  · show qJn J I1 509 20 = qn A.2.2.2.1.length
    rw [qJn_r (by omega), r0 509 (by omega)]; exact t1
  · intro i k hk
    rw [qJn_r (by omega), r0 509 (by omega)]
    exact t3 i k hk
  · intro e he2
    obtain ⟨b1, b2, b3⟩ := hEn e he2
    have b2' : (A.2.2.1 e).length ≤ 4 := b2
    rw [qJn_r (by omega), hI1]
    show qU I 508 (8 + u % 2) (qn 0) 508 (8 + e) = qn (if e = u % 2 then [] else A.2.2.1 e : List qK).length ∧ (if e = u % 2 then [] else A.2.2.1 e : List qK).length ≤ 4 ∧ qLTk (qJn J (qU I 508 (8 + u % 2) (qn 0))) 508 (4 * e) (if e = u % 2 then [] else A.2.2.1 e)
    by_cases c : e = u % 2
    · rw [if_pos c, c, qU_s]
      exact ⟨rfl, by simp, fun i k hk => by simp at hk⟩
    · rw [if_neg c, qU_k (by omega)]
      refine ⟨b1, b2, fun i k hk => ?_⟩
      have hi : i < (A.2.2.1 e).length := (List.getElem?_eq_some_iff.mp hk).1
      rw [qJn_r (by omega), qU_k (by omega)]
      exact b3 i k hk
  · intro j hj
    rw [qJn_r (by omega), hI1, qU_k (by omega)]
    exact hSw j hj
theorem lTurn_2 (hA : qCA w I A) (hL : qLI I A) {u : Nat} (hu : u < 100000000) : qGr w I W A (fL_isTurned 1 508 509 (qn 2) (qn u) (qL w I W)) := by
  have h84 := lTurn_84 (w := w) (W := W) hA hL hu
  obtain ⟨hG, ⟨t1, t2, t3⟩, hEn, hSw⟩ := hL
  have he : u % 2 < 2 := Nat.mod_lt _ (by decide)
  obtain ⟨e1, e2, e3⟩ := hEn _ he
  by_cases c4 : (A.2.2.1 (u % 2)).length = 4
  · unfold fL_isTurned
    generalize fL_isTurned_84 = F at h84 ⊢
    generalize fL_drawn = F2
    simp (disch := omega) only [↓qlet, eq_self, qzg_t, qzb_some, ↓reduceIte, not_or, not_false_eq_true, not_true_eq_false, and_true, true_and, and_self, or_false, false_or, true_or, or_true, and_false, false_and, qlit, qneg, qof, qn_add, qn_mul, qn_s, qn_z, qn_d, qn_dz, qm_1, qt_1, qt_0, qb_0, qb_1, qb_01, qb01b, q01_0, q01_1, qo_s, qo_n, qn_c, qn_le, qn_lt, qn_eq, qn_ne_m, qm_ne_n, qm_lt, qm_le, qn_lt_m, qn_le_m, qn_sub, qn_div, qn_mod, qle_t, qle_f, qlt_t, qlt_f, qeq_t, qeq_f, Nat.add_sub_cancel, qU_s, qU_a, qU_k, qn_rem, qL_I, qL_s, lk_505, lk_506, lk_507, lk_508, lk_509, lk_510, lk_511, lk_512, lk_513, lk_514, lk_515, lk_516, lk_517, lk_518, lk_519, ll_505, ll_506, ll_507, ll_508, ll_509, ll_510, ll_511, ll_512, ll_513, ll_514, ll_515, ll_516, ll_517, ll_518, ll_519, e1, c4]
    exact h84
  · have e2' : (A.2.2.1 (u % 2)).length < 4 := by have : (A.2.2.1 (u % 2)).length ≤ 4 := e2; omega
    generalize hn : (A.2.2.1 (u % 2)).length = n at e1 e2' c4
    obtain ⟨s, v, d1, d2, d3⟩ := lDrawn w I W (u := u / 2) (by omega)
    have d8 : s ≤ 8 := d3.1
    have f1 : (128 * s + v) / 128 = s := by omega
    have f2 : (128 * s + v) % 128 = v := by omega
    obtain ⟨I1, hI1⟩ : ∃ I1, I1 = qU (qU I 508 (4 * (u % 2) + n) (qn (128 * s + v))) 508 (8 + u % 2) (qn (n + 1)) := ⟨_, rfl⟩
    have r0 : ∀ a, a ≠ 508 → I1 a = I a := fun a ha => by rw [hI1, qU_r ha, qU_r ha]
    have hCA1 : qCA w I1 A := qCA_st hA fun a ha => r0 a (by omega)
    obtain ⟨w2, J, c1, c2⟩ := cEntity (w := w) (I := I1) hCA1 (qn (u % 2)) (qn s) (qn v)
    have hq : qoEntity A (qn (u % 2)) (qn s) (qn v) = (0, qn (n + 1), qNew (A.1, A.2.1, (fun y => if y = u % 2 then A.2.2.1 (u % 2) ++ [(s, qn v)] else A.2.2.1 y), A.2.2.2)) := by
      unfold qoEntity
      rw [qin_of (by omega) (show u % 2 < 6 by omega)]
      dsimp only
      rw [qKin_l d3 d1, if_neg (by decide), hn, if_neg (by omega), qn_c (by omega)]
    rw [hq] at c1 c2
    dsimp only at c1 c2
    have h21 : I1 508 (8 + u % 2) = qn (n + 1) := by rw [hI1, qU_s]
    have h22 : qU I 508 (4 * (u % 2) + n) (qn (128 * s + v)) 508 (8 + u % 2) = qn n := by rw [qU_k (by omega)]; exact e1
    refine ⟨w2, qJn J I1, _, ?_, qCA_J c2, ⟨?_, ⟨?_, t2, ?_⟩, ?_, ?_⟩, rfl, fun a ha => by rw [qJn_r (by omega), r0 a (by omega)]⟩
    · unfold fL_isTurned
      generalize fL_isTurned_84 = F
      simp (disch := omega) only [↓qlet, eq_self, qzg_t, qzb_some, ↓reduceIte, not_or, not_false_eq_true, not_true_eq_false, and_true, true_and, and_self, or_false, false_or, true_or, or_true, and_false, false_and, qlit, qneg, qof, qn_add, qn_mul, qn_s, qn_z, qn_d, qn_dz, qm_1, qt_1, qt_0, qb_0, qb_1, qb_01, qb01b, q01_0, q01_1, qo_s, qo_n, qn_c, qn_le, qn_lt, qn_eq, qn_ne_m, qm_ne_n, qm_lt, qm_le, qn_lt_m, qn_le_m, qn_sub, qn_div, qn_mod, qle_t, qle_f, qlt_t, qlt_f, qeq_t, qeq_f, Nat.add_sub_cancel, qU_s, qU_a, qU_k, qn_rem, qL_I, qL_s, lk_505, lk_506, lk_507, lk_508, lk_509, lk_510, lk_511, lk_512, lk_513, lk_514, lk_515, lk_516, lk_517, lk_518, lk_519, ll_505, ll_506, ll_507, ll_508, ll_509, ll_510, ll_511, ll_512, ll_513, ll_514, ll_515, ll_516, ll_517, ll_518, ll_519, lcut, zbc_0, zbd_0, lCel, lk_1, qJn_r, e1, c4, d2, h22, ← hI1, f1, f2, c1, h21]
    · exact qLG_fr hG (by rw [qJn_r (by omega), r0 _ (by omega)]) (by rw [qJn_r (by omega), r0 _ (by omega)]) (by rw [qJn_r (by omega), r0 _ (by omega)])
    · show qJn J I1 509 20 = qn A.2.2.2.1.length
      rw [qJn_r (by omega), r0 509 (by omega)]; exact t1
    · intro i k hk
      rw [qJn_r (by omega), r0 509 (by omega)]
      exact t3 i k hk
    · intro e he2
      obtain ⟨b1, b2, b3⟩ := hEn e he2
      have b2' : (A.2.2.1 e).length ≤ 4 := b2
      rw [qJn_r (by omega)]
      show I1 508 (8 + e) = qn (if e = u % 2 then A.2.2.1 (u % 2) ++ [(s, qn v)] else A.2.2.1 e : List qK).length ∧ (if e = u % 2 then A.2.2.1 (u % 2) ++ [(s, qn v)] else A.2.2.1 e : List qK).length ≤ 4 ∧ qLTk (qJn J I1) 508 (4 * e) (if e = u % 2 then A.2.2.1 (u % 2) ++ [(s, qn v)] else A.2.2.1 e)
      by_cases c : e = u % 2
      · rw [if_pos c, c, h21]
        refine ⟨by rw [List.length_append, hn]; rfl, by rw [List.length_append, hn]; show n + 1 ≤ 4; omega, fun i k hk => ?_⟩
        rw [qJn_r (by omega), hI1, qU_k (by have := (List.getElem?_eq_some_iff.mp hk).1; rw [List.length_append, hn] at this; simp only [List.length_cons, List.length_nil] at this; omega)]
        by_cases ci : i < n
        · rw [List.getElem?_append_left (by omega)] at hk
          rw [qU_k (by omega)]
          exact e3 i k hk
        · have hlt := (List.getElem?_eq_some_iff.mp hk).1
          rw [List.length_append, hn] at hlt
          simp only [List.length_cons, List.length_nil] at hlt
          have ei : i = n := by omega
          subst ei
          rw [List.getElem?_append_right (by omega), hn, Nat.sub_self] at hk
          simp only [List.getElem?_cons_zero, Option.some.injEq] at hk
          subst hk
          rw [qU_s]
          exact ⟨d3, (qn_add _ _).symm⟩
      · rw [if_neg c, hI1, qU_k (by omega), qU_k (by omega)]
        refine ⟨b1, b2, fun i k hk => ?_⟩
        have hi : i < (A.2.2.1 e).length := (List.getElem?_eq_some_iff.mp hk).1
        rw [qJn_r (by omega), qU_k (by omega), qU_k (by omega)]
        exact b3 i k hk
    · intro j hj
      rw [qJn_r (by omega), hI1, qU_k (by omega), qU_k (by omega)]
      exact hSw j hj
theorem lTurned (hA : qCA w I A) (hL : qLI I A) {way u : Nat} (hw : way < 3) (hu : u < 100000000) : qGr w I W A (fL_isTurned 1 508 509 (qn way) (qn u) (qL w I W)) := by
  rcases (show way = 0 ∨ way = 1 ∨ way = 2 by omega) with rfl | rfl | rfl
  · exact lTurn_0 hA hL hu
  · have h84 := lTurn_84 (w := w) (W := W) hA hL hu
    unfold fL_isTurned
    generalize fL_isTurned_84 = F at h84 ⊢
    generalize fL_drawn = F2
    simp (disch := omega) only [↓qlet, eq_self, qzg_t, qzb_some, ↓reduceIte, not_or, not_false_eq_true, not_true_eq_false, and_true, true_and, and_self, or_false, false_or, true_or, or_true, and_false, false_and, qlit, qneg, qof, qn_add, qn_mul, qn_s, qn_z, qn_d, qn_dz, qm_1, qt_1, qt_0, qb_0, qb_1, qb_01, qb01b, q01_0, q01_1, qo_s, qo_n, qn_c, qn_le, qn_lt, qn_eq, qn_ne_m, qm_ne_n, qm_lt, qm_le, qn_lt_m, qn_le_m, qn_sub, qn_div, qn_mod, qle_t, qle_f, qlt_t, qlt_f, qeq_t, qeq_f, Nat.add_sub_cancel, qU_s, qU_a, qU_k, qn_rem, qL_I, qL_s, lk_505, lk_506, lk_507, lk_508, lk_509, lk_510, lk_511, lk_512, lk_513, lk_514, lk_515, lk_516, lk_517, lk_518, lk_519, ll_505, ll_506, ll_507, ll_508, ll_509, ll_510, ll_511, ll_512, ll_513, ll_514, ll_515, ll_516, ll_517, ll_518, ll_519]
    exact h84
  · exact lTurn_2 hA hL hu
end
