/-! THE LAW: a thing is read -/
section
variable {w : Bool} {I : Nat → Nat → Int32} {W : Nat → Nat → Nat} {G : qG} {V : qV} {f : Bool} {p : Nat}
theorem lThing_x (hV : qLV I p V f) (m : Nat) {t l g put : Nat} (hg : g < 2) (h : g = 0 ∨ f = true) : fL_thing_6 (m + 1) 505 506 507 510 511 513 514 515 516 517 (qn t) (qn l) (qn g) (qn put) (qL w I W) = some (qn 0, qL w I W) := by
  have h6 := hV.2.2.2.2.2.2.1
  unfold fL_thing_6
  by_cases c : g = 0
  · simp (disch := omega) only [↓qlet, eq_self, qzg_t, qzb_some, ↓reduceIte, not_or, not_false_eq_true, not_true_eq_false, and_true, true_and, and_self, or_false, false_or, true_or, or_true, and_false, false_and, qlit, qneg, qof, qn_add, qn_mul, qn_s, qn_z, qn_d, qn_dz, qm_1, qt_1, qt_0, qb_0, qb_1, qb_01, qb01b, q01_0, q01_1, qo_s, qo_n, qn_c, qn_le, qn_lt, qn_eq, qn_ne_m, qm_ne_n, qm_lt, qm_le, qn_lt_m, qn_le_m, qn_sub, qn_div, qn_mod, qle_t, qle_f, qlt_t, qlt_f, qeq_t, qeq_f, Nat.add_sub_cancel, qU_s, qU_a, qU_k, qn_rem, qL_I, qL_s, lk_505, lk_506, lk_507, lk_508, lk_509, lk_510, lk_511, lk_512, lk_513, lk_514, lk_515, lk_516, lk_517, lk_518, lk_519, ll_505, ll_506, ll_507, ll_508, ll_509, ll_510, ll_511, ll_512, ll_513, ll_514, ll_515, ll_516, ll_517, ll_518, ll_519, c]
  · rcases h with h | h
    · exact absurd h c
    · rw [h, qb_t] at h6
      simp (disch := omega) only [↓qlet, eq_self, qzg_t, qzb_some, ↓reduceIte, not_or, not_false_eq_true, not_true_eq_false, and_true, true_and, and_self, or_false, false_or, true_or, or_true, and_false, false_and, qlit, qneg, qof, qn_add, qn_mul, qn_s, qn_z, qn_d, qn_dz, qm_1, qt_1, qt_0, qb_0, qb_1, qb_01, qb01b, q01_0, q01_1, qo_s, qo_n, qn_c, qn_le, qn_lt, qn_eq, qn_ne_m, qm_ne_n, qm_lt, qm_le, qn_lt_m, qn_le_m, qn_sub, qn_div, qn_mod, qle_t, qle_f, qlt_t, qlt_f, qeq_t, qeq_f, Nat.add_sub_cancel, qU_s, qU_a, qU_k, qn_rem, qL_I, qL_s, lk_505, lk_506, lk_507, lk_508, lk_509, lk_510, lk_511, lk_512, lk_513, lk_514, lk_515, lk_516, lk_517, lk_518, lk_519, ll_505, ll_506, ll_507, ll_508, ll_509, ll_510, ll_511, ll_512, ll_513, ll_514, ll_515, ll_516, ll_517, ll_518, ll_519, c, h6]
theorem lShutV {x : Nat × Nat} {st : List (Nat × Nat)} (hV : qLV I p V f) (hst : V.1.1 = x :: st) : qLV (qU (qU I 510 0 (qn st.length)) 510 4 (qn (V.2.2.2.1 + 1))) p (qShut V) f ∧ qFrL I (qU (qU I 510 0 (qn st.length)) 510 4 (qn (V.2.2.2.1 + 1))) := by
  obtain ⟨h1, h2, h3, h4, h5, h6, h7, h8, h9, h10, h11, h12, h13⟩ := hV
  rw [hst] at h10
  refine ⟨⟨?_, ?_, ?_, ?_, ?_, ?_, ?_, ?_, ?_, ?_, ?_, ?_, ?_⟩, ⟨?_, ?_, ?_⟩⟩
  all_goals (try (simp (disch := omega) only [qU_s, qU_a, qU_k, qShut]; assumption))
  · simp (disch := omega) only [qU_s, qU_a, qU_k, qShut, hst, List.tail_cons]
  · simp (disch := omega) only [qU_s, qU_a, qU_k, qShut]
  · simp (disch := omega) only [qU_s, qU_a, qU_k, qShut, hst, List.tail_cons]; exact h10.2
  · simp (disch := omega) only [qU_s, qU_a, qU_k, qShut]
    cases ho : V.2.1 with
    | nil => exact True.intro
    | cons y ot => rw [ho] at h11; exact h11.2
  · intro a ha; simp (disch := omega) only [qU_r]
  · intro a ha hb; simp (disch := omega) only [qU_s, qU_a, qU_k]
  · simp (disch := omega) only [qU_s, qU_a, qU_k]
theorem lShut_ok (hok : qLok G V) : qLok G (qShut V) := by
  obtain ⟨o1, o2, o3, o4, o5, o6, o7, o8⟩ := hok
  refine ⟨?_, ?_, fun x hx => o3 x (List.mem_of_mem_tail hx), o4, fun h => ?_, o6, o7, fun x hx => o8 x (List.mem_of_mem_tail hx)⟩
  · show V.1.1.tail.length ≤ 9
    rw [List.length_tail]; omega
  · show V.2.1.tail.length = V.1.1.tail.length
    rw [List.length_tail, List.length_tail, o2]
  · show V.1.1.tail = []
    rw [o5 h]; rfl
theorem lWant_some {x : Nat × Nat} {st : List (Nat × Nat)} {Z : qZ} {e : Nat} (hst : Z.1 = x :: st) (hla : ¬ Z.2 = none) (h : qWant G Z = some e) : ∃ j, qrBy G x.1 x.2 e = some j ∧ qAcc G Z e = some ((x.1, 2 * j + 1) :: st, Z.2) := by
  unfold qWant at h
  cases ho : qOnly (qGoes G Z) with
  | none => rw [ho] at h; cases h
  | some k =>
    rw [ho] at h
    dsimp only at h
    split at h
    · cases h
    · next c =>
      cases h
      have h1 := qOnly_is ho
      have h2 := qOnly_lt ho
      have h3 := qPow_t e h2
      rw [← h1] at h3
      unfold qGoes at h3
      rw [hst] at h3
      have h4 : qt (qgOn G x.1 (qgN G x.1 - x.2 / 2) (x.2 / 2) (x.2 % 2 == 1)) e = true := h3
      rw [qOn_by G x.1 (by omega)] at h4
      have h5 : (qrBy G x.1 x.2 e).isSome = true := h4
      obtain ⟨j, hj⟩ := Option.isSome_iff_exists.mp h5
      refine ⟨j, hj, ?_⟩
      have hx : qExc G Z.1 e = false := by
        cases hx : qExc G Z.1 e with
        | false => rfl
        | true => exact absurd (Or.inr (Or.inr (Or.inr (Or.inr hx)))) c
      unfold qAcc
      obtain ⟨q, hq⟩ : ∃ q, Z.2 = some q := by
        cases hq : Z.2 with
        | none => exact absurd hq hla
        | some q => exact ⟨q, rfl⟩
      rw [hst] at hx
      rw [hq, hst]
      dsimp only
      rw [hx, if_neg Bool.false_ne_true, hj]
theorem lWant_5 (hG : qLG G I) (hok : qLok G V) {e : Nat} (h : qWant G V.1 = some e) : e < 5 := by
  unfold qWant at h
  cases ho : qOnly (qGoes G V.1) with
  | none => rw [ho] at h; cases h
  | some k =>
    rw [ho] at h
    dsimp only at h
    split at h
    · cases h
    · cases h
      rcases Nat.lt_or_ge e 5 with h5 | h5
      · exact h5
      · have h4 := qGoes_5 hG hok h5 (qOnly_lt ho)
        rw [qOnly_is ho, qPow_t e (qOnly_lt ho)] at h4
        cases h4
theorem lTo_ok (hok : qLok G V) {t : Nat} (Z : qZ) (h : qAcc G V.1 t = some Z) : qLok G (qTo Z V) := by
  obtain ⟨o1, o2, o3, o4, o5, o6, o7, o8⟩ := hok
  have hz : qZok G V.1 := ⟨by omega, fun x hx => ⟨by have := (o3 x hx).1; omega, (o3 x hx).2⟩, fun e he => by have := o4 e he; omega, o5⟩
  obtain ⟨z1, z2, z3⟩ := qAcc_ok hz h
  refine ⟨by show Z.1.length ≤ 9; omega, by show V.2.1.length = Z.1.length; omega, ?_, fun e he => o4 e (by rw [← z3]; exact he), z1.2.2.2, o6, o7, o8⟩
  intro x hx
  have h5 := qAcc_els h
  have h6 : x.1 ∈ Z.1.map (fun x => x.1) := List.mem_map_of_mem hx
  rw [h5] at h6
  obtain ⟨y, hy, e⟩ := List.mem_map.mp h6
  exact ⟨by rw [← e]; exact (o3 y hy).1, (z1.2.1 x hx).2⟩
end
