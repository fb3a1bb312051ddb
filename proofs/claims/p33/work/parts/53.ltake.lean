/-! THE LAW: what is taken, what is wanted -/
theorem qx_i {i y t : Nat} (hi : i < 1024) (ht : t < 10) : qt (qn (i + 1024 * y)) t = qt (qn i) t := by
  rw [qt_nat (by omega), qt_nat (by omega), Nat.add_comm, show 1024 * y = 2 ^ 10 * y from rfl, Nat.testBit_two_pow_mul_add _ (show i < 2 ^ 10 from hi), if_pos ht]
theorem qx_x {i y t : Nat} (hi : i < 1024) (ht : t < 12) : qt (qn (i + 1024 * y)) (10 + t) = y.testBit t := by
  rw [qt_nat (by omega), Nat.add_comm i, show 1024 * y = 2 ^ 10 * y from rfl, Nat.testBit_two_pow_mul_add _ (show i < 2 ^ 10 from hi), if_neg (by omega)]
  congr 1
  omega
theorem qx_1 {i x z t : Nat} (hi : i < 1024) (hx : x < 1024) (ht : t < 10) : qt (qn (i + 1024 * (x + 1024 * z))) (10 + t) = qt (qn x) t := by
  rw [qx_x hi (by omega), ← qt_nat (by omega), qx_i hx ht]
theorem qx_2 {i x z t : Nat} (hi : i < 1024) (hx : x < 1024) (ht : t < 2) : qt (qn (i + 1024 * (x + 1024 * z))) (20 + t) = z.testBit t := by
  rw [show 20 + t = 10 + (10 + t) by omega, qx_x hi (by omega), ← qt_nat (by omega), qx_x hx (by omega)]
theorem qx_ab (a b : Bool) : ((if a = true then 1 else 0) + 2 * (if b = true then 1 else 0) : Nat).testBit 0 = a ∧ ((if a = true then 1 else 0) + 2 * (if b = true then 1 else 0) : Nat).testBit 1 = b := by
  cases a <;> cases b <;> decide
theorem qt_x10 {x t : Nat} (hx : x < 1024) (h : 10 ≤ t) (ht : t < 32) : qt (qn x) t = false := by
  rw [qt_nat ht]
  exact Nat.testBit_lt_two_pow (Nat.lt_of_lt_of_le hx (Nat.le_trans (by decide : (1024 : Nat) ≤ 2 ^ 10) (Nat.pow_le_pow_right (by decide) h)))
section
variable {w : Bool} {I : Nat → Nat → Int32} {W : Nat → Nat → Nat} {G : qG} {V : qV} {f : Bool} {p : Nat}
/-- what an element says of a thing: includes (0), excludes (10) -/
def qXo (G : qG) (s t : Nat) (x : Nat × Nat) : Bool := if s = 0 then qt (qgI G x.1) t else qt (qgX G x.1) t
theorem lHas_6 (hG : qLG G I) (hV : qLV I p V f) (hok : qLok G V) {t s : Nat} (ht : t < 10) (hs : s = 0 ∨ s = 10) : ∀ d k b m, k + d = V.1.1.length → d < m → fL_has_6 m 507 510 511 (qn t) (qn s) (qb b) (qn k) (qL w I W) = some (qb (b || (V.1.1.reverse.drop k).any (qXo G s t)), qL w I W) := by
  obtain ⟨h1, h2, h3, h4, h5, h6, h7, h8, h9, h10, h11, h12, h13⟩ := hV
  have hl := hok.1
  intro d
  induction d with
  | zero =>
    intro k b m h0 hm
    obtain ⟨m, rfl⟩ : ∃ q, m = q + 1 := ⟨m - 1, by omega⟩
    have hk : V.1.1.length ≤ k := by omega
    unfold fL_has_6
    rw [List.drop_of_length_le (by simp; omega)]
    simp (disch := omega) only [↓qlet, eq_self, qzg_t, qzb_some, ↓reduceIte, not_or, not_false_eq_true, not_true_eq_false, and_true, true_and, and_self, or_false, false_or, true_or, or_true, and_false, false_and, qlit, qneg, qof, qn_add, qn_mul, qn_s, qn_z, qn_d, qn_dz, qm_1, qt_1, qt_0, qb_0, qb_1, qb_01, qb01b, q01_0, q01_1, qo_s, qo_n, qn_c, qn_le, qn_lt, qn_eq, qn_ne_m, qm_ne_n, qm_lt, qm_le, qn_lt_m, qn_le_m, qn_sub, qn_div, qn_mod, qle_t, qle_f, qlt_t, qlt_f, qeq_t, qeq_f, Nat.add_sub_cancel, qU_s, qU_a, qU_k, qn_rem, qL_I, qL_s, lk_505, lk_506, lk_507, lk_508, lk_509, lk_510, lk_511, lk_512, lk_513, lk_514, lk_515, lk_516, lk_517, lk_518, lk_519, ll_505, ll_506, ll_507, ll_508, ll_509, ll_510, ll_511, ll_512, ll_513, ll_514, ll_515, ll_516, ll_517, ll_518, ll_519, h1, hk, List.any_nil, Bool.or_false]
  | succ d ih =>
    intro k b m h0 hm
    obtain ⟨m, rfl⟩ : ∃ q, m = q + 1 := ⟨m - 1, by omega⟩
    have hk : ¬ V.1.1.length ≤ k := by omega
    obtain ⟨x, hx, hd, a1⟩ := qAll_at h10 (show k < V.1.1.length by omega)
    obtain ⟨b1, b2⟩ := hok.2.2.1 x hx
    obtain ⟨-, g2, -, i, z, i1, i2, i3, i4, i5⟩ := hG x.1 b1
    have e1 : (16 * x.1 + x.2) / 16 = x.1 := by omega
    have hq : qt (I 507 x.1) (s + t) = qXo G s t x := by
      unfold qXo
      rw [i5]
      rcases hs with rfl | rfl
      · rw [if_pos rfl, i3, Nat.zero_add, qx_i i1 ht]
      · rw [if_neg (show ¬ (10 : Nat) = 0 by decide), i4, qx_1 i1 i2 ht]
    have i0 := ih (k + 1) false m (by omega) (by omega)
    have i1 := ih (k + 1) true m (by omega) (by omega)
    rw [qb_f] at i0
    rw [qb_t] at i1
    rw [hd, List.any_cons]
    unfold fL_has_6
    cases b with
    | true => simp (disch := omega) only [↓qlet, eq_self, qzg_t, qzb_some, ↓reduceIte, not_or, not_false_eq_true, not_true_eq_false, and_true, true_and, and_self, or_false, false_or, true_or, or_true, and_false, false_and, qlit, qneg, qof, qn_add, qn_mul, qn_s, qn_z, qn_d, qn_dz, qm_1, qt_1, qt_0, qb_0, qb_1, qb_01, qb01b, q01_0, q01_1, qo_s, qo_n, qn_c, qn_le, qn_lt, qn_eq, qn_ne_m, qm_ne_n, qm_lt, qm_le, qn_lt_m, qn_le_m, qn_sub, qn_div, qn_mod, qle_t, qle_f, qlt_t, qlt_f, qeq_t, qeq_f, Nat.add_sub_cancel, qU_s, qU_a, qU_k, qn_rem, qL_I, qL_s, lk_505, lk_506, lk_507, lk_508, lk_509, lk_510, lk_511, lk_512, lk_513, lk_514, lk_515, lk_516, lk_517, lk_518, lk_519, ll_505, ll_506, ll_507, ll_508, ll_509, ll_510, ll_511, ll_512, ll_513, ll_514, ll_515, ll_516, ll_517, ll_518, ll_519, h1, hk, fL_has_39, fL_has_44, qb_t, i1, Bool.true_or]
    | false =>
      cases hc : qXo G s t x <;> rw [hc] at hq <;> simp (disch := omega) only [↓qlet, eq_self, qzg_t, qzb_some, ↓reduceIte, not_or, not_false_eq_true, not_true_eq_false, and_true, true_and, and_self, or_false, false_or, true_or, or_true, and_false, false_and, qlit, qneg, qof, qn_add, qn_mul, qn_s, qn_z, qn_d, qn_dz, qm_1, qt_1, qt_0, qb_0, qb_1, qb_01, qb01b, q01_0, q01_1, qo_s, qo_n, qn_c, qn_le, qn_lt, qn_eq, qn_ne_m, qm_ne_n, qm_lt, qm_le, qn_lt_m, qn_le_m, qn_sub, qn_div, qn_mod, qle_t, qle_f, qlt_t, qlt_f, qeq_t, qeq_f, Nat.add_sub_cancel, qU_s, qU_a, qU_k, qn_rem, qL_I, qL_s, lk_505, lk_506, lk_507, lk_508, lk_509, lk_510, lk_511, lk_512, lk_513, lk_514, lk_515, lk_516, lk_517, lk_518, lk_519, ll_505, ll_506, ll_507, ll_508, ll_509, ll_510, ll_511, ll_512, ll_513, ll_514, ll_515, ll_516, ll_517, ll_518, ll_519, h1, hk, a1, e1, hq, fL_has_39, fL_has_44, qb_t, qb_f, i0, i1, Bool.true_or, Bool.false_or, Bool.false_eq_true]
theorem lHas (hG : qLG G I) (hV : qLV I p V f) (hok : qLok G V) {t : Nat} (ht : t < 10) : fL_has 507 510 511 (qn t) (qn 0) (qL w I W) = some (qb (qInc G V.1.1 t), qL w I W) ∧ fL_has 507 510 511 (qn t) (qn 10) (qL w I W) = some (qb (qExc G V.1.1 t), qL w I W) := by
  have hl := hok.1
  have h0 := lHas_6 (w := w) (W := W) hG hV hok ht (Or.inl rfl) V.1.1.length 0 false 10000 (by omega) (by omega)
  have h1 := lHas_6 (w := w) (W := W) hG hV hok ht (Or.inr rfl) V.1.1.length 0 false 10000 (by omega) (by omega)
  rw [List.drop_zero, List.any_reverse, Bool.false_or] at h0 h1
  exact ⟨h0, h1⟩
theorem qExc_10 (hG : qLG G I) (hok : qLok G V) : qExc G V.1.1 10 = false ∧ qInc G V.1.1 10 = false := by
  constructor
  · unfold qExc
    rw [List.any_eq_false]
    intro x hx
    obtain ⟨b1, b2⟩ := hok.2.2.1 x hx
    obtain ⟨-, -, -, i, z, i1, i2, i3, i4, i5⟩ := hG x.1 b1
    rw [i4, qt_x10 i2 (by omega) (by omega)]
    decide
  · unfold qInc
    rw [List.any_eq_false]
    intro x hx
    obtain ⟨b1, b2⟩ := hok.2.2.1 x hx
    obtain ⟨-, -, -, i, z, i1, i2, i3, i4, i5⟩ := hG x.1 b1
    rw [i3, qt_x10 i1 (by omega) (by omega)]
    decide
theorem qLV_top {x : Nat × Nat} {st : List (Nat × Nat)} (hV : qLV I p V f) (hst : V.1.1 = x :: st) (hn : V.2.1.length = V.1.1.length) (h9' : V.1.1.length ≤ 9) (r : Nat) : qLV (qU I 511 st.length (qn (16 * x.1 + r))) p (qTo ((x.1, r) :: st, V.1.2) V) f ∧ qFrL I (qU I 511 st.length (qn (16 * x.1 + r))) := by
  obtain ⟨h1, h2, h3, h4, h5, h6, h7, h8, h9, h10, h11, h12, h13⟩ := hV
  rw [hst] at h1 h10 h9'
  simp only [List.length_cons] at h9'
  refine ⟨⟨?_, ?_, ?_, ?_, ?_, ?_, ?_, ?_, ?_, ?_, ?_, ?_, ?_⟩, ⟨?_, ?_, ?_⟩⟩
  all_goals (try (simp (disch := omega) only [qU_s, qU_a, qU_k, qTo]; assumption))
  · refine qAll_push h10.2 (fun j y hj hp => ?_) ?_
    · rw [qU_k (by omega)]; exact hp
    · rw [qU_s]
  · intro a ha; rw [qU_r (by omega)]
  · intro a ha hb; rw [qU_a (by omega)]
  · rw [qU_a (by omega)]
theorem lTakes (hG : qLG G I) (hV : qLV I p V f) (hok : qLok G V) {t : Nat} (ht : t ≤ 10) : ∃ J, fL_takes 505 506 507 510 511 (qn t) (qL w I W) = some (qb (qAcc G V.1 t).isSome, qL w J W) ∧ qLV J p (qTo ((qAcc G V.1 t).getD V.1) V) f ∧ qFrL I J := by
  have hV0 := hV
  obtain ⟨h1, h2, h3, h4, h5, h6, h7, h8, h9, h10, h11, h12, h13⟩ := hV
  unfold fL_takes
  cases hst : V.1.1 with
  | nil =>
    rw [hst, List.length_nil] at h1
    cases hla : V.1.2 with
    | none =>
      rw [hla] at h3
      simp only [qany] at h3
      by_cases ht0 : t = 0
      · have e : qAcc G V.1 t = some V.1 := by unfold qAcc; rw [hla]; exact if_pos ht0
        refine ⟨I, ?_, by rw [e]; exact hV0, qFrL_refl I⟩
        rw [e]
        simp (disch := omega) only [↓qlet, eq_self, qzg_t, qzb_some, ↓reduceIte, not_or, not_false_eq_true, not_true_eq_false, and_true, true_and, and_self, or_false, false_or, true_or, or_true, and_false, false_and, qlit, qneg, qof, qn_add, qn_mul, qn_s, qn_z, qn_d, qn_dz, qm_1, qt_1, qt_0, qb_0, qb_1, qb_01, qb01b, q01_0, q01_1, qo_s, qo_n, qn_c, qn_le, qn_lt, qn_eq, qn_ne_m, qm_ne_n, qm_lt, qm_le, qn_lt_m, qn_le_m, qn_sub, qn_div, qn_mod, qle_t, qle_f, qlt_t, qlt_f, qeq_t, qeq_f, Nat.add_sub_cancel, qU_s, qU_a, qU_k, qn_rem, qL_I, qL_s, lk_505, lk_506, lk_507, lk_508, lk_509, lk_510, lk_511, lk_512, lk_513, lk_514, lk_515, lk_516, lk_517, lk_518, lk_519, ll_505, ll_506, ll_507, ll_508, ll_509, ll_510, ll_511, ll_512, ll_513, ll_514, ll_515, ll_516, ll_517, ll_518, ll_519, h1, h3, ht0, Option.isSome_some, qb_t]
      · have e : qAcc G V.1 t = none := by unfold qAcc; rw [hla]; exact if_neg ht0
        refine ⟨I, ?_, by rw [e]; exact hV0, qFrL_refl I⟩
        rw [e]
        simp (disch := omega) only [↓qlet, eq_self, qzg_t, qzb_some, ↓reduceIte, not_or, not_false_eq_true, not_true_eq_false, and_true, true_and, and_self, or_false, false_or, true_or, or_true, and_false, false_and, qlit, qneg, qof, qn_add, qn_mul, qn_s, qn_z, qn_d, qn_dz, qm_1, qt_1, qt_0, qb_0, qb_1, qb_01, qb01b, q01_0, q01_1, qo_s, qo_n, qn_c, qn_le, qn_lt, qn_eq, qn_ne_m, qm_ne_n, qm_lt, qm_le, qn_lt_m, qn_le_m, qn_sub, qn_div, qn_mod, qle_t, qle_f, qlt_t, qlt_f, qeq_t, qeq_f, Nat.add_sub_cancel, qU_s, qU_a, qU_k, qn_rem, qL_I, qL_s, lk_505, lk_506, lk_507, lk_508, lk_509, lk_510, lk_511, lk_512, lk_513, lk_514, lk_515, lk_516, lk_517, lk_518, lk_519, ll_505, ll_506, ll_507, ll_508, ll_509, ll_510, ll_511, ll_512, ll_513, ll_514, ll_515, ll_516, ll_517, ll_518, ll_519, h1, h3, ht0, Option.isSome_none, qb_f]
    | some e9 =>
      rw [hla] at h3
      simp only [qany] at h3
      have e : qAcc G V.1 t = none := by unfold qAcc; rw [hla, hst]
      refine ⟨I, ?_, by rw [e]; exact hV0, qFrL_refl I⟩
      rw [e]
      simp (disch := omega) only [↓qlet, eq_self, qzg_t, qzb_some, ↓reduceIte, not_or, not_false_eq_true, not_true_eq_false, and_true, true_and, and_self, or_false, false_or, true_or, or_true, and_false, false_and, qlit, qneg, qof, qn_add, qn_mul, qn_s, qn_z, qn_d, qn_dz, qm_1, qt_1, qt_0, qb_0, qb_1, qb_01, qb01b, q01_0, q01_1, qo_s, qo_n, qn_c, qn_le, qn_lt, qn_eq, qn_ne_m, qm_ne_n, qm_lt, qm_le, qn_lt_m, qn_le_m, qn_sub, qn_div, qn_mod, qle_t, qle_f, qlt_t, qlt_f, qeq_t, qeq_f, Nat.add_sub_cancel, qU_s, qU_a, qU_k, qn_rem, qL_I, qL_s, lk_505, lk_506, lk_507, lk_508, lk_509, lk_510, lk_511, lk_512, lk_513, lk_514, lk_515, lk_516, lk_517, lk_518, lk_519, ll_505, ll_506, ll_507, ll_508, ll_509, ll_510, ll_511, ll_512, ll_513, ll_514, ll_515, ll_516, ll_517, ll_518, ll_519, h1, h3, Option.isSome_none, qb_f]
  | cons x st =>
    have hl9 := hok.1
    have hx : x ∈ V.1.1 := by rw [hst]; exact List.mem_cons_self
    obtain ⟨b1, b2⟩ := hok.2.2.1 x hx
    have h4' := (hG x.1 b1).2.1
    obtain ⟨e9, hla⟩ : ∃ e9, V.1.2 = some e9 := by
      cases hla : V.1.2 with
      | none => have := hok.2.2.2.2.1 hla; rw [hst] at this; cases this
      | some e9 => exact ⟨e9, rfl⟩
    have htop := qLV_top hV0 hst hok.2.1 hok.1
    rw [hst] at h1 h10 hl9
    simp only [List.length_cons] at h1 hl9
    have a1 := h10.1
    have hstep := lStep (w := w) (W := W) hG b1 b2 (show t < 11 by omega)
    have hacc : qAcc G V.1 t = if qExc G V.1.1 t = true then none else match qrBy G x.1 x.2 t with
        | some k => some ((x.1, 2 * k + 1) :: st, V.1.2)
        | none => if qInc G V.1.1 t = true then some V.1 else none := by
      unfold qAcc
      rw [hla, hst]
      rfl
    rcases Nat.lt_or_ge t 10 with ht9 | ht9
    · obtain ⟨c1, c2⟩ := lHas (w := w) (W := W) hG hV0 hok ht9
      cases hE : qExc G V.1.1 t with
      | true =>
        rw [hE] at c2 hacc
        rw [if_pos rfl] at hacc
        refine ⟨I, ?_, by rw [hacc]; exact hV0, qFrL_refl I⟩
        rw [hacc]
        cases hq : qrBy G x.1 x.2 t with
        | none =>
          rw [hq] at hstep
          simp (disch := omega) only [↓qlet, eq_self, qzg_t, qzb_some, ↓reduceIte, not_or, not_false_eq_true, not_true_eq_false, and_true, true_and, and_self, or_false, false_or, true_or, or_true, and_false, false_and, qlit, qneg, qof, qn_add, qn_mul, qn_s, qn_z, qn_d, qn_dz, qm_1, qt_1, qt_0, qb_0, qb_1, qb_01, qb01b, q01_0, q01_1, qo_s, qo_n, qn_c, qn_le, qn_lt, qn_eq, qn_ne_m, qm_ne_n, qm_lt, qm_le, qn_lt_m, qn_le_m, qn_sub, qn_div, qn_mod, qle_t, qle_f, qlt_t, qlt_f, qeq_t, qeq_f, Nat.add_sub_cancel, qU_s, qU_a, qU_k, qn_rem, qL_I, qL_s, lk_505, lk_506, lk_507, lk_508, lk_509, lk_510, lk_511, lk_512, lk_513, lk_514, lk_515, lk_516, lk_517, lk_518, lk_519, ll_505, ll_506, ll_507, ll_508, ll_509, ll_510, ll_511, ll_512, ll_513, ll_514, ll_515, ll_516, ll_517, ll_518, ll_519, h1, a1, hstep, c2, qb_t, fL_takes_66, fL_takes_88, qn_le_m, qm_lt, Option.isSome_none, qb_f]
        | some j =>
          have hj : j < 4 := by
            unfold qrBy at hq
            have := qBy_lt G x.1 t _ _ _ _ hq
            omega
          rw [hq] at hstep
          simp (disch := omega) only [↓qlet, eq_self, qzg_t, qzb_some, ↓reduceIte, not_or, not_false_eq_true, not_true_eq_false, and_true, true_and, and_self, or_false, false_or, true_or, or_true, and_false, false_and, qlit, qneg, qof, qn_add, qn_mul, qn_s, qn_z, qn_d, qn_dz, qm_1, qt_1, qt_0, qb_0, qb_1, qb_01, qb01b, q01_0, q01_1, qo_s, qo_n, qn_c, qn_le, qn_lt, qn_eq, qn_ne_m, qm_ne_n, qm_lt, qm_le, qn_lt_m, qn_le_m, qn_sub, qn_div, qn_mod, qle_t, qle_f, qlt_t, qlt_f, qeq_t, qeq_f, Nat.add_sub_cancel, qU_s, qU_a, qU_k, qn_rem, qL_I, qL_s, lk_505, lk_506, lk_507, lk_508, lk_509, lk_510, lk_511, lk_512, lk_513, lk_514, lk_515, lk_516, lk_517, lk_518, lk_519, ll_505, ll_506, ll_507, ll_508, ll_509, ll_510, ll_511, ll_512, ll_513, ll_514, ll_515, ll_516, ll_517, ll_518, ll_519, h1, a1, hstep, c2, qb_t, fL_takes_66, fL_takes_88, Option.isSome_none, qb_f]
      | false =>
        rw [hE] at c2 hacc
        rw [if_neg Bool.false_ne_true] at hacc
        cases hq : qrBy G x.1 x.2 t with
        | none =>
          rw [hq] at hstep hacc
          simp only at hacc
          cases hI : qInc G V.1.1 t with
          | true =>
            rw [hI] at c1 hacc
            rw [if_pos rfl] at hacc
            refine ⟨I, ?_, by rw [hacc]; exact hV0, qFrL_refl I⟩
            rw [hacc]
            have hm0 : (qm < qn 0) = True := qm_lt (by omega)
            simp (disch := omega) only [↓qlet, eq_self, qzg_t, qzb_some, ↓reduceIte, not_or, not_false_eq_true, not_true_eq_false, and_true, true_and, and_self, or_false, false_or, true_or, or_true, and_false, false_and, qlit, qneg, qof, qn_add, qn_mul, qn_s, qn_z, qn_d, qn_dz, qm_1, qt_1, qt_0, qb_0, qb_1, qb_01, qb01b, q01_0, q01_1, qo_s, qo_n, qn_c, qn_le, qn_lt, qn_eq, qn_ne_m, qm_ne_n, qm_lt, qm_le, qn_lt_m, qn_le_m, qn_sub, qn_div, qn_mod, qle_t, qle_f, qlt_t, qlt_f, qeq_t, qeq_f, Nat.add_sub_cancel, qU_s, qU_a, qU_k, qn_rem, qL_I, qL_s, lk_505, lk_506, lk_507, lk_508, lk_509, lk_510, lk_511, lk_512, lk_513, lk_514, lk_515, lk_516, lk_517, lk_518, lk_519, ll_505, ll_506, ll_507, ll_508, ll_509, ll_510, ll_511, ll_512, ll_513, ll_514, ll_515, ll_516, ll_517, ll_518, ll_519, h1, a1, hstep, c1, c2, qb_t, qb_f, fL_takes_65, fL_takes_66, fL_takes_88, fL_takes_118, hm0, qn_le_m, Option.isSome_some]
          | false =>
            rw [hI] at c1 hacc
            rw [if_neg Bool.false_ne_true] at hacc
            refine ⟨I, ?_, by rw [hacc]; exact hV0, qFrL_refl I⟩
            rw [hacc]
            simp (disch := omega) only [↓qlet, eq_self, qzg_t, qzb_some, ↓reduceIte, not_or, not_false_eq_true, not_true_eq_false, and_true, true_and, and_self, or_false, false_or, true_or, or_true, and_false, false_and, qlit, qneg, qof, qn_add, qn_mul, qn_s, qn_z, qn_d, qn_dz, qm_1, qt_1, qt_0, qb_0, qb_1, qb_01, qb01b, q01_0, q01_1, qo_s, qo_n, qn_c, qn_le, qn_lt, qn_eq, qn_ne_m, qm_ne_n, qm_lt, qm_le, qn_lt_m, qn_le_m, qn_sub, qn_div, qn_mod, qle_t, qle_f, qlt_t, qlt_f, qeq_t, qeq_f, Nat.add_sub_cancel, qU_s, qU_a, qU_k, qn_rem, qL_I, qL_s, lk_505, lk_506, lk_507, lk_508, lk_509, lk_510, lk_511, lk_512, lk_513, lk_514, lk_515, lk_516, lk_517, lk_518, lk_519, ll_505, ll_506, ll_507, ll_508, ll_509, ll_510, ll_511, ll_512, ll_513, ll_514, ll_515, ll_516, ll_517, ll_518, ll_519, h1, a1, hstep, c1, c2, qb_t, qb_f, fL_takes_65, fL_takes_66, fL_takes_88, fL_takes_118, qn_le_m, Option.isSome_none]
        | some j =>
          have hj : j < 4 := by
            have hq := hq
            unfold qrBy at hq
            have := qBy_lt G x.1 t _ _ _ _ hq
            omega
          rw [hq] at hstep hacc
          simp only at hacc
          refine ⟨_, ?_, by rw [hacc]; exact (htop (2 * j + 1)).1, (htop (2 * j + 1)).2⟩
          rw [hacc]
          have e1 : 16 * x.1 + (2 * j + 1) = 16 * x.1 + 2 * j + 1 := by omega
          rw [e1]
          simp (disch := omega) only [↓qlet, eq_self, qzg_t, qzb_some, ↓reduceIte, not_or, not_false_eq_true, not_true_eq_false, and_true, true_and, and_self, or_false, false_or, true_or, or_true, and_false, false_and, qlit, qneg, qof, qn_add, qn_mul, qn_s, qn_z, qn_d, qn_dz, qm_1, qt_1, qt_0, qb_0, qb_1, qb_01, qb01b, q01_0, q01_1, qo_s, qo_n, qn_c, qn_le, qn_lt, qn_eq, qn_ne_m, qm_ne_n, qm_lt, qm_le, qn_lt_m, qn_le_m, qn_sub, qn_div, qn_mod, qle_t, qle_f, qlt_t, qlt_f, qeq_t, qeq_f, Nat.add_sub_cancel, qU_s, qU_a, qU_k, qn_rem, qL_I, qL_s, lk_505, lk_506, lk_507, lk_508, lk_509, lk_510, lk_511, lk_512, lk_513, lk_514, lk_515, lk_516, lk_517, lk_518, lk_519, ll_505, ll_506, ll_507, ll_508, ll_509, ll_510, ll_511, ll_512, ll_513, ll_514, ll_515, ll_516, ll_517, ll_518, ll_519, h1, a1, hstep, c2, qb_t, qb_f, fL_takes_65, fL_takes_66, fL_takes_88, fL_takes_118, Option.isSome_some]
    · obtain rfl : t = 10 := by omega
      obtain ⟨hE, hI⟩ := qExc_10 hG hok
      rw [hE, if_neg Bool.false_ne_true] at hacc
      cases hq : qrBy G x.1 x.2 10 with
      | none =>
        rw [hq] at hstep hacc
        simp only at hacc
        rw [hI, if_neg Bool.false_ne_true] at hacc
        refine ⟨I, ?_, by rw [hacc]; exact hV0, qFrL_refl I⟩
        rw [hacc]
        simp (disch := omega) only [↓qlet, eq_self, qzg_t, qzb_some, ↓reduceIte, not_or, not_false_eq_true, not_true_eq_false, and_true, true_and, and_self, or_false, false_or, true_or, or_true, and_false, false_and, qlit, qneg, qof, qn_add, qn_mul, qn_s, qn_z, qn_d, qn_dz, qm_1, qt_1, qt_0, qb_0, qb_1, qb_01, qb01b, q01_0, q01_1, qo_s, qo_n, qn_c, qn_le, qn_lt, qn_eq, qn_ne_m, qm_ne_n, qm_lt, qm_le, qn_lt_m, qn_le_m, qn_sub, qn_div, qn_mod, qle_t, qle_f, qlt_t, qlt_f, qeq_t, qeq_f, Nat.add_sub_cancel, qU_s, qU_a, qU_k, qn_rem, qL_I, qL_s, lk_505, lk_506, lk_507, lk_508, lk_509, lk_510, lk_511, lk_512, lk_513, lk_514, lk_515, lk_516, lk_517, lk_518, lk_519, ll_505, ll_506, ll_507, ll_508, ll_509, ll_510, ll_511, ll_512, ll_513, ll_514, ll_515, ll_516, ll_517, ll_518, ll_519, h1, a1, hstep, qb_t, qb_f, fL_takes_65, fL_takes_66, fL_takes_88, fL_takes_118, qn_le_m, Option.isSome_none]
      | some j =>
        have hj : j < 4 := by
          have hq := hq
          unfold qrBy at hq
          have := qBy_lt G x.1 10 _ _ _ _ hq
          omega
        rw [hq] at hstep hacc
        simp only at hacc
        refine ⟨_, ?_, by rw [hacc]; exact (htop (2 * j + 1)).1, (htop (2 * j + 1)).2⟩
        rw [hacc]
        have e1 : 16 * x.1 + (2 * j + 1) = 16 * x.1 + 2 * j + 1 := by omega
        rw [e1]
        simp (disch := omega) only [↓qlet, eq_self, qzg_t, qzb_some, ↓reduceIte, not_or, not_false_eq_true, not_true_eq_false, and_true, true_and, and_self, or_false, false_or, true_or, or_true, and_false, false_and, qlit, qneg, qof, qn_add, qn_mul, qn_s, qn_z, qn_d, qn_dz, qm_1, qt_1, qt_0, qb_0, qb_1, qb_01, qb01b, q01_0, q01_1, qo_s, qo_n, qn_c, qn_le, qn_lt, qn_eq, qn_ne_m, qm_ne_n, qm_lt, qm_le, qn_lt_m, qn_le_m, qn_sub, qn_div, qn_mod, qle_t, qle_f, qlt_t, qlt_f, qeq_t, qeq_f, Nat.add_sub_cancel, qU_s, qU_a, qU_k, qn_rem, qL_I, qL_s, lk_505, lk_506, lk_507, lk_508, lk_509, lk_510, lk_511, lk_512, lk_513, lk_514, lk_515, lk_516, lk_517, lk_518, lk_519, ll_505, ll_506, ll_507, ll_508, ll_509, ll_510, ll_511, ll_512, ll_513, ll_514, ll_515, ll_516, ll_517, ll_518, ll_519, h1, a1, hstep, qb_t, qb_f, fL_takes_65, fL_takes_66, fL_takes_88, fL_takes_118, Option.isSome_some]
/-- the element that is wanted, of those below some -/
def qWl (G : qG) (st : List (Nat × Nat)) (s : Int32) : Nat → Option Nat
  | 0 => none
  | i + 1 => if s = qn (2 ^ i) ∧ ¬ qgN G i = 0 ∧ qgA G i = true ∧ qExc G st i = false then some i else qWl G st s i
theorem lWanted_47 (hG : qLG G I) (hV : qLV I p V f) (hok : qLok G V) (s : Int32) : ∀ d i m, i + d = 5 → d < m → fL_wanted_47 m 506 507 510 511 s (qo (qWl G V.1.1 s i)) (qn i) (qL w I W) = some (qo (qWl G V.1.1 s 5), qL w I W) := by
  intro d
  induction d with
  | zero =>
    intro i m h1 h2
    obtain ⟨m, rfl⟩ : ∃ q, m = q + 1 := ⟨m - 1, by omega⟩
    obtain rfl : i = 5 := by omega
    unfold fL_wanted_47
    simp (disch := omega) only [↓qlet, eq_self, qzg_t, qzb_some, ↓reduceIte, not_or, not_false_eq_true, not_true_eq_false, and_true, true_and, and_self, or_false, false_or, true_or, or_true, and_false, false_and, qlit, qneg, qof, qn_add, qn_mul, qn_s, qn_z, qn_d, qn_dz, qm_1, qt_1, qt_0, qb_0, qb_1, qb_01, qb01b, q01_0, q01_1, qo_s, qo_n, qn_c, qn_le, qn_lt, qn_eq, qn_ne_m, qm_ne_n, qm_lt, qm_le, qn_lt_m, qn_le_m, qn_sub, qn_div, qn_mod, qle_t, qle_f, qlt_t, qlt_f, qeq_t, qeq_f, Nat.add_sub_cancel, qU_s, qU_a, qU_k, qn_rem, qL_I, qL_s, lk_505, lk_506, lk_507, lk_508, lk_509, lk_510, lk_511, lk_512, lk_513, lk_514, lk_515, lk_516, lk_517, lk_518, lk_519, ll_505, ll_506, ll_507, ll_508, ll_509, ll_510, ll_511, ll_512, ll_513, ll_514, ll_515, ll_516, ll_517, ll_518, ll_519]
  | succ d ih =>
    intro i m h1 h2
    obtain ⟨m, rfl⟩ : ∃ q, m = q + 1 := ⟨m - 1, by omega⟩
    have ih := ih (i + 1) m (by omega) (by omega)
    obtain ⟨g1, g2, -, y, z, i1, i2, i3, i4, i5⟩ := hG i (by omega)
    have hA : qt (I 507 i) 20 = qgA G i := by rw [i5]; exact (qx_2 i1 i2 (t := 0) (by decide)).trans (qx_ab _ _).1
    obtain ⟨c1, c2⟩ := lHas (w := w) (W := W) hG hV hok (show i < 10 by omega)
    have hp := qt_pow2 i (by omega)
    have hw : qWl G V.1.1 s (i + 1) = if s = qn (2 ^ i) ∧ ¬ qgN G i = 0 ∧ qgA G i = true ∧ qExc G V.1.1 i = false then some i else qWl G V.1.1 s i := rfl
    unfold fL_wanted_47
    by_cases q1 : s = qn (2 ^ i)
    · by_cases q2 : qgN G i = 0
      · rw [hw, if_neg (fun h => h.2.1 q2)] at ih
        simp (disch := omega) only [↓qlet, eq_self, qzg_t, qzb_some, ↓reduceIte, not_or, not_false_eq_true, not_true_eq_false, and_true, true_and, and_self, or_false, false_or, true_or, or_true, and_false, false_and, qlit, qneg, qof, qn_add, qn_mul, qn_s, qn_z, qn_d, qn_dz, qm_1, qt_1, qt_0, qb_0, qb_1, qb_01, qb01b, q01_0, q01_1, qo_s, qo_n, qn_c, qn_le, qn_lt, qn_eq, qn_ne_m, qm_ne_n, qm_lt, qm_le, qn_lt_m, qn_le_m, qn_sub, qn_div, qn_mod, qle_t, qle_f, qlt_t, qlt_f, qeq_t, qeq_f, Nat.add_sub_cancel, qU_s, qU_a, qU_k, qn_rem, qL_I, qL_s, lk_505, lk_506, lk_507, lk_508, lk_509, lk_510, lk_511, lk_512, lk_513, lk_514, lk_515, lk_516, lk_517, lk_518, lk_519, ll_505, ll_506, ll_507, ll_508, ll_509, ll_510, ll_511, ll_512, ll_513, ll_514, ll_515, ll_516, ll_517, ll_518, ll_519, hp, q1, g1, q2, fL_wanted_101, fL_wanted_103, Nat.le_refl] at ih ⊢
        exact ih
      · have q2' : ¬ qgN G i ≤ 0 := by omega
        cases q3 : qgA G i with
        | false =>
          rw [hw, if_neg (fun h => by rw [q3] at h; exact absurd h.2.2.1 Bool.false_ne_true)] at ih
          simp (disch := omega) only [↓qlet, eq_self, qzg_t, qzb_some, ↓reduceIte, not_or, not_false_eq_true, not_true_eq_false, and_true, true_and, and_self, or_false, false_or, true_or, or_true, and_false, false_and, qlit, qneg, qof, qn_add, qn_mul, qn_s, qn_z, qn_d, qn_dz, qm_1, qt_1, qt_0, qb_0, qb_1, qb_01, qb01b, q01_0, q01_1, qo_s, qo_n, qn_c, qn_le, qn_lt, qn_eq, qn_ne_m, qm_ne_n, qm_lt, qm_le, qn_lt_m, qn_le_m, qn_sub, qn_div, qn_mod, qle_t, qle_f, qlt_t, qlt_f, qeq_t, qeq_f, Nat.add_sub_cancel, qU_s, qU_a, qU_k, qn_rem, qL_I, qL_s, lk_505, lk_506, lk_507, lk_508, lk_509, lk_510, lk_511, lk_512, lk_513, lk_514, lk_515, lk_516, lk_517, lk_518, lk_519, ll_505, ll_506, ll_507, ll_508, ll_509, ll_510, ll_511, ll_512, ll_513, ll_514, ll_515, ll_516, ll_517, ll_518, ll_519, hp, q1, g1, q2', hA, q3, fL_wanted_101, fL_wanted_103, Bool.false_eq_true] at ih ⊢
          exact ih
        | true =>
          cases q4 : qExc G V.1.1 i with
          | true =>
            rw [hw, if_neg (fun h => by rw [q4] at h; exact absurd h.2.2.2 Bool.true_eq_false.mp)] at ih
            rw [q4] at c2
            simp (disch := omega) only [↓qlet, eq_self, qzg_t, qzb_some, ↓reduceIte, not_or, not_false_eq_true, not_true_eq_false, and_true, true_and, and_self, or_false, false_or, true_or, or_true, and_false, false_and, qlit, qneg, qof, qn_add, qn_mul, qn_s, qn_z, qn_d, qn_dz, qm_1, qt_1, qt_0, qb_0, qb_1, qb_01, qb01b, q01_0, q01_1, qo_s, qo_n, qn_c, qn_le, qn_lt, qn_eq, qn_ne_m, qm_ne_n, qm_lt, qm_le, qn_lt_m, qn_le_m, qn_sub, qn_div, qn_mod, qle_t, qle_f, qlt_t, qlt_f, qeq_t, qeq_f, Nat.add_sub_cancel, qU_s, qU_a, qU_k, qn_rem, qL_I, qL_s, lk_505, lk_506, lk_507, lk_508, lk_509, lk_510, lk_511, lk_512, lk_513, lk_514, lk_515, lk_516, lk_517, lk_518, lk_519, ll_505, ll_506, ll_507, ll_508, ll_509, ll_510, ll_511, ll_512, ll_513, ll_514, ll_515, ll_516, ll_517, ll_518, ll_519, hp, q1, g1, q2', hA, q3, c2, qb_t, fL_wanted_101, fL_wanted_103] at ih ⊢
            exact ih
          | false =>
            rw [hw, if_pos ⟨q1, q2, q3, q4⟩, qo_s] at ih
            rw [q4] at c2
            simp (disch := omega) only [↓qlet, eq_self, qzg_t, qzb_some, ↓reduceIte, not_or, not_false_eq_true, not_true_eq_false, and_true, true_and, and_self, or_false, false_or, true_or, or_true, and_false, false_and, qlit, qneg, qof, qn_add, qn_mul, qn_s, qn_z, qn_d, qn_dz, qm_1, qt_1, qt_0, qb_0, qb_1, qb_01, qb01b, q01_0, q01_1, qo_s, qo_n, qn_c, qn_le, qn_lt, qn_eq, qn_ne_m, qm_ne_n, qm_lt, qm_le, qn_lt_m, qn_le_m, qn_sub, qn_div, qn_mod, qle_t, qle_f, qlt_t, qlt_f, qeq_t, qeq_f, Nat.add_sub_cancel, qU_s, qU_a, qU_k, qn_rem, qL_I, qL_s, lk_505, lk_506, lk_507, lk_508, lk_509, lk_510, lk_511, lk_512, lk_513, lk_514, lk_515, lk_516, lk_517, lk_518, lk_519, ll_505, ll_506, ll_507, ll_508, ll_509, ll_510, ll_511, ll_512, ll_513, ll_514, ll_515, ll_516, ll_517, ll_518, ll_519, hp, q1, g1, q2', hA, q3, c2, qb_f, fL_wanted_101, fL_wanted_103] at ih ⊢
            exact ih
    · rw [hw, if_neg (fun h => q1 h.1)] at ih
      simp (disch := omega) only [↓qlet, eq_self, qzg_t, qzb_some, ↓reduceIte, not_or, not_false_eq_true, not_true_eq_false, and_true, true_and, and_self, or_false, false_or, true_or, or_true, and_false, false_and, qlit, qneg, qof, qn_add, qn_mul, qn_s, qn_z, qn_d, qn_dz, qm_1, qt_1, qt_0, qb_0, qb_1, qb_01, qb01b, q01_0, q01_1, qo_s, qo_n, qn_c, qn_le, qn_lt, qn_eq, qn_ne_m, qm_ne_n, qm_lt, qm_le, qn_lt_m, qn_le_m, qn_sub, qn_div, qn_mod, qle_t, qle_f, qlt_t, qlt_f, qeq_t, qeq_f, Nat.add_sub_cancel, qU_s, qU_a, qU_k, qn_rem, qL_I, qL_s, lk_505, lk_506, lk_507, lk_508, lk_509, lk_510, lk_511, lk_512, lk_513, lk_514, lk_515, lk_516, lk_517, lk_518, lk_519, ll_505, ll_506, ll_507, ll_508, ll_509, ll_510, ll_511, ll_512, ll_513, ll_514, ll_515, ll_516, ll_517, ll_518, ll_519, hp, q1, fL_wanted_101, fL_wanted_103] at ih ⊢
      exact ih
theorem qOnly_is {s : Int32} {k : Nat} (h : qOnly s = some k) : s = qn (2 ^ k) := by
  unfold qOnly at h
  have h2 := List.find?_some h
  simpa using h2
theorem qOnly_no {s : Int32} (h : qOnly s = none) : ∀ k, k < 10 → ¬ s = qn (2 ^ k) := by
  unfold qOnly at h
  rw [List.find?_eq_none] at h
  intro k hk e
  have := h k (by simpa using hk)
  simp [e] at this
theorem qPow_inj : ∀ i, i < 5 → ∀ k, k < 10 → (qn (2 ^ k) = qn (2 ^ i)) → k = i := by decide +kernel
theorem qPow_t : ∀ k, k < 10 → qt (qn (2 ^ k)) k = true := by decide +kernel
theorem qWl_none (st : List (Nat × Nat)) {s : Int32} (h : ∀ k, k < 5 → ¬ s = qn (2 ^ k)) : ∀ i, i ≤ 5 → qWl G st s i = none := by
  intro i
  induction i with
  | zero => intro _; rfl
  | succ i ih =>
    intro hi
    unfold qWl
    rw [if_neg (fun c => h i (by omega) c.1), ih (by omega)]
theorem qWl_some (st : List (Nat × Nat)) {k : Nat} (hk : k < 5) : ∀ i, i ≤ 5 → qWl G st (qn (2 ^ k)) i = if k < i ∧ ¬ qgN G k = 0 ∧ qgA G k = true ∧ qExc G st k = false then some k else none := by
  intro i
  induction i with
  | zero => intro _; rw [if_neg (fun h => by omega)]; rfl
  | succ i ih =>
    intro hi
    unfold qWl
    rw [ih (by omega)]
    by_cases c : k = i
    · subst c
      by_cases c2 : ¬ qgN G k = 0 ∧ qgA G k = true ∧ qExc G st k = false
      · rw [if_pos ⟨rfl, c2⟩, if_pos ⟨by omega, c2⟩]
      · rw [if_neg (fun h => c2 h.2), if_neg (fun h => c2 h.2), if_neg (fun h => c2 h.2)]
    · rw [if_neg (fun h => c (qPow_inj i (by omega) k (by omega) h.1))]
      by_cases c2 : k < i ∧ ¬ qgN G k = 0 ∧ qgA G k = true ∧ qExc G st k = false
      · rw [if_pos c2, if_pos ⟨by omega, c2.2⟩]
      · rw [if_neg c2, if_neg (fun h => c2 ⟨by omega, h.2⟩)]
theorem qBy_no {e t : Nat} (h : ∀ k, k < qgN G e → qt (qgS G e k) t = false) : ∀ n k s, k + n ≤ qgN G e → qgBy G e t n k s = none := by
  intro n
  induction n with
  | zero => intro k s _; rfl
  | succ n ih =>
    intro k s hk
    unfold qgBy qgHas
    rw [h k (by omega), Bool.false_and, if_neg Bool.false_ne_true, ih (k + 1) false (by omega)]
    split <;> rfl
theorem qGoes_5 (hG : qLG G I) (hok : qLok G V) {t : Nat} (h5 : 5 ≤ t) (ht : t < 10) : qt (qGoes G V.1) t = false := by
  unfold qGoes
  cases hst : V.1.1 with
  | nil => exact qt_z (by omega)
  | cons x st =>
    obtain ⟨b1, b2⟩ := hok.2.2.1 x (by rw [hst]; exact List.mem_cons_self)
    show qt (qgOn G x.1 (qgN G x.1 - x.2 / 2) (x.2 / 2) (x.2 % 2 == 1)) t = false
    rw [qOn_by G x.1 (by omega), qBy_no (fun k hk => ?_) _ _ _ (by omega)]
    · rfl
    · obtain ⟨n, n1, n2, n3, n4, n5⟩ := (hG x.1 b1).2.2.1 k hk
      rw [n2]
      exact n5 t h5 ht
theorem qWl_want (hG : qLG G I) (hok : qLok G V) (hc : qCan G V.1 = false) : qWl G V.1.1 (qGoes G V.1) 5 = qWant G V.1 := by
  have hl := hok.1
  unfold qWant
  cases ho : qOnly (qGoes G V.1) with
  | none => exact qWl_none _ (fun k hk => qOnly_no ho k (by omega)) 5 (by omega)
  | some k =>
    have h1 := qOnly_is ho
    have h2 := qOnly_lt ho
    have h3 : k < 5 := by
      rcases Nat.lt_or_ge k 5 with h | h
      · exact h
      · have h4 := qGoes_5 hG hok h h2
        rw [h1, qPow_t k h2] at h4
        cases h4
    dsimp only
    rw [h1, qWl_some _ h3 5 (by omega), hc]
    by_cases c : ¬ qgN G k = 0 ∧ qgA G k = true ∧ qExc G V.1.1 k = false
    · rw [if_pos ⟨h3, c⟩, if_neg]
      rintro (h | h | h | h | h)
      · cases h
      · omega
      · rw [c.2.1] at h; cases h
      · exact c.1 h
      · rw [c.2.2] at h; cases h
    · rw [if_neg (fun h => c h.2), if_pos]
      by_cases c1 : qgN G k = 0
      · exact Or.inr (Or.inr (Or.inr (Or.inl c1)))
      · by_cases c2 : qgA G k = true
        · refine Or.inr (Or.inr (Or.inr (Or.inr ?_)))
          cases c3 : qExc G V.1.1 k with
          | true => rfl
          | false => exact absurd ⟨c1, c2, c3⟩ c
        · refine Or.inr (Or.inr (Or.inl ?_))
          simpa using c2
theorem qOnly_0 : qOnly (qn 0) = none := by decide +kernel
theorem qWl_0 (st : List (Nat × Nat)) : qWl G st (qn 0) 5 = none := qWl_none st (by decide +kernel) 5 (by omega)
theorem lWanted_m (hG : qLG G I) (hV : qLV I p V f) (hok : qLok G V) (m : Nat) (hm : 5 < m) (s : Int32) : fL_wanted_47 m 506 507 510 511 s qm (qn 0) (qL w I W) = some (qo (qWl G V.1.1 s 5), qL w I W) := by
  have h := lWanted_47 (w := w) (W := W) hG hV hok s 5 0 m (by omega) hm
  rw [show qWl G V.1.1 s 0 = none from rfl, qo_n] at h
  exact h
theorem lWanted (hg : qGok G) (hG : qLG G I) (hV : qLV I p V f) (hok : qLok G V) : fL_wanted 505 506 507 510 511 (qL w I W) = some (qo (qWant G V.1), qL w I W) := by
  have hV0 := hV
  obtain ⟨h1, h2, h3, h4, h5, h6, h7, h8, h9, h10, h11, h12, h13⟩ := hV
  have hw := lWanted_m (w := w) (W := W) hG hV0 hok 10000 (by omega)
  unfold fL_wanted fL_wanted_22 fL_wanted_39
  generalize fL_wanted_47 10000 = F at hw ⊢
  have hw0 := hw (qn 0)
  rw [qWl_0, qo_n] at hw0
  cases hst : V.1.1 with
  | nil =>
    rw [hst, List.length_nil] at h1
    have e : qWant G V.1 = none := by
      unfold qWant qGoes
      rw [hst]
      simp only [qOnly_0]
    rw [e]
    simp (disch := omega) only [↓qlet, eq_self, qzg_t, qzb_some, ↓reduceIte, not_or, not_false_eq_true, not_true_eq_false, and_true, true_and, and_self, or_false, false_or, true_or, or_true, and_false, false_and, qlit, qneg, qof, qn_add, qn_mul, qn_s, qn_z, qn_d, qn_dz, qm_1, qt_1, qt_0, qb_0, qb_1, qb_01, qb01b, q01_0, q01_1, qo_s, qo_n, qn_c, qn_le, qn_lt, qn_eq, qn_ne_m, qm_ne_n, qm_lt, qm_le, qn_lt_m, qn_le_m, qn_sub, qn_div, qn_mod, qle_t, qle_f, qlt_t, qlt_f, qeq_t, qeq_f, Nat.add_sub_cancel, qU_s, qU_a, qU_k, qn_rem, qL_I, qL_s, lk_505, lk_506, lk_507, lk_508, lk_509, lk_510, lk_511, lk_512, lk_513, lk_514, lk_515, lk_516, lk_517, lk_518, lk_519, ll_505, ll_506, ll_507, ll_508, ll_509, ll_510, ll_511, ll_512, ll_513, ll_514, ll_515, ll_516, ll_517, ll_518, ll_519, h1, qneg, hw0]
  | cons x st =>
    have hl9 := hok.1
    obtain ⟨b1, b2⟩ := hok.2.2.1 x (by rw [hst]; exact List.mem_cons_self)
    have hc : qCan G V.1 = qrEnd G x.1 x.2 := by unfold qCan; rw [hst]
    have hgo : qGoes G V.1 = qrOn G x.1 x.2 := by unfold qGoes; rw [hst]
    have hends := lEnds (w := w) (W := W) hG b1 b2
    have hnext := lNext (w := w) (W := W) hg hG b1 b2
    have hwn := hw (qGoes G V.1)
    rw [hst] at h1 h10 hl9
    simp only [List.length_cons] at h1 hl9
    have a1 := h10.1
    cases hE : qrEnd G x.1 x.2 with
    | true =>
      rw [hE] at hends hc
      have e : qWant G V.1 = none := by
        unfold qWant
        rw [hc]
        cases qOnly (qGoes G V.1) with
        | none => rfl
        | some k => exact if_pos (Or.inl rfl)
      rw [e]
      rw [qb_t] at hends
      have hz : fL_ends 505 506 (qn (16 * x.1 + x.2)) (qL w I W) = some (qn 1, qL w I W) := hends
      have h10 : ¬ qn 1 = 0 := by decide
      simp (disch := omega) only [qlit, qn_s, qL_I, qzg_t, qn_c, qn_lt, h1, a1, lk_510, lk_511, ll_510, ll_511, qlt_f, qle_f, not_or, not_false_eq_true, and_self, qeq_f, qn_eq, ↓reduceIte, or_self]
      rw [hz, qzb_some, if_neg (by decide), qneg]
      exact hw0
    | false =>
      rw [hE] at hends hc
      rw [qWl_want hG hok hc, hgo] at hwn
      simp (disch := omega) only [↓qlet, eq_self, qzg_t, qzb_some, ↓reduceIte, not_or, not_false_eq_true, not_true_eq_false, and_true, true_and, and_self, or_false, false_or, true_or, or_true, and_false, false_and, qlit, qneg, qof, qn_add, qn_mul, qn_s, qn_z, qn_d, qn_dz, qm_1, qt_1, qt_0, qb_0, qb_1, qb_01, qb01b, q01_0, q01_1, qo_s, qo_n, qn_c, qn_le, qn_lt, qn_eq, qn_ne_m, qm_ne_n, qm_lt, qm_le, qn_lt_m, qn_le_m, qn_sub, qn_div, qn_mod, qle_t, qle_f, qlt_t, qlt_f, qeq_t, qeq_f, Nat.add_sub_cancel, qU_s, qU_a, qU_k, qn_rem, qL_I, qL_s, lk_505, lk_506, lk_507, lk_508, lk_509, lk_510, lk_511, lk_512, lk_513, lk_514, lk_515, lk_516, lk_517, lk_518, lk_519, ll_505, ll_506, ll_507, ll_508, ll_509, ll_510, ll_511, ll_512, ll_513, ll_514, ll_515, ll_516, ll_517, ll_518, ll_519, h1, a1, hends, hnext, qb_f, qneg, hwn]
end
