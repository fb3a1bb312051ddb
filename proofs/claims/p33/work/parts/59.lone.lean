/-! THE LAW: one token -/
section
variable {w : Bool} {I : Nat → Nat → Int32} {W : Nat → Nat → Nat} {G : qG} {V : qV} {f : Bool} {p : Nat} {sw : Nat → Nat} {en : Nat → List qK} {txt ks : List qK} {lev : Nat}
theorem qRead_l {t : Nat} (ht : t < 10) (l l' : Nat) : ∀ n put V, qRead G t l p n put V = qRead G t l' p n put V := by
  intro n
  induction n with
  | zero => intro put V; rfl
  | succ n ih =>
    intro put V
    unfold qRead
    split
    · rfl
    · cases qAcc G V.1 t with
      | some Z => simp only [if_pos ht]
      | none =>
        simp only [ih]
theorem qRd_l {t : Nat} (ht : t < 10) (l l' : Nat) (V : qV) : qRd G t l p V = qRd G t l' p V := by
  unfold qRd
  rw [qRead_l ht l l']
/-- with a cover nothing more is done -/
theorem lOne_352n {c : Nat} (hc : ¬ c = 0) (hc9 : c < 9) (i s v : Int32) (M : zM) : fL_one_352 505 506 507 508 509 510 511 513 514 515 516 517 i s v (qn c) M = some (qn 0, M) := by
  unfold fL_one_352 fL_one_415 fL_one_437 fL_one_552 fL_one_590 fL_one_717 fL_one_768
  have h : ¬ qn c = 0 := by
    rw [show (0 : Int32) = qn 0 from rfl, qn_eq (by omega) (by omega)]
    exact hc
  rw [if_neg h, if_neg h, if_neg h, if_neg h, if_neg h, if_neg h, if_neg h]
  rfl
theorem lLast_475 (hG : qLG G I) (hV : qLV I p V f) (hok : qLok G V) {e : Nat} (he : e < 128) : ∀ d m, d ≤ V.1.1.length → d < m → fL_one_475 m 505 506 507 510 511 517 (qn 1) (qn e) (qo (qLast (V.1.1.drop d) e)) (qn (V.1.1.length - d)) (qL w I W) = fL_one_518 505 506 507 510 511 517 (qo (qLast V.1.1 e)) (qL w I W) := by
  have h0 := hV.1
  have h10 := hV.2.2.2.2.2.2.2.2.2.1
  have hl9 := hok.1
  intro d
  induction d with
  | zero =>
    intro m h1 h2
    obtain ⟨m, rfl⟩ : ∃ q, m = q + 1 := ⟨m - 1, by omega⟩
    rw [List.drop_zero, Nat.sub_zero]
    unfold fL_one_475
    simp (disch := omega) only [↓qlet, eq_self, qzg_t, qzb_some, ↓reduceIte, not_or, not_false_eq_true, not_true_eq_false, and_true, true_and, and_self, or_false, false_or, true_or, or_true, and_false, false_and, qlit, qneg, qof, qn_add, qn_mul, qn_s, qn_z, qn_d, qn_dz, qm_1, qt_1, qt_0, qb_0, qb_1, qb_01, qb01b, q01_0, q01_1, qo_s, qo_n, qn_c, qn_le, qn_lt, qn_eq, qn_ne_m, qm_ne_n, qm_lt, qm_le, qn_lt_m, qn_le_m, qn_sub, qn_div, qn_mod, qle_t, qle_f, qlt_t, qlt_f, qeq_t, qeq_f, Nat.add_sub_cancel, qU_s, qU_a, qU_k, qn_rem, qL_I, qL_s, lk_505, lk_506, lk_507, lk_508, lk_509, lk_510, lk_511, lk_512, lk_513, lk_514, lk_515, lk_516, lk_517, lk_518, lk_519, ll_505, ll_506, ll_507, ll_508, ll_509, ll_510, ll_511, ll_512, ll_513, ll_514, ll_515, ll_516, ll_517, ll_518, ll_519, h0, Nat.le_refl]
  | succ d ih =>
    intro m h1 h2
    obtain ⟨m, rfl⟩ : ∃ q, m = q + 1 := ⟨m - 1, by omega⟩
    have ih := ih m (by omega) (by omega)
    have hlt : d < V.1.1.length := by omega
    have hdr : V.1.1.drop d = V.1.1[d] :: V.1.1.drop (d + 1) := (List.getElem_cons_drop hlt).symm
    have ha := qAll_drop d h10
    rw [hdr] at ha ih
    have a1 := ha.1
    rw [List.length_drop] at a1
    have e1 : V.1.1.length - (d + 1) + 1 = V.1.1.length - d := by omega
    have c : ¬ V.1.1.length ≤ V.1.1.length - (d + 1) := by omega
    obtain ⟨b1, b2⟩ := hok.2.2.1 _ (List.getElem_mem hlt)
    rw [← e1] at ih
    rw [show qLast (V.1.1[d] :: V.1.1.drop (d + 1)) e = if V.1.1[d].1 = e then some (V.1.1.drop (d + 1)).length else qLast (V.1.1.drop (d + 1)) e from rfl, List.length_drop] at ih
    have b4 := (hG _ b1).2.1
    have e2 : (16 * V.1.1[d].1 + V.1.1[d].2) / 16 = V.1.1[d].1 := by omega
    unfold fL_one_475
    by_cases q : V.1.1[d].1 = e
    · rw [if_pos q, qo_s] at ih
      simp (disch := omega) only [↓qlet, eq_self, qzg_t, qzb_some, ↓reduceIte, not_or, not_false_eq_true, not_true_eq_false, and_true, true_and, and_self, or_false, false_or, true_or, or_true, and_false, false_and, qlit, qneg, qof, qn_add, qn_mul, qn_s, qn_z, qn_d, qn_dz, qm_1, qt_1, qt_0, qb_0, qb_1, qb_01, qb01b, q01_0, q01_1, qo_s, qo_n, qn_c, qn_le, qn_lt, qn_eq, qn_ne_m, qm_ne_n, qm_lt, qm_le, qn_lt_m, qn_le_m, qn_sub, qn_div, qn_mod, qle_t, qle_f, qlt_t, qlt_f, qeq_t, qeq_f, Nat.add_sub_cancel, qU_s, qU_a, qU_k, qn_rem, qL_I, qL_s, lk_505, lk_506, lk_507, lk_508, lk_509, lk_510, lk_511, lk_512, lk_513, lk_514, lk_515, lk_516, lk_517, lk_518, lk_519, ll_505, ll_506, ll_507, ll_508, ll_509, ll_510, ll_511, ll_512, ll_513, ll_514, ll_515, ll_516, ll_517, ll_518, ll_519, h0, c, a1, e2, q, fL_one_510]
      exact ih
    · rw [if_neg q] at ih
      simp (disch := omega) only [↓qlet, eq_self, qzg_t, qzb_some, ↓reduceIte, not_or, not_false_eq_true, not_true_eq_false, and_true, true_and, and_self, or_false, false_or, true_or, or_true, and_false, false_and, qlit, qneg, qof, qn_add, qn_mul, qn_s, qn_z, qn_d, qn_dz, qm_1, qt_1, qt_0, qb_0, qb_1, qb_01, qb01b, q01_0, q01_1, qo_s, qo_n, qn_c, qn_le, qn_lt, qn_eq, qn_ne_m, qm_ne_n, qm_lt, qm_le, qn_lt_m, qn_le_m, qn_sub, qn_div, qn_mod, qle_t, qle_f, qlt_t, qlt_f, qeq_t, qeq_f, Nat.add_sub_cancel, qU_s, qU_a, qU_k, qn_rem, qL_I, qL_s, lk_505, lk_506, lk_507, lk_508, lk_509, lk_510, lk_511, lk_512, lk_513, lk_514, lk_515, lk_516, lk_517, lk_518, lk_519, ll_505, ll_506, ll_507, ll_508, ll_509, ll_510, ll_511, ll_512, ll_513, ll_514, ll_515, ll_516, ll_517, ll_518, ll_519, h0, c, a1, e2, q, fL_one_510]
      exact ih
theorem lOne_518 (hG : qLG G I) (hV : qLV I p V f) (hok : qLok G V) (to : Option Nat) (hto : ∀ q, to = some q → q < 100) : ∃ J V' f', fL_one_518 505 506 507 510 511 517 (qo to) (qL w I W) = some (qn 0, qL w J W) ∧ qLV J p V' f' ∧ qLok G V' ∧ qFrL I J ∧ (f' = false → f = false ∧ V' = qShutO G p V to) := by
  unfold fL_one_518 fL_one_549
  cases to with
  | none =>
    obtain ⟨K, V2, f2, k1, k2, k3, k4, k5, k6, k7, k8⟩ := lFailsK (w := w) (W := W) hV hok 1
    refine ⟨K, V2, f2, ?_, k2, k3, k4, k8⟩
    simp (disch := omega) only [↓qlet, eq_self, qzg_t, qzb_some, ↓reduceIte, not_or, not_false_eq_true, not_true_eq_false, and_true, true_and, and_self, or_false, false_or, true_or, or_true, and_false, false_and, qlit, qneg, qof, qn_add, qn_mul, qn_s, qn_z, qn_d, qn_dz, qm_1, qt_1, qt_0, qb_0, qb_1, qb_01, qb01b, q01_0, q01_1, qo_s, qo_n, qn_c, qn_le, qn_lt, qn_eq, qn_ne_m, qm_ne_n, qm_lt, qm_le, qn_lt_m, qn_le_m, qn_sub, qn_div, qn_mod, qle_t, qle_f, qlt_t, qlt_f, qeq_t, qeq_f, Nat.add_sub_cancel, qU_s, qU_a, qU_k, qn_rem, qL_I, qL_s, lk_505, lk_506, lk_507, lk_508, lk_509, lk_510, lk_511, lk_512, lk_513, lk_514, lk_515, lk_516, lk_517, lk_518, lk_519, ll_505, ll_506, ll_507, ll_508, ll_509, ll_510, ll_511, ll_512, ll_513, ll_514, ll_515, ll_516, ll_517, ll_518, ll_519, qn_le_m, k1]
  | some q =>
    have hq := hto q rfl
    obtain ⟨K, V2, f2, k1, k2, k3, k4, k5⟩ := lClose (w := w) (W := W) q true hq hG hV hok
    rw [qb_t] at k1
    refine ⟨K, V2, f2, ?_, k2, k3, k4, k5⟩
    simp (disch := omega) only [↓qlet, eq_self, qzg_t, qzb_some, ↓reduceIte, not_or, not_false_eq_true, not_true_eq_false, and_true, true_and, and_self, or_false, false_or, true_or, or_true, and_false, false_and, qlit, qneg, qof, qn_add, qn_mul, qn_s, qn_z, qn_d, qn_dz, qm_1, qt_1, qt_0, qb_0, qb_1, qb_01, qb01b, q01_0, q01_1, qo_s, qo_n, qn_c, qn_le, qn_lt, qn_eq, qn_ne_m, qm_ne_n, qm_lt, qm_le, qn_lt_m, qn_le_m, qn_sub, qn_div, qn_mod, qle_t, qle_f, qlt_t, qlt_f, qeq_t, qeq_f, Nat.add_sub_cancel, qU_s, qU_a, qU_k, qn_rem, qL_I, qL_s, lk_505, lk_506, lk_507, lk_508, lk_509, lk_510, lk_511, lk_512, lk_513, lk_514, lk_515, lk_516, lk_517, lk_518, lk_519, ll_505, ll_506, ll_507, ll_508, ll_509, ll_510, ll_511, ll_512, ll_513, ll_514, ll_515, ll_516, ll_517, ll_518, ll_519, Nat.zero_le, k1]
theorem lLine (h7 : I 510 7 = qn lev) (hX : qLX I sw en txt) (hr : qLRow I en txt lev ks) {i : Nat} (hi : i < 50) (hV : qLV I p V f) (hok : qLok G V) (hG : qLG G I) (hg : qGok G) (v : Int32) : ∃ J V' f', fL_one_590 505 506 507 508 509 510 511 513 514 515 516 517 (qn i) (qn 5) v (qn 0) (qL w I W) = some (qn 0, qL w J W) ∧ qLV J p V' f' ∧ qLok G V' ∧ qFrL I J ∧ (f' = false → f = false ∧ V' = (if qLine ks i = true then V else qRd G 10 32 p V)) := by
  obtain ⟨l1, l2, l3⟩ := qLRow_l hX hr
  have ta : fL_token 508 509 510 (qn i - qn 1) (qL w I W) = some ((if i = 0 then qm else qTc ks (i - 1)), qL w I W) := by
    by_cases c : i = 0
    · subst c
      rw [if_pos rfl, qn_z]
      exact lToken_n h7 hX hr
    · rw [if_neg c, qn_sub (by omega)]
      exact lToken h7 hX hr (by omega)
  have tb := lToken (w := w) (W := W) h7 hX hr (show i + 1 < 100 by omega)
  obtain ⟨T, V1, f1, t1, t2, t3, t4, t5⟩ := lThing (w := w) (W := W) (t := 10) (l := 32) hg (Or.inr rfl) hG hV hok
  have hin : fL_one_678 505 506 507 510 511 513 514 515 516 517 (qL w I W) = some (qn 0, qL w I W) := by
    unfold fL_one_678 fL_one_683 fL_one_714
    simp (disch := omega) only [↓qlet, eq_self, qzg_t, qzb_some, ↓reduceIte, not_or, not_false_eq_true, not_true_eq_false, and_true, true_and, and_self, or_false, false_or, true_or, or_true, and_false, false_and, qlit, qneg, qof, qn_add, qn_mul, qn_s, qn_z, qn_d, qn_dz, qm_1, qt_1, qt_0, qb_0, qb_1, qb_01, qb01b, q01_0, q01_1, qo_s, qo_n, qn_c, qn_le, qn_lt, qn_eq, qn_ne_m, qm_ne_n, qm_lt, qm_le, qn_lt_m, qn_le_m, qn_sub, qn_div, qn_mod, qle_t, qle_f, qlt_t, qlt_f, qeq_t, qeq_f, Nat.add_sub_cancel, qU_s, qU_a, qU_k, qn_rem, qL_I, qL_s, lk_505, lk_506, lk_507, lk_508, lk_509, lk_510, lk_511, lk_512, lk_513, lk_514, lk_515, lk_516, lk_517, lk_518, lk_519, ll_505, ll_506, ll_507, ll_508, ll_509, ll_510, ll_511, ll_512, ll_513, ll_514, ll_515, ll_516, ll_517, ll_518, ll_519]
  have hout : fL_one_682 505 506 507 510 511 513 514 515 516 517 (qL w I W) = some (qn 0, qL w T W) := by
    unfold fL_one_682 fL_one_683 fL_one_714
    simp (disch := omega) only [↓qlet, eq_self, qzg_t, qzb_some, ↓reduceIte, not_or, not_false_eq_true, not_true_eq_false, and_true, true_and, and_self, or_false, false_or, true_or, or_true, and_false, false_and, qlit, qneg, qof, qn_add, qn_mul, qn_s, qn_z, qn_d, qn_dz, qm_1, qt_1, qt_0, qb_0, qb_1, qb_01, qb01b, q01_0, q01_1, qo_s, qo_n, qn_c, qn_le, qn_lt, qn_eq, qn_ne_m, qm_ne_n, qm_lt, qm_le, qn_lt_m, qn_le_m, qn_sub, qn_div, qn_mod, qle_t, qle_f, qlt_t, qlt_f, qeq_t, qeq_f, Nat.add_sub_cancel, qU_s, qU_a, qU_k, qn_rem, qL_I, qL_s, lk_505, lk_506, lk_507, lk_508, lk_509, lk_510, lk_511, lk_512, lk_513, lk_514, lk_515, lk_516, lk_517, lk_518, lk_519, ll_505, ll_506, ll_507, ll_508, ll_509, ll_510, ll_511, ll_512, ll_513, ll_514, ll_515, ll_516, ll_517, ll_518, ll_519, t1]
  have hAh : qAhead ks i = if i = 0 then none else (ks[i - 1]?).map fun k => k.1 := rfl
  have hSo : qSo ks (i + 1) = (ks[i + 1]?).map fun k => k.1 := rfl
  -- behind
  have h653 : fL_one_653 505 506 507 510 511 513 514 515 516 517 (qTc ks (i + 1)) (qL w I W) = some (qn 0, qL w (if qSo ks (i + 1) = some 1 ∨ qSo ks (i + 1) = some 3 then I else T) W) := by
    unfold fL_one_653
    rw [hSo]
    have hm0 : (qm < qn 0) = True := qm_lt (by omega)
    cases hk : ks[i + 1]? with
    | none =>
      have e9 : qTc ks (i + 1) = qm := by unfold qTc; rw [hk]
      rw [e9]
      simp (disch := omega) only [↓qlet, eq_self, qzg_t, qzb_some, ↓reduceIte, not_or, not_false_eq_true, not_true_eq_false, and_true, true_and, and_self, or_false, false_or, true_or, or_true, and_false, false_and, qlit, qneg, qof, qn_add, qn_mul, qn_s, qn_z, qn_d, qn_dz, qm_1, qt_1, qt_0, qb_0, qb_1, qb_01, qb01b, q01_0, q01_1, qo_s, qo_n, qn_c, qn_le, qn_lt, qn_eq, qn_ne_m, qm_ne_n, qm_lt, qm_le, qn_lt_m, qn_le_m, qn_sub, qn_div, qn_mod, qle_t, qle_f, qlt_t, qlt_f, qeq_t, qeq_f, Nat.add_sub_cancel, qU_s, qU_a, qU_k, qn_rem, qL_I, qL_s, lk_505, lk_506, lk_507, lk_508, lk_509, lk_510, lk_511, lk_512, lk_513, lk_514, lk_515, lk_516, lk_517, lk_518, lk_519, ll_505, ll_506, ll_507, ll_508, ll_509, ll_510, ll_511, ll_512, ll_513, ll_514, ll_515, ll_516, ll_517, ll_518, ll_519, hm0, hout, Option.map_none, reduceCtorEq]
    | some k =>
      obtain ⟨n, n1, n2, n3⟩ := qTc_s hk (l3 k (List.mem_of_getElem? hk))
      have k8 := (l3 k (List.mem_of_getElem? hk)).1
      have e1 : (128 * k.1 + n) / 128 = k.1 := by omega
      rw [n3]
      simp (disch := omega) only [↓qlet, eq_self, qzg_t, qzb_some, ↓reduceIte, not_or, not_false_eq_true, not_true_eq_false, and_true, true_and, and_self, or_false, false_or, true_or, or_true, and_false, false_and, qlit, qneg, qof, qn_add, qn_mul, qn_s, qn_z, qn_d, qn_dz, qm_1, qt_1, qt_0, qb_0, qb_1, qb_01, qb01b, q01_0, q01_1, qo_s, qo_n, qn_c, qn_le, qn_lt, qn_eq, qn_ne_m, qm_ne_n, qm_lt, qm_le, qn_lt_m, qn_le_m, qn_sub, qn_div, qn_mod, qle_t, qle_f, qlt_t, qlt_f, qeq_t, qeq_f, Nat.add_sub_cancel, qU_s, qU_a, qU_k, qn_rem, qL_I, qL_s, lk_505, lk_506, lk_507, lk_508, lk_509, lk_510, lk_511, lk_512, lk_513, lk_514, lk_515, lk_516, lk_517, lk_518, lk_519, ll_505, ll_506, ll_507, ll_508, ll_509, ll_510, ll_511, ll_512, ll_513, ll_514, ll_515, ll_516, ll_517, ll_518, ll_519, e1, Option.map_some, Option.some.injEq]
      by_cases c1 : k.1 = 1
      · simp only [c1, if_true, true_or, hin]
      · by_cases c3 : k.1 = 3
        · simp only [c3, if_true, or_true, hin, c1, if_false, show ¬ (3 : Nat) = 1 by decide]
        · simp only [c1, c3, if_false, or_self, hout]
  have hL : qLine ks i = true ↔ (qAhead ks i = some 0 ∨ qAhead ks i = some 2) ∨ (qSo ks (i + 1) = some 1 ∨ qSo ks (i + 1) = some 3) := by
    unfold qLine
    simp only [Bool.or_eq_true, decide_eq_true_eq]
    constructor
    · rintro (((h | h) | h) | h)
      · exact Or.inl (Or.inl h)
      · exact Or.inl (Or.inr h)
      · exact Or.inr (Or.inl h)
      · exact Or.inr (Or.inr h)
    · rintro ((h | h) | (h | h))
      · exact Or.inl (Or.inl (Or.inl h))
      · exact Or.inl (Or.inl (Or.inr h))
      · exact Or.inl (Or.inr h)
      · exact Or.inr h
  have key : ∃ K, fL_one_590 505 506 507 508 509 510 511 513 514 515 516 517 (qn i) (qn 5) v (qn 0) (qL w I W) = some (qn 0, qL w K W) ∧ ((qLine ks i = true ∧ K = I) ∨ (¬ qLine ks i = true ∧ K = T)) := by
    unfold fL_one_590
    by_cases ca : qAhead ks i = some 0 ∨ qAhead ks i = some 2
    · refine ⟨I, ?_, Or.inl ⟨hL.mpr (Or.inl ca), rfl⟩⟩
      by_cases ci : i = 0
      · rw [hAh, if_pos ci] at ca
        rcases ca with h | h <;> cases h
      · rw [if_neg ci, qn_sub (by omega)] at ta
        rw [hAh, if_neg ci] at ca
        cases hk : ks[i - 1]? with
        | none => rw [hk] at ca; rcases ca with h | h <;> cases h
        | some k =>
          obtain ⟨n, n1, n2, n3⟩ := qTc_s hk (l3 k (List.mem_of_getElem? hk))
          rw [hk] at ca
          simp only [Option.map_some, Option.some.injEq] at ca
          rw [n3] at ta
          rcases ca with c | c <;> rw [c] at ta
          · have e1 : (128 * 0 + n) / 128 = 0 := by omega
            simp (disch := omega) only [↓qlet, eq_self, qzg_t, qzb_some, ↓reduceIte, not_or, not_false_eq_true, not_true_eq_false, and_true, true_and, and_self, or_false, false_or, true_or, or_true, and_false, false_and, qlit, qneg, qof, qn_add, qn_mul, qn_s, qn_z, qn_d, qn_dz, qm_1, qt_1, qt_0, qb_0, qb_1, qb_01, qb01b, q01_0, q01_1, qo_s, qo_n, qn_c, qn_le, qn_lt, qn_eq, qn_ne_m, qm_ne_n, qm_lt, qm_le, qn_lt_m, qn_le_m, qn_sub, qn_div, qn_mod, qle_t, qle_f, qlt_t, qlt_f, qeq_t, qeq_f, Nat.add_sub_cancel, qU_s, qU_a, qU_k, qn_rem, qL_I, qL_s, lk_505, lk_506, lk_507, lk_508, lk_509, lk_510, lk_511, lk_512, lk_513, lk_514, lk_515, lk_516, lk_517, lk_518, lk_519, ll_505, ll_506, ll_507, ll_508, ll_509, ll_510, ll_511, ll_512, ll_513, ll_514, ll_515, ll_516, ll_517, ll_518, ll_519, ta, tb, e1, hin]
          · have e1 : (128 * 2 + n) / 128 = 2 := by omega
            simp (disch := omega) only [↓qlet, eq_self, qzg_t, qzb_some, ↓reduceIte, not_or, not_false_eq_true, not_true_eq_false, and_true, true_and, and_self, or_false, false_or, true_or, or_true, and_false, false_and, qlit, qneg, qof, qn_add, qn_mul, qn_s, qn_z, qn_d, qn_dz, qm_1, qt_1, qt_0, qb_0, qb_1, qb_01, qb01b, q01_0, q01_1, qo_s, qo_n, qn_c, qn_le, qn_lt, qn_eq, qn_ne_m, qm_ne_n, qm_lt, qm_le, qn_lt_m, qn_le_m, qn_sub, qn_div, qn_mod, qle_t, qle_f, qlt_t, qlt_f, qeq_t, qeq_f, Nat.add_sub_cancel, qU_s, qU_a, qU_k, qn_rem, qL_I, qL_s, lk_505, lk_506, lk_507, lk_508, lk_509, lk_510, lk_511, lk_512, lk_513, lk_514, lk_515, lk_516, lk_517, lk_518, lk_519, ll_505, ll_506, ll_507, ll_508, ll_509, ll_510, ll_511, ll_512, ll_513, ll_514, ll_515, ll_516, ll_517, ll_518, ll_519, ta, tb, e1, hin]
    · refine ⟨(if qSo ks (i + 1) = some 1 ∨ qSo ks (i + 1) = some 3 then I else T), ?_, ?_⟩
      · by_cases ci : i = 0
        · have hm0 : (qm < qn 0) = True := qm_lt (by omega)
          rw [if_pos ci] at ta
          simp (disch := omega) only [↓qlet, eq_self, qzg_t, qzb_some, ↓reduceIte, not_or, not_false_eq_true, not_true_eq_false, and_true, true_and, and_self, or_false, false_or, true_or, or_true, and_false, false_and, qlit, qneg, qof, qn_add, qn_mul, qn_s, qn_z, qn_d, qn_dz, qm_1, qt_1, qt_0, qb_0, qb_1, qb_01, qb01b, q01_0, q01_1, qo_s, qo_n, qn_c, qn_le, qn_lt, qn_eq, qn_ne_m, qm_ne_n, qm_lt, qm_le, qn_lt_m, qn_le_m, qn_sub, qn_div, qn_mod, qle_t, qle_f, qlt_t, qlt_f, qeq_t, qeq_f, Nat.add_sub_cancel, qU_s, qU_a, qU_k, qn_rem, qL_I, qL_s, lk_505, lk_506, lk_507, lk_508, lk_509, lk_510, lk_511, lk_512, lk_513, lk_514, lk_515, lk_516, lk_517, lk_518, lk_519, ll_505, ll_506, ll_507, ll_508, ll_509, ll_510, ll_511, ll_512, ll_513, ll_514, ll_515, ll_516, ll_517, ll_518, ll_519, ta, tb, hm0, h653]
        · rw [if_neg ci, qn_sub (by omega)] at ta
          rw [hAh, if_neg ci] at ca
          cases hk : ks[i - 1]? with
          | none =>
            have hm0 : (qm < qn 0) = True := qm_lt (by omega)
            have e9 : qTc ks (i - 1) = qm := by unfold qTc; rw [hk]
            rw [e9] at ta
            simp (disch := omega) only [↓qlet, eq_self, qzg_t, qzb_some, ↓reduceIte, not_or, not_false_eq_true, not_true_eq_false, and_true, true_and, and_self, or_false, false_or, true_or, or_true, and_false, false_and, qlit, qneg, qof, qn_add, qn_mul, qn_s, qn_z, qn_d, qn_dz, qm_1, qt_1, qt_0, qb_0, qb_1, qb_01, qb01b, q01_0, q01_1, qo_s, qo_n, qn_c, qn_le, qn_lt, qn_eq, qn_ne_m, qm_ne_n, qm_lt, qm_le, qn_lt_m, qn_le_m, qn_sub, qn_div, qn_mod, qle_t, qle_f, qlt_t, qlt_f, qeq_t, qeq_f, Nat.add_sub_cancel, qU_s, qU_a, qU_k, qn_rem, qL_I, qL_s, lk_505, lk_506, lk_507, lk_508, lk_509, lk_510, lk_511, lk_512, lk_513, lk_514, lk_515, lk_516, lk_517, lk_518, lk_519, ll_505, ll_506, ll_507, ll_508, ll_509, ll_510, ll_511, ll_512, ll_513, ll_514, ll_515, ll_516, ll_517, ll_518, ll_519, ta, tb, hm0, h653]
          | some k =>
            obtain ⟨n, n1, n2, n3⟩ := qTc_s hk (l3 k (List.mem_of_getElem? hk))
            have k8 := (l3 k (List.mem_of_getElem? hk)).1
            have e1 : (128 * k.1 + n) / 128 = k.1 := by omega
            rw [hk] at ca
            simp only [Option.map_some, Option.some.injEq, not_or] at ca
            rw [n3] at ta
            have c0 := ca.1
            have c2 := ca.2
            simp (disch := omega) only [↓qlet, eq_self, qzg_t, qzb_some, ↓reduceIte, not_or, not_false_eq_true, not_true_eq_false, and_true, true_and, and_self, or_false, false_or, true_or, or_true, and_false, false_and, qlit, qneg, qof, qn_add, qn_mul, qn_s, qn_z, qn_d, qn_dz, qm_1, qt_1, qt_0, qb_0, qb_1, qb_01, qb01b, q01_0, q01_1, qo_s, qo_n, qn_c, qn_le, qn_lt, qn_eq, qn_ne_m, qm_ne_n, qm_lt, qm_le, qn_lt_m, qn_le_m, qn_sub, qn_div, qn_mod, qle_t, qle_f, qlt_t, qlt_f, qeq_t, qeq_f, Nat.add_sub_cancel, qU_s, qU_a, qU_k, qn_rem, qL_I, qL_s, lk_505, lk_506, lk_507, lk_508, lk_509, lk_510, lk_511, lk_512, lk_513, lk_514, lk_515, lk_516, lk_517, lk_518, lk_519, ll_505, ll_506, ll_507, ll_508, ll_509, ll_510, ll_511, ll_512, ll_513, ll_514, ll_515, ll_516, ll_517, ll_518, ll_519, ta, tb, e1, c0, c2, h653]
      · by_cases cb : qSo ks (i + 1) = some 1 ∨ qSo ks (i + 1) = some 3
        · rw [if_pos cb]
          exact Or.inl ⟨hL.mpr (Or.inr cb), rfl⟩
        · rw [if_neg cb]
          exact Or.inr ⟨fun h => (hL.mp h).elim ca cb, rfl⟩
  obtain ⟨K, k1, k2⟩ := key
  rcases k2 with ⟨k2, k3⟩ | ⟨k2, k3⟩
  · rw [k3] at k1
    refine ⟨I, V, f, k1, hV, hok, qFrL_refl I, fun h => ⟨h, ?_⟩⟩
    rw [if_pos k2]
  · rw [k3] at k1
    refine ⟨T, V1, f1, k1, t2, t3, t4, fun h => ⟨(t5 h).1, ?_⟩⟩
    rw [if_neg k2]
    exact (t5 h).2
end
