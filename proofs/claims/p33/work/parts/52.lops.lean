/-! THE LAW: its reading, errors and things -/
def qla : Option Nat → Nat
  | none => 0
  | some e => e + 1
def qany : Option Nat → Nat
  | none => 0
  | some _ => 1
/-- a reading in the law's rows; f: it has overflown -/
def qLV (I : Nat → Nat → Int32) (p : Nat) (V : qV) (f : Bool) : Prop := I 510 0 = qn V.1.1.length ∧ I 510 1 = qn (qla V.1.2) ∧ I 510 2 = qn (qany V.1.2) ∧ I 510 3 = qn V.2.2.1.length ∧ I 510 4 = qn V.2.2.2.1 ∧ I 510 5 = qn V.2.2.2.2.2.length ∧ I 510 6 = qb f ∧ I 510 17 = qn V.2.2.2.2.1 ∧ I 510 18 = qn p ∧ qAll (fun j x => I 511 j = qn (16 * x.1 + x.2)) V.1.1 ∧ qAll (fun j x => I 511 (20 + j) = qn x) V.2.1 ∧ qAll (fun j t => I 513 j = qn (t.1 + 32 * (if t.2.2.2.2 = true then 1 else 0)) ∧ I 514 j = qo t.2.1 ∧ I 515 j = qn t.2.2.1 ∧ I 516 j = qn t.2.2.2.1) V.2.2.1 ∧ qAll (fun j e => I 517 j = qn (64 * e.1 + e.2)) V.2.2.2.2.2
def qLok (G : qG) (V : qV) : Prop := V.1.1.length ≤ 9 ∧ V.2.1.length = V.1.1.length ∧ (∀ x ∈ V.1.1, x.1 < 5 ∧ x.2 < 2 * qgN G x.1) ∧ (∀ e, V.1.2 = some e → e < 5) ∧ (V.1.2 = none → V.1.1 = []) ∧ V.2.2.1.length ≤ 60 ∧ V.2.2.2.2.2.length ≤ 60 ∧ ∀ x ∈ V.2.1, x < 60
/-- what reading changes -/
def qFrL (I J : Nat → Nat → Int32) : Prop := (∀ a, (a ≤ 509 ∨ a = 512 ∨ 518 ≤ a) → J a = I a) ∧ (∀ k, 7 ≤ k → k ≤ 16 → J 510 k = I 510 k) ∧ J 510 18 = I 510 18
theorem qFrL_refl (I : Nat → Nat → Int32) : qFrL I I := ⟨fun _ _ => rfl, fun _ _ _ => rfl, rfl⟩
theorem qFrL_tr {I J K : Nat → Nat → Int32} (h : qFrL I J) (k : qFrL J K) : qFrL I K := ⟨fun a ha => by rw [k.1 a ha, h.1 a ha], fun a h1 h2 => by rw [k.2.1 a h1 h2, h.2.1 a h1 h2], by rw [k.2.2, h.2.2]⟩
theorem qFrL_G {G : qG} {I J : Nat → Nat → Int32} (h : qFrL I J) (k : qLG G I) : qLG G J := qLG_fr k (h.1 _ (by omega)) (h.1 _ (by omega)) (h.1 _ (by omega))
section
variable {w : Bool} {I : Nat → Nat → Int32} {W : Nat → Nat → Nat} {G : qG} {V : qV} {f : Bool} {p : Nat}
theorem lFails (hV : qLV I p V f) (ho : V.2.2.2.2.2.length ≤ 60) (k : Nat) : ∃ J V' f', fL_fails 510 517 (qn k) (qL w I W) = some (qn 0, qL w J W) ∧ qLV J p V' f' ∧ qFrL I J ∧ ((V' = V ∧ f' = true) ∨ (V' = qErr k p V ∧ f' = f ∧ V.2.2.2.2.2.length < 60)) := by
  obtain ⟨h1, h2, h3, h4, h5, h6, h7, h8, h9, h10, h11, h12, h13⟩ := hV
  unfold fL_fails
  by_cases c : V.2.2.2.2.2.length = 60
  · refine ⟨qU I 510 6 (qn 1), V, true, ?_, ⟨?_, ?_, ?_, ?_, ?_, ?_, ?_, ?_, ?_, ?_, ?_, ?_, ?_⟩, ⟨?_, ?_, ?_⟩, Or.inl ⟨rfl, rfl⟩⟩
    · simp (disch := omega) only [↓qlet, eq_self, qzg_t, qzb_some, ↓reduceIte, not_or, not_false_eq_true, not_true_eq_false, and_true, true_and, and_self, or_false, false_or, true_or, or_true, and_false, false_and, qlit, qneg, qof, qn_add, qn_mul, qn_s, qn_z, qn_d, qn_dz, qm_1, qt_1, qt_0, qb_0, qb_1, qb_01, qb01b, q01_0, q01_1, qo_s, qo_n, qn_c, qn_le, qn_lt, qn_eq, qn_ne_m, qm_ne_n, qm_lt, qm_le, qn_lt_m, qn_le_m, qn_sub, qn_div, qn_mod, qle_t, qle_f, qlt_t, qlt_f, qeq_t, qeq_f, Nat.add_sub_cancel, qU_s, qU_a, qU_k, qn_rem, qL_I, qL_s, lk_505, lk_506, lk_507, lk_508, lk_509, lk_510, lk_511, lk_512, lk_513, lk_514, lk_515, lk_516, lk_517, lk_518, lk_519, ll_505, ll_506, ll_507, ll_508, ll_509, ll_510, ll_511, ll_512, ll_513, ll_514, ll_515, ll_516, ll_517, ll_518, ll_519, h6, c]
    all_goals (try (simp (disch := omega) only [qU_s, qU_a, qU_k]; assumption))
    · simp (disch := omega) only [qU_s, qU_a, qU_k]; rfl
    · intro a ha; rw [qU_r (by omega)]
    · intro a ha hb; rw [qU_k (by omega)]
    · rw [qU_k (by omega)]
  · have c2 : V.2.2.2.2.2.length < 60 := by omega
    refine ⟨qU (qU I 517 V.2.2.2.2.2.length (qn (64 * k + p))) 510 5 (qn (V.2.2.2.2.2.length + 1)), qErr k p V, f, ?_, ⟨?_, ?_, ?_, ?_, ?_, ?_, ?_, ?_, ?_, ?_, ?_, ?_, ?_⟩, ⟨?_, ?_, ?_⟩, Or.inr ⟨rfl, rfl, c2⟩⟩
    · simp (disch := omega) only [↓qlet, eq_self, qzg_t, qzb_some, ↓reduceIte, not_or, not_false_eq_true, not_true_eq_false, and_true, true_and, and_self, or_false, false_or, true_or, or_true, and_false, false_and, qlit, qneg, qof, qn_add, qn_mul, qn_s, qn_z, qn_d, qn_dz, qm_1, qt_1, qt_0, qb_0, qb_1, qb_01, qb01b, q01_0, q01_1, qo_s, qo_n, qn_c, qn_le, qn_lt, qn_eq, qn_ne_m, qm_ne_n, qm_lt, qm_le, qn_lt_m, qn_le_m, qn_sub, qn_div, qn_mod, qle_t, qle_f, qlt_t, qlt_f, qeq_t, qeq_f, Nat.add_sub_cancel, qU_s, qU_a, qU_k, qn_rem, qL_I, qL_s, lk_505, lk_506, lk_507, lk_508, lk_509, lk_510, lk_511, lk_512, lk_513, lk_514, lk_515, lk_516, lk_517, lk_518, lk_519, ll_505, ll_506, ll_507, ll_508, ll_509, ll_510, ll_511, ll_512, ll_513, ll_514, ll_515, ll_516, ll_517, ll_518, ll_519, h6, c, h9]
    all_goals (try (simp (disch := omega) only [qU_s, qU_a, qU_k, qErr]; assumption))
    · simp (disch := omega) only [qU_s, qU_a, qU_k, qErr]; rfl
    · refine qAll_push h13 (fun j x hj hp => ?_) ?_
      · simp (disch := omega) only [qU_s, qU_a, qU_k]; exact hp
      · simp (disch := omega) only [qU_s, qU_a, qU_k]
    · intro a ha; rw [qU_r (by omega), qU_r (by omega)]
    · intro a ha hb; simp (disch := omega) only [qU_s, qU_a, qU_k]
    · simp (disch := omega) only [qU_s, qU_a, qU_k]
theorem lPut_43 (hV : qLV I p V f) (c : V.2.2.1.length < 60) (kc : Int32) (l : Nat) (hk : I 513 V.2.2.1.length = kc) (par : Option Nat) : ∃ J, fL_put_43 510 515 516 (qn l) 514 (qn V.2.2.1.length) (qo par) (qL w I W) = some (qn 0, qL w J W) ∧ (∀ kind b, kc = qn (kind + 32 * (if b = true then 1 else 0)) → qLV J p (V.1, V.2.1, (kind, par, l, p, b) :: V.2.2.1, V.2.2.2) f) ∧ qFrL I J := by
  obtain ⟨h1, h2, h3, h4, h5, h6, h7, h8, h9, h10, h11, h12, h13⟩ := hV
  unfold fL_put_43
  refine ⟨qU (qU (qU (qU I 514 V.2.2.1.length (qo par)) 515 V.2.2.1.length (qn l)) 516 V.2.2.1.length (qn p)) 510 3 (qn (V.2.2.1.length + 1)), ?_, fun kind b hkc => ⟨?_, ?_, ?_, ?_, ?_, ?_, ?_, ?_, ?_, ?_, ?_, ?_, ?_⟩, ⟨?_, ?_, ?_⟩⟩
  · simp (disch := omega) only [↓qlet, eq_self, qzg_t, qzb_some, ↓reduceIte, not_or, not_false_eq_true, not_true_eq_false, and_true, true_and, and_self, or_false, false_or, true_or, or_true, and_false, false_and, qlit, qneg, qof, qn_add, qn_mul, qn_s, qn_z, qn_d, qn_dz, qm_1, qt_1, qt_0, qb_0, qb_1, qb_01, qb01b, q01_0, q01_1, qo_s, qo_n, qn_c, qn_le, qn_lt, qn_eq, qn_ne_m, qm_ne_n, qm_lt, qm_le, qn_lt_m, qn_le_m, qn_sub, qn_div, qn_mod, qle_t, qle_f, qlt_t, qlt_f, qeq_t, qeq_f, Nat.add_sub_cancel, qU_s, qU_a, qU_k, qn_rem, qL_I, qL_s, lk_505, lk_506, lk_507, lk_508, lk_509, lk_510, lk_511, lk_512, lk_513, lk_514, lk_515, lk_516, lk_517, lk_518, lk_519, ll_505, ll_506, ll_507, ll_508, ll_509, ll_510, ll_511, ll_512, ll_513, ll_514, ll_515, ll_516, ll_517, ll_518, ll_519, h4, c, h9]
  all_goals (try (simp (disch := omega) only [qU_s, qU_a, qU_k]; assumption))
  · simp (disch := omega) only [qU_s, qU_a, qU_k]; rfl
  · refine qAll_push h12 (fun j x hj hp => ?_) ?_
    · simp (disch := omega) only [qU_s, qU_a, qU_k]; exact hp
    · simp (disch := omega) only [qU_s, qU_a, qU_k]; exact ⟨hk.trans hkc, trivial, trivial, trivial⟩
  · intro a ha; simp (disch := omega) only [qU_r]
  · intro a ha hb; simp (disch := omega) only [qU_s, qU_a, qU_k]
  · simp (disch := omega) only [qU_s, qU_a, qU_k]
theorem lPut (hV : qLV I p V f) (hn : V.2.1.length = V.1.1.length) (h9' : V.1.1.length ≤ 9) (ho : V.2.2.1.length ≤ 60) (kind l : Nat) (b : Bool) : ∃ J V' f', fL_put 510 511 513 514 515 516 (qn (kind + 32 * (if b = true then 1 else 0))) (qn l) (qL w I W) = some (qn 0, qL w J W) ∧ qLV J p V' f' ∧ qFrL I J ∧ ((V' = V ∧ f' = true ∧ V.2.2.1.length = 60) ∨ (V' = qPut kind l p b V ∧ f' = f ∧ V.2.2.1.length < 60)) := by
  have hV0 := hV
  obtain ⟨h1, h2, h3, h4, h5, h6, h7, h8, h9, h10, h11, h12, h13⟩ := hV
  unfold fL_put
  by_cases c : V.2.2.1.length = 60
  · refine ⟨qU I 510 6 (qn 1), V, true, ?_, ⟨?_, ?_, ?_, ?_, ?_, ?_, ?_, ?_, ?_, ?_, ?_, ?_, ?_⟩, ⟨?_, ?_, ?_⟩, Or.inl ⟨rfl, rfl, c⟩⟩
    · simp (disch := omega) only [↓qlet, eq_self, qzg_t, qzb_some, ↓reduceIte, not_or, not_false_eq_true, not_true_eq_false, and_true, true_and, and_self, or_false, false_or, true_or, or_true, and_false, false_and, qlit, qneg, qof, qn_add, qn_mul, qn_s, qn_z, qn_d, qn_dz, qm_1, qt_1, qt_0, qb_0, qb_1, qb_01, qb01b, q01_0, q01_1, qo_s, qo_n, qn_c, qn_le, qn_lt, qn_eq, qn_ne_m, qm_ne_n, qm_lt, qm_le, qn_lt_m, qn_le_m, qn_sub, qn_div, qn_mod, qle_t, qle_f, qlt_t, qlt_f, qeq_t, qeq_f, Nat.add_sub_cancel, qU_s, qU_a, qU_k, qn_rem, qL_I, qL_s, lk_505, lk_506, lk_507, lk_508, lk_509, lk_510, lk_511, lk_512, lk_513, lk_514, lk_515, lk_516, lk_517, lk_518, lk_519, ll_505, ll_506, ll_507, ll_508, ll_509, ll_510, ll_511, ll_512, ll_513, ll_514, ll_515, ll_516, ll_517, ll_518, ll_519, h4, c]
    all_goals (try (simp (disch := omega) only [qU_s, qU_a, qU_k]; assumption))
    · simp (disch := omega) only [qU_s, qU_a, qU_k]; rfl
    · intro a ha; rw [qU_r (by omega)]
    · intro a ha hb; rw [qU_k (by omega)]
    · rw [qU_k (by omega)]
  · have c2 : V.2.2.1.length < 60 := by omega
    have hV2 : qLV (qU I 513 V.2.2.1.length (qn (kind + 32 * (if b = true then 1 else 0)))) p V f := by
      refine ⟨?_, ?_, ?_, ?_, ?_, ?_, ?_, ?_, ?_, ?_, ?_, ?_, ?_⟩
      all_goals (try (simp (disch := omega) only [qU_s, qU_a, qU_k]; assumption))
      refine qAll_mono h12 fun j x hj _ hp => ?_
      simp (disch := omega) only [qU_s, qU_a, qU_k]; exact hp
    obtain ⟨J, j1, j2, j3⟩ := lPut_43 (w := w) (W := W) hV2 c2 _ l (qU_s _ _ _ _) V.2.1.head?
    refine ⟨J, qPut kind l p b V, f, ?_, j2 kind b rfl, qFrL_tr ⟨fun a ha => by rw [qU_r (by omega)], fun a ha hb => by rw [qU_a (by omega)], by rw [qU_a (by omega)]⟩ j3, Or.inr ⟨rfl, rfl, c2⟩⟩
    cases hop : V.2.1 with
    | nil =>
      rw [hop] at hn j1
      have e0 : V.1.1.length = 0 := by simpa using hn.symm
      rw [e0] at h1
      rw [List.head?_nil, qo_n] at j1
      simp (disch := omega) only [↓qlet, eq_self, qzg_t, qzb_some, ↓reduceIte, not_or, not_false_eq_true, not_true_eq_false, and_true, true_and, and_self, or_false, false_or, true_or, or_true, and_false, false_and, qlit, qneg, qof, qn_add, qn_mul, qn_s, qn_z, qn_d, qn_dz, qm_1, qt_1, qt_0, qb_0, qb_1, qb_01, qb01b, q01_0, q01_1, qo_s, qo_n, qn_c, qn_le, qn_lt, qn_eq, qn_ne_m, qm_ne_n, qm_lt, qm_le, qn_lt_m, qn_le_m, qn_sub, qn_div, qn_mod, qle_t, qle_f, qlt_t, qlt_f, qeq_t, qeq_f, Nat.add_sub_cancel, qU_s, qU_a, qU_k, qn_rem, qL_I, qL_s, lk_505, lk_506, lk_507, lk_508, lk_509, lk_510, lk_511, lk_512, lk_513, lk_514, lk_515, lk_516, lk_517, lk_518, lk_519, ll_505, ll_506, ll_507, ll_508, ll_509, ll_510, ll_511, ll_512, ll_513, ll_514, ll_515, ll_516, ll_517, ll_518, ll_519, h4, c, h1, j1]
    | cons y ot =>
      rw [hop] at hn j1 h11
      have e0 : V.1.1.length = ot.length + 1 := by simpa using hn.symm
      rw [e0] at h1
      have a1 := h11.1
      rw [List.head?_cons, qo_s] at j1
      have e1 : 19 + (ot.length + 1) = 20 + ot.length := by omega
      simp (disch := omega) only [↓qlet, eq_self, qzg_t, qzb_some, ↓reduceIte, not_or, not_false_eq_true, not_true_eq_false, and_true, true_and, and_self, or_false, false_or, true_or, or_true, and_false, false_and, qlit, qneg, qof, qn_add, qn_mul, qn_s, qn_z, qn_d, qn_dz, qm_1, qt_1, qt_0, qb_0, qb_1, qb_01, qb01b, q01_0, q01_1, qo_s, qo_n, qn_c, qn_le, qn_lt, qn_eq, qn_ne_m, qm_ne_n, qm_lt, qm_le, qn_lt_m, qn_le_m, qn_sub, qn_div, qn_mod, qle_t, qle_f, qlt_t, qlt_f, qeq_t, qeq_f, Nat.add_sub_cancel, qU_s, qU_a, qU_k, qn_rem, qL_I, qL_s, lk_505, lk_506, lk_507, lk_508, lk_509, lk_510, lk_511, lk_512, lk_513, lk_514, lk_515, lk_516, lk_517, lk_518, lk_519, ll_505, ll_506, ll_507, ll_508, ll_509, ll_510, ll_511, ll_512, ll_513, ll_514, ll_515, ll_516, ll_517, ll_518, ll_519, h4, c, h1, e1, a1, j1]
end
