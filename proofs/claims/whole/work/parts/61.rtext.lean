/-! THE REFERENCE: a row is read -/
section
variable {I : Nat → Nat → Int32} {G : qG} {V : qV} {p B i : Nat} {ks : List qK} {sw : Nat → Nat} {en : Nat → List qK} {ent : Nat → Nat → qV → qV} {c D : Nat} {K : Bool}
/-- of a row's tokens: how entities are read, what a token may cost -/
def qRowOk (G : qG) (sw : Nat → Nat) (en : Nat → List qK) (ent : Nat → Nat → qV → qV) (ks : List qK) (D c : Nat) : Prop := 1 ≤ D ∧ 2 ≤ c ∧ ((∀ k ∈ ks, k.1 ≠ 6) ∨ ent = qEnt0 G sw en ∧ 50 ≤ D ∧ 72 ≤ c)
theorem rTok0 (hg9 : qGok G) (hEk : qEok sw en) (hks : ∀ k ∈ ks, qKok k) (h6 : ks.length ≤ 600) (hr : qRowOk G sw en ent ks D c) {Q : qQ} {C : Nat} (hG : qRG G I) (hE : qREn sw en I) (hk : qRk I 0 ks) (hQ : qQok G C i Q) (hC : C + c ≤ 4320) (hil : i < ks.length) (hS : qRst 0 i i Q I) : ∃ d J, d ≤ D ∧ (∀ N, fX8_readsRow_58 (N + d) 1 (qD I) = fX8_readsRow_154 (fX8_readsRow_58 N) 1 (qD J)) ∧ qRst 0 (i + 1) (i + 1) (qStep G sw ent ks i i Q) J ∧ qFrL 0 I J := by
  obtain ⟨r1, r2, r3⟩ := hr
  obtain ⟨⟨B, v1, v2⟩, v3, v4⟩ := hQ
  have hg2 : ks[i]? = some (ks[i].1, ks[i].2) := List.getElem?_eq_getElem hil
  by_cases c0 : 0 < Q.2.1 ∨ ks[i].1 ≠ 6
  · obtain ⟨J, j1, j2, j3⟩ := rTok (ent := ent) hg9 (by omega) hG (by omega) v1 (by omega) (fun _ => rfl) hS (by omega) hk (by omega) (Or.inl rfl) hks hE hEk hg2 c0
    refine ⟨1, J, r1, fun N => ?_, j2, j3⟩
    rw [rRow58 (by omega) hS.1 hS.2.1 hk (by omega) hil j1]
  · have h6 : ks[i].1 = 6 := by omega
    have hkk := hks _ (List.getElem_mem hil)
    obtain ⟨n, n1, n2⟩ := hkk.2.2.2.1 h6
    rcases r3 with r3 | ⟨r3, r4, r5⟩
    · exact absurd h6 (r3 _ (List.getElem_mem hil))
    · rw [h6] at hg2
      have hin := rEnter (by omega) hS (by omega) hk (by omega) (Or.inl rfl) hks hg2 (by omega) (fun h => by omega)
      obtain ⟨d, J, d1, d2, d3, d4⟩ := rEntRow (D := 8) (c := 12) n1 hEk.2 hEk (by omega) (qEnt1_ok hEk n) (by omega) (rTok1 hg9 hEk (hEk.1 n n1).2 (hEk.1 n n1).1 (by omega) n1) (by omega) (fun _ => rfl) (by omega) (by omega) v1 (by omega) hG hE hS
      refine ⟨d + 1, J, by omega, fun N => ?_, ?_, d4⟩
      · rw [show N + (d + 1) = N + d + 1 by omega, rRow58 (by omega) hS.1 hS.2.1 hk (by omega) hil hin, n2, rKeepsNo _ (Or.inr ⟨1, by omega, by omega, (qInto_st (by omega) hS _).1.1⟩), d2]
      · rw [qEnt_step n1 n2 hg2 (by omega), r3]
        exact d3
theorem rLoop0 (hg9 : qGok G) (hEk : qEok sw en) (hks : ∀ k ∈ ks, qKok k) (h6 : ks.length ≤ 600) (hr : qRowOk G sw en ent ks D c) (hA : ∀ e p B V, e < 6 → p ≤ 600 → qVok G B V → qVok G (B + c) (ent e p V)) (hK6 : K = true → ks.length ≤ 60) : ∀ m i Q X C I, i + m = ks.length → C + c * m ≤ 4320 → qRG G I → qREn sw en I → qRk I 0 ks → qQok G C i Q → (K = true → X.length = i + 1 ∧ qRX I X ∧ ∀ x ∈ X, x.1.1.length ≤ 20) → I 1 18 = qb K → qRst 0 i i Q I → ∃ d J, d ≤ D * m ∧ (∀ N, fX8_readsRow_58 (N + d) 1 (qD I) = fX8_readsRow_58 N 1 (qD J)) ∧ qRst 0 ks.length ks.length (qLoop G sw ent ks none m i (Q, X)).1 J ∧ (K = true → qRX J (qLoop G sw ent ks none m i (Q, X)).2) ∧ qFrZ K I J := by
  intro m
  induction m with
  | zero =>
    intro i Q X C I h1 h2 hG hE hk hQ hX hK hS
    refine ⟨0, I, by omega, fun N => rfl, ?_, fun h => (hX h).2.1, qFrZ_refl _ I⟩
    rw [show ks.length = i by omega]
    exact hS
  | succ m ih =>
    intro i Q X C I h1 h2 hG hE hk hQ hX hK hS
    have hm : c * (m + 1) = c * m + c := Nat.mul_succ c m
    have hD : D * (m + 1) = D * m + D := Nat.mul_succ D m
    obtain ⟨d1, J, a1, a2, a3, a4⟩ := rTok0 hg9 hEk hks h6 hr hG hE hk hQ (by omega) (by omega) hS
    have hs := qStep_ok (i := i) (p := i) hEk.2 hr.2.1 hA hks (by omega) hQ
    obtain ⟨⟨B2, v1, v2⟩, v3, v4⟩ := id hs
    have a4Z : qFrZ K I J := qFrZ_L a4
    have hKJ : J 1 18 = qb K := by rw [a4Z.2.2 18 (by omega) (by omega) (by omega) (by omega) (by omega) (by omega) (by omega) (by omega)]; exact hK
    obtain ⟨J2, b1, b2, b3, b4⟩ := rKeeps (K := K) (X := X) hg9 (Q := qStep G sw ent ks i i Q) (by omega) v1.1 (fun h => by
      obtain ⟨x1, x2, x3⟩ := hX h
      have := hK6 h
      refine ⟨x1, by omega, qRX_fr x2 x3 (fun j hj => ?_) fun j hj => ?_, x3⟩
      · rw [a4.1 32 (by omega) (by omega), a4.1 34 (by omega) (by omega), a4.1 35 (by omega) (by omega)]; exact ⟨rfl, rfl, rfl⟩
      · rw [a4.1 33 (by omega) (by omega)]) hKJ a3
    obtain ⟨d2, L, e1, e2, e3, e4, e5⟩ := ih (i + 1) _ ((((qStep G sw ent ks i i Q).2.2.2.1, (qStep G sw ent ks i i Q).1 + (qStep G sw ent ks i i Q).2.1)) :: X) (C + c) J2 (by omega) (by omega) (qFrZ_G b4 (qFrZ_G a4Z hG)) (qFrZ_E b4 (qFrZ_E a4Z hE)) (qFrZ_k b4 (qFrZ_k a4Z hk)) hs (fun h => ⟨by simp [(hX h).1], b3 h, fun x hx => by
      rcases List.mem_cons.mp hx with hx | hx
      · rw [hx]; exact v1.1.1
      · exact (hX h).2.2 x hx⟩) (by rw [b4.2.2 18 (by omega) (by omega) (by omega) (by omega) (by omega) (by omega) (by omega) (by omega)]; exact hKJ) b2
    refine ⟨d2 + d1, L, by omega, fun N => ?_, e3, e4, qFrZ_tr a4Z (qFrZ_tr b4 e5)⟩
    rw [← Nat.add_assoc, a2, b1, e2]
theorem rErrs163 {a : Nat} (ha : a ≤ 600) : ∀ n x B V I m, x + n = a → n < m → B + n ≤ 4320 → I 30 0 = qn a → qVok G B V → qRV I p V → ∃ J, fX8_readsRow_163 m 1 (qn x) (qD I) = fX8_readsRow_184 1 (qD J) ∧ qRV J p (qErrs 5 p n V) ∧ qFrR I J := by
  intro n
  induction n with
  | zero =>
    intro x B V I m h1 h2 h3 h5 h6 h7
    refine ⟨I, ?_, h7, qFrR_refl I⟩
    obtain ⟨m, rfl⟩ : ∃ m', m = m' + 1 := ⟨m - 1, by omega⟩
    rw [fX8_readsRow_163]
    simp (disch := omega) only [↓qlet, eq_self, qzg_t, qzb_some, ↓reduceIte, not_or, not_false_eq_true, not_true_eq_false, and_true, true_and, and_self, or_false, false_or, true_or, or_true, and_false, false_and, qlit, qneg, qof, qn_add, qn_mul, qn_s, qn_z, qn_d, qn_dz, qm_1, qt_1, qt_0, qb_0, qb_1, qb_01, qb01b, q01_0, q01_1, qo_s, qo_n, qn_c, qn_le, qn_lt, qn_eq, qn_ne_m, qm_ne_n, qm_lt, qm_le, qn_lt_m, qn_le_m, qn_sub, qn_div, qn_mod, qle_t, qle_f, qlt_t, qlt_f, qeq_t, qeq_f, Nat.add_sub_cancel, qD_I, qD_s, qU_s, qU_a, qU_k, qdk_1, qdk_2, qdk_3, qdk_4, qdk_5, qdk_6, qdk_7, qdk_8, qdk_9, qdk_10, qdk_11, qdk_12, qdk_13, qdk_14, qdk_15, qdk_16, qdk_17, qdk_18, qdk_19, qdk_20, qdk_21, qdk_22, qdk_23, qdk_24, qdk_25, qdk_26, qdk_27, qdk_28, qdk_29, qdk_30, qdk_31, qdk_32, qdk_33, qdk_34, qdk_35, qdk_36, qdk_37, qdk_38, qdk_39, qdk_40, qdk_41, qdk_42, qdk_43, qdk_44, qdl_2, qdl_3, qdl_4, qdl_5, qdl_6, qdl_7, qdl_8, qdl_9, qdl_10, qdl_11, qdl_12, qdl_13, qdl_14, qdl_15, qdl_16, qdl_17, qdl_18, qdl_19, qdl_20, qdl_21, qdl_22, qdl_23, qdl_24, qdl_25, qdl_26, qdl_27, qdl_28, qdl_29, qdl_30, qdl_31, qdl_32, qdl_33, qdl_34, qdl_35, qdl_36, qdl_37, qdl_38, qdl_39, qdl_40, qdl_41, qdl_42, qdl_43, qdl_44, qdr_0, qdr_1, qdr_2, qdr_3, qdr_4, qdr_5, qdr_6, qdr_7, qdr_8, qdr_9, qdr_10, qdr_11, qdr_12, qdr_15, qdr_16, qdr_19, qdr_20, qdr_21, qdr_22, qdr_26, qdr_27, qdr_28, qdr_29, qdr_30, qdr_34, qdr_35, qdr_37, qdr_38, qdr_39, qdr_40, qdr_42, qdr_43, qdr_44, qdr_45, qdr_46, qdr_47, qdr_48, qdr_49, qdr_50, qdr_51, qdr_53, qdr_54, qdr_55, h5]
  | succ n ih =>
    intro x B V I m h1 h2 h3 h5 h6 h7
    obtain ⟨m, rfl⟩ : ∃ m', m = m' + 1 := ⟨m - 1, by omega⟩
    have her := qVok_err6 h6 (by omega)
    obtain ⟨J, r1, r2, r3⟩ := rErr h7 (by omega) 5
    obtain ⟨L, k1, k2, k3⟩ := ih (x + 1) (B + 1) _ J m (by omega) (by omega) (by omega) (by rw [r3.1 30 (by omega) (by omega)]; exact h5) (qErr_ok h6 5) r2
    refine ⟨L, ?_, k2, qFrR_tr r3 k3⟩
    rw [fX8_readsRow_163]
    simp (disch := omega) only [↓qlet, eq_self, qzg_t, qzb_some, ↓reduceIte, not_or, not_false_eq_true, not_true_eq_false, and_true, true_and, and_self, or_false, false_or, true_or, or_true, and_false, false_and, qlit, qneg, qof, qn_add, qn_mul, qn_s, qn_z, qn_d, qn_dz, qm_1, qt_1, qt_0, qb_0, qb_1, qb_01, qb01b, q01_0, q01_1, qo_s, qo_n, qn_c, qn_le, qn_lt, qn_eq, qn_ne_m, qm_ne_n, qm_lt, qm_le, qn_lt_m, qn_le_m, qn_sub, qn_div, qn_mod, qle_t, qle_f, qlt_t, qlt_f, qeq_t, qeq_f, Nat.add_sub_cancel, qD_I, qD_s, qU_s, qU_a, qU_k, qdk_1, qdk_2, qdk_3, qdk_4, qdk_5, qdk_6, qdk_7, qdk_8, qdk_9, qdk_10, qdk_11, qdk_12, qdk_13, qdk_14, qdk_15, qdk_16, qdk_17, qdk_18, qdk_19, qdk_20, qdk_21, qdk_22, qdk_23, qdk_24, qdk_25, qdk_26, qdk_27, qdk_28, qdk_29, qdk_30, qdk_31, qdk_32, qdk_33, qdk_34, qdk_35, qdk_36, qdk_37, qdk_38, qdk_39, qdk_40, qdk_41, qdk_42, qdk_43, qdk_44, qdl_2, qdl_3, qdl_4, qdl_5, qdl_6, qdl_7, qdl_8, qdl_9, qdl_10, qdl_11, qdl_12, qdl_13, qdl_14, qdl_15, qdl_16, qdl_17, qdl_18, qdl_19, qdl_20, qdl_21, qdl_22, qdl_23, qdl_24, qdl_25, qdl_26, qdl_27, qdl_28, qdl_29, qdl_30, qdl_31, qdl_32, qdl_33, qdl_34, qdl_35, qdl_36, qdl_37, qdl_38, qdl_39, qdl_40, qdl_41, qdl_42, qdl_43, qdl_44, qdr_0, qdr_1, qdr_2, qdr_3, qdr_4, qdr_5, qdr_6, qdr_7, qdr_8, qdr_9, qdr_10, qdr_11, qdr_12, qdr_15, qdr_16, qdr_19, qdr_20, qdr_21, qdr_22, qdr_26, qdr_27, qdr_28, qdr_29, qdr_30, qdr_34, qdr_35, qdr_37, qdr_38, qdr_39, qdr_40, qdr_42, qdr_43, qdr_44, qdr_45, qdr_46, qdr_47, qdr_48, qdr_49, qdr_50, qdr_51, qdr_53, qdr_54, qdr_55, h5, r1]
    exact k1
theorem qFrZ_R {J : Nat → Nat → Int32} (h : qFrR I J) : qFrZ K I J := ⟨fun a h1 h2 => h.1 a h1 (by omega), fun _ a h1 h2 => h.1 a (by omega) (by omega), fun k h1 h2 h3 h4 h5 h6 h7 _ => h.2 k h1 h2 h3 h4 h5 h6 h7⟩
/-- the end of a row -/
theorem rRowDone (hg9 : qGok G) (h6 : ks.length ≤ 600) {Q : qQ} (hok : qVok G B Q.2.2.2) (hB : B + Q.1 + Q.2.1 ≤ 4320) (hQ : Q.1 + Q.2.1 ≤ 600) (hG : qRG G I) (hk : qRk I 0 ks) (hS : qRst 0 ks.length ks.length Q I) (N : Nat) : ∃ J, fX8_readsRow_58 (N + 1) 1 (qD I) = some (qn 0, qD J) ∧ qRV J ks.length (qShutTo G ks.length 0 false (qErrs 5 ks.length (Q.1 + Q.2.1) Q.2.2.2)) ∧ qFrR I J := by
  obtain ⟨s1, s2, s3, s4⟩ := hS
  have hk17 : I 1 17 = qn ks.length := by unfold qRk at hk; rw [if_pos rfl] at hk; exact hk.1
  obtain ⟨J, r1, r2, r3⟩ := rErrs163 hQ (Q.1 + Q.2.1) 0 B Q.2.2.2 I 10000 (by omega) (by omega) (by omega) s3.1 hok s4
  obtain ⟨L, k1, k2, k3⟩ := rClosesTo hg9 (B := B + (Q.1 + Q.2.1)) (by omega) (to := 0) (by omega) false (qFrR_G r3 hG) (qErrs_ok 5 _ _ _ hok) r2
  refine ⟨L, ?_, k2, qFrR_tr r3 k3⟩
  rw [fX8_readsRow_58]
  unfold fX8_readsRow_161
  have k1 : fX8_closesTo 1 0 1 (qD J) = some (qn 0, qD L) := k1
  have h184 : fX8_readsRow_184 1 (qD J) = some (qn 0, qD L) := by
    unfold fX8_readsRow_184
    rw [qzg_i (qdk_1 _), k1, qzb_some]
    rfl
  simp (disch := omega) only [↓qlet, eq_self, qzg_t, qzb_some, ↓reduceIte, not_or, not_false_eq_true, not_true_eq_false, and_true, true_and, and_self, or_false, false_or, true_or, or_true, and_false, false_and, qlit, qneg, qof, qn_add, qn_mul, qn_s, qn_z, qn_d, qn_dz, qm_1, qt_1, qt_0, qb_0, qb_1, qb_01, qb01b, q01_0, q01_1, qo_s, qo_n, qn_c, qn_le, qn_lt, qn_eq, qn_ne_m, qm_ne_n, qm_lt, qm_le, qn_lt_m, qn_le_m, qn_sub, qn_div, qn_mod, qle_t, qle_f, qlt_t, qlt_f, qeq_t, qeq_f, Nat.add_sub_cancel, qD_I, qD_s, qU_s, qU_a, qU_k, qdk_1, qdk_2, qdk_3, qdk_4, qdk_5, qdk_6, qdk_7, qdk_8, qdk_9, qdk_10, qdk_11, qdk_12, qdk_13, qdk_14, qdk_15, qdk_16, qdk_17, qdk_18, qdk_19, qdk_20, qdk_21, qdk_22, qdk_23, qdk_24, qdk_25, qdk_26, qdk_27, qdk_28, qdk_29, qdk_30, qdk_31, qdk_32, qdk_33, qdk_34, qdk_35, qdk_36, qdk_37, qdk_38, qdk_39, qdk_40, qdk_41, qdk_42, qdk_43, qdk_44, qdl_2, qdl_3, qdl_4, qdl_5, qdl_6, qdl_7, qdl_8, qdl_9, qdl_10, qdl_11, qdl_12, qdl_13, qdl_14, qdl_15, qdl_16, qdl_17, qdl_18, qdl_19, qdl_20, qdl_21, qdl_22, qdl_23, qdl_24, qdl_25, qdl_26, qdl_27, qdl_28, qdl_29, qdl_30, qdl_31, qdl_32, qdl_33, qdl_34, qdl_35, qdl_36, qdl_37, qdl_38, qdl_39, qdl_40, qdl_41, qdl_42, qdl_43, qdl_44, qdr_0, qdr_1, qdr_2, qdr_3, qdr_4, qdr_5, qdr_6, qdr_7, qdr_8, qdr_9, qdr_10, qdr_11, qdr_12, qdr_15, qdr_16, qdr_19, qdr_20, qdr_21, qdr_22, qdr_26, qdr_27, qdr_28, qdr_29, qdr_30, qdr_34, qdr_35, qdr_37, qdr_38, qdr_39, qdr_40, qdr_42, qdr_43, qdr_44, qdr_45, qdr_46, qdr_47, qdr_48, qdr_49, qdr_50, qdr_51, qdr_53, qdr_54, qdr_55, s1, s2, hk17, r1, h184]
theorem qRX_eq {J : Nat → Nat → Int32} {X : List (qZ × Nat)} (h : qRX I X) (hf : ∀ a, 32 ≤ a → a ≤ 35 → J a = I a) : qRX J X := by
  unfold qRX
  rw [hf 32 (by omega) (by omega), hf 33 (by omega) (by omega), hf 34 (by omega) (by omega), hf 35 (by omega) (by omega)]
  exact h
/-- a row is read -/
theorem rRow (hg9 : qGok G) (hEk : qEok sw en) (hks : ∀ k ∈ ks, qKok k) (h6 : ks.length ≤ 600) (hr : qRowOk G sw en ent ks D c) (hA : ∀ e p B V, e < 6 → p ≤ 600 → qVok G B V → qVok G (B + c) (ent e p V)) (hK6 : K = true → ks.length ≤ 60) (hc : c * ks.length ≤ 4320) (hD : D * ks.length < 9999) (hG : qRG G I) (hE : qREn sw en I) (hk : qRk I 0 ks) (hK : I 1 18 = qb K) : ∃ J, fX8_readsRow 1 (qD I) = some (qn 0, qD J) ∧ qRV J ks.length (qShutTo G ks.length 0 false (qRow G sw ent ks none qV0 [(qZ0, 0)]).1) ∧ (K = true → qRX J (qRow G sw ent ks none qV0 [(qZ0, 0)]).2) ∧ qFrZ K I J := by
  obtain ⟨J0, hJ0⟩ : ∃ J0, J0 = qU (qU (qU (qU (qU (qU (qU (qU (qU (qU I 1 23 (qn 0)) 1 24 qm) 1 25 (qn 0)) 1 31 (qn 0)) 1 32 (qn 0)) 1 33 (qn 0)) 1 36 (qn 0)) 1 41 (qn 0)) 29 0 (qn 0)) 30 0 (qn 0) := ⟨_, rfl⟩
  have hF : qFrZ K I J0 := by
    rw [hJ0]
    refine ⟨fun a h1 h2 => ?_, fun _ a h1 h2 => ?_, fun k _ _ _ _ _ _ _ _ => ?_⟩
    · simp (disch := omega) only [qU_r]
    · simp (disch := omega) only [qU_r]
    · simp (disch := omega) only [qU_s, qU_a, qU_k]
  have hS0 : qRst 0 0 0 (0, 0, 1, qV0) J0 := by
    rw [hJ0]
    refine ⟨?_, ?_, ⟨?_, fun j hj => ?_, fun h => ?_, fun j h1 h2 => ?_⟩, ⟨⟨?_, ?_, ?_, True.intro⟩, True.intro, ?_, True.intro, ?_, ?_, ?_, True.intro, ?_⟩⟩
    · simp (disch := omega) only [qU_s, qU_a, qU_k]
    · simp (disch := omega) only [qU_s, qU_a, qU_k]
    · simp (disch := omega) only [qU_s, qU_a, qU_k]
    · have hj : j < 0 := hj; omega
    · have h : 0 < 0 := h; omega
    · have h2 : j < 0 + 0 := h2; omega
    · simp (disch := omega) only [qU_s, qU_a, qU_k]; rfl
    · simp (disch := omega) only [qU_s, qU_a, qU_k]; rfl
    · simp (disch := omega) only [qU_s, qU_a, qU_k]; rfl
    · simp (disch := omega) only [qU_s, qU_a, qU_k]; rfl
    · simp (disch := omega) only [qU_s, qU_a, qU_k]; rfl
    · simp (disch := omega) only [qU_s, qU_a, qU_k]; rfl
    · simp (disch := omega) only [qU_s, qU_a, qU_k]; rfl
    · simp (disch := omega) only [qU_s, qU_a, qU_k]
  have hrun : fX8_readsRow 1 (qD I) = zb (fX8_keepsState 1 (qD J0)) fun _ M => fX8_readsRow_58 10000 1 M := by
    unfold fX8_readsRow
    simp (disch := omega) only [↓qlet, eq_self, qzg_t, qzb_some, ↓reduceIte, not_or, not_false_eq_true, not_true_eq_false, and_true, true_and, and_self, or_false, false_or, true_or, or_true, and_false, false_and, qlit, qneg, qof, qn_add, qn_mul, qn_s, qn_z, qn_d, qn_dz, qm_1, qt_1, qt_0, qb_0, qb_1, qb_01, qb01b, q01_0, q01_1, qo_s, qo_n, qn_c, qn_le, qn_lt, qn_eq, qn_ne_m, qm_ne_n, qm_lt, qm_le, qn_lt_m, qn_le_m, qn_sub, qn_div, qn_mod, qle_t, qle_f, qlt_t, qlt_f, qeq_t, qeq_f, Nat.add_sub_cancel, qD_I, qD_s, qU_s, qU_a, qU_k, qdk_1, qdk_2, qdk_3, qdk_4, qdk_5, qdk_6, qdk_7, qdk_8, qdk_9, qdk_10, qdk_11, qdk_12, qdk_13, qdk_14, qdk_15, qdk_16, qdk_17, qdk_18, qdk_19, qdk_20, qdk_21, qdk_22, qdk_23, qdk_24, qdk_25, qdk_26, qdk_27, qdk_28, qdk_29, qdk_30, qdk_31, qdk_32, qdk_33, qdk_34, qdk_35, qdk_36, qdk_37, qdk_38, qdk_39, qdk_40, qdk_41, qdk_42, qdk_43, qdk_44, qdl_2, qdl_3, qdl_4, qdl_5, qdl_6, qdl_7, qdl_8, qdl_9, qdl_10, qdl_11, qdl_12, qdl_13, qdl_14, qdl_15, qdl_16, qdl_17, qdl_18, qdl_19, qdl_20, qdl_21, qdl_22, qdl_23, qdl_24, qdl_25, qdl_26, qdl_27, qdl_28, qdl_29, qdl_30, qdl_31, qdl_32, qdl_33, qdl_34, qdl_35, qdl_36, qdl_37, qdl_38, qdl_39, qdl_40, qdl_41, qdl_42, qdl_43, qdl_44, qdr_0, qdr_1, qdr_2, qdr_3, qdr_4, qdr_5, qdr_6, qdr_7, qdr_8, qdr_9, qdr_10, qdr_11, qdr_12, qdr_15, qdr_16, qdr_19, qdr_20, qdr_21, qdr_22, qdr_26, qdr_27, qdr_28, qdr_29, qdr_30, qdr_34, qdr_35, qdr_37, qdr_38, qdr_39, qdr_40, qdr_42, qdr_43, qdr_44, qdr_45, qdr_46, qdr_47, qdr_48, qdr_49, qdr_50, qdr_51, qdr_53, qdr_54, qdr_55]
    rw [hJ0]
  have hK0 : J0 1 18 = qb K := by rw [hF.2.2 18 (by omega) (by omega) (by omega) (by omega) (by omega) (by omega) (by omega) (by omega)]; exact hK
  have hZ0 : qZok G qZ0 := qV0_ok.1
  obtain ⟨J1, b1, b2, b3, b4⟩ := rKeeps (K := K) (X := []) hg9 (Q := (0, 0, 1, qV0)) (i := 0) (by show 0 + 0 ≤ 600; omega) hZ0 (fun h => ⟨rfl, by omega, True.intro, fun x hx => absurd hx (by simp)⟩) hK0 hS0
  have hQ0 : qQok G 0 0 (0, 0, 1, qV0) := ⟨⟨0, qV0_ok, by show 0 + 0 + 0 ≤ 0; omega⟩, by show 0 + 0 ≤ 0; omega, by show 1 ≤ 2; omega⟩
  have hFF := qFrZ_tr hF b4
  obtain ⟨d, J2, e1, e2, e3, e4, e5⟩ := rLoop0 (K := K) hg9 hEk hks h6 hr hA hK6 ks.length 0 (0, 0, 1, qV0) [(qZ0, 0)] 0 J1 (by omega) (by omega) (qFrZ_G hFF hG) (qFrZ_E hFF hE) (qFrZ_k hFF hk) hQ0 (fun h => ⟨rfl, b3 h, fun x hx => by
    rw [List.mem_singleton.mp hx]; show 0 ≤ 20; omega⟩) (by rw [b4.2.2 18 (by omega) (by omega) (by omega) (by omega) (by omega) (by omega) (by omega) (by omega)]; exact hK0) b2
  have hL := (qLoop_ok (G := G) (sw := sw) (ent := ent) hEk.2 hr.2.1 hA hks h6 none (fun q h => by cases h) ks.length 0 0 (0, 0, 1, qV0) [(qZ0, 0)] (by omega) hQ0 (fun x hx => by
    rw [List.mem_singleton.mp hx]; exact ⟨hZ0, by show 0 ≤ 600; omega⟩)).1
  rw [Nat.zero_add] at hL
  obtain ⟨⟨B2, v1, v2⟩, v3, v4⟩ := hL
  have hFF2 := qFrZ_tr hFF e5
  obtain ⟨J3, f1, f2, f3⟩ := rRowDone hg9 h6 v1 (by omega) (by omega) (qFrZ_G hFF2 hG) (qFrZ_k hFF2 hk) e3 (9999 - d)
  refine ⟨J3, ?_, ?_, fun h => ?_, qFrZ_tr hFF2 (qFrZ_R f3)⟩
  · have h1 := b1 fun _ M => fX8_readsRow_58 10000 1 M
    unfold fX8_readsRow_154 at h1
    rw [qzg_i (qdk_1 _)] at h1
    have h2 := e2 (9999 - d + 1)
    rw [show 9999 - d + 1 + d = 10000 by omega] at h2
    rw [hrun, h1, h2, f1]
  · exact f2
  · exact qRX_eq (e4 h) fun a h1 h2 => f3.1 a (by omega) (by omega)
/-- the text -/
def qRT (I : Nat → Nat → Int32) (ks : List qK) : Prop := I 1 13 = qn ks.length ∧ ∀ i k, ks[i]? = some k → I 13 i = qn k.1 ∧ I 14 i = k.2
theorem rText10 (hk : ks.length ≤ 60) : ∀ n k I m, n + k = ks.length → n < m → I 1 13 = qn ks.length → ∃ J, fX8_readsText_10 m 1 (qn k) (qD I) = fX8_readsText_48 1 (qD J) ∧ (∀ a, a ≠ 15 → a ≠ 16 → J a = I a) ∧ (∀ j, j < k → J 15 j = I 15 j ∧ J 16 j = I 16 j) ∧ ∀ j, k ≤ j → j < ks.length → J 15 j = I 13 j ∧ J 16 j = I 14 j := by
  intro n
  induction n with
  | zero =>
    intro k I m h1 h2 h3
    obtain ⟨m, rfl⟩ : ∃ m', m = m' + 1 := ⟨m - 1, by omega⟩
    refine ⟨I, ?_, fun _ _ _ => rfl, fun _ _ => ⟨rfl, rfl⟩, fun j _ _ => by omega⟩
    rw [fX8_readsText_10]
    simp (disch := omega) only [↓qlet, eq_self, qzg_t, qzb_some, ↓reduceIte, not_or, not_false_eq_true, not_true_eq_false, and_true, true_and, and_self, or_false, false_or, true_or, or_true, and_false, false_and, qlit, qneg, qof, qn_add, qn_mul, qn_s, qn_z, qn_d, qn_dz, qm_1, qt_1, qt_0, qb_0, qb_1, qb_01, qb01b, q01_0, q01_1, qo_s, qo_n, qn_c, qn_le, qn_lt, qn_eq, qn_ne_m, qm_ne_n, qm_lt, qm_le, qn_lt_m, qn_le_m, qn_sub, qn_div, qn_mod, qle_t, qle_f, qlt_t, qlt_f, qeq_t, qeq_f, Nat.add_sub_cancel, qD_I, qD_s, qU_s, qU_a, qU_k, qdk_1, qdk_2, qdk_3, qdk_4, qdk_5, qdk_6, qdk_7, qdk_8, qdk_9, qdk_10, qdk_11, qdk_12, qdk_13, qdk_14, qdk_15, qdk_16, qdk_17, qdk_18, qdk_19, qdk_20, qdk_21, qdk_22, qdk_23, qdk_24, qdk_25, qdk_26, qdk_27, qdk_28, qdk_29, qdk_30, qdk_31, qdk_32, qdk_33, qdk_34, qdk_35, qdk_36, qdk_37, qdk_38, qdk_39, qdk_40, qdk_41, qdk_42, qdk_43, qdk_44, qdl_2, qdl_3, qdl_4, qdl_5, qdl_6, qdl_7, qdl_8, qdl_9, qdl_10, qdl_11, qdl_12, qdl_13, qdl_14, qdl_15, qdl_16, qdl_17, qdl_18, qdl_19, qdl_20, qdl_21, qdl_22, qdl_23, qdl_24, qdl_25, qdl_26, qdl_27, qdl_28, qdl_29, qdl_30, qdl_31, qdl_32, qdl_33, qdl_34, qdl_35, qdl_36, qdl_37, qdl_38, qdl_39, qdl_40, qdl_41, qdl_42, qdl_43, qdl_44, qdr_0, qdr_1, qdr_2, qdr_3, qdr_4, qdr_5, qdr_6, qdr_7, qdr_8, qdr_9, qdr_10, qdr_11, qdr_12, qdr_15, qdr_16, qdr_19, qdr_20, qdr_21, qdr_22, qdr_26, qdr_27, qdr_28, qdr_29, qdr_30, qdr_34, qdr_35, qdr_37, qdr_38, qdr_39, qdr_40, qdr_42, qdr_43, qdr_44, qdr_45, qdr_46, qdr_47, qdr_48, qdr_49, qdr_50, qdr_51, qdr_53, qdr_54, qdr_55, h3]
  | succ n ih =>
    intro k I m h1 h2 h3
    obtain ⟨m, rfl⟩ : ∃ m', m = m' + 1 := ⟨m - 1, by omega⟩
    obtain ⟨J, j1, j2, j3, j4⟩ := ih (k + 1) (qU (qU I 15 k (I 13 k)) 16 k (I 14 k)) m (by omega) (by omega) (by simp (disch := omega) only [qU_r]; exact h3)
    refine ⟨J, ?_, fun a h4 h5 => ?_, fun j hj => ?_, fun j h4 h5 => ?_⟩
    · rw [fX8_readsText_10]
      simp (disch := omega) only [↓qlet, eq_self, qzg_t, qzb_some, ↓reduceIte, not_or, not_false_eq_true, not_true_eq_false, and_true, true_and, and_self, or_false, false_or, true_or, or_true, and_false, false_and, qlit, qneg, qof, qn_add, qn_mul, qn_s, qn_z, qn_d, qn_dz, qm_1, qt_1, qt_0, qb_0, qb_1, qb_01, qb01b, q01_0, q01_1, qo_s, qo_n, qn_c, qn_le, qn_lt, qn_eq, qn_ne_m, qm_ne_n, qm_lt, qm_le, qn_lt_m, qn_le_m, qn_sub, qn_div, qn_mod, qle_t, qle_f, qlt_t, qlt_f, qeq_t, qeq_f, Nat.add_sub_cancel, qD_I, qD_s, qU_s, qU_a, qU_k, qdk_1, qdk_2, qdk_3, qdk_4, qdk_5, qdk_6, qdk_7, qdk_8, qdk_9, qdk_10, qdk_11, qdk_12, qdk_13, qdk_14, qdk_15, qdk_16, qdk_17, qdk_18, qdk_19, qdk_20, qdk_21, qdk_22, qdk_23, qdk_24, qdk_25, qdk_26, qdk_27, qdk_28, qdk_29, qdk_30, qdk_31, qdk_32, qdk_33, qdk_34, qdk_35, qdk_36, qdk_37, qdk_38, qdk_39, qdk_40, qdk_41, qdk_42, qdk_43, qdk_44, qdl_2, qdl_3, qdl_4, qdl_5, qdl_6, qdl_7, qdl_8, qdl_9, qdl_10, qdl_11, qdl_12, qdl_13, qdl_14, qdl_15, qdl_16, qdl_17, qdl_18, qdl_19, qdl_20, qdl_21, qdl_22, qdl_23, qdl_24, qdl_25, qdl_26, qdl_27, qdl_28, qdl_29, qdl_30, qdl_31, qdl_32, qdl_33, qdl_34, qdl_35, qdl_36, qdl_37, qdl_38, qdl_39, qdl_40, qdl_41, qdl_42, qdl_43, qdl_44, qdr_0, qdr_1, qdr_2, qdr_3, qdr_4, qdr_5, qdr_6, qdr_7, qdr_8, qdr_9, qdr_10, qdr_11, qdr_12, qdr_15, qdr_16, qdr_19, qdr_20, qdr_21, qdr_22, qdr_26, qdr_27, qdr_28, qdr_29, qdr_30, qdr_34, qdr_35, qdr_37, qdr_38, qdr_39, qdr_40, qdr_42, qdr_43, qdr_44, qdr_45, qdr_46, qdr_47, qdr_48, qdr_49, qdr_50, qdr_51, qdr_53, qdr_54, qdr_55, h3]
      exact j1
    · rw [j2 a h4 h5]; simp (disch := omega) only [qU_r]
    · obtain ⟨e1, e2⟩ := j3 j (by omega)
      rw [e1, e2]
      exact ⟨by simp (disch := omega) only [qU_s, qU_a, qU_k], by simp (disch := omega) only [qU_s, qU_a, qU_k]⟩
    · by_cases c : j = k
      · subst c
        obtain ⟨e1, e2⟩ := j3 j (by omega)
        rw [e1, e2]
        exact ⟨by simp (disch := omega) only [qU_s, qU_a, qU_k], by simp (disch := omega) only [qU_s, qU_a, qU_k]⟩
      · obtain ⟨e1, e2⟩ := j4 j (by omega) h5
        rw [e1, e2]
        exact ⟨by simp (disch := omega) only [qU_r], by simp (disch := omega) only [qU_r]⟩
def qFrX (I J : Nat → Nat → Int32) : Prop := (∀ a, a ≠ 1 → (a ≤ 14 ∨ 36 ≤ a) → J a = I a) ∧ ∀ k, k ≠ 17 → k ≠ 18 → k ≠ 23 → k ≠ 24 → k ≠ 25 → k ≠ 31 → k ≠ 32 → k ≠ 33 → k ≠ 36 → k ≠ 41 → J 1 k = I 1 k
theorem rReadsText (hg9 : qGok G) (hEk : qEok sw en) (hks : ∀ k ∈ ks, qKok k) (h6 : ks.length ≤ 60) (hG : qRG G I) (hE : qREn sw en I) (hk : qRT I ks) : ∃ J, fX8_readsText 1 (qD I) = some (qn 0, qD J) ∧ qRV J ks.length (qFull G sw en ks).1 ∧ qRX J (qFull G sw en ks).2 ∧ J 1 18 = qn 0 ∧ qFrX I J := by
  obtain ⟨t1, t2⟩ := hk
  obtain ⟨J, j1, j2, j3, j4⟩ := rText10 h6 ks.length 0 (qU I 1 17 (qn ks.length)) 10000 (by omega) (by omega) (by simp (disch := omega) only [qU_s, qU_a, qU_k]; exact t1)
  obtain ⟨J1, hJ1⟩ : ∃ J1, J1 = qU J 1 18 (qn 1) := ⟨_, rfl⟩
  have jr : ∀ a, a ≠ 1 → a ≠ 15 → a ≠ 16 → J1 a = I a := fun a h1 h2 h3 => by rw [hJ1, qU_r (by omega), j2 a h2 h3, qU_r (by omega)]
  have jo : ∀ k, k ≠ 17 → k ≠ 18 → J1 1 k = I 1 k := fun k h1 h2 => by rw [hJ1, qU_k (by omega), j2 1 (by omega) (by omega), qU_k (by omega)]
  have hk1 : qRk J1 0 ks := by
    unfold qRk
    rw [if_pos rfl]
    refine ⟨?_, fun i k hi => ?_⟩
    · rw [hJ1, qU_k (by omega), j2 1 (by omega) (by omega), qU_s]
    · have hil := (List.getElem?_eq_some_iff.mp hi).1
      obtain ⟨e1, e2⟩ := j4 i (by omega) hil
      obtain ⟨e3, e4⟩ := t2 i k hi
      rw [hJ1, qU_r (by omega), qU_r (by omega), e1, e2, qU_r (by omega), qU_r (by omega)]
      exact ⟨e3, e4⟩
  obtain ⟨J2, a1, a2, a3, a4⟩ := rRow (K := true) (ent := qEnt0 G sw en) (D := 50) (c := 72) hg9 hEk hks (by omega) ⟨by omega, by omega, Or.inr ⟨rfl, by omega, by omega⟩⟩ (qEnt0_ok hEk) (fun _ => h6) (by omega) (by omega) (qRG_fr hG fun a h1 h2 => jr a (by omega) (by omega) (by omega)) (qREn_fr hE fun a h1 h2 => jr a (by omega) (by omega) (by omega)) hk1 (by rw [hJ1, qU_s]; rfl)
  refine ⟨qU J2 1 18 (qn 0), ?_, ?_, ?_, qU_s .., fun a h1 h2 => ?_, fun k h1 h2 h3 h4 h5 h6 h7 h8 h9 h10 => ?_⟩
  · have a1 : fX8_readsRow 1 (qD (qU J 1 18 (qn 1))) = some (qn 0, qD J2) := by rw [← hJ1]; exact a1
    have h48 : fX8_readsText_48 1 (qD J) = some (qn 0, qD (qU J2 1 18 (qn 0))) := by
      unfold fX8_readsText_48
      simp (disch := omega) only [↓qlet, eq_self, qzg_t, qzb_some, ↓reduceIte, not_or, not_false_eq_true, not_true_eq_false, and_true, true_and, and_self, or_false, false_or, true_or, or_true, and_false, false_and, qlit, qneg, qof, qn_add, qn_mul, qn_s, qn_z, qn_d, qn_dz, qm_1, qt_1, qt_0, qb_0, qb_1, qb_01, qb01b, q01_0, q01_1, qo_s, qo_n, qn_c, qn_le, qn_lt, qn_eq, qn_ne_m, qm_ne_n, qm_lt, qm_le, qn_lt_m, qn_le_m, qn_sub, qn_div, qn_mod, qle_t, qle_f, qlt_t, qlt_f, qeq_t, qeq_f, Nat.add_sub_cancel, qD_I, qD_s, qU_s, qU_a, qU_k, qdk_1, qdk_2, qdk_3, qdk_4, qdk_5, qdk_6, qdk_7, qdk_8, qdk_9, qdk_10, qdk_11, qdk_12, qdk_13, qdk_14, qdk_15, qdk_16, qdk_17, qdk_18, qdk_19, qdk_20, qdk_21, qdk_22, qdk_23, qdk_24, qdk_25, qdk_26, qdk_27, qdk_28, qdk_29, qdk_30, qdk_31, qdk_32, qdk_33, qdk_34, qdk_35, qdk_36, qdk_37, qdk_38, qdk_39, qdk_40, qdk_41, qdk_42, qdk_43, qdk_44, qdl_2, qdl_3, qdl_4, qdl_5, qdl_6, qdl_7, qdl_8, qdl_9, qdl_10, qdl_11, qdl_12, qdl_13, qdl_14, qdl_15, qdl_16, qdl_17, qdl_18, qdl_19, qdl_20, qdl_21, qdl_22, qdl_23, qdl_24, qdl_25, qdl_26, qdl_27, qdl_28, qdl_29, qdl_30, qdl_31, qdl_32, qdl_33, qdl_34, qdl_35, qdl_36, qdl_37, qdl_38, qdl_39, qdl_40, qdl_41, qdl_42, qdl_43, qdl_44, qdr_0, qdr_1, qdr_2, qdr_3, qdr_4, qdr_5, qdr_6, qdr_7, qdr_8, qdr_9, qdr_10, qdr_11, qdr_12, qdr_15, qdr_16, qdr_19, qdr_20, qdr_21, qdr_22, qdr_26, qdr_27, qdr_28, qdr_29, qdr_30, qdr_34, qdr_35, qdr_37, qdr_38, qdr_39, qdr_40, qdr_42, qdr_43, qdr_44, qdr_45, qdr_46, qdr_47, qdr_48, qdr_49, qdr_50, qdr_51, qdr_53, qdr_54, qdr_55, a1]
    unfold fX8_readsText
    simp (disch := omega) only [↓qlet, eq_self, qzg_t, qzb_some, ↓reduceIte, not_or, not_false_eq_true, not_true_eq_false, and_true, true_and, and_self, or_false, false_or, true_or, or_true, and_false, false_and, qlit, qneg, qof, qn_add, qn_mul, qn_s, qn_z, qn_d, qn_dz, qm_1, qt_1, qt_0, qb_0, qb_1, qb_01, qb01b, q01_0, q01_1, qo_s, qo_n, qn_c, qn_le, qn_lt, qn_eq, qn_ne_m, qm_ne_n, qm_lt, qm_le, qn_lt_m, qn_le_m, qn_sub, qn_div, qn_mod, qle_t, qle_f, qlt_t, qlt_f, qeq_t, qeq_f, Nat.add_sub_cancel, qD_I, qD_s, qU_s, qU_a, qU_k, qdk_1, qdk_2, qdk_3, qdk_4, qdk_5, qdk_6, qdk_7, qdk_8, qdk_9, qdk_10, qdk_11, qdk_12, qdk_13, qdk_14, qdk_15, qdk_16, qdk_17, qdk_18, qdk_19, qdk_20, qdk_21, qdk_22, qdk_23, qdk_24, qdk_25, qdk_26, qdk_27, qdk_28, qdk_29, qdk_30, qdk_31, qdk_32, qdk_33, qdk_34, qdk_35, qdk_36, qdk_37, qdk_38, qdk_39, qdk_40, qdk_41, qdk_42, qdk_43, qdk_44, qdl_2, qdl_3, qdl_4, qdl_5, qdl_6, qdl_7, qdl_8, qdl_9, qdl_10, qdl_11, qdl_12, qdl_13, qdl_14, qdl_15, qdl_16, qdl_17, qdl_18, qdl_19, qdl_20, qdl_21, qdl_22, qdl_23, qdl_24, qdl_25, qdl_26, qdl_27, qdl_28, qdl_29, qdl_30, qdl_31, qdl_32, qdl_33, qdl_34, qdl_35, qdl_36, qdl_37, qdl_38, qdl_39, qdl_40, qdl_41, qdl_42, qdl_43, qdl_44, qdr_0, qdr_1, qdr_2, qdr_3, qdr_4, qdr_5, qdr_6, qdr_7, qdr_8, qdr_9, qdr_10, qdr_11, qdr_12, qdr_15, qdr_16, qdr_19, qdr_20, qdr_21, qdr_22, qdr_26, qdr_27, qdr_28, qdr_29, qdr_30, qdr_34, qdr_35, qdr_37, qdr_38, qdr_39, qdr_40, qdr_42, qdr_43, qdr_44, qdr_45, qdr_46, qdr_47, qdr_48, qdr_49, qdr_50, qdr_51, qdr_53, qdr_54, qdr_55, t1, j1, h48]
  · have hf : (qFull G sw en ks).1 = qShutTo G ks.length 0 false (qRow G sw (qEnt0 G sw en) ks none qV0 [(qZ0, 0)]).1 := rfl
    rw [hf]
    obtain ⟨z, h2, h3, h4, h5, h6, h7, h8, h9⟩ := a2
    refine ⟨qRZ_fr z (qU_k (by omega)) (qU_k (by omega)) (qU_k (by omega)) (qU_r (by omega)) (qU_r (by omega)) (qU_r (by omega)), ?_, ?_, ?_, ?_, ?_, ?_, ?_, ?_⟩
    · rw [qU_r (by omega)]; exact h2
    · rw [qU_k (by omega)]; exact h3
    · simp (disch := omega) only [qU_r]; exact h4
    · rw [qU_k (by omega)]; exact h5
    · rw [qU_k (by omega)]; exact h6
    · rw [qU_k (by omega)]; exact h7
    · simp (disch := omega) only [qU_r]; exact h8
    · rw [qU_r (by omega)]; exact h9
  · exact qRX_eq (a3 rfl) fun a h1 h2 => qU_r (by omega)
  · rw [qU_r h1, a4.1 a h1 (by omega), jr a h1 (by omega) (by omega)]
  · rw [qU_k (by omega), a4.2.2 k (by omega) (by omega) (by omega) (by omega) (by omega) (by omega) (by omega) (by omega), jo k (by omega) (by omega)]
end
