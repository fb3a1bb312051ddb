/-! THE CLASS: isSame, ways -/
def qWrs (G : qG) : List qK → qZ → Option qZ
  | [], Z => some Z
  | k :: ks, Z => match qWr G Z k.1 k.2.toNatClampNeg with
    | none => none
    | some Z1 => qWrs G ks Z1
theorem qWr_ok {G : qG} {Z Z' : qZ} {k v : Nat} (hz : qZok G Z) (hv : ¬ k = 4 → v < 10) (h : qWr G Z k v = some Z') : qZok G Z' := by
  unfold qWr at h
  split at h
  · cases hst : Z.1 with
    | nil => rw [hst] at h; cases h
    | cons x st =>
      rw [hst] at h
      dsimp only at h
      split at h
      · injection h with h; subst h
        have := qTail_ok hz
        rw [hst] at this
        exact this
      · cases h
  · split at h
    · exact (qAcc_ok hz h).1
    · next c1 c4 =>
      split at h
      · cases h
      · next c20 =>
        cases ha : qAcc G Z v with
        | none => rw [ha] at h; cases h
        | some Z1 =>
          rw [ha] at h
          injection h with h; subst h
          obtain ⟨k1, k2, k3⟩ := qAcc_ok hz ha
          exact qEnter_ok k1 (hv c4) (by omega)
/-- a token that ways and the normal form have -/
def qKw (k : qK) : Prop := k.1 < 9 ∧ ∃ v, k.2 = qn v ∧ v < 1000 ∧ (¬ k.1 = 4 → v < 10)
def qSameA (A : qA) : Bool := match qWrs A.1 (qForm A.1 (qFA A).1.2.2.1) qZ0 with
  | none => false
  | some Z => decide (Z.1 = [])
section
variable {w : Bool} {I : Nat → Nat → Int32} {A : qA} {G : qG}
theorem cWrs_9 (hg : qGok G) {ks : List qK} (h600 : ks.length ≤ 600) (hkw : ∀ k ∈ ks, qKw k) : ∀ d i Z I m, d < m → i + d = ks.length → qCG G I → qCK I 98 ks → qZok G Z → qCZ I 107 Z → ∃ J, fX2_isNormalFormReadAsWritten_9 m 91 (qn i) (qC w I) = some (qb (match qWrs G (ks.drop i) Z with
    | none => false
    | some Z1 => decide (Z1.1 = [])), qC w J) ∧ ∀ a, a ≠ 107 → a ≠ 108 → a ≠ 109 → J a = I a := by
  intro d
  induction d with
  | zero =>
    intro i Z I m h1 h2 hG hk hz hZ
    obtain ⟨m, rfl⟩ : ∃ m', m = m' + 1 := ⟨m - 1, by omega⟩
    refine ⟨I, ?_, fun a _ _ _ => rfl⟩
    rw [List.drop_of_length_le (by omega)]
    unfold fX2_isNormalFormReadAsWritten_9 fX2_isNormalFormReadAsWritten_56 qWrs
    have hd := hZ.1
    have hl := hz.1
    dsimp only
    by_cases c : Z.1 = []
    · rw [c] at hd
      simp (disch := omega) only [↓qlet, eq_self, qzg_t, qzb_some, ↓reduceIte, not_or, not_false_eq_true, not_true_eq_false, and_true, true_and, and_self, or_false, false_or, true_or, or_true, and_false, false_and, qlit, qneg, qof, qn_add, qn_mul, qn_s, qn_z, qn_d, qn_dz, qm_1, qt_1, qt_0, qb_0, qb_1, qb_01, qb01b, q01_0, q01_1, qo_s, qo_n, qn_c, qn_le, qn_lt, qn_eq, qn_ne_m, qm_ne_n, qm_lt, qm_le, qn_lt_m, qn_le_m, qn_sub, qn_div, qn_mod, qle_t, qle_f, qlt_t, qlt_f, qeq_t, qeq_f, Nat.add_sub_cancel, qC_I, qC_s, qU_s, qU_a, qU_k, qk_1, qk_2, qk_3, qk_4, qk_5, qk_6, qk_7, qk_68, qk_69, qk_70, qk_71, qk_72, qk_91, qk_92, qk_93, qk_94, qk_95, qk_96, qk_97, qk_98, qk_99, qk_100, qk_101, qk_102, qk_103, qk_104, qk_105, qk_106, qk_107, qk_108, qk_109, qk_476, qk_477, qr_1_0, qr_1_1, qr_1_2, qr_1_3, qr_1_4, qr_1_5, qr_2_0, qr_2_1, qr_2_2, qr_2_3, qr_2_4, qr_68_0, qr_68_1, qr_91_0, qr_91_1, qr_91_2, qr_91_3, qr_91_4, qr_91_5, qr_91_6, qr_91_7, qr_91_10, qr_91_11, qr_91_14, qr_92_0, qr_92_1, qr_92_2, qr_92_3, qr_92_4, qr_98_0, qr_98_1, qr_107_0, qr_107_1, qr_107_2, qr_476_0, qr_476_1, qr_476_2, hk.1, hd, List.length_nil, c, decide_true, qb_t]
    · have : ¬ Z.1.length = 0 := fun e => c (List.length_eq_zero_iff.mp e)
      simp (disch := omega) only [↓qlet, eq_self, qzg_t, qzb_some, ↓reduceIte, not_or, not_false_eq_true, not_true_eq_false, and_true, true_and, and_self, or_false, false_or, true_or, or_true, and_false, false_and, qlit, qneg, qof, qn_add, qn_mul, qn_s, qn_z, qn_d, qn_dz, qm_1, qt_1, qt_0, qb_0, qb_1, qb_01, qb01b, q01_0, q01_1, qo_s, qo_n, qn_c, qn_le, qn_lt, qn_eq, qn_ne_m, qm_ne_n, qm_lt, qm_le, qn_lt_m, qn_le_m, qn_sub, qn_div, qn_mod, qle_t, qle_f, qlt_t, qlt_f, qeq_t, qeq_f, Nat.add_sub_cancel, qC_I, qC_s, qU_s, qU_a, qU_k, qk_1, qk_2, qk_3, qk_4, qk_5, qk_6, qk_7, qk_68, qk_69, qk_70, qk_71, qk_72, qk_91, qk_92, qk_93, qk_94, qk_95, qk_96, qk_97, qk_98, qk_99, qk_100, qk_101, qk_102, qk_103, qk_104, qk_105, qk_106, qk_107, qk_108, qk_109, qk_476, qk_477, qr_1_0, qr_1_1, qr_1_2, qr_1_3, qr_1_4, qr_1_5, qr_2_0, qr_2_1, qr_2_2, qr_2_3, qr_2_4, qr_68_0, qr_68_1, qr_91_0, qr_91_1, qr_91_2, qr_91_3, qr_91_4, qr_91_5, qr_91_6, qr_91_7, qr_91_10, qr_91_11, qr_91_14, qr_92_0, qr_92_1, qr_92_2, qr_92_3, qr_92_4, qr_98_0, qr_98_1, qr_107_0, qr_107_1, qr_107_2, qr_476_0, qr_476_1, qr_476_2, hk.1, hd, c, decide_false, qb_f]
  | succ d ih =>
    intro i Z I m h1 h2 hG hk hz hZ
    obtain ⟨m, rfl⟩ : ∃ m', m = m' + 1 := ⟨m - 1, by omega⟩
    have hil : i < ks.length := by omega
    have hgi : ks[i]? = some ks[i] := List.getElem?_eq_getElem hil
    obtain ⟨a1, a2⟩ := hk.2 i _ hgi
    obtain ⟨w1, v, w2, w3, w4⟩ := hkw _ (List.mem_of_getElem? hgi)
    rw [w2] at a2
    obtain ⟨J, e1, z1, f1⟩ := cWr (w := w) qSt_107 hG hg hz hZ (k := ks[i].1) (v := v) w1 w4 w3
    have hdr : ks.drop i = ks[i] :: ks.drop (i + 1) := by rw [List.getElem_cons_drop]
    rw [hdr]
    unfold fX2_isNormalFormReadAsWritten_9 qWrs
    rw [w2, show (qn v).toNatClampNeg = v from qn_c (by omega)]
    cases hw : qWr G Z ks[i].1 v with
    | none =>
      rw [hw] at e1
      refine ⟨J, ?_, f1⟩
      simp (disch := omega) only [↓qlet, eq_self, qzg_t, qzb_some, ↓reduceIte, not_or, not_false_eq_true, not_true_eq_false, and_true, true_and, and_self, or_false, false_or, true_or, or_true, and_false, false_and, qlit, qneg, qof, qn_add, qn_mul, qn_s, qn_z, qn_d, qn_dz, qm_1, qt_1, qt_0, qb_0, qb_1, qb_01, qb01b, q01_0, q01_1, qo_s, qo_n, qn_c, qn_le, qn_lt, qn_eq, qn_ne_m, qm_ne_n, qm_lt, qm_le, qn_lt_m, qn_le_m, qn_sub, qn_div, qn_mod, qle_t, qle_f, qlt_t, qlt_f, qeq_t, qeq_f, Nat.add_sub_cancel, qC_I, qC_s, qU_s, qU_a, qU_k, qk_1, qk_2, qk_3, qk_4, qk_5, qk_6, qk_7, qk_68, qk_69, qk_70, qk_71, qk_72, qk_91, qk_92, qk_93, qk_94, qk_95, qk_96, qk_97, qk_98, qk_99, qk_100, qk_101, qk_102, qk_103, qk_104, qk_105, qk_106, qk_107, qk_108, qk_109, qk_476, qk_477, ql_3, ql_4, ql_5, ql_6, ql_7, ql_69, ql_70, ql_71, ql_72, ql_93, ql_94, ql_95, ql_96, ql_97, ql_99, ql_100, ql_101, ql_102, ql_103, ql_104, ql_105, ql_106, ql_108, ql_109, ql_477, qr_1_0, qr_1_1, qr_1_2, qr_1_3, qr_1_4, qr_1_5, qr_2_0, qr_2_1, qr_2_2, qr_2_3, qr_2_4, qr_68_0, qr_68_1, qr_91_0, qr_91_1, qr_91_2, qr_91_3, qr_91_4, qr_91_5, qr_91_6, qr_91_7, qr_91_10, qr_91_11, qr_91_14, qr_92_0, qr_92_1, qr_92_2, qr_92_3, qr_92_4, qr_98_0, qr_98_1, qr_107_0, qr_107_1, qr_107_2, qr_476_0, qr_476_1, qr_476_2, hk.1, a1, a2, e1, Option.isSome_none, qb_f]
    | some Z1 =>
      rw [hw] at e1 z1
      obtain ⟨K, e2, f2⟩ := ih (i + 1) Z1 J m (by omega) (by omega) (qCG_fr hG fun a ha => f1 a (by omega) (by omega) (by omega)) (qCK_fr hk (by rw [f1 _ (by omega) (by omega) (by omega)]) (by rw [f1 _ (by omega) (by omega) (by omega)]) (by rw [f1 _ (by omega) (by omega) (by omega)])) (qWr_ok hz w4 hw) z1
      refine ⟨K, ?_, fun a b1 b2 b3 => by rw [f2 a b1 b2 b3, f1 a b1 b2 b3]⟩
      simp (disch := omega) only [↓qlet, eq_self, qzg_t, qzb_some, ↓reduceIte, not_or, not_false_eq_true, not_true_eq_false, and_true, true_and, and_self, or_false, false_or, true_or, or_true, and_false, false_and, qlit, qneg, qof, qn_add, qn_mul, qn_s, qn_z, qn_d, qn_dz, qm_1, qt_1, qt_0, qb_0, qb_1, qb_01, qb01b, q01_0, q01_1, qo_s, qo_n, qn_c, qn_le, qn_lt, qn_eq, qn_ne_m, qm_ne_n, qm_lt, qm_le, qn_lt_m, qn_le_m, qn_sub, qn_div, qn_mod, qle_t, qle_f, qlt_t, qlt_f, qeq_t, qeq_f, Nat.add_sub_cancel, qC_I, qC_s, qU_s, qU_a, qU_k, qk_1, qk_2, qk_3, qk_4, qk_5, qk_6, qk_7, qk_68, qk_69, qk_70, qk_71, qk_72, qk_91, qk_92, qk_93, qk_94, qk_95, qk_96, qk_97, qk_98, qk_99, qk_100, qk_101, qk_102, qk_103, qk_104, qk_105, qk_106, qk_107, qk_108, qk_109, qk_476, qk_477, ql_3, ql_4, ql_5, ql_6, ql_7, ql_69, ql_70, ql_71, ql_72, ql_93, ql_94, ql_95, ql_96, ql_97, ql_99, ql_100, ql_101, ql_102, ql_103, ql_104, ql_105, ql_106, ql_108, ql_109, ql_477, qr_1_0, qr_1_1, qr_1_2, qr_1_3, qr_1_4, qr_1_5, qr_2_0, qr_2_1, qr_2_2, qr_2_3, qr_2_4, qr_68_0, qr_68_1, qr_91_0, qr_91_1, qr_91_2, qr_91_3, qr_91_4, qr_91_5, qr_91_6, qr_91_7, qr_91_10, qr_91_11, qr_91_14, qr_92_0, qr_92_1, qr_92_2, qr_92_3, qr_92_4, qr_98_0, qr_98_1, qr_107_0, qr_107_1, qr_107_2, qr_476_0, qr_476_1, qr_476_2, hk.1, a1, a2, e1, Option.isSome_some, qb_t]
      exact e2
theorem qForm_kw (h : qAok A) : (∀ k ∈ qForm A.1 (qFA A).1.2.2.1, qKw k ∧ (k.1 = 0 ∨ k.1 = 1 ∨ k.1 = 4)) ∧ (qForm A.1 (qFA A).1.2.2.1).length ≤ 600 := by
  have hx := qAok_X h
  obtain ⟨hg, hE, hn, hk⟩ := h
  obtain ⟨f1, f2, f3, f4, f5⟩ := qFull_ok (G := A.1) hE hk (by omega)
  have hlt := qFull_lt (G := A.1) hE hk (by omega)
  refine ⟨fun k hm => ?_, ?_⟩
  · have hs : ∀ (p : Option Nat) (W : List (Nat × Nat)) (F : List qK), (∀ x ∈ W, x.2 < 10) → (∀ k ∈ F, qKw k ∧ (k.1 = 0 ∨ k.1 = 1 ∨ k.1 = 4)) → ∀ k ∈ qEnds p W F, qKw k ∧ (k.1 = 0 ∨ k.1 = 1 ∨ k.1 = 4) := by
      intro p W
      induction W with
      | nil => intro F _ h; exact h
      | cons x l ih =>
        intro F hW hF
        unfold qEnds
        split
        · exact hF
        · refine ih _ (fun y hy => hW y (by simp [hy])) fun k hk => ?_
          rcases List.mem_cons.mp hk with e | hk
          · subst e
            have := hW x (by simp)
            exact ⟨⟨by dsimp only; omega, x.2, rfl, by omega, fun _ => this⟩, Or.inr (Or.inl rfl)⟩
          · exact hF k hk
    have hF : ∀ th : List qT, (∀ t ∈ th, t.1 ≤ 10 ∧ t.2.2.1 < 128) → ∀ k ∈ qF A.1 th, qKw k ∧ (k.1 = 0 ∨ k.1 = 1 ∨ k.1 = 4) := by
      intro th
      induction th with
      | nil => intro _ k h; cases h
      | cons t l ih =>
        intro h k hk
        simp only [qF] at hk
        have ht := h t (by simp)
        rcases List.mem_cons.mp hk with e | hk
        · subst e
          split
          · exact ⟨⟨by dsimp only; omega, t.2.2.1, rfl, by omega, fun c => absurd rfl c⟩, Or.inr (Or.inr rfl)⟩
          · exact ⟨⟨by dsimp only; omega, t.1, rfl, by omega, fun _ => by omega⟩, Or.inl rfl⟩
        · exact hs _ _ _ (fun x hx => (qW_mem A.1 l x hx).2.1) (ih fun y hy => h y (by simp [hy])) k hk
    unfold qForm at hm
    rw [List.mem_reverse] at hm
    exact hs _ _ _ (fun x hx => (qW_mem A.1 _ x hx).2.1) (hF _ fun t ht => ⟨(hx.2.2.2.1 t ht).1, (hx.2.2.2.1 t ht).2.2.1⟩) k hm
  · unfold qForm
    rw [List.length_reverse]
    have h1 := qEnds_len none (qW A.1 (qFA A).1.2.2.1) (qF A.1 (qFA A).1.2.2.1)
    have h2 := qF_len A.1 (qFA A).1.2.2.1
    have h3 := hx.2.2.1
    omega
/-- what a call leaves as it was, though it uses the State -/
theorem qCA_st (hA : qCA w I A) {J : Nat → Nat → Int32} (hf : ∀ a, (a < 107 ∨ (110 ≤ a ∧ a ≤ 475)) → J a = I a) : qCA w J A := by
  obtain ⟨hok, ⟨hG, hEn, hK⟩, hV, hX, hF, h16⟩ := hA
  refine ⟨hok, ⟨qCG_fr hG fun a ha => hf a (by omega), qCEn_fr2 hEn fun a h1 h2 => hf a (by omega), qCK_fr hK (by rw [hf _ (by omega)]) (by rw [hf _ (by omega)]) (by rw [hf _ (by omega)])⟩, qCVs_fr hV (by rw [hf 91 (by omega)]) (by rw [hf 91 (by omega)]) (by rw [hf 91 (by omega)]) fun a ha => hf a (by omega), ?_, qCK_fr hF (by rw [hf _ (by omega)]) (by rw [hf _ (by omega)]) (by rw [hf _ (by omega)]), by rw [hf _ (by omega)]; exact h16⟩
  obtain ⟨-, hl, -⟩ := qAok_X hok
  have := hok.2.2.1
  exact qCX_fr hX fun j hj d hd => by
    have h1 := qSc_ge w j
    have h2 : qSc w j + 2 ≤ 475 := by unfold qSc; split <;> omega
    rw [hf _ (by omega)]
theorem cSameQ (hA : qCA w I A) : ∃ J, fX7_isSame 1 (qC w I) = some (qb (qSameA A), qC w J) ∧ qCA w J A := by
  obtain ⟨hkw, h600⟩ := qForm_kw hA.1
  have hA0 := hA
  obtain ⟨⟨hg, hE, hn, hk⟩, ⟨hG, hEn, hK⟩, hV, hX, hF, h16⟩ := hA
  obtain ⟨I1, e1, z1, m1, f1⟩ := cRestart (w := w) (I := I) qSt_107
  obtain ⟨J, e2, f2⟩ := cWrs_9 (w := w) hg h600 (fun k h => (hkw k h).1) (qForm A.1 (qFA A).1.2.2.1).length 0 qZ0 I1 10000 (by omega) (by omega) (qCG_fr hG fun a ha => f1 a (by omega)) (qCK_fr hF (by rw [f1 _ (by omega)]) (by rw [f1 _ (by omega)]) (by rw [f1 _ (by omega)])) qZ0_ok z1
  refine ⟨J, ?_, qCA_st hA0 fun a ha => by rw [f2 a (by omega) (by omega) (by omega), f1 a (by omega)]⟩
  unfold fX7_isSame fX2_isNormalFormReadAsWritten qSameA
  rw [List.drop_zero] at e2
  simp (disch := omega) only [↓qlet, eq_self, qzg_t, qzb_some, ↓reduceIte, not_or, not_false_eq_true, not_true_eq_false, and_true, true_and, and_self, or_false, false_or, true_or, or_true, and_false, false_and, qlit, qneg, qof, qn_add, qn_mul, qn_s, qn_z, qn_d, qn_dz, qm_1, qt_1, qt_0, qb_0, qb_1, qb_01, qb01b, q01_0, q01_1, qo_s, qo_n, qn_c, qn_le, qn_lt, qn_eq, qn_ne_m, qm_ne_n, qm_lt, qm_le, qn_lt_m, qn_le_m, qn_sub, qn_div, qn_mod, qle_t, qle_f, qlt_t, qlt_f, qeq_t, qeq_f, Nat.add_sub_cancel, qC_I, qC_s, qU_s, qU_a, qU_k, qk_1, qk_2, qk_3, qk_4, qk_5, qk_6, qk_7, qk_68, qk_69, qk_70, qk_71, qk_72, qk_91, qk_92, qk_93, qk_94, qk_95, qk_96, qk_97, qk_98, qk_99, qk_100, qk_101, qk_102, qk_103, qk_104, qk_105, qk_106, qk_107, qk_108, qk_109, qk_476, qk_477, qr_1_0, qr_1_1, qr_1_2, qr_1_3, qr_1_4, qr_1_5, qr_2_0, qr_2_1, qr_2_2, qr_2_3, qr_2_4, qr_68_0, qr_68_1, qr_91_0, qr_91_1, qr_91_2, qr_91_3, qr_91_4, qr_91_5, qr_91_6, qr_91_7, qr_91_10, qr_91_11, qr_91_14, qr_92_0, qr_92_1, qr_92_2, qr_92_3, qr_92_4, qr_98_0, qr_98_1, qr_107_0, qr_107_1, qr_107_2, qr_476_0, qr_476_1, qr_476_2, e1, e2]
end
