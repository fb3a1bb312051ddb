/-! THE CLASS: a thing is read; closing -/
section
variable {w : Bool} {I : Nat → Nat → Int32} {G : qG} {V : qV} {p B : Nat}
theorem qCV_to {J : Nat → Nat → Int32} {Z : qZ} (hV : qCV I p V) (hZ : qCZ J 107 Z) (hJ : ∀ a, a ≠ 107 → a ≠ 108 → a ≠ 109 → J a = I a) : qCV J p (qTo Z V) := by
  obtain ⟨h1, h2, h3, h4, h5, h6, h7, h8⟩ := hV
  refine ⟨hZ, ?_, ?_, ?_, ?_, ?_, ?_, ?_⟩
  · rw [hJ 103 (by omega) (by omega) (by omega)]; exact h2
  · rw [hJ 92 (by omega) (by omega) (by omega)]; exact h3
  · rw [hJ 93 (by omega) (by omega) (by omega), hJ 94 (by omega) (by omega) (by omega), hJ 95 (by omega) (by omega) (by omega), hJ 96 (by omega) (by omega) (by omega), hJ 97 (by omega) (by omega) (by omega)]; exact h4
  · rw [hJ 91 (by omega) (by omega) (by omega)]; exact h5
  · rw [hJ 91 (by omega) (by omega) (by omega)]; exact h6
  · rw [hJ 101 (by omega) (by omega) (by omega), hJ 102 (by omega) (by omega) (by omega)]; exact h7
  · rw [hJ 91 (by omega) (by omega) (by omega)]; exact h8
theorem qFrC_st {J : Nat → Nat → Int32} (h5 : J 107 5 = I 107 5) (hJ : ∀ a, a ≠ 107 → a ≠ 108 → a ≠ 109 → J a = I a) : qFrC I J := ⟨fun a ha => hJ a (by omega) (by omega) (by omega), by rw [hJ 91 (by omega) (by omega) (by omega)], h5⟩
theorem qVok_err (h : qVok G B V) (hB : B ≤ 4319) : V.2.2.2.2.2.length < 4920 := by
  obtain ⟨h1, h2, h3, h4, h5, h6, h7, h8, h9⟩ := h
  omega
/-- an end tag of the current element is put in -/
theorem cShut (hok : qVok G B V) (hV : qCV I p V) : ∃ J, fX4_leave 107 (qC w I) = some (qn 0, qC w J) ∧ J 91 9 = qn V.2.2.2.1 ∧ qCV (qU J 91 9 (qn (V.2.2.2.1 + 1))) p (qShut V) ∧ qFrC I (qU J 91 9 (qn (V.2.2.2.1 + 1))) := by
  obtain ⟨J, hJ, j1, j2, j3⟩ := cLeave (w := w) qSt_107 hok.1 hV.1
  obtain ⟨h1, h2, h3, h4, h5, h6, h7, h8⟩ := hV
  refine ⟨J, hJ, by rw [j3 91 (by omega)]; exact h5, ⟨?_, ?_, ?_, ?_, ?_, ?_, ?_, ?_⟩, ?_, ?_, ?_⟩
  · exact qCZ_fr j1 (qU_r (by omega)) (qU_r (by omega)) (qU_r (by omega))
  · have : qAll (fun j x => I 103 j = qn x) V.2.1.tail := by
      cases e : V.2.1 with
      | nil => exact True.intro
      | cons a l => rw [e] at h2; exact h2.2
    simp (disch := omega) only [qU_r, j3]; exact this
  · simp (disch := omega) only [qU_r, j3]; exact h3
  · simp (disch := omega) only [qU_r, j3]; exact h4
  · rw [qU_s]; rfl
  · rw [qU_k (by omega), j3 91 (by omega)]; exact h6
  · simp (disch := omega) only [qU_r, j3]; exact h7
  · rw [qU_k (by omega), j3 91 (by omega)]; exact h8
  · intro a ha; rw [qU_r (by omega), j3 a (by omega)]
  · rw [qU_k (by omega), j3 91 (by omega)]
  · rw [qU_r (by omega), j2]
theorem cRead {t l : Nat} (htt : t ≤ 10) (hl : l < 128) (h60 : t < 10 → l = 60) (hp : p ≤ 600) (hg : qGok G) (hB : B ≤ 4319) : ∀ n r put V I m, r + n = 100 → n < m → put ≤ 8 → qCG G I → qVok G B V → qCV I p V → ∀ V', qRead G t l p n put V = some V' → ∃ J, fX2_readThing_5 m 91 (qn t) (qn l) (qn put) (qn r) (qC w I) = some (qn 0, qC w J) ∧ qCV J p V' ∧ qFrC I J := by
  intro n
  induction n with
  | zero => intro r put V I m _ _ _ _ _ _ V' h; cases h
  | succ n ih =>
    intro r put V I m hr hm h8 hG hok hV V' hV'
    obtain ⟨m, rfl⟩ : ∃ m', m = m' + 1 := ⟨m - 1, by omega⟩
    have hz := hok.1
    have hlen := hz.1
    have h300 := hok.2.2.1
    have hZ := hV.1
    have hd := hZ.1
    have hth := hV.2.2.1
    unfold qRead at hV'
    unfold fX2_readThing_5
    by_cases c1 : 300 ≤ V.2.2.1.length ∨ t < 10 ∧ 20 ≤ V.1.1.length
    · rw [if_pos c1] at hV'
      injection hV' with hV'
      subst hV'
      obtain ⟨J, hJ, j1, j2⟩ := cErr (w := w) hV (qVok_err hok hB) 6
      refine ⟨J, ?_, j1, j2⟩
      rcases c1 with c1 | ⟨c1, c2⟩
      · simp (disch := omega) only [↓qlet, eq_self, qzg_t, qzb_some, ↓reduceIte, not_or, not_false_eq_true, not_true_eq_false, and_true, true_and, and_self, or_false, false_or, true_or, or_true, and_false, false_and, qlit, qneg, qof, qn_add, qn_mul, qn_s, qn_z, qn_d, qn_dz, qm_1, qt_1, qt_0, qb_0, qb_1, qb_01, qb01b, q01_0, q01_1, qo_s, qo_n, qn_c, qn_le, qn_lt, qn_eq, qn_ne_m, qm_ne_n, qm_lt, qm_le, qn_lt_m, qn_le_m, qn_sub, qn_div, qn_mod, qle_t, qle_f, qlt_t, qlt_f, qeq_t, qeq_f, Nat.add_sub_cancel, qC_I, qC_s, qU_s, qU_a, qU_k, qk_1, qk_2, qk_3, qk_4, qk_5, qk_6, qk_7, qk_68, qk_69, qk_70, qk_71, qk_72, qk_91, qk_92, qk_93, qk_94, qk_95, qk_96, qk_97, qk_98, qk_99, qk_100, qk_101, qk_102, qk_103, qk_104, qk_105, qk_106, qk_107, qk_108, qk_109, qk_476, qk_477, ql_3, ql_4, ql_5, ql_6, ql_7, ql_69, ql_70, ql_71, ql_72, ql_93, ql_94, ql_95, ql_96, ql_97, ql_99, ql_100, ql_101, ql_102, ql_103, ql_104, ql_105, ql_106, ql_108, ql_109, ql_477, qr_1_0, qr_1_1, qr_1_2, qr_1_3, qr_1_4, qr_1_5, qr_2_0, qr_2_1, qr_2_2, qr_2_3, qr_2_4, qr_68_0, qr_68_1, qr_91_0, qr_91_1, qr_91_2, qr_91_3, qr_91_4, qr_91_5, qr_91_6, qr_91_7, qr_91_10, qr_91_11, qr_91_14, qr_92_0, qr_92_1, qr_92_2, qr_92_3, qr_92_4, qr_98_0, qr_98_1, qr_107_0, qr_107_1, qr_107_2, qr_476_0, qr_476_1, qr_476_2, hth, fX2_readThing_43, hJ]
      · by_cases c3 : 300 ≤ V.2.2.1.length
        · simp (disch := omega) only [↓qlet, eq_self, qzg_t, qzb_some, ↓reduceIte, not_or, not_false_eq_true, not_true_eq_false, and_true, true_and, and_self, or_false, false_or, true_or, or_true, and_false, false_and, qlit, qneg, qof, qn_add, qn_mul, qn_s, qn_z, qn_d, qn_dz, qm_1, qt_1, qt_0, qb_0, qb_1, qb_01, qb01b, q01_0, q01_1, qo_s, qo_n, qn_c, qn_le, qn_lt, qn_eq, qn_ne_m, qm_ne_n, qm_lt, qm_le, qn_lt_m, qn_le_m, qn_sub, qn_div, qn_mod, qle_t, qle_f, qlt_t, qlt_f, qeq_t, qeq_f, Nat.add_sub_cancel, qC_I, qC_s, qU_s, qU_a, qU_k, qk_1, qk_2, qk_3, qk_4, qk_5, qk_6, qk_7, qk_68, qk_69, qk_70, qk_71, qk_72, qk_91, qk_92, qk_93, qk_94, qk_95, qk_96, qk_97, qk_98, qk_99, qk_100, qk_101, qk_102, qk_103, qk_104, qk_105, qk_106, qk_107, qk_108, qk_109, qk_476, qk_477, ql_3, ql_4, ql_5, ql_6, ql_7, ql_69, ql_70, ql_71, ql_72, ql_93, ql_94, ql_95, ql_96, ql_97, ql_99, ql_100, ql_101, ql_102, ql_103, ql_104, ql_105, ql_106, ql_108, ql_109, ql_477, qr_1_0, qr_1_1, qr_1_2, qr_1_3, qr_1_4, qr_1_5, qr_2_0, qr_2_1, qr_2_2, qr_2_3, qr_2_4, qr_68_0, qr_68_1, qr_91_0, qr_91_1, qr_91_2, qr_91_3, qr_91_4, qr_91_5, qr_91_6, qr_91_7, qr_91_10, qr_91_11, qr_91_14, qr_92_0, qr_92_1, qr_92_2, qr_92_3, qr_92_4, qr_98_0, qr_98_1, qr_107_0, qr_107_1, qr_107_2, qr_476_0, qr_476_1, qr_476_2, hth, fX2_readThing_43, hJ]
        · simp (disch := omega) only [↓qlet, eq_self, qzg_t, qzb_some, ↓reduceIte, not_or, not_false_eq_true, not_true_eq_false, and_true, true_and, and_self, or_false, false_or, true_or, or_true, and_false, false_and, qlit, qneg, qof, qn_add, qn_mul, qn_s, qn_z, qn_d, qn_dz, qm_1, qt_1, qt_0, qb_0, qb_1, qb_01, qb01b, q01_0, q01_1, qo_s, qo_n, qn_c, qn_le, qn_lt, qn_eq, qn_ne_m, qm_ne_n, qm_lt, qm_le, qn_lt_m, qn_le_m, qn_sub, qn_div, qn_mod, qle_t, qle_f, qlt_t, qlt_f, qeq_t, qeq_f, Nat.add_sub_cancel, qC_I, qC_s, qU_s, qU_a, qU_k, qk_1, qk_2, qk_3, qk_4, qk_5, qk_6, qk_7, qk_68, qk_69, qk_70, qk_71, qk_72, qk_91, qk_92, qk_93, qk_94, qk_95, qk_96, qk_97, qk_98, qk_99, qk_100, qk_101, qk_102, qk_103, qk_104, qk_105, qk_106, qk_107, qk_108, qk_109, qk_476, qk_477, ql_3, ql_4, ql_5, ql_6, ql_7, ql_69, ql_70, ql_71, ql_72, ql_93, ql_94, ql_95, ql_96, ql_97, ql_99, ql_100, ql_101, ql_102, ql_103, ql_104, ql_105, ql_106, ql_108, ql_109, ql_477, qr_1_0, qr_1_1, qr_1_2, qr_1_3, qr_1_4, qr_1_5, qr_2_0, qr_2_1, qr_2_2, qr_2_3, qr_2_4, qr_68_0, qr_68_1, qr_91_0, qr_91_1, qr_91_2, qr_91_3, qr_91_4, qr_91_5, qr_91_6, qr_91_7, qr_91_10, qr_91_11, qr_91_14, qr_92_0, qr_92_1, qr_92_2, qr_92_3, qr_92_4, qr_98_0, qr_98_1, qr_107_0, qr_107_1, qr_107_2, qr_476_0, qr_476_1, qr_476_2, hth, hd, fX2_readThing_43, hJ]
    · rw [if_neg c1] at hV'
      have ht : V.2.2.1.length < 300 := by omega
      obtain ⟨J1, hA, hZ1, hJ1⟩ := cAcc (w := w) qSt_107 hG hg hz hZ (t := t) htt
      have f1 : qFrC I J1 := qFrC_st (by rw [hJ1 107 (by omega)]) fun a h1 h2 h3 => hJ1 a h3
      have hV1 := qCV_to hV hZ1 fun a h1 h2 h3 => hJ1 a h3
      have hG1 := qFrC_G f1 hG
      -- down to the acceptance
      have hstep : (if (100 : Int32) ≤ qn r then some (0, qC w I) else zg (zk (qC w I) 91 = 2) (zg (zk (qC w I) (zR (qC w I) 91 4) = 5) (if 300 ≤ (zI (qC w I) (zR (qC w I) 91 4) 5) then fX2_readThing_43 91 (qC w I) else if qn t = 10 then fX2_readThing_50 (fX2_readThing_5 m) 91 (qn t) (qn l) (qn put) (qn r) (qC w I) else zg (zk (qC w I) (zR (qC w I) 91 10) = 4) (if (zI (qC w I) (zR (qC w I) 91 10) 3) < 20 then fX2_readThing_50 (fX2_readThing_5 m) 91 (qn t) (qn l) (qn put) (qn r) (qC w I) else fX2_readThing_43 91 (qC w I))))) = fX2_readThing_50 (fX2_readThing_5 m) 91 (qn t) (qn l) (qn put) (qn r) (qC w I) := by
        by_cases c2 : t = 10
        · simp (disch := omega) only [↓qlet, eq_self, qzg_t, qzb_some, ↓reduceIte, not_or, not_false_eq_true, not_true_eq_false, and_true, true_and, and_self, or_false, false_or, true_or, or_true, and_false, false_and, qlit, qneg, qof, qn_add, qn_mul, qn_s, qn_z, qn_d, qn_dz, qm_1, qt_1, qt_0, qb_0, qb_1, qb_01, qb01b, q01_0, q01_1, qo_s, qo_n, qn_c, qn_le, qn_lt, qn_eq, qn_ne_m, qm_ne_n, qm_lt, qm_le, qn_lt_m, qn_le_m, qn_sub, qn_div, qn_mod, qle_t, qle_f, qlt_t, qlt_f, qeq_t, qeq_f, Nat.add_sub_cancel, qC_I, qC_s, qU_s, qU_a, qU_k, qk_1, qk_2, qk_3, qk_4, qk_5, qk_6, qk_7, qk_68, qk_69, qk_70, qk_71, qk_72, qk_91, qk_92, qk_93, qk_94, qk_95, qk_96, qk_97, qk_98, qk_99, qk_100, qk_101, qk_102, qk_103, qk_104, qk_105, qk_106, qk_107, qk_108, qk_109, qk_476, qk_477, ql_3, ql_4, ql_5, ql_6, ql_7, ql_69, ql_70, ql_71, ql_72, ql_93, ql_94, ql_95, ql_96, ql_97, ql_99, ql_100, ql_101, ql_102, ql_103, ql_104, ql_105, ql_106, ql_108, ql_109, ql_477, qr_1_0, qr_1_1, qr_1_2, qr_1_3, qr_1_4, qr_1_5, qr_2_0, qr_2_1, qr_2_2, qr_2_3, qr_2_4, qr_68_0, qr_68_1, qr_91_0, qr_91_1, qr_91_2, qr_91_3, qr_91_4, qr_91_5, qr_91_6, qr_91_7, qr_91_10, qr_91_11, qr_91_14, qr_92_0, qr_92_1, qr_92_2, qr_92_3, qr_92_4, qr_98_0, qr_98_1, qr_107_0, qr_107_1, qr_107_2, qr_476_0, qr_476_1, qr_476_2, hth]
        · simp (disch := omega) only [↓qlet, eq_self, qzg_t, qzb_some, ↓reduceIte, not_or, not_false_eq_true, not_true_eq_false, and_true, true_and, and_self, or_false, false_or, true_or, or_true, and_false, false_and, qlit, qneg, qof, qn_add, qn_mul, qn_s, qn_z, qn_d, qn_dz, qm_1, qt_1, qt_0, qb_0, qb_1, qb_01, qb01b, q01_0, q01_1, qo_s, qo_n, qn_c, qn_le, qn_lt, qn_eq, qn_ne_m, qm_ne_n, qm_lt, qm_le, qn_lt_m, qn_le_m, qn_sub, qn_div, qn_mod, qle_t, qle_f, qlt_t, qlt_f, qeq_t, qeq_f, Nat.add_sub_cancel, qC_I, qC_s, qU_s, qU_a, qU_k, qk_1, qk_2, qk_3, qk_4, qk_5, qk_6, qk_7, qk_68, qk_69, qk_70, qk_71, qk_72, qk_91, qk_92, qk_93, qk_94, qk_95, qk_96, qk_97, qk_98, qk_99, qk_100, qk_101, qk_102, qk_103, qk_104, qk_105, qk_106, qk_107, qk_108, qk_109, qk_476, qk_477, ql_3, ql_4, ql_5, ql_6, ql_7, ql_69, ql_70, ql_71, ql_72, ql_93, ql_94, ql_95, ql_96, ql_97, ql_99, ql_100, ql_101, ql_102, ql_103, ql_104, ql_105, ql_106, ql_108, ql_109, ql_477, qr_1_0, qr_1_1, qr_1_2, qr_1_3, qr_1_4, qr_1_5, qr_2_0, qr_2_1, qr_2_2, qr_2_3, qr_2_4, qr_68_0, qr_68_1, qr_91_0, qr_91_1, qr_91_2, qr_91_3, qr_91_4, qr_91_5, qr_91_6, qr_91_7, qr_91_10, qr_91_11, qr_91_14, qr_92_0, qr_92_1, qr_92_2, qr_92_3, qr_92_4, qr_98_0, qr_98_1, qr_107_0, qr_107_1, qr_107_2, qr_476_0, qr_476_1, qr_476_2, hth, hd]
      rw [hstep]
      unfold fX2_readThing_50
      cases ha : qAcc G V.1 t with
      | some Z =>
        rw [ha] at hV' hA hV1 hZ1
        injection hV' with hV'
        have hT := qTo_ok hok ha
        have hlen2 := (qAcc_ok hz ha).2.1
        by_cases c2 : t < 10
        · rw [if_pos c2] at hV'
          subst hV'
          have e60 := h60 c2
          obtain ⟨J, hJ, j1, j2⟩ := cOpen (w := w) hG1 hg hT.2.1 hT.1 hT.2.2.2.2.2.1 hV1 ht c2 (by show Z.1.length < 20; omega) false
          refine ⟨J, ?_, ?_, qFrC_tr f1 j2⟩
          · simp (disch := omega) only [↓qlet, eq_self, qzg_t, qzb_some, ↓reduceIte, not_or, not_false_eq_true, not_true_eq_false, and_true, true_and, and_self, or_false, false_or, true_or, or_true, and_false, false_and, qlit, qneg, qof, qn_add, qn_mul, qn_s, qn_z, qn_d, qn_dz, qm_1, qt_1, qt_0, qb_0, qb_1, qb_01, qb01b, q01_0, q01_1, qo_s, qo_n, qn_c, qn_le, qn_lt, qn_eq, qn_ne_m, qm_ne_n, qm_lt, qm_le, qn_lt_m, qn_le_m, qn_sub, qn_div, qn_mod, qle_t, qle_f, qlt_t, qlt_f, qeq_t, qeq_f, Nat.add_sub_cancel, qC_I, qC_s, qU_s, qU_a, qU_k, qk_1, qk_2, qk_3, qk_4, qk_5, qk_6, qk_7, qk_68, qk_69, qk_70, qk_71, qk_72, qk_91, qk_92, qk_93, qk_94, qk_95, qk_96, qk_97, qk_98, qk_99, qk_100, qk_101, qk_102, qk_103, qk_104, qk_105, qk_106, qk_107, qk_108, qk_109, qk_476, qk_477, ql_3, ql_4, ql_5, ql_6, ql_7, ql_69, ql_70, ql_71, ql_72, ql_93, ql_94, ql_95, ql_96, ql_97, ql_99, ql_100, ql_101, ql_102, ql_103, ql_104, ql_105, ql_106, ql_108, ql_109, ql_477, qr_1_0, qr_1_1, qr_1_2, qr_1_3, qr_1_4, qr_1_5, qr_2_0, qr_2_1, qr_2_2, qr_2_3, qr_2_4, qr_68_0, qr_68_1, qr_91_0, qr_91_1, qr_91_2, qr_91_3, qr_91_4, qr_91_5, qr_91_6, qr_91_7, qr_91_10, qr_91_11, qr_91_14, qr_92_0, qr_92_1, qr_92_2, qr_92_3, qr_92_4, qr_98_0, qr_98_1, qr_107_0, qr_107_1, qr_107_2, qr_476_0, qr_476_1, qr_476_2, hA, Option.isSome_some, qb_t, fX2_readThing_61, e60]
            rw [qb_f] at hJ
            simp (disch := omega) only [↓qlet, eq_self, qzg_t, qzb_some, ↓reduceIte, not_or, not_false_eq_true, not_true_eq_false, and_true, true_and, and_self, or_false, false_or, true_or, or_true, and_false, false_and, qlit, qneg, qof, qn_add, qn_mul, qn_s, qn_z, qn_d, qn_dz, qm_1, qt_1, qt_0, qb_0, qb_1, qb_01, qb01b, q01_0, q01_1, qo_s, qo_n, qn_c, qn_le, qn_lt, qn_eq, qn_ne_m, qm_ne_n, qm_lt, qm_le, qn_lt_m, qn_le_m, qn_sub, qn_div, qn_mod, qle_t, qle_f, qlt_t, qlt_f, qeq_t, qeq_f, Nat.add_sub_cancel, qC_I, qC_s, qU_s, qU_a, qU_k, qk_1, qk_2, qk_3, qk_4, qk_5, qk_6, qk_7, qk_68, qk_69, qk_70, qk_71, qk_72, qk_91, qk_92, qk_93, qk_94, qk_95, qk_96, qk_97, qk_98, qk_99, qk_100, qk_101, qk_102, qk_103, qk_104, qk_105, qk_106, qk_107, qk_108, qk_109, qk_476, qk_477, ql_3, ql_4, ql_5, ql_6, ql_7, ql_69, ql_70, ql_71, ql_72, ql_93, ql_94, ql_95, ql_96, ql_97, ql_99, ql_100, ql_101, ql_102, ql_103, ql_104, ql_105, ql_106, ql_108, ql_109, ql_477, qr_1_0, qr_1_1, qr_1_2, qr_1_3, qr_1_4, qr_1_5, qr_2_0, qr_2_1, qr_2_2, qr_2_3, qr_2_4, qr_68_0, qr_68_1, qr_91_0, qr_91_1, qr_91_2, qr_91_3, qr_91_4, qr_91_5, qr_91_6, qr_91_7, qr_91_10, qr_91_11, qr_91_14, qr_92_0, qr_92_1, qr_92_2, qr_92_3, qr_92_4, qr_98_0, qr_98_1, qr_107_0, qr_107_1, qr_107_2, qr_476_0, qr_476_1, qr_476_2, hJ]
          · exact j1
        · rw [if_neg c2] at hV'
          subst hV'
          have e10 : t = 10 := by omega
          subst e10
          obtain ⟨J, hJ, j1, j2⟩ := cPut (w := w) hT.2.1 hT.1 hT.2.2.2.2.2.1 hV1 ht hl false
          refine ⟨J, ?_, j1, qFrC_tr f1 j2⟩
          simp (disch := omega) only [↓qlet, eq_self, qzg_t, qzb_some, ↓reduceIte, not_or, not_false_eq_true, not_true_eq_false, and_true, true_and, and_self, or_false, false_or, true_or, or_true, and_false, false_and, qlit, qneg, qof, qn_add, qn_mul, qn_s, qn_z, qn_d, qn_dz, qm_1, qt_1, qt_0, qb_0, qb_1, qb_01, qb01b, q01_0, q01_1, qo_s, qo_n, qn_c, qn_le, qn_lt, qn_eq, qn_ne_m, qm_ne_n, qm_lt, qm_le, qn_lt_m, qn_le_m, qn_sub, qn_div, qn_mod, qle_t, qle_f, qlt_t, qlt_f, qeq_t, qeq_f, Nat.add_sub_cancel, qC_I, qC_s, qU_s, qU_a, qU_k, qk_1, qk_2, qk_3, qk_4, qk_5, qk_6, qk_7, qk_68, qk_69, qk_70, qk_71, qk_72, qk_91, qk_92, qk_93, qk_94, qk_95, qk_96, qk_97, qk_98, qk_99, qk_100, qk_101, qk_102, qk_103, qk_104, qk_105, qk_106, qk_107, qk_108, qk_109, qk_476, qk_477, ql_3, ql_4, ql_5, ql_6, ql_7, ql_69, ql_70, ql_71, ql_72, ql_93, ql_94, ql_95, ql_96, ql_97, ql_99, ql_100, ql_101, ql_102, ql_103, ql_104, ql_105, ql_106, ql_108, ql_109, ql_477, qr_1_0, qr_1_1, qr_1_2, qr_1_3, qr_1_4, qr_1_5, qr_2_0, qr_2_1, qr_2_2, qr_2_3, qr_2_4, qr_68_0, qr_68_1, qr_91_0, qr_91_1, qr_91_2, qr_91_3, qr_91_4, qr_91_5, qr_91_6, qr_91_7, qr_91_10, qr_91_11, qr_91_14, qr_92_0, qr_92_1, qr_92_2, qr_92_3, qr_92_4, qr_98_0, qr_98_1, qr_107_0, qr_107_1, qr_107_2, qr_476_0, qr_476_1, qr_476_2, hA, Option.isSome_some, qb_t, fX2_readThing_61]
          rw [qb_f] at hJ
          simp (disch := omega) only [↓qlet, eq_self, qzg_t, qzb_some, ↓reduceIte, not_or, not_false_eq_true, not_true_eq_false, and_true, true_and, and_self, or_false, false_or, true_or, or_true, and_false, false_and, qlit, qneg, qof, qn_add, qn_mul, qn_s, qn_z, qn_d, qn_dz, qm_1, qt_1, qt_0, qb_0, qb_1, qb_01, qb01b, q01_0, q01_1, qo_s, qo_n, qn_c, qn_le, qn_lt, qn_eq, qn_ne_m, qm_ne_n, qm_lt, qm_le, qn_lt_m, qn_le_m, qn_sub, qn_div, qn_mod, qle_t, qle_f, qlt_t, qlt_f, qeq_t, qeq_f, Nat.add_sub_cancel, qC_I, qC_s, qU_s, qU_a, qU_k, qk_1, qk_2, qk_3, qk_4, qk_5, qk_6, qk_7, qk_68, qk_69, qk_70, qk_71, qk_72, qk_91, qk_92, qk_93, qk_94, qk_95, qk_96, qk_97, qk_98, qk_99, qk_100, qk_101, qk_102, qk_103, qk_104, qk_105, qk_106, qk_107, qk_108, qk_109, qk_476, qk_477, ql_3, ql_4, ql_5, ql_6, ql_7, ql_69, ql_70, ql_71, ql_72, ql_93, ql_94, ql_95, ql_96, ql_97, ql_99, ql_100, ql_101, ql_102, ql_103, ql_104, ql_105, ql_106, ql_108, ql_109, ql_477, qr_1_0, qr_1_1, qr_1_2, qr_1_3, qr_1_4, qr_1_5, qr_2_0, qr_2_1, qr_2_2, qr_2_3, qr_2_4, qr_68_0, qr_68_1, qr_91_0, qr_91_1, qr_91_2, qr_91_3, qr_91_4, qr_91_5, qr_91_6, qr_91_7, qr_91_10, qr_91_11, qr_91_14, qr_92_0, qr_92_1, qr_92_2, qr_92_3, qr_92_4, qr_98_0, qr_98_1, qr_107_0, qr_107_1, qr_107_2, qr_476_0, qr_476_1, qr_476_2, hJ]
      | none =>
        rw [ha] at hV' hA hV1
        have hV1 : qCV J1 p V := hV1
        have hZ1 := hV1.1
        have hla := hZ1.2.1
        have hd1 := hZ1.1
        have hW := cWant (w := w) qSt_107 hG1 hg hz hZ1
        have hM := cMay (w := w) qSt_107 hG1 hg hz hZ1
        obtain ⟨wt, hwt⟩ : ∃ wt, wt = (if put < 8 then qWant G V.1 else none) := ⟨_, rfl⟩
        rw [← hwt] at hV'
        have hs2 : (zg (zk (qC w I) 91 = 2) (zg (zk (qC w I) (zR (qC w I) 91 10) = 4) (zb (fX4_accept (zR (qC w I) 91 10) (qn t) (qC w I)) fun r49 M50 => (if r49 = 0 then if 8 ≤ qn put then fX2_readThing_86 (fX2_readThing_5 m) 91 (qn t) (qn l) (qn put) (qn r) (-1) M50 else zg (zk M50 91 = 2) (zg (zk M50 (zR M50 91 10) = 4) (zb (fX4_elementToPutIn (zR M50 91 10) M50) fun r56 M57 => (fX2_readThing_86 (fX2_readThing_5 m) 91 (qn t) (qn l) (qn put) (qn r) r56 M57))) else fX2_readThing_61 91 (qn t) (qn l) M50)))) = fX2_readThing_86 (fX2_readThing_5 m) 91 (qn t) (qn l) (qn put) (qn r) (qo wt) (qC w J1) := by
          by_cases c3 : put < 8
          · rw [if_pos c3] at hwt
            simp (disch := omega) only [↓qlet, eq_self, qzg_t, qzb_some, ↓reduceIte, not_or, not_false_eq_true, not_true_eq_false, and_true, true_and, and_self, or_false, false_or, true_or, or_true, and_false, false_and, qlit, qneg, qof, qn_add, qn_mul, qn_s, qn_z, qn_d, qn_dz, qm_1, qt_1, qt_0, qb_0, qb_1, qb_01, qb01b, q01_0, q01_1, qo_s, qo_n, qn_c, qn_le, qn_lt, qn_eq, qn_ne_m, qm_ne_n, qm_lt, qm_le, qn_lt_m, qn_le_m, qn_sub, qn_div, qn_mod, qle_t, qle_f, qlt_t, qlt_f, qeq_t, qeq_f, Nat.add_sub_cancel, qC_I, qC_s, qU_s, qU_a, qU_k, qk_1, qk_2, qk_3, qk_4, qk_5, qk_6, qk_7, qk_68, qk_69, qk_70, qk_71, qk_72, qk_91, qk_92, qk_93, qk_94, qk_95, qk_96, qk_97, qk_98, qk_99, qk_100, qk_101, qk_102, qk_103, qk_104, qk_105, qk_106, qk_107, qk_108, qk_109, qk_476, qk_477, ql_3, ql_4, ql_5, ql_6, ql_7, ql_69, ql_70, ql_71, ql_72, ql_93, ql_94, ql_95, ql_96, ql_97, ql_99, ql_100, ql_101, ql_102, ql_103, ql_104, ql_105, ql_106, ql_108, ql_109, ql_477, qr_1_0, qr_1_1, qr_1_2, qr_1_3, qr_1_4, qr_1_5, qr_2_0, qr_2_1, qr_2_2, qr_2_3, qr_2_4, qr_68_0, qr_68_1, qr_91_0, qr_91_1, qr_91_2, qr_91_3, qr_91_4, qr_91_5, qr_91_6, qr_91_7, qr_91_10, qr_91_11, qr_91_14, qr_92_0, qr_92_1, qr_92_2, qr_92_3, qr_92_4, qr_98_0, qr_98_1, qr_107_0, qr_107_1, qr_107_2, qr_476_0, qr_476_1, qr_476_2, hA, Option.isSome_none, qb_f, hW, hwt]
          · rw [if_neg c3] at hwt
            subst hwt
            simp (disch := omega) only [↓qlet, eq_self, qzg_t, qzb_some, ↓reduceIte, not_or, not_false_eq_true, not_true_eq_false, and_true, true_and, and_self, or_false, false_or, true_or, or_true, and_false, false_and, qlit, qneg, qof, qn_add, qn_mul, qn_s, qn_z, qn_d, qn_dz, qm_1, qt_1, qt_0, qb_0, qb_1, qb_01, qb01b, q01_0, q01_1, qo_s, qo_n, qn_c, qn_le, qn_lt, qn_eq, qn_ne_m, qm_ne_n, qm_lt, qm_le, qn_lt_m, qn_le_m, qn_sub, qn_div, qn_mod, qle_t, qle_f, qlt_t, qlt_f, qeq_t, qeq_f, Nat.add_sub_cancel, qC_I, qC_s, qU_s, qU_a, qU_k, qk_1, qk_2, qk_3, qk_4, qk_5, qk_6, qk_7, qk_68, qk_69, qk_70, qk_71, qk_72, qk_91, qk_92, qk_93, qk_94, qk_95, qk_96, qk_97, qk_98, qk_99, qk_100, qk_101, qk_102, qk_103, qk_104, qk_105, qk_106, qk_107, qk_108, qk_109, qk_476, qk_477, ql_3, ql_4, ql_5, ql_6, ql_7, ql_69, ql_70, ql_71, ql_72, ql_93, ql_94, ql_95, ql_96, ql_97, ql_99, ql_100, ql_101, ql_102, ql_103, ql_104, ql_105, ql_106, ql_108, ql_109, ql_477, qr_1_0, qr_1_1, qr_1_2, qr_1_3, qr_1_4, qr_1_5, qr_2_0, qr_2_1, qr_2_2, qr_2_3, qr_2_4, qr_68_0, qr_68_1, qr_91_0, qr_91_1, qr_91_2, qr_91_3, qr_91_4, qr_91_5, qr_91_6, qr_91_7, qr_91_10, qr_91_11, qr_91_14, qr_92_0, qr_92_1, qr_92_2, qr_92_3, qr_92_4, qr_98_0, qr_98_1, qr_107_0, qr_107_1, qr_107_2, qr_476_0, qr_476_1, qr_476_2, hA, Option.isSome_none, qb_f]
        rw [hs2]
        unfold fX2_readThing_86
        have hA0 := (hG1 0 (by omega)).2.2.2.2.2.1
        have hnext : ∀ (M : zM) (put' : Nat), fX2_readThing_189 (fX2_readThing_5 m) 91 (qn t) (qn l) (qn put') (qn r) M = fX2_readThing_5 m 91 (qn t) (qn l) (qn put') (qn (r + 1)) M := by
          intro M put'
          unfold fX2_readThing_189
          simp only [↓qlet, qlit, qn_add]
        have hlam : (qo V.1.2 = qm) = (V.1.2 = none) := qo_m _ fun x hx => by have := hz.2.2.1 x hx; omega
        by_cases c2 : V.1.2 = none ∧ qgA G 0 = true
        · rw [if_pos c2] at hV'
          have e0 := hz.2.2.2 c2.1
          obtain ⟨J, hJ, j1, j2⟩ := cOpen (w := w) hG1 hg hok.2.1 hz hok.2.2.2.2.2.1 hV1 ht (e := 0) (by omega) (by rw [e0]; simp) true
          obtain ⟨K, hK, k1, k2⟩ := ih (r + 1) put _ J m (by omega) (by omega) h8 (qFrC_G j2 hG1) (qOpen_ok hok ht (by omega) (by rw [e0]; simp) hp true) j1 V' hV'
          refine ⟨K, ?_, k1, qFrC_tr f1 (qFrC_tr j2 k2)⟩
          rw [qb_t] at hJ
          simp (disch := omega) only [↓qlet, eq_self, qzg_t, qzb_some, ↓reduceIte, not_or, not_false_eq_true, not_true_eq_false, and_true, true_and, and_self, or_false, false_or, true_or, or_true, and_false, false_and, qlit, qneg, qof, qn_add, qn_mul, qn_s, qn_z, qn_d, qn_dz, qm_1, qt_1, qt_0, qb_0, qb_1, qb_01, qb01b, q01_0, q01_1, qo_s, qo_n, qn_c, qn_le, qn_lt, qn_eq, qn_ne_m, qm_ne_n, qm_lt, qm_le, qn_lt_m, qn_le_m, qn_sub, qn_div, qn_mod, qle_t, qle_f, qlt_t, qlt_f, qeq_t, qeq_f, Nat.add_sub_cancel, qC_I, qC_s, qU_s, qU_a, qU_k, qk_1, qk_2, qk_3, qk_4, qk_5, qk_6, qk_7, qk_68, qk_69, qk_70, qk_71, qk_72, qk_91, qk_92, qk_93, qk_94, qk_95, qk_96, qk_97, qk_98, qk_99, qk_100, qk_101, qk_102, qk_103, qk_104, qk_105, qk_106, qk_107, qk_108, qk_109, qk_476, qk_477, ql_3, ql_4, ql_5, ql_6, ql_7, ql_69, ql_70, ql_71, ql_72, ql_93, ql_94, ql_95, ql_96, ql_97, ql_99, ql_100, ql_101, ql_102, ql_103, ql_104, ql_105, ql_106, ql_108, ql_109, ql_477, qr_1_0, qr_1_1, qr_1_2, qr_1_3, qr_1_4, qr_1_5, qr_2_0, qr_2_1, qr_2_2, qr_2_3, qr_2_4, qr_68_0, qr_68_1, qr_91_0, qr_91_1, qr_91_2, qr_91_3, qr_91_4, qr_91_5, qr_91_6, qr_91_7, qr_91_10, qr_91_11, qr_91_14, qr_92_0, qr_92_1, qr_92_2, qr_92_3, qr_92_4, qr_98_0, qr_98_1, qr_107_0, qr_107_1, qr_107_2, qr_476_0, qr_476_1, qr_476_2, hla, c2.1, hA0, c2.2, qb_t, hJ, hnext, hK]
        · rw [if_neg c2] at hV'
          have hs3 : (zg (zk (qC w J1) 91 = 2) (zg (zk (qC w J1) (zR (qC w J1) 91 10) = 4) (if (zI (qC w J1) (zR (qC w J1) 91 10) 4) = (-1) then zg (zk (qC w J1) (zR (qC w J1) 91 0) = 0) (zg (zk (qC w J1) (zR (qC w J1) (zR (qC w J1) 91 0) 3) = 101) (zg (¬ ((0 : Int32) < 0 ∨ zl (qC w J1) (zR (qC w J1) (zR (qC w J1) 91 0) 3) ≤ (0 : Int32).toNatClampNeg)) (if (zI (qC w J1) (zR (qC w J1) (zR (qC w J1) 91 0) 3) (0 : Int32).toNatClampNeg) = 0 then fX2_readThing_122 (fX2_readThing_5 m) 91 (qn t) (qn l) (qn put) (qn r) (qo wt) (qC w J1) else zb (fX2_addThing 91 0 60 1 (qC w J1)) fun r40 M41 => (fX2_readThing_189 (fX2_readThing_5 m) 91 (qn t) (qn l) (qn put) (qn r) M41)))) else fX2_readThing_122 (fX2_readThing_5 m) 91 (qn t) (qn l) (qn put) (qn r) (qo wt) (qC w J1)))) = fX2_readThing_122 (fX2_readThing_5 m) 91 (qn t) (qn l) (qn put) (qn r) (qo wt) (qC w J1) := by
            by_cases c3 : V.1.2 = none
            · have c4 : qgA G 0 = false := by
                cases hc : qgA G 0
                · rfl
                · exact absurd ⟨c3, hc⟩ c2
              simp (disch := omega) only [↓qlet, eq_self, qzg_t, qzb_some, ↓reduceIte, not_or, not_false_eq_true, not_true_eq_false, and_true, true_and, and_self, or_false, false_or, true_or, or_true, and_false, false_and, qlit, qneg, qof, qn_add, qn_mul, qn_s, qn_z, qn_d, qn_dz, qm_1, qt_1, qt_0, qb_0, qb_1, qb_01, qb01b, q01_0, q01_1, qo_s, qo_n, qn_c, qn_le, qn_lt, qn_eq, qn_ne_m, qm_ne_n, qm_lt, qm_le, qn_lt_m, qn_le_m, qn_sub, qn_div, qn_mod, qle_t, qle_f, qlt_t, qlt_f, qeq_t, qeq_f, Nat.add_sub_cancel, qC_I, qC_s, qU_s, qU_a, qU_k, qk_1, qk_2, qk_3, qk_4, qk_5, qk_6, qk_7, qk_68, qk_69, qk_70, qk_71, qk_72, qk_91, qk_92, qk_93, qk_94, qk_95, qk_96, qk_97, qk_98, qk_99, qk_100, qk_101, qk_102, qk_103, qk_104, qk_105, qk_106, qk_107, qk_108, qk_109, qk_476, qk_477, ql_3, ql_4, ql_5, ql_6, ql_7, ql_69, ql_70, ql_71, ql_72, ql_93, ql_94, ql_95, ql_96, ql_97, ql_99, ql_100, ql_101, ql_102, ql_103, ql_104, ql_105, ql_106, ql_108, ql_109, ql_477, qr_1_0, qr_1_1, qr_1_2, qr_1_3, qr_1_4, qr_1_5, qr_2_0, qr_2_1, qr_2_2, qr_2_3, qr_2_4, qr_68_0, qr_68_1, qr_91_0, qr_91_1, qr_91_2, qr_91_3, qr_91_4, qr_91_5, qr_91_6, qr_91_7, qr_91_10, qr_91_11, qr_91_14, qr_92_0, qr_92_1, qr_92_2, qr_92_3, qr_92_4, qr_98_0, qr_98_1, qr_107_0, qr_107_1, qr_107_2, qr_476_0, qr_476_1, qr_476_2, hla, c3, hA0, c4, qb_f]
            · simp (disch := omega) only [↓qlet, eq_self, qzg_t, qzb_some, ↓reduceIte, not_or, not_false_eq_true, not_true_eq_false, and_true, true_and, and_self, or_false, false_or, true_or, or_true, and_false, false_and, qlit, qneg, qof, qn_add, qn_mul, qn_s, qn_z, qn_d, qn_dz, qm_1, qt_1, qt_0, qb_0, qb_1, qb_01, qb01b, q01_0, q01_1, qo_s, qo_n, qn_c, qn_le, qn_lt, qn_eq, qn_ne_m, qm_ne_n, qm_lt, qm_le, qn_lt_m, qn_le_m, qn_sub, qn_div, qn_mod, qle_t, qle_f, qlt_t, qlt_f, qeq_t, qeq_f, Nat.add_sub_cancel, qC_I, qC_s, qU_s, qU_a, qU_k, qk_1, qk_2, qk_3, qk_4, qk_5, qk_6, qk_7, qk_68, qk_69, qk_70, qk_71, qk_72, qk_91, qk_92, qk_93, qk_94, qk_95, qk_96, qk_97, qk_98, qk_99, qk_100, qk_101, qk_102, qk_103, qk_104, qk_105, qk_106, qk_107, qk_108, qk_109, qk_476, qk_477, ql_3, ql_4, ql_5, ql_6, ql_7, ql_69, ql_70, ql_71, ql_72, ql_93, ql_94, ql_95, ql_96, ql_97, ql_99, ql_100, ql_101, ql_102, ql_103, ql_104, ql_105, ql_106, ql_108, ql_109, ql_477, qr_1_0, qr_1_1, qr_1_2, qr_1_3, qr_1_4, qr_1_5, qr_2_0, qr_2_1, qr_2_2, qr_2_3, qr_2_4, qr_68_0, qr_68_1, qr_91_0, qr_91_1, qr_91_2, qr_91_3, qr_91_4, qr_91_5, qr_91_6, qr_91_7, qr_91_10, qr_91_11, qr_91_14, qr_92_0, qr_92_1, qr_92_2, qr_92_3, qr_92_4, qr_98_0, qr_98_1, qr_107_0, qr_107_1, qr_107_2, qr_476_0, qr_476_1, qr_476_2, hla, hlam, c3]
          rw [hs3]
          unfold fX2_readThing_122
          cases wt with
          | none =>
            dsimp only at hV'
            cases c3 : qMay G V.1 with
            | true =>
              rw [if_pos c3] at hV'
              have hm := qMay_len c3
              obtain ⟨J, hJ, j0, j1, j2⟩ := cShut (w := w) hok hV1
              obtain ⟨K, hK, k1, k2⟩ := ih (r + 1) put _ _ m (by omega) (by omega) h8 (qFrC_G j2 hG1) (qShut_ok hok (by omega)) j1 V' hV'
              refine ⟨K, ?_, k1, qFrC_tr f1 (qFrC_tr j2 k2)⟩
              simp (disch := omega) only [↓qlet, eq_self, qzg_t, qzb_some, ↓reduceIte, not_or, not_false_eq_true, not_true_eq_false, and_true, true_and, and_self, or_false, false_or, true_or, or_true, and_false, false_and, qlit, qneg, qof, qn_add, qn_mul, qn_s, qn_z, qn_d, qn_dz, qm_1, qt_1, qt_0, qb_0, qb_1, qb_01, qb01b, q01_0, q01_1, qo_s, qo_n, qn_c, qn_le, qn_lt, qn_eq, qn_ne_m, qm_ne_n, qm_lt, qm_le, qn_lt_m, qn_le_m, qn_sub, qn_div, qn_mod, qle_t, qle_f, qlt_t, qlt_f, qeq_t, qeq_f, Nat.add_sub_cancel, qC_I, qC_s, qU_s, qU_a, qU_k, qk_1, qk_2, qk_3, qk_4, qk_5, qk_6, qk_7, qk_68, qk_69, qk_70, qk_71, qk_72, qk_91, qk_92, qk_93, qk_94, qk_95, qk_96, qk_97, qk_98, qk_99, qk_100, qk_101, qk_102, qk_103, qk_104, qk_105, qk_106, qk_107, qk_108, qk_109, qk_476, qk_477, ql_3, ql_4, ql_5, ql_6, ql_7, ql_69, ql_70, ql_71, ql_72, ql_93, ql_94, ql_95, ql_96, ql_97, ql_99, ql_100, ql_101, ql_102, ql_103, ql_104, ql_105, ql_106, ql_108, ql_109, ql_477, qr_1_0, qr_1_1, qr_1_2, qr_1_3, qr_1_4, qr_1_5, qr_2_0, qr_2_1, qr_2_2, qr_2_3, qr_2_4, qr_68_0, qr_68_1, qr_91_0, qr_91_1, qr_91_2, qr_91_3, qr_91_4, qr_91_5, qr_91_6, qr_91_7, qr_91_10, qr_91_11, qr_91_14, qr_92_0, qr_92_1, qr_92_2, qr_92_3, qr_92_4, qr_98_0, qr_98_1, qr_107_0, qr_107_1, qr_107_2, qr_476_0, qr_476_1, qr_476_2, hM, c3, qb_t, hJ, j0, hnext, hK]
            | false =>
              rw [if_neg (by rw [c3]; decide)] at hV'
              injection hV' with hV'
              subst hV'
              obtain ⟨J, hJ, j1, j2⟩ := cErr (w := w) hV1 (qVok_err hok hB) 0
              refine ⟨J, ?_, j1, qFrC_tr f1 j2⟩
              simp (disch := omega) only [↓qlet, eq_self, qzg_t, qzb_some, ↓reduceIte, not_or, not_false_eq_true, not_true_eq_false, and_true, true_and, and_self, or_false, false_or, true_or, or_true, and_false, false_and, qlit, qneg, qof, qn_add, qn_mul, qn_s, qn_z, qn_d, qn_dz, qm_1, qt_1, qt_0, qb_0, qb_1, qb_01, qb01b, q01_0, q01_1, qo_s, qo_n, qn_c, qn_le, qn_lt, qn_eq, qn_ne_m, qm_ne_n, qm_lt, qm_le, qn_lt_m, qn_le_m, qn_sub, qn_div, qn_mod, qle_t, qle_f, qlt_t, qlt_f, qeq_t, qeq_f, Nat.add_sub_cancel, qC_I, qC_s, qU_s, qU_a, qU_k, qk_1, qk_2, qk_3, qk_4, qk_5, qk_6, qk_7, qk_68, qk_69, qk_70, qk_71, qk_72, qk_91, qk_92, qk_93, qk_94, qk_95, qk_96, qk_97, qk_98, qk_99, qk_100, qk_101, qk_102, qk_103, qk_104, qk_105, qk_106, qk_107, qk_108, qk_109, qk_476, qk_477, ql_3, ql_4, ql_5, ql_6, ql_7, ql_69, ql_70, ql_71, ql_72, ql_93, ql_94, ql_95, ql_96, ql_97, ql_99, ql_100, ql_101, ql_102, ql_103, ql_104, ql_105, ql_106, ql_108, ql_109, ql_477, qr_1_0, qr_1_1, qr_1_2, qr_1_3, qr_1_4, qr_1_5, qr_2_0, qr_2_1, qr_2_2, qr_2_3, qr_2_4, qr_68_0, qr_68_1, qr_91_0, qr_91_1, qr_91_2, qr_91_3, qr_91_4, qr_91_5, qr_91_6, qr_91_7, qr_91_10, qr_91_11, qr_91_14, qr_92_0, qr_92_1, qr_92_2, qr_92_3, qr_92_4, qr_98_0, qr_98_1, qr_107_0, qr_107_1, qr_107_2, qr_476_0, qr_476_1, qr_476_2, hM, c3, qb_f, fX2_readThing_183, hJ]
          | some e =>
            dsimp only at hV'
            have h9 : put < 8 := by
              by_cases c : put < 8
              · exact c
              · rw [if_neg c] at hwt; cases hwt
            rw [if_pos h9] at hwt
            obtain ⟨w1, w2, w3⟩ := qWant_some hwt.symm
            obtain ⟨J2, hA2, hZ2, hJ2⟩ := cAcc (w := w) qSt_107 hG1 hg hz hZ1 (t := e) (by omega)
            have f2 : qFrC J1 J2 := qFrC_st (by rw [hJ2 107 (by omega)]) fun a h1 h2 h3 => hJ2 a h3
            have hV2 := qCV_to hV1 hZ2 fun a h1 h2 h3 => hJ2 a h3
            have hG2 := qFrC_G f2 hG1
            have hL := qToD_len hok e
            have hT := qToD_ok hok e
            have hdl : (qTo ((qAcc G V.1 e).getD V.1) V).1.1.length < 20 := by show _ < 20; simp only [qTo]; rw [hL.1]; exact w2
            obtain ⟨J, hJ, j1, j2⟩ := cOpen (w := w) hG2 hg hT.2.1 hT.1 hT.2.2.2.2.2.1 hV2 ht w1 hdl true
            obtain ⟨K, hK, k1, k2⟩ := ih (r + 1) (put + 1) _ _ m (by omega) (by omega) (by omega) (qFrC_G j2 hG2) (qOpen_ok hT ht w1 hdl hp true) j1 V' hV'
            refine ⟨K, ?_, k1, qFrC_tr f1 (qFrC_tr f2 (qFrC_tr j2 k2))⟩
            rw [qb_t] at hJ
            simp (disch := omega) only [↓qlet, eq_self, qzg_t, qzb_some, ↓reduceIte, not_or, not_false_eq_true, not_true_eq_false, and_true, true_and, and_self, or_false, false_or, true_or, or_true, and_false, false_and, qlit, qneg, qof, qn_add, qn_mul, qn_s, qn_z, qn_d, qn_dz, qm_1, qt_1, qt_0, qb_0, qb_1, qb_01, qb01b, q01_0, q01_1, qo_s, qo_n, qn_c, qn_le, qn_lt, qn_eq, qn_ne_m, qm_ne_n, qm_lt, qm_le, qn_lt_m, qn_le_m, qn_sub, qn_div, qn_mod, qle_t, qle_f, qlt_t, qlt_f, qeq_t, qeq_f, Nat.add_sub_cancel, qC_I, qC_s, qU_s, qU_a, qU_k, qk_1, qk_2, qk_3, qk_4, qk_5, qk_6, qk_7, qk_68, qk_69, qk_70, qk_71, qk_72, qk_91, qk_92, qk_93, qk_94, qk_95, qk_96, qk_97, qk_98, qk_99, qk_100, qk_101, qk_102, qk_103, qk_104, qk_105, qk_106, qk_107, qk_108, qk_109, qk_476, qk_477, ql_3, ql_4, ql_5, ql_6, ql_7, ql_69, ql_70, ql_71, ql_72, ql_93, ql_94, ql_95, ql_96, ql_97, ql_99, ql_100, ql_101, ql_102, ql_103, ql_104, ql_105, ql_106, ql_108, ql_109, ql_477, qr_1_0, qr_1_1, qr_1_2, qr_1_3, qr_1_4, qr_1_5, qr_2_0, qr_2_1, qr_2_2, qr_2_3, qr_2_4, qr_68_0, qr_68_1, qr_91_0, qr_91_1, qr_91_2, qr_91_3, qr_91_4, qr_91_5, qr_91_6, qr_91_7, qr_91_10, qr_91_11, qr_91_14, qr_92_0, qr_92_1, qr_92_2, qr_92_3, qr_92_4, qr_98_0, qr_98_1, qr_107_0, qr_107_1, qr_107_2, qr_476_0, qr_476_1, qr_476_2, hA2, hJ, hnext, hK]
theorem cRd {t l : Nat} (htt : t ≤ 10) (hl : l < 128) (h60 : t < 10 → l = 60) (hp : p ≤ 600) (hg : qGok G) (hB : B ≤ 4319) (hG : qCG G I) (hok : qVok G B V) (hV : qCV I p V) : ∃ J, fX2_readThing 91 (qn t) (qn l) (qC w I) = some (qn 0, qC w J) ∧ qCV J p (qRd G t l p V) ∧ qFrC I J := by
  have h := qRd_is (G := G) htt hl hp hok
  exact cRead htt hl h60 hp hg hB 100 0 0 V I 10000 (by omega) (by omega) (by omega) hG hok hV _ h.1
end
section
variable {w : Bool} {I : Nat → Nat → Int32} {G : qG} {V : qV} {p B : Nat}
theorem cLeaveV (hok : V.2.1.length = V.1.1.length) (hz : qZok G V.1) (hV : qCV I p V) : ∃ J, fX4_leave 107 (qC w I) = some (qn 0, qC w J) ∧ qCV J p ((V.1.1.tail, V.1.2), V.2.1.tail, V.2.2) ∧ qFrC I J := by
  obtain ⟨J, hJ, j1, j2, j3⟩ := cLeave (w := w) qSt_107 hz hV.1
  obtain ⟨h1, h2, h3, h4, h5, h6, h7, h8⟩ := hV
  refine ⟨J, hJ, ⟨j1, ?_, ?_, ?_, ?_, ?_, ?_, ?_⟩, ?_, ?_, ?_⟩
  · have : qAll (fun j x => I 103 j = qn x) V.2.1.tail := by
      cases e : V.2.1 with
      | nil => exact True.intro
      | cons a l => rw [e] at h2; exact h2.2
    simp (disch := omega) only [j3]; exact this
  · simp (disch := omega) only [j3]; exact h3
  · simp (disch := omega) only [j3]; exact h4
  · simp (disch := omega) only [j3]; exact h5
  · simp (disch := omega) only [j3]; exact h6
  · simp (disch := omega) only [j3]; exact h7
  · simp (disch := omega) only [j3]; exact h8
  · intro a ha; rw [j3 a (by omega)]
  · rw [j3 91 (by omega)]
  · rw [j2]
theorem qCV_ends (hV : qCV I p V) (n : Nat) : qCV (qU I 91 9 (qn n)) p (V.1, V.2.1, V.2.2.1, n, V.2.2.2.2) ∧ qFrC I (qU I 91 9 (qn n)) := by
  obtain ⟨h1, h2, h3, h4, h5, h6, h7, h8⟩ := hV
  refine ⟨⟨qCZ_fr h1 (qU_r (by omega)) (qU_r (by omega)) (qU_r (by omega)), ?_, ?_, ?_, ?_, ?_, ?_, ?_⟩, ?_, ?_, ?_⟩
  · simp (disch := omega) only [qU_r]; exact h2
  · simp (disch := omega) only [qU_r]; exact h3
  · simp (disch := omega) only [qU_r]; exact h4
  · rw [qU_s]
  · rw [qU_k (by omega)]; exact h6
  · simp (disch := omega) only [qU_r]; exact h7
  · rw [qU_k (by omega)]; exact h8
  · intro a ha; rw [qU_r (by omega)]
  · rw [qU_k (by omega)]
  · rw [qU_r (by omega)]
theorem cEnd74 (hok : V.2.1.length = V.1.1.length) (hz : qZok G V.1) (hV : qCV I p V) {to n : Nat} {b : Bool} (k : Nat → Int32 → Int32 → Int32 → zM → Option (Int32 × zM)) : ∃ J, fX2_closeUpTo_74 k 91 (qn to) (qb b) (qn n) (qC w I) = k 91 (qn to) (qb b) (qn n - qn 1) (qC w J) ∧ qCV J p ((V.1.1.tail, V.1.2), V.2.1.tail, V.2.2) ∧ qFrC I J := by
  obtain ⟨J, hJ, j1, j2⟩ := cLeaveV (w := w) hok hz hV
  refine ⟨J, ?_, j1, j2⟩
  unfold fX2_closeUpTo_74
  simp (disch := omega) only [↓qlet, eq_self, qzg_t, qzb_some, ↓reduceIte, not_or, not_false_eq_true, not_true_eq_false, and_true, true_and, and_self, or_false, false_or, true_or, or_true, and_false, false_and, qlit, qneg, qof, qn_add, qn_mul, qn_s, qn_z, qn_d, qn_dz, qm_1, qt_1, qt_0, qb_0, qb_1, qb_01, qb01b, q01_0, q01_1, qo_s, qo_n, qn_c, qn_le, qn_lt, qn_eq, qn_ne_m, qm_ne_n, qm_lt, qm_le, qn_lt_m, qn_le_m, qn_sub, qn_div, qn_mod, qle_t, qle_f, qlt_t, qlt_f, qeq_t, qeq_f, Nat.add_sub_cancel, qC_I, qC_s, qU_s, qU_a, qU_k, qk_1, qk_2, qk_3, qk_4, qk_5, qk_6, qk_7, qk_68, qk_69, qk_70, qk_71, qk_72, qk_91, qk_92, qk_93, qk_94, qk_95, qk_96, qk_97, qk_98, qk_99, qk_100, qk_101, qk_102, qk_103, qk_104, qk_105, qk_106, qk_107, qk_108, qk_109, qk_476, qk_477, qr_1_0, qr_1_1, qr_1_2, qr_1_3, qr_1_4, qr_1_5, qr_2_0, qr_2_1, qr_2_2, qr_2_3, qr_2_4, qr_68_0, qr_68_1, qr_91_0, qr_91_1, qr_91_2, qr_91_3, qr_91_4, qr_91_5, qr_91_6, qr_91_7, qr_91_10, qr_91_11, qr_91_14, qr_92_0, qr_92_1, qr_92_2, qr_92_3, qr_92_4, qr_98_0, qr_98_1, qr_107_0, qr_107_1, qr_107_2, qr_476_0, qr_476_1, qr_476_2, hJ, qm_1b]
theorem cEnd39 (hg : qGok G) (hG : qCG G I) (hok : V.2.1.length = V.1.1.length) (hz : qZok G V.1) (hV : qCV I p V) (he : V.2.2.2.2.2.length < 4920) {x : Nat × Nat} {st : List (Nat × Nat)} (hst : V.1.1 = x :: st) {to : Nat} {b : Bool} (k : Nat → Int32 → Int32 → Int32 → zM → Option (Int32 × zM)) : ∃ J, fX2_closeUpTo_39 k 91 (qn to) (qb b) (qn st.length) (qC w I) = k 91 (qn to) (qb b) (qn st.length - qn 1) (qC w J) ∧ qCV J p ((V.1.1.tail, V.1.2), V.2.1.tail, V.2.2.1, V.2.2.2.1 + 1, V.2.2.2.2.1, (if qgB G x.1 = true then V else qErr 3 p V).2.2.2.2.2) ∧ qFrC I J := by
  obtain ⟨b1, b2⟩ := hz.2.1 x (by rw [hst]; simp)
  have hl := hz.1
  rw [hst] at hl
  simp only [List.length_cons] at hl
  have ha := hV.1.2.2
  rw [hst] at ha
  obtain ⟨⟨a1, a2⟩, -⟩ := ha
  have h5 := hV.2.2.2.2.1
  obtain ⟨g1, g2, g3, g4, g5, g6, g7⟩ := hG x.1 b1
  obtain ⟨v1, f1⟩ := qCV_ends hV (V.2.2.2.1 + 1)
  unfold fX2_closeUpTo_39
  cases hB : qgB G x.1 with
  | true =>
    obtain ⟨J, hJ, j1, j2⟩ := cEnd74 (w := w) (I := qU I 91 9 (qn (V.2.2.2.1 + 1))) (V := (V.1, V.2.1, V.2.2.1, V.2.2.2.1 + 1, V.2.2.2.2)) hok hz v1 (to := to) (n := st.length) (b := b) k
    refine ⟨J, ?_, by simpa using j1, qFrC_tr f1 j2⟩
    simp (disch := omega) only [↓qlet, eq_self, qzg_t, qzb_some, ↓reduceIte, not_or, not_false_eq_true, not_true_eq_false, and_true, true_and, and_self, or_false, false_or, true_or, or_true, and_false, false_and, qlit, qneg, qof, qn_add, qn_mul, qn_s, qn_z, qn_d, qn_dz, qm_1, qt_1, qt_0, qb_0, qb_1, qb_01, qb01b, q01_0, q01_1, qo_s, qo_n, qn_c, qn_le, qn_lt, qn_eq, qn_ne_m, qm_ne_n, qm_lt, qm_le, qn_lt_m, qn_le_m, qn_sub, qn_div, qn_mod, qle_t, qle_f, qlt_t, qlt_f, qeq_t, qeq_f, Nat.add_sub_cancel, qC_I, qC_s, qU_s, qU_a, qU_k, qk_1, qk_2, qk_3, qk_4, qk_5, qk_6, qk_7, qk_68, qk_69, qk_70, qk_71, qk_72, qk_91, qk_92, qk_93, qk_94, qk_95, qk_96, qk_97, qk_98, qk_99, qk_100, qk_101, qk_102, qk_103, qk_104, qk_105, qk_106, qk_107, qk_108, qk_109, qk_476, qk_477, ql_3, ql_4, ql_5, ql_6, ql_7, ql_69, ql_70, ql_71, ql_72, ql_93, ql_94, ql_95, ql_96, ql_97, ql_99, ql_100, ql_101, ql_102, ql_103, ql_104, ql_105, ql_106, ql_108, ql_109, ql_477, qr_1_0, qr_1_1, qr_1_2, qr_1_3, qr_1_4, qr_1_5, qr_2_0, qr_2_1, qr_2_2, qr_2_3, qr_2_4, qr_68_0, qr_68_1, qr_91_0, qr_91_1, qr_91_2, qr_91_3, qr_91_4, qr_91_5, qr_91_6, qr_91_7, qr_91_10, qr_91_11, qr_91_14, qr_92_0, qr_92_1, qr_92_2, qr_92_3, qr_92_4, qr_98_0, qr_98_1, qr_107_0, qr_107_1, qr_107_2, qr_476_0, qr_476_1, qr_476_2, h5, a1, g7, hB, qb_t, hJ]
  | false =>
    obtain ⟨J1, hJ1, k1, k2⟩ := cErr (w := w) v1 he 3
    obtain ⟨J, hJ, j1, j2⟩ := cEnd74 (w := w) (I := J1) (V := qErr 3 p (V.1, V.2.1, V.2.2.1, V.2.2.2.1 + 1, V.2.2.2.2)) hok hz k1 (to := to) (n := st.length) (b := b) k
    refine ⟨J, ?_, by simpa [qErr] using j1, qFrC_tr f1 (qFrC_tr k2 j2)⟩
    simp (disch := omega) only [↓qlet, eq_self, qzg_t, qzb_some, ↓reduceIte, not_or, not_false_eq_true, not_true_eq_false, and_true, true_and, and_self, or_false, false_or, true_or, or_true, and_false, false_and, qlit, qneg, qof, qn_add, qn_mul, qn_s, qn_z, qn_d, qn_dz, qm_1, qt_1, qt_0, qb_0, qb_1, qb_01, qb01b, q01_0, q01_1, qo_s, qo_n, qn_c, qn_le, qn_lt, qn_eq, qn_ne_m, qm_ne_n, qm_lt, qm_le, qn_lt_m, qn_le_m, qn_sub, qn_div, qn_mod, qle_t, qle_f, qlt_t, qlt_f, qeq_t, qeq_f, Nat.add_sub_cancel, qC_I, qC_s, qU_s, qU_a, qU_k, qk_1, qk_2, qk_3, qk_4, qk_5, qk_6, qk_7, qk_68, qk_69, qk_70, qk_71, qk_72, qk_91, qk_92, qk_93, qk_94, qk_95, qk_96, qk_97, qk_98, qk_99, qk_100, qk_101, qk_102, qk_103, qk_104, qk_105, qk_106, qk_107, qk_108, qk_109, qk_476, qk_477, ql_3, ql_4, ql_5, ql_6, ql_7, ql_69, ql_70, ql_71, ql_72, ql_93, ql_94, ql_95, ql_96, ql_97, ql_99, ql_100, ql_101, ql_102, ql_103, ql_104, ql_105, ql_106, ql_108, ql_109, ql_477, qr_1_0, qr_1_1, qr_1_2, qr_1_3, qr_1_4, qr_1_5, qr_2_0, qr_2_1, qr_2_2, qr_2_3, qr_2_4, qr_68_0, qr_68_1, qr_91_0, qr_91_1, qr_91_2, qr_91_3, qr_91_4, qr_91_5, qr_91_6, qr_91_7, qr_91_10, qr_91_11, qr_91_14, qr_92_0, qr_92_1, qr_92_2, qr_92_3, qr_92_4, qr_98_0, qr_98_1, qr_107_0, qr_107_1, qr_107_2, qr_476_0, qr_476_1, qr_476_2, h5, a1, g7, hB, qb_f, hJ1, hJ]
theorem cEnd1 (hg : qGok G) (hB : B ≤ 4320) {to : Nat} {b : Bool} (hG : qCG G I) (hok : qVok G B V) (hV : qCV I p V) (hd : to < V.1.1.length) (m : Nat) : ∃ J, fX2_closeUpTo_10 (m + 1) 91 (qn to) (qb b) (qn V.1.1.length - qn 1) (qC w I) = fX2_closeUpTo_10 m 91 (qn to) (qb b) (qn (V.1.1.length - 1) - qn 1) (qC w J) ∧ qCV J p (qEnd1 G p (decide (to + 1 < V.1.1.length) || !b) V) ∧ qFrC I J := by
  have hz := hok.1
  have hlen := hz.1
  have h9 := hok.2.2.2.2.2.2.2.2
  have h300 := hok.2.2.1
  have hC := cCanEnd (w := w) qSt_107 hG hg hz hV.1
  obtain ⟨st, hst⟩ : ∃ st, st = V.1.1 := ⟨_, rfl⟩
  cases st with
  | nil => rw [← hst] at hd; simp at hd
  | cons x st =>
    have hxm := hz.2.1 x (by rw [← hst]; simp)
    rw [← hst] at hd hlen h9
    simp only [List.length_cons] at hd hlen h9
    -- SHORT
    have h1 : ∃ J, (if qb (qCan G V.1) = 0 then zg (zk (qC w I) 91 = 2) (zb (fX2_addError 91 2 (qC w I)) fun r31 M32 => (fX2_closeUpTo_30 (fX2_closeUpTo_10 m) 91 (qn to) (qb b) (qn st.length) M32)) else fX2_closeUpTo_30 (fX2_closeUpTo_10 m) 91 (qn to) (qb b) (qn st.length) (qC w I)) = fX2_closeUpTo_30 (fX2_closeUpTo_10 m) 91 (qn to) (qb b) (qn st.length) (qC w J) ∧ qCV J p (if qCan G V.1 = true then V else qErr 2 p V) ∧ qFrC I J := by
      cases qCan G V.1 with
      | true =>
        refine ⟨I, ?_, by simpa using hV, qFrC_refl I⟩
        simp (disch := omega) only [↓qlet, eq_self, qzg_t, qzb_some, ↓reduceIte, not_or, not_false_eq_true, not_true_eq_false, and_true, true_and, and_self, or_false, false_or, true_or, or_true, and_false, false_and, qlit, qneg, qof, qn_add, qn_mul, qn_s, qn_z, qn_d, qn_dz, qm_1, qt_1, qt_0, qb_0, qb_1, qb_01, qb01b, q01_0, q01_1, qo_s, qo_n, qn_c, qn_le, qn_lt, qn_eq, qn_ne_m, qm_ne_n, qm_lt, qm_le, qn_lt_m, qn_le_m, qn_sub, qn_div, qn_mod, qle_t, qle_f, qlt_t, qlt_f, qeq_t, qeq_f, Nat.add_sub_cancel, qC_I, qC_s, qU_s, qU_a, qU_k, qb_t]
      | false =>
        obtain ⟨J, hJ, j1, j2⟩ := cErr (w := w) hV (by omega) 2
        refine ⟨J, ?_, by simpa using j1, j2⟩
        simp (disch := omega) only [↓qlet, eq_self, qzg_t, qzb_some, ↓reduceIte, not_or, not_false_eq_true, not_true_eq_false, and_true, true_and, and_self, or_false, false_or, true_or, or_true, and_false, false_and, qlit, qneg, qof, qn_add, qn_mul, qn_s, qn_z, qn_d, qn_dz, qm_1, qt_1, qt_0, qb_0, qb_1, qb_01, qb01b, q01_0, q01_1, qo_s, qo_n, qn_c, qn_le, qn_lt, qn_eq, qn_ne_m, qm_ne_n, qm_lt, qm_le, qn_lt_m, qn_le_m, qn_sub, qn_div, qn_mod, qle_t, qle_f, qlt_t, qlt_f, qeq_t, qeq_f, Nat.add_sub_cancel, qC_I, qC_s, qU_s, qU_a, qU_k, qk_1, qk_2, qk_3, qk_4, qk_5, qk_6, qk_7, qk_68, qk_69, qk_70, qk_71, qk_72, qk_91, qk_92, qk_93, qk_94, qk_95, qk_96, qk_97, qk_98, qk_99, qk_100, qk_101, qk_102, qk_103, qk_104, qk_105, qk_106, qk_107, qk_108, qk_109, qk_476, qk_477, qb_f, hJ]
    obtain ⟨J1, e1, v1, f1⟩ := h1
    obtain ⟨V1, hV1⟩ : ∃ V1, V1 = (if qCan G V.1 = true then V else qErr 2 p V) := ⟨_, rfl⟩
    have hs : V1.1 = V.1 ∧ V1.2.1 = V.2.1 ∧ V1.2.2.1 = V.2.2.1 ∧ V1.2.2.2.1 = V.2.2.2.1 ∧ V1.2.2.2.2.1 = V.2.2.2.2.1 ∧ V1.2.2.2.2.2.length ≤ V.2.2.2.2.2.length + 1 := by
      rw [hV1]
      split
      · exact ⟨rfl, rfl, rfl, rfl, rfl, by omega⟩
      · exact ⟨rfl, rfl, rfl, rfl, rfl, by simp [qErr]⟩
    rw [← hV1] at v1
    obtain ⟨s1, s2, s3, s4, s5, s6⟩ := hs
    have hst1 : V1.1.1 = x :: st := by rw [s1, hst]
    have hok1 : V1.2.1.length = V1.1.1.length := by rw [s1, s2]; exact hok.2.1
    have hz1 : qZok G V1.1 := by rw [s1]; exact hz
    -- OPEN, and the State
    have h2 : ∃ J, fX2_closeUpTo_30 (fX2_closeUpTo_10 m) 91 (qn to) (qb b) (qn st.length) (qC w J1) = fX2_closeUpTo_10 m 91 (qn to) (qb b) (qn st.length - qn 1) (qC w J) ∧ qCV J p (qEnd1 G p (decide (to + 1 < V.1.1.length) || !b) V) ∧ qFrC J1 J := by
      unfold fX2_closeUpTo_30
      have hE : ∀ P, (decide (to + 1 < V.1.1.length) || !b) = P → qEnd1 G p (decide (to + 1 < V.1.1.length) || !b) V = ((V1.1.1.tail, V1.1.2), V1.2.1.tail, V1.2.2.1, (if P = true then V1.2.2.2.1 + 1 else V1.2.2.2.1), V1.2.2.2.2.1, (if P = true then (if qgB G x.1 = true then V1 else qErr 3 p V1) else V1).2.2.2.2.2) := by
        intro P hP
        unfold qEnd1
        rw [hP, s1, s2, s3, s4, s5, ← hV1, ← hst]
        rfl
      by_cases c1 : to < st.length
      · obtain ⟨J, hJ, j1, j2⟩ := cEnd39 (w := w) hg (qFrC_G f1 hG) hok1 hz1 v1 (by omega) hst1 (to := to) (b := b) (fX2_closeUpTo_10 m)
        refine ⟨J, ?_, ?_, j2⟩
        · simp (disch := omega) only [↓qlet, eq_self, qzg_t, qzb_some, ↓reduceIte, not_or, not_false_eq_true, not_true_eq_false, and_true, true_and, and_self, or_false, false_or, true_or, or_true, and_false, false_and, qlit, qneg, qof, qn_add, qn_mul, qn_s, qn_z, qn_d, qn_dz, qm_1, qt_1, qt_0, qb_0, qb_1, qb_01, qb01b, q01_0, q01_1, qo_s, qo_n, qn_c, qn_le, qn_lt, qn_eq, qn_ne_m, qm_ne_n, qm_lt, qm_le, qn_lt_m, qn_le_m, qn_sub, qn_div, qn_mod, qle_t, qle_f, qlt_t, qlt_f, qeq_t, qeq_f, Nat.add_sub_cancel, qC_I, qC_s, qU_s, qU_a, qU_k, hJ]
        · rw [hE true (by rw [← hst]; simp [c1])]
          exact j1
      · cases b with
        | false =>
          obtain ⟨J, hJ, j1, j2⟩ := cEnd39 (w := w) hg (qFrC_G f1 hG) hok1 hz1 v1 (by omega) hst1 (to := to) (b := false) (fX2_closeUpTo_10 m)
          refine ⟨J, ?_, ?_, j2⟩
          · rw [qb_f] at hJ
            simp (disch := omega) only [↓qlet, eq_self, qzg_t, qzb_some, ↓reduceIte, not_or, not_false_eq_true, not_true_eq_false, and_true, true_and, and_self, or_false, false_or, true_or, or_true, and_false, false_and, qlit, qneg, qof, qn_add, qn_mul, qn_s, qn_z, qn_d, qn_dz, qm_1, qt_1, qt_0, qb_0, qb_1, qb_01, qb01b, q01_0, q01_1, qo_s, qo_n, qn_c, qn_le, qn_lt, qn_eq, qn_ne_m, qm_ne_n, qm_lt, qm_le, qn_lt_m, qn_le_m, qn_sub, qn_div, qn_mod, qle_t, qle_f, qlt_t, qlt_f, qeq_t, qeq_f, Nat.add_sub_cancel, qC_I, qC_s, qU_s, qU_a, qU_k, qb_f, hJ]
          · rw [hE true (by simp)]
            exact j1
        | true =>
          obtain ⟨J, hJ, j1, j2⟩ := cEnd74 (w := w) hok1 hz1 v1 (to := to) (n := st.length) (b := true) (fX2_closeUpTo_10 m)
          refine ⟨J, ?_, ?_, j2⟩
          · rw [qb_t] at hJ
            simp (disch := omega) only [↓qlet, eq_self, qzg_t, qzb_some, ↓reduceIte, not_or, not_false_eq_true, not_true_eq_false, and_true, true_and, and_self, or_false, false_or, true_or, or_true, and_false, false_and, qlit, qneg, qof, qn_add, qn_mul, qn_s, qn_z, qn_d, qn_dz, qm_1, qt_1, qt_0, qb_0, qb_1, qb_01, qb01b, q01_0, q01_1, qo_s, qo_n, qn_c, qn_le, qn_lt, qn_eq, qn_ne_m, qm_ne_n, qm_lt, qm_le, qn_lt_m, qn_le_m, qn_sub, qn_div, qn_mod, qle_t, qle_f, qlt_t, qlt_f, qeq_t, qeq_f, Nat.add_sub_cancel, qC_I, qC_s, qU_s, qU_a, qU_k, qb_t, hJ]
          · rw [hE false (by rw [← hst]; simp [c1])]
            exact j1
    obtain ⟨J2, e2, v2, f2⟩ := h2
    refine ⟨J2, ?_, v2, qFrC_tr f1 f2⟩
    rw [← hst]
    simp only [List.length_cons, Nat.add_sub_cancel]
    rw [← e2, ← e1, fX2_closeUpTo_10]
    simp (disch := omega) only [↓qlet, eq_self, qzg_t, qzb_some, ↓reduceIte, not_or, not_false_eq_true, not_true_eq_false, and_true, true_and, and_self, or_false, false_or, true_or, or_true, and_false, false_and, qlit, qneg, qof, qn_add, qn_mul, qn_s, qn_z, qn_d, qn_dz, qm_1, qt_1, qt_0, qb_0, qb_1, qb_01, qb01b, q01_0, q01_1, qo_s, qo_n, qn_c, qn_le, qn_lt, qn_eq, qn_ne_m, qm_ne_n, qm_lt, qm_le, qn_lt_m, qn_le_m, qn_sub, qn_div, qn_mod, qle_t, qle_f, qlt_t, qlt_f, qeq_t, qeq_f, Nat.add_sub_cancel, qC_I, qC_s, qU_s, qU_a, qU_k, qk_1, qk_2, qk_3, qk_4, qk_5, qk_6, qk_7, qk_68, qk_69, qk_70, qk_71, qk_72, qk_91, qk_92, qk_93, qk_94, qk_95, qk_96, qk_97, qk_98, qk_99, qk_100, qk_101, qk_102, qk_103, qk_104, qk_105, qk_106, qk_107, qk_108, qk_109, qk_476, qk_477, qr_1_0, qr_1_1, qr_1_2, qr_1_3, qr_1_4, qr_1_5, qr_2_0, qr_2_1, qr_2_2, qr_2_3, qr_2_4, qr_68_0, qr_68_1, qr_91_0, qr_91_1, qr_91_2, qr_91_3, qr_91_4, qr_91_5, qr_91_6, qr_91_7, qr_91_10, qr_91_11, qr_91_14, qr_92_0, qr_92_1, qr_92_2, qr_92_3, qr_92_4, qr_98_0, qr_98_1, qr_107_0, qr_107_1, qr_107_2, qr_476_0, qr_476_1, qr_476_2, hC]
theorem cClose (hg : qGok G) (hB : B ≤ 4320) {to : Nat} (hto : to < 100) {b : Bool} : ∀ n V I m, V.1.1.length ≤ n → n < m → qCG G I → qVok G B V → qCV I p V → ∃ J, fX2_closeUpTo_10 m 91 (qn to) (qb b) (qn V.1.1.length - qn 1) (qC w I) = some (qn 0, qC w J) ∧ qCV J p (qClose G p to b n V) ∧ qFrC I J := by
  intro n
  induction n with
  | zero =>
    intro V I m h1 h2 hG hok hV
    obtain ⟨m, rfl⟩ : ∃ m', m = m' + 1 := ⟨m - 1, by omega⟩
    refine ⟨I, ?_, hV, qFrC_refl I⟩
    unfold fX2_closeUpTo_10
    rw [show V.1.1.length = 0 by omega]
    simp (disch := omega) only [↓qlet, eq_self, qzg_t, qzb_some, ↓reduceIte, not_or, not_false_eq_true, not_true_eq_false, and_true, true_and, and_self, or_false, false_or, true_or, or_true, and_false, false_and, qlit, qneg, qof, qn_add, qn_mul, qn_s, qn_z, qn_d, qn_dz, qm_1, qt_1, qt_0, qb_0, qb_1, qb_01, qb01b, q01_0, q01_1, qo_s, qo_n, qn_c, qn_le, qn_lt, qn_eq, qn_ne_m, qm_ne_n, qm_lt, qm_le, qn_lt_m, qn_le_m, qn_sub, qn_div, qn_mod, qle_t, qle_f, qlt_t, qlt_f, qeq_t, qeq_f, Nat.add_sub_cancel, qC_I, qC_s, qU_s, qU_a, qU_k]
  | succ n ih =>
    intro V I m h1 h2 hG hok hV
    have hlen := hok.1.1
    by_cases c : V.1.1.length ≤ to
    · obtain ⟨m, rfl⟩ : ∃ m', m = m' + 1 := ⟨m - 1, by omega⟩
      refine ⟨I, ?_, by unfold qClose; rw [if_pos c]; exact hV, qFrC_refl I⟩
      unfold fX2_closeUpTo_10
      cases hs : V.1.1.length with
      | zero => simp (disch := omega) only [↓qlet, eq_self, qzg_t, qzb_some, ↓reduceIte, not_or, not_false_eq_true, not_true_eq_false, and_true, true_and, and_self, or_false, false_or, true_or, or_true, and_false, false_and, qlit, qneg, qof, qn_add, qn_mul, qn_s, qn_z, qn_d, qn_dz, qm_1, qt_1, qt_0, qb_0, qb_1, qb_01, qb01b, q01_0, q01_1, qo_s, qo_n, qn_c, qn_le, qn_lt, qn_eq, qn_ne_m, qm_ne_n, qm_lt, qm_le, qn_lt_m, qn_le_m, qn_sub, qn_div, qn_mod, qle_t, qle_f, qlt_t, qlt_f, qeq_t, qeq_f, Nat.add_sub_cancel, qC_I, qC_s, qU_s, qU_a, qU_k]
      | succ d => simp (disch := omega) only [↓qlet, eq_self, qzg_t, qzb_some, ↓reduceIte, not_or, not_false_eq_true, not_true_eq_false, and_true, true_and, and_self, or_false, false_or, true_or, or_true, and_false, false_and, qlit, qneg, qof, qn_add, qn_mul, qn_s, qn_z, qn_d, qn_dz, qm_1, qt_1, qt_0, qb_0, qb_1, qb_01, qb01b, q01_0, q01_1, qo_s, qo_n, qn_c, qn_le, qn_lt, qn_eq, qn_ne_m, qm_ne_n, qm_lt, qm_le, qn_lt_m, qn_le_m, qn_sub, qn_div, qn_mod, qle_t, qle_f, qlt_t, qlt_f, qeq_t, qeq_f, Nat.add_sub_cancel, qC_I, qC_s, qU_s, qU_a, qU_k]
    · obtain ⟨m, rfl⟩ : ∃ m', m = m' + 1 := ⟨m - 1, by omega⟩
      obtain ⟨J, e1, v1, f1⟩ := cEnd1 (w := w) hg hB (to := to) (b := b) hG hok hV (by omega) m
      have hk := qEnd1_ok (p := p) hok (by omega) (decide (to + 1 < V.1.1.length) || !b)
      obtain ⟨K, e2, v2, f2⟩ := ih _ J m (by rw [hk.2]; omega) (by omega) (qFrC_G f1 hG) hk.1 v1
      refine ⟨K, ?_, by unfold qClose; rw [if_neg c]; exact v2, qFrC_tr f1 f2⟩
      rw [e1, ← e2, hk.2]
theorem cCloseUp (hg : qGok G) (hB : B ≤ 4320) {to : Nat} (hto : to < 100) (b : Bool) (hG : qCG G I) (hok : qVok G B V) (hV : qCV I p V) : ∃ J, fX2_closeUpTo 91 (qn to) (qb b) (qC w I) = some (qn 0, qC w J) ∧ qCV J p (qShutTo G p to b V) ∧ qFrC I J := by
  have hlen := hok.1.1
  obtain ⟨J, h1, h2, h3⟩ := cClose (w := w) hg hB hto (b := b) V.1.1.length V I 10000 (Nat.le_refl _) (by omega) hG hok hV
  refine ⟨J, ?_, h2, h3⟩
  unfold fX2_closeUpTo
  have hd := hV.1.1
  simp (disch := omega) only [↓qlet, qzg_t, qlit, qC_I, qC_s, qk_1, qk_2, qk_3, qk_4, qk_5, qk_6, qk_7, qk_68, qk_69, qk_70, qk_71, qk_72, qk_91, qk_92, qk_93, qk_94, qk_95, qk_96, qk_97, qk_98, qk_99, qk_100, qk_101, qk_102, qk_103, qk_104, qk_105, qk_106, qk_107, qk_108, qk_109, qk_476, qk_477, qr_1_0, qr_1_1, qr_1_2, qr_1_3, qr_1_4, qr_1_5, qr_2_0, qr_2_1, qr_2_2, qr_2_3, qr_2_4, qr_68_0, qr_68_1, qr_91_0, qr_91_1, qr_91_2, qr_91_3, qr_91_4, qr_91_5, qr_91_6, qr_91_7, qr_91_10, qr_91_11, qr_91_14, qr_92_0, qr_92_1, qr_92_2, qr_92_3, qr_92_4, qr_98_0, qr_98_1, qr_107_0, qr_107_1, qr_107_2, qr_476_0, qr_476_1, qr_476_2, hd, h1]
def qShutO (G : qG) (p : Nat) (V : qV) : Option Nat → qV
  | none => qErr 1 p V
  | some q => qShutTo G p q true V
theorem cCloseTag (hg : qGok G) (hB : B ≤ 4319) (to : Option Nat) (hto : ∀ q, to = some q → q < 100) (hG : qCG G I) (hok : qVok G B V) (hV : qCV I p V) : ∃ J, fX2_closeByTag 91 (qo to) (qC w I) = some (qn 0, qC w J) ∧ qCV J p (qShutO G p V to) ∧ qFrC I J := by
  unfold fX2_closeByTag
  cases to with
  | none =>
    obtain ⟨J, h1, h2, h3⟩ := cErr (w := w) hV (qVok_err hok hB) 1
    refine ⟨J, ?_, h2, h3⟩
    simp (disch := omega) only [↓qlet, eq_self, qzg_t, qzb_some, ↓reduceIte, not_or, not_false_eq_true, not_true_eq_false, and_true, true_and, and_self, or_false, false_or, true_or, or_true, and_false, false_and, qlit, qneg, qof, qn_add, qn_mul, qn_s, qn_z, qn_d, qn_dz, qm_1, qt_1, qt_0, qb_0, qb_1, qb_01, qb01b, q01_0, q01_1, qo_s, qo_n, qn_c, qn_le, qn_lt, qn_eq, qn_ne_m, qm_ne_n, qm_lt, qm_le, qn_lt_m, qn_le_m, qn_sub, qn_div, qn_mod, qle_t, qle_f, qlt_t, qlt_f, qeq_t, qeq_f, Nat.add_sub_cancel, qC_I, qC_s, qU_s, qU_a, qU_k, qk_1, qk_2, qk_3, qk_4, qk_5, qk_6, qk_7, qk_68, qk_69, qk_70, qk_71, qk_72, qk_91, qk_92, qk_93, qk_94, qk_95, qk_96, qk_97, qk_98, qk_99, qk_100, qk_101, qk_102, qk_103, qk_104, qk_105, qk_106, qk_107, qk_108, qk_109, qk_476, qk_477, h1]
  | some q =>
    have hq := hto q rfl
    obtain ⟨J, h1, h2, h3⟩ := cCloseUp (w := w) hg (Nat.le_succ_of_le hB) hq true hG hok hV
    refine ⟨J, ?_, h2, h3⟩
    rw [qb_t] at h1
    simp (disch := omega) only [↓qlet, eq_self, qzg_t, qzb_some, ↓reduceIte, not_or, not_false_eq_true, not_true_eq_false, and_true, true_and, and_self, or_false, false_or, true_or, or_true, and_false, false_and, qlit, qneg, qof, qn_add, qn_mul, qn_s, qn_z, qn_d, qn_dz, qm_1, qt_1, qt_0, qb_0, qb_1, qb_01, qb01b, q01_0, q01_1, qo_s, qo_n, qn_c, qn_le, qn_lt, qn_eq, qn_ne_m, qm_ne_n, qm_lt, qm_le, qn_lt_m, qn_le_m, qn_sub, qn_div, qn_mod, qle_t, qle_f, qlt_t, qlt_f, qeq_t, qeq_f, Nat.add_sub_cancel, qC_I, qC_s, qU_s, qU_a, qU_k, qk_1, qk_2, qk_3, qk_4, qk_5, qk_6, qk_7, qk_68, qk_69, qk_70, qk_71, qk_72, qk_91, qk_92, qk_93, qk_94, qk_95, qk_96, qk_97, qk_98, qk_99, qk_100, qk_101, qk_102, qk_103, qk_104, qk_105, qk_106, qk_107, qk_108, qk_109, qk_476, qk_477, h1]
end
