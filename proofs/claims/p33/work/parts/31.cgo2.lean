/-! THE CLASS: rows of tokens are gone through, in its cells -/
def qFrT (lvl : Nat) (I J : Nat → Nat → Int32) : Prop := (∀ a, (a ≤ 90 ∨ (98 ≤ a ∧ a ≤ 100) ∨ a = 104 ∨ a = 105 ∨ 110 ≤ a) → J a = I a) ∧ J 91 16 = I 91 16 ∧ J 107 5 = I 107 5 ∧ ∀ j, j < lvl → J 106 j = I 106 j
theorem qFrT_of {lvl : Nat} {I J : Nat → Nat → Int32} (h : qFrC I J) : qFrT lvl I J := ⟨fun a ha => h.1 a (by omega), h.2.1, h.2.2, fun j _ => by rw [h.1 106 (by omega)]⟩
theorem qFrT_refl (lvl : Nat) (I : Nat → Nat → Int32) : qFrT lvl I I := qFrT_of (qFrC_refl I)
theorem qFrT_tr {lvl : Nat} {I J K : Nat → Nat → Int32} (h : qFrT lvl I J) (k : qFrT lvl J K) : qFrT lvl I K := ⟨fun a ha => by rw [k.1 a ha, h.1 a ha], by rw [k.2.1, h.2.1], by rw [k.2.2.1, h.2.2.1], fun j hj => by rw [k.2.2.2 j hj, h.2.2.2 j hj]⟩
theorem qFrT_le {l l2 : Nat} {I J : Nat → Nat → Int32} (h : qFrT l I J) (hl : l2 ≤ l) : qFrT l2 I J := ⟨h.1, h.2.1, h.2.2.1, fun j hj => h.2.2.2 j (by omega)⟩
/-- entities and switches in the class's cells, the entities within which it reads -/
def qCEn (sw : Nat → Nat) (en : Nat → List qK) (ws : List Nat) (I : Nat → Nat → Int32) : Prop := (∀ i, i < 6 → qCK I (73 + 3 * i) (en i)) ∧ (∀ i, i < 4 → I 72 i = qn (sw i)) ∧ ∀ j q, ws[j]? = some q → I 106 j = qn q
theorem qCEn_fr {sw : Nat → Nat} {en : Nat → List qK} {ws : List Nat} {I J : Nat → Nat → Int32} (h : qCEn sw en ws I) (f : qFrT ws.length I J) : qCEn sw en ws J := by
  refine ⟨fun i hi => ?_, fun i hi => ?_, fun j q hq => ?_⟩
  · exact qCK_fr (h.1 i hi) (by rw [f.1 _ (by omega)]) (by rw [f.1 _ (by omega)]) (by rw [f.1 _ (by omega)])
  · rw [f.1 72 (by omega)]; exact h.2.1 i hi
  · rw [f.2.2.2 j (List.getElem?_eq_some_iff.mp hq).1]; exact h.2.2 j q hq
theorem qFrT_G {lvl : Nat} {G : qG} {I J : Nat → Nat → Int32} (h : qFrT lvl I J) (k : qCG G I) : qCG G J := qCG_fr k fun a ha => h.1 a (by omega)
section
variable {w : Bool} {I : Nat → Nat → Int32} {G : qG} {V : qV} {p B x n i : Nat} {ks : List qK} {sw : Nat → Nat} {en : Nat → List qK} {ws : List Nat} {ent : Nat → Nat → qV → qV} {c : Nat} {g : Nat → Nat → Int32 → zM → Option (Int32 × zM)}
theorem cTok (hg : qGok G) (hx : qRw x n) (hn : ks.length ≤ n) (h60 : ks.length ≤ 600) (hks : ∀ k ∈ ks, qKok k)
    (hE : ∀ e p B V I, e < 6 → p ≤ 600 → B + c ≤ 4320 → qCG G I → qCEn sw en ws I → qVok G B V → qCV I p V → ∃ J, fX2_goThroughEntity g 91 (qn e) (qn ws.length) (qC w I) = some (qn 0, qC w J) ∧ qCV J p (ent e p V) ∧ qFrT ws.length I J)
    (hc : 1 ≤ c) (hp : p ≤ 600) (hB : B + c ≤ 4320) (hG : qCG G I) (hEn : qCEn sw en ws I) (hk : qCK I x ks) (hok : qVok G B V) (hV : qCV I p V) {s : Nat} {v : Int32} (hi : ks[i]? = some (s, v)) : ∃ J, fX2_readToken g 91 x (qn i) (qn ws.length) (qC w I) = some (qn 0, qC w J) ∧ qCV J p (qTok G ent ks i p s v V) ∧ qFrT ws.length I J := by
  have hkk := hks _ (List.mem_of_getElem? hi)
  have h8 := hkk.1
  have hil := (List.getElem?_eq_some_iff.mp hi).1
  obtain ⟨k1, k2⟩ := hk.2 i _ hi
  have hz := hok.1
  have hx9 := hx.2.2
  have hB4 : B ≤ 4319 := by omega
  unfold fX2_readToken qTok
  by_cases c0 : s = 0
  · obtain ⟨e, h1, h2⟩ := hkk.2.1 (Or.inl c0)
    have h2 : v = qn e := h2
    subst h2
    obtain ⟨J, hJ, j1, j2⟩ := cRd (w := w) (t := e) (l := 60) (by omega) (by omega) (fun _ => rfl) hp hg hB4 hG hok hV
    refine ⟨J, ?_, ?_, qFrT_of j2⟩
    · simp (disch := omega) only [↓qlet, eq_self, qzg_t, qzb_some, ↓reduceIte, not_or, not_false_eq_true, not_true_eq_false, and_true, true_and, and_self, or_false, false_or, true_or, or_true, and_false, false_and, qlit, qneg, qof, qn_add, qn_mul, qn_s, qn_z, qn_d, qn_dz, qm_1, qt_1, qt_0, qb_0, qb_1, qb_01, qb01b, q01_0, q01_1, qo_s, qo_n, qn_c, qn_le, qn_lt, qn_eq, qn_ne_m, qm_ne_n, qm_lt, qm_le, qn_lt_m, qn_le_m, qn_sub, qn_div, qn_mod, qle_t, qle_f, qlt_t, qlt_f, qeq_t, qeq_f, Nat.add_sub_cancel, qC_I, qC_s, qU_s, qU_a, qU_k, qRw_k _ _ hx, qRw_k1 _ _ hx, qRw_k2 _ _ hx, qRw_l1 _ _ hx, qRw_l2 _ _ hx, qRw_r0 _ _ hx, qRw_r1 _ _ hx, qk_1, qk_2, qk_3, qk_4, qk_5, qk_6, qk_7, qk_68, qk_69, qk_70, qk_71, qk_72, qk_91, qk_92, qk_93, qk_94, qk_95, qk_96, qk_97, qk_98, qk_99, qk_100, qk_101, qk_102, qk_103, qk_104, qk_105, qk_106, qk_107, qk_108, qk_109, qk_476, qk_477, k1, k2, c0, hJ]
    · rw [if_pos c0, qn_c (by omega)]; exact j1
  · rw [if_neg c0]
    by_cases c1 : s = 1
    · obtain ⟨e, h1, h2⟩ := hkk.2.1 (Or.inr c1)
      have h2 : v = qn e := h2
      subst h2
      have hL := cLast (w := w) qSt_107 hz hV.1 (e := e) (by omega)
      obtain ⟨J, hJ, j1, j2⟩ := cCloseTag (w := w) hg hB4 (qLast V.1.1 e) (fun q h => by have := qLast_lt _ _ _ h; have := hz.1; omega) hG hok hV
      refine ⟨J, ?_, ?_, qFrT_of j2⟩
      · simp (disch := omega) only [↓qlet, eq_self, qzg_t, qzb_some, ↓reduceIte, not_or, not_false_eq_true, not_true_eq_false, and_true, true_and, and_self, or_false, false_or, true_or, or_true, and_false, false_and, qlit, qneg, qof, qn_add, qn_mul, qn_s, qn_z, qn_d, qn_dz, qm_1, qt_1, qt_0, qb_0, qb_1, qb_01, qb01b, q01_0, q01_1, qo_s, qo_n, qn_c, qn_le, qn_lt, qn_eq, qn_ne_m, qm_ne_n, qm_lt, qm_le, qn_lt_m, qn_le_m, qn_sub, qn_div, qn_mod, qle_t, qle_f, qlt_t, qlt_f, qeq_t, qeq_f, Nat.add_sub_cancel, qC_I, qC_s, qU_s, qU_a, qU_k, qRw_k _ _ hx, qRw_k1 _ _ hx, qRw_k2 _ _ hx, qRw_l1 _ _ hx, qRw_l2 _ _ hx, qRw_r0 _ _ hx, qRw_r1 _ _ hx, qk_1, qk_2, qk_3, qk_4, qk_5, qk_6, qk_7, qk_68, qk_69, qk_70, qk_71, qk_72, qk_91, qk_92, qk_93, qk_94, qk_95, qk_96, qk_97, qk_98, qk_99, qk_100, qk_101, qk_102, qk_103, qk_104, qk_105, qk_106, qk_107, qk_108, qk_109, qk_476, qk_477, qr_1_0, qr_1_1, qr_1_2, qr_1_3, qr_1_4, qr_1_5, qr_2_0, qr_2_1, qr_2_2, qr_2_3, qr_2_4, qr_68_0, qr_68_1, qr_91_0, qr_91_1, qr_91_2, qr_91_3, qr_91_4, qr_91_5, qr_91_6, qr_91_7, qr_91_10, qr_91_11, qr_91_14, qr_92_0, qr_92_1, qr_92_2, qr_92_3, qr_92_4, qr_98_0, qr_98_1, qr_107_0, qr_107_1, qr_107_2, qr_476_0, qr_476_1, qr_476_2, k1, k2, c1, hL, hJ]
      · rw [if_pos c1, qn_c (by omega)]
        cases hq : qLast V.1.1 e with
        | none => rw [hq] at j1; exact j1
        | some q => rw [hq] at j1; exact j1
    · rw [if_neg c1]
      by_cases c2 : s = 2
      · rw [if_pos c2]
        have h4 := hV.1.2.1
        cases hla : V.1.2 with
        | none =>
          rw [hla] at h4
          obtain ⟨J, hJ, j1, j2⟩ := cErr (w := w) hV (qVok_err hok hB4) 1
          refine ⟨J, ?_, j1, qFrT_of j2⟩
          simp (disch := omega) only [↓qlet, eq_self, qzg_t, qzb_some, ↓reduceIte, not_or, not_false_eq_true, not_true_eq_false, and_true, true_and, and_self, or_false, false_or, true_or, or_true, and_false, false_and, qlit, qneg, qof, qn_add, qn_mul, qn_s, qn_z, qn_d, qn_dz, qm_1, qt_1, qt_0, qb_0, qb_1, qb_01, qb01b, q01_0, q01_1, qo_s, qo_n, qn_c, qn_le, qn_lt, qn_eq, qn_ne_m, qm_ne_n, qm_lt, qm_le, qn_lt_m, qn_le_m, qn_sub, qn_div, qn_mod, qle_t, qle_f, qlt_t, qlt_f, qeq_t, qeq_f, Nat.add_sub_cancel, qC_I, qC_s, qU_s, qU_a, qU_k, qRw_k _ _ hx, qRw_k1 _ _ hx, qRw_k2 _ _ hx, qRw_l1 _ _ hx, qRw_l2 _ _ hx, qRw_r0 _ _ hx, qRw_r1 _ _ hx, qk_1, qk_2, qk_3, qk_4, qk_5, qk_6, qk_7, qk_68, qk_69, qk_70, qk_71, qk_72, qk_91, qk_92, qk_93, qk_94, qk_95, qk_96, qk_97, qk_98, qk_99, qk_100, qk_101, qk_102, qk_103, qk_104, qk_105, qk_106, qk_107, qk_108, qk_109, qk_476, qk_477, qr_1_0, qr_1_1, qr_1_2, qr_1_3, qr_1_4, qr_1_5, qr_2_0, qr_2_1, qr_2_2, qr_2_3, qr_2_4, qr_68_0, qr_68_1, qr_91_0, qr_91_1, qr_91_2, qr_91_3, qr_91_4, qr_91_5, qr_91_6, qr_91_7, qr_91_10, qr_91_11, qr_91_14, qr_92_0, qr_92_1, qr_92_2, qr_92_3, qr_92_4, qr_98_0, qr_98_1, qr_107_0, qr_107_1, qr_107_2, qr_476_0, qr_476_1, qr_476_2, k1, k2, c2, h4, hJ]
        | some e =>
          rw [hla] at h4
          have he := hz.2.2.1 e hla
          obtain ⟨J, hJ, j1, j2⟩ := cRd (w := w) (t := e) (l := 60) (by omega) (by omega) (fun _ => rfl) hp hg hB4 hG hok hV
          refine ⟨J, ?_, j1, qFrT_of j2⟩
          simp (disch := omega) only [↓qlet, eq_self, qzg_t, qzb_some, ↓reduceIte, not_or, not_false_eq_true, not_true_eq_false, and_true, true_and, and_self, or_false, false_or, true_or, or_true, and_false, false_and, qlit, qneg, qof, qn_add, qn_mul, qn_s, qn_z, qn_d, qn_dz, qm_1, qt_1, qt_0, qb_0, qb_1, qb_01, qb01b, q01_0, q01_1, qo_s, qo_n, qn_c, qn_le, qn_lt, qn_eq, qn_ne_m, qm_ne_n, qm_lt, qm_le, qn_lt_m, qn_le_m, qn_sub, qn_div, qn_mod, qle_t, qle_f, qlt_t, qlt_f, qeq_t, qeq_f, Nat.add_sub_cancel, qC_I, qC_s, qU_s, qU_a, qU_k, qRw_k _ _ hx, qRw_k1 _ _ hx, qRw_k2 _ _ hx, qRw_l1 _ _ hx, qRw_l2 _ _ hx, qRw_r0 _ _ hx, qRw_r1 _ _ hx, qk_1, qk_2, qk_3, qk_4, qk_5, qk_6, qk_7, qk_68, qk_69, qk_70, qk_71, qk_72, qk_91, qk_92, qk_93, qk_94, qk_95, qk_96, qk_97, qk_98, qk_99, qk_100, qk_101, qk_102, qk_103, qk_104, qk_105, qk_106, qk_107, qk_108, qk_109, qk_476, qk_477, qr_1_0, qr_1_1, qr_1_2, qr_1_3, qr_1_4, qr_1_5, qr_2_0, qr_2_1, qr_2_2, qr_2_3, qr_2_4, qr_68_0, qr_68_1, qr_91_0, qr_91_1, qr_91_2, qr_91_3, qr_91_4, qr_91_5, qr_91_6, qr_91_7, qr_91_10, qr_91_11, qr_91_14, qr_92_0, qr_92_1, qr_92_2, qr_92_3, qr_92_4, qr_98_0, qr_98_1, qr_107_0, qr_107_1, qr_107_2, qr_476_0, qr_476_1, qr_476_2, k1, k2, c2, h4, hJ]
      · rw [if_neg c2]
        by_cases c3 : s = 3
        · rw [if_pos c3]
          have hU := cCur (w := w) qSt_107 hz hV.1
          cases hst : V.1.1 with
          | nil =>
            rw [hst] at hU
            obtain ⟨J, hJ, j1, j2⟩ := cCloseTag (w := w) hg hB4 none (fun q h => by cases h) hG hok hV
            refine ⟨J, ?_, j1, qFrT_of j2⟩
            have hL : fX4_lastOpenOf 107 qm (qC w I) = some (qm, qC w I) := by
              have hd := hV.1.1
              rw [hst] at hd
              simp only [List.length_nil] at hd
              unfold fX4_lastOpenOf
              rw [show (10000 : Nat) = 9999 + 1 from rfl]
              simp (disch := omega) only [↓qlet, eq_self, qzg_t, qzb_some, ↓reduceIte, not_or, not_false_eq_true, not_true_eq_false, and_true, true_and, and_self, or_false, false_or, true_or, or_true, and_false, false_and, qlit, qneg, qof, qn_add, qn_mul, qn_s, qn_z, qn_d, qn_dz, qm_1, qt_1, qt_0, qb_0, qb_1, qb_01, qb01b, q01_0, q01_1, qo_s, qo_n, qn_c, qn_le, qn_lt, qn_eq, qn_ne_m, qm_ne_n, qm_lt, qm_le, qn_lt_m, qn_le_m, qn_sub, qn_div, qn_mod, qle_t, qle_f, qlt_t, qlt_f, qeq_t, qeq_f, Nat.add_sub_cancel, qC_I, qC_s, qU_s, qU_a, qU_k, qk_1, qk_2, qk_3, qk_4, qk_5, qk_6, qk_7, qk_68, qk_69, qk_70, qk_71, qk_72, qk_91, qk_92, qk_93, qk_94, qk_95, qk_96, qk_97, qk_98, qk_99, qk_100, qk_101, qk_102, qk_103, qk_104, qk_105, qk_106, qk_107, qk_108, qk_109, qk_476, qk_477, hd, fX4_lastOpenOf_7]
            simp only [List.head?_nil, Option.map_none, qo_n] at hU
            rw [qo_n] at hJ
            simp (disch := omega) only [↓qlet, eq_self, qzg_t, qzb_some, ↓reduceIte, not_or, not_false_eq_true, not_true_eq_false, and_true, true_and, and_self, or_false, false_or, true_or, or_true, and_false, false_and, qlit, qneg, qof, qn_add, qn_mul, qn_s, qn_z, qn_d, qn_dz, qm_1, qt_1, qt_0, qb_0, qb_1, qb_01, qb01b, q01_0, q01_1, qo_s, qo_n, qn_c, qn_le, qn_lt, qn_eq, qn_ne_m, qm_ne_n, qm_lt, qm_le, qn_lt_m, qn_le_m, qn_sub, qn_div, qn_mod, qle_t, qle_f, qlt_t, qlt_f, qeq_t, qeq_f, Nat.add_sub_cancel, qC_I, qC_s, qU_s, qU_a, qU_k, qRw_k _ _ hx, qRw_k1 _ _ hx, qRw_k2 _ _ hx, qRw_l1 _ _ hx, qRw_l2 _ _ hx, qRw_r0 _ _ hx, qRw_r1 _ _ hx, qk_1, qk_2, qk_3, qk_4, qk_5, qk_6, qk_7, qk_68, qk_69, qk_70, qk_71, qk_72, qk_91, qk_92, qk_93, qk_94, qk_95, qk_96, qk_97, qk_98, qk_99, qk_100, qk_101, qk_102, qk_103, qk_104, qk_105, qk_106, qk_107, qk_108, qk_109, qk_476, qk_477, qr_1_0, qr_1_1, qr_1_2, qr_1_3, qr_1_4, qr_1_5, qr_2_0, qr_2_1, qr_2_2, qr_2_3, qr_2_4, qr_68_0, qr_68_1, qr_91_0, qr_91_1, qr_91_2, qr_91_3, qr_91_4, qr_91_5, qr_91_6, qr_91_7, qr_91_10, qr_91_11, qr_91_14, qr_92_0, qr_92_1, qr_92_2, qr_92_3, qr_92_4, qr_98_0, qr_98_1, qr_107_0, qr_107_1, qr_107_2, qr_476_0, qr_476_1, qr_476_2, k1, k2, c3, hU, hL, hJ]
          | cons y st =>
            rw [hst] at hU
            have hy := (hz.2.1 y (by rw [hst]; simp)).1
            have hL := cLast (w := w) qSt_107 hz hV.1 (e := y.1) (by omega)
            have hl := hz.1
            rw [hst] at hL hl
            simp only [List.length_cons] at hl
            have e0 : qLast (y :: st) y.1 = some st.length := by unfold qLast; rw [if_pos rfl]
            rw [e0] at hL
            obtain ⟨J, hJ, j1, j2⟩ := cCloseTag (w := w) hg hB4 (some st.length) (fun q h => by injection h; omega) hG hok hV
            refine ⟨J, ?_, j1, qFrT_of j2⟩
            simp only [List.head?_cons, Option.map_some, qo_s] at hU
            rw [qo_s] at hJ hL
            simp (disch := omega) only [↓qlet, eq_self, qzg_t, qzb_some, ↓reduceIte, not_or, not_false_eq_true, not_true_eq_false, and_true, true_and, and_self, or_false, false_or, true_or, or_true, and_false, false_and, qlit, qneg, qof, qn_add, qn_mul, qn_s, qn_z, qn_d, qn_dz, qm_1, qt_1, qt_0, qb_0, qb_1, qb_01, qb01b, q01_0, q01_1, qo_s, qo_n, qn_c, qn_le, qn_lt, qn_eq, qn_ne_m, qm_ne_n, qm_lt, qm_le, qn_lt_m, qn_le_m, qn_sub, qn_div, qn_mod, qle_t, qle_f, qlt_t, qlt_f, qeq_t, qeq_f, Nat.add_sub_cancel, qC_I, qC_s, qU_s, qU_a, qU_k, qRw_k _ _ hx, qRw_k1 _ _ hx, qRw_k2 _ _ hx, qRw_l1 _ _ hx, qRw_l2 _ _ hx, qRw_r0 _ _ hx, qRw_r1 _ _ hx, qk_1, qk_2, qk_3, qk_4, qk_5, qk_6, qk_7, qk_68, qk_69, qk_70, qk_71, qk_72, qk_91, qk_92, qk_93, qk_94, qk_95, qk_96, qk_97, qk_98, qk_99, qk_100, qk_101, qk_102, qk_103, qk_104, qk_105, qk_106, qk_107, qk_108, qk_109, qk_476, qk_477, qr_1_0, qr_1_1, qr_1_2, qr_1_3, qr_1_4, qr_1_5, qr_2_0, qr_2_1, qr_2_2, qr_2_3, qr_2_4, qr_68_0, qr_68_1, qr_91_0, qr_91_1, qr_91_2, qr_91_3, qr_91_4, qr_91_5, qr_91_6, qr_91_7, qr_91_10, qr_91_11, qr_91_14, qr_92_0, qr_92_1, qr_92_2, qr_92_3, qr_92_4, qr_98_0, qr_98_1, qr_107_0, qr_107_1, qr_107_2, qr_476_0, qr_476_1, qr_476_2, k1, k2, c3, hU, hL, hJ]
        · rw [if_neg c3]
          by_cases c4 : s = 4
          · obtain ⟨l, h1, h2, h3⟩ := hkk.2.2.1 c4
            have h3 : v = qn l := h3
            subst h3
            have hc := (qch l (by omega)).1
            obtain ⟨J, hJ, j1, j2⟩ := cRd (w := w) (t := 10) (l := l) (by omega) (by omega) (fun h => by omega) hp hg hB4 hG hok hV
            refine ⟨J, ?_, ?_, qFrT_of j2⟩
            · simp (disch := omega) only [↓qlet, eq_self, qzg_t, qzb_some, ↓reduceIte, not_or, not_false_eq_true, not_true_eq_false, and_true, true_and, and_self, or_false, false_or, true_or, or_true, and_false, false_and, qlit, qneg, qof, qn_add, qn_mul, qn_s, qn_z, qn_d, qn_dz, qm_1, qt_1, qt_0, qb_0, qb_1, qb_01, qb01b, q01_0, q01_1, qo_s, qo_n, qn_c, qn_le, qn_lt, qn_eq, qn_ne_m, qm_ne_n, qm_lt, qm_le, qn_lt_m, qn_le_m, qn_sub, qn_div, qn_mod, qle_t, qle_f, qlt_t, qlt_f, qeq_t, qeq_f, Nat.add_sub_cancel, qC_I, qC_s, qU_s, qU_a, qU_k, qRw_k _ _ hx, qRw_k1 _ _ hx, qRw_k2 _ _ hx, qRw_l1 _ _ hx, qRw_l2 _ _ hx, qRw_r0 _ _ hx, qRw_r1 _ _ hx, qk_1, qk_2, qk_3, qk_4, qk_5, qk_6, qk_7, qk_68, qk_69, qk_70, qk_71, qk_72, qk_91, qk_92, qk_93, qk_94, qk_95, qk_96, qk_97, qk_98, qk_99, qk_100, qk_101, qk_102, qk_103, qk_104, qk_105, qk_106, qk_107, qk_108, qk_109, qk_476, qk_477, k1, k2, c4, hc, hJ]
            · rw [if_pos c4, qn_c (by omega)]; exact j1
          · rw [if_neg c4]
            by_cases c5 : s = 5
            · rw [if_pos c5]
              have hLn := cLine (w := w) hx hk hn (i := i) (by omega) fun k hk => (hks k hk).1
              cases hq : qLine ks i with
              | true =>
                rw [hq] at hLn
                refine ⟨I, ?_, by simpa using hV, qFrT_refl _ I⟩
                simp (disch := omega) only [↓qlet, eq_self, qzg_t, qzb_some, ↓reduceIte, not_or, not_false_eq_true, not_true_eq_false, and_true, true_and, and_self, or_false, false_or, true_or, or_true, and_false, false_and, qlit, qneg, qof, qn_add, qn_mul, qn_s, qn_z, qn_d, qn_dz, qm_1, qt_1, qt_0, qb_0, qb_1, qb_01, qb01b, q01_0, q01_1, qo_s, qo_n, qn_c, qn_le, qn_lt, qn_eq, qn_ne_m, qm_ne_n, qm_lt, qm_le, qn_lt_m, qn_le_m, qn_sub, qn_div, qn_mod, qle_t, qle_f, qlt_t, qlt_f, qeq_t, qeq_f, Nat.add_sub_cancel, qC_I, qC_s, qU_s, qU_a, qU_k, qRw_k _ _ hx, qRw_k1 _ _ hx, qRw_k2 _ _ hx, qRw_l1 _ _ hx, qRw_l2 _ _ hx, qRw_r0 _ _ hx, qRw_r1 _ _ hx, qk_1, qk_2, qk_3, qk_4, qk_5, qk_6, qk_7, qk_68, qk_69, qk_70, qk_71, qk_72, qk_91, qk_92, qk_93, qk_94, qk_95, qk_96, qk_97, qk_98, qk_99, qk_100, qk_101, qk_102, qk_103, qk_104, qk_105, qk_106, qk_107, qk_108, qk_109, qk_476, qk_477, k1, k2, c5, hLn, qb_t]
              | false =>
                rw [hq] at hLn
                obtain ⟨J, hJ, j1, j2⟩ := cRd (w := w) (t := 10) (l := 32) (by omega) (by omega) (fun h => by omega) hp hg hB4 hG hok hV
                refine ⟨J, ?_, by simpa using j1, qFrT_of j2⟩
                simp (disch := omega) only [↓qlet, eq_self, qzg_t, qzb_some, ↓reduceIte, not_or, not_false_eq_true, not_true_eq_false, and_true, true_and, and_self, or_false, false_or, true_or, or_true, and_false, false_and, qlit, qneg, qof, qn_add, qn_mul, qn_s, qn_z, qn_d, qn_dz, qm_1, qt_1, qt_0, qb_0, qb_1, qb_01, qb01b, q01_0, q01_1, qo_s, qo_n, qn_c, qn_le, qn_lt, qn_eq, qn_ne_m, qm_ne_n, qm_lt, qm_le, qn_lt_m, qn_le_m, qn_sub, qn_div, qn_mod, qle_t, qle_f, qlt_t, qlt_f, qeq_t, qeq_f, Nat.add_sub_cancel, qC_I, qC_s, qU_s, qU_a, qU_k, qRw_k _ _ hx, qRw_k1 _ _ hx, qRw_k2 _ _ hx, qRw_l1 _ _ hx, qRw_l2 _ _ hx, qRw_r0 _ _ hx, qRw_r1 _ _ hx, qk_1, qk_2, qk_3, qk_4, qk_5, qk_6, qk_7, qk_68, qk_69, qk_70, qk_71, qk_72, qk_91, qk_92, qk_93, qk_94, qk_95, qk_96, qk_97, qk_98, qk_99, qk_100, qk_101, qk_102, qk_103, qk_104, qk_105, qk_106, qk_107, qk_108, qk_109, qk_476, qk_477, k1, k2, c5, hLn, qb_f, hJ]
            · rw [if_neg c5]
              by_cases c6 : s = 6
              · rw [if_pos c6]
                obtain ⟨e, h1, h2⟩ := hkk.2.2.2.1 c6
                have h2 : v = qn e := h2
                subst h2
                obtain ⟨J, hJ, j1, j2⟩ := hE e p B V I h1 hp hB hG hEn hok hV
                refine ⟨J, ?_, ?_, j2⟩
                · simp (disch := omega) only [↓qlet, eq_self, qzg_t, qzb_some, ↓reduceIte, not_or, not_false_eq_true, not_true_eq_false, and_true, true_and, and_self, or_false, false_or, true_or, or_true, and_false, false_and, qlit, qneg, qof, qn_add, qn_mul, qn_s, qn_z, qn_d, qn_dz, qm_1, qt_1, qt_0, qb_0, qb_1, qb_01, qb01b, q01_0, q01_1, qo_s, qo_n, qn_c, qn_le, qn_lt, qn_eq, qn_ne_m, qm_ne_n, qm_lt, qm_le, qn_lt_m, qn_le_m, qn_sub, qn_div, qn_mod, qle_t, qle_f, qlt_t, qlt_f, qeq_t, qeq_f, Nat.add_sub_cancel, qC_I, qC_s, qU_s, qU_a, qU_k, qRw_k _ _ hx, qRw_k1 _ _ hx, qRw_k2 _ _ hx, qRw_l1 _ _ hx, qRw_l2 _ _ hx, qRw_r0 _ _ hx, qRw_r1 _ _ hx, qk_1, qk_2, qk_3, qk_4, qk_5, qk_6, qk_7, qk_68, qk_69, qk_70, qk_71, qk_72, qk_91, qk_92, qk_93, qk_94, qk_95, qk_96, qk_97, qk_98, qk_99, qk_100, qk_101, qk_102, qk_103, qk_104, qk_105, qk_106, qk_107, qk_108, qk_109, qk_476, qk_477, k1, k2, c6, hJ]
                · rw [qn_c (by omega)]; exact j1
              · rw [if_neg c6]
                obtain ⟨J, hJ, j1, j2⟩ := cErr (w := w) hV (qVok_err hok hB4) 5
                refine ⟨J, ?_, j1, qFrT_of j2⟩
                simp (disch := omega) only [↓qlet, eq_self, qzg_t, qzb_some, ↓reduceIte, not_or, not_false_eq_true, not_true_eq_false, and_true, true_and, and_self, or_false, false_or, true_or, or_true, and_false, false_and, qlit, qneg, qof, qn_add, qn_mul, qn_s, qn_z, qn_d, qn_dz, qm_1, qt_1, qt_0, qb_0, qb_1, qb_01, qb01b, q01_0, q01_1, qo_s, qo_n, qn_c, qn_le, qn_lt, qn_eq, qn_ne_m, qm_ne_n, qm_lt, qm_le, qn_lt_m, qn_le_m, qn_sub, qn_div, qn_mod, qle_t, qle_f, qlt_t, qlt_f, qeq_t, qeq_f, Nat.add_sub_cancel, qC_I, qC_s, qU_s, qU_a, qU_k, qRw_k _ _ hx, qRw_k1 _ _ hx, qRw_k2 _ _ hx, qRw_l1 _ _ hx, qRw_l2 _ _ hx, qRw_r0 _ _ hx, qRw_r1 _ _ hx, qk_1, qk_2, qk_3, qk_4, qk_5, qk_6, qk_7, qk_68, qk_69, qk_70, qk_71, qk_72, qk_91, qk_92, qk_93, qk_94, qk_95, qk_96, qk_97, qk_98, qk_99, qk_100, qk_101, qk_102, qk_103, qk_104, qk_105, qk_106, qk_107, qk_108, qk_109, qk_476, qk_477, k1, k2, hJ]
/-- a token of a row, behind the telling of its place -/
theorem cStep (hg : qGok G) (hx : qRw x n) (hn : ks.length ≤ n) (h60 : ks.length ≤ 600) (hks : ∀ k ∈ ks, qKok k) (hsw : ∀ j, j < 4 → sw j ≤ 2)
    (hE : ∀ e p B V I, e < 6 → p ≤ 600 → B + c ≤ 4320 → qCG G I → qCEn sw en ws I → qVok G B V → qCV I p V → ∃ J, fX2_goThroughEntity g 91 (qn e) (qn ws.length) (qC w I) = some (qn 0, qC w J) ∧ qCV J p (ent e p V) ∧ qFrT ws.length I J)
    (hc : 1 ≤ c) (hp : p ≤ 600) (hG : qCG G I) (hEn : qCEn sw en ws I) (hk : qCK I x ks) {Q : qQ} {C : Nat} (hQ : qQok G C i Q) (hB : C + c ≤ 4320) (hV : qCV I p Q.2.2.2) {s : Nat} {v : Int32} (hi : ks[i]? = some (s, v)) (k : Nat → Nat → Int32 → Int32 → Int32 → Int32 → Int32 → zM → Option (Int32 × zM)) : ∃ J, fX2_goThrough_52 g k 91 x (qn ws.length) (qn Q.1) (qn Q.2.1) (qn Q.2.2.1) (qn i) (qn s) v 91 (qn p) (qC w I) = fX2_goThrough_184 g k 91 x (qn ws.length) (qn (qStep G sw ent ks i p Q).1) (qn (qStep G sw ent ks i p Q).2.1) (qn (qStep G sw ent ks i p Q).2.2.1) (qn i) (qC w J) ∧ qCV J p (qStep G sw ent ks i p Q).2.2.2 ∧ qFrT ws.length I J := by
  obtain ⟨⟨B, hok, hBC⟩, hii, hcov⟩ := hQ
  have hkk := hks _ (List.mem_of_getElem? hi)
  have h8 := hkk.1
  have hil := (List.getElem?_eq_some_iff.mp hi).1
  have h15 := hV.2.2.2.2.2.2.2
  have eU : qU I 91 15 (qn p) = I := qU_same h15
  unfold qStep fX2_goThrough_52
  rw [hi]
  dsimp only
  by_cases c1 : 0 < Q.2.1
  · rw [if_pos c1]
    obtain ⟨cv, hcv⟩ : ∃ cv, cv = (if s = 7 then Q.2.1 + 1 else if s = 8 then Q.2.1 - 1 else Q.2.1) := ⟨_, rfl⟩
    rw [← hcv]
    have hcvb : cv ≤ Q.2.1 + 1 := by rw [hcv]; split; omega; split <;> omega
    have h85 : ∃ J, (if 0 < cv ∧ Q.2.2.1 = 2 then fX2_goThrough_184 g k 91 x (qn ws.length) (qn Q.1) (qn cv) (qn Q.2.2.1) (qn i) (qC w J) = (zb (fX2_plainLetter (qn s) v (qC w I)) fun r32 M33 => (zg (zk M33 91 = 2) (zb (fX2_readThing 91 10 r32 M33) fun r36 M37 => (fX2_goThrough_184 g k 91 x (qn ws.length) (qn Q.1) (qn cv) (qn Q.2.2.1) (qn i) M37)))) else J = I) ∧ qCV J p (if 0 < cv ∧ Q.2.2.1 = 2 then qRd G 10 (qPlain s v) p Q.2.2.2 else Q.2.2.2) ∧ qFrT ws.length I J := by
      by_cases cc : 0 < cv ∧ Q.2.2.1 = 2
      · rw [if_pos cc]
        obtain ⟨p1, p2⟩ := cPlain hkk (qC w I)
        obtain ⟨J, hJ, j1, j2⟩ := cRd (w := w) (t := 10) (l := qPlain s v) (by omega) p2 (fun h => by omega) hp hg (by omega : B ≤ 4319) hG hok hV
        refine ⟨J, ?_, j1, qFrT_of j2⟩
        rw [if_pos cc]
        simp (disch := omega) only [↓qlet, eq_self, qzg_t, qzb_some, ↓reduceIte, not_or, not_false_eq_true, not_true_eq_false, and_true, true_and, and_self, or_false, false_or, true_or, or_true, and_false, false_and, qlit, qneg, qof, qn_add, qn_mul, qn_s, qn_z, qn_d, qn_dz, qm_1, qt_1, qt_0, qb_0, qb_1, qb_01, qb01b, q01_0, q01_1, qo_s, qo_n, qn_c, qn_le, qn_lt, qn_eq, qn_ne_m, qm_ne_n, qm_lt, qm_le, qn_lt_m, qn_le_m, qn_sub, qn_div, qn_mod, qle_t, qle_f, qlt_t, qlt_f, qeq_t, qeq_f, Nat.add_sub_cancel, qC_I, qC_s, qU_s, qU_a, qU_k, qk_1, qk_2, qk_3, qk_4, qk_5, qk_6, qk_7, qk_68, qk_69, qk_70, qk_71, qk_72, qk_91, qk_92, qk_93, qk_94, qk_95, qk_96, qk_97, qk_98, qk_99, qk_100, qk_101, qk_102, qk_103, qk_104, qk_105, qk_106, qk_107, qk_108, qk_109, qk_476, qk_477, p1, hJ]
      · rw [if_neg cc]
        exact ⟨I, by rw [if_neg cc], hV, qFrT_refl _ I⟩
    obtain ⟨J, e1, v1, f1⟩ := h85
    refine ⟨J, ?_, v1, f1⟩
    have hgo : ∀ (a b : Int32), a + b = qn cv → fX2_goThrough_85 g k 91 x (qn ws.length) (qn Q.1) (qn Q.2.2.1) (qn i) (qn s) v a b (qC w I) = fX2_goThrough_184 g k 91 x (qn ws.length) (qn Q.1) (qn cv) (qn Q.2.2.1) (qn i) (qC w J) := by
      intro a b hab
      unfold fX2_goThrough_85
      by_cases cc : 0 < cv ∧ Q.2.2.1 = 2
      · rw [if_pos cc] at e1
        rw [e1]
        simp (disch := omega) only [↓qlet, eq_self, qzg_t, qzb_some, ↓reduceIte, not_or, not_false_eq_true, not_true_eq_false, and_true, true_and, and_self, or_false, false_or, true_or, or_true, and_false, false_and, qlit, qneg, qof, qn_add, qn_mul, qn_s, qn_z, qn_d, qn_dz, qm_1, qt_1, qt_0, qb_0, qb_1, qb_01, qb01b, q01_0, q01_1, qo_s, qo_n, qn_c, qn_le, qn_lt, qn_eq, qn_ne_m, qm_ne_n, qm_lt, qm_le, qn_lt_m, qn_le_m, qn_sub, qn_div, qn_mod, qle_t, qle_f, qlt_t, qlt_f, qeq_t, qeq_f, Nat.add_sub_cancel, qC_I, qC_s, qU_s, qU_a, qU_k, hab]
      · rw [if_neg cc] at e1
        subst e1
        by_cases c3 : 0 < cv
        · have c4 : ¬ Q.2.2.1 = 2 := fun e => cc ⟨c3, e⟩
          simp (disch := omega) only [↓qlet, eq_self, qzg_t, qzb_some, ↓reduceIte, not_or, not_false_eq_true, not_true_eq_false, and_true, true_and, and_self, or_false, false_or, true_or, or_true, and_false, false_and, qlit, qneg, qof, qn_add, qn_mul, qn_s, qn_z, qn_d, qn_dz, qm_1, qt_1, qt_0, qb_0, qb_1, qb_01, qb01b, q01_0, q01_1, qo_s, qo_n, qn_c, qn_le, qn_lt, qn_eq, qn_ne_m, qm_ne_n, qm_lt, qm_le, qn_lt_m, qn_le_m, qn_sub, qn_div, qn_mod, qle_t, qle_f, qlt_t, qlt_f, qeq_t, qeq_f, Nat.add_sub_cancel, qC_I, qC_s, qU_s, qU_a, qU_k, hab]
        · simp (disch := omega) only [↓qlet, eq_self, qzg_t, qzb_some, ↓reduceIte, not_or, not_false_eq_true, not_true_eq_false, and_true, true_and, and_self, or_false, false_or, true_or, or_true, and_false, false_and, qlit, qneg, qof, qn_add, qn_mul, qn_s, qn_z, qn_d, qn_dz, qm_1, qt_1, qt_0, qb_0, qb_1, qb_01, qb01b, q01_0, q01_1, qo_s, qo_n, qn_c, qn_le, qn_lt, qn_eq, qn_ne_m, qm_ne_n, qm_lt, qm_le, qn_lt_m, qn_le_m, qn_sub, qn_div, qn_mod, qle_t, qle_f, qlt_t, qlt_f, qeq_t, qeq_f, Nat.add_sub_cancel, qC_I, qC_s, qU_s, qU_a, qU_k, hab]
    by_cases c7 : s = 7
    · rw [if_pos c7] at hcv
      have hgo := hgo (qn Q.2.1) (qn 1) (by rw [qn_add, hcv])
      simp (disch := omega) only [↓qlet, eq_self, qzg_t, qzb_some, ↓reduceIte, not_or, not_false_eq_true, not_true_eq_false, and_true, true_and, and_self, or_false, false_or, true_or, or_true, and_false, false_and, qlit, qneg, qof, qn_add, qn_mul, qn_s, qn_z, qn_d, qn_dz, qm_1, qt_1, qt_0, qb_0, qb_1, qb_01, qb01b, q01_0, q01_1, qo_s, qo_n, qn_c, qn_le, qn_lt, qn_eq, qn_ne_m, qm_ne_n, qm_lt, qm_le, qn_lt_m, qn_le_m, qn_sub, qn_div, qn_mod, qle_t, qle_f, qlt_t, qlt_f, qeq_t, qeq_f, Nat.add_sub_cancel, qC_I, qC_s, qU_s, qU_a, qU_k, qk_1, qk_2, qk_3, qk_4, qk_5, qk_6, qk_7, qk_68, qk_69, qk_70, qk_71, qk_72, qk_91, qk_92, qk_93, qk_94, qk_95, qk_96, qk_97, qk_98, qk_99, qk_100, qk_101, qk_102, qk_103, qk_104, qk_105, qk_106, qk_107, qk_108, qk_109, qk_476, qk_477, eU, c7] at hgo ⊢
      exact hgo
    · rw [if_neg c7] at hcv
      by_cases c9 : s = 8
      · rw [if_pos c9] at hcv
        have hgo := hgo (qn Q.2.1) qm (by rw [qn_dd c1, hcv])
        simp (disch := omega) only [↓qlet, eq_self, qzg_t, qzb_some, ↓reduceIte, not_or, not_false_eq_true, not_true_eq_false, and_true, true_and, and_self, or_false, false_or, true_or, or_true, and_false, false_and, qlit, qneg, qof, qn_add, qn_mul, qn_s, qn_z, qn_d, qn_dz, qm_1, qt_1, qt_0, qb_0, qb_1, qb_01, qb01b, q01_0, q01_1, qo_s, qo_n, qn_c, qn_le, qn_lt, qn_eq, qn_ne_m, qm_ne_n, qm_lt, qm_le, qn_lt_m, qn_le_m, qn_sub, qn_div, qn_mod, qle_t, qle_f, qlt_t, qlt_f, qeq_t, qeq_f, Nat.add_sub_cancel, qC_I, qC_s, qU_s, qU_a, qU_k, qk_1, qk_2, qk_3, qk_4, qk_5, qk_6, qk_7, qk_68, qk_69, qk_70, qk_71, qk_72, qk_91, qk_92, qk_93, qk_94, qk_95, qk_96, qk_97, qk_98, qk_99, qk_100, qk_101, qk_102, qk_103, qk_104, qk_105, qk_106, qk_107, qk_108, qk_109, qk_476, qk_477, eU, c9] at hgo ⊢
        exact hgo
      · rw [if_neg c9] at hcv
        have hgo := hgo (qn Q.2.1) (qn 0) (by rw [qn_add, hcv]; rfl)
        simp (disch := omega) only [↓qlet, eq_self, qzg_t, qzb_some, ↓reduceIte, not_or, not_false_eq_true, not_true_eq_false, and_true, true_and, and_self, or_false, false_or, true_or, or_true, and_false, false_and, qlit, qneg, qof, qn_add, qn_mul, qn_s, qn_z, qn_d, qn_dz, qm_1, qt_1, qt_0, qb_0, qb_1, qb_01, qb01b, q01_0, q01_1, qo_s, qo_n, qn_c, qn_le, qn_lt, qn_eq, qn_ne_m, qm_ne_n, qm_lt, qm_le, qn_lt_m, qn_le_m, qn_sub, qn_div, qn_mod, qle_t, qle_f, qlt_t, qlt_f, qeq_t, qeq_f, Nat.add_sub_cancel, qC_I, qC_s, qU_s, qU_a, qU_k, qk_1, qk_2, qk_3, qk_4, qk_5, qk_6, qk_7, qk_68, qk_69, qk_70, qk_71, qk_72, qk_91, qk_92, qk_93, qk_94, qk_95, qk_96, qk_97, qk_98, qk_99, qk_100, qk_101, qk_102, qk_103, qk_104, qk_105, qk_106, qk_107, qk_108, qk_109, qk_476, qk_477, eU] at hgo ⊢
        exact hgo
  · rw [if_neg c1]
    have e0 : Q.2.1 = 0 := by omega
    by_cases c7 : s = 7
    · rw [if_pos c7]
      obtain ⟨j, h1, h2⟩ := hkk.2.2.2.2 c7
      have h2 : v = qn j := h2
      subst h2
      have hj := hsw j h1
      have hsj := hEn.2.1 j h1
      rw [qn_c (by omega)]
      by_cases c8 : sw j = 0
      · rw [if_pos c8]
        refine ⟨I, ?_, hV, qFrT_refl _ I⟩
        simp (disch := omega) only [↓qlet, eq_self, qzg_t, qzb_some, ↓reduceIte, not_or, not_false_eq_true, not_true_eq_false, and_true, true_and, and_self, or_false, false_or, true_or, or_true, and_false, false_and, qlit, qneg, qof, qn_add, qn_mul, qn_s, qn_z, qn_d, qn_dz, qm_1, qt_1, qt_0, qb_0, qb_1, qb_01, qb01b, q01_0, q01_1, qo_s, qo_n, qn_c, qn_le, qn_lt, qn_eq, qn_ne_m, qm_ne_n, qm_lt, qm_le, qn_lt_m, qn_le_m, qn_sub, qn_div, qn_mod, qle_t, qle_f, qlt_t, qlt_f, qeq_t, qeq_f, Nat.add_sub_cancel, qC_I, qC_s, qU_s, qU_a, qU_k, qk_1, qk_2, qk_3, qk_4, qk_5, qk_6, qk_7, qk_68, qk_69, qk_70, qk_71, qk_72, qk_91, qk_92, qk_93, qk_94, qk_95, qk_96, qk_97, qk_98, qk_99, qk_100, qk_101, qk_102, qk_103, qk_104, qk_105, qk_106, qk_107, qk_108, qk_109, qk_476, qk_477, ql_3, ql_4, ql_5, ql_6, ql_7, ql_69, ql_70, ql_71, ql_72, ql_93, ql_94, ql_95, ql_96, ql_97, ql_99, ql_100, ql_101, ql_102, ql_103, ql_104, ql_105, ql_106, ql_108, ql_109, ql_477, qr_1_0, qr_1_1, qr_1_2, qr_1_3, qr_1_4, qr_1_5, qr_2_0, qr_2_1, qr_2_2, qr_2_3, qr_2_4, qr_68_0, qr_68_1, qr_91_0, qr_91_1, qr_91_2, qr_91_3, qr_91_4, qr_91_5, qr_91_6, qr_91_7, qr_91_10, qr_91_11, qr_91_14, qr_92_0, qr_92_1, qr_92_2, qr_92_3, qr_92_4, qr_98_0, qr_98_1, qr_107_0, qr_107_1, qr_107_2, qr_476_0, qr_476_1, qr_476_2, eU, e0, c7, hsj, c8, fX2_goThrough_142, fX2_goThrough_154]
      · rw [if_neg c8]
        refine ⟨I, ?_, hV, qFrT_refl _ I⟩
        simp (disch := omega) only [↓qlet, eq_self, qzg_t, qzb_some, ↓reduceIte, not_or, not_false_eq_true, not_true_eq_false, and_true, true_and, and_self, or_false, false_or, true_or, or_true, and_false, false_and, qlit, qneg, qof, qn_add, qn_mul, qn_s, qn_z, qn_d, qn_dz, qm_1, qt_1, qt_0, qb_0, qb_1, qb_01, qb01b, q01_0, q01_1, qo_s, qo_n, qn_c, qn_le, qn_lt, qn_eq, qn_ne_m, qm_ne_n, qm_lt, qm_le, qn_lt_m, qn_le_m, qn_sub, qn_div, qn_mod, qle_t, qle_f, qlt_t, qlt_f, qeq_t, qeq_f, Nat.add_sub_cancel, qC_I, qC_s, qU_s, qU_a, qU_k, qk_1, qk_2, qk_3, qk_4, qk_5, qk_6, qk_7, qk_68, qk_69, qk_70, qk_71, qk_72, qk_91, qk_92, qk_93, qk_94, qk_95, qk_96, qk_97, qk_98, qk_99, qk_100, qk_101, qk_102, qk_103, qk_104, qk_105, qk_106, qk_107, qk_108, qk_109, qk_476, qk_477, ql_3, ql_4, ql_5, ql_6, ql_7, ql_69, ql_70, ql_71, ql_72, ql_93, ql_94, ql_95, ql_96, ql_97, ql_99, ql_100, ql_101, ql_102, ql_103, ql_104, ql_105, ql_106, ql_108, ql_109, ql_477, qr_1_0, qr_1_1, qr_1_2, qr_1_3, qr_1_4, qr_1_5, qr_2_0, qr_2_1, qr_2_2, qr_2_3, qr_2_4, qr_68_0, qr_68_1, qr_91_0, qr_91_1, qr_91_2, qr_91_3, qr_91_4, qr_91_5, qr_91_6, qr_91_7, qr_91_10, qr_91_11, qr_91_14, qr_92_0, qr_92_1, qr_92_2, qr_92_3, qr_92_4, qr_98_0, qr_98_1, qr_107_0, qr_107_1, qr_107_2, qr_476_0, qr_476_1, qr_476_2, eU, e0, c7, hsj, fX2_goThrough_142, fX2_goThrough_154, Nat.add_zero]
    · rw [if_neg c7]
      by_cases c8 : s = 8 ∧ 0 < Q.1
      · rw [if_pos c8]
        refine ⟨I, ?_, hV, qFrT_refl _ I⟩
        have := qn_dd c8.2
        simp (disch := omega) only [↓qlet, eq_self, qzg_t, qzb_some, ↓reduceIte, not_or, not_false_eq_true, not_true_eq_false, and_true, true_and, and_self, or_false, false_or, true_or, or_true, and_false, false_and, qlit, qneg, qof, qn_add, qn_mul, qn_s, qn_z, qn_d, qn_dz, qm_1, qt_1, qt_0, qb_0, qb_1, qb_01, qb01b, q01_0, q01_1, qo_s, qo_n, qn_c, qn_le, qn_lt, qn_eq, qn_ne_m, qm_ne_n, qm_lt, qm_le, qn_lt_m, qn_le_m, qn_sub, qn_div, qn_mod, qle_t, qle_f, qlt_t, qlt_f, qeq_t, qeq_f, Nat.add_sub_cancel, qC_I, qC_s, qU_s, qU_a, qU_k, qk_1, qk_2, qk_3, qk_4, qk_5, qk_6, qk_7, qk_68, qk_69, qk_70, qk_71, qk_72, qk_91, qk_92, qk_93, qk_94, qk_95, qk_96, qk_97, qk_98, qk_99, qk_100, qk_101, qk_102, qk_103, qk_104, qk_105, qk_106, qk_107, qk_108, qk_109, qk_476, qk_477, eU, e0, c8.1, this]
      · rw [if_neg c8]
        obtain ⟨J, hJ, j1, j2⟩ := cTok (w := w) hg hx hn h60 hks hE hc hp (B := B) (by omega) hG hEn hk hok hV hi
        refine ⟨J, ?_, j1, j2⟩
        by_cases c9 : s = 8
        · have e1 : Q.1 = 0 := by omega
          simp (disch := omega) only [↓qlet, eq_self, qzg_t, qzb_some, ↓reduceIte, not_or, not_false_eq_true, not_true_eq_false, and_true, true_and, and_self, or_false, false_or, true_or, or_true, and_false, false_and, qlit, qneg, qof, qn_add, qn_mul, qn_s, qn_z, qn_d, qn_dz, qm_1, qt_1, qt_0, qb_0, qb_1, qb_01, qb01b, q01_0, q01_1, qo_s, qo_n, qn_c, qn_le, qn_lt, qn_eq, qn_ne_m, qm_ne_n, qm_lt, qm_le, qn_lt_m, qn_le_m, qn_sub, qn_div, qn_mod, qle_t, qle_f, qlt_t, qlt_f, qeq_t, qeq_f, Nat.add_sub_cancel, qC_I, qC_s, qU_s, qU_a, qU_k, qk_1, qk_2, qk_3, qk_4, qk_5, qk_6, qk_7, qk_68, qk_69, qk_70, qk_71, qk_72, qk_91, qk_92, qk_93, qk_94, qk_95, qk_96, qk_97, qk_98, qk_99, qk_100, qk_101, qk_102, qk_103, qk_104, qk_105, qk_106, qk_107, qk_108, qk_109, qk_476, qk_477, eU, e0, e1, c9, fX2_goThrough_176, hJ]
        · simp (disch := omega) only [↓qlet, eq_self, qzg_t, qzb_some, ↓reduceIte, not_or, not_false_eq_true, not_true_eq_false, and_true, true_and, and_self, or_false, false_or, true_or, or_true, and_false, false_and, qlit, qneg, qof, qn_add, qn_mul, qn_s, qn_z, qn_d, qn_dz, qm_1, qt_1, qt_0, qb_0, qb_1, qb_01, qb01b, q01_0, q01_1, qo_s, qo_n, qn_c, qn_le, qn_lt, qn_eq, qn_ne_m, qm_ne_n, qm_lt, qm_le, qn_lt_m, qn_le_m, qn_sub, qn_div, qn_mod, qle_t, qle_f, qlt_t, qlt_f, qeq_t, qeq_f, Nat.add_sub_cancel, qC_I, qC_s, qU_s, qU_a, qU_k, qk_1, qk_2, qk_3, qk_4, qk_5, qk_6, qk_7, qk_68, qk_69, qk_70, qk_71, qk_72, qk_91, qk_92, qk_93, qk_94, qk_95, qk_96, qk_97, qk_98, qk_99, qk_100, qk_101, qk_102, qk_103, qk_104, qk_105, qk_106, qk_107, qk_108, qk_109, qk_476, qk_477, eU, e0, fX2_goThrough_176, hJ]
/-- behind the last token: the unmarked ones -/
theorem cErrs (a b : Nat) (hab : a + b < 100000) : ∀ n j I V m, n < m → V.2.2.2.2.2.length + n ≤ 4920 → j + n = a + b → qCV I p V → ∃ J, fX2_goThrough_228 g m 91 (qn a) (qn b) (qn j) (qC w I) = some (qn 0, qC w J) ∧ qCV J p (qErrs 5 p n V) ∧ qFrC I J := by
  intro n
  induction n with
  | zero =>
    intro j I V m h1 h2 h3 hV
    obtain ⟨m, rfl⟩ : ∃ m', m = m' + 1 := ⟨m - 1, by omega⟩
    refine ⟨I, ?_, hV, qFrC_refl I⟩
    unfold fX2_goThrough_228
    simp (disch := omega) only [↓qlet, eq_self, qzg_t, qzb_some, ↓reduceIte, not_or, not_false_eq_true, not_true_eq_false, and_true, true_and, and_self, or_false, false_or, true_or, or_true, and_false, false_and, qlit, qneg, qof, qn_add, qn_mul, qn_s, qn_z, qn_d, qn_dz, qm_1, qt_1, qt_0, qb_0, qb_1, qb_01, qb01b, q01_0, q01_1, qo_s, qo_n, qn_c, qn_le, qn_lt, qn_eq, qn_ne_m, qm_ne_n, qm_lt, qm_le, qn_lt_m, qn_le_m, qn_sub, qn_div, qn_mod, qle_t, qle_f, qlt_t, qlt_f, qeq_t, qeq_f, Nat.add_sub_cancel, qC_I, qC_s, qU_s, qU_a, qU_k]
  | succ n ih =>
    intro j I V m h1 h2 h3 hV
    obtain ⟨m, rfl⟩ : ∃ m', m = m' + 1 := ⟨m - 1, by omega⟩
    obtain ⟨J, hJ, j1, j2⟩ := cErr (w := w) hV (by omega) 5
    obtain ⟨K, hK, k1, k2⟩ := ih (j + 1) J _ m (by omega) (by simp only [qErr, List.length_cons]; omega) (by omega) j1
    refine ⟨K, ?_, k1, qFrC_tr j2 k2⟩
    unfold fX2_goThrough_228
    simp (disch := omega) only [↓qlet, eq_self, qzg_t, qzb_some, ↓reduceIte, not_or, not_false_eq_true, not_true_eq_false, and_true, true_and, and_self, or_false, false_or, true_or, or_true, and_false, false_and, qlit, qneg, qof, qn_add, qn_mul, qn_s, qn_z, qn_d, qn_dz, qm_1, qt_1, qt_0, qb_0, qb_1, qb_01, qb01b, q01_0, q01_1, qo_s, qo_n, qn_c, qn_le, qn_lt, qn_eq, qn_ne_m, qm_ne_n, qm_lt, qm_le, qn_lt_m, qn_le_m, qn_sub, qn_div, qn_mod, qle_t, qle_f, qlt_t, qlt_f, qeq_t, qeq_f, Nat.add_sub_cancel, qC_I, qC_s, qU_s, qU_a, qU_k, qk_1, qk_2, qk_3, qk_4, qk_5, qk_6, qk_7, qk_68, qk_69, qk_70, qk_71, qk_72, qk_91, qk_92, qk_93, qk_94, qk_95, qk_96, qk_97, qk_98, qk_99, qk_100, qk_101, qk_102, qk_103, qk_104, qk_105, qk_106, qk_107, qk_108, qk_109, qk_476, qk_477, hJ]
    exact hK
end
