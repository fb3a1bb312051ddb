/-! THE CLASS: entities, the text -/
section
variable {w : Bool} {I : Nat → Nat → Int32} {G : qG} {V : qV} {p B x n i : Nat} {ks : List qK} {sw : Nat → Nat} {en : Nat → List qK} {ws : List Nat} {ent : Nat → Nat → qV → qV} {c : Nat} {g : Nat → Nat → Int32 → zM → Option (Int32 × zM)}
theorem cRowE (hg : qGok G) (hx : qRw x n) (hn : ks.length ≤ n) (h60 : ks.length ≤ 600) (hks : ∀ k ∈ ks, qKok k) (hsw : ∀ j, j < 4 → sw j ≤ 2) (hws : 0 < ws.length) (hws3 : ws.length < 3) (hx90 : x ≤ 88)
    (hE : ∀ e p B V I, e < 6 → p ≤ 600 → B + c ≤ 4320 → qCG G I → qCEn sw en ws I → qVok G B V → qCV I p V → ∃ J, fX2_goThroughEntity g 91 (qn e) (qn ws.length) (qC w I) = some (qn 0, qC w J) ∧ qCV J p (ent e p V) ∧ qFrT ws.length I J)
    (hA : ∀ e p B V, e < 6 → p ≤ 600 → qVok G B V → qVok G (B + c) (ent e p V))
    (hc : 2 ≤ c) (hp : p ≤ 600) {C : Nat} (hC : C + c * ks.length ≤ 4320) (hG : qCG G I) (hEn : qCEn sw en ws I) (hk : qCK I x ks) (hok : qVok G C V) (hV : qCV I p V) : ∃ J, fX2_goThrough_b g 91 x (qn ws.length) (qC w I) = some (qn 0, qC w J) ∧ qCV J p (qRow G sw ent ks (some p) V []).1 ∧ qFrT ws.length I J := by
  have hQ : qQok G C 0 (0, 0, 1, V) := ⟨⟨C, hok, by dsimp only; omega⟩, by dsimp only; omega, by dsimp only; omega⟩
  obtain ⟨J, e1, v1, f1⟩ := cLoopE (w := w) hg hx hn h60 hks hsw hws hws3 hx90 hE hA hc hp ks.length 0 (0, 0, 1, V) C I 10000 (by omega) (by omega) hC hG hEn hk hQ hV
  obtain ⟨⟨⟨B, k1, k2⟩, k5, -⟩, -, -⟩ := qLoop_ok hsw hc hA hks h60 (some p) (fun q h => by injection h; omega) ks.length 0 C (0, 0, 1, V) [] (by omega) hQ (fun x h => by cases h)
  obtain ⟨K, e2, v2, f2⟩ := cErrs (w := w) (g := g) (qLoop G sw ent ks (some p) ks.length 0 ((0, 0, 1, V), [])).1.1 (qLoop G sw ent ks (some p) ks.length 0 ((0, 0, 1, V), [])).1.2.1 (by omega) ((qLoop G sw ent ks (some p) ks.length 0 ((0, 0, 1, V), [])).1.1 + (qLoop G sw ent ks (some p) ks.length 0 ((0, 0, 1, V), [])).1.2.1) 0 J _ 10000 (by omega) (by have := k1.2.2.2.2.2.2.2.2; have := k1.2.2.1; omega) (by omega) v1
  refine ⟨K, ?_, v2, qFrT_tr f1 (qFrT_of f2)⟩
  have h15 := v1.2.2.2.2.2.2.2
  have eU : qU J 91 15 (qn p) = J := qU_same h15
  have hlv : (qn ws.length = qn 0) = False := by rw [qn_eq (by omega) (by omega)]; exact eq_false (by omega)
  unfold fX2_goThrough_b
  simp only [qlit]
  rw [e1]
  unfold fX2_goThrough_206 fX2_goThrough_222
  simp (disch := omega) only [↓qlet, eq_self, qzg_t, qzb_some, ↓reduceIte, not_or, not_false_eq_true, not_true_eq_false, and_true, true_and, and_self, or_false, false_or, true_or, or_true, and_false, false_and, qlit, qneg, qof, qn_add, qn_mul, qn_s, qn_z, qn_d, qn_dz, qm_1, qt_1, qt_0, qb_0, qb_1, qb_01, qb01b, q01_0, q01_1, qo_s, qo_n, qn_c, qn_le, qn_lt, qn_eq, qn_ne_m, qm_ne_n, qm_lt, qm_le, qn_lt_m, qn_le_m, qn_sub, qn_div, qn_mod, qle_t, qle_f, qlt_t, qlt_f, qeq_t, qeq_f, Nat.add_sub_cancel, qC_I, qC_s, qU_s, qU_a, qU_k, qk_1, qk_2, qk_3, qk_4, qk_5, qk_6, qk_7, qk_68, qk_69, qk_70, qk_71, qk_72, qk_91, qk_92, qk_93, qk_94, qk_95, qk_96, qk_97, qk_98, qk_99, qk_100, qk_101, qk_102, qk_103, qk_104, qk_105, qk_106, qk_107, qk_108, qk_109, qk_476, qk_477, hlv, h15, eU]
  exact e2
theorem qgT (d x0 x1 : Nat) (x2 : Int32) (M : zM) : fX2_goThrough (d + 1) x0 x1 x2 M = fX2_goThrough_b (fX2_goThrough d) x0 x1 x2 M := rfl
/-- an ENTITY within two others -/
theorem cEnt2 (hB : B + 2 ≤ 4320) (hok : qVok G B V) (hV : qCV I p V) (e : Nat) : ∃ J, fX2_goThroughEntity g 91 (qn e) (qn 2) (qC w I) = some (qn 0, qC w J) ∧ qCV J p (qEnt2 e p V) ∧ qFrT 2 I J := by
  obtain ⟨J, e1, v1, f1⟩ := cErr (w := w) hV (qVok_err hok (by omega)) 4
  refine ⟨J, ?_, v1, qFrT_of f1⟩
  have hl : ∀ m, fX2_goThroughEntity_14 g (m + 1 + 1 + 1) 91 (qn e) (qn 2) (qn 1) (qn 0) (qC w I) = some (qn 0, qC w J) := by
    intro m
    simp (disch := omega) only [↓qlet, eq_self, qzg_t, qzb_some, ↓reduceIte, not_or, not_false_eq_true, not_true_eq_false, and_true, true_and, and_self, or_false, false_or, true_or, or_true, and_false, false_and, qlit, qneg, qof, qn_add, qn_mul, qn_s, qn_z, qn_d, qn_dz, qm_1, qt_1, qt_0, qb_0, qb_1, qb_01, qb01b, q01_0, q01_1, qo_s, qo_n, qn_c, qn_le, qn_lt, qn_eq, qn_ne_m, qm_ne_n, qm_lt, qm_le, qn_lt_m, qn_le_m, qn_sub, qn_div, qn_mod, qle_t, qle_f, qlt_t, qlt_f, qeq_t, qeq_f, Nat.add_sub_cancel, qC_I, qC_s, qU_s, qU_a, qU_k, qk_1, qk_2, qk_3, qk_4, qk_5, qk_6, qk_7, qk_68, qk_69, qk_70, qk_71, qk_72, qk_91, qk_92, qk_93, qk_94, qk_95, qk_96, qk_97, qk_98, qk_99, qk_100, qk_101, qk_102, qk_103, qk_104, qk_105, qk_106, qk_107, qk_108, qk_109, qk_476, qk_477, fX2_goThroughEntity_14, fX2_goThroughEntity_41, fX2_goThroughEntity_46, fX2_goThroughEntity_53, e1]
  unfold fX2_goThroughEntity fX2_goThroughEntity_10
  simp (disch := omega) only [↓qlet, eq_self, qzg_t, qzb_some, ↓reduceIte, not_or, not_false_eq_true, not_true_eq_false, and_true, true_and, and_self, or_false, false_or, true_or, or_true, and_false, false_and, qlit, qneg, qof, qn_add, qn_mul, qn_s, qn_z, qn_d, qn_dz, qm_1, qt_1, qt_0, qb_0, qb_1, qb_01, qb01b, q01_0, q01_1, qo_s, qo_n, qn_c, qn_le, qn_lt, qn_eq, qn_ne_m, qm_ne_n, qm_lt, qm_le, qn_lt_m, qn_le_m, qn_sub, qn_div, qn_mod, qle_t, qle_f, qlt_t, qlt_f, qeq_t, qeq_f, Nat.add_sub_cancel, qC_I, qC_s, qU_s, qU_a, qU_k]
  exact hl 9997
theorem qCEn_w {e0 e1 : Nat} (h : qCEn sw en [e0] I) : qCEn sw en [e0, e1] (qU I 106 1 (qn e1)) := by
  refine ⟨fun i hi => ?_, fun i hi => ?_, fun j q hq => ?_⟩
  · exact qCK_fr (h.1 i hi) (by rw [qU_r (by omega)]) (by rw [qU_r (by omega)]) (by rw [qU_r (by omega)])
  · rw [qU_r (by omega)]; exact h.2.1 i hi
  · match j, hq with
    | 0, hq => rw [qU_k (by omega)]; exact h.2.2 0 q hq
    | 1, hq => injection hq with hq; subst hq; rw [qU_s]
theorem qCEn_w0 {e1 : Nat} (h : qCEn sw en [] I) : qCEn sw en [e1] (qU I 106 0 (qn e1)) := by
  refine ⟨fun i hi => ?_, fun i hi => ?_, fun j q hq => ?_⟩
  · exact qCK_fr (h.1 i hi) (by rw [qU_r (by omega)]) (by rw [qU_r (by omega)]) (by rw [qU_r (by omega)])
  · rw [qU_r (by omega)]; exact h.2.1 i hi
  · match j, hq with
    | 0, hq => injection hq with hq; subst hq; rw [qU_s]
theorem qCV_w {j : Nat} {v : Int32} (hV : qCV I p V) : qCV (qU I 106 j v) p V := by
  obtain ⟨h1, h2, h3, h4, h5, h6, h7, h8⟩ := hV
  refine ⟨qCZ_fr h1 (qU_r (by omega)) (qU_r (by omega)) (qU_r (by omega)), ?_, ?_, ?_, ?_, ?_, ?_, ?_⟩ <;> simp (disch := omega) only [qU_r] <;> assumption
theorem cEnt1 (hg : qGok G) (hEk : qEok sw en) {e0 : Nat} (h0 : e0 < 6) (d : Nat) : ∀ e p B V I, e < 6 → p ≤ 600 → B + 12 ≤ 4320 → qCG G I → qCEn sw en [e0] I → qVok G B V → qCV I p V → ∃ J, fX2_goThroughEntity (fX2_goThrough (d + 1)) 91 (qn e) (qn [e0].length) (qC w I) = some (qn 0, qC w J) ∧ qCV J p (qEnt1 G sw en e0 e p V) ∧ qFrT [e0].length I J := by
  intro e p B V I he hp hB hG hEn hok hV
  have hw0 := hEn.2.2 0 e0 rfl
  unfold fX2_goThroughEntity fX2_goThroughEntity_10 qEnt1
  rw [show [e0].length = 1 from rfl]
  by_cases c1 : e = e0
  · rw [if_pos c1]
    obtain ⟨J, e1, v1, f1⟩ := cErr (w := w) hV (qVok_err hok (by omega)) 4
    refine ⟨J, ?_, v1, qFrT_of f1⟩
    subst c1
    have hl : ∀ m, fX2_goThroughEntity_14 (fX2_goThrough (d + 1)) (m + 1 + 1) 91 (qn e) (qn 1) (qn 0) (qn 0) (qC w I) = some (qn 0, qC w J) := by
      intro m
      simp (disch := omega) only [↓qlet, eq_self, qzg_t, qzb_some, ↓reduceIte, not_or, not_false_eq_true, not_true_eq_false, and_true, true_and, and_self, or_false, false_or, true_or, or_true, and_false, false_and, qlit, qneg, qof, qn_add, qn_mul, qn_s, qn_z, qn_d, qn_dz, qm_1, qt_1, qt_0, qb_0, qb_1, qb_01, qb01b, q01_0, q01_1, qo_s, qo_n, qn_c, qn_le, qn_lt, qn_eq, qn_ne_m, qm_ne_n, qm_lt, qm_le, qn_lt_m, qn_le_m, qn_sub, qn_div, qn_mod, qle_t, qle_f, qlt_t, qlt_f, qeq_t, qeq_f, Nat.add_sub_cancel, qC_I, qC_s, qU_s, qU_a, qU_k, qk_1, qk_2, qk_3, qk_4, qk_5, qk_6, qk_7, qk_68, qk_69, qk_70, qk_71, qk_72, qk_91, qk_92, qk_93, qk_94, qk_95, qk_96, qk_97, qk_98, qk_99, qk_100, qk_101, qk_102, qk_103, qk_104, qk_105, qk_106, qk_107, qk_108, qk_109, qk_476, qk_477, ql_3, ql_4, ql_5, ql_6, ql_7, ql_69, ql_70, ql_71, ql_72, ql_93, ql_94, ql_95, ql_96, ql_97, ql_99, ql_100, ql_101, ql_102, ql_103, ql_104, ql_105, ql_106, ql_108, ql_109, ql_477, qr_1_0, qr_1_1, qr_1_2, qr_1_3, qr_1_4, qr_1_5, qr_2_0, qr_2_1, qr_2_2, qr_2_3, qr_2_4, qr_68_0, qr_68_1, qr_91_0, qr_91_1, qr_91_2, qr_91_3, qr_91_4, qr_91_5, qr_91_6, qr_91_7, qr_91_10, qr_91_11, qr_91_14, qr_92_0, qr_92_1, qr_92_2, qr_92_3, qr_92_4, qr_98_0, qr_98_1, qr_107_0, qr_107_1, qr_107_2, qr_476_0, qr_476_1, qr_476_2, hw0, fX2_goThroughEntity_14, fX2_goThroughEntity_41, fX2_goThroughEntity_46, fX2_goThroughEntity_53, e1]
    simp (disch := omega) only [↓qlet, eq_self, qzg_t, qzb_some, ↓reduceIte, not_or, not_false_eq_true, not_true_eq_false, and_true, true_and, and_self, or_false, false_or, true_or, or_true, and_false, false_and, qlit, qneg, qof, qn_add, qn_mul, qn_s, qn_z, qn_d, qn_dz, qm_1, qt_1, qt_0, qb_0, qb_1, qb_01, qb01b, q01_0, q01_1, qo_s, qo_n, qn_c, qn_le, qn_lt, qn_eq, qn_ne_m, qm_ne_n, qm_lt, qm_le, qn_lt_m, qn_le_m, qn_sub, qn_div, qn_mod, qle_t, qle_f, qlt_t, qlt_f, qeq_t, qeq_f, Nat.add_sub_cancel, qC_I, qC_s, qU_s, qU_a, qU_k]
    exact hl 9998
  · rw [if_neg c1]
    obtain ⟨h1, h2⟩ := hEk.1 e he
    have f0 : qFrT 1 I (qU I 106 1 (qn e)) := ⟨fun a ha => qU_r (by omega), qU_a (by omega), qU_a (by omega), fun j hj => qU_k (by omega)⟩
    obtain ⟨J, e1, v1, f1⟩ := cRowE (w := w) (ws := [e0, e]) (g := fX2_goThrough d) (c := 2) hg (qRw_E he) h1 (by omega) h2 hEk.2 (by simp) (by simp) (by omega) (fun e p B V I _ _ hB _ _ hok hV => cEnt2 hB hok hV e) qEnt2_ok (by omega) hp (C := B) (by omega) (qFrT_G f0 hG) (qCEn_w hEn) (qCK_fr (hEn.1 e he) (by rw [qU_r (by omega)]) (by rw [qU_r (by omega)]) (by rw [qU_r (by omega)])) hok (qCV_w hV)
    refine ⟨J, ?_, v1, qFrT_tr f0 (qFrT_le f1 (by simp))⟩
    rw [show [e0, e].length = 2 from rfl] at e1
    have hl : ∀ m, fX2_goThroughEntity_14 (fX2_goThrough (d + 1)) (m + 1 + 1) 91 (qn e) (qn 1) (qn 0) (qn 0) (qC w I) = some (qn 0, qC w J) := by
      intro m
      simp (disch := omega) only [↓qlet, eq_self, qzg_t, qzb_some, ↓reduceIte, not_or, not_false_eq_true, not_true_eq_false, and_true, true_and, and_self, or_false, false_or, true_or, or_true, and_false, false_and, qlit, qneg, qof, qn_add, qn_mul, qn_s, qn_z, qn_d, qn_dz, qm_1, qt_1, qt_0, qb_0, qb_1, qb_01, qb01b, q01_0, q01_1, qo_s, qo_n, qn_c, qn_le, qn_lt, qn_eq, qn_ne_m, qm_ne_n, qm_lt, qm_le, qn_lt_m, qn_le_m, qn_sub, qn_div, qn_mod, qle_t, qle_f, qlt_t, qlt_f, qeq_t, qeq_f, Nat.add_sub_cancel, qC_I, qC_s, qU_s, qU_a, qU_k, qk_1, qk_2, qk_3, qk_4, qk_5, qk_6, qk_7, qk_68, qk_69, qk_70, qk_71, qk_72, qk_91, qk_92, qk_93, qk_94, qk_95, qk_96, qk_97, qk_98, qk_99, qk_100, qk_101, qk_102, qk_103, qk_104, qk_105, qk_106, qk_107, qk_108, qk_109, qk_476, qk_477, ql_3, ql_4, ql_5, ql_6, ql_7, ql_69, ql_70, ql_71, ql_72, ql_93, ql_94, ql_95, ql_96, ql_97, ql_99, ql_100, ql_101, ql_102, ql_103, ql_104, ql_105, ql_106, ql_108, ql_109, ql_477, qr_1_0, qr_1_1, qr_1_2, qr_1_3, qr_1_4, qr_1_5, qr_2_0, qr_2_1, qr_2_2, qr_2_3, qr_2_4, qr_68_0, qr_68_1, qr_91_0, qr_91_1, qr_91_2, qr_91_3, qr_91_4, qr_91_5, qr_91_6, qr_91_7, qr_91_10, qr_91_11, qr_91_14, qr_92_0, qr_92_1, qr_92_2, qr_92_3, qr_92_4, qr_98_0, qr_98_1, qr_107_0, qr_107_1, qr_107_2, qr_476_0, qr_476_1, qr_476_2, hw0, fX2_goThroughEntity_14, fX2_goThroughEntity_41, fX2_goThroughEntity_46, fX2_goThroughEntity_53, qen_r, qen_k, qgT, e1]
    simp (disch := omega) only [↓qlet, eq_self, qzg_t, qzb_some, ↓reduceIte, not_or, not_false_eq_true, not_true_eq_false, and_true, true_and, and_self, or_false, false_or, true_or, or_true, and_false, false_and, qlit, qneg, qof, qn_add, qn_mul, qn_s, qn_z, qn_d, qn_dz, qm_1, qt_1, qt_0, qb_0, qb_1, qb_01, qb01b, q01_0, q01_1, qo_s, qo_n, qn_c, qn_le, qn_lt, qn_eq, qn_ne_m, qm_ne_n, qm_lt, qm_le, qn_lt_m, qn_le_m, qn_sub, qn_div, qn_mod, qle_t, qle_f, qlt_t, qlt_f, qeq_t, qeq_f, Nat.add_sub_cancel, qC_I, qC_s, qU_s, qU_a, qU_k]
    exact hl 9998
theorem cEnt0 (hg : qGok G) (hEk : qEok sw en) (d : Nat) : ∀ e p B V I, e < 6 → p ≤ 600 → B + 72 ≤ 4320 → qCG G I → qCEn sw en [] I → qVok G B V → qCV I p V → ∃ J, fX2_goThroughEntity (fX2_goThrough (d + 2)) 91 (qn e) (qn 0) (qC w I) = some (qn 0, qC w J) ∧ qCV J p (qEnt0 G sw en e p V) ∧ qFrT 0 I J := by
  intro e p B V I he hp hB hG hEn hok hV
  unfold fX2_goThroughEntity fX2_goThroughEntity_10 qEnt0
  obtain ⟨h1, h2⟩ := hEk.1 e he
  have f0 : qFrT 0 I (qU I 106 0 (qn e)) := ⟨fun a ha => qU_r (by omega), qU_a (by omega), qU_a (by omega), fun j hj => by omega⟩
  obtain ⟨J, e1, v1, f1⟩ := cRowE (w := w) (ws := [e]) (g := fX2_goThrough (d + 1)) (c := 12) hg (qRw_E he) h1 (by omega) h2 hEk.2 (by simp) (by simp) (by omega) (cEnt1 hg hEk he d) (qEnt1_ok hEk e) (by omega) hp (C := B) (by omega) (qFrT_G f0 hG) (qCEn_w0 hEn) (qCK_fr (hEn.1 e he) (by rw [qU_r (by omega)]) (by rw [qU_r (by omega)]) (by rw [qU_r (by omega)])) hok (qCV_w hV)
  refine ⟨J, ?_, v1, qFrT_tr f0 (qFrT_le f1 (by simp))⟩
  rw [show [e].length = 1 from rfl] at e1
  have hl : ∀ m, fX2_goThroughEntity_14 (fX2_goThrough (d + 2)) (m + 1) 91 (qn e) (qn 0) (qn 0) (qn 0) (qC w I) = some (qn 0, qC w J) := by
    intro m
    simp (disch := omega) only [↓qlet, eq_self, qzg_t, qzb_some, ↓reduceIte, not_or, not_false_eq_true, not_true_eq_false, and_true, true_and, and_self, or_false, false_or, true_or, or_true, and_false, false_and, qlit, qneg, qof, qn_add, qn_mul, qn_s, qn_z, qn_d, qn_dz, qm_1, qt_1, qt_0, qb_0, qb_1, qb_01, qb01b, q01_0, q01_1, qo_s, qo_n, qn_c, qn_le, qn_lt, qn_eq, qn_ne_m, qm_ne_n, qm_lt, qm_le, qn_lt_m, qn_le_m, qn_sub, qn_div, qn_mod, qle_t, qle_f, qlt_t, qlt_f, qeq_t, qeq_f, Nat.add_sub_cancel, qC_I, qC_s, qU_s, qU_a, qU_k, qk_1, qk_2, qk_3, qk_4, qk_5, qk_6, qk_7, qk_68, qk_69, qk_70, qk_71, qk_72, qk_91, qk_92, qk_93, qk_94, qk_95, qk_96, qk_97, qk_98, qk_99, qk_100, qk_101, qk_102, qk_103, qk_104, qk_105, qk_106, qk_107, qk_108, qk_109, qk_476, qk_477, ql_3, ql_4, ql_5, ql_6, ql_7, ql_69, ql_70, ql_71, ql_72, ql_93, ql_94, ql_95, ql_96, ql_97, ql_99, ql_100, ql_101, ql_102, ql_103, ql_104, ql_105, ql_106, ql_108, ql_109, ql_477, qr_1_0, qr_1_1, qr_1_2, qr_1_3, qr_1_4, qr_1_5, qr_2_0, qr_2_1, qr_2_2, qr_2_3, qr_2_4, qr_68_0, qr_68_1, qr_91_0, qr_91_1, qr_91_2, qr_91_3, qr_91_4, qr_91_5, qr_91_6, qr_91_7, qr_91_10, qr_91_11, qr_91_14, qr_92_0, qr_92_1, qr_92_2, qr_92_3, qr_92_4, qr_98_0, qr_98_1, qr_107_0, qr_107_1, qr_107_2, qr_476_0, qr_476_1, qr_476_2, fX2_goThroughEntity_14, fX2_goThroughEntity_53, qen_r, qen_k, qgT, e1]
  simp (disch := omega) only [↓qlet, eq_self, qzg_t, qzb_some, ↓reduceIte, not_or, not_false_eq_true, not_true_eq_false, and_true, true_and, and_self, or_false, false_or, true_or, or_true, and_false, false_and, qlit, qneg, qof, qn_add, qn_mul, qn_s, qn_z, qn_d, qn_dz, qm_1, qt_1, qt_0, qb_0, qb_1, qb_01, qb01b, q01_0, q01_1, qo_s, qo_n, qn_c, qn_le, qn_lt, qn_eq, qn_ne_m, qm_ne_n, qm_lt, qm_le, qn_lt_m, qn_le_m, qn_sub, qn_div, qn_mod, qle_t, qle_f, qlt_t, qlt_f, qeq_t, qeq_f, Nat.add_sub_cancel, qC_I, qC_s, qU_s, qU_a, qU_k]
  exact hl 9999
/-- the text -/
theorem cGo (hg : qGok G) (hEk : qEok sw en) (hn : ks.length ≤ 60) (hks : ∀ k ∈ ks, qKok k) (hG : qCG G I) (hEn : qCEn sw en [] I) (hk : qCK I 68 ks) (hV : qCV I p qV0) (hX : qCX w I [(qZ0, 0)]) : ∃ J, fX2_goThrough 4 91 68 (qn 0) (qC w I) = some (qn 0, qC w J) ∧ qCV J ks.length (qGo G sw en ks).1 ∧ qCX w J (qGo G sw en ks).2 ∧ qFr0 w I J := by
  have hA := qEnt0_ok (G := G) hEk
  have hQ : qQok G 0 0 (0, 0, 1, qV0) := ⟨⟨0, qV0_ok, by dsimp only; omega⟩, by dsimp only; omega, by dsimp only; omega⟩
  obtain ⟨J, p1, e1, v1, x1, f1⟩ := cLoop0 (w := w) (g := fX2_goThrough 3) hg hn hks hEk.2 (cEnt0 hg hEk 1) hA (by omega) ks.length 0 (0, 0, 1, qV0) [(qZ0, 0)] 0 p I 10000 (by omega) (by omega) (by omega) hG hEn hk hQ rfl hX hV
  obtain ⟨⟨⟨B, k1, k2⟩, k5, -⟩, -, k6⟩ := qLoop_ok hEk.2 (by omega) hA hks (by omega) none (fun q h => by cases h) ks.length 0 0 (0, 0, 1, qV0) [(qZ0, 0)] (by omega) hQ (fun x h => by rw [List.mem_singleton.mp h]; exact ⟨qZ0_ok, by omega⟩)
  obtain ⟨v2, f2⟩ := qCV_place (p' := ks.length) v1
  obtain ⟨K, e2, v3, f3⟩ := cErrs (w := w) (g := fX2_goThrough 3) (qLoop G sw (qEnt0 G sw en) ks none ks.length 0 ((0, 0, 1, qV0), [(qZ0, 0)])).1.1 (qLoop G sw (qEnt0 G sw en) ks none ks.length 0 ((0, 0, 1, qV0), [(qZ0, 0)])).1.2.1 (by omega) ((qLoop G sw (qEnt0 G sw en) ks none ks.length 0 ((0, 0, 1, qV0), [(qZ0, 0)])).1.1 + (qLoop G sw (qEnt0 G sw en) ks none ks.length 0 ((0, 0, 1, qV0), [(qZ0, 0)])).1.2.1) 0 _ _ 10000 (by omega) (by have := k1.2.2.2.2.2.2.2.2; have := k1.2.2.1; omega) (by omega) v2
  have f4 : qFrC J K := qFrC_tr f2 f3
  refine ⟨K, ?_, v3, ?_, qFr0_tr f1 (qFr0_of (l := 0) (qFrT_of f4))⟩
  · rw [show (4 : Nat) = 3 + 1 from rfl, fX2_goThrough]
    unfold fX2_goThrough_b
    simp only [qlit]
    rw [e1]
    have hk1 : J 68 2 = qn ks.length := by rw [f1.1 68 (by omega)]; exact hk.1
    unfold fX2_goThrough_206 fX2_goThrough_222
    simp (disch := omega) only [↓qlet, eq_self, qzg_t, qzb_some, ↓reduceIte, not_or, not_false_eq_true, not_true_eq_false, and_true, true_and, and_self, or_false, false_or, true_or, or_true, and_false, false_and, qlit, qneg, qof, qn_add, qn_mul, qn_s, qn_z, qn_d, qn_dz, qm_1, qt_1, qt_0, qb_0, qb_1, qb_01, qb01b, q01_0, q01_1, qo_s, qo_n, qn_c, qn_le, qn_lt, qn_eq, qn_ne_m, qm_ne_n, qm_lt, qm_le, qn_lt_m, qn_le_m, qn_sub, qn_div, qn_mod, qle_t, qle_f, qlt_t, qlt_f, qeq_t, qeq_f, Nat.add_sub_cancel, qC_I, qC_s, qU_s, qU_a, qU_k, qk_1, qk_2, qk_3, qk_4, qk_5, qk_6, qk_7, qk_68, qk_69, qk_70, qk_71, qk_72, qk_91, qk_92, qk_93, qk_94, qk_95, qk_96, qk_97, qk_98, qk_99, qk_100, qk_101, qk_102, qk_103, qk_104, qk_105, qk_106, qk_107, qk_108, qk_109, qk_476, qk_477, hk1]
    exact e2
  · refine qCX_fr x1 fun j hj d hd => ?_
    have := qSc_ge w j
    rw [f4.1 _ (by omega)]
end
