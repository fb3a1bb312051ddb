/-! THE CLASS: the reading of a thing, closing -/
/-- a reading in the class's cells; the place in the text -/
def qCV (I : Nat → Nat → Int32) (p : Nat) (V : qV) : Prop := qCZ I 107 V.1 ∧ qAll (fun j x => I 103 j = qn x) V.2.1 ∧ I 92 5 = qn V.2.2.1.length ∧ qAll (fun j t => I 93 j = qn t.1 ∧ I 94 j = qo t.2.1 ∧ I 95 j = qn t.2.2.1 ∧ I 96 j = qn t.2.2.2.1 ∧ I 97 j = qb t.2.2.2.2) V.2.2.1 ∧ I 91 9 = qn V.2.2.2.1 ∧ I 91 8 = qn V.2.2.2.2.2.length ∧ qAll (fun j e => I 101 j = qn e.1 ∧ I 102 j = qn e.2) V.2.2.2.2.2 ∧ I 91 15 = qn p
/-- what a reading must keep within -/
def qVok (G : qG) (B : Nat) (V : qV) : Prop := qZok G V.1 ∧ V.2.1.length = V.1.1.length ∧ V.2.2.1.length ≤ 300 ∧ (V.1.2 = none → V.2.2.1 = []) ∧ (∀ t ∈ V.2.2.1, t.1 ≤ 10 ∧ (∀ q, t.2.1 = some q → q < 300) ∧ t.2.2.1 < 128 ∧ t.2.2.2.1 ≤ 600) ∧ (∀ x ∈ V.2.1, x < V.2.2.1.length) ∧ V.2.2.2.1 + V.1.1.length ≤ V.2.2.1.length ∧ V.2.2.2.2.1 ≤ V.2.2.1.length ∧ V.2.2.2.2.2.length + 2 * V.1.1.length ≤ B + 2 * V.2.2.1.length
def qFrC (I J : Nat → Nat → Int32) : Prop := (∀ a, (a ≤ 90 ∨ (98 ≤ a ∧ a ≤ 100) ∨ (104 ≤ a ∧ a ≤ 106) ∨ 110 ≤ a) → J a = I a) ∧ J 91 16 = I 91 16 ∧ J 107 5 = I 107 5
theorem qFrC_refl (I : Nat → Nat → Int32) : qFrC I I := ⟨fun _ _ => rfl, rfl, rfl⟩
theorem qFrC_tr {I J K : Nat → Nat → Int32} (h : qFrC I J) (k : qFrC J K) : qFrC I K := ⟨fun a ha => by rw [k.1 a ha, h.1 a ha], by rw [k.2.1, h.2.1], by rw [k.2.2, h.2.2]⟩
theorem qFrC_G {G : qG} {I J : Nat → Nat → Int32} (h : qFrC I J) (k : qCG G I) : qCG G J := qCG_fr k fun a ha => h.1 a (by omega)
theorem qAll_push {α : Type} {P R : Nat → α → Prop} {l : List α} {a : α} (h : qAll P l) (k : ∀ j x, j < l.length → P j x → R j x) (k2 : R l.length a) : qAll R (a :: l) := ⟨k2, qAll_mono h fun j x hj _ hp => k j x hj hp⟩
section
variable {w : Bool} {I : Nat → Nat → Int32} {G : qG} {V : qV} {p : Nat}
theorem cErr (hV : qCV I p V) (he : V.2.2.2.2.2.length < 4920) (k : Nat) : ∃ J, fX2_addError 91 (qn k) (qC w I) = some (qn 0, qC w J) ∧ qCV J p (qErr k p V) ∧ qFrC I J := by
  obtain ⟨h1, h2, h3, h4, h5, h6, h7, h8⟩ := hV
  unfold fX2_addError
  refine ⟨qU (qU (qU I 101 V.2.2.2.2.2.length (qn k)) 102 V.2.2.2.2.2.length (qn p)) 91 8 (qn (V.2.2.2.2.2.length + 1)), ?_, ⟨?_, ?_, ?_, ?_, ?_, ?_, ?_, ?_⟩, ?_, ?_, ?_⟩
  · simp (disch := omega) only [↓qlet, eq_self, qzg_t, qzb_some, ↓reduceIte, not_or, not_false_eq_true, not_true_eq_false, and_true, true_and, and_self, or_false, false_or, true_or, or_true, and_false, false_and, qlit, qneg, qof, qn_add, qn_mul, qn_s, qn_z, qn_d, qn_dz, qm_1, qt_1, qt_0, qb_0, qb_1, qb_01, qb01b, q01_0, q01_1, qo_s, qo_n, qn_c, qn_le, qn_lt, qn_eq, qn_ne_m, qm_ne_n, qm_lt, qm_le, qn_lt_m, qn_le_m, qn_sub, qn_div, qn_mod, qle_t, qle_f, qlt_t, qlt_f, qeq_t, qeq_f, Nat.add_sub_cancel, qC_I, qC_s, qU_s, qU_a, qU_k, qk_1, qk_2, qk_3, qk_4, qk_5, qk_6, qk_7, qk_68, qk_69, qk_70, qk_71, qk_72, qk_91, qk_92, qk_93, qk_94, qk_95, qk_96, qk_97, qk_98, qk_99, qk_100, qk_101, qk_102, qk_103, qk_104, qk_105, qk_106, qk_107, qk_108, qk_109, qk_476, qk_477, ql_3, ql_4, ql_5, ql_6, ql_7, ql_69, ql_70, ql_71, ql_72, ql_93, ql_94, ql_95, ql_96, ql_97, ql_99, ql_100, ql_101, ql_102, ql_103, ql_104, ql_105, ql_106, ql_108, ql_109, ql_477, qr_1_0, qr_1_1, qr_1_2, qr_1_3, qr_1_4, qr_1_5, qr_2_0, qr_2_1, qr_2_2, qr_2_3, qr_2_4, qr_68_0, qr_68_1, qr_91_0, qr_91_1, qr_91_2, qr_91_3, qr_91_4, qr_91_5, qr_91_6, qr_91_7, qr_91_10, qr_91_11, qr_91_14, qr_92_0, qr_92_1, qr_92_2, qr_92_3, qr_92_4, qr_98_0, qr_98_1, qr_107_0, qr_107_1, qr_107_2, qr_476_0, qr_476_1, qr_476_2, h6, h8]
  · exact qCZ_fr h1 (by rw [qU_r (by omega), qU_r (by omega), qU_r (by omega)]) (by rw [qU_r (by omega), qU_r (by omega), qU_r (by omega)]) (by rw [qU_r (by omega), qU_r (by omega), qU_r (by omega)])
  · simp (disch := omega) only [qU_s, qU_a, qU_k, qErr]; exact h2
  · simp (disch := omega) only [qU_s, qU_a, qU_k, qErr]; exact h3
  · simp (disch := omega) only [qU_s, qU_a, qU_k, qErr]; exact h4
  · simp (disch := omega) only [qU_s, qU_a, qU_k, qErr]; exact h5
  · simp (disch := omega) only [qU_s, qU_a, qU_k, qErr]; rfl
  · refine qAll_push h7 (fun j x hj hp => ?_) ?_
    · simp (disch := omega) only [qU_s, qU_a, qU_k]; exact hp
    · simp (disch := omega) only [qU_s, qU_a, qU_k]; exact ⟨trivial, trivial⟩
  · simp (disch := omega) only [qU_s, qU_a, qU_k]; exact h8
  · intro a ha; rw [qU_r (by omega), qU_r (by omega), qU_r (by omega)]
  · simp (disch := omega) only [qU_s, qU_a, qU_k]
  · simp (disch := omega) only [qU_s, qU_a, qU_k]
/-- a row of the tree is written -/
theorem cTree (hV : qCV I p V) (ht : V.2.2.1.length < 300) {kind l : Nat} (hl : l < 128) (par : Option Nat) (b : Bool) : ∃ J, fX5_addThing 92 (qn kind) (qo par) (qn l) (qn p) (qb b) (qC w I) = some (qn 0, qC w J) ∧ qCV J p (V.1, V.2.1, (kind, par, l, p, b) :: V.2.2.1, V.2.2.2) ∧ qFrC I J ∧ J 107 = I 107 ∧ J 103 = I 103 := by
  obtain ⟨h1, h2, h3, h4, h5, h6, h7, h8⟩ := hV
  have hc := (qch l hl).2
  unfold fX5_addThing
  refine ⟨qU (qU (qU (qU (qU (qU I 93 V.2.2.1.length (qn kind)) 94 V.2.2.1.length (qo par)) 95 V.2.2.1.length (qn l)) 96 V.2.2.1.length (qn p)) 97 V.2.2.1.length (qb b)) 92 5 (qn (V.2.2.1.length + 1)), ?_, ⟨?_, ?_, ?_, ?_, ?_, ?_, ?_, ?_⟩, ⟨?_, ?_, ?_⟩, ?_, ?_⟩
  · simp (disch := omega) only [↓qlet, eq_self, qzg_t, qzb_some, ↓reduceIte, not_or, not_false_eq_true, not_true_eq_false, and_true, true_and, and_self, or_false, false_or, true_or, or_true, and_false, false_and, qlit, qneg, qof, qn_add, qn_mul, qn_s, qn_z, qn_d, qn_dz, qm_1, qt_1, qt_0, qb_0, qb_1, qb_01, qb01b, q01_0, q01_1, qo_s, qo_n, qn_c, qn_le, qn_lt, qn_eq, qn_ne_m, qm_ne_n, qm_lt, qm_le, qn_lt_m, qn_le_m, qn_sub, qn_div, qn_mod, qle_t, qle_f, qlt_t, qlt_f, qeq_t, qeq_f, Nat.add_sub_cancel, qC_I, qC_s, qU_s, qU_a, qU_k, qk_1, qk_2, qk_3, qk_4, qk_5, qk_6, qk_7, qk_68, qk_69, qk_70, qk_71, qk_72, qk_91, qk_92, qk_93, qk_94, qk_95, qk_96, qk_97, qk_98, qk_99, qk_100, qk_101, qk_102, qk_103, qk_104, qk_105, qk_106, qk_107, qk_108, qk_109, qk_476, qk_477, ql_3, ql_4, ql_5, ql_6, ql_7, ql_69, ql_70, ql_71, ql_72, ql_93, ql_94, ql_95, ql_96, ql_97, ql_99, ql_100, ql_101, ql_102, ql_103, ql_104, ql_105, ql_106, ql_108, ql_109, ql_477, qr_1_0, qr_1_1, qr_1_2, qr_1_3, qr_1_4, qr_1_5, qr_2_0, qr_2_1, qr_2_2, qr_2_3, qr_2_4, qr_68_0, qr_68_1, qr_91_0, qr_91_1, qr_91_2, qr_91_3, qr_91_4, qr_91_5, qr_91_6, qr_91_7, qr_91_10, qr_91_11, qr_91_14, qr_92_0, qr_92_1, qr_92_2, qr_92_3, qr_92_4, qr_98_0, qr_98_1, qr_107_0, qr_107_1, qr_107_2, qr_476_0, qr_476_1, qr_476_2, h3, hc]
  · exact qCZ_fr h1 (by simp (disch := omega) only [qU_r]) (by simp (disch := omega) only [qU_r]) (by simp (disch := omega) only [qU_r])
  · simp (disch := omega) only [qU_s, qU_a, qU_k]; exact h2
  · simp (disch := omega) only [qU_s, qU_a, qU_k]; rfl
  · refine qAll_push h4 (fun j x hj hp => ?_) ?_
    · simp (disch := omega) only [qU_s, qU_a, qU_k]; exact hp
    · simp (disch := omega) only [qU_s, qU_a, qU_k]; exact ⟨trivial, trivial, trivial, trivial, trivial⟩
  · simp (disch := omega) only [qU_s, qU_a, qU_k]; exact h5
  · simp (disch := omega) only [qU_s, qU_a, qU_k]; exact h6
  · simp (disch := omega) only [qU_s, qU_a, qU_k]; exact h7
  · simp (disch := omega) only [qU_s, qU_a, qU_k]; exact h8
  · intro a ha; simp (disch := omega) only [qU_r]
  · simp (disch := omega) only [qU_s, qU_a, qU_k]
  · simp (disch := omega) only [qU_s, qU_a, qU_k]
  · simp (disch := omega) only [qU_r]
  · simp (disch := omega) only [qU_r]
theorem cPut (hok : V.2.1.length = V.1.1.length) (hz : qZok G V.1) (hx : ∀ x ∈ V.2.1, x < V.2.2.1.length) (hV : qCV I p V) (ht : V.2.2.1.length < 300) {l : Nat} (hl : l < 128) (b : Bool) : ∃ J, fX2_addThing 91 (qn 10) (qn l) (qb b) (qC w I) = some (qn 0, qC w J) ∧ qCV J p (qPut 10 l p b V) ∧ qFrC I J := by
  obtain ⟨J, hJ, j1, j2, j3, j4⟩ := cTree (w := w) hV ht (kind := 10) hl V.2.1.head? b
  obtain ⟨h1, h2, h3, h4, h5, h6, h7, h8⟩ := hV
  refine ⟨J, ?_, j1, j2⟩
  have hd := h1.1
  unfold fX2_addThing fX2_addThing_28
  cases ho : V.2.1 with
  | nil =>
    rw [ho] at hok hJ
    have e0 : V.1.1.length = 0 := by simpa using hok.symm
    rw [e0] at hd
    rw [List.head?_nil] at hJ
    simp only [qo_n] at hJ
    simp (disch := omega) only [↓qlet, eq_self, qzg_t, qzb_some, ↓reduceIte, not_or, not_false_eq_true, not_true_eq_false, and_true, true_and, and_self, or_false, false_or, true_or, or_true, and_false, false_and, qlit, qneg, qof, qn_add, qn_mul, qn_s, qn_z, qn_d, qn_dz, qm_1, qt_1, qt_0, qb_0, qb_1, qb_01, qb01b, q01_0, q01_1, qo_s, qo_n, qn_c, qn_le, qn_lt, qn_eq, qn_ne_m, qm_ne_n, qm_lt, qm_le, qn_lt_m, qn_le_m, qn_sub, qn_div, qn_mod, qle_t, qle_f, qlt_t, qlt_f, qeq_t, qeq_f, Nat.add_sub_cancel, qC_I, qC_s, qU_s, qU_a, qU_k, qk_1, qk_2, qk_3, qk_4, qk_5, qk_6, qk_7, qk_68, qk_69, qk_70, qk_71, qk_72, qk_91, qk_92, qk_93, qk_94, qk_95, qk_96, qk_97, qk_98, qk_99, qk_100, qk_101, qk_102, qk_103, qk_104, qk_105, qk_106, qk_107, qk_108, qk_109, qk_476, qk_477, ql_3, ql_4, ql_5, ql_6, ql_7, ql_69, ql_70, ql_71, ql_72, ql_93, ql_94, ql_95, ql_96, ql_97, ql_99, ql_100, ql_101, ql_102, ql_103, ql_104, ql_105, ql_106, ql_108, ql_109, ql_477, qr_1_0, qr_1_1, qr_1_2, qr_1_3, qr_1_4, qr_1_5, qr_2_0, qr_2_1, qr_2_2, qr_2_3, qr_2_4, qr_68_0, qr_68_1, qr_91_0, qr_91_1, qr_91_2, qr_91_3, qr_91_4, qr_91_5, qr_91_6, qr_91_7, qr_91_10, qr_91_11, qr_91_14, qr_92_0, qr_92_1, qr_92_2, qr_92_3, qr_92_4, qr_98_0, qr_98_1, qr_107_0, qr_107_1, qr_107_2, qr_476_0, qr_476_1, qr_476_2, hd, h8, qneg, hJ]
  | cons y ot =>
    rw [ho] at hok hJ h2
    have e0 : V.1.1.length = ot.length + 1 := by simpa using hok.symm
    have h20 := hz.1
    rw [e0] at hd
    rw [List.head?_cons] at hJ
    simp only [qo_s] at hJ
    have a1 := h2.1
    simp (disch := omega) only [↓qlet, eq_self, qzg_t, qzb_some, ↓reduceIte, not_or, not_false_eq_true, not_true_eq_false, and_true, true_and, and_self, or_false, false_or, true_or, or_true, and_false, false_and, qlit, qneg, qof, qn_add, qn_mul, qn_s, qn_z, qn_d, qn_dz, qm_1, qt_1, qt_0, qb_0, qb_1, qb_01, qb01b, q01_0, q01_1, qo_s, qo_n, qn_c, qn_le, qn_lt, qn_eq, qn_ne_m, qm_ne_n, qm_lt, qm_le, qn_lt_m, qn_le_m, qn_sub, qn_div, qn_mod, qle_t, qle_f, qlt_t, qlt_f, qeq_t, qeq_f, Nat.add_sub_cancel, qC_I, qC_s, qU_s, qU_a, qU_k, qk_1, qk_2, qk_3, qk_4, qk_5, qk_6, qk_7, qk_68, qk_69, qk_70, qk_71, qk_72, qk_91, qk_92, qk_93, qk_94, qk_95, qk_96, qk_97, qk_98, qk_99, qk_100, qk_101, qk_102, qk_103, qk_104, qk_105, qk_106, qk_107, qk_108, qk_109, qk_476, qk_477, ql_3, ql_4, ql_5, ql_6, ql_7, ql_69, ql_70, ql_71, ql_72, ql_93, ql_94, ql_95, ql_96, ql_97, ql_99, ql_100, ql_101, ql_102, ql_103, ql_104, ql_105, ql_106, ql_108, ql_109, ql_477, qr_1_0, qr_1_1, qr_1_2, qr_1_3, qr_1_4, qr_1_5, qr_2_0, qr_2_1, qr_2_2, qr_2_3, qr_2_4, qr_68_0, qr_68_1, qr_91_0, qr_91_1, qr_91_2, qr_91_3, qr_91_4, qr_91_5, qr_91_6, qr_91_7, qr_91_10, qr_91_11, qr_91_14, qr_92_0, qr_92_1, qr_92_2, qr_92_3, qr_92_4, qr_98_0, qr_98_1, qr_107_0, qr_107_1, qr_107_2, qr_476_0, qr_476_1, qr_476_2, hd, h8, a1, hJ]
theorem cOpen (hG : qCG G I) (hg : qGok G) (hok : V.2.1.length = V.1.1.length) (hz : qZok G V.1) (hx : ∀ x ∈ V.2.1, x < V.2.2.1.length) (hV : qCV I p V) (ht : V.2.2.1.length < 300) {e : Nat} (he : e < 10) (hd20 : V.1.1.length < 20) (b : Bool) : ∃ J, fX2_addThing 91 (qn e) (qn 60) (qb b) (qC w I) = some (qn 0, qC w J) ∧ qCV J p (qOpen G e p b V) ∧ qFrC I J := by
  obtain ⟨J, hJ, j1, j2, j3, j4⟩ := cTree (w := w) hV ht (kind := e) (l := 60) (by omega) V.2.1.head? b
  obtain ⟨h1, h2, h3, h4, h5, h6, h7, h8⟩ := hV
  have hd := h1.1
  obtain ⟨k1, k2, k3, k4, k5, k6, k7, k8⟩ := j1
  have hdJ := k1.1
  -- the number of the thing, then the State
  have hG2 : qCG G (qU J 103 V.1.1.length (qn V.2.2.1.length)) := qCG_fr (qFrC_G j2 hG) fun a ha => by rw [qU_r (by omega)]
  have hZ2 : qCZ (qU J 103 V.1.1.length (qn V.2.2.1.length)) 107 V.1 := qCZ_fr k1 (by rw [qU_r (by omega)]) (by rw [qU_r (by omega)]) (by rw [qU_r (by omega)])
  obtain ⟨K, hK, m1, m2, m3⟩ := cEnter (w := w) qSt_107 hG2 hg hz hZ2 he hd20
  refine ⟨K, ?_, ⟨?_, ?_, ?_, ?_, ?_, ?_, ?_, ?_⟩, ?_, ?_, ?_⟩
  · unfold fX2_addThing fX2_addThing_28 fX2_addThing_88
    have h3' : I 92 5 = qn V.2.2.1.length := h3
    cases ho : V.2.1 with
    | nil =>
      rw [ho] at hok hJ
      have e0 : V.1.1.length = 0 := by simpa using hok.symm
      rw [e0] at hd hdJ hK
      rw [List.head?_nil] at hJ
      simp only [qo_n] at hJ
      simp (disch := omega) only [↓qlet, eq_self, qzg_t, qzb_some, ↓reduceIte, not_or, not_false_eq_true, not_true_eq_false, and_true, true_and, and_self, or_false, false_or, true_or, or_true, and_false, false_and, qlit, qneg, qof, qn_add, qn_mul, qn_s, qn_z, qn_d, qn_dz, qm_1, qt_1, qt_0, qb_0, qb_1, qb_01, qb01b, q01_0, q01_1, qo_s, qo_n, qn_c, qn_le, qn_lt, qn_eq, qn_ne_m, qm_ne_n, qm_lt, qm_le, qn_lt_m, qn_le_m, qn_sub, qn_div, qn_mod, qle_t, qle_f, qlt_t, qlt_f, qeq_t, qeq_f, Nat.add_sub_cancel, qC_I, qC_s, qU_s, qU_a, qU_k, qk_1, qk_2, qk_3, qk_4, qk_5, qk_6, qk_7, qk_68, qk_69, qk_70, qk_71, qk_72, qk_91, qk_92, qk_93, qk_94, qk_95, qk_96, qk_97, qk_98, qk_99, qk_100, qk_101, qk_102, qk_103, qk_104, qk_105, qk_106, qk_107, qk_108, qk_109, qk_476, qk_477, ql_3, ql_4, ql_5, ql_6, ql_7, ql_69, ql_70, ql_71, ql_72, ql_93, ql_94, ql_95, ql_96, ql_97, ql_99, ql_100, ql_101, ql_102, ql_103, ql_104, ql_105, ql_106, ql_108, ql_109, ql_477, qr_1_0, qr_1_1, qr_1_2, qr_1_3, qr_1_4, qr_1_5, qr_2_0, qr_2_1, qr_2_2, qr_2_3, qr_2_4, qr_68_0, qr_68_1, qr_91_0, qr_91_1, qr_91_2, qr_91_3, qr_91_4, qr_91_5, qr_91_6, qr_91_7, qr_91_10, qr_91_11, qr_91_14, qr_92_0, qr_92_1, qr_92_2, qr_92_3, qr_92_4, qr_98_0, qr_98_1, qr_107_0, qr_107_1, qr_107_2, qr_476_0, qr_476_1, qr_476_2, hd, h8, h3', qneg, hJ, hdJ, hK]
    | cons y ot =>
      rw [ho] at hok hJ h2
      have e0 : V.1.1.length = ot.length + 1 := by simpa using hok.symm
      rw [e0] at hd hdJ hK hd20
      rw [List.head?_cons] at hJ
      simp only [qo_s] at hJ
      have a1 := h2.1
      simp (disch := omega) only [↓qlet, eq_self, qzg_t, qzb_some, ↓reduceIte, not_or, not_false_eq_true, not_true_eq_false, and_true, true_and, and_self, or_false, false_or, true_or, or_true, and_false, false_and, qlit, qneg, qof, qn_add, qn_mul, qn_s, qn_z, qn_d, qn_dz, qm_1, qt_1, qt_0, qb_0, qb_1, qb_01, qb01b, q01_0, q01_1, qo_s, qo_n, qn_c, qn_le, qn_lt, qn_eq, qn_ne_m, qm_ne_n, qm_lt, qm_le, qn_lt_m, qn_le_m, qn_sub, qn_div, qn_mod, qle_t, qle_f, qlt_t, qlt_f, qeq_t, qeq_f, Nat.add_sub_cancel, qC_I, qC_s, qU_s, qU_a, qU_k, qk_1, qk_2, qk_3, qk_4, qk_5, qk_6, qk_7, qk_68, qk_69, qk_70, qk_71, qk_72, qk_91, qk_92, qk_93, qk_94, qk_95, qk_96, qk_97, qk_98, qk_99, qk_100, qk_101, qk_102, qk_103, qk_104, qk_105, qk_106, qk_107, qk_108, qk_109, qk_476, qk_477, ql_3, ql_4, ql_5, ql_6, ql_7, ql_69, ql_70, ql_71, ql_72, ql_93, ql_94, ql_95, ql_96, ql_97, ql_99, ql_100, ql_101, ql_102, ql_103, ql_104, ql_105, ql_106, ql_108, ql_109, ql_477, qr_1_0, qr_1_1, qr_1_2, qr_1_3, qr_1_4, qr_1_5, qr_2_0, qr_2_1, qr_2_2, qr_2_3, qr_2_4, qr_68_0, qr_68_1, qr_91_0, qr_91_1, qr_91_2, qr_91_3, qr_91_4, qr_91_5, qr_91_6, qr_91_7, qr_91_10, qr_91_11, qr_91_14, qr_92_0, qr_92_1, qr_92_2, qr_92_3, qr_92_4, qr_98_0, qr_98_1, qr_107_0, qr_107_1, qr_107_2, qr_476_0, qr_476_1, qr_476_2, hd, h8, a1, h3', hJ, hdJ, hK]
  · exact m1
  · have e : K 103 = qU J 103 V.1.1.length (qn V.2.2.1.length) 103 := m3 103 (by omega) (by omega) (by omega)
    rw [e]
    unfold qOpen
    dsimp only at k2 ⊢
    split
    · refine qAll_mono k2 fun j x hj _ hp => ?_
      rw [qU_k (by omega)]; exact hp
    · refine qAll_push k2 (fun j x hj hp => ?_) ?_
      · rw [qU_k (by omega)]; exact hp
      · rw [hok, qU_s]
  · rw [m3 92 (by omega) (by omega) (by omega), qU_r (by omega)]; exact k3
  · rw [m3 93 (by omega) (by omega) (by omega), m3 94 (by omega) (by omega) (by omega), m3 95 (by omega) (by omega) (by omega), m3 96 (by omega) (by omega) (by omega), m3 97 (by omega) (by omega) (by omega)]
    simp (disch := omega) only [qU_r]; exact k4
  · rw [m3 91 (by omega) (by omega) (by omega), qU_r (by omega)]; exact k5
  · rw [m3 91 (by omega) (by omega) (by omega), qU_r (by omega)]; exact k6
  · rw [m3 101 (by omega) (by omega) (by omega), m3 102 (by omega) (by omega) (by omega)]
    simp (disch := omega) only [qU_r]; exact k7
  · rw [m3 91 (by omega) (by omega) (by omega), qU_r (by omega)]; exact k8
  · intro a ha
    rw [m3 a (by omega) (by omega) (by omega), qU_r (by omega), j2.1 a ha]
  · rw [m3 91 (by omega) (by omega) (by omega), qU_r (by omega), j2.2.1]
  · rw [m2, qU_r (by omega), j2.2.2]
end
