/-! THE CLASS: the normal form is written -/
theorem qAll_rev {α : Type} {P : Nat → α → Prop} {l : List α} (h : qAll P l) {j : Nat} {t : α} (hj : l.reverse[j]? = some t) : P j t := by
  have hlt := (List.getElem?_eq_some_iff.mp hj).1
  rw [List.length_reverse] at hlt
  obtain ⟨x, -, hg, hp⟩ := qAll_get h j hlt
  rw [List.getElem?_reverse hlt] at hj
  rw [hj] at hg
  injection hg with hg
  rw [hg]; exact hp
theorem qAll_drop {α : Type} {P : Nat → α → Prop} : ∀ {l : List α} (k : Nat), qAll P l → qAll P (l.drop k) := by
  intro l
  induction l with
  | nil => intro k h; simpa using h
  | cons x l ih =>
    intro k h
    cases k with
    | zero => exact h
    | succ k => exact ih k h.2
theorem qAll_pop {P : Nat → Nat × Nat → Prop} (p : Option Nat) : ∀ {l : List (Nat × Nat)}, qAll P l → qAll P (qPop p l) := by
  intro l
  induction l with
  | nil => intro h; exact h
  | cons x l ih =>
    intro h
    unfold qPop
    split
    · exact h
    · exact ih h.2
theorem qo_eq2 {a : Nat} {p : Option Nat} (ha : a < 1000) (hp : ∀ q, p = some q → q < 1000) : (qn a = qo p) = (some a = p) := by
  cases p with
  | none => simp (disch := omega) [qo, qn_ne_m]
  | some q => have := hp q rfl; simp (disch := omega) [qo, qn_eq]
section
variable {w : Bool} {I : Nat → Nat → Int32} {G : qG}
theorem cEnds_4 (p : Option Nat) (hp : ∀ q, p = some q → q < 1000) : ∀ W F I m, W.length < m → W.length ≤ 20 → F.length + W.length ≤ 600 → (∀ x ∈ W, x.1 < 300 ∧ x.2 < 10 ∧ I 93 x.1 = qn x.2) → qAll (fun j x => I 103 j = qn x.1) W → qCK I 98 F.reverse → ∃ J, fX2_writeEnds_4 m 91 (qo p) (qn W.length - qn 1) (qC w I) = some (qn (qPop p W).length, qC w J) ∧ qCK J 98 (qEnds p W F).reverse ∧ ∀ a, a ≠ 98 → a ≠ 99 → a ≠ 100 → J a = I a := by
  intro W
  induction W with
  | nil =>
    intro F I m h1 h2 h3 h4 h5 h6
    obtain ⟨m, rfl⟩ : ∃ m', m = m' + 1 := ⟨m - 1, by omega⟩
    refine ⟨I, ?_, h6, fun a _ _ _ => rfl⟩
    unfold fX2_writeEnds_4
    simp (disch := omega) only [↓qlet, eq_self, qzg_t, qzb_some, ↓reduceIte, not_or, not_false_eq_true, not_true_eq_false, and_true, true_and, and_self, or_false, false_or, true_or, or_true, and_false, false_and, qlit, qneg, qof, qn_add, qn_mul, qn_s, qn_z, qn_d, qn_dz, qm_1, qt_1, qt_0, qb_0, qb_1, qb_01, qb01b, q01_0, q01_1, qo_s, qo_n, qn_c, qn_le, qn_lt, qn_eq, qn_ne_m, qm_ne_n, qm_lt, qm_le, qn_lt_m, qn_le_m, qn_sub, qn_div, qn_mod, qle_t, qle_f, qlt_t, qlt_f, qeq_t, qeq_f, Nat.add_sub_cancel, qC_I, qC_s, qU_s, qU_a, qU_k, List.length_nil, qPop]
  | cons x l ih =>
    intro F I m h1 h2 h3 h4 h5 h6
    obtain ⟨m, rfl⟩ : ∃ m', m = m' + 1 := ⟨m - 1, by omega⟩
    simp only [List.length_cons] at h1 h2 h3
    obtain ⟨x1, x2, x3⟩ := h4 x (by simp)
    have a1 := h5.1
    have hlc := h6.1
    rw [List.length_reverse] at hlc
    rw [fX2_writeEnds_4]
    unfold qPop qEnds
    by_cases c : some x.1 = p
    · rw [if_pos c, if_pos c]
      refine ⟨I, ?_, h6, fun a _ _ _ => rfl⟩
      have e : (qn x.1 = qo p) = True := by rw [qo_eq2 (by omega) hp]; exact eq_true c
      simp (disch := omega) only [↓qlet, eq_self, qzg_t, qzb_some, ↓reduceIte, not_or, not_false_eq_true, not_true_eq_false, and_true, true_and, and_self, or_false, false_or, true_or, or_true, and_false, false_and, qlit, qneg, qof, qn_add, qn_mul, qn_s, qn_z, qn_d, qn_dz, qm_1, qt_1, qt_0, qb_0, qb_1, qb_01, qb01b, q01_0, q01_1, qo_s, qo_n, qn_c, qn_le, qn_lt, qn_eq, qn_ne_m, qm_ne_n, qm_lt, qm_le, qn_lt_m, qn_le_m, qn_sub, qn_div, qn_mod, qle_t, qle_f, qlt_t, qlt_f, qeq_t, qeq_f, Nat.add_sub_cancel, qC_I, qC_s, qU_s, qU_a, qU_k, qk_1, qk_2, qk_3, qk_4, qk_5, qk_6, qk_7, qk_68, qk_69, qk_70, qk_71, qk_72, qk_91, qk_92, qk_93, qk_94, qk_95, qk_96, qk_97, qk_98, qk_99, qk_100, qk_101, qk_102, qk_103, qk_104, qk_105, qk_106, qk_107, qk_108, qk_109, qk_476, qk_477, ql_3, ql_4, ql_5, ql_6, ql_7, ql_69, ql_70, ql_71, ql_72, ql_93, ql_94, ql_95, ql_96, ql_97, ql_99, ql_100, ql_101, ql_102, ql_103, ql_104, ql_105, ql_106, ql_108, ql_109, ql_477, qr_1_0, qr_1_1, qr_1_2, qr_1_3, qr_1_4, qr_1_5, qr_2_0, qr_2_1, qr_2_2, qr_2_3, qr_2_4, qr_68_0, qr_68_1, qr_91_0, qr_91_1, qr_91_2, qr_91_3, qr_91_4, qr_91_5, qr_91_6, qr_91_7, qr_91_10, qr_91_11, qr_91_14, qr_92_0, qr_92_1, qr_92_2, qr_92_3, qr_92_4, qr_98_0, qr_98_1, qr_107_0, qr_107_1, qr_107_2, qr_476_0, qr_476_1, qr_476_2, List.length_cons, a1, e]
    · rw [if_neg c, if_neg c]
      have e : (qn x.1 = qo p) = False := by rw [qo_eq2 (by omega) hp]; exact eq_false c
      obtain ⟨J, e1, j1, j2⟩ := cPutTok (w := w) qRw_98 h6 (by rw [List.length_reverse]; omega) (by omega) (pl := F.length) (by rw [List.length_reverse]; exact Nat.le_refl _) (s := 1) (v := qn x.2)
      have j1 : qCK J 98 (((1, qn x.2) :: F).reverse) := by
        have e9 := qIns_end F.reverse (1, qn x.2)
        rw [List.length_reverse] at e9
        rw [List.reverse_cons, ← e9]; exact j1
      obtain ⟨K, e2, k1, k2⟩ := ih ((1, qn x.2) :: F) J m (by omega) (by omega) (by simp only [List.length_cons]; omega) (fun y hy => by rw [j2 93 (by omega) (by omega) (by omega)]; exact h4 y (by simp [hy])) (by rw [j2 103 (by omega) (by omega) (by omega)]; exact h5.2) j1
      refine ⟨K, ?_, k1, fun a b1 b2 b3 => by rw [k2 a b1 b2 b3, j2 a b1 b2 b3]⟩
      simp (disch := omega) only [↓qlet, eq_self, qzg_t, qzb_some, ↓reduceIte, not_or, not_false_eq_true, not_true_eq_false, and_true, true_and, and_self, or_false, false_or, true_or, or_true, and_false, false_and, qlit, qneg, qof, qn_add, qn_mul, qn_s, qn_z, qn_d, qn_dz, qm_1, qt_1, qt_0, qb_0, qb_1, qb_01, qb01b, q01_0, q01_1, qo_s, qo_n, qn_c, qn_le, qn_lt, qn_eq, qn_ne_m, qm_ne_n, qm_lt, qm_le, qn_lt_m, qn_le_m, qn_sub, qn_div, qn_mod, qle_t, qle_f, qlt_t, qlt_f, qeq_t, qeq_f, Nat.add_sub_cancel, qC_I, qC_s, qU_s, qU_a, qU_k, qk_1, qk_2, qk_3, qk_4, qk_5, qk_6, qk_7, qk_68, qk_69, qk_70, qk_71, qk_72, qk_91, qk_92, qk_93, qk_94, qk_95, qk_96, qk_97, qk_98, qk_99, qk_100, qk_101, qk_102, qk_103, qk_104, qk_105, qk_106, qk_107, qk_108, qk_109, qk_476, qk_477, ql_3, ql_4, ql_5, ql_6, ql_7, ql_69, ql_70, ql_71, ql_72, ql_93, ql_94, ql_95, ql_96, ql_97, ql_99, ql_100, ql_101, ql_102, ql_103, ql_104, ql_105, ql_106, ql_108, ql_109, ql_477, qr_1_0, qr_1_1, qr_1_2, qr_1_3, qr_1_4, qr_1_5, qr_2_0, qr_2_1, qr_2_2, qr_2_3, qr_2_4, qr_68_0, qr_68_1, qr_91_0, qr_91_1, qr_91_2, qr_91_3, qr_91_4, qr_91_5, qr_91_6, qr_91_7, qr_91_10, qr_91_11, qr_91_14, qr_92_0, qr_92_1, qr_92_2, qr_92_3, qr_92_4, qr_98_0, qr_98_1, qr_107_0, qr_107_1, qr_107_2, qr_476_0, qr_476_1, qr_476_2, List.length_cons, a1, e, x3, hlc, e1]
      rw [qm_1b]
      exact e2
theorem cEnds (p : Option Nat) (hp : ∀ q, p = some q → q < 1000) {W : List (Nat × Nat)} {F : List qK} (h2 : W.length ≤ 20) (h3 : F.length + W.length ≤ 600) (h4 : ∀ x ∈ W, x.1 < 300 ∧ x.2 < 10 ∧ I 93 x.1 = qn x.2) (h5 : qAll (fun j x => I 103 j = qn x.1) W) (h6 : qCK I 98 F.reverse) : ∃ J, fX2_writeEnds 91 (qn W.length) (qo p) (qC w I) = some (qn (qPop p W).length, qC w J) ∧ qCK J 98 (qEnds p W F).reverse ∧ ∀ a, a ≠ 98 → a ≠ 99 → a ≠ 100 → J a = I a := cEnds_4 p hp W F I 10000 (by omega) h2 h3 h4 h5 h6
def qTh (I : Nat → Nat → Int32) (th : List qT) : Prop := qAll (fun j t => I 93 j = qn t.1 ∧ I 94 j = qo t.2.1 ∧ I 95 j = qn t.2.2.1 ∧ I 96 j = qn t.2.2.2.1 ∧ I 97 j = qb t.2.2.2.2) th
theorem cForm_12 (hg : qGok G) {th : List qT} (hL : th.length ≤ 300) (ht : ∀ t ∈ th, t.1 ≤ 10 ∧ (∀ q, t.2.1 = some q → q < 300) ∧ t.2.2.1 < 128 ∧ t.2.2.2.1 ≤ 600) (hwf : ∀ k, qWF G (th.drop k)) : ∀ d l I m, d < m → d + l.length = th.length → l = th.drop d → qCG G I → qTh I th → I 92 5 = qn th.length → qAll (fun j x => I 103 j = qn x.1) (qW G l) → qCK I 98 (qF G l).reverse → ∃ J, fX2_writeNormalForm_12 m 91 (qn (qW G l).length) (qn l.length) (qC w I) = some (qn 0, qC w J) ∧ qCK J 98 (qForm G th) ∧ ∀ a, a ≠ 98 → a ≠ 99 → a ≠ 100 → a ≠ 103 → J a = I a := by
  have hw20 : ∀ k, (qW G (th.drop k)).length ≤ 20 := by
    intro k
    have h := hwf k
    cases e : th.drop k with
    | nil => simp [qW]
    | cons t l => rw [e] at h; exact h.2.2
  intro d
  induction d with
  | zero =>
    intro l I m h1 h2 h3 hG hT h5 hW hF
    obtain ⟨m, rfl⟩ : ∃ m', m = m' + 1 := ⟨m - 1, by omega⟩
    have hl : l = th := by rw [h3]; rfl
    subst hl
    have hf := qF_len G l
    have hm : ∀ x ∈ qW G l, x.1 < 300 ∧ x.2 < 10 ∧ I 93 x.1 = qn x.2 := by
      intro x hx
      obtain ⟨m1, m2, t, m3, m4⟩ := qW_mem G l x hx
      refine ⟨by omega, m2, ?_⟩
      rw [← m4]; exact (qAll_rev hT m3).1
    have h20 : (qW G l).length ≤ 20 := hw20 0
    obtain ⟨J, e1, j1, j2⟩ := cEnds (w := w) none (fun q h => by cases h) h20 (by omega) hm hW hF
    refine ⟨J, ?_, j1, fun a b1 b2 b3 _ => j2 a b1 b2 b3⟩
    unfold fX2_writeNormalForm_12 fX2_writeNormalForm_134
    rw [qo_n] at e1
    simp (disch := omega) only [↓qlet, eq_self, qzg_t, qzb_some, ↓reduceIte, not_or, not_false_eq_true, not_true_eq_false, and_true, true_and, and_self, or_false, false_or, true_or, or_true, and_false, false_and, qlit, qneg, qof, qn_add, qn_mul, qn_s, qn_z, qn_d, qn_dz, qm_1, qt_1, qt_0, qb_0, qb_1, qb_01, qb01b, q01_0, q01_1, qo_s, qo_n, qn_c, qn_le, qn_lt, qn_eq, qn_ne_m, qm_ne_n, qm_lt, qm_le, qn_lt_m, qn_le_m, qn_sub, qn_div, qn_mod, qle_t, qle_f, qlt_t, qlt_f, qeq_t, qeq_f, Nat.add_sub_cancel, qC_I, qC_s, qU_s, qU_a, qU_k, qk_1, qk_2, qk_3, qk_4, qk_5, qk_6, qk_7, qk_68, qk_69, qk_70, qk_71, qk_72, qk_91, qk_92, qk_93, qk_94, qk_95, qk_96, qk_97, qk_98, qk_99, qk_100, qk_101, qk_102, qk_103, qk_104, qk_105, qk_106, qk_107, qk_108, qk_109, qk_476, qk_477, qr_1_0, qr_1_1, qr_1_2, qr_1_3, qr_1_4, qr_1_5, qr_2_0, qr_2_1, qr_2_2, qr_2_3, qr_2_4, qr_68_0, qr_68_1, qr_91_0, qr_91_1, qr_91_2, qr_91_3, qr_91_4, qr_91_5, qr_91_6, qr_91_7, qr_91_10, qr_91_11, qr_91_14, qr_92_0, qr_92_1, qr_92_2, qr_92_3, qr_92_4, qr_98_0, qr_98_1, qr_107_0, qr_107_1, qr_107_2, qr_476_0, qr_476_1, qr_476_2, h5, e1]
  | succ d ih =>
    intro l I m h1 h2 h3 hG hT h5 hW hF
    obtain ⟨m, rfl⟩ : ∃ m', m = m' + 1 := ⟨m - 1, by omega⟩
    have hdl : d < th.length := by omega
    have hd : th.drop d = th[d] :: l := by rw [h3, List.getElem_cons_drop]
    obtain ⟨t, htt⟩ : ∃ t, t = th[d] := ⟨_, rfl⟩
    rw [← htt] at hd
    have htm : t ∈ th := by rw [htt]; exact List.getElem_mem hdl
    obtain ⟨t1, t2, t3, t4⟩ := ht t htm
    have hTd := qAll_drop d hT
    rw [hd] at hTd
    obtain ⟨⟨m1, m2, m3, m4, m5⟩, hTl⟩ := hTd
    have hf := qF_len G l
    have hmW : ∀ x ∈ qW G l, x.1 < 300 ∧ x.2 < 10 ∧ I 93 x.1 = qn x.2 := by
      intro x hx
      obtain ⟨n1, n2, t', n3, n4⟩ := qW_mem G l x hx
      refine ⟨by omega, n2, ?_⟩
      rw [← n4]; exact (qAll_rev hTl n3).1
    have h20 : (qW G l).length ≤ 20 := by rw [h3]; exact hw20 _
    obtain ⟨J, e1, j1, j2⟩ := cEnds (w := w) t.2.1 (fun q h => by have := t2 q h; omega) h20 (by omega) hmW hW hF
    have hpl := qEnds_len t.2.1 (qW G l) (qF G l)
    have hWJ : qAll (fun j x => J 103 j = qn x.1) (qPop t.2.1 (qW G l)) := by rw [j2 103 (by omega) (by omega) (by omega)]; exact qAll_pop _ hW
    have hlc := j1.1
    rw [List.length_reverse] at hlc
    have hGJ : qCG G J := qCG_fr hG fun a ha => j2 a (by omega) (by omega) (by omega)
    have hTJ : qTh J th := by
      unfold qTh
      rw [j2 93 (by omega) (by omega) (by omega), j2 94 (by omega) (by omega) (by omega), j2 95 (by omega) (by omega) (by omega), j2 96 (by omega) (by omega) (by omega), j2 97 (by omega) (by omega) (by omega)]
      exact hT
    have n1 : J 93 l.length = qn t.1 := by rw [j2 93 (by omega) (by omega) (by omega)]; exact m1
    have n3 : J 95 l.length = qn t.2.2.1 := by rw [j2 95 (by omega) (by omega) (by omega)]; exact m3
    have h5J : J 92 5 = qn th.length := by rw [j2 92 (by omega) (by omega) (by omega)]; exact h5
    have h20' : (qW G (t :: l)).length ≤ 20 := by rw [← hd]; exact hw20 d
    rw [fX2_writeNormalForm_12]
    by_cases c10 : t.1 = 10
    · obtain ⟨K, e2, k1, k2⟩ := cPutTok (w := w) qRw_98 j1 (by rw [List.length_reverse]; omega) (by omega) (pl := (qEnds t.2.1 (qW G l) (qF G l)).length) (by rw [List.length_reverse]; exact Nat.le_refl _) (s := 4) (v := qn t.2.2.1)
      have eF : qF G (t :: l) = (4, qn t.2.2.1) :: qEnds t.2.1 (qW G l) (qF G l) := by simp only [qF]; rw [if_pos c10]
      have eW : qW G (t :: l) = qPop t.2.1 (qW G l) := by simp only [qW]; rw [if_neg (by omega)]
      have k1 : qCK K 98 (qF G (t :: l)).reverse := by
        have e9 := qIns_end (qEnds t.2.1 (qW G l) (qF G l)).reverse (4, qn t.2.2.1)
        rw [List.length_reverse] at e9
        rw [eF, List.reverse_cons, ← e9]; exact k1
      obtain ⟨L, e3, l1, l2⟩ := ih (t :: l) K m (by omega) (by simp only [List.length_cons]; omega) hd.symm (qCG_fr hGJ fun a ha => k2 a (by omega) (by omega) (by omega)) (by unfold qTh; rw [k2 93 (by omega) (by omega) (by omega), k2 94 (by omega) (by omega) (by omega), k2 95 (by omega) (by omega) (by omega), k2 96 (by omega) (by omega) (by omega), k2 97 (by omega) (by omega) (by omega)]; exact hTJ) (by rw [k2 92 (by omega) (by omega) (by omega)]; exact h5J) (by rw [eW, k2 103 (by omega) (by omega) (by omega)]; exact hWJ) k1
      refine ⟨L, ?_, l1, fun a b1 b2 b3 b4 => by rw [l2 a b1 b2 b3 b4, k2 a b1 b2 b3, j2 a b1 b2 b3]⟩
      rw [eW] at e3
      simp only [List.length_cons] at e3
      simp (disch := omega) only [↓qlet, eq_self, qzg_t, qzb_some, ↓reduceIte, not_or, not_false_eq_true, not_true_eq_false, and_true, true_and, and_self, or_false, false_or, true_or, or_true, and_false, false_and, qlit, qneg, qof, qn_add, qn_mul, qn_s, qn_z, qn_d, qn_dz, qm_1, qt_1, qt_0, qb_0, qb_1, qb_01, qb01b, q01_0, q01_1, qo_s, qo_n, qn_c, qn_le, qn_lt, qn_eq, qn_ne_m, qm_ne_n, qm_lt, qm_le, qn_lt_m, qn_le_m, qn_sub, qn_div, qn_mod, qle_t, qle_f, qlt_t, qlt_f, qeq_t, qeq_f, Nat.add_sub_cancel, qC_I, qC_s, qU_s, qU_a, qU_k, qk_1, qk_2, qk_3, qk_4, qk_5, qk_6, qk_7, qk_68, qk_69, qk_70, qk_71, qk_72, qk_91, qk_92, qk_93, qk_94, qk_95, qk_96, qk_97, qk_98, qk_99, qk_100, qk_101, qk_102, qk_103, qk_104, qk_105, qk_106, qk_107, qk_108, qk_109, qk_476, qk_477, ql_3, ql_4, ql_5, ql_6, ql_7, ql_69, ql_70, ql_71, ql_72, ql_93, ql_94, ql_95, ql_96, ql_97, ql_99, ql_100, ql_101, ql_102, ql_103, ql_104, ql_105, ql_106, ql_108, ql_109, ql_477, qr_1_0, qr_1_1, qr_1_2, qr_1_3, qr_1_4, qr_1_5, qr_2_0, qr_2_1, qr_2_2, qr_2_3, qr_2_4, qr_68_0, qr_68_1, qr_91_0, qr_91_1, qr_91_2, qr_91_3, qr_91_4, qr_91_5, qr_91_6, qr_91_7, qr_91_10, qr_91_11, qr_91_14, qr_92_0, qr_92_1, qr_92_2, qr_92_3, qr_92_4, qr_98_0, qr_98_1, qr_107_0, qr_107_1, qr_107_2, qr_476_0, qr_476_1, qr_476_2, h5, m2, e1, n1, n3, c10, hlc, e2, fX2_writeNormalForm_128, e3]
    · have he : t.1 < 10 := by omega
      obtain ⟨K, e2, k1, k2⟩ := cPutTok (w := w) qRw_98 j1 (by rw [List.length_reverse]; omega) (by omega) (pl := (qEnds t.2.1 (qW G l) (qF G l)).length) (by rw [List.length_reverse]; exact Nat.le_refl _) (s := 0) (v := qn t.1)
      have eF : qF G (t :: l) = (0, qn t.1) :: qEnds t.2.1 (qW G l) (qF G l) := by simp only [qF]; rw [if_neg c10]
      have k1 : qCK K 98 (qF G (t :: l)).reverse := by
        have e9 := qIns_end (qEnds t.2.1 (qW G l) (qF G l)).reverse (0, qn t.1)
        rw [List.length_reverse] at e9
        rw [eF, List.reverse_cons, ← e9]; exact k1
      have hGK : qCG G K := qCG_fr hGJ fun a ha => k2 a (by omega) (by omega) (by omega)
      have gn := (hGK t.1 he).1
      have g6 := (hg t.1 he).1
      have hTK : qTh K th := by unfold qTh; rw [k2 93 (by omega) (by omega) (by omega), k2 94 (by omega) (by omega) (by omega), k2 95 (by omega) (by omega) (by omega), k2 96 (by omega) (by omega) (by omega), k2 97 (by omega) (by omega) (by omega)]; exact hTJ
      have h5K : K 92 5 = qn th.length := by rw [k2 92 (by omega) (by omega) (by omega)]; exact h5J
      have hWK : qAll (fun j x => K 103 j = qn x.1) (qPop t.2.1 (qW G l)) := by rw [k2 103 (by omega) (by omega) (by omega)]; exact hWJ
      by_cases c0 : qgN G t.1 = 0
      · have eW : qW G (t :: l) = qPop t.2.1 (qW G l) := by simp only [qW]; rw [if_neg (by omega)]
        obtain ⟨L, e3, l1, l2⟩ := ih (t :: l) K m (by omega) (by simp only [List.length_cons]; omega) hd.symm hGK hTK h5K (by rw [eW]; exact hWK) k1
        refine ⟨L, ?_, l1, fun a b1 b2 b3 b4 => by rw [l2 a b1 b2 b3 b4, k2 a b1 b2 b3, j2 a b1 b2 b3]⟩
        rw [eW] at e3
        simp only [List.length_cons] at e3
        simp (disch := omega) only [↓qlet, eq_self, qzg_t, qzb_some, ↓reduceIte, not_or, not_false_eq_true, not_true_eq_false, and_true, true_and, and_self, or_false, false_or, true_or, or_true, and_false, false_and, qlit, qneg, qof, qn_add, qn_mul, qn_s, qn_z, qn_d, qn_dz, qm_1, qt_1, qt_0, qb_0, qb_1, qb_01, qb01b, q01_0, q01_1, qo_s, qo_n, qn_c, qn_le, qn_lt, qn_eq, qn_ne_m, qm_ne_n, qm_lt, qm_le, qn_lt_m, qn_le_m, qn_sub, qn_div, qn_mod, qle_t, qle_f, qlt_t, qlt_f, qeq_t, qeq_f, Nat.add_sub_cancel, qC_I, qC_s, qU_s, qU_a, qU_k, qk_1, qk_2, qk_3, qk_4, qk_5, qk_6, qk_7, qk_68, qk_69, qk_70, qk_71, qk_72, qk_91, qk_92, qk_93, qk_94, qk_95, qk_96, qk_97, qk_98, qk_99, qk_100, qk_101, qk_102, qk_103, qk_104, qk_105, qk_106, qk_107, qk_108, qk_109, qk_476, qk_477, ql_3, ql_4, ql_5, ql_6, ql_7, ql_69, ql_70, ql_71, ql_72, ql_93, ql_94, ql_95, ql_96, ql_97, ql_99, ql_100, ql_101, ql_102, ql_103, ql_104, ql_105, ql_106, ql_108, ql_109, ql_477, qr_1_0, qr_1_1, qr_1_2, qr_1_3, qr_1_4, qr_1_5, qr_2_0, qr_2_1, qr_2_2, qr_2_3, qr_2_4, qr_68_0, qr_68_1, qr_91_0, qr_91_1, qr_91_2, qr_91_3, qr_91_4, qr_91_5, qr_91_6, qr_91_7, qr_91_10, qr_91_11, qr_91_14, qr_92_0, qr_92_1, qr_92_2, qr_92_3, qr_92_4, qr_98_0, qr_98_1, qr_107_0, qr_107_1, qr_107_2, qr_476_0, qr_476_1, qr_476_2, qk_2, qk_3, qk_4, qk_5, qk_6, qk_7, ql_3, ql_4, ql_5, ql_6, ql_7, qr_2_0, qr_2_1, qr_2_2, qr_2_3, qr_2_4, qmo_r, qmo_k, qmo0_k, qmo0_l, qmo1_k, qmo1_l, qmo2_k, qmo2_l, qmo4_k, qmo4_l, qmo5_k, qmo5_l, qmo_r0, qmo_r1, qmo_r2, qmo_r4, qmo_r5, h5, m2, e1, n1, hlc, e2, gn, c0, fX2_writeNormalForm_128, e3]
      · have eW : qW G (t :: l) = (l.length, t.1) :: qPop t.2.1 (qW G l) := by simp only [qW]; rw [if_pos ⟨he, c0⟩]
        rw [eW] at h20'
        simp only [List.length_cons] at h20'
        have hK2 : ∀ a, a ≠ 103 → qU K 103 (qPop t.2.1 (qW G l)).length (qn l.length) a = K a := fun a h => qU_r h
        obtain ⟨L, e3, l1, l2⟩ := ih (t :: l) (qU K 103 (qPop t.2.1 (qW G l)).length (qn l.length)) m (by omega) (by simp only [List.length_cons]; omega) hd.symm (qCG_fr hGK fun a ha => hK2 a (by omega)) (by unfold qTh; rw [hK2 93 (by omega), hK2 94 (by omega), hK2 95 (by omega), hK2 96 (by omega), hK2 97 (by omega)]; exact hTK) (by rw [hK2 92 (by omega)]; exact h5K) (by rw [eW]; exact qAll_push hWK (fun j x hj hp => by rw [qU_k (by omega)]; exact hp) (qU_s ..)) (qCK_fr k1 (by rw [hK2 98 (by omega)]) (by rw [hK2 99 (by omega)]) (by rw [hK2 100 (by omega)]))
        refine ⟨L, ?_, l1, fun a b1 b2 b3 b4 => by rw [l2 a b1 b2 b3 b4, hK2 a b4, k2 a b1 b2 b3, j2 a b1 b2 b3]⟩
        rw [eW] at e3
        simp only [List.length_cons] at e3
        simp (disch := omega) only [↓qlet, eq_self, qzg_t, qzb_some, ↓reduceIte, not_or, not_false_eq_true, not_true_eq_false, and_true, true_and, and_self, or_false, false_or, true_or, or_true, and_false, false_and, qlit, qneg, qof, qn_add, qn_mul, qn_s, qn_z, qn_d, qn_dz, qm_1, qt_1, qt_0, qb_0, qb_1, qb_01, qb01b, q01_0, q01_1, qo_s, qo_n, qn_c, qn_le, qn_lt, qn_eq, qn_ne_m, qm_ne_n, qm_lt, qm_le, qn_lt_m, qn_le_m, qn_sub, qn_div, qn_mod, qle_t, qle_f, qlt_t, qlt_f, qeq_t, qeq_f, Nat.add_sub_cancel, qC_I, qC_s, qU_s, qU_a, qU_k, qk_1, qk_2, qk_3, qk_4, qk_5, qk_6, qk_7, qk_68, qk_69, qk_70, qk_71, qk_72, qk_91, qk_92, qk_93, qk_94, qk_95, qk_96, qk_97, qk_98, qk_99, qk_100, qk_101, qk_102, qk_103, qk_104, qk_105, qk_106, qk_107, qk_108, qk_109, qk_476, qk_477, ql_3, ql_4, ql_5, ql_6, ql_7, ql_69, ql_70, ql_71, ql_72, ql_93, ql_94, ql_95, ql_96, ql_97, ql_99, ql_100, ql_101, ql_102, ql_103, ql_104, ql_105, ql_106, ql_108, ql_109, ql_477, qr_1_0, qr_1_1, qr_1_2, qr_1_3, qr_1_4, qr_1_5, qr_2_0, qr_2_1, qr_2_2, qr_2_3, qr_2_4, qr_68_0, qr_68_1, qr_91_0, qr_91_1, qr_91_2, qr_91_3, qr_91_4, qr_91_5, qr_91_6, qr_91_7, qr_91_10, qr_91_11, qr_91_14, qr_92_0, qr_92_1, qr_92_2, qr_92_3, qr_92_4, qr_98_0, qr_98_1, qr_107_0, qr_107_1, qr_107_2, qr_476_0, qr_476_1, qr_476_2, qk_2, qk_3, qk_4, qk_5, qk_6, qk_7, ql_3, ql_4, ql_5, ql_6, ql_7, qr_2_0, qr_2_1, qr_2_2, qr_2_3, qr_2_4, qmo_r, qmo_k, qmo0_k, qmo0_l, qmo1_k, qmo1_l, qmo2_k, qmo2_l, qmo4_k, qmo4_l, qmo5_k, qmo5_l, qmo_r0, qmo_r1, qmo_r2, qmo_r4, qmo_r5, h5, m2, e1, n1, hlc, e2, gn, fX2_writeNormalForm_128, e3]
theorem cForm (hg : qGok G) {th : List qT} (hL : th.length ≤ 300) (ht : ∀ t ∈ th, t.1 ≤ 10 ∧ (∀ q, t.2.1 = some q → q < 300) ∧ t.2.2.1 < 128 ∧ t.2.2.2.1 ≤ 600) (hwf : ∀ k, qWF G (th.drop k)) (hG : qCG G I) (hT : qTh I th) (h5 : I 92 5 = qn th.length) : ∃ J, fX2_writeNormalForm 91 (qC w I) = some (qn 0, qC w J) ∧ qCK J 98 (qForm G th) ∧ ∀ a, a ≠ 98 → a ≠ 99 → a ≠ 100 → a ≠ 103 → J a = I a := by
  have hr : ∀ a, a ≠ 98 → qU I 98 2 (qn 0) a = I a := fun a h => qU_r h
  obtain ⟨J, e1, j1, j2⟩ := cForm_12 (w := w) hg hL ht hwf th.length [] (qU I 98 2 (qn 0)) 10000 (by omega) (by simp) (by simp) (qCG_fr hG fun a ha => hr a (by omega)) (by unfold qTh; rw [hr 93 (by omega), hr 94 (by omega), hr 95 (by omega), hr 96 (by omega), hr 97 (by omega)]; exact hT) (by rw [hr 92 (by omega)]; exact h5) True.intro ⟨by rw [qU_s]; rfl, fun i k h => by simp [qF] at h⟩
  refine ⟨J, ?_, j1, fun a b1 b2 b3 b4 => by rw [j2 a b1 b2 b3 b4, hr a b1]⟩
  unfold fX2_writeNormalForm
  simp only [qW, List.length_nil] at e1
  simp (disch := omega) only [↓qlet, eq_self, qzg_t, qzb_some, ↓reduceIte, not_or, not_false_eq_true, not_true_eq_false, and_true, true_and, and_self, or_false, false_or, true_or, or_true, and_false, false_and, qlit, qneg, qof, qn_add, qn_mul, qn_s, qn_z, qn_d, qn_dz, qm_1, qt_1, qt_0, qb_0, qb_1, qb_01, qb01b, q01_0, q01_1, qo_s, qo_n, qn_c, qn_le, qn_lt, qn_eq, qn_ne_m, qm_ne_n, qm_lt, qm_le, qn_lt_m, qn_le_m, qn_sub, qn_div, qn_mod, qle_t, qle_f, qlt_t, qlt_f, qeq_t, qeq_f, Nat.add_sub_cancel, qC_I, qC_s, qU_s, qU_a, qU_k, qk_1, qk_2, qk_3, qk_4, qk_5, qk_6, qk_7, qk_68, qk_69, qk_70, qk_71, qk_72, qk_91, qk_92, qk_93, qk_94, qk_95, qk_96, qk_97, qk_98, qk_99, qk_100, qk_101, qk_102, qk_103, qk_104, qk_105, qk_106, qk_107, qk_108, qk_109, qk_476, qk_477, qr_1_0, qr_1_1, qr_1_2, qr_1_3, qr_1_4, qr_1_5, qr_2_0, qr_2_1, qr_2_2, qr_2_3, qr_2_4, qr_68_0, qr_68_1, qr_91_0, qr_91_1, qr_91_2, qr_91_3, qr_91_4, qr_91_5, qr_91_6, qr_91_7, qr_91_10, qr_91_11, qr_91_14, qr_92_0, qr_92_1, qr_92_2, qr_92_3, qr_92_4, qr_98_0, qr_98_1, qr_107_0, qr_107_1, qr_107_2, qr_476_0, qr_476_1, qr_476_2, e1]
end
