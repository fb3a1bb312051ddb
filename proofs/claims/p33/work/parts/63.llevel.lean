/-! THE LAW: its loop over the levels -/
/-- the loop; what comes behind it -/
def lR (m : Nat) (M : zM) : Option (Int32 × zM) := fL_reads_31 m 505 506 507 508 509 510 511 512 513 514 515 516 517 518 M
def lF (M : zM) : Option (Int32 × zM) := fL_reads_164 505 506 507 509 510 511 517 M
section
variable {w : Bool} {I : Nat → Nat → Int32} {W : Nat → Nat → Nat} {G : qG} {V : qV} {f : Bool} {p : Nat} {sw : Nat → Nat} {en : Nat → List qK} {txt ks : List qK} {lev : Nat}
theorem lOver (hV : qLV I p V true) (h7 : I 510 7 = qn lev) (hl : lev ≤ 2) (m : Nat) : lR (m + 1) (qL w I W) = lF (qL w I W) := by
  have h6 := hV.2.2.2.2.2.2.1
  rw [qb_t] at h6
  unfold lR lF fL_reads_31
  by_cases c : 0 < lev
  · have c2 : ¬ lev ≤ 0 := by omega
    unfold fL_reads_52
    simp (disch := omega) only [↓qlet, eq_self, qzg_t, qzb_some, ↓reduceIte, not_or, not_false_eq_true, not_true_eq_false, and_true, true_and, and_self, or_false, false_or, true_or, or_true, and_false, false_and, qlit, qneg, qof, qn_add, qn_mul, qn_s, qn_z, qn_d, qn_dz, qm_1, qt_1, qt_0, qb_0, qb_1, qb_01, qb01b, q01_0, q01_1, qo_s, qo_n, qn_c, qn_le, qn_lt, qn_eq, qn_ne_m, qm_ne_n, qm_lt, qm_le, qn_lt_m, qn_le_m, qn_sub, qn_div, qn_mod, qle_t, qle_f, qlt_t, qlt_f, qeq_t, qeq_f, Nat.add_sub_cancel, qU_s, qU_a, qU_k, qn_rem, qL_I, qL_s, lk_505, lk_506, lk_507, lk_508, lk_509, lk_510, lk_511, lk_512, lk_513, lk_514, lk_515, lk_516, lk_517, lk_518, lk_519, ll_505, ll_506, ll_507, ll_508, ll_509, ll_510, ll_511, ll_512, ll_513, ll_514, ll_515, ll_516, ll_517, ll_518, ll_519, h7, c, h6]
  · obtain rfl : lev = 0 := by omega
    unfold fL_reads_52
    simp (disch := omega) only [↓qlet, eq_self, qzg_t, qzb_some, ↓reduceIte, not_or, not_false_eq_true, not_true_eq_false, and_true, true_and, and_self, or_false, false_or, true_or, or_true, and_false, false_and, qlit, qneg, qof, qn_add, qn_mul, qn_s, qn_z, qn_d, qn_dz, qm_1, qt_1, qt_0, qb_0, qb_1, qb_01, qb01b, q01_0, q01_1, qo_s, qo_n, qn_c, qn_le, qn_lt, qn_eq, qn_ne_m, qm_ne_n, qm_lt, qm_le, qn_lt_m, qn_le_m, qn_sub, qn_div, qn_mod, qle_t, qle_f, qlt_t, qlt_f, qeq_t, qeq_f, Nat.add_sub_cancel, qU_s, qU_a, qU_k, qn_rem, qL_I, qL_s, lk_505, lk_506, lk_507, lk_508, lk_509, lk_510, lk_511, lk_512, lk_513, lk_514, lk_515, lk_516, lk_517, lk_518, lk_519, ll_505, ll_506, ll_507, ll_508, ll_509, ll_510, ll_511, ll_512, ll_513, ll_514, ll_515, ll_516, ll_517, ll_518, ll_519, h7, h6]
    split <;> rfl
/-- the loop's head, where a row goes on -/
theorem lHead (hV : qLV I p V false) (hX : qLX I sw en txt) (hr : qLRow I en txt lev ks) (h7 : I 510 7 = qn lev) {i : Nat} (h8 : I 510 (8 + lev) = qn i) (hi : i ≤ ks.length) (h0 : lev = 0 → i < ks.length) (m : Nat) : lR (m + 1) (qL w I W) = fL_reads_52 (fL_reads_31 m) 505 506 507 508 509 510 511 512 513 514 515 516 517 518 (qL w I W) := by
  obtain ⟨l1, l2, l3⟩ := qLRow_l hX hr
  unfold lR fL_reads_31
  by_cases c : 0 < lev
  · simp (disch := omega) only [↓qlet, eq_self, qzg_t, qzb_some, ↓reduceIte, not_or, not_false_eq_true, not_true_eq_false, and_true, true_and, and_self, or_false, false_or, true_or, or_true, and_false, false_and, qlit, qneg, qof, qn_add, qn_mul, qn_s, qn_z, qn_d, qn_dz, qm_1, qt_1, qt_0, qb_0, qb_1, qb_01, qb01b, q01_0, q01_1, qo_s, qo_n, qn_c, qn_le, qn_lt, qn_eq, qn_ne_m, qm_ne_n, qm_lt, qm_le, qn_lt_m, qn_le_m, qn_sub, qn_div, qn_mod, qle_t, qle_f, qlt_t, qlt_f, qeq_t, qeq_f, Nat.add_sub_cancel, qU_s, qU_a, qU_k, qn_rem, qL_I, qL_s, lk_505, lk_506, lk_507, lk_508, lk_509, lk_510, lk_511, lk_512, lk_513, lk_514, lk_515, lk_516, lk_517, lk_518, lk_519, ll_505, ll_506, ll_507, ll_508, ll_509, ll_510, ll_511, ll_512, ll_513, ll_514, ll_515, ll_516, ll_517, ll_518, ll_519, h7, c]
  · obtain rfl : lev = 0 := by omega
    have h8 : I 510 8 = qn i := h8
    have hl := h0 rfl
    rcases hr with ⟨-, rfl⟩ | ⟨h, -⟩
    · have h20 := hX.1.1
      have c2 : ¬ ks.length ≤ i := by omega
      simp (disch := omega) only [↓qlet, eq_self, qzg_t, qzb_some, ↓reduceIte, not_or, not_false_eq_true, not_true_eq_false, and_true, true_and, and_self, or_false, false_or, true_or, or_true, and_false, false_and, qlit, qneg, qof, qn_add, qn_mul, qn_s, qn_z, qn_d, qn_dz, qm_1, qt_1, qt_0, qb_0, qb_1, qb_01, qb01b, q01_0, q01_1, qo_s, qo_n, qn_c, qn_le, qn_lt, qn_eq, qn_ne_m, qm_ne_n, qm_lt, qm_le, qn_lt_m, qn_le_m, qn_sub, qn_div, qn_mod, qle_t, qle_f, qlt_t, qlt_f, qeq_t, qeq_f, Nat.add_sub_cancel, qU_s, qU_a, qU_k, qn_rem, qL_I, qL_s, lk_505, lk_506, lk_507, lk_508, lk_509, lk_510, lk_511, lk_512, lk_513, lk_514, lk_515, lk_516, lk_517, lk_518, lk_519, ll_505, ll_506, ll_507, ll_508, ll_509, ll_510, ll_511, ll_512, ll_513, ll_514, ll_515, ll_516, ll_517, ll_518, ll_519, h7, h8, h20, c2]
    · omega
theorem lHead_tok (hV : qLV I p V false) (hX : qLX I sw en txt) (hr : qLRow I en txt lev ks) (h7 : I 510 7 = qn lev) {i : Nat} (h8 : I 510 (8 + lev) = qn i) (hi : i < ks.length) (m : Nat) : lR (m + 1) (qL w I W) = zb (fL_one 505 506 507 508 509 510 511 512 513 514 515 516 517 (qL w I W)) fun _ M => fL_reads_152 (fL_reads_31 m) 505 506 507 508 509 510 511 512 513 514 515 516 517 518 M := by
  obtain ⟨l1, l2, l3⟩ := qLRow_l hX hr
  rw [lHead hV hX hr h7 h8 (by omega) (fun _ => hi)]
  have h6 := hV.2.2.2.2.2.2.1
  rw [qb_f] at h6
  have hT := lToken (w := w) (W := W) h7 hX hr (show i < 100 by omega)
  obtain ⟨k, hk⟩ : ∃ k, ks[i]? = some k := ⟨_, List.getElem?_eq_getElem hi⟩
  obtain ⟨n, n1, n2, n3⟩ := qTc_s hk (l3 k (List.mem_of_getElem? hk))
  have k8 := (l3 k (List.mem_of_getElem? hk)).1
  rw [n3] at hT
  unfold fL_reads_52
  generalize fL_reads_85 (fL_reads_31 m) 10000 = F
  simp (disch := omega) only [↓qlet, eq_self, qzg_t, qzb_some, ↓reduceIte, not_or, not_false_eq_true, not_true_eq_false, and_true, true_and, and_self, or_false, false_or, true_or, or_true, and_false, false_and, qlit, qneg, qof, qn_add, qn_mul, qn_s, qn_z, qn_d, qn_dz, qm_1, qt_1, qt_0, qb_0, qb_1, qb_01, qb01b, q01_0, q01_1, qo_s, qo_n, qn_c, qn_le, qn_lt, qn_eq, qn_ne_m, qm_ne_n, qm_lt, qm_le, qn_lt_m, qn_le_m, qn_sub, qn_div, qn_mod, qle_t, qle_f, qlt_t, qlt_f, qeq_t, qeq_f, Nat.add_sub_cancel, qU_s, qU_a, qU_k, qn_rem, qL_I, qL_s, lk_505, lk_506, lk_507, lk_508, lk_509, lk_510, lk_511, lk_512, lk_513, lk_514, lk_515, lk_516, lk_517, lk_518, lk_519, ll_505, ll_506, ll_507, ll_508, ll_509, ll_510, ll_511, ll_512, ll_513, ll_514, ll_515, ll_516, ll_517, ll_518, ll_519, h7, h6, h8, hT, Nat.zero_le]
theorem lKeepStep (hG : qLG G I) (hV : qLV I p V f) (hok : qLok G V) (h7 : I 510 7 = qn lev) (hl : lev ≤ 2) {pos mk : Nat} (h8 : lev = 0 → pos ≤ 18 ∧ mk ≤ 100 ∧ I 510 8 = qn pos ∧ I 510 14 = qn mk) (m : Nat) : fL_reads_152 (fL_reads_31 m) 505 506 507 508 509 510 511 512 513 514 515 516 517 518 (qL w I W) = lR m (qL w I (if lev = 0 then qWk W pos V.1 mk else W)) := by
  unfold fL_reads_152 lR
  by_cases c : lev = 0
  · obtain ⟨g1, g2, g3, g4⟩ := h8 c
    subst c
    rw [lKeep hG hV hok g1 g2 h7 g3 g4, qzb_some, if_pos rfl]
  · rw [lKeep_n h7 c hl, qzb_some, if_neg c]
/-- errors for the marks that are open -/
theorem lMarks (hl : lev ≤ 2) {c : Nat} (hc : c ≤ 100) : ∀ d j V f I m, j + d = c → d < m → qLV I p V f → qLok G V → I 510 7 = qn lev → I 510 (14 + lev) = qn c → ∃ J V' f', (∀ k, fL_reads_85 k m 505 506 507 508 509 510 511 512 513 514 515 516 517 518 (qn j) (qL w I W) = fL_reads_115 k 505 506 507 508 509 510 511 512 513 514 515 516 517 518 (qL w J W)) ∧ qLV J p V' f' ∧ qLok G V' ∧ qFrL I J ∧ (f' = false → f = false ∧ V' = qErrs 5 p d V) := by
  intro d
  induction d with
  | zero =>
    intro j V f I m h1 h2 hV hok h7 h14
    obtain ⟨m, rfl⟩ : ∃ q, m = q + 1 := ⟨m - 1, by omega⟩
    have hj : c ≤ j := by omega
    refine ⟨I, V, f, fun k => ?_, hV, hok, qFrL_refl I, fun h => ⟨h, rfl⟩⟩
    unfold fL_reads_85
    simp (disch := omega) only [↓qlet, eq_self, qzg_t, qzb_some, ↓reduceIte, not_or, not_false_eq_true, not_true_eq_false, and_true, true_and, and_self, or_false, false_or, true_or, or_true, and_false, false_and, qlit, qneg, qof, qn_add, qn_mul, qn_s, qn_z, qn_d, qn_dz, qm_1, qt_1, qt_0, qb_0, qb_1, qb_01, qb01b, q01_0, q01_1, qo_s, qo_n, qn_c, qn_le, qn_lt, qn_eq, qn_ne_m, qm_ne_n, qm_lt, qm_le, qn_lt_m, qn_le_m, qn_sub, qn_div, qn_mod, qle_t, qle_f, qlt_t, qlt_f, qeq_t, qeq_f, Nat.add_sub_cancel, qU_s, qU_a, qU_k, qn_rem, qL_I, qL_s, lk_505, lk_506, lk_507, lk_508, lk_509, lk_510, lk_511, lk_512, lk_513, lk_514, lk_515, lk_516, lk_517, lk_518, lk_519, ll_505, ll_506, ll_507, ll_508, ll_509, ll_510, ll_511, ll_512, ll_513, ll_514, ll_515, ll_516, ll_517, ll_518, ll_519, h7, h14, hj]
  | succ d ih =>
    intro j V f I m h1 h2 hV hok h7 h14
    obtain ⟨m, rfl⟩ : ∃ q, m = q + 1 := ⟨m - 1, by omega⟩
    have hj : ¬ c ≤ j := by omega
    obtain ⟨K, V2, f2, k1, k2, k3, k4, -, -, -, k5⟩ := lFailsK (w := w) (W := W) hV hok 5
    obtain ⟨J, V', f', j1, j2, j3, j4, j5⟩ := ih (j + 1) V2 f2 K m (by omega) (by omega) k2 k3 (by rw [k4.2.1 7 (by omega) (by omega)]; exact h7) (by rw [k4.2.1 (14 + lev) (by omega) (by omega)]; exact h14)
    refine ⟨J, V', f', fun k => ?_, j2, j3, qFrL_tr k4 j4, fun h => ?_⟩
    · unfold fL_reads_85
      simp (disch := omega) only [↓qlet, eq_self, qzg_t, qzb_some, ↓reduceIte, not_or, not_false_eq_true, not_true_eq_false, and_true, true_and, and_self, or_false, false_or, true_or, or_true, and_false, false_and, qlit, qneg, qof, qn_add, qn_mul, qn_s, qn_z, qn_d, qn_dz, qm_1, qt_1, qt_0, qb_0, qb_1, qb_01, qb01b, q01_0, q01_1, qo_s, qo_n, qn_c, qn_le, qn_lt, qn_eq, qn_ne_m, qm_ne_n, qm_lt, qm_le, qn_lt_m, qn_le_m, qn_sub, qn_div, qn_mod, qle_t, qle_f, qlt_t, qlt_f, qeq_t, qeq_f, Nat.add_sub_cancel, qU_s, qU_a, qU_k, qn_rem, qL_I, qL_s, lk_505, lk_506, lk_507, lk_508, lk_509, lk_510, lk_511, lk_512, lk_513, lk_514, lk_515, lk_516, lk_517, lk_518, lk_519, ll_505, ll_506, ll_507, ll_508, ll_509, ll_510, ll_511, ll_512, ll_513, ll_514, ll_515, ll_516, ll_517, ll_518, ll_519, h7, h14, hj, k1]
      exact j1 k
    · obtain ⟨q1, q2⟩ := j5 h
      obtain ⟨q3, q4⟩ := k5 q1
      exact ⟨q3, by rw [q2, q4]; rfl⟩
theorem lRowHead (hV : qLV I p V false) (h7 : I 510 7 = qn lev) (hl : lev ≤ 2) {i : Nat} (hi : i < 100) (h8 : I 510 (8 + lev) = qn i) (hT : fL_token 508 509 510 (qn i) (qL w I W) = some (qm, qL w I W)) (m : Nat) : fL_reads_52 (fL_reads_31 m) 505 506 507 508 509 510 511 512 513 514 515 516 517 518 (qL w I W) = fL_reads_85 (fL_reads_31 m) 10000 505 506 507 508 509 510 511 512 513 514 515 516 517 518 (qn 0) (qL w I W) := by
  have h6 := hV.2.2.2.2.2.2.1
  rw [qb_f] at h6
  obtain ⟨n, hn⟩ : ∃ n, n = 10000 := ⟨_, rfl⟩
  rw [fL_reads_52, ← hn]
  simp (disch := omega) only [↓qlet, eq_self, qzg_t, qzb_some, ↓reduceIte, not_or, not_false_eq_true, not_true_eq_false, and_true, true_and, and_self, or_false, false_or, true_or, or_true, and_false, false_and, qlit, qneg, qof, qn_add, qn_mul, qn_s, qn_z, qn_d, qn_dz, qm_1, qt_1, qt_0, qb_0, qb_1, qb_01, qb01b, q01_0, q01_1, qo_s, qo_n, qn_c, qn_le, qn_lt, qn_eq, qn_ne_m, qm_ne_n, qm_lt, qm_le, qn_lt_m, qn_le_m, qn_sub, qn_div, qn_mod, qle_t, qle_f, qlt_t, qlt_f, qeq_t, qeq_f, Nat.add_sub_cancel, qU_s, qU_a, qU_k, qn_rem, qL_I, qL_s, lk_505, lk_506, lk_507, lk_508, lk_509, lk_510, lk_511, lk_512, lk_513, lk_514, lk_515, lk_516, lk_517, lk_518, lk_519, ll_505, ll_506, ll_507, ll_508, ll_509, ll_510, ll_511, ll_512, ll_513, ll_514, ll_515, ll_516, ll_517, ll_518, ll_519, h7, h6, h8, hT, qn_le_m]
theorem lRow115 (h7 : I 510 7 = qn (lev + 1)) (hl : lev + 1 ≤ 2) (m : Nat) : fL_reads_115 (fL_reads_31 m) 505 506 507 508 509 510 511 512 513 514 515 516 517 518 (qL w I W) = fL_reads_152 (fL_reads_31 m) 505 506 507 508 509 510 511 512 513 514 515 516 517 518 (qL w (qU I 510 7 (qn lev)) W) := by
  unfold fL_reads_115
  generalize fL_reads_31 m = F
  simp (disch := omega) only [↓qlet, eq_self, qzg_t, qzb_some, ↓reduceIte, not_or, not_false_eq_true, not_true_eq_false, and_true, true_and, and_self, or_false, false_or, true_or, or_true, and_false, false_and, qlit, qneg, qof, qn_add, qn_mul, qn_s, qn_z, qn_d, qn_dz, qm_1, qt_1, qt_0, qb_0, qb_1, qb_01, qb01b, q01_0, q01_1, qo_s, qo_n, qn_c, qn_le, qn_lt, qn_eq, qn_ne_m, qm_ne_n, qm_lt, qm_le, qn_lt_m, qn_le_m, qn_sub, qn_div, qn_mod, qle_t, qle_f, qlt_t, qlt_f, qeq_t, qeq_f, Nat.add_sub_cancel, qU_s, qU_a, qU_k, qn_rem, qL_I, qL_s, lk_505, lk_506, lk_507, lk_508, lk_509, lk_510, lk_511, lk_512, lk_513, lk_514, lk_515, lk_516, lk_517, lk_518, lk_519, ll_505, ll_506, ll_507, ll_508, ll_509, ll_510, ll_511, ll_512, ll_513, ll_514, ll_515, ll_516, ll_517, ll_518, ll_519, h7]
/-- a row of an entity ends -/
theorem lRowEnd (hG : qLG G I) (hV : qLV I p V false) (hok : qLok G V) (hX : qLX I sw en txt) (hr : qLRow I en txt (lev + 1) ks) (h7 : I 510 7 = qn (lev + 1)) (h8 : I 510 (8 + (lev + 1)) = qn ks.length) {c : Nat} (hc : c ≤ 18) (h14 : I 510 (14 + (lev + 1)) = qn c) {pos mk : Nat} (h9 : lev = 0 → pos ≤ 18 ∧ mk ≤ 100 ∧ I 510 8 = qn pos ∧ I 510 14 = qn mk) : ∃ J V' f', (∀ m, lR (m + 1) (qL w I W) = lR m (qL w J (if lev = 0 then qWk W pos V'.1 mk else W))) ∧ qLV J p V' f' ∧ qLok G V' ∧ qFrO (lev + 1) I J ∧ J 510 7 = qn lev ∧ (f' = false → V' = qErrs 5 p c V) := by
  obtain ⟨l1, l2, l3⟩ := qLRow_l hX hr
  have h6 := hV.2.2.2.2.2.2.1
  rw [qb_f] at h6
  obtain ⟨K, V2, f2, k1, k2, k3, k4, k5⟩ := lMarks (w := w) (W := W) l2 (show c ≤ 100 by omega) c 0 V false I 10000 (by omega) (by omega) hV hok h7 h14
  have hT := lToken (w := w) (W := W) h7 hX hr (show ks.length < 100 by omega)
  rw [qTc_n (Nat.le_refl _)] at hT
  have g7 : K 510 7 = qn (lev + 1) := by rw [k4.2.1 7 (by omega) (by omega)]; exact h7
  have hV3 := qLV_lev k2 (k := 7) (by omega) (by omega) (qn lev)
  have hG3 : qLG G (qU K 510 7 (qn lev)) := qLG_fr (qFrL_G k4 hG) (by rw [qU_r (by omega)]) (by rw [qU_r (by omega)]) (by rw [qU_r (by omega)])
  have hk := fun m => lKeepStep (w := w) (W := W) (lev := lev) hG3 hV3 k3 (qU_s _ _ _ _) (by omega) (pos := pos) (mk := mk) (fun h => by
    obtain ⟨a1, a2, a3, a4⟩ := h9 h
    refine ⟨a1, a2, ?_, ?_⟩
    · simp (disch := omega) only [qU_s, qU_a, qU_k]; rw [k4.2.1 8 (by omega) (by omega)]; exact a3
    · simp (disch := omega) only [qU_s, qU_a, qU_k]; rw [k4.2.1 14 (by omega) (by omega)]; exact a4) m
  refine ⟨qU K 510 7 (qn lev), V2, f2, fun m => ?_, hV3, k3, ?_, qU_s _ _ _ _, fun h => (k5 h).2⟩
  · rw [← hk, lHead hV hX hr h7 h8 (Nat.le_refl _) (fun h => by omega), lRowHead hV h7 l2 (by omega) h8 hT, k1, lRow115 g7 l2]
  · have h := qFrO_L (lev := lev + 1) k4 l2
    refine ⟨fun a ha => by rw [qU_r (by omega), h.1 a ha], fun j hj => ?_, fun j h1 h2 => ?_, fun q hq => ?_⟩
    · rw [qU_k (by omega), qU_k (by omega)]; exact h.2.1 j hj
    · rw [qU_k (by omega)]; exact h.2.2.1 j h1 h2
    · rw [qU_r (by omega)]; exact h.2.2.2 q hq
end
