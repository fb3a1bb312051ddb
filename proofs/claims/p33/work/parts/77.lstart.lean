/-! THE CLASS, THE LAW: what new ones hold -/
def qG0 : qG := (fun _ => 0, fun _ _ => 0, fun _ _ => 0, fun _ => 0, fun _ => 0, fun _ => false, fun _ => false)
def qA0 : qA := (qG0, fun _ => 0, fun _ => [], [], 0)
theorem qA0_ok : qAok qA0 := ⟨fun e _ => ⟨Nat.zero_le 6, fun k h => absurd h (Nat.not_lt_zero k), ⟨0, by omega, rfl⟩, ⟨0, by omega, rfl⟩⟩, ⟨fun i _ => ⟨Nat.zero_le 6, fun k h => by cases h⟩, fun i _ => Nat.zero_le 2⟩, Nat.zero_le 60, fun k h => by cases h⟩
theorem qA0_F : qFA qA0 = (qV0, [(qZ0, 0)]) := rfl
set_option maxRecDepth 1000000 in
theorem qC1_G : ∀ e, e < 10 → qC1.1 (8 + 6 * e) 3 = 0 ∧ qC1.1 4 e = 0 ∧ qC1.1 5 e = 0 ∧ qC1.1 6 e = 0 ∧ qC1.1 7 e = 0 := by decide +kernel
set_option maxRecDepth 1000000 in
theorem qC1_E : (∀ i, i < 6 → qC1.1 (73 + 3 * i) 2 = 0) ∧ (∀ i, i < 4 → qC1.1 72 i = 0) ∧ qC1.1 68 2 = 0 := by decide +kernel
set_option maxRecDepth 1000000 in
theorem qC1_V : qC1.1 92 5 = 0 ∧ qC1.1 91 9 = 0 ∧ qC1.1 91 8 = 0 ∧ qC1.1 91 15 = 0 ∧ qC1.1 98 2 = 0 ∧ qC1.1 91 16 = 0 ∧ qC1.1 110 3 = 0 ∧ qC1.1 110 4 = -1 ∧ qC1.1 110 5 = 0 := by decide +kernel
theorem qCA_0 {I : Nat → Nat → Int32} (hG : ∀ e, e < 10 → I (8 + 6 * e) 3 = 0 ∧ I 4 e = 0 ∧ I 5 e = 0 ∧ I 6 e = 0 ∧ I 7 e = 0) (hE : (∀ i, i < 6 → I (73 + 3 * i) 2 = 0) ∧ (∀ i, i < 4 → I 72 i = 0) ∧ I 68 2 = 0) (hV : I 92 5 = 0 ∧ I 91 9 = 0 ∧ I 91 8 = 0 ∧ I 91 15 = 0 ∧ I 98 2 = 0 ∧ I 91 16 = 0 ∧ I 110 3 = 0 ∧ I 110 4 = -1 ∧ I 110 5 = 0) : qCA false I qA0 := by
  obtain ⟨v1, v2, v3, v4, v5, v6, v7, v8, v9⟩ := hV
  refine ⟨qA0_ok, ⟨fun e he => ?_, ⟨fun i hi => ⟨hE.1 i hi, fun j k h => by cases h⟩, fun i hi => hE.2.1 i hi, fun j q h => by cases h⟩, ⟨hE.2.2, fun j k h => by cases h⟩⟩, ?_, ?_, ⟨v5, fun j k h => by cases h⟩, v6⟩
  · obtain ⟨g1, g2, g3, g4, g5⟩ := hG e he
    exact ⟨g1, fun k h => absurd h (Nat.not_lt_zero k), fun r h => absurd h (Nat.not_lt_zero r), g2, g3, g4, g5⟩
  · rw [qA0_F]
    exact ⟨v1, True.intro, v2, v3, True.intro, v4⟩
  · rw [qA0_F]
    exact ⟨⟨⟨v7, v8, True.intro⟩, v9⟩, True.intro⟩
theorem qC1_A : qCA false qC1.1 qA0 := qCA_0 qC1_G qC1_E qC1_V

/-- memory while the law makes its rows -/
def qMz : zM := (fun _ _ => 0, fun _ _ => 0, fun _ => (7, 0), 0)
theorem qMz_s : zsN qMz 7 0 = qM0 7 := by
  unfold zsN qMz qM0
  have e1 : (fun (x y : Nat) => if x = 0 + 1 then (0 : Int32) else 0) = fun _ _ => 0 := by
    funext x y; split <;> rfl
  have e2 : (fun (x y : Nat) => if x = 0 + 1 then (0 : Nat) else 0) = fun _ _ => 0 := by
    funext x y; split <;> rfl
  have e3 : (fun (x : Nat) => if x = 0 + 1 then ((7, 0) : Nat × Nat) else (7, 0)) = fun _ => (7, 0) := by
    funext x; split <;> rfl
  dsimp only
  rw [e1, e2, e3]
def qIp (K : Nat → Nat → Int32) (j : Nat) : Nat → Nat → Int32 := fun a k => if 504 < a ∧ a ≤ 504 + j then 0 else K a k
def qLp (K : Nat → Nat → Int32) (j : Nat) : zM := (qIp K j, fun a k => if 504 < a ∧ a ≤ 504 + j then 0 else qCR false a k, fun a => if a ≤ 504 + j then qLH a else qCH a, 504 + j)
theorem qLp_0 (K : Nat → Nat → Int32) : qC false K = qLp K 0 := by
  unfold qC qLp qIp
  have e1 : (fun a k => if 504 < a ∧ a ≤ 504 + 0 then (0 : Int32) else K a k) = K := by
    funext a k; rw [if_neg (by omega)]
  have e2 : (fun a k => if 504 < a ∧ a ≤ 504 + 0 then (0 : Nat) else qCR false a k) = qCR false := by
    funext a k; rw [if_neg (by omega)]
  have e3 : (fun a => if a ≤ 504 + 0 then qLH a else qCH a) = qCH := by
    funext a
    by_cases c : a ≤ 504 + 0
    · rw [if_pos c, qLH_0 (by omega)]
    · rw [if_neg c]
  rw [e1, e2, e3]
theorem qLp_s (K : Nat → Nat → Int32) (j : Nat) {c n : Nat} (h : qLH (504 + j + 1) = (c, n)) : zsN (qLp K j) c n = qLp K (j + 1) := by
  unfold zsN qLp qIp
  have e1 : (fun x y => if x = 504 + j + 1 then (0 : Int32) else if 504 < x ∧ x ≤ 504 + j then 0 else K x y) = fun a k => if 504 < a ∧ a ≤ 504 + (j + 1) then 0 else K a k := by
    funext a k
    by_cases c1 : a = 504 + j + 1
    · rw [if_pos c1, if_pos (by omega)]
    · rw [if_neg c1]
      by_cases c2 : 504 < a ∧ a ≤ 504 + j
      · rw [if_pos c2, if_pos (by omega)]
      · rw [if_neg c2, if_neg (by omega)]
  have e2 : (fun x y => if x = 504 + j + 1 then (0 : Nat) else if 504 < x ∧ x ≤ 504 + j then 0 else qCR false x y) = fun a k => if 504 < a ∧ a ≤ 504 + (j + 1) then 0 else qCR false a k := by
    funext a k
    by_cases c1 : a = 504 + j + 1
    · rw [if_pos c1, if_pos (by omega)]
    · rw [if_neg c1]
      by_cases c2 : 504 < a ∧ a ≤ 504 + j
      · rw [if_pos c2, if_pos (by omega)]
      · rw [if_neg c2, if_neg (by omega)]
  have e3 : (fun x => if x = 504 + j + 1 then (c, n) else if x ≤ 504 + j then qLH x else qCH x) = fun a => if a ≤ 504 + (j + 1) then qLH a else qCH a := by
    funext a
    by_cases c1 : a = 504 + j + 1
    · rw [if_pos c1, if_pos (by omega), c1, h]
    · rw [if_neg c1]
      by_cases c2 : a ≤ 504 + j
      · rw [if_pos c2, if_pos (by omega)]
      · rw [if_neg c2, if_neg (by omega)]
  dsimp only
  rw [e1, e2, e3]
  rfl
theorem qLp_n (K : Nat → Nat → Int32) (j : Nat) : (qLp K j).2.2.2 + 1 = 505 + j := by show 504 + j + 1 = 505 + j; omega
def qWp : Nat → Nat → Nat := fun a k => if a ≤ 519 then 0 else qCR false a k
theorem qLp_15 (K : Nat → Nat → Int32) : qLp K 15 = qL false (qIp K 15) qWp := by
  unfold qLp qL qWp
  have e2 : (fun a k => if 504 < a ∧ a ≤ 504 + 15 then (0 : Nat) else qCR false a k) = fun a k => if a ≤ 504 then qCR false a k else if a ≤ 519 then 0 else qCR false a k := by
    funext a k
    by_cases c1 : a ≤ 504
    · rw [if_pos c1, if_neg (by omega)]
    · rw [if_neg c1]
      by_cases c2 : a ≤ 519
      · rw [if_pos c2, if_pos (by omega)]
      · rw [if_neg c2, if_neg (by omega)]
  have e3 : (fun a => if a ≤ 504 + 15 then qLH a else qCH a) = qLH := by
    funext a
    by_cases c : a ≤ 504 + 15
    · rw [if_pos c]
    · rw [if_neg c]
      unfold qLH
      rw [if_neg (by omega), if_neg (by omega), if_neg (by omega), if_neg (by omega), if_neg (by omega), if_neg (by omega), if_neg (by omega), if_neg (by omega), if_neg (by omega), if_neg (by omega), if_neg (by omega), if_neg (by omega), if_neg (by omega), if_neg (by omega), if_neg (by omega), if_neg (by omega)]
  rw [e2, e3]
section
variable {w : Bool} {I : Nat → Nat → Int32} {W : Nat → Nat → Nat}
theorem lCl0 (h0 : I 510 0 = qn 0) (m : Nat) : fL_close_0 (m + 1) 505 506 507 510 511 517 (qn 0) (qn 0) (qL w I W) = some (qn 0, qL w I W) := by
  unfold fL_close_0
  simp (disch := omega) only [↓qlet, eq_self, qzg_t, qzb_some, ↓reduceIte, not_or, not_false_eq_true, not_true_eq_false, and_true, true_and, and_self, or_false, false_or, true_or, or_true, and_false, false_and, qlit, qneg, qof, qn_add, qn_mul, qn_s, qn_z, qn_d, qn_dz, qm_1, qt_1, qt_0, qb_0, qb_1, qb_01, qb01b, q01_0, q01_1, qo_s, qo_n, qn_c, qn_le, qn_lt, qn_eq, qn_ne_m, qm_ne_n, qm_lt, qm_le, qn_lt_m, qn_le_m, qn_sub, qn_div, qn_mod, qle_t, qle_f, qlt_t, qlt_f, qeq_t, qeq_f, Nat.add_sub_cancel, qU_s, qU_a, qU_k, qn_rem, qL_I, qL_s, lk_505, lk_506, lk_507, lk_508, lk_509, lk_510, lk_511, lk_512, lk_513, lk_514, lk_515, lk_516, lk_517, lk_518, lk_519, ll_505, ll_506, ll_507, ll_508, ll_509, ll_510, ll_511, ll_512, ll_513, ll_514, ll_515, ll_516, ll_517, ll_518, ll_519, h0, Nat.le_refl]
theorem l177_0 (h0 : I 510 0 = qn 0) (h14 : I 510 14 = qn 0) (m : Nat) : fL_reads_177 (m + 1) 505 506 507 510 511 517 (qn 0) (qL w I W) = some (qn 0, qL w I W) := by
  have hc : fL_close 505 506 507 510 511 517 (qn 0) (qn 0) (qL w I W) = some (qn 0, qL w I W) := lCl0 h0 9999
  unfold fL_reads_177 fL_reads_201
  simp (disch := omega) only [↓qlet, eq_self, qzg_t, qzb_some, ↓reduceIte, not_or, not_false_eq_true, not_true_eq_false, and_true, true_and, and_self, or_false, false_or, true_or, or_true, and_false, false_and, qlit, qneg, qof, qn_add, qn_mul, qn_s, qn_z, qn_d, qn_dz, qm_1, qt_1, qt_0, qb_0, qb_1, qb_01, qb01b, q01_0, q01_1, qo_s, qo_n, qn_c, qn_le, qn_lt, qn_eq, qn_ne_m, qm_ne_n, qm_lt, qm_le, qn_lt_m, qn_le_m, qn_sub, qn_div, qn_mod, qle_t, qle_f, qlt_t, qlt_f, qeq_t, qeq_f, Nat.add_sub_cancel, qU_s, qU_a, qU_k, qn_rem, qL_I, qL_s, lk_505, lk_506, lk_507, lk_508, lk_509, lk_510, lk_511, lk_512, lk_513, lk_514, lk_515, lk_516, lk_517, lk_518, lk_519, ll_505, ll_506, ll_507, ll_508, ll_509, ll_510, ll_511, ll_512, ll_513, ll_514, ll_515, ll_516, ll_517, ll_518, ll_519, h14, Nat.le_refl, hc]
theorem lReads_0 (h20 : I 509 20 = qn 0) : fL_reads 505 506 507 508 509 510 511 512 513 514 515 516 517 518 (qL w I W) = some (qn 0, qL w (qU (qZj I 20) 510 18 (qn 0)) (qWk W 0 qV0.1 0)) := by
  have hz : ∀ k, k < 20 → qZj I 20 510 k = qn 0 := fun k hk => by unfold qZj; rw [if_pos ⟨rfl, hk⟩]
  have hf : ∀ a, a ≠ 510 → qZj I 20 a = I a := fun a ha => by funext k; unfold qZj; rw [if_neg (fun h => ha h.1)]
  have hk : fL_keep 510 511 518 (qL w (qZj I 20) W) = some (qn 0, qL w (qZj I 20) (qWk W 0 qV0.1 0)) := by
    have e0 := hz 0 (by omega)
    have e1 := hz 1 (by omega)
    have e7 := hz 7 (by omega)
    have e8 := hz 8 (by omega)
    have e14 := hz 14 (by omega)
    have hd : qDig qV0.1.1 = 1 := rfl
    have hla : qla qV0.1.2 = 0 := rfl
    obtain ⟨n, hn⟩ : ∃ n, n + 1 = 10000 := ⟨9999, rfl⟩
    have h12 : fL_keep_12 (n + 1) 510 511 518 (Int64.ofNat 1) (qn 0) (qL w (qZj I 20) W) = some (qn 0, qL w (qZj I 20) (qWk W 0 qV0.1 0)) := by
      unfold fL_keep_12 fL_keep_38
      simp (disch := omega) only [↓qlet, eq_self, qzg_t, qzb_some, ↓reduceIte, not_or, not_false_eq_true, not_true_eq_false, and_true, true_and, and_self, or_false, false_or, true_or, or_true, and_false, false_and, qlit, qneg, qof, qn_add, qn_mul, qn_s, qn_z, qn_d, qn_dz, qm_1, qt_1, qt_0, qb_0, qb_1, qb_01, qb01b, q01_0, q01_1, qo_s, qo_n, qn_c, qn_le, qn_lt, qn_eq, qn_ne_m, qm_ne_n, qm_lt, qm_le, qn_lt_m, qn_le_m, qn_sub, qn_div, qn_mod, qle_t, qle_f, qlt_t, qlt_f, qeq_t, qeq_f, Nat.add_sub_cancel, qU_s, qU_a, qU_k, qn_rem, qL_I, qL_s, lk_505, lk_506, lk_507, lk_508, lk_509, lk_510, lk_511, lk_512, lk_513, lk_514, lk_515, lk_516, lk_517, lk_518, lk_519, ll_505, ll_506, ll_507, ll_508, ll_509, ll_510, ll_511, ll_512, ll_513, ll_514, ll_515, ll_516, ll_517, ll_518, ll_519, e0, Nat.le_refl, e8, e14, e1, qL_sL, qI64_u, qn_64, qI64_lit, qI64_mul, qI64_add]
      unfold qWk
      rw [if_pos rfl]
      rfl
    unfold fL_keep
    rw [← hn]
    generalize fL_keep_12 (n + 1) = F at h12 ⊢
    simp (disch := omega) only [↓qlet, eq_self, qzg_t, qzb_some, ↓reduceIte, not_or, not_false_eq_true, not_true_eq_false, and_true, true_and, and_self, or_false, false_or, true_or, or_true, and_false, false_and, qlit, qneg, qof, qn_add, qn_mul, qn_s, qn_z, qn_d, qn_dz, qm_1, qt_1, qt_0, qb_0, qb_1, qb_01, qb01b, q01_0, q01_1, qo_s, qo_n, qn_c, qn_le, qn_lt, qn_eq, qn_ne_m, qm_ne_n, qm_lt, qm_le, qn_lt_m, qn_le_m, qn_sub, qn_div, qn_mod, qle_t, qle_f, qlt_t, qlt_f, qeq_t, qeq_f, Nat.add_sub_cancel, qU_s, qU_a, qU_k, qn_rem, qL_I, qL_s, lk_505, lk_506, lk_507, lk_508, lk_509, lk_510, lk_511, lk_512, lk_513, lk_514, lk_515, lk_516, lk_517, lk_518, lk_519, ll_505, ll_506, ll_507, ll_508, ll_509, ll_510, ll_511, ll_512, ll_513, ll_514, ll_515, ll_516, ll_517, ll_518, ll_519, e7, qI64_lit]
    exact h12
  have hstart : fL_reads 505 506 507 508 509 510 511 512 513 514 515 516 517 518 (qL w I W) = lR 10000 (qL w (qZj I 20) (qWk W 0 qV0.1 0)) := by
    have h1 := lZero (w := w) (W := W) (I := I) 0 20 0 10000 (by omega) (by omega)
    rw [qZj_0] at h1
    unfold fL_reads
    have e0 : (0 : Int32) = qn 0 := rfl
    rw [e0, h1]
    unfold fL_reads_22 lR
    rw [hk, qzb_some]
  have h20' : qZj I 20 509 20 = qn 0 := by rw [hf 509 (by omega)]; exact h20
  have hF : lF (qL w (qZj I 20) (qWk W 0 qV0.1 0)) = some (qn 0, qL w (qU (qZj I 20) 510 18 (qn 0)) (qWk W 0 qV0.1 0)) := by
    have h := l177_0 (w := w) (I := qU (qZj I 20) 510 18 (qn 0)) (W := qWk W 0 qV0.1 0) (by rw [qU_k (by omega)]; exact hz 0 (by omega)) (by rw [qU_k (by omega)]; exact hz 14 (by omega)) 9999
    unfold lF fL_reads_164
    have h : fL_reads_177 10000 505 506 507 510 511 517 (qn 0) (qL w (qU (qZj I 20) 510 18 (qn 0)) (qWk W 0 qV0.1 0)) = some (qn 0, qL w (qU (qZj I 20) 510 18 (qn 0)) (qWk W 0 qV0.1 0)) := h
    generalize fL_reads_177 10000 = F at h ⊢
    simp (disch := omega) only [↓qlet, eq_self, qzg_t, qzb_some, ↓reduceIte, not_or, not_false_eq_true, not_true_eq_false, and_true, true_and, and_self, or_false, false_or, true_or, or_true, and_false, false_and, qlit, qneg, qof, qn_add, qn_mul, qn_s, qn_z, qn_d, qn_dz, qm_1, qt_1, qt_0, qb_0, qb_1, qb_01, qb01b, q01_0, q01_1, qo_s, qo_n, qn_c, qn_le, qn_lt, qn_eq, qn_ne_m, qm_ne_n, qm_lt, qm_le, qn_lt_m, qn_le_m, qn_sub, qn_div, qn_mod, qle_t, qle_f, qlt_t, qlt_f, qeq_t, qeq_f, Nat.add_sub_cancel, qU_s, qU_a, qU_k, qn_rem, qL_I, qL_s, lk_505, lk_506, lk_507, lk_508, lk_509, lk_510, lk_511, lk_512, lk_513, lk_514, lk_515, lk_516, lk_517, lk_518, lk_519, ll_505, ll_506, ll_507, ll_508, ll_509, ll_510, ll_511, ll_512, ll_513, ll_514, ll_515, ll_516, ll_517, ll_518, ll_519, h20']
    exact h
  rw [hstart, show (10000 : Nat) = 9999 + 1 from rfl, lEndText (i := 0) (hz 7 (by omega)) (hz 8 (by omega)) h20' (by omega), hF]
/-- the law's beginning, behind the class's constructor -/
theorem lBegin (xs : Nat → Int32) {L : Nat} (hL : L < 2147483648) (k127 : Nat → Int32 → zM → Option (Int32 × zM)) (hK : qCA w I qA0) (hI : ∀ a, 505 ≤ a → a ≤ 519 → ∀ k, I a k = 0) : ∃ M', fL_holds_127 xs L 1 505 506 507 508 509 510 511 512 513 514 515 516 517 518 519 (qn 1) 519 20148 (qL w I W) = some (qn 1, M') := by
  have h20 : I 509 20 = qn 0 := hI 509 (by omega) (by omega) 20
  have hr := lReads_0 (w := w) (W := W) h20
  obtain ⟨J, hJ⟩ : ∃ J, J = qU (qZj I 20) 510 18 (qn 0) := ⟨_, rfl⟩
  rw [← hJ] at hr
  have hJr : ∀ a, a ≠ 510 → J a = I a := fun a ha => by
    rw [hJ, qU_r ha]
    funext k
    unfold qZj
    rw [if_neg (fun h => ha h.1)]
  have hG : qLG qG0 J := fun e he => ⟨by rw [hJr _ (by omega)]; exact hI 506 (by omega) (by omega) e, Nat.zero_le _, fun k hk => absurd hk (Nat.not_lt_zero k), 0, 0, by omega, by omega, rfl, rfl, by rw [hJr _ (by omega)]; exact hI 507 (by omega) (by omega) e⟩
  have hX : qLX J (fun _ => 0) (fun _ => []) [] := ⟨⟨by rw [hJr _ (by omega)]; exact h20, Nat.zero_le _, fun i k h => by cases h⟩, fun e he => ⟨by rw [hJr _ (by omega)]; exact hI 508 (by omega) (by omega) _, Nat.zero_le _, fun i k h => by cases h⟩, fun j hj => ⟨by rw [hJr _ (by omega)]; exact hI 508 (by omega) (by omega) _, Nat.zero_le _⟩⟩
  have hH : qHd w J (qWk W 0 qV0.1 0) qA0 false := by
    refine ⟨qCA_st hK fun a ha => hJr a (by omega), ⟨hG, hX⟩, fun _ => ?_⟩
    rw [qA0_F]
    exact qLW_push (X := []) (i := 0) True.intro rfl (Nat.zero_le _) _ _ ⟨fun y hy => (by cases hy), Nat.zero_le _, fun e he => (by cases he)⟩
  obtain ⟨n, hn⟩ : ∃ n, n = 10000 := ⟨_, rfl⟩
  obtain ⟨M', m1⟩ := lLoop164 xs hL 90 0 n w J _ qA0 false (by omega) (by omega) hH
  refine ⟨M', ?_⟩
  rw [Bool.not_false, qb_t] at m1
  unfold lK at m1
  unfold fL_holds_127
  rw [← hn]
  generalize fL_holds_164 xs L n = F at m1 ⊢
  simp (disch := omega) only [↓qlet, eq_self, qzg_t, qzb_some, ↓reduceIte, not_or, not_false_eq_true, not_true_eq_false, and_true, true_and, and_self, or_false, false_or, true_or, or_true, and_false, false_and, qlit, qneg, qof, qn_add, qn_mul, qn_s, qn_z, qn_d, qn_dz, qm_1, qt_1, qt_0, qb_0, qb_1, qb_01, qb01b, q01_0, q01_1, qo_s, qo_n, qn_c, qn_le, qn_lt, qn_eq, qn_ne_m, qm_ne_n, qm_lt, qm_le, qn_lt_m, qn_le_m, qn_sub, qn_div, qn_mod, qle_t, qle_f, qlt_t, qlt_f, qeq_t, qeq_f, Nat.add_sub_cancel, qU_s, qU_a, qU_k, qn_rem, qL_I, qL_s, lk_505, lk_506, lk_507, lk_508, lk_509, lk_510, lk_511, lk_512, lk_513, lk_514, lk_515, lk_516, lk_517, lk_518, lk_519, ll_505, ll_506, ll_507, ll_508, ll_509, ll_510, ll_511, ll_512, ll_513, ll_514, ll_515, ll_516, ll_517, ll_518, ll_519, Nat.le_refl, hr, Nat.add_zero]
  exact m1
theorem qlet2 {α β : Type} (x : α) (f : α → β) : zlet x f = f x := Eq.trans (b := f x) rfl rfl
theorem qzb_2 (r : Int32) (M : zM) {β : Type} (f : Int32 → zM → Option β) : zb (some (r, M)) f = f r M := Eq.trans (b := f r M) rfl rfl
theorem qzg_2 {α : Type} (k : Option α) : zg True k = k := if_pos True.intro
theorem lHoldsE (xs : Nat → Int32) (L : Nat) {K I J : Nat → Nat → Int32} (h1 : fX7_init 1 (qM0 7) = some (0, qC false K)) (hend : qLp K 15 = qL false I qWp) (t1 : fX7_things 1 (qC false I) = some (qn 0, qC false I)) (t2 : fX7_normal 1 (qC false I) = some (qn 0, qC false I)) (j1 : fX7_isSame 1 (qC false I) = some (qn 1, qC false J)) (t5 : fX7_anew 1 (qC false (qJn J I)) = some (qn 0, qC false (qJn J I))) : fL_holds xs L qMz = fL_holds_127 xs L 1 505 506 507 508 509 510 511 512 513 514 515 516 517 518 519 (qn 1) 519 20148 (qL false (qJn J I) qWp) := by
  unfold fL_holds
  generalize fL_holds_126 = F1
  generalize fL_holds_127 = F
  generalize fX7_init = X1 at h1 ⊢
  generalize fX7_things = X2 at t1 ⊢
  generalize fX7_normal = X3 at t2 ⊢
  generalize fX7_isSame = X4 at j1 ⊢
  generalize fX7_anew = X5 at t5 ⊢
  have n0 : qMz.2.2.2 + 1 = 1 := rfl
  have s0 := qLp_s K 0 lh_505
  have s1 := qLp_s K 1 lh_506
  have s2 := qLp_s K 2 lh_507
  have s3 := qLp_s K 3 lh_508
  have s4 := qLp_s K 4 lh_509
  have s5 := qLp_s K 5 lh_510
  have s6 := qLp_s K 6 lh_511
  have s7 := qLp_s K 7 lh_512
  have s8 := qLp_s K 8 lh_513
  have s9 := qLp_s K 9 lh_514
  have s10 := qLp_s K 10 lh_515
  have s11 := qLp_s K 11 lh_516
  have s12 := qLp_s K 12 lh_517
  have s13 := qLp_s K 13 lh_518
  have s14 := qLp_s K 14 lh_519
  simp only [Nat.reduceAdd] at s0 s1 s2 s3 s4 s5 s6 s7 s8 s9 s10 s11 s12 s13 s14
  have hn := fun j => qLp_n K j
  simp only [↓qlet2, qMz_s, n0, Nat.le_refl, qzg_2, h1, qzb_2, qLp_0, hn, Nat.reduceAdd, s0, s1, s2, s3, s4, s5, s6, s7, s8, s9, s10, s11, s12, s13, s14, hend]
  simp (disch := omega) only [↓qlet, eq_self, qzg_t, qzb_some, ↓reduceIte, not_or, not_false_eq_true, not_true_eq_false, and_true, true_and, and_self, or_false, false_or, true_or, or_true, and_false, false_and, qlit, qneg, qof, qn_add, qn_mul, qn_s, qn_z, qn_d, qn_dz, qm_1, qt_1, qt_0, qb_0, qb_1, qb_01, qb01b, q01_0, q01_1, qo_s, qo_n, qn_c, qn_le, qn_lt, qn_eq, qn_ne_m, qm_ne_n, qm_lt, qm_le, qn_lt_m, qn_le_m, qn_sub, qn_div, qn_mod, qle_t, qle_f, qlt_t, qlt_f, qeq_t, qeq_f, Nat.add_sub_cancel, qU_s, qU_a, qU_k, qn_rem, qL_I, qL_s, lk_505, lk_506, lk_507, lk_508, lk_509, lk_510, lk_511, lk_512, lk_513, lk_514, lk_515, lk_516, lk_517, lk_518, lk_519, ll_505, ll_506, ll_507, ll_508, ll_509, ll_510, ll_511, ll_512, ll_513, ll_514, ll_515, ll_516, ll_517, ll_518, ll_519, lcut, zbc_0, zbd_0, lCel, lk_1, qJn_r, qJn_self, t1, t2, j1, t5]
theorem lHolds0 (xs : Nat → Int32) {L : Nat} (hL : L < 2147483648) {K : Nat → Nat → Int32} (h1 : fX7_init 1 (qM0 7) = some (0, qC false K)) (hK : qCA false K qA0) : ∃ M', fL_holds xs L qMz = some (1, M') := by
  obtain ⟨I, hI⟩ : ∃ I, I = qIp K 15 := ⟨_, rfl⟩
  have hIA : qCA false I qA0 := qCA_st hK fun a ha => by
    rw [hI]; funext k; unfold qIp; rw [if_neg (by omega)]
  have hI0 : ∀ a, 505 ≤ a → a ≤ 519 → ∀ k, I a k = 0 := fun a h1 h2 k => by
    rw [hI]; unfold qIp; rw [if_pos (by omega)]
  have t1 := cThings hIA
  have t2 := cNormal hIA
  have e1 : (qFA qA0).1.2.2.1.length = 0 := by rw [qA0_F]; rfl
  have e2 : (qForm qA0.1 (qFA qA0).1.2.2.1).length = 0 := by rw [qA0_F]; rfl
  have e4 : qA0.2.2.2.2 = 0 := rfl
  rw [e1] at t1
  rw [e2] at t2
  obtain ⟨J, j1, j2⟩ := cSameQ hIA
  have hs : qSameA qA0 = true := (qSame_is qA0_ok).2 (fun h => by
    obtain ⟨e, he, -⟩ := h
    rw [qA0_F] at he
    cases he)
  rw [hs, qb_t] at j1
  have hJA := qCA_J (I := I) j2
  have t5 := cAnew hJA
  rw [e4] at t5
  obtain ⟨M', m1⟩ := lBegin (W := qWp) xs hL (fun _ _ _ => none) hJA (fun a h1 h2 k => by rw [qJn_r (by omega)]; exact hI0 a h1 h2 k)
  refine ⟨M', ?_⟩
  have hend : qLp K 15 = qL false I qWp := by rw [hI]; exact qLp_15 K
  rw [show (1 : Int32) = qn 1 from rfl, ← m1]
  exact lHoldsE xs L h1 hend t1 t2 j1 t5
theorem lHolds (xs : Nat → Int32) {L : Nat} (hL : L < 2147483648) : ∃ M', fL_holds xs L qMz = some (1, M') := lHolds0 xs hL (by rw [qC1_is, ← qC1_eq]) qC1_A
end
