/-! THE LAW: rows, entities, the text -/
theorem qGood_le {w : Bool} {C D lev : Nat} {I : Nat → Nat → Int32} {W : Nat → Nat → Nat} {P : (Nat → Nat → Int32) → (Nat → Nat → Nat) → Prop} (h : qGood w C lev I W P) (hl : C ≤ D) : qGood w D lev I W P := by
  obtain ⟨c, h1, h2⟩ := h
  exact ⟨c, by omega, h2⟩
theorem qGood_P {w : Bool} {C lev : Nat} {I : Nat → Nat → Int32} {W : Nat → Nat → Nat} {P R : (Nat → Nat → Int32) → (Nat → Nat → Nat) → Prop} (h : qGood w C lev I W P) (k : ∀ J X, P J X → R J X) : qGood w C lev I W R := by
  obtain ⟨c, h1, J, X, h2, h3, h4, h5⟩ := h
  exact ⟨c, h1, J, X, h2, h3, h4, k _ _ h5⟩
theorem qStep_6 {G : qG} {sw : Nat → Nat} {ent : Nat → Nat → qV → qV} {ks : List qK} {i n p : Nat} {Q : qQ} (hi : ks[i]? = some (6, qn n)) (hn : n < 128) (h0 : Q.2.1 = 0) : qStep G sw ent ks i p Q = (Q.1, 0, Q.2.2.1, ent n p Q.2.2.2) := by
  unfold qStep
  rw [hi]
  dsimp only
  rw [if_neg (by omega), if_neg (by decide), if_neg (by omega)]
  unfold qTok
  rw [if_neg (by decide), if_neg (by decide), if_neg (by decide), if_neg (by decide), if_neg (by decide), if_neg (by decide), if_pos rfl, qn_c (by omega)]
section
variable {w : Bool} {G : qG} {sw : Nat → Nat} {en : Nat → List qK} {txt ks : List qK} {lev e0 : Nat} {pl : Option Nat}
theorem qSta_tok {I : Nat → Nat → Int32} {i : Nat} {Q : qQ} (hS : qSta G sw en txt e0 lev pl ks I i Q) (hi : i < ks.length) : ∃ s n, ks[i]? = some (s, qn n) ∧ n < 128 ∧ (s = 6 → n < 2) ∧ (s = 6 → lev ≤ 1 → (en n).length ≤ 4) := by
  obtain ⟨hG, hX, -, -, hr, -⟩ := hS
  obtain ⟨l1, l2, l3⟩ := qLRow_l hX hr
  obtain ⟨k, hk⟩ : ∃ k, ks[i]? = some k := ⟨_, List.getElem?_eq_getElem hi⟩
  obtain ⟨s, v⟩ := k
  obtain ⟨k1, n, k2, k3, k4, k5, k6⟩ := l3 _ (List.mem_of_getElem? hk)
  have k3 : v = qn n := k3
  subst k3
  exact ⟨s, n, hk, k2, fun h => k6 (Or.inl h), fun h _ => (hX.2.1 n (k6 (Or.inl h))).2.1⟩
theorem lRun (hg : qGok G) {C : Nat} (ent : Nat → Nat → qV → qV) (hE : ∀ i n Q I W X, ks[i]? = some (6, qn n) → n < 2 → qSta G sw en txt e0 lev pl ks I i Q → qRW G lev W X i → Q.2.1 = 0 → ((lev = 2 ∨ lev = 1 ∧ I 510 12 = qn n) ∧ ∀ p U, ent n p U = qErr 4 p U) ∨ qGood w (C + 2) lev I W (fun J W' => qSta G sw en txt e0 lev pl ks J (i + 1) (Q.1, 0, Q.2.2.1, ent n (pl.getD i) Q.2.2.2) ∧ qRW G lev W' (if pl = none then ((ent n (pl.getD i) Q.2.2.2).1, Q.1) :: X else X) (i + 1)) ∨ qBad w G (C + 3) I W) :
    ∀ d i Q I W X, i + d = ks.length → qSta G sw en txt e0 lev pl ks I i Q → qRW G lev W X i → qGood w ((C + 3) * d) lev I W (fun J W' => qSta G sw en txt e0 lev pl ks J ks.length (qLoop G sw ent ks pl d i (Q, X)).1 ∧ qRW G lev W' (qLoop G sw ent ks pl d i (Q, X)).2 ks.length) ∨ qBad w G ((C + 3) * d) I W := by
  intro d
  induction d with
  | zero =>
    intro i Q I W X hi hS hW
    left
    refine ⟨0, Nat.le_refl _, I, W, fun m => rfl, qFrO_refl _ _, qFrW_refl _ _, ?_⟩
    have e : i = ks.length := by omega
    subst e
    exact ⟨hS, hW⟩
  | succ d ih =>
    intro i Q I W X hi hS hW
    obtain ⟨s, n, hk, hn, hn2, -⟩ := qSta_tok hS (show i < ks.length by omega)
    have key : qGood w (C + 2) lev I W (fun J W' => qSta G sw en txt e0 lev pl ks J (i + 1) (qStep G sw ent ks i (pl.getD i) Q) ∧ qRW G lev W' (if pl = none then ((qStep G sw ent ks i (pl.getD i) Q).2.2.2.1, (qStep G sw ent ks i (pl.getD i) Q).1 + (qStep G sw ent ks i (pl.getD i) Q).2.1) :: X else X) (i + 1)) ∨ qBad w G (C + 3) I W := by
      by_cases c : s = 6 ∧ Q.2.1 = 0
      · obtain ⟨c6, c0⟩ := c
        subst c6
        rcases hE i n Q I W X hk (hn2 rfl) hS hW c0 with h | h | h
        · rcases lTok (w := w) (X := X) hg hS hW hk hn ent (fun _ _ => h) with h | h
          · exact Or.inl (qGood_le h (by omega))
          · exact Or.inr (qBad_le h (by omega))
        · left
          rw [qStep_6 hk hn c0]
          exact h
        · exact Or.inr h
      · rcases lTok (w := w) (X := X) hg hS hW hk hn ent (fun c6 c0 => absurd ⟨c6, c0⟩ c) with h | h
        · exact Or.inl (qGood_le h (by omega))
        · exact Or.inr (qBad_le h (by omega))
    have hm : (C + 3) * (d + 1) = (C + 3) + (C + 3) * d := by rw [Nat.mul_succ, Nat.add_comm]
    have hL : qLoop G sw ent ks pl (d + 1) i (Q, X) = qLoop G sw ent ks pl d (i + 1) (qStep G sw ent ks i (pl.getD i) Q, if pl = none then ((qStep G sw ent ks i (pl.getD i) Q).2.2.2.1, (qStep G sw ent ks i (pl.getD i) Q).1 + (qStep G sw ent ks i (pl.getD i) Q).2.1) :: X else X) := rfl
    rw [hm, hL]
    rcases key with ⟨c, c1, J, W', c2, c3, c4, c5, c6⟩ | h
    · rcases ih (i + 1) _ J W' _ (by omega) c5 c6 with h | h
      · exact Or.inl (qGood_tr (by omega) c2 c3 c4 h)
      · exact Or.inr (qBad_tr (by omega) c2 c3 c4.2 h)
    · exact Or.inr (qBad_le h (by omega))
theorem lRun2 (hg : qGok G) (d i : Nat) (Q : qQ) (I : Nat → Nat → Int32) (W : Nat → Nat → Nat) (X : List (qZ × Nat)) (hi : i + d = ks.length) (hS : qSta G sw en txt e0 2 pl ks I i Q) : qGood w (3 * d) 2 I W (fun J W' => qSta G sw en txt e0 2 pl ks J ks.length (qLoop G sw qEnt2 ks pl d i (Q, X)).1) ∨ qBad w G (3 * d) I W := by
  rcases lRun (w := w) (C := 0) (lev := 2) hg qEnt2 (fun i n Q I W X _ _ _ _ _ => Or.inl ⟨Or.inl rfl, fun p U => rfl⟩) d i Q I W X hi hS (fun h => absurd h (by decide)) with h | h
  · rw [Nat.zero_add] at h
    exact Or.inl (qGood_P h fun J X h => h.1)
  · rw [Nat.zero_add] at h
    exact Or.inr h
theorem lRun1 (hg : qGok G) (d i : Nat) (Q : qQ) (I : Nat → Nat → Int32) (W : Nat → Nat → Nat) (X : List (qZ × Nat)) (hi : i + d = ks.length) (hS : qSta G sw en txt e0 1 pl ks I i Q) : qGood w (15 * d) 1 I W (fun J W' => qSta G sw en txt e0 1 pl ks J ks.length (qLoop G sw (qEnt1 G sw en e0) ks pl d i (Q, X)).1) ∨ qBad w G (15 * d) I W := by
  rcases lRun (w := w) (C := 12) (lev := 1) hg (qEnt1 G sw en e0) (fun i n Q I W X hk hn hS hW h0 => by
    have he0 := hS.2.2.2.2.2.2.2.2.2.2.1 rfl
    have hl4 := (hS.2.1.2.1 n hn).2.1
    by_cases c : n = e0
    · left
      refine ⟨Or.inr ⟨rfl, by rw [c]; exact he0.2⟩, fun p U => ?_⟩
      unfold qEnt1
      rw [if_pos c]
    · right
      have he : ∀ p U, qEnt1 G sw en e0 n p U = (qRow G sw qEnt2 (en n) (some p) U []).1 := fun p U => by
        unfold qEnt1
        rw [if_neg c]
      rw [he]
      exact lEnt (w := w) (X := X) (C := 12) hS hW hk (by omega) h0 (Or.inr ⟨rfl, fun h => c h.symm⟩) qEnt2 (fun J hJ => by
        rcases lRun2 (w := w) hg (en n).length 0 (0, 0, 1, Q.2.2.2) J W [] (by omega) hJ with h | h
        · exact Or.inl (qGood_le h (by omega))
        · exact Or.inr (qBad_le h (by omega)))) d i Q I W X hi hS (fun h => absurd h (by decide)) with h | h
  · exact Or.inl (qGood_P h fun J X h => h.1)
  · exact Or.inr h
theorem lRun0 (hg : qGok G) (d i : Nat) (Q : qQ) (I : Nat → Nat → Int32) (W : Nat → Nat → Nat) (X : List (qZ × Nat)) (hi : i + d = ks.length) (hS : qSta G sw en txt e0 0 pl ks I i Q) (hW : qRW G 0 W X i) : qGood w (63 * d) 0 I W (fun J W' => qSta G sw en txt e0 0 pl ks J ks.length (qLoop G sw (qEnt0 G sw en) ks pl d i (Q, X)).1 ∧ qRW G 0 W' (qLoop G sw (qEnt0 G sw en) ks pl d i (Q, X)).2 ks.length) ∨ qBad w G (63 * d) I W := by
  refine lRun (w := w) (C := 60) (lev := 0) hg (qEnt0 G sw en) (fun i n Q I W X hk hn hS hW h0 => ?_) d i Q I W X hi hS hW
  have hl4 := (hS.2.1.2.1 n hn).2.1
  right
  have he : ∀ p U, qEnt0 G sw en n p U = (qRow G sw (qEnt1 G sw en n) (en n) (some p) U []).1 := fun p U => rfl
  rw [he]
  exact lEnt (w := w) (X := X) (C := 60) hS hW hk (by omega) h0 (Or.inl rfl) (qEnt1 G sw en n) (fun J hJ => by
    rcases lRun1 (w := w) hg (en n).length 0 (0, 0, 1, Q.2.2.2) J W [] (by omega) hJ with h | h
    · exact Or.inl (qGood_le h (by omega))
    · exact Or.inr (qBad_le h (by omega)))
end
section
variable {w : Bool} {I : Nat → Nat → Int32} {W : Nat → Nat → Nat} {G : qG} {V : qV} {f : Bool} {p : Nat} {sw : Nat → Nat} {en : Nat → List qK} {txt : List qK}
theorem lFin_177 (hG0 : qLG G I) {c : Nat} (hc : c ≤ 100) : ∀ d j V f I m, j + d = c → d < m → qLG G I → qLV I p V f → qLok G V → I 510 14 = qn c → ∃ J V' f', fL_reads_177 m 505 506 507 510 511 517 (qn j) (qL w I W) = some (qn 0, qL w J W) ∧ qLV J p V' f' ∧ qLok G V' ∧ qFrL I J ∧ (f' = false → f = false ∧ V' = qShutTo G p 0 false (qErrs 5 p d V)) := by
  intro d
  induction d with
  | zero =>
    intro j V f I m h1 h2 hG hV hok h14
    obtain ⟨m, rfl⟩ : ∃ q, m = q + 1 := ⟨m - 1, by omega⟩
    have hj : c ≤ j := by omega
    obtain ⟨J, V', f', j1, j2, j3, j4, j5⟩ := lClose (w := w) (W := W) 0 false (by omega) hG hV hok
    rw [qb_f] at j1
    refine ⟨J, V', f', ?_, j2, j3, j4, j5⟩
    unfold fL_reads_177 fL_reads_201
    simp (disch := omega) only [↓qlet, eq_self, qzg_t, qzb_some, ↓reduceIte, not_or, not_false_eq_true, not_true_eq_false, and_true, true_and, and_self, or_false, false_or, true_or, or_true, and_false, false_and, qlit, qneg, qof, qn_add, qn_mul, qn_s, qn_z, qn_d, qn_dz, qm_1, qt_1, qt_0, qb_0, qb_1, qb_01, qb01b, q01_0, q01_1, qo_s, qo_n, qn_c, qn_le, qn_lt, qn_eq, qn_ne_m, qm_ne_n, qm_lt, qm_le, qn_lt_m, qn_le_m, qn_sub, qn_div, qn_mod, qle_t, qle_f, qlt_t, qlt_f, qeq_t, qeq_f, Nat.add_sub_cancel, qU_s, qU_a, qU_k, qn_rem, qL_I, qL_s, lk_505, lk_506, lk_507, lk_508, lk_509, lk_510, lk_511, lk_512, lk_513, lk_514, lk_515, lk_516, lk_517, lk_518, lk_519, ll_505, ll_506, ll_507, ll_508, ll_509, ll_510, ll_511, ll_512, ll_513, ll_514, ll_515, ll_516, ll_517, ll_518, ll_519, h14, hj, j1]
  | succ d ih =>
    intro j V f I m h1 h2 hG hV hok h14
    obtain ⟨m, rfl⟩ : ∃ q, m = q + 1 := ⟨m - 1, by omega⟩
    have hj : ¬ c ≤ j := by omega
    obtain ⟨K, V2, f2, k1, k2, k3, k4, -, -, -, k5⟩ := lFailsK (w := w) (W := W) hV hok 5
    obtain ⟨J, V', f', j1, j2, j3, j4, j5⟩ := ih (j + 1) V2 f2 K m (by omega) (by omega) (qFrL_G k4 hG) k2 k3 (by rw [k4.2.1 14 (by omega) (by omega)]; exact h14)
    refine ⟨J, V', f', ?_, j2, j3, qFrL_tr k4 j4, fun h => ?_⟩
    · unfold fL_reads_177
      simp (disch := omega) only [↓qlet, eq_self, qzg_t, qzb_some, ↓reduceIte, not_or, not_false_eq_true, not_true_eq_false, and_true, true_and, and_self, or_false, false_or, true_or, or_true, and_false, false_and, qlit, qneg, qof, qn_add, qn_mul, qn_s, qn_z, qn_d, qn_dz, qm_1, qt_1, qt_0, qb_0, qb_1, qb_01, qb01b, q01_0, q01_1, qo_s, qo_n, qn_c, qn_le, qn_lt, qn_eq, qn_ne_m, qm_ne_n, qm_lt, qm_le, qn_lt_m, qn_le_m, qn_sub, qn_div, qn_mod, qle_t, qle_f, qlt_t, qlt_f, qeq_t, qeq_f, Nat.add_sub_cancel, qU_s, qU_a, qU_k, qn_rem, qL_I, qL_s, lk_505, lk_506, lk_507, lk_508, lk_509, lk_510, lk_511, lk_512, lk_513, lk_514, lk_515, lk_516, lk_517, lk_518, lk_519, ll_505, ll_506, ll_507, ll_508, ll_509, ll_510, ll_511, ll_512, ll_513, ll_514, ll_515, ll_516, ll_517, ll_518, ll_519, h14, hj, k1]
      exact j1
    · obtain ⟨q1, q2⟩ := j5 h
      obtain ⟨q3, q4⟩ := k5 q1
      exact ⟨q3, by rw [q2, q4]; rfl⟩
theorem lFin (hG : qLG G I) (hX : qLX I sw en txt) (hV : qLV I p V f) (hok : qLok G V) {k : Nat} (hk : k ≤ 18) (h14 : I 510 14 = qn k) : ∃ J V' f', lF (qL w I W) = some (qn 0, qL w J W) ∧ qLV J txt.length V' f' ∧ qLok G V' ∧ (∀ a, (a ≤ 509 ∨ 518 ≤ a) → J a = I a) ∧ (f' = false → f = false ∧ V' = qShutTo G txt.length 0 false (qErrs 5 txt.length k V)) := by
  have h20 := hX.1.1
  have hV2 := qLV_pl hV txt.length
  obtain ⟨J, V', f', j1, j2, j3, j4, j5⟩ := lFin_177 (w := w) (W := W) (p := txt.length) hG (show k ≤ 100 by omega) k 0 V f (qU I 510 18 (qn txt.length)) 10000 (by omega) (by omega) (qLG_fr hG (by rw [qU_r (by omega)]) (by rw [qU_r (by omega)]) (by rw [qU_r (by omega)])) hV2 hok (by rw [qU_k (by omega)]; exact h14)
  refine ⟨J, V', f', ?_, j2, j3, fun a ha => by rw [j4.1 a (by omega), qU_r (by omega)], j5⟩
  unfold lF fL_reads_164
  generalize fL_reads_177 10000 = F at j1 ⊢
  simp (disch := omega) only [↓qlet, eq_self, qzg_t, qzb_some, ↓reduceIte, not_or, not_false_eq_true, not_true_eq_false, and_true, true_and, and_self, or_false, false_or, true_or, or_true, and_false, false_and, qlit, qneg, qof, qn_add, qn_mul, qn_s, qn_z, qn_d, qn_dz, qm_1, qt_1, qt_0, qb_0, qb_1, qb_01, qb01b, q01_0, q01_1, qo_s, qo_n, qn_c, qn_le, qn_lt, qn_eq, qn_ne_m, qm_ne_n, qm_lt, qm_le, qn_lt_m, qn_le_m, qn_sub, qn_div, qn_mod, qle_t, qle_f, qlt_t, qlt_f, qeq_t, qeq_f, Nat.add_sub_cancel, qU_s, qU_a, qU_k, qn_rem, qL_I, qL_s, lk_505, lk_506, lk_507, lk_508, lk_509, lk_510, lk_511, lk_512, lk_513, lk_514, lk_515, lk_516, lk_517, lk_518, lk_519, ll_505, ll_506, ll_507, ll_508, ll_509, ll_510, ll_511, ll_512, ll_513, ll_514, ll_515, ll_516, ll_517, ll_518, ll_519, h20, j1]
theorem lEndText {i : Nat} (h7 : I 510 7 = qn 0) (h8 : I 510 8 = qn i) (h20 : I 509 20 = qn i) (hi : i ≤ 18) (m : Nat) : lR (m + 1) (qL w I W) = lF (qL w I W) := by
  unfold lR lF fL_reads_31
  generalize fL_reads_31 m = F
  generalize fL_reads_164 = F2
  simp (disch := omega) only [↓qlet, eq_self, qzg_t, qzb_some, ↓reduceIte, not_or, not_false_eq_true, not_true_eq_false, and_true, true_and, and_self, or_false, false_or, true_or, or_true, and_false, false_and, qlit, qneg, qof, qn_add, qn_mul, qn_s, qn_z, qn_d, qn_dz, qm_1, qt_1, qt_0, qb_0, qb_1, qb_01, qb01b, q01_0, q01_1, qo_s, qo_n, qn_c, qn_le, qn_lt, qn_eq, qn_ne_m, qm_ne_n, qm_lt, qm_le, qn_lt_m, qn_le_m, qn_sub, qn_div, qn_mod, qle_t, qle_f, qlt_t, qlt_f, qeq_t, qeq_f, Nat.add_sub_cancel, qU_s, qU_a, qU_k, qn_rem, qL_I, qL_s, lk_505, lk_506, lk_507, lk_508, lk_509, lk_510, lk_511, lk_512, lk_513, lk_514, lk_515, lk_516, lk_517, lk_518, lk_519, ll_505, ll_506, ll_507, ll_508, ll_509, ll_510, ll_511, ll_512, ll_513, ll_514, ll_515, ll_516, ll_517, ll_518, ll_519, h7, h8, h20, Nat.le_refl]
/-- noughts in the row r -/
def qZj (I : Nat → Nat → Int32) (j : Nat) : Nat → Nat → Int32 := fun a k => if a = 510 ∧ k < j then qn 0 else I a k
theorem qZj_s (I : Nat → Nat → Int32) (j : Nat) : qU (qZj I j) 510 j (qn 0) = qZj I (j + 1) := by
  funext a k
  unfold qU qZj
  by_cases c : a = 510 ∧ k = j
  · rw [if_pos c, if_pos ⟨c.1, by omega⟩]
  · rw [if_neg c]
    by_cases c2 : a = 510 ∧ k < j
    · rw [if_pos c2, if_pos ⟨c2.1, by omega⟩]
    · rw [if_neg c2, if_neg (fun h => c2 ⟨h.1, by have : ¬ k = j := fun e => c ⟨h.1, e⟩; omega⟩)]
theorem lZero (m : Nat) : ∀ d j n, j + d = 20 → d < n → fL_reads_3 n 505 506 507 508 509 510 511 512 513 514 515 516 517 518 (qn j) (qL w (qZj I j) W) = fL_reads_22 505 506 507 508 509 510 511 512 513 514 515 516 517 518 (qL w (qZj I 20) W) := by
  intro d
  induction d with
  | zero =>
    intro j n h1 h2
    obtain ⟨n, rfl⟩ : ∃ q, n = q + 1 := ⟨n - 1, by omega⟩
    obtain rfl : j = 20 := by omega
    unfold fL_reads_3
    generalize fL_reads_22 = F
    simp (disch := omega) only [↓qlet, eq_self, qzg_t, qzb_some, ↓reduceIte, not_or, not_false_eq_true, not_true_eq_false, and_true, true_and, and_self, or_false, false_or, true_or, or_true, and_false, false_and, qlit, qneg, qof, qn_add, qn_mul, qn_s, qn_z, qn_d, qn_dz, qm_1, qt_1, qt_0, qb_0, qb_1, qb_01, qb01b, q01_0, q01_1, qo_s, qo_n, qn_c, qn_le, qn_lt, qn_eq, qn_ne_m, qm_ne_n, qm_lt, qm_le, qn_lt_m, qn_le_m, qn_sub, qn_div, qn_mod, qle_t, qle_f, qlt_t, qlt_f, qeq_t, qeq_f, Nat.add_sub_cancel, qU_s, qU_a, qU_k, qn_rem, qL_I, qL_s, lk_505, lk_506, lk_507, lk_508, lk_509, lk_510, lk_511, lk_512, lk_513, lk_514, lk_515, lk_516, lk_517, lk_518, lk_519, ll_505, ll_506, ll_507, ll_508, ll_509, ll_510, ll_511, ll_512, ll_513, ll_514, ll_515, ll_516, ll_517, ll_518, ll_519, Nat.le_refl]
  | succ d ih =>
    intro j n h1 h2
    obtain ⟨n, rfl⟩ : ∃ q, n = q + 1 := ⟨n - 1, by omega⟩
    have c : ¬ 20 ≤ j := by omega
    have ih := ih (j + 1) n (by omega) (by omega)
    unfold fL_reads_3
    generalize fL_reads_22 = F at ih ⊢
    simp (disch := omega) only [↓qlet, eq_self, qzg_t, qzb_some, ↓reduceIte, not_or, not_false_eq_true, not_true_eq_false, and_true, true_and, and_self, or_false, false_or, true_or, or_true, and_false, false_and, qlit, qneg, qof, qn_add, qn_mul, qn_s, qn_z, qn_d, qn_dz, qm_1, qt_1, qt_0, qb_0, qb_1, qb_01, qb01b, q01_0, q01_1, qo_s, qo_n, qn_c, qn_le, qn_lt, qn_eq, qn_ne_m, qm_ne_n, qm_lt, qm_le, qn_lt_m, qn_le_m, qn_sub, qn_div, qn_mod, qle_t, qle_f, qlt_t, qlt_f, qeq_t, qeq_f, Nat.add_sub_cancel, qU_s, qU_a, qU_k, qn_rem, qL_I, qL_s, lk_505, lk_506, lk_507, lk_508, lk_509, lk_510, lk_511, lk_512, lk_513, lk_514, lk_515, lk_516, lk_517, lk_518, lk_519, ll_505, ll_506, ll_507, ll_508, ll_509, ll_510, ll_511, ll_512, ll_513, ll_514, ll_515, ll_516, ll_517, ll_518, ll_519, c, qZj_s]
    exact ih
theorem qZj_0 (I : Nat → Nat → Int32) : qZj I 0 = I := by
  funext a k
  unfold qZj
  rw [if_neg (by omega)]
/-- what the law's rows hold when a text was read -/
def qLR (I : Nat → Nat → Int32) (W : Nat → Nat → Nat) (G : qG) (sw : Nat → Nat) (en : Nat → List qK) (txt : List qK) (f : Bool) : Prop := I 510 6 = qb f ∧ (f = false → qLV I txt.length (qFull G sw en txt).1 false ∧ qLok G (qFull G sw en txt).1 ∧ qLW G W (qFull G sw en txt).2 ∧ (qFull G sw en txt).2.length = txt.length + 1)
theorem lReads (hg : qGok G) (hG : qLG G I) (hX : qLX I sw en txt) : ∃ J W' f, fL_reads 505 506 507 508 509 510 511 512 513 514 515 516 517 518 (qL w I W) = some (qn 0, qL w J W') ∧ (∀ a, (a ≤ 509 ∨ 518 ≤ a) → J a = I a) ∧ W' 519 = W 519 ∧ qLR J W' G sw en txt f := by
  have hz : ∀ k, k < 20 → qZj I 20 510 k = qn 0 := fun k hk => by unfold qZj; rw [if_pos ⟨rfl, hk⟩]
  have hf : ∀ a, a ≠ 510 → qZj I 20 a = I a := fun a ha => by funext k; unfold qZj; rw [if_neg (fun h => ha h.1)]
  have hV : qLV (qZj I 20) 0 qV0 false := ⟨hz 0 (by omega), hz 1 (by omega), hz 2 (by omega), hz 3 (by omega), hz 4 (by omega), hz 5 (by omega), hz 6 (by omega), hz 17 (by omega), hz 18 (by omega), True.intro, True.intro, True.intro, True.intro⟩
  have hok : qLok G qV0 := ⟨Nat.zero_le _, rfl, fun x hx => (by cases hx), fun e he => (by cases he), fun _ => rfl, Nat.zero_le _, Nat.zero_le _, fun x hx => (by cases hx)⟩
  have hG1 : qLG G (qZj I 20) := qLG_fr hG (hf _ (by omega)) (hf _ (by omega)) (hf _ (by omega))
  have hX1 : qLX (qZj I 20) sw en txt := qLX_fr hX (hf _ (by omega)) (hf _ (by omega))
  have hl18 := hX.1.2.1
  have hk := lKeep (w := w) (W := W) hG1 hV hok (pos := 0) (m := 0) (by omega) (by omega) (hz 7 (by omega)) (hz 8 (by omega)) (hz 14 (by omega))
  have hW0 : qLW G (qWk W 0 qV0.1 0) [(qV0.1, 0)] := qLW_push (X := []) (i := 0) True.intro rfl (Nat.zero_le _) _ _ (qXl_of hG1 hok _)
  have hM0 : qLMk (qZj I 20) 0 0 0 1 := ⟨hz 14 (by omega), fun q hq => (by omega), fun h => absurd h (by decide), fun q h1 h2 => (by omega)⟩
  have hS : qSta G sw en txt 0 0 none txt (qZj I 20) 0 (0, 0, 1, qV0) := ⟨hG1, hX1, ⟨0, fun q h => (by cases h), hV⟩, hok, Or.inl ⟨rfl, rfl⟩, hz 7 (by omega), hz 8 (by omega), hM0, Nat.le_refl _, ⟨fun _ => rfl, fun _ => rfl⟩, fun h => (by cases h), 0, by omega, hz 14 (by omega)⟩
  have hstart : fL_reads 505 506 507 508 509 510 511 512 513 514 515 516 517 518 (qL w I W) = lR 10000 (qL w (qZj I 20) (qWk W 0 qV0.1 0)) := by
    have h1 := lZero (w := w) (W := W) (I := I) 0 20 0 10000 (by omega) (by omega)
    rw [qZj_0] at h1
    unfold fL_reads
    have e0 : (0 : Int32) = qn 0 := rfl
    rw [e0, h1]
    unfold fL_reads_22 lR
    rw [hk, qzb_some]
  have h519 : qWk W 0 qV0.1 0 519 = W 519 := qWk_519 _ _ _ _
  rcases lRun0 (w := w) hg txt.length 0 (0, 0, 1, qV0) (qZj I 20) _ [(qV0.1, 0)] (by omega) hS (fun _ => ⟨hW0, rfl⟩) with ⟨c, c1, J, W', c2, c3, c4, c5, c6⟩ | ⟨c, c1, J, W', c2, ⟨p, V, c3, c3'⟩, ⟨k, c4, c4'⟩, c5, c6⟩
  · obtain ⟨d1, d2, ⟨p, -, d3⟩, d4, -, d5, d6, d7, d8, -⟩ := c5
    obtain ⟨e1, e2⟩ := c6 rfl
    obtain ⟨K, V', f', k1, k2, k3, k4, k5⟩ := lFin (w := w) (W := W') d1 d2 d3 d4 (show _ ≤ 18 by omega) d7.1
    refine ⟨K, W', f', ?_, fun a ha => by rw [k4 a ha, c3.1 a ha, hf a (by omega)], by rw [c4.2, h519], k2.2.2.2.2.2.2.1, fun h => ?_⟩
    · rw [hstart, show 10000 = (9999 - c + 1) + c by omega, c2, lEndText d5 d6 d2.1.1 hl18, k1]
    · obtain ⟨-, q2⟩ := k5 h
      have hq : V' = (qFull G sw en txt).1 := q2
      rw [← hq]
      subst h
      exact ⟨k2, k3, e1, e2⟩
  · have hG2 : qLG G J := qLG_fr hG1 (c5 _ (by omega)) (c5 _ (by omega)) (c5 _ (by omega))
    have hX2 : qLX J sw en txt := qLX_fr hX1 (c5 _ (by omega)) (c5 _ (by omega))
    obtain ⟨K, V', f', k1, k2, k3, k4, k5⟩ := lFin (w := w) (W := W') hG2 hX2 c3 c3' c4 c4'
    refine ⟨K, W', f', ?_, fun a ha => by rw [k4 a ha, c5 a ha, hf a (by omega)], by rw [c6, h519], k2.2.2.2.2.2.2.1, fun h => ?_⟩
    · rw [hstart, show 10000 = (10000 - c) + c by omega, c2, k1]
    · obtain ⟨q1, -⟩ := k5 h
      cases q1
end
