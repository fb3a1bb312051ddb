/-! THE CLASS: the loop over a row, within entities and in the text -/
section
variable {w : Bool} {I : Nat → Nat → Int32} {G : qG} {V : qV} {p B x n i : Nat} {ks : List qK} {sw : Nat → Nat} {en : Nat → List qK} {ws : List Nat} {ent : Nat → Nat → qV → qV} {c : Nat} {g : Nat → Nat → Int32 → zM → Option (Int32 × zM)}
/-- within an entity -/
theorem cLoopE (hg : qGok G) (hx : qRw x n) (hn : ks.length ≤ n) (h60 : ks.length ≤ 600) (hks : ∀ k ∈ ks, qKok k) (hsw : ∀ j, j < 4 → sw j ≤ 2) (hws : 0 < ws.length) (hws3 : ws.length < 3) (hx90 : x ≤ 88)
    (hE : ∀ e p B V I, e < 6 → p ≤ 600 → B + c ≤ 4320 → qCG G I → qCEn sw en ws I → qVok G B V → qCV I p V → ∃ J, fX2_goThroughEntity g 91 (qn e) (qn ws.length) (qC w I) = some (qn 0, qC w J) ∧ qCV J p (ent e p V) ∧ qFrT ws.length I J)
    (hA : ∀ e p B V, e < 6 → p ≤ 600 → qVok G B V → qVok G (B + c) (ent e p V))
    (hc : 2 ≤ c) (hp : p ≤ 600) : ∀ m i Q C I k, i + m = ks.length → m < k → C + c * m ≤ 4320 → qCG G I → qCEn sw en ws I → qCK I x ks → qQok G C i Q → qCV I p Q.2.2.2 → ∃ J, fX2_goThrough_11 g k 91 x (qn ws.length) (qn Q.1) (qn Q.2.1) (qn Q.2.2.1) (qn i) (qC w I) = fX2_goThrough_206 g 91 x (qn ws.length) (qn (qLoop G sw ent ks (some p) m i (Q, [])).1.1) (qn (qLoop G sw ent ks (some p) m i (Q, [])).1.2.1) (qC w J) ∧ qCV J p (qLoop G sw ent ks (some p) m i (Q, [])).1.2.2.2 ∧ qFrT ws.length I J := by
  intro m
  induction m with
  | zero =>
    intro i Q C I k h1 h2 h3 hG hEn hk hQ hV
    obtain ⟨k, rfl⟩ : ∃ k', k = k' + 1 := ⟨k - 1, by omega⟩
    refine ⟨I, ?_, hV, qFrT_refl _ I⟩
    have hx9 := hx.2.2
    unfold fX2_goThrough_11 qLoop
    simp (disch := omega) only [↓qlet, eq_self, qzg_t, qzb_some, ↓reduceIte, not_or, not_false_eq_true, not_true_eq_false, and_true, true_and, and_self, or_false, false_or, true_or, or_true, and_false, false_and, qlit, qneg, qof, qn_add, qn_mul, qn_s, qn_z, qn_d, qn_dz, qm_1, qt_1, qt_0, qb_0, qb_1, qb_01, qb01b, q01_0, q01_1, qo_s, qo_n, qn_c, qn_le, qn_lt, qn_eq, qn_ne_m, qm_ne_n, qm_lt, qm_le, qn_lt_m, qn_le_m, qn_sub, qn_div, qn_mod, qle_t, qle_f, qlt_t, qlt_f, qeq_t, qeq_f, Nat.add_sub_cancel, qC_I, qC_s, qU_s, qU_a, qU_k, qRw_k _ _ hx, qRw_k1 _ _ hx, qRw_k2 _ _ hx, qRw_l1 _ _ hx, qRw_l2 _ _ hx, qRw_r0 _ _ hx, qRw_r1 _ _ hx, hk.1]
  | succ m ih =>
    intro i Q C I k h1 h2 h3 hG hEn hk hQ hV
    obtain ⟨k, rfl⟩ : ∃ k', k = k' + 1 := ⟨k - 1, by omega⟩
    have hx9 := hx.2.2
    have hm : c * (m + 1) = c * m + c := Nat.mul_succ c m
    have hil : i < ks.length := by omega
    have hg2 : ks[i]? = some (ks[i].1, ks[i].2) := List.getElem?_eq_getElem hil
    obtain ⟨k1, k2⟩ := hk.2 i _ hg2
    have h15 := hV.2.2.2.2.2.2.2
    have hks8 := (hks _ (List.mem_of_getElem? hg2)).1
    obtain ⟨J, e1, v1, f1⟩ := cStep (w := w) hg hx hn h60 hks hsw hE (by omega) hp hG hEn hk hQ (by omega) hV hg2 (fX2_goThrough_11 g k)
    have hs := qStep_ok (i := i) (p := p) hsw hc hA hks hp hQ
    obtain ⟨K, e2, v2, f2⟩ := ih (i + 1) _ (C + c) J k (by omega) (by omega) (by omega) (qFrT_G f1 hG) (qCEn_fr hEn f1) (qCK_fr hk (by rw [f1.1 _ (by omega)]) (by rw [f1.1 _ (by omega)]) (by rw [f1.1 _ (by omega)])) hs v1
    refine ⟨K, ?_, v2, qFrT_tr f1 f2⟩
    unfold qLoop
    rw [fX2_goThrough_11]
    have hlv : (qn ws.length = qn 0) = False := by rw [qn_eq (by omega) (by omega)]; exact eq_false (by omega)
    have e3 : ∀ M, fX2_goThrough_184 g (fX2_goThrough_11 g k) 91 x (qn ws.length) (qn (qStep G sw ent ks i p Q).1) (qn (qStep G sw ent ks i p Q).2.1) (qn (qStep G sw ent ks i p Q).2.2.1) (qn i) M = fX2_goThrough_11 g k 91 x (qn ws.length) (qn (qStep G sw ent ks i p Q).1) (qn (qStep G sw ent ks i p Q).2.1) (qn (qStep G sw ent ks i p Q).2.2.1) (qn (i + 1)) M := by
      intro M
      unfold fX2_goThrough_184 fX2_goThrough_200
      simp only [qlit, hlv, ↓reduceIte, ↓qlet, qn_add]
    rw [e3] at e1
    simp (disch := omega) only [↓qlet, eq_self, qzg_t, qzb_some, ↓reduceIte, not_or, not_false_eq_true, not_true_eq_false, and_true, true_and, and_self, or_false, false_or, true_or, or_true, and_false, false_and, qlit, qneg, qof, qn_add, qn_mul, qn_s, qn_z, qn_d, qn_dz, qm_1, qt_1, qt_0, qb_0, qb_1, qb_01, qb01b, q01_0, q01_1, qo_s, qo_n, qn_c, qn_le, qn_lt, qn_eq, qn_ne_m, qm_ne_n, qm_lt, qm_le, qn_lt_m, qn_le_m, qn_sub, qn_div, qn_mod, qle_t, qle_f, qlt_t, qlt_f, qeq_t, qeq_f, Nat.add_sub_cancel, qC_I, qC_s, qU_s, qU_a, qU_k, qRw_k _ _ hx, qRw_k1 _ _ hx, qRw_k2 _ _ hx, qRw_l1 _ _ hx, qRw_l2 _ _ hx, qRw_r0 _ _ hx, qRw_r1 _ _ hx, qk_1, qk_2, qk_3, qk_4, qk_5, qk_6, qk_7, qk_68, qk_69, qk_70, qk_71, qk_72, qk_91, qk_92, qk_93, qk_94, qk_95, qk_96, qk_97, qk_98, qk_99, qk_100, qk_101, qk_102, qk_103, qk_104, qk_105, qk_106, qk_107, qk_108, qk_109, qk_476, qk_477, hk.1, k1, k2, hlv, h15, e1]
    exact e2
theorem qCV_fr {J : Nat → Nat → Int32} (hV : qCV I p V) (hf : ∀ a, a ≤ 109 → J a = I a) : qCV J p V := by
  obtain ⟨h1, h2, h3, h4, h5, h6, h7, h8⟩ := hV
  refine ⟨qCZ_fr h1 (hf _ (by omega)) (hf _ (by omega)) (hf _ (by omega)), ?_, ?_, ?_, ?_, ?_, ?_, ?_⟩
  · rw [hf _ (by omega)]; exact h2
  · rw [hf _ (by omega)]; exact h3
  · rw [hf _ (by omega), hf 94 (by omega), hf 95 (by omega), hf 96 (by omega), hf 97 (by omega)]; exact h4
  · rw [hf _ (by omega)]; exact h5
  · rw [hf _ (by omega)]; exact h6
  · rw [hf _ (by omega), hf 102 (by omega)]; exact h7
  · rw [hf _ (by omega)]; exact h8
/-- the place is told once or twice -/
theorem cPlace_52 {k : Nat → Nat → Int32 → Int32 → Int32 → Int32 → Int32 → zM → Option (Int32 × zM)} {l a b c d s v p : Int32} : fX2_goThrough_52 g k 91 x l a b c d s v 91 p (qC w (qU I 91 15 p)) = fX2_goThrough_52 g k 91 x l a b c d s v 91 p (qC w I) := by
  have h : qU (qU I 91 15 p) 91 15 p = qU I 91 15 p := qU_same (qU_s ..)
  have e : zsI (qC w (qU I 91 15 p)) 91 15 p = zsI (qC w I) 91 15 p := by rw [qC_s, qC_s, h]
  unfold fX2_goThrough_52
  rw [e, qzg_i (qk_91 _ _), qzg_i (qk_91 _ _)]
/-- in the text: each state is kept -/
def qCX (w : Bool) (I : Nat → Nat → Int32) (X : List (qZ × Nat)) : Prop := qAll (fun j x => qCZ I (qSc w j) x.1 ∧ I (qSc w j) 5 = qn x.2) X
def qFr0 (w : Bool) (I J : Nat → Nat → Int32) : Prop := (∀ a, (a ≤ 90 ∨ (98 ≤ a ∧ a ≤ 100) ∨ a = 104 ∨ a = 105 ∨ 476 ≤ a ∨ (110 ≤ a ∧ a ≤ 475 ∧ (a - 110) / 3 % 2 = (if w = true then 0 else 1))) → J a = I a) ∧ J 91 16 = I 91 16 ∧ J 107 5 = I 107 5
theorem qFr0_of {l : Nat} {J : Nat → Nat → Int32} (h : qFrT l I J) : qFr0 w I J := ⟨fun a ha => h.1 a (by omega), h.2.1, h.2.2.1⟩
theorem qFr0_tr {J K : Nat → Nat → Int32} (h : qFr0 w I J) (k : qFr0 w J K) : qFr0 w I K := ⟨fun a ha => by rw [k.1 a ha, h.1 a ha], by rw [k.2.1, h.2.1], by rw [k.2.2, h.2.2]⟩
theorem qFr0_refl (w : Bool) (I : Nat → Nat → Int32) : qFr0 w I I := ⟨fun _ _ => rfl, rfl, rfl⟩
theorem qSc_ge (w : Bool) (j : Nat) : 110 ≤ qSc w j := by unfold qSc; split <;> omega
theorem qSc_ne {j k : Nat} (h : j < k) : qSc w j + 3 ≤ qSc w k := by unfold qSc; split <;> omega
theorem qCX_fr {J : Nat → Nat → Int32} {X : List (qZ × Nat)} (h : qCX w I X) (hf : ∀ j, j < X.length → ∀ d, d < 3 → J (qSc w j + d) = I (qSc w j + d)) : qCX w J X := by
  refine qAll_mono h fun j y hj _ hp => ?_
  have h0 := hf j hj 0 (by omega)
  rw [Nat.add_zero] at h0
  refine ⟨qCZ_fr hp.1 h0 (hf j hj 1 (by omega)) (hf j hj 2 (by omega)), ?_⟩
  rw [h0]; exact hp.2
theorem cLoop0 (hg : qGok G) (hn : ks.length ≤ 60) (hks : ∀ k ∈ ks, qKok k) (hsw : ∀ j, j < 4 → sw j ≤ 2)
    (hE : ∀ e p B V I, e < 6 → p ≤ 600 → B + c ≤ 4320 → qCG G I → qCEn sw en [] I → qVok G B V → qCV I p V → ∃ J, fX2_goThroughEntity g 91 (qn e) (qn 0) (qC w I) = some (qn 0, qC w J) ∧ qCV J p (ent e p V) ∧ qFrT 0 I J)
    (hA : ∀ e p B V, e < 6 → p ≤ 600 → qVok G B V → qVok G (B + c) (ent e p V))
    (hc : 2 ≤ c) : ∀ m i Q X C p I k, i + m = ks.length → m < k → C + c * m ≤ 4320 → qCG G I → qCEn sw en [] I → qCK I 68 ks → qQok G C i Q → X.length = i + 1 → qCX w I X → qCV I p Q.2.2.2 → ∃ J p', fX2_goThrough_11 g k 91 68 (qn 0) (qn Q.1) (qn Q.2.1) (qn Q.2.2.1) (qn i) (qC w I) = fX2_goThrough_206 g 91 68 (qn 0) (qn (qLoop G sw ent ks none m i (Q, X)).1.1) (qn (qLoop G sw ent ks none m i (Q, X)).1.2.1) (qC w J) ∧ qCV J p' (qLoop G sw ent ks none m i (Q, X)).1.2.2.2 ∧ qCX w J (qLoop G sw ent ks none m i (Q, X)).2 ∧ qFr0 w I J := by
  intro m
  have hx := qRw_68
  induction m with
  | zero =>
    intro i Q X C p I k h1 h2 h3 hG hEn hk hQ hXl hX hV
    obtain ⟨k, rfl⟩ : ∃ k', k = k' + 1 := ⟨k - 1, by omega⟩
    refine ⟨I, p, ?_, hV, hX, qFr0_refl w I⟩
    unfold fX2_goThrough_11 qLoop
    simp (disch := omega) only [↓qlet, eq_self, qzg_t, qzb_some, ↓reduceIte, not_or, not_false_eq_true, not_true_eq_false, and_true, true_and, and_self, or_false, false_or, true_or, or_true, and_false, false_and, qlit, qneg, qof, qn_add, qn_mul, qn_s, qn_z, qn_d, qn_dz, qm_1, qt_1, qt_0, qb_0, qb_1, qb_01, qb01b, q01_0, q01_1, qo_s, qo_n, qn_c, qn_le, qn_lt, qn_eq, qn_ne_m, qm_ne_n, qm_lt, qm_le, qn_lt_m, qn_le_m, qn_sub, qn_div, qn_mod, qle_t, qle_f, qlt_t, qlt_f, qeq_t, qeq_f, Nat.add_sub_cancel, qC_I, qC_s, qU_s, qU_a, qU_k, qk_1, qk_2, qk_3, qk_4, qk_5, qk_6, qk_7, qk_68, qk_69, qk_70, qk_71, qk_72, qk_91, qk_92, qk_93, qk_94, qk_95, qk_96, qk_97, qk_98, qk_99, qk_100, qk_101, qk_102, qk_103, qk_104, qk_105, qk_106, qk_107, qk_108, qk_109, qk_476, qk_477, hk.1]
  | succ m ih =>
    intro i Q X C p I k h1 h2 h3 hG hEn hk hQ hXl hX hV
    obtain ⟨k, rfl⟩ : ∃ k', k = k' + 1 := ⟨k - 1, by omega⟩
    have hm : c * (m + 1) = c * m + c := Nat.mul_succ c m
    have hil : i < ks.length := by omega
    have hg2 : ks[i]? = some (ks[i].1, ks[i].2) := List.getElem?_eq_getElem hil
    obtain ⟨k1, k2⟩ := hk.2 i _ hg2
    have hks8 := (hks _ (List.mem_of_getElem? hg2)).1
    -- the place
    obtain ⟨v0, f0⟩ := qCV_place (p' := i) hV
    have f0T : qFrT 0 I (qU I 91 15 (qn i)) := qFrT_of f0
    have hk0 : qCK (qU I 91 15 (qn i)) 68 ks := qCK_fr hk (by rw [qU_r (by omega)]) (by rw [qU_r (by omega)]) (by rw [qU_r (by omega)])
    obtain ⟨J, e1, v1, f1⟩ := cStep (w := w) (ws := []) hg hx hn (by omega) hks hsw hE (by omega) (p := i) (by omega) (qFrT_G f0T hG) (qCEn_fr hEn f0T) hk0 hQ (by omega) v0 hg2 (fX2_goThrough_11 g k)
    have hs := qStep_ok (i := i) (p := i) hsw hc hA hks (by omega) hQ
    have hs9 := hs
    obtain ⟨⟨B, hok, hB⟩, hii, -⟩ := hs
    -- the state
    obtain ⟨K, e2, z2, m2, f2⟩ := cKeep (w := w) hok.1 v1.1 (m := (qStep G sw ent ks i i Q).1 + (qStep G sw ent ks i i Q).2.1) (i := i + 1) (by omega)
    have hq := qSc_ge w (i + 1)
    have hq2 : qSc w (i + 1) + 3 ≤ 476 := by unfold qSc; split <;> omega
    have f2T : ∀ a, (a ≤ 109 ∨ 476 ≤ a ∨ (110 ≤ a ∧ a ≤ 475 ∧ (a - 110) / 3 % 2 = (if w = true then 0 else 1))) → K a = J a := by
      intro a ha
      have h9 : a ≠ qSc w (i + 1) ∧ a ≠ qSc w (i + 1) + 1 ∧ a ≠ qSc w (i + 1) + 2 := by
        clear f0 f0T hk0 e1 v1 f1 v0 hok hE hA
        unfold qSc at hq hq2 ⊢
        cases w with
        | true =>
          simp only [↓reduceIte] at ha hq hq2 ⊢
          omega
        | false =>
          simp only [Bool.false_eq_true, ↓reduceIte] at ha hq hq2 ⊢
          omega
      exact f2 a h9.1 h9.2.1 h9.2.2
    have v2 : qCV K i (qStep G sw ent ks i i Q).2.2.2 := qCV_fr v1 fun a ha => f2T a (by omega)
    have fA : qFr0 w I K := by
      refine qFr0_tr (qFr0_of f0T) (qFr0_tr (qFr0_of f1) ⟨fun a ha => f2T a (by omega), by rw [f2T 91 (by omega)], by rw [f2T 107 (by omega)]⟩)
    have hX2 : qCX w K (((qStep G sw ent ks i i Q).2.2.2.1, (qStep G sw ent ks i i Q).1 + (qStep G sw ent ks i i Q).2.1) :: X) := by
      refine ⟨?_, ?_⟩
      · rw [hXl]; exact ⟨z2, m2⟩
      · refine qCX_fr hX fun j hj d hd => ?_
        have h8 := qSc_ne (w := w) (j := j) (k := i + 1) (by omega)
        have h7 := qSc_ge w j
        rw [f2 _ (by omega) (by omega) (by omega), f1.1 _ (by omega), qU_r (by omega)]
    obtain ⟨L, p', e3, v3, x3, f3⟩ := ih (i + 1) _ _ (C + c) i K k (by omega) (by omega) (by omega) (qCG_fr hG fun a ha => fA.1 a (by omega)) ⟨fun j hj => qCK_fr (hEn.1 j hj) (by rw [fA.1 _ (by omega)]) (by rw [fA.1 _ (by omega)]) (by rw [fA.1 _ (by omega)]), fun j hj => by rw [fA.1 _ (by omega)]; exact hEn.2.1 j hj, fun j q h => by cases h⟩ (qCK_fr hk (by rw [fA.1 _ (by omega)]) (by rw [fA.1 _ (by omega)]) (by rw [fA.1 _ (by omega)])) hs9 (by simp; omega) hX2 v2
    refine ⟨L, p', ?_, v3, x3, qFr0_tr fA f3⟩
    unfold qLoop
    rw [fX2_goThrough_11]
    simp only [List.length_nil] at e1
    have e4 : fX2_goThrough_184 g (fX2_goThrough_11 g k) 91 68 (qn 0) (qn (qStep G sw ent ks i i Q).1) (qn (qStep G sw ent ks i i Q).2.1) (qn (qStep G sw ent ks i i Q).2.2.1) (qn i) (qC w J) = fX2_goThrough_11 g k 91 68 (qn 0) (qn (qStep G sw ent ks i i Q).1) (qn (qStep G sw ent ks i i Q).2.1) (qn (qStep G sw ent ks i i Q).2.2.1) (qn (i + 1)) (qC w K) := by
      unfold fX2_goThrough_184 fX2_goThrough_200
      simp (disch := omega) only [↓qlet, eq_self, qzg_t, qzb_some, ↓reduceIte, not_or, not_false_eq_true, not_true_eq_false, and_true, true_and, and_self, or_false, false_or, true_or, or_true, and_false, false_and, qlit, qneg, qof, qn_add, qn_mul, qn_s, qn_z, qn_d, qn_dz, qm_1, qt_1, qt_0, qb_0, qb_1, qb_01, qb01b, q01_0, q01_1, qo_s, qo_n, qn_c, qn_le, qn_lt, qn_eq, qn_ne_m, qm_ne_n, qm_lt, qm_le, qn_lt_m, qn_le_m, qn_sub, qn_div, qn_mod, qle_t, qle_f, qlt_t, qlt_f, qeq_t, qeq_f, Nat.add_sub_cancel, qC_I, qC_s, qU_s, qU_a, qU_k, qk_1, qk_2, qk_3, qk_4, qk_5, qk_6, qk_7, qk_68, qk_69, qk_70, qk_71, qk_72, qk_91, qk_92, qk_93, qk_94, qk_95, qk_96, qk_97, qk_98, qk_99, qk_100, qk_101, qk_102, qk_103, qk_104, qk_105, qk_106, qk_107, qk_108, qk_109, qk_476, qk_477, e2]
    rw [e4] at e1
    have e5 := cPlace_52 (w := w) (I := I) (g := g) (k := fX2_goThrough_11 g k) (x := 68) (l := qn 0) (a := qn Q.1) (b := qn Q.2.1) (c := qn Q.2.2.1) (d := qn i) (s := qn ks[i].1) (v := ks[i].2) (p := qn i)
    rw [e5] at e1
    simp (disch := omega) only [↓qlet, eq_self, qzg_t, qzb_some, ↓reduceIte, not_or, not_false_eq_true, not_true_eq_false, and_true, true_and, and_self, or_false, false_or, true_or, or_true, and_false, false_and, qlit, qneg, qof, qn_add, qn_mul, qn_s, qn_z, qn_d, qn_dz, qm_1, qt_1, qt_0, qb_0, qb_1, qb_01, qb01b, q01_0, q01_1, qo_s, qo_n, qn_c, qn_le, qn_lt, qn_eq, qn_ne_m, qm_ne_n, qm_lt, qm_le, qn_lt_m, qn_le_m, qn_sub, qn_div, qn_mod, qle_t, qle_f, qlt_t, qlt_f, qeq_t, qeq_f, Nat.add_sub_cancel, qC_I, qC_s, qU_s, qU_a, qU_k, qRw_k _ _ hx, qRw_k1 _ _ hx, qRw_k2 _ _ hx, qRw_l1 _ _ hx, qRw_l2 _ _ hx, qRw_r0 _ _ hx, qRw_r1 _ _ hx, qk_1, qk_2, qk_3, qk_4, qk_5, qk_6, qk_7, qk_68, qk_69, qk_70, qk_71, qk_72, qk_91, qk_92, qk_93, qk_94, qk_95, qk_96, qk_97, qk_98, qk_99, qk_100, qk_101, qk_102, qk_103, qk_104, qk_105, qk_106, qk_107, qk_108, qk_109, qk_476, qk_477, ql_3, ql_4, ql_5, ql_6, ql_7, ql_69, ql_70, ql_71, ql_72, ql_93, ql_94, ql_95, ql_96, ql_97, ql_99, ql_100, ql_101, ql_102, ql_103, ql_104, ql_105, ql_106, ql_108, ql_109, ql_477, qr_1_0, qr_1_1, qr_1_2, qr_1_3, qr_1_4, qr_1_5, qr_2_0, qr_2_1, qr_2_2, qr_2_3, qr_2_4, qr_68_0, qr_68_1, qr_91_0, qr_91_1, qr_91_2, qr_91_3, qr_91_4, qr_91_5, qr_91_6, qr_91_7, qr_91_10, qr_91_11, qr_91_14, qr_92_0, qr_92_1, qr_92_2, qr_92_3, qr_92_4, qr_98_0, qr_98_1, qr_107_0, qr_107_1, qr_107_2, qr_476_0, qr_476_1, qr_476_2, hk.1, k1, k2, e1]
    exact e3
end
