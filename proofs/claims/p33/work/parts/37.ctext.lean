/-! THE VALUE: what is open is what the normal form leaves open; THE CLASS: the text is read -/
def qOS (V : qV) : List (Nat × Nat) := List.zip V.2.1 (V.1.1.map fun x => x.1)
def qTr (G : qG) (V : qV) : Prop := qWF G V.2.2.1 ∧ ∃ pre, qW G V.2.2.1 = pre ++ qOS V
theorem qPop_suf : ∀ (pre S : List (Nat × Nat)), ((pre ++ S).Pairwise fun x y => y.1 < x.1) → qPop (S.head?.map fun x => x.1) (pre ++ S) = S := by
  intro pre
  induction pre with
  | nil =>
    intro S _
    cases S with
    | nil => rfl
    | cons x S => simp [qPop]
  | cons y pre ih =>
    intro S h
    rw [List.cons_append] at h ⊢
    obtain ⟨h1, h2⟩ := List.pairwise_cons.mp h
    unfold qPop
    rw [if_neg ?_]
    · exact ih S h2
    · intro e
      cases S with
      | nil => cases e
      | cons x S =>
        have := h1 x (by simp)
        simp at e
        omega
theorem qOS_head {V : qV} (h : V.2.1.length = V.1.1.length) : (qOS V).head?.map (fun x => x.1) = V.2.1.head? := by
  unfold qOS
  cases ho : V.2.1 with
  | nil => simp
  | cons a l =>
    cases hs : V.1.1 with
    | nil => rw [ho, hs] at h; simp at h
    | cons b st => simp
theorem qOS_len {V : qV} (h : V.2.1.length = V.1.1.length) : (qOS V).length = V.1.1.length := by
  unfold qOS
  simp; omega
theorem qAcc_els {G : qG} {Z Z' : qZ} {t : Nat} (h : qAcc G Z t = some Z') : Z'.1.map (fun x => x.1) = Z.1.map (fun x => x.1) := by
  obtain ⟨st, la⟩ := Z
  unfold qAcc at h
  cases la with
  | none =>
    dsimp only at h
    split at h
    · injection h with h; subst h; rfl
    · cases h
  | some e9 =>
    dsimp only at h
    cases st with
    | nil => cases h
    | cons x st =>
      dsimp only at h
      split at h
      · cases h
      · cases hb : qrBy G x.1 x.2 t with
        | none =>
          rw [hb] at h
          dsimp only at h
          split at h
          · injection h with h; subst h; rfl
          · cases h
        | some k =>
          rw [hb] at h
          injection h with h
          subst h
          rfl
theorem qTr_tail {G : qG} {V V' : qV} (h : qTr G V) (h1 : V'.2.2.1 = V.2.2.1) (h2 : V'.1.1 = V.1.1.tail) (h3 : V'.2.1 = V.2.1.tail) : qTr G V' := by
  obtain ⟨k1, pre, k2⟩ := h
  unfold qTr qOS
  rw [h1, h2, h3]
  refine ⟨k1, ?_⟩
  unfold qOS at k2
  cases ho : V.2.1 with
  | nil => exact ⟨qW G V.2.2.1, by simp⟩
  | cons a l =>
    cases hs : V.1.1 with
    | nil => exact ⟨qW G V.2.2.1, by simp⟩
    | cons b st =>
      rw [ho, hs] at k2
      exact ⟨pre ++ [(a, b.1)], by rw [k2]; simp⟩
theorem qTr_closed (G : qG) : qClosed G (qTr G) := by
  refine ⟨fun k p V h => h, ?_, ?_, ?_, ?_, ?_⟩
  · intro l p V ⟨B, hV⟩ ht _ ⟨h1, pre, h2⟩
    have hlen := hV.2.1
    have hd := qW_dec G V.2.2.1
    rw [h2] at hd
    have hp : qPop V.2.1.head? (qW G V.2.2.1) = qOS V := by
      rw [← qOS_head hlen, h2]; exact qPop_suf _ _ hd
    have eW : qW G ((10, V.2.1.head?, l, p, false) :: V.2.2.1) = qOS V := by
      simp only [qW]
      rw [if_neg (by omega)]
      exact hp
    refine ⟨⟨h1, ?_, ?_⟩, [], ?_⟩
    · show V.2.1.head? = (qPop V.2.1.head? (qW G V.2.2.1)).head?.map fun x => x.1
      rw [hp]
      exact (qOS_head hlen).symm
    · rw [eW, qOS_len hlen]; exact hV.1.1
    · exact eW
  · intro e p b V ⟨B, hV⟩ he hd20 ht ⟨h1, pre, h2⟩
    have hlen := hV.2.1
    have hd := qW_dec G V.2.2.1
    rw [h2] at hd
    have hp : qPop V.2.1.head? (qW G V.2.2.1) = qOS V := by
      rw [← qOS_head hlen, h2]; exact qPop_suf _ _ hd
    have eW : qW G ((e, V.2.1.head?, 60, p, b) :: V.2.2.1) = if qgN G e = 0 then qOS V else (V.2.2.1.length, e) :: qOS V := by
      simp only [qW]
      by_cases c : qgN G e = 0
      · rw [if_neg (fun h => h.2 c), if_pos c]; exact hp
      · rw [if_pos ⟨he, c⟩, if_neg c, hp]
    refine ⟨⟨h1, ?_, ?_⟩, [], ?_⟩
    · show V.2.1.head? = (qPop V.2.1.head? (qW G V.2.2.1)).head?.map fun x => x.1
      rw [hp]
      exact (qOS_head hlen).symm
    · rw [eW]
      have := qOS_len hlen
      split
      · omega
      · simp only [List.length_cons]; omega
    · rw [List.nil_append]
      show qW G ((e, V.2.1.head?, 60, p, b) :: V.2.2.1) = _
      rw [eW]
      unfold qOS qOpen qEnter
      dsimp only
      by_cases c : qgN G e = 0
      · simp only [if_pos c]
      · simp only [if_neg c]
        rfl
  · intro V Z t _ ⟨h1, pre, h2⟩ ha
    refine ⟨h1, pre, ?_⟩
    unfold qOS qTo
    dsimp only
    rw [qAcc_els ha]
    exact h2
  · intro V _ _ h
    exact qTr_tail h rfl rfl rfl
  · intro p b V _ _ h
    exact qTr_tail h rfl rfl rfl
def qLt (V : qV) : Prop := ∀ t ∈ V.2.2.1, t.1 = 10 → 32 ≤ t.2.2.1 ∧ t.2.2.1 < 127
theorem qLt_closed (G : qG) : qClosed G qLt := by
  refine ⟨fun k p V h => h, fun l p V _ _ hl h t ht => ?_, fun e p b V _ he _ _ h t ht => ?_, fun V Z t _ h _ => h, fun V _ _ h => h, fun p b V _ _ h => h⟩
  · rcases List.mem_cons.mp ht with e | ht
    · subst e; exact fun _ => hl
    · exact h t ht
  · rcases List.mem_cons.mp ht with e1 | ht
    · subst e1; intro c; dsimp only at c; omega
    · exact h t ht
theorem qWF_drop {G : qG} : ∀ {th : List qT} (k : Nat), qWF G th → qWF G (th.drop k) := by
  intro th
  induction th with
  | nil => intro k h; simpa using h
  | cons t l ih =>
    intro k h
    cases k with
    | zero => exact h
    | succ k => exact ih k h.1
/-- a text is read: all of it -/
def qFull (G : qG) (sw : Nat → Nat) (en : Nat → List qK) (ks : List qK) : qV × List (qZ × Nat) := (qShutTo G ks.length 0 false (qGo G sw en ks).1, (qGo G sw en ks).2)
theorem qFull_ok {G : qG} {sw : Nat → Nat} {en : Nat → List qK} {ks : List qK} (hE : qEok sw en) (hk : ∀ k ∈ ks, qKok k) (h6 : ks.length ≤ 600) : qVok G (72 * ks.length) (qFull G sw en ks).1 ∧ qTr G (qFull G sw en ks).1 ∧ qXok G (qFull G sw en ks).2 ∧ (qFull G sw en ks).2.length = ks.length + 1 ∧ (qFull G sw en ks).1.1.1 = [] := by
  obtain ⟨h1, h2, h3⟩ := qGo_ok (G := G) hE hk h6
  have h4 := qGo_P (qTr_closed G) hE hk h6 ⟨True.intro, [], rfl⟩
  have h5 := qShutTo_ok (p := ks.length) 0 false h1
  refine ⟨h5.1, qShutTo_P (qTr_closed G) 0 false h1 h4, h2, h3, ?_⟩
  exact List.length_eq_zero_iff.mp (Nat.le_zero.mp h5.2)
theorem qFull_lt {G : qG} {sw : Nat → Nat} {en : Nat → List qK} {ks : List qK} (hE : qEok sw en) (hk : ∀ k ∈ ks, qKok k) (h6 : ks.length ≤ 600) : qLt (qFull G sw en ks).1 := qShutTo_P (qLt_closed G) 0 false (qGo_ok (G := G) hE hk h6).1 (qGo_P (qLt_closed G) hE hk h6 (fun t ht => by cases ht))
section
variable {w : Bool} {I : Nat → Nat → Int32} {G : qG} {ks : List qK} {sw : Nat → Nat} {en : Nat → List qK}
theorem qSc_other (w : Bool) (i j : Nat) : qSc w i ≠ qSc (!w) j ∧ qSc w i + 1 ≠ qSc (!w) j ∧ qSc w i + 2 ≠ qSc (!w) j := by
  unfold qSc
  cases w <;> simp <;> omega
theorem qSc_oth (w : Bool) {j d : Nat} (hj : j < 61) (hd : d < 3) : 110 ≤ qSc w j + d ∧ qSc w j + d ≤ 475 ∧ (qSc w j + d - 110) / 3 % 2 = (if (!w) = true then 0 else 1) := by
  unfold qSc
  cases w with
  | true => simp only [↓reduceIte, Bool.not_true, Bool.false_eq_true]; omega
  | false => simp only [Bool.false_eq_true, ↓reduceIte, Bool.not_false]; omega
theorem qSc_o0 (w : Bool) (j : Nat) {d : Nat} (hd : d < 3) : qSc w j + d ≠ qSc (!w) 0 ∧ qSc w j + d ≠ qSc (!w) 0 + 1 ∧ qSc w j + d ≠ qSc (!w) 0 + 2 := by
  unfold qSc
  cases w with
  | true => simp only [↓reduceIte, Bool.not_true, Bool.false_eq_true]; omega
  | false => simp only [Bool.false_eq_true, ↓reduceIte, Bool.not_false]; omega
theorem cReadText {p0 : Nat} {X0 : List (qZ × Nat)} (hg : qGok G) (hEk : qEok sw en) (hn : ks.length ≤ 60) (hks : ∀ k ∈ ks, qKok k) (hG : qCG G I) (hEn : qCEn sw en [] I) (hk : qCK I 68 ks) (h15 : I 91 15 = qn p0) (hX0 : qCX w I X0) (hX0l : X0.length ≤ 61) : ∃ J, fX2_readText 91 (qC w I) = some (qn 0, qC (!w) J) ∧ qCV J ks.length (qFull G sw en ks).1 ∧ qCX (!w) J (qFull G sw en ks).2 ∧ qCX w J X0 ∧ qCK J 98 (qForm G (qFull G sw en ks).1.2.2.1) ∧ J 91 16 = qn ks.length ∧ ∀ a, (a ≤ 90 ∨ 476 ≤ a) → J a = I a := by
  -- fields
  obtain ⟨I1, hI1⟩ : ∃ I1, I1 = qU (qU (qU (qU I 91 16 (qn ks.length)) 92 5 (qn 0)) 91 8 (qn 0)) 91 9 (qn 0) := ⟨_, rfl⟩
  have f1 : ∀ a, a ≠ 91 → a ≠ 92 → I1 a = I a := fun a h1 h2 => by rw [hI1, qU_r h1, qU_r h1, qU_r h2, qU_r h1]
  obtain ⟨I2, e2, z2, m2, f2⟩ := cRestart (w := !w) (I := I1) qSt_107
  have hs0 := qSt_c (!w) (i := 0) (by omega)
  have hge := qSc_ge (!w) 0
  obtain ⟨I3, e3, z3, m3, f3⟩ := cCopy (w := !w) hs0 qSt_107 (by omega) (qZ0_ok (G := G)) z2
  have fA : ∀ a, (a ≤ 90 ∨ 93 ≤ a) → a ≠ 107 → a ≠ qSc (!w) 0 → a ≠ qSc (!w) 0 + 1 → a ≠ qSc (!w) 0 + 2 → I3 a = I a := fun a h1 h2 h3 h4 h5 => by rw [f3 a h3 h4 h5, f2 a h2, f1 a (by omega) (by omega)]
  have hq2 : qSc (!w) 0 ≤ 473 := by unfold qSc; split <;> omega
  have e91 : I3 91 = I1 91 := by rw [f3 91 (by omega) (by omega) (by omega), f2 91 (by omega)]
  have e92 : I3 92 = I1 92 := by rw [f3 92 (by omega) (by omega) (by omega), f2 92 (by omega)]
  have k16 : I3 91 16 = qn ks.length := by rw [e91, hI1]; simp (disch := omega) only [qU_s, qU_a, qU_k]
  have v3 : qCV I3 p0 qV0 := by
    refine ⟨qCZ_fr z2 (f3 107 (by omega) (by omega) (by omega)) (f3 108 (by omega) (by omega) (by omega)) (f3 109 (by omega) (by omega) (by omega)), True.intro, ?_, True.intro, ?_, ?_, True.intro, ?_⟩
    · rw [e92, hI1]; simp (disch := omega) only [qU_s, qU_a, qU_k]; rfl
    · rw [e91, hI1]; simp (disch := omega) only [qU_s, qU_a, qU_k]; rfl
    · rw [e91, hI1]; simp (disch := omega) only [qU_s, qU_a, qU_k]; rfl
    · rw [e91, hI1]; simp (disch := omega) only [qU_s, qU_a, qU_k]; exact h15
  have x3 : qCX (!w) I3 [(qZ0, 0)] := ⟨⟨z3, by rw [show ([] : List (qZ × Nat)).length = 0 from rfl, m3, m2]⟩, True.intro⟩
  have hG3 : qCG G I3 := qCG_fr hG fun a ha => fA a (by omega) (by omega) (by omega) (by omega) (by omega)
  have hEn3 : qCEn sw en [] I3 := ⟨fun i hi => qCK_fr (hEn.1 i hi) (by rw [fA _ (by omega) (by omega) (by omega) (by omega) (by omega)]) (by rw [fA _ (by omega) (by omega) (by omega) (by omega) (by omega)]) (by rw [fA _ (by omega) (by omega) (by omega) (by omega) (by omega)]), fun i hi => by rw [fA _ (by omega) (by omega) (by omega) (by omega) (by omega)]; exact hEn.2.1 i hi, fun j q h => by cases h⟩
  have hk3 : qCK I3 68 ks := qCK_fr hk (by rw [fA _ (by omega) (by omega) (by omega) (by omega) (by omega)]) (by rw [fA _ (by omega) (by omega) (by omega) (by omega) (by omega)]) (by rw [fA _ (by omega) (by omega) (by omega) (by omega) (by omega)])
  obtain ⟨I4, e4, v4, x4, f4⟩ := cGo (w := !w) hg hEk hn hks hG3 hEn3 hk3 v3 x3
  obtain ⟨ok4, xok4, xl4⟩ := qGo_ok (G := G) hEk hks (by omega)
  have hG4 : qCG G I4 := qCG_fr hG3 fun a ha => f4.1 a (by omega)
  obtain ⟨I5, e5, v5, f5⟩ := cCloseUp (w := !w) hg (to := 0) (by omega : 72 * ks.length ≤ 4320) (by omega) false hG4 ok4 v4
  obtain ⟨ok5, tr5, -, -, -⟩ := qFull_ok (G := G) hEk hks (by omega)
  have v5 : qCV I5 ks.length (qFull G sw en ks).1 := v5
  obtain ⟨I6, e6, k6, f6⟩ := cForm (w := !w) hg ok5.2.2.1 ok5.2.2.2.2.1 (fun k => qWF_drop k tr5.1) (qFrC_G f5 hG4) v5.2.2.2.1 v5.2.2.1
  refine ⟨I6, ?_, ?_, ?_, ?_, k6, ?_, ?_⟩
  · have hsw := qC_swap w (qU I 91 16 (qn ks.length))
    have hr13 : zR (qC w (qU I 91 16 (qn ks.length))) 91 13 = (if w = true then 104 else 105) := by rw [qSA_r2]; cases w <;> rfl
    have hr12 : zR (qC w (qU I 91 16 (qn ks.length))) 91 12 = (if w = true then 105 else 104) := by rw [qSA_r]; rfl
    unfold fX2_readText
    simp (disch := omega) only [↓qlet, eq_self, qzg_t, qzb_some, ↓reduceIte, not_or, not_false_eq_true, not_true_eq_false, and_true, true_and, and_self, or_false, false_or, true_or, or_true, and_false, false_and, qlit, qneg, qof, qn_add, qn_mul, qn_s, qn_z, qn_d, qn_dz, qm_1, qt_1, qt_0, qb_0, qb_1, qb_01, qb01b, q01_0, q01_1, qo_s, qo_n, qn_c, qn_le, qn_lt, qn_eq, qn_ne_m, qm_ne_n, qm_lt, qm_le, qn_lt_m, qn_le_m, qn_sub, qn_div, qn_mod, qle_t, qle_f, qlt_t, qlt_f, qeq_t, qeq_f, Nat.add_sub_cancel, qC_I, qC_s, qU_s, qU_a, qU_k, qk_1, qk_2, qk_3, qk_4, qk_5, qk_6, qk_7, qk_68, qk_69, qk_70, qk_71, qk_72, qk_91, qk_92, qk_93, qk_94, qk_95, qk_96, qk_97, qk_98, qk_99, qk_100, qk_101, qk_102, qk_103, qk_104, qk_105, qk_106, qk_107, qk_108, qk_109, qk_476, qk_477, qr_1_0, qr_1_1, qr_1_2, qr_1_3, qr_1_4, qr_1_5, qr_2_0, qr_2_1, qr_2_2, qr_2_3, qr_2_4, qr_68_0, qr_68_1, qr_91_0, qr_91_1, qr_91_2, qr_91_3, qr_91_4, qr_91_5, qr_91_6, qr_91_7, qr_91_10, qr_91_11, qr_91_14, qr_92_0, qr_92_1, qr_92_2, qr_92_3, qr_92_4, qr_98_0, qr_98_1, qr_107_0, qr_107_1, qr_107_2, qr_476_0, qr_476_1, qr_476_2, hk.1, hr13, hr12, hsw, ← hI1, e2]
    simp (disch := omega) only [↓qlet, eq_self, qzg_t, qzb_some, ↓reduceIte, not_or, not_false_eq_true, not_true_eq_false, and_true, true_and, and_self, or_false, false_or, true_or, or_true, and_false, false_and, qlit, qneg, qof, qn_add, qn_mul, qn_s, qn_z, qn_d, qn_dz, qm_1, qt_1, qt_0, qb_0, qb_1, qb_01, qb01b, q01_0, q01_1, qo_s, qo_n, qn_c, qn_le, qn_lt, qn_eq, qn_ne_m, qm_ne_n, qm_lt, qm_le, qn_lt_m, qn_le_m, qn_sub, qn_div, qn_mod, qle_t, qle_f, qlt_t, qlt_f, qeq_t, qeq_f, Nat.add_sub_cancel, qC_I, qC_s, qU_s, qU_a, qU_k, qk_1, qk_2, qk_3, qk_4, qk_5, qk_6, qk_7, qk_68, qk_69, qk_70, qk_71, qk_72, qk_91, qk_92, qk_93, qk_94, qk_95, qk_96, qk_97, qk_98, qk_99, qk_100, qk_101, qk_102, qk_103, qk_104, qk_105, qk_106, qk_107, qk_108, qk_109, qk_476, qk_477, qr_1_0, qr_1_1, qr_1_2, qr_1_3, qr_1_4, qr_1_5, qr_2_0, qr_2_1, qr_2_2, qr_2_3, qr_2_4, qr_68_0, qr_68_1, qr_91_0, qr_91_1, qr_91_2, qr_91_3, qr_91_4, qr_91_5, qr_91_6, qr_91_7, qr_91_10, qr_91_11, qr_91_14, qr_92_0, qr_92_1, qr_92_2, qr_92_3, qr_92_4, qr_98_0, qr_98_1, qr_107_0, qr_107_1, qr_107_2, qr_476_0, qr_476_1, qr_476_2, qSA_r, qSA_k, qSA_l, qSA_c, qSt_k _ _ hs0, e3, e4]
    rw [qb_f] at e5
    simp (disch := omega) only [↓qlet, eq_self, qzg_t, qzb_some, ↓reduceIte, not_or, not_false_eq_true, not_true_eq_false, and_true, true_and, and_self, or_false, false_or, true_or, or_true, and_false, false_and, qlit, qneg, qof, qn_add, qn_mul, qn_s, qn_z, qn_d, qn_dz, qm_1, qt_1, qt_0, qb_0, qb_1, qb_01, qb01b, q01_0, q01_1, qo_s, qo_n, qn_c, qn_le, qn_lt, qn_eq, qn_ne_m, qm_ne_n, qm_lt, qm_le, qn_lt_m, qn_le_m, qn_sub, qn_div, qn_mod, qle_t, qle_f, qlt_t, qlt_f, qeq_t, qeq_f, Nat.add_sub_cancel, qC_I, qC_s, qU_s, qU_a, qU_k, qk_1, qk_2, qk_3, qk_4, qk_5, qk_6, qk_7, qk_68, qk_69, qk_70, qk_71, qk_72, qk_91, qk_92, qk_93, qk_94, qk_95, qk_96, qk_97, qk_98, qk_99, qk_100, qk_101, qk_102, qk_103, qk_104, qk_105, qk_106, qk_107, qk_108, qk_109, qk_476, qk_477, qr_1_0, qr_1_1, qr_1_2, qr_1_3, qr_1_4, qr_1_5, qr_2_0, qr_2_1, qr_2_2, qr_2_3, qr_2_4, qr_68_0, qr_68_1, qr_91_0, qr_91_1, qr_91_2, qr_91_3, qr_91_4, qr_91_5, qr_91_6, qr_91_7, qr_91_10, qr_91_11, qr_91_14, qr_92_0, qr_92_1, qr_92_2, qr_92_3, qr_92_4, qr_98_0, qr_98_1, qr_107_0, qr_107_1, qr_107_2, qr_476_0, qr_476_1, qr_476_2, e5, e6]
  · obtain ⟨h1, h2, h3, h4, h5, h6, h7, h8⟩ := v5
    have he0 : (qFull G sw en ks).1.2.1 = [] := by
      have := ok5.2.1
      rw [(qFull_ok (G := G) hEk hks (by omega)).2.2.2.2] at this
      exact List.length_eq_zero_iff.mp this
    refine ⟨qCZ_fr h1 (f6 _ (by omega) (by omega) (by omega) (by omega)) (f6 _ (by omega) (by omega) (by omega) (by omega)) (f6 _ (by omega) (by omega) (by omega) (by omega)), ?_, ?_, ?_, ?_, ?_, ?_, ?_⟩
    · rw [he0]; exact True.intro
    · rw [f6 _ (by omega) (by omega) (by omega) (by omega)]; exact h3
    · rw [f6 93 (by omega) (by omega) (by omega) (by omega), f6 94 (by omega) (by omega) (by omega) (by omega), f6 95 (by omega) (by omega) (by omega) (by omega), f6 96 (by omega) (by omega) (by omega) (by omega), f6 97 (by omega) (by omega) (by omega) (by omega)]; exact h4
    · rw [f6 _ (by omega) (by omega) (by omega) (by omega)]; exact h5
    · rw [f6 _ (by omega) (by omega) (by omega) (by omega)]; exact h6
    · rw [f6 101 (by omega) (by omega) (by omega) (by omega), f6 102 (by omega) (by omega) (by omega) (by omega)]; exact h7
    · rw [f6 _ (by omega) (by omega) (by omega) (by omega)]; exact h8
  · have hx5 : qCX (!w) I5 (qGo G sw en ks).2 := qCX_fr x4 fun j hj d hd => by have := qSc_ge (!w) j; rw [f5.1 _ (by omega)]
    exact qCX_fr hx5 fun j hj d hd => by have := qSc_ge (!w) j; rw [f6 _ (by omega) (by omega) (by omega) (by omega)]
  · refine qCX_fr hX0 fun j hj d hd => ?_
    have h9 := qSc_ge w j
    obtain ⟨a1, a2, a3⟩ := qSc_oth w (j := j) (d := d) (by omega) hd
    have h8 := qSc_o0 w j hd
    rw [f6 _ (by omega) (by omega) (by omega) (by omega), f5.1 _ (by omega), f4.1 _ (by omega), fA _ (by omega) (by omega) h8.1 h8.2.1 h8.2.2]
  · rw [f6 91 (by omega) (by omega) (by omega) (by omega), f5.2.1, f4.2.1, k16]
  · intro a ha
    rw [f6 a (by omega) (by omega) (by omega) (by omega), f5.1 a (by omega), f4.1 a (by omega), fA a (by omega) (by omega) (by omega) (by omega) (by omega)]
end
