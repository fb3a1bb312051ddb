/-! THE CLASS: its other calls that change the grammar, entities, switches, the text -/
section
variable {w : Bool} {I : Nat → Nat → Int32} {A : qA}
theorem cEmpty (hA : qCA w I A) (x : Int32) : ∃ w2 J, fX7_empty 1 x (qC w I) = some ((qoEmpty A x).1, (qoEmpty A x).2.1, qC w2 J) ∧ qCA w2 J (qoEmpty A x).2.2 := by
  have hA0 := hA
  obtain ⟨⟨hg, hE, hn, hk⟩, ⟨hG, hEn, hK⟩, hV, hX, hF, h16⟩ := hA
  unfold fX7_empty qoEmpty
  cases hx : qin x 10 with
  | none =>
    refine ⟨w, I, ?_, hA0⟩
    rw [show (10 : Int32) = qn 10 from rfl, cCheck_n hx, qzbx_1]
    rfl
  | some e =>
    obtain ⟨he, rfl⟩ := qin_s (by omega) hx
    have h6 := (hg e he).1
    have g1 := (hG e he).1
    obtain ⟨I', hI'⟩ : ∃ I', I' = qU (qU I (8 + 6 * e) 3 (qn 0)) (8 + 6 * e) 6 (qn 0) := ⟨_, rfl⟩
    have hf : ∀ a, a ≠ 8 + 6 * e → I' a = I a := fun a h => by rw [hI', qU_r h, qU_r h]
    have en : qgN (qgNil A.1 e) e = 0 := if_pos rfl
    have hG2 : qCG (qgNil A.1 e) I' := qCG_one he hG ⟨⟨by rw [hI', en]; simp (disch := omega) only [qU_s, qU_a, qU_k], fun k h => by rw [en] at h; omega⟩, fun r h => by rw [en] at h; omega⟩ (fun a ha => hf a (by omega)) rfl (fun y hy => ⟨if_neg hy, fun k => ⟨rfl, rfl⟩⟩)
    obtain ⟨K, e2, k1, k2, k3⟩ := cChange (A' := (qgNil A.1 e, A.2)) hA0 ⟨qgNil_ok hg e, hE, hn, hk⟩ (I' := I') ⟨hG2, qCEn_fr2 hEn fun a h1 h2 => hf a (by omega), qCK_fr hK (by rw [hf _ (by omega)]) (by rw [hf _ (by omega)]) (by rw [hf _ (by omega)])⟩ (fun a ha => hf a (by omega))
    refine ⟨!w, K, ?_, k1⟩
    rw [show (10 : Int32) = qn 10 from rfl, cCheck_s (by omega) he, qzbx_0]
    unfold fX1_dropSlots
    simp (disch := omega) only [↓qlet, eq_self, qzg_t, qzb_some, ↓reduceIte, not_or, not_false_eq_true, not_true_eq_false, and_true, true_and, and_self, or_false, false_or, true_or, or_true, and_false, false_and, qlit, qneg, qof, qn_add, qn_mul, qn_s, qn_z, qn_d, qn_dz, qm_1, qt_1, qt_0, qb_0, qb_1, qb_01, qb01b, q01_0, q01_1, qo_s, qo_n, qn_c, qn_le, qn_lt, qn_eq, qn_ne_m, qm_ne_n, qm_lt, qm_le, qn_lt_m, qn_le_m, qn_sub, qn_div, qn_mod, qle_t, qle_f, qlt_t, qlt_f, qeq_t, qeq_f, Nat.add_sub_cancel, qC_I, qC_s, qU_s, qU_a, qU_k, qk_1, qk_2, qk_3, qk_4, qk_5, qk_6, qk_7, qk_68, qk_69, qk_70, qk_71, qk_72, qk_91, qk_92, qk_93, qk_94, qk_95, qk_96, qk_97, qk_98, qk_99, qk_100, qk_101, qk_102, qk_103, qk_104, qk_105, qk_106, qk_107, qk_108, qk_109, qk_476, qk_477, qr_1_0, qr_1_1, qr_1_2, qr_1_3, qr_1_4, qr_1_5, qr_2_0, qr_2_1, qr_2_2, qr_2_3, qr_2_4, qr_68_0, qr_68_1, qr_91_0, qr_91_1, qr_91_2, qr_91_3, qr_91_4, qr_91_5, qr_91_6, qr_91_7, qr_91_10, qr_91_11, qr_91_14, qr_92_0, qr_92_1, qr_92_2, qr_92_3, qr_92_4, qr_98_0, qr_98_1, qr_107_0, qr_107_1, qr_107_2, qr_476_0, qr_476_1, qr_476_2, qk_2, qk_3, qk_4, qk_5, qk_6, qk_7, ql_3, ql_4, ql_5, ql_6, ql_7, qr_2_0, qr_2_1, qr_2_2, qr_2_3, qr_2_4, qmo_r, qmo_k, qmo0_k, qmo0_l, qmo1_k, qmo1_l, qmo2_k, qmo2_l, qmo4_k, qmo4_l, qmo5_k, qmo5_l, qmo_r0, qmo_r1, qmo_r2, qmo_r4, qmo_r5, g1, ← hI', e2]
theorem qgExc_ok {G : qG} (hg : qGok G) {e i x : Nat} (hi : i < 1024) (hx : x < 1024) : qGok (qgExc G e (qn i) (qn x)) := by
  intro y hy
  obtain ⟨g1, g2, g3, g4⟩ := hg y hy
  refine ⟨g1, g2, ?_, ?_⟩
  · show ∃ n, n < 1024 ∧ (if y = e then qn i else qgI G y) = qn n
    split
    · exact ⟨i, hi, rfl⟩
    · exact g3
  · show ∃ n, n < 1024 ∧ (if y = e then qn x else qgX G y) = qn n
    split
    · exact ⟨x, hx, rfl⟩
    · exact g4
/-- slots are as they were -/
theorem qCG_flags {G G' : qG} {J : Nat → Nat → Int32} (h : qCG G I) (hf : ∀ a, 8 ≤ a → a ≤ 67 → J a = I a) (h1 : G'.1 = G.1) (h2 : G'.2.1 = G.2.1) (h3 : G'.2.2.1 = G.2.2.1) (h4 : ∀ y, y < 10 → J 4 y = qgI G' y ∧ J 5 y = qgX G' y ∧ J 6 y = qb (qgA G' y) ∧ J 7 y = qb (qgB G' y)) : qCG G' J := by
  obtain ⟨a1, a2, a3, a4⟩ := G
  obtain ⟨b1, b2, b3, b4⟩ := G'
  dsimp only at h1 h2 h3
  subst h1; subst h2; subst h3
  have hon : ∀ y n k s, qgOn (b1, b2, b3, b4) y n k s = qgOn (b1, b2, b3, a4) y n k s := by
    intro y n
    induction n with
    | zero => intro k s; rfl
    | succ n ih => intro k s; unfold qgOn; rw [ih]; rfl
  have hen : ∀ y n k s, qgEnd (b1, b2, b3, b4) y n k s = qgEnd (b1, b2, b3, a4) y n k s := by
    intro y n
    induction n with
    | zero => intro k s; rfl
    | succ n ih => intro k s; unfold qgEnd; rw [ih]; rfl
  intro y hy
  obtain ⟨g1, g2, g3, -⟩ := h y hy
  obtain ⟨f1, f2, f3, f4⟩ := h4 y hy
  refine ⟨by rw [hf _ (by omega) (by omega)]; exact g1, fun k hk => ?_, fun r hr => ?_, f1, f2, f3, f4⟩
  · rw [hf _ (by omega) (by omega), hf (10 + 6 * y) (by omega) (by omega), hf (11 + 6 * y) (by omega) (by omega)]
    exact g2 k hk
  · rw [hf _ (by omega) (by omega), hf (13 + 6 * y) (by omega) (by omega)]
    have h9 := g3 r hr
    unfold qrOn qrEnd at h9 ⊢
    rw [hon, hen]
    exact h9
theorem cExcept (hA : qCA w I A) (x i z : Int32) : ∃ w2 J, fX7_except 1 x i z (qC w I) = some ((qoExcept A x i z).1, (qoExcept A x i z).2.1, qC w2 J) ∧ qCA w2 J (qoExcept A x i z).2.2 := by
  have hA0 := hA
  obtain ⟨⟨hg, hE, hn, hk⟩, ⟨hG, hEn, hK⟩, hV, hX, hF, h16⟩ := hA
  unfold fX7_except qoExcept
  cases hx : qin x 10 with
  | none =>
    refine ⟨w, I, ?_, hA0⟩
    rw [show (10 : Int32) = qn 10 from rfl, cCheck_n hx, qzbx_1]
    rfl
  | some e =>
    obtain ⟨he, rfl⟩ := qin_s (by omega) hx
    rw [show (10 : Int32) = qn 10 from rfl, cCheck_s (by omega) he, qzbx_0]
    dsimp only
    cases hi : qin i 1024 with
    | none =>
      refine ⟨w, I, ?_, hA0⟩
      unfold fX7_except_28
      rcases qin_n hi with c | c
      · rw [if_pos c]; rfl
      · by_cases c1 : i < 0
        · rw [if_pos c1]; rfl
        · rw [if_neg c1, if_pos (show (1024 : Int32) ≤ i from Int32.not_lt.mp c)]; rfl
    | some i1 =>
      obtain ⟨hi1, rfl⟩ := qin_s (by omega) hi
      rw [if_neg (show ¬ qn i1 < 0 by show ¬ qn i1 < qn 0; rw [qn_lt (by omega) (by omega)]; omega), if_neg (show ¬ (1024 : Int32) ≤ qn i1 by show ¬ qn 1024 ≤ qn i1; rw [qn_le (by omega) (by omega)]; omega)]
      cases hz : qin z 1024 with
      | none =>
        refine ⟨w, I, ?_, hA0⟩
        unfold fX7_except_28
        rcases qin_n hz with c | c
        · rw [if_pos c]; rfl
        · by_cases c1 : z < 0
          · rw [if_pos c1]; rfl
          · rw [if_neg c1, if_neg (show ¬ z < (1024 : Int32) from c)]; rfl
      | some z1 =>
        obtain ⟨hz1, rfl⟩ := qin_s (by omega) hz
        obtain ⟨I', hI'⟩ : ∃ I', I' = qU (qU I 4 e (qn i1)) 5 e (qn z1) := ⟨_, rfl⟩
        have hf : ∀ a, a ≠ 4 → a ≠ 5 → I' a = I a := fun a h h2 => by rw [hI', qU_r h2, qU_r h]
        have hG2 : qCG (qgExc A.1 e (qn i1) (qn z1)) I' := qCG_flags hG (fun a h1 h2 => hf a (by omega) (by omega)) rfl rfl rfl fun y hy => by
          obtain ⟨g1, g2, g3, g4, g5, g6, g7⟩ := hG y hy
          refine ⟨?_, ?_, by rw [hf 6 (by omega) (by omega)]; exact g6, by rw [hf 7 (by omega) (by omega)]; exact g7⟩
          · show I' 4 y = if y = e then qn i1 else qgI A.1 y
            rw [hI', qU_r (by omega)]
            split
            · next c => subst c; rw [qU_s]
            · next c => rw [qU_k c]; exact g4
          · show I' 5 y = if y = e then qn z1 else qgX A.1 y
            rw [hI']
            split
            · next c => subst c; rw [qU_s]
            · next c => rw [qU_k c, qU_r (by omega)]; exact g5
        obtain ⟨K, e2, k1, k2, k3⟩ := cChange (A' := (qgExc A.1 e (qn i1) (qn z1), A.2)) hA0 ⟨qgExc_ok hg hi1 hz1, hE, hn, hk⟩ (I' := I') ⟨hG2, qCEn_fr2 hEn fun a h1 h2 => hf a (by omega) (by omega), qCK_fr hK (by rw [hf _ (by omega) (by omega)]) (by rw [hf _ (by omega) (by omega)]) (by rw [hf _ (by omega) (by omega)])⟩ (fun a ha => hf a (by omega) (by omega))
        refine ⟨!w, K, ?_, k1⟩
        simp (disch := omega) only [↓qlet, eq_self, qzg_t, qzb_some, ↓reduceIte, not_or, not_false_eq_true, not_true_eq_false, and_true, true_and, and_self, or_false, false_or, true_or, or_true, and_false, false_and, qlit, qneg, qof, qn_add, qn_mul, qn_s, qn_z, qn_d, qn_dz, qm_1, qt_1, qt_0, qb_0, qb_1, qb_01, qb01b, q01_0, q01_1, qo_s, qo_n, qn_c, qn_le, qn_lt, qn_eq, qn_ne_m, qm_ne_n, qm_lt, qm_le, qn_lt_m, qn_le_m, qn_sub, qn_div, qn_mod, qle_t, qle_f, qlt_t, qlt_f, qeq_t, qeq_f, Nat.add_sub_cancel, qC_I, qC_s, qU_s, qU_a, qU_k, qk_1, qk_2, qk_3, qk_4, qk_5, qk_6, qk_7, qk_68, qk_69, qk_70, qk_71, qk_72, qk_91, qk_92, qk_93, qk_94, qk_95, qk_96, qk_97, qk_98, qk_99, qk_100, qk_101, qk_102, qk_103, qk_104, qk_105, qk_106, qk_107, qk_108, qk_109, qk_476, qk_477, ql_3, ql_4, ql_5, ql_6, ql_7, ql_69, ql_70, ql_71, ql_72, ql_93, ql_94, ql_95, ql_96, ql_97, ql_99, ql_100, ql_101, ql_102, ql_103, ql_104, ql_105, ql_106, ql_108, ql_109, ql_477, qr_1_0, qr_1_1, qr_1_2, qr_1_3, qr_1_4, qr_1_5, qr_2_0, qr_2_1, qr_2_2, qr_2_3, qr_2_4, qr_68_0, qr_68_1, qr_91_0, qr_91_1, qr_91_2, qr_91_3, qr_91_4, qr_91_5, qr_91_6, qr_91_7, qr_91_10, qr_91_11, qr_91_14, qr_92_0, qr_92_1, qr_92_2, qr_92_3, qr_92_4, qr_98_0, qr_98_1, qr_107_0, qr_107_1, qr_107_2, qr_476_0, qr_476_1, qr_476_2, ← hI', e2]
theorem cOmit (hA : qCA w I A) (x : Int32) (a b : Bool) : ∃ w2 J, fX7_omit 1 x (qb a) (qb b) (qC w I) = some ((qoOmit A x a b).1, (qoOmit A x a b).2.1, qC w2 J) ∧ qCA w2 J (qoOmit A x a b).2.2 := by
  have hA0 := hA
  obtain ⟨⟨hg, hE, hn, hk⟩, ⟨hG, hEn, hK⟩, hV, hX, hF, h16⟩ := hA
  unfold fX7_omit qoOmit
  cases hx : qin x 10 with
  | none =>
    refine ⟨w, I, ?_, hA0⟩
    rw [show (10 : Int32) = qn 10 from rfl, cCheck_n hx, qzbx_1]
    rfl
  | some e =>
    obtain ⟨he, rfl⟩ := qin_s (by omega) hx
    rw [show (10 : Int32) = qn 10 from rfl, cCheck_s (by omega) he, qzbx_0]
    obtain ⟨I', hI'⟩ : ∃ I', I' = qU (qU I 6 e (qb a)) 7 e (qb b) := ⟨_, rfl⟩
    have hf : ∀ a, a ≠ 6 → a ≠ 7 → I' a = I a := fun a h h2 => by rw [hI', qU_r h2, qU_r h]
    have hG2 : qCG (qgOmit A.1 e a b) I' := qCG_flags hG (fun a h1 h2 => hf a (by omega) (by omega)) rfl rfl rfl fun y hy => by
      obtain ⟨g1, g2, g3, g4, g5, g6, g7⟩ := hG y hy
      refine ⟨by rw [hf 4 (by omega) (by omega)]; exact g4, by rw [hf 5 (by omega) (by omega)]; exact g5, ?_, ?_⟩
      · show I' 6 y = qb (if y = e then a else qgA A.1 y)
        rw [hI', qU_r (by omega)]
        split
        · next c => subst c; rw [qU_s]
        · next c => rw [qU_k c]; exact g6
      · show I' 7 y = qb (if y = e then b else qgB A.1 y)
        rw [hI']
        split
        · next c => subst c; rw [qU_s]
        · next c => rw [qU_k c, qU_r (by omega)]; exact g7
    obtain ⟨K, e2, k1, k2, k3⟩ := cChange (A' := (qgOmit A.1 e a b, A.2)) hA0 ⟨fun y hy => hg y hy, hE, hn, hk⟩ (I' := I') ⟨hG2, qCEn_fr2 hEn fun a h1 h2 => hf a (by omega) (by omega), qCK_fr hK (by rw [hf _ (by omega) (by omega)]) (by rw [hf _ (by omega) (by omega)]) (by rw [hf _ (by omega) (by omega)])⟩ (fun a ha => hf a (by omega) (by omega))
    refine ⟨!w, K, ?_, k1⟩
    simp (disch := omega) only [↓qlet, eq_self, qzg_t, qzb_some, ↓reduceIte, not_or, not_false_eq_true, not_true_eq_false, and_true, true_and, and_self, or_false, false_or, true_or, or_true, and_false, false_and, qlit, qneg, qof, qn_add, qn_mul, qn_s, qn_z, qn_d, qn_dz, qm_1, qt_1, qt_0, qb_0, qb_1, qb_01, qb01b, q01_0, q01_1, qo_s, qo_n, qn_c, qn_le, qn_lt, qn_eq, qn_ne_m, qm_ne_n, qm_lt, qm_le, qn_lt_m, qn_le_m, qn_sub, qn_div, qn_mod, qle_t, qle_f, qlt_t, qlt_f, qeq_t, qeq_f, Nat.add_sub_cancel, qC_I, qC_s, qU_s, qU_a, qU_k, qk_1, qk_2, qk_3, qk_4, qk_5, qk_6, qk_7, qk_68, qk_69, qk_70, qk_71, qk_72, qk_91, qk_92, qk_93, qk_94, qk_95, qk_96, qk_97, qk_98, qk_99, qk_100, qk_101, qk_102, qk_103, qk_104, qk_105, qk_106, qk_107, qk_108, qk_109, qk_476, qk_477, ql_3, ql_4, ql_5, ql_6, ql_7, ql_69, ql_70, ql_71, ql_72, ql_93, ql_94, ql_95, ql_96, ql_97, ql_99, ql_100, ql_101, ql_102, ql_103, ql_104, ql_105, ql_106, ql_108, ql_109, ql_477, qr_1_0, qr_1_1, qr_1_2, qr_1_3, qr_1_4, qr_1_5, qr_2_0, qr_2_1, qr_2_2, qr_2_3, qr_2_4, qr_68_0, qr_68_1, qr_91_0, qr_91_1, qr_91_2, qr_91_3, qr_91_4, qr_91_5, qr_91_6, qr_91_7, qr_91_10, qr_91_11, qr_91_14, qr_92_0, qr_92_1, qr_92_2, qr_92_3, qr_92_4, qr_98_0, qr_98_1, qr_107_0, qr_107_1, qr_107_2, qr_476_0, qr_476_1, qr_476_2, ← hI', e2]
theorem cFlip (hA : qCA w I A) (x t : Int32) : ∃ w2 J, fX7_flip 1 x t (qC w I) = some ((qoFlip A x t).1, (qoFlip A x t).2.1, qC w2 J) ∧ qCA w2 J (qoFlip A x t).2.2 := by
  have hA0 := hA
  obtain ⟨⟨hg, hE, hn, hk⟩, ⟨hG, hEn, hK⟩, hV, hX, hF, h16⟩ := hA
  unfold fX7_flip qoFlip
  cases hx : qin x 4 with
  | none =>
    refine ⟨w, I, ?_, hA0⟩
    rw [show (4 : Int32) = qn 4 from rfl, cCheck_n hx, qzbx_1]
    rfl
  | some e =>
    obtain ⟨he, rfl⟩ := qin_s (by omega) hx
    rw [show (4 : Int32) = qn 4 from rfl, cCheck_s (by omega) he, qzbx_0]
    have hs := hEn.2.1 e he
    have hs2 := hE.2 e he
    dsimp only
    cases ht : qin t 3 with
    | none =>
      refine ⟨w, I, ?_, hA0⟩
      unfold fX7_flip_14
      rcases qin_n ht with c | c
      · rw [if_pos c]; rfl
      · by_cases c1 : t < 0
        · rw [if_pos c1]; rfl
        · have c5 : qn t.toNatClampNeg = t := Int32.ofNat_toNatClampNeg t (Int32.not_lt.mp c1)
          have c6 := Int32.toNatClampNeg_lt t
          rw [← c5, qn_lt (by omega) (by omega)] at c
          rw [if_neg c1, if_neg (show ¬ t ≤ (2 : Int32) by rw [← c5]; show ¬ qn _ ≤ qn 2; rw [qn_le (by omega) (by omega)]; omega)]
          rfl
    | some t1 =>
      obtain ⟨ht1, rfl⟩ := qin_s (by omega) ht
      obtain ⟨I', hI'⟩ : ∃ I', I' = qU I 72 e (qn t1) := ⟨_, rfl⟩
      have hf : ∀ a, a ≠ 72 → I' a = I a := fun a h => by rw [hI', qU_r h]
      obtain ⟨K, e2, k1, k2, k3⟩ := cChange (A' := (A.1, (fun y => if y = e then t1 else A.2.1 y), A.2.2)) hA0 ⟨hg, ⟨hE.1, fun j hj => by dsimp only; split; omega; exact hE.2 j hj⟩, hn, hk⟩ (I' := I') ⟨qCG_fr hG fun a ha => hf a (by omega), ⟨fun i hi => qCK_fr (hEn.1 i hi) (by rw [hf _ (by omega)]) (by rw [hf _ (by omega)]) (by rw [hf _ (by omega)]), fun i hi => by
        dsimp only
        rw [hI']
        split
        · next c => subst c; rw [qU_s]
        · next c => rw [qU_k c]; exact hEn.2.1 i hi, fun j q h => by cases h⟩, qCK_fr hK (by rw [hf _ (by omega)]) (by rw [hf _ (by omega)]) (by rw [hf _ (by omega)])⟩ (fun a ha => hf a (by omega))
      refine ⟨!w, K, ?_, k1⟩
      simp (disch := omega) only [↓qlet, eq_self, qzg_t, qzb_some, ↓reduceIte, not_or, not_false_eq_true, not_true_eq_false, and_true, true_and, and_self, or_false, false_or, true_or, or_true, and_false, false_and, qlit, qneg, qof, qn_add, qn_mul, qn_s, qn_z, qn_d, qn_dz, qm_1, qt_1, qt_0, qb_0, qb_1, qb_01, qb01b, q01_0, q01_1, qo_s, qo_n, qn_c, qn_le, qn_lt, qn_eq, qn_ne_m, qm_ne_n, qm_lt, qm_le, qn_lt_m, qn_le_m, qn_sub, qn_div, qn_mod, qle_t, qle_f, qlt_t, qlt_f, qeq_t, qeq_f, Nat.add_sub_cancel, qC_I, qC_s, qU_s, qU_a, qU_k, qk_1, qk_2, qk_3, qk_4, qk_5, qk_6, qk_7, qk_68, qk_69, qk_70, qk_71, qk_72, qk_91, qk_92, qk_93, qk_94, qk_95, qk_96, qk_97, qk_98, qk_99, qk_100, qk_101, qk_102, qk_103, qk_104, qk_105, qk_106, qk_107, qk_108, qk_109, qk_476, qk_477, ql_3, ql_4, ql_5, ql_6, ql_7, ql_69, ql_70, ql_71, ql_72, ql_93, ql_94, ql_95, ql_96, ql_97, ql_99, ql_100, ql_101, ql_102, ql_103, ql_104, ql_105, ql_106, ql_108, ql_109, ql_477, qr_1_0, qr_1_1, qr_1_2, qr_1_3, qr_1_4, qr_1_5, qr_2_0, qr_2_1, qr_2_2, qr_2_3, qr_2_4, qr_68_0, qr_68_1, qr_91_0, qr_91_1, qr_91_2, qr_91_3, qr_91_4, qr_91_5, qr_91_6, qr_91_7, qr_91_10, qr_91_11, qr_91_14, qr_92_0, qr_92_1, qr_92_2, qr_92_3, qr_92_4, qr_98_0, qr_98_1, qr_107_0, qr_107_1, qr_107_2, qr_476_0, qr_476_1, qr_476_2, hs, ← hI', e2]
end
