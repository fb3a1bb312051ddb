/-! THE LAW: one token, all of it -/
section
variable {w : Bool} {I : Nat → Nat → Int32} {W : Nat → Nat → Nat} {G : qG} {V : qV} {f : Bool} {p : Nat} {sw : Nat → Nat} {en : Nat → List qK} {txt ks : List qK} {lev : Nat}
theorem lOne_266z (i s v : Int32) (M : zM) : fL_one_266 505 506 507 508 509 510 511 513 514 515 516 517 i s v (qn 0) M = fL_one_352 505 506 507 508 509 510 511 513 514 515 516 517 i s v (qn 0) M := by
  unfold fL_one_266 fL_one_283
  rw [if_neg (by decide), if_neg (by decide), if_pos rfl]
theorem lOne_2661 {t : Nat} (ht : t = 1 ∨ t = 3) (i s v : Int32) (M : zM) : fL_one_266 505 506 507 508 509 510 511 513 514 515 516 517 i s v (qn t) M = some (qn 0, M) := by
  unfold fL_one_266 fL_one_283
  rcases ht with rfl | rfl
  · rw [if_neg (by decide), if_neg (by decide), if_pos rfl]
    exact lOne_352n (by decide) (by decide) i s v M
  · rw [if_neg (by decide), if_neg (by decide), if_pos rfl]
    exact lOne_352n (by decide) (by decide) i s v M
theorem lOne_2662 (i v : Int32) (M : zM) : fL_one_266 505 506 507 508 509 510 511 513 514 515 516 517 i (qn 8) v (qn 2) M = some (qn 0, M) := by
  unfold fL_one_266 fL_one_278 fL_one_283
  rw [if_pos (by decide), if_neg (by decide), if_pos (by decide), if_neg (by decide)]
  exact lOne_352n (by decide) (by decide) i _ v M
theorem lOne_2663 {t s : Nat} (hs : s ≤ 8) (h : t = 4 ∨ t = 2 ∧ ¬ s = 8) (i v : Int32) (M : zM) : fL_one_266 505 506 507 508 509 510 511 513 514 515 516 517 i (qn s) v (qn t) M = fL_one_303 505 506 507 510 511 513 514 515 516 517 (qn s) v M := by
  unfold fL_one_266 fL_one_278 fL_one_283
  rcases h with rfl | ⟨rfl, h⟩
  · rw [if_neg (by decide), if_pos (by decide), if_neg (by decide)]
    by_cases c : s = 8
    · subst c
      rw [if_pos (by decide), if_pos (by decide)]
    · rw [if_neg (by rw [show (8 : Int32) = qn 8 from rfl, qn_eq (by omega) (by omega)]; exact c)]
  · rw [if_pos (by decide), if_neg (by decide), if_neg (by rw [show (8 : Int32) = qn 8 from rfl, qn_eq (by omega) (by omega)]; exact h)]
theorem lOne (hg : qGok G) (hG : qLG G I) (hV : qLV I p V f) (hok : qLok G V) (hX : qLX I sw en txt) (hr : qLRow I en txt lev ks) (h7 : I 510 7 = qn lev) {i s n inc cov cover : Nat} (hi : ks[i]? = some (s, qn n)) (hn : n < 128) (h8 : I 510 (8 + lev) = qn i) (hM : qLMk I lev inc cov cover) (hc : inc + cov ≤ i) (ent : Nat → Nat → qV → qV) (hent : s = 6 → cov = 0 → (lev = 2 ∨ lev = 1 ∧ I 510 12 = qn n) ∧ ∀ U, ent n (if lev = 0 then i else p) U = qErr 4 (if lev = 0 then i else p) U) :
    ∃ J V' f', fL_one 505 506 507 508 509 510 511 512 513 514 515 516 517 (qL w I W) = some (qn 0, qL w J W) ∧ qLV J (if lev = 0 then i else p) V' f' ∧ qLok G V' ∧ qFrO lev I J ∧ J 510 7 = qn lev ∧ J 510 (8 + lev) = qn (i + 1) ∧ qLMk J lev (qStep G sw ent ks i (if lev = 0 then i else p) (inc, cov, cover, V)).1 (qStep G sw ent ks i (if lev = 0 then i else p) (inc, cov, cover, V)).2.1 (qStep G sw ent ks i (if lev = 0 then i else p) (inc, cov, cover, V)).2.2.1 ∧ (qStep G sw ent ks i (if lev = 0 then i else p) (inc, cov, cover, V)).1 + (qStep G sw ent ks i (if lev = 0 then i else p) (inc, cov, cover, V)).2.1 ≤ i + 1 ∧ (f' = false → f = false ∧ V' = (qStep G sw ent ks i (if lev = 0 then i else p) (inc, cov, cover, V)).2.2.2) := by
  obtain ⟨l1, l2, l3⟩ := qLRow_l hX hr
  have hi18 : i < 18 := by have := (List.getElem?_eq_some_iff.mp hi).1; omega
  obtain ⟨k1, n', k2, k3, k4, k5, k6⟩ := l3 _ (List.mem_of_getElem? hi)
  have k3 : qn n = qn n' := k3
  rw [qn_eq (by omega) (by omega)] at k3
  subst k3
  have k1 : s ≤ 8 := k1
  have k6 : s = 6 ∨ s = 7 → n < 2 := k6
  have hnn : (qn n).toNatClampNeg = n := qn_c (by omega)
  rw [lOne_A hV hX hr h7 hi hn h8 hM hc]
  generalize hp' : (if lev = 0 then i else p) = p' at hent ⊢
  obtain ⟨I1, hI1⟩ : ∃ I1, I1 = qU (qU I 510 18 (qn p')) 510 (8 + lev) (qn (i + 1)) := ⟨_, rfl⟩
  rw [← hI1]
  have hV1 : qLV I1 p' V f := by rw [hI1]; exact qLV_lev (qLV_pl hV p') (by omega) (by omega) _
  have hF1 : qFrO lev I I1 := by
    rw [hI1]
    refine ⟨fun a ha => by rw [qU_r (by omega), qU_r (by omega)], fun j hj => ⟨?_, ?_⟩, fun j h1 h2 => ?_, fun q hq => ?_⟩ <;> simp (disch := omega) only [qU_s, qU_a, qU_k]
  have h71 : I1 510 7 = qn lev := by rw [hI1]; simp (disch := omega) only [qU_s, qU_a, qU_k]; exact h7
  have h81 : I1 510 (8 + lev) = qn (i + 1) := by rw [hI1]; simp (disch := omega) only [qU_s, qU_a, qU_k]
  have hM1 : qLMk I1 lev inc cov cover := qLMk_fr hM (by rw [hI1]; simp (disch := omega) only [qU_s, qU_a, qU_k]) (fun q hq => by rw [hI1]; simp (disch := omega) only [qU_s, qU_a, qU_k])
  have h121 : lev = 1 → I1 510 12 = I 510 12 := fun h => by rw [hI1]; simp (disch := omega) only [qU_s, qU_a, qU_k]
  have hG1 := qFrO_G hF1 hG
  have hX1 := qFrO_X hF1 hX
  have hr1 := qFrO_R hF1 hr
  clear hI1
  have hst : qStep G sw ent ks i p' (inc, cov, cover, V) = if 0 < cov then
      (inc, (if s = 7 then cov + 1 else if s = 8 then cov - 1 else cov), cover, (if 0 < (if s = 7 then cov + 1 else if s = 8 then cov - 1 else cov) ∧ cover = 2 then qRd G 10 (qPlain s (qn n)) p' V else V))
    else if s = 7 then (if sw n = 0 then (inc + 1, 0, 0, V) else (inc, 1, sw n, V))
    else if s = 8 ∧ 0 < inc then (inc - 1, 0, cover, V)
    else (inc, 0, cover, qTok G ent ks i p' s (qn n) V) := by
    unfold qStep
    rw [hi]
    dsimp only
    rw [hnn]
  rw [hst]
  obtain ⟨m1, m2, m3, m4⟩ := hM1
  -- what is done behind the marks keeps these
  have fin : ∀ (I2 J : Nat → Nat → Int32) (a b c : Nat), qFrO lev I1 I2 → I2 510 7 = qn lev → I2 510 (8 + lev) = qn (i + 1) → qLMk I2 lev a b c → qFrL I2 J → qFrO lev I J ∧ J 510 7 = qn lev ∧ J 510 (8 + lev) = qn (i + 1) ∧ qLMk J lev a b c := fun I2 J a b c g1 g2 g3 g4 g5 => ⟨qFrO_tr hF1 (qFrO_tr g1 (qFrO_L g5 l2)), by rw [g5.2.1 7 (by omega) (by omega)]; exact g2, by rw [g5.2.1 (8 + lev) (by omega) (by omega)]; exact g3, qLMk_fr g4 (g5.2.1 _ (by omega) (by omega)) (fun q _ => by rw [g5.1 512 (by omega)])⟩
  by_cases c0 : 0 < cov
  · obtain ⟨m5, m6⟩ := m3 c0
    rw [if_pos c0, if_neg (show ¬ cov = 0 by omega)]
    have htop : (qTop cov cover = cover ∧ cov = 1) ∨ (qTop cov cover = cover + 2 ∧ 1 < cov) := by
      unfold qTop
      rw [if_neg (by omega)]
      by_cases c1 : cov = 1
      · rw [if_pos c1]; exact Or.inl ⟨rfl, c1⟩
      · rw [if_neg c1]; exact Or.inr ⟨rfl, by omega⟩
    -- behind the marks, with a cover
    have tail : ∀ (I2 : Nat → Nat → Int32) (b : Nat), qFrO lev I1 I2 → qLV I2 p' V f → (b = 0 ↔ s = 8 ∧ cov = 1) → ∃ J V' f', fL_one_266 505 506 507 508 509 510 511 513 514 515 516 517 (qn i) (qn s) (qn n) (qn (qTop cov cover)) (qL w I2 W) = some (qn 0, qL w J W) ∧ qLV J p' V' f' ∧ qLok G V' ∧ qFrL I2 J ∧ (f' = false → f = false ∧ V' = (if 0 < b ∧ cover = 2 then qRd G 10 (qPlain s (qn n)) p' V else V)) := by
      intro I2 b g1 g2 g3
      rcases m5 with rfl | rfl
      · refine ⟨I2, V, f, lOne_2661 (by omega) _ _ _ _, g2, hok, qFrL_refl I2, fun h => ⟨h, ?_⟩⟩
        rw [if_neg (by omega)]
      · by_cases cb : b = 0
        · obtain ⟨c8, c1⟩ := g3.mp cb
          refine ⟨I2, V, f, ?_, g2, hok, qFrL_refl I2, fun h => ⟨h, ?_⟩⟩
          · rcases htop with ⟨h, -⟩ | ⟨h, h2⟩
            · rw [h, c8]; exact lOne_2662 _ _ _
            · omega
          · rw [if_neg (by omega)]
        · obtain ⟨T, V1, f1, t1, t2, t3, t4, t5⟩ := lOne_303 (w := w) (W := W) hg (qFrO_G g1 hG1) g2 hok k1 hn
          refine ⟨T, V1, f1, ?_, t2, t3, t4, fun h => ⟨(t5 h).1, ?_⟩⟩
          · rw [lOne_2663 k1 ?_]
            · exact t1
            · rcases htop with ⟨h, h2⟩ | ⟨h, h2⟩
              · exact Or.inr ⟨h, fun h8 => cb (g3.mpr ⟨h8, h2⟩)⟩
              · exact Or.inl h
          · rw [if_pos ⟨by omega, rfl⟩]
            exact (t5 h).2
    have hle : 0 ≤ cover + 2 := by omega
    by_cases c7 : s = 7
    · subst c7
      rw [if_pos rfl]
      obtain ⟨I2, hI2⟩ : ∃ I2, I2 = qU (qU I1 512 (20 * lev + (inc + cov)) (qn (cover + 2))) 510 (14 + lev) (qn (inc + cov + 1)) := ⟨_, rfl⟩
      have g1 : qFrO lev I1 I2 := by
        rw [hI2]
        refine ⟨fun a ha => by rw [qU_r (by omega), qU_r (by omega)], fun j hj => ⟨?_, ?_⟩, fun j h1 h2 => ?_, fun q hq => ?_⟩ <;> simp (disch := omega) only [qU_s, qU_a, qU_k]
      have g2 : qLV I2 p' V f := by rw [hI2]; exact qLV_lev (qLV_mk hV1 _ _) (by omega) (by omega) _
      obtain ⟨J, V', f', j1, j2, j3, j4, j5⟩ := tail I2 (cov + 1) g1 g2 (by omega)
      have gM : qLMk I2 lev inc (cov + 1) cover := by
        rw [hI2]
        refine ⟨?_, fun q hq => ?_, fun _ => ⟨m5, ?_⟩, fun q h1 h2 => ?_⟩
        · simp (disch := omega) only [qU_s, qU_a, qU_k, Nat.add_assoc]
        · simp (disch := omega) only [qU_s, qU_a, qU_k]; exact m2 q hq
        · simp (disch := omega) only [qU_s, qU_a, qU_k]; exact m6
        · by_cases cq : q = inc + cov
          · subst cq; simp (disch := omega) only [qU_s, qU_a, qU_k]
          · simp (disch := omega) only [qU_s, qU_a, qU_k]; exact m4 q h1 (by omega)
      obtain ⟨f1, f2, f3, f4⟩ := fin I2 J _ _ _ g1 (by rw [hI2]; simp (disch := omega) only [qU_s, qU_a, qU_k]; exact h71) (by rw [hI2]; simp (disch := omega) only [qU_s, qU_a, qU_k]; exact h81) gM j4
      refine ⟨J, V', f', ?_, j2, j3, f1, f2, f3, f4, by show inc + (cov + 1) ≤ i + 1; omega, j5⟩
      rw [← j1, hI2]
      unfold fL_one_148 fL_one_196 fL_one_212 fL_one_251
      simp (disch := omega) only [↓qlet, eq_self, qzg_t, qzb_some, ↓reduceIte, not_or, not_false_eq_true, not_true_eq_false, and_true, true_and, and_self, or_false, false_or, true_or, or_true, and_false, false_and, qlit, qneg, qof, qn_add, qn_mul, qn_s, qn_z, qn_d, qn_dz, qm_1, qt_1, qt_0, qb_0, qb_1, qb_01, qb01b, q01_0, q01_1, qo_s, qo_n, qn_c, qn_le, qn_lt, qn_eq, qn_ne_m, qm_ne_n, qm_lt, qm_le, qn_lt_m, qn_le_m, qn_sub, qn_div, qn_mod, qle_t, qle_f, qlt_t, qlt_f, qeq_t, qeq_f, Nat.add_sub_cancel, qU_s, qU_a, qU_k, qn_rem, qL_I, qL_s, lk_505, lk_506, lk_507, lk_508, lk_509, lk_510, lk_511, lk_512, lk_513, lk_514, lk_515, lk_516, lk_517, lk_518, lk_519, ll_505, ll_506, ll_507, ll_508, ll_509, ll_510, ll_511, ll_512, ll_513, ll_514, ll_515, ll_516, ll_517, ll_518, ll_519, h71, m1, hle]
    · rw [if_neg c7]
      by_cases c8 : s = 8
      · subst c8
        rw [if_pos rfl]
        obtain ⟨I2, hI2⟩ : ∃ I2, I2 = qU I1 510 (14 + lev) (qn (inc + cov - 1)) := ⟨_, rfl⟩
        have g1 : qFrO lev I1 I2 := by
          rw [hI2]
          refine ⟨fun a ha => by rw [qU_r (by omega)], fun j hj => ⟨?_, ?_⟩, fun j h1 h2 => ?_, fun q hq => ?_⟩ <;> simp (disch := omega) only [qU_s, qU_a, qU_k]
        have g2 : qLV I2 p' V f := by rw [hI2]; exact qLV_lev hV1 (by omega) (by omega) _
        obtain ⟨J, V', f', j1, j2, j3, j4, j5⟩ := tail I2 (cov - 1) g1 g2 (by omega)
        have gM : qLMk I2 lev inc (cov - 1) cover := by
          rw [hI2]
          refine ⟨?_, fun q hq => ?_, fun hq => ⟨m5, ?_⟩, fun q h1 h2 => ?_⟩
          · have e9 : inc + cov - 1 = inc + (cov - 1) := by omega
            simp (disch := omega) only [qU_s, qU_a, qU_k, e9]
          · simp (disch := omega) only [qU_s, qU_a, qU_k]; exact m2 q hq
          · simp (disch := omega) only [qU_s, qU_a, qU_k]; exact m6
          · simp (disch := omega) only [qU_s, qU_a, qU_k]; exact m4 q h1 (by omega)
        obtain ⟨f1, f2, f3, f4⟩ := fin I2 J _ _ _ g1 (by rw [hI2]; simp (disch := omega) only [qU_s, qU_a, qU_k]; exact h71) (by rw [hI2]; simp (disch := omega) only [qU_s, qU_a, qU_k]; exact h81) gM j4
        refine ⟨J, V', f', ?_, j2, j3, f1, f2, f3, f4, by show inc + (cov - 1) ≤ i + 1; omega, j5⟩
        have c9 : ¬ inc + cov ≤ 0 := by omega
        rw [← j1, hI2]
        unfold fL_one_148 fL_one_212
        simp (disch := omega) only [↓qlet, eq_self, qzg_t, qzb_some, ↓reduceIte, not_or, not_false_eq_true, not_true_eq_false, and_true, true_and, and_self, or_false, false_or, true_or, or_true, and_false, false_and, qlit, qneg, qof, qn_add, qn_mul, qn_s, qn_z, qn_d, qn_dz, qm_1, qt_1, qt_0, qb_0, qb_1, qb_01, qb01b, q01_0, q01_1, qo_s, qo_n, qn_c, qn_le, qn_lt, qn_eq, qn_ne_m, qm_ne_n, qm_lt, qm_le, qn_lt_m, qn_le_m, qn_sub, qn_div, qn_mod, qle_t, qle_f, qlt_t, qlt_f, qeq_t, qeq_f, Nat.add_sub_cancel, qU_s, qU_a, qU_k, qn_rem, qL_I, qL_s, lk_505, lk_506, lk_507, lk_508, lk_509, lk_510, lk_511, lk_512, lk_513, lk_514, lk_515, lk_516, lk_517, lk_518, lk_519, ll_505, ll_506, ll_507, ll_508, ll_509, ll_510, ll_511, ll_512, ll_513, ll_514, ll_515, ll_516, ll_517, ll_518, ll_519, h71, m1, c9]
      · rw [if_neg c8]
        obtain ⟨J, V', f', j1, j2, j3, j4, j5⟩ := tail I1 cov (qFrO_refl lev I1) hV1 (by omega)
        obtain ⟨f1, f2, f3, f4⟩ := fin I1 J _ _ _ (qFrO_refl lev I1) h71 h81 ⟨m1, m2, m3, m4⟩ j4
        refine ⟨J, V', f', ?_, j2, j3, f1, f2, f3, f4, by show inc + cov ≤ i + 1; omega, j5⟩
        rw [← j1]
        unfold fL_one_148 fL_one_212 fL_one_251
        simp (disch := omega) only [↓qlet, eq_self, qzg_t, qzb_some, ↓reduceIte, not_or, not_false_eq_true, not_true_eq_false, and_true, true_and, and_self, or_false, false_or, true_or, or_true, and_false, false_and, qlit, qneg, qof, qn_add, qn_mul, qn_s, qn_z, qn_d, qn_dz, qm_1, qt_1, qt_0, qb_0, qb_1, qb_01, qb01b, q01_0, q01_1, qo_s, qo_n, qn_c, qn_le, qn_lt, qn_eq, qn_ne_m, qm_ne_n, qm_lt, qm_le, qn_lt_m, qn_le_m, qn_sub, qn_div, qn_mod, qle_t, qle_f, qlt_t, qlt_f, qeq_t, qeq_f, Nat.add_sub_cancel, qU_s, qU_a, qU_k, qn_rem, qL_I, qL_s, lk_505, lk_506, lk_507, lk_508, lk_509, lk_510, lk_511, lk_512, lk_513, lk_514, lk_515, lk_516, lk_517, lk_518, lk_519, ll_505, ll_506, ll_507, ll_508, ll_509, ll_510, ll_511, ll_512, ll_513, ll_514, ll_515, ll_516, ll_517, ll_518, ll_519, c7, c8]
  · obtain rfl : cov = 0 := by omega
    rw [if_neg c0, if_pos rfl, show qTop 0 cover = 0 from rfl]
    by_cases c7 : s = 7
    · subst c7
      rw [if_pos rfl]
      have hn2 := k6 (Or.inr rfl)
      obtain ⟨s1, s2⟩ := hX1.2.2 n hn2
      obtain ⟨I2, hI2⟩ : ∃ I2, I2 = qU (qU I1 512 (20 * lev + inc) (qn (sw n))) 510 (14 + lev) (qn (inc + 1)) := ⟨_, rfl⟩
      have g1 : qFrO lev I1 I2 := by
        rw [hI2]
        refine ⟨fun a ha => by rw [qU_r (by omega), qU_r (by omega)], fun j hj => ⟨?_, ?_⟩, fun j h1 h2 => ?_, fun q hq => ?_⟩ <;> simp (disch := omega) only [qU_s, qU_a, qU_k]
      have g2 : qLV I2 p' V f := by rw [hI2]; exact qLV_lev (qLV_mk hV1 _ _) (by omega) (by omega) _
      have g7 : I2 510 7 = qn lev := by rw [hI2]; simp (disch := omega) only [qU_s, qU_a, qU_k]; exact h71
      have g8 : I2 510 (8 + lev) = qn (i + 1) := by rw [hI2]; simp (disch := omega) only [qU_s, qU_a, qU_k]; exact h81
      obtain ⟨J, V', f', j1, j2, j3, j4, j5⟩ := lOne_352 (w := w) (W := W) hg (qFrO_G g1 hG1) g2 hok g7 (qFrO_X g1 hX1) (qFrO_R g1 hr1) hi hn (by decide) ent
      have gM : qLMk I2 lev (if sw n = 0 then inc + 1 else inc) (if sw n = 0 then 0 else 1) (if sw n = 0 then 0 else sw n) := by
        rw [hI2]
        by_cases cs : sw n = 0
        · rw [if_pos cs, if_pos cs, if_pos cs]
          refine ⟨?_, fun q hq => ?_, fun h => absurd h (by omega), fun q h1 h2 => by omega⟩
          · simp (disch := omega) only [qU_s, qU_a, qU_k, Nat.add_zero]
          · by_cases cq : q = inc
            · subst cq; simp (disch := omega) only [qU_s, qU_a, qU_k]; rw [cs]
            · simp (disch := omega) only [qU_s, qU_a, qU_k]; exact m2 q (by omega)
        · rw [if_neg cs, if_neg cs, if_neg cs]
          refine ⟨?_, fun q hq => ?_, fun h => ⟨by omega, ?_⟩, fun q h1 h2 => by omega⟩
          · simp (disch := omega) only [qU_s, qU_a, qU_k]
          · simp (disch := omega) only [qU_s, qU_a, qU_k]; exact m2 q hq
          · simp (disch := omega) only [qU_s, qU_a, qU_k]
      obtain ⟨f1, f2, f3, f4⟩ := fin I2 J _ _ _ g1 g7 g8 gM j4
      have hm0 : (qm < qn 0) = True := qm_lt (by omega)
      refine ⟨J, V', f', ?_, j2, j3, f1, f2, f3, ?_, ?_, fun h => ⟨(j5 h).1, ?_⟩⟩
      · rw [← j1, ← lOne_266z, hI2]
        unfold fL_one_148 fL_one_196 fL_one_212 fL_one_251
        simp (disch := omega) only [↓qlet, eq_self, qzg_t, qzb_some, ↓reduceIte, not_or, not_false_eq_true, not_true_eq_false, and_true, true_and, and_self, or_false, false_or, true_or, or_true, and_false, false_and, qlit, qneg, qof, qn_add, qn_mul, qn_s, qn_z, qn_d, qn_dz, qm_1, qt_1, qt_0, qb_0, qb_1, qb_01, qb01b, q01_0, q01_1, qo_s, qo_n, qn_c, qn_le, qn_lt, qn_eq, qn_ne_m, qm_ne_n, qm_lt, qm_le, qn_lt_m, qn_le_m, qn_sub, qn_div, qn_mod, qle_t, qle_f, qlt_t, qlt_f, qeq_t, qeq_f, Nat.add_sub_cancel, qU_s, qU_a, qU_k, qn_rem, qL_I, qL_s, lk_505, lk_506, lk_507, lk_508, lk_509, lk_510, lk_511, lk_512, lk_513, lk_514, lk_515, lk_516, lk_517, lk_518, lk_519, ll_505, ll_506, ll_507, ll_508, ll_509, ll_510, ll_511, ll_512, ll_513, ll_514, ll_515, ll_516, ll_517, ll_518, ll_519, h71, m1, qn_le_m, s1, Nat.add_zero]
      · by_cases cs : sw n = 0
        · rw [if_pos cs, if_pos cs, if_pos cs] at f4
          rw [if_pos cs]; exact f4
        · rw [if_neg cs, if_neg cs, if_neg cs] at f4
          rw [if_neg cs]; exact f4
      · by_cases cs : sw n = 0
        · rw [if_pos cs]; show inc + 1 + 0 ≤ i + 1; omega
        · rw [if_neg cs]; show inc + 1 ≤ i + 1; omega
      · rw [(j5 h).2, if_pos (Or.inl rfl)]
        by_cases cs : sw n = 0
        · rw [if_pos cs]
        · rw [if_neg cs]
    · rw [if_neg c7]
      by_cases c8 : s = 8 ∧ 0 < inc
      · rw [if_pos c8]
        obtain ⟨c8, c9⟩ := c8
        subst c8
        obtain ⟨I2, hI2⟩ : ∃ I2, I2 = qU I1 510 (14 + lev) (qn (inc - 1)) := ⟨_, rfl⟩
        have g1 : qFrO lev I1 I2 := by
          rw [hI2]
          refine ⟨fun a ha => by rw [qU_r (by omega)], fun j hj => ⟨?_, ?_⟩, fun j h1 h2 => ?_, fun q hq => ?_⟩ <;> simp (disch := omega) only [qU_s, qU_a, qU_k]
        have g2 : qLV I2 p' V f := by rw [hI2]; exact qLV_lev hV1 (by omega) (by omega) _
        have g7 : I2 510 7 = qn lev := by rw [hI2]; simp (disch := omega) only [qU_s, qU_a, qU_k]; exact h71
        have g8 : I2 510 (8 + lev) = qn (i + 1) := by rw [hI2]; simp (disch := omega) only [qU_s, qU_a, qU_k]; exact h81
        obtain ⟨J, V', f', j1, j2, j3, j4, j5⟩ := lOne_352 (w := w) (W := W) hg (qFrO_G g1 hG1) g2 hok g7 (qFrO_X g1 hX1) (qFrO_R g1 hr1) hi hn (by decide) ent
        have gM : qLMk I2 lev (inc - 1) 0 cover := by
          rw [hI2]
          refine ⟨?_, fun q hq => ?_, fun h => absurd h (by omega), fun q h1 h2 => by omega⟩
          · simp (disch := omega) only [qU_s, qU_a, qU_k, Nat.add_zero]
          · simp (disch := omega) only [qU_s, qU_a, qU_k]; exact m2 q (by omega)
        obtain ⟨f1, f2, f3, f4⟩ := fin I2 J _ _ _ g1 g7 g8 gM j4
        refine ⟨J, V', f', ?_, j2, j3, f1, f2, f3, f4, by show inc - 1 + 0 ≤ i + 1; omega, fun h => ⟨(j5 h).1, ?_⟩⟩
        · have c10 : ¬ inc ≤ 0 := by omega
          rw [← j1, ← lOne_266z, hI2]
          unfold fL_one_148 fL_one_212
          simp (disch := omega) only [↓qlet, eq_self, qzg_t, qzb_some, ↓reduceIte, not_or, not_false_eq_true, not_true_eq_false, and_true, true_and, and_self, or_false, false_or, true_or, or_true, and_false, false_and, qlit, qneg, qof, qn_add, qn_mul, qn_s, qn_z, qn_d, qn_dz, qm_1, qt_1, qt_0, qb_0, qb_1, qb_01, qb01b, q01_0, q01_1, qo_s, qo_n, qn_c, qn_le, qn_lt, qn_eq, qn_ne_m, qm_ne_n, qm_lt, qm_le, qn_lt_m, qn_le_m, qn_sub, qn_div, qn_mod, qle_t, qle_f, qlt_t, qlt_f, qeq_t, qeq_f, Nat.add_sub_cancel, qU_s, qU_a, qU_k, qn_rem, qL_I, qL_s, lk_505, lk_506, lk_507, lk_508, lk_509, lk_510, lk_511, lk_512, lk_513, lk_514, lk_515, lk_516, lk_517, lk_518, lk_519, ll_505, ll_506, ll_507, ll_508, ll_509, ll_510, ll_511, ll_512, ll_513, ll_514, ll_515, ll_516, ll_517, ll_518, ll_519, h71, m1, c10, Nat.add_zero]
        · rw [(j5 h).2, if_pos (Or.inr rfl)]
      · rw [if_neg c8]
        by_cases c8' : s = 8
        · subst c8'
          have c9 : inc = 0 := by omega
          subst c9
          obtain ⟨K, V2, f2', k1', k2', k3', k4', -, -, -, k5'⟩ := lFailsK (w := w) (W := W) hV1 hok 5
          have g1 := qFrO_L k4' l2
          have g7 : K 510 7 = qn lev := by rw [k4'.2.1 7 (by omega) (by omega)]; exact h71
          have g8 : K 510 (8 + lev) = qn (i + 1) := by rw [k4'.2.1 (8 + lev) (by omega) (by omega)]; exact h81
          have gM : qLMk K lev 0 0 cover := qLMk_fr ⟨m1, m2, m3, m4⟩ (k4'.2.1 _ (by omega) (by omega)) (fun q _ => by rw [k4'.1 512 (by omega)])
          obtain ⟨J, V', f', j1, j2, j3, j4, j5⟩ := lOne_352 (w := w) (W := W) hg (qFrO_G g1 hG1) k2' k3' g7 (qFrO_X g1 hX1) (qFrO_R g1 hr1) hi hn (by decide) ent
          obtain ⟨f1, f2, f3, f4⟩ := fin K J _ _ _ g1 g7 g8 gM j4
          refine ⟨J, V', f', ?_, j2, j3, f1, f2, f3, f4, by show 0 + 0 ≤ i + 1; omega, fun h => ?_⟩
          · rw [← j1, ← lOne_266z]
            unfold fL_one_148 fL_one_212 fL_one_251
            simp (disch := omega) only [↓qlet, eq_self, qzg_t, qzb_some, ↓reduceIte, not_or, not_false_eq_true, not_true_eq_false, and_true, true_and, and_self, or_false, false_or, true_or, or_true, and_false, false_and, qlit, qneg, qof, qn_add, qn_mul, qn_s, qn_z, qn_d, qn_dz, qm_1, qt_1, qt_0, qb_0, qb_1, qb_01, qb01b, q01_0, q01_1, qo_s, qo_n, qn_c, qn_le, qn_lt, qn_eq, qn_ne_m, qm_ne_n, qm_lt, qm_le, qn_lt_m, qn_le_m, qn_sub, qn_div, qn_mod, qle_t, qle_f, qlt_t, qlt_f, qeq_t, qeq_f, Nat.add_sub_cancel, qU_s, qU_a, qU_k, qn_rem, qL_I, qL_s, lk_505, lk_506, lk_507, lk_508, lk_509, lk_510, lk_511, lk_512, lk_513, lk_514, lk_515, lk_516, lk_517, lk_518, lk_519, ll_505, ll_506, ll_507, ll_508, ll_509, ll_510, ll_511, ll_512, ll_513, ll_514, ll_515, ll_516, ll_517, ll_518, ll_519, h71, m1, k1', Nat.add_zero, Nat.le_refl]
          · obtain ⟨q1, q2⟩ := j5 h
            obtain ⟨q3, q4⟩ := k5' q1
            refine ⟨q3, ?_⟩
            rw [q2, if_pos (Or.inr rfl), q4]
            rfl
        · by_cases c6 : s = 6
          · subst c6
            obtain ⟨hR, hE⟩ := hent rfl rfl
            have hn2 := k6 (Or.inl rfl)
            obtain ⟨J, V', f', j1, j2, j3, j4, j5⟩ := lOne_ring (w := w) (W := W) hV1 hok h71 hn2 (by
              rcases hR with h | ⟨h, h9⟩
              · exact Or.inl h
              · exact Or.inr ⟨h, by rw [h121 h]; exact h9⟩) (qn i)
            obtain ⟨f1, f2, f3, f4⟩ := fin I1 J _ _ _ (qFrO_refl lev I1) h71 h81 ⟨m1, m2, m3, m4⟩ j4
            refine ⟨J, V', f', ?_, j2, j3, f1, f2, f3, f4, by show inc + 0 ≤ i + 1; omega, fun h => ⟨(j5 h).1, ?_⟩⟩
            · rw [← j1, ← lOne_266z]
              unfold fL_one_148 fL_one_212 fL_one_251
              simp (disch := omega) only [↓qlet, eq_self, qzg_t, qzb_some, ↓reduceIte, not_or, not_false_eq_true, not_true_eq_false, and_true, true_and, and_self, or_false, false_or, true_or, or_true, and_false, false_and, qlit, qneg, qof, qn_add, qn_mul, qn_s, qn_z, qn_d, qn_dz, qm_1, qt_1, qt_0, qb_0, qb_1, qb_01, qb01b, q01_0, q01_1, qo_s, qo_n, qn_c, qn_le, qn_lt, qn_eq, qn_ne_m, qm_ne_n, qm_lt, qm_le, qn_lt_m, qn_le_m, qn_sub, qn_div, qn_mod, qle_t, qle_f, qlt_t, qlt_f, qeq_t, qeq_f, Nat.add_sub_cancel, qU_s, qU_a, qU_k, qn_rem, qL_I, qL_s, lk_505, lk_506, lk_507, lk_508, lk_509, lk_510, lk_511, lk_512, lk_513, lk_514, lk_515, lk_516, lk_517, lk_518, lk_519, ll_505, ll_506, ll_507, ll_508, ll_509, ll_510, ll_511, ll_512, ll_513, ll_514, ll_515, ll_516, ll_517, ll_518, ll_519]
            · rw [(j5 h).2]
              show _ = qTok G ent ks i p' 6 (qn n) V
              show _ = ent (qn n).toNatClampNeg p' V
              rw [hnn, hE]
          · obtain ⟨J, V', f', j1, j2, j3, j4, j5⟩ := lOne_352 (w := w) (W := W) hg hG1 hV1 hok h71 hX1 hr1 hi hn c6 ent
            obtain ⟨f1, f2, f3, f4⟩ := fin I1 J _ _ _ (qFrO_refl lev I1) h71 h81 ⟨m1, m2, m3, m4⟩ j4
            refine ⟨J, V', f', ?_, j2, j3, f1, f2, f3, f4, by show inc + 0 ≤ i + 1; omega, fun h => ⟨(j5 h).1, ?_⟩⟩
            · rw [← j1, ← lOne_266z]
              unfold fL_one_148 fL_one_212 fL_one_251
              simp (disch := omega) only [↓qlet, eq_self, qzg_t, qzb_some, ↓reduceIte, not_or, not_false_eq_true, not_true_eq_false, and_true, true_and, and_self, or_false, false_or, true_or, or_true, and_false, false_and, qlit, qneg, qof, qn_add, qn_mul, qn_s, qn_z, qn_d, qn_dz, qm_1, qt_1, qt_0, qb_0, qb_1, qb_01, qb01b, q01_0, q01_1, qo_s, qo_n, qn_c, qn_le, qn_lt, qn_eq, qn_ne_m, qm_ne_n, qm_lt, qm_le, qn_lt_m, qn_le_m, qn_sub, qn_div, qn_mod, qle_t, qle_f, qlt_t, qlt_f, qeq_t, qeq_f, Nat.add_sub_cancel, qU_s, qU_a, qU_k, qn_rem, qL_I, qL_s, lk_505, lk_506, lk_507, lk_508, lk_509, lk_510, lk_511, lk_512, lk_513, lk_514, lk_515, lk_516, lk_517, lk_518, lk_519, ll_505, ll_506, ll_507, ll_508, ll_509, ll_510, ll_511, ll_512, ll_513, ll_514, ll_515, ll_516, ll_517, ll_518, ll_519, c7, c8']
            · rw [(j5 h).2, if_neg (by omega)]
/-- an ENTITY that is gone into: nothing but the levels changes -/
theorem lOneEnter (hV : qLV I p V f) (hX : qLX I sw en txt) (hr : qLRow I en txt lev ks) (h7 : I 510 7 = qn lev) {i n inc cover : Nat} (hi : ks[i]? = some (6, qn n)) (hn : n < 128) (h8 : I 510 (8 + lev) = qn i) (hM : qLMk I lev inc 0 cover) (hc : inc ≤ i) (h : lev = 0 ∨ lev = 1 ∧ ∃ q, q < 2 ∧ ¬ q = n ∧ I 510 12 = qn q) :
    ∃ J, fL_one 505 506 507 508 509 510 511 512 513 514 515 516 517 (qL w I W) = some (qn 0, qL w J W) ∧ qLV J (if lev = 0 then i else p) V f ∧ qFrO lev I J ∧ J 510 (8 + lev) = qn (i + 1) ∧ qLMk J lev inc 0 cover ∧ J 510 7 = qn (lev + 1) ∧ J 510 (8 + (lev + 1)) = qn 0 ∧ J 510 (11 + (lev + 1)) = qn n ∧ J 510 (14 + (lev + 1)) = qn 0 ∧ n < 2 := by
  obtain ⟨l1, l2, l3⟩ := qLRow_l hX hr
  have hi18 : i < 18 := by have := (List.getElem?_eq_some_iff.mp hi).1; omega
  obtain ⟨k1, n', k2, k3, k4, k5, k6⟩ := l3 _ (List.mem_of_getElem? hi)
  have k3 : qn n = qn n' := k3
  rw [qn_eq (by omega) (by omega)] at k3
  subst k3
  have hn2 : n < 2 := k6 (Or.inl rfl)
  rw [lOne_A hV hX hr h7 hi hn h8 hM (by omega)]
  generalize hp' : (if lev = 0 then i else p) = p'
  obtain ⟨I1, hI1⟩ : ∃ I1, I1 = qU (qU I 510 18 (qn p')) 510 (8 + lev) (qn (i + 1)) := ⟨_, rfl⟩
  rw [← hI1]
  have hlev : lev ≤ 1 := by omega
  have hV1 : qLV I1 p' V f := by rw [hI1]; exact qLV_lev (qLV_pl hV p') (by omega) (by omega) _
  have h71 : I1 510 7 = qn lev := by rw [hI1]; simp (disch := omega) only [qU_s, qU_a, qU_k]; exact h7
  have h121 : lev = 1 → I1 510 12 = I 510 12 := fun h => by rw [hI1]; simp (disch := omega) only [qU_s, qU_a, qU_k]
  have he := lOne_enter (w := w) (W := W) h71 hn2 (by
    rcases h with h | ⟨h, q, q1, q2, q3⟩
    · exact Or.inl h
    · exact Or.inr ⟨h, q, q1, q2, by rw [h121 h]; exact q3⟩) (qn i)
  obtain ⟨J, hJ⟩ : ∃ J, J = qU (qU (qU (qU I1 510 7 (qn (lev + 1))) 510 (8 + (lev + 1)) (qn 0)) 510 (11 + (lev + 1)) (qn n)) 510 (14 + (lev + 1)) (qn 0) := ⟨_, rfl⟩
  rw [← hJ] at he
  refine ⟨J, ?_, ?_, ⟨fun a ha => ?_, fun j hj => ⟨?_, ?_⟩, fun j h1 h2 => ?_, fun q hq => ?_⟩, ?_, ?_, ?_, ?_, ?_, ?_, hn2⟩
  · rw [if_pos rfl, show qTop 0 cover = 0 from rfl]
    refine Eq.trans ?_ he
    rw [← lOne_266z]
    unfold fL_one_148 fL_one_212 fL_one_251
    simp (disch := omega) only [↓qlet, eq_self, qzg_t, qzb_some, ↓reduceIte, not_or, not_false_eq_true, not_true_eq_false, and_true, true_and, and_self, or_false, false_or, true_or, or_true, and_false, false_and, qlit, qneg, qof, qn_add, qn_mul, qn_s, qn_z, qn_d, qn_dz, qm_1, qt_1, qt_0, qb_0, qb_1, qb_01, qb01b, q01_0, q01_1, qo_s, qo_n, qn_c, qn_le, qn_lt, qn_eq, qn_ne_m, qm_ne_n, qm_lt, qm_le, qn_lt_m, qn_le_m, qn_sub, qn_div, qn_mod, qle_t, qle_f, qlt_t, qlt_f, qeq_t, qeq_f, Nat.add_sub_cancel, qU_s, qU_a, qU_k, qn_rem, qL_I, qL_s, lk_505, lk_506, lk_507, lk_508, lk_509, lk_510, lk_511, lk_512, lk_513, lk_514, lk_515, lk_516, lk_517, lk_518, lk_519, ll_505, ll_506, ll_507, ll_508, ll_509, ll_510, ll_511, ll_512, ll_513, ll_514, ll_515, ll_516, ll_517, ll_518, ll_519]
  · rw [hJ]
    exact qLV_lev (qLV_lev (qLV_lev (qLV_lev hV1 (by omega) (by omega) _) (by omega) (by omega) _) (by omega) (by omega) _) (by omega) (by omega) _
  · rw [hJ, hI1]; simp (disch := omega) only [qU_r]
  · rw [hJ, hI1]; simp (disch := omega) only [qU_s, qU_a, qU_k]
  · rw [hJ, hI1]; simp (disch := omega) only [qU_s, qU_a, qU_k]
  · rw [hJ, hI1]; simp (disch := omega) only [qU_s, qU_a, qU_k]
  · rw [hJ, hI1]; simp (disch := omega) only [qU_s, qU_a, qU_k]
  · rw [hJ, hI1]; simp (disch := omega) only [qU_s, qU_a, qU_k]
  · exact qLMk_fr hM (by rw [hJ, hI1]; simp (disch := omega) only [qU_s, qU_a, qU_k]) (fun q hq => by rw [hJ, hI1]; simp (disch := omega) only [qU_s, qU_a, qU_k])
  · rw [hJ]; simp (disch := omega) only [qU_s, qU_a, qU_k]
  · rw [hJ]; simp (disch := omega) only [qU_s, qU_a, qU_k]
  · rw [hJ]; simp (disch := omega) only [qU_s, qU_a, qU_k]
  · rw [hJ]; simp (disch := omega) only [qU_s, qU_a, qU_k]
end
