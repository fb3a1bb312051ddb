/-! THE CLASS: entity, clear, insert, erase, normalize -/
section
variable {w : Bool} {I : Nat → Nat → Int32} {A : qA}
theorem qKin_ok {s v : Int32} (h : qKin s v = true) : ∃ k, k ≤ 8 ∧ s = qn k ∧ s.toNatClampNeg = k ∧ qKok (k, v) := by
  unfold qKin at h
  cases hs : qin s 9 with
  | none => rw [hs] at h; cases h
  | some k =>
    obtain ⟨hk, rfl⟩ := qin_s (by omega) hs
    rw [hs] at h
    dsimp only at h
    refine ⟨k, by omega, rfl, qn_c (by omega), by omega, fun c => ?_, fun c => ?_, fun c => ?_, fun c => ?_⟩
    · have c : k = 0 ∨ k = 1 := c
      rw [if_pos c] at h
      cases hv : qin v 10 with
      | none => rw [hv] at h; cases h
      | some n => exact ⟨n, qin_s (by omega) hv⟩
    · have c : k = 4 := c
      rw [if_neg (by omega), if_pos c] at h
      obtain ⟨h1, h2⟩ := of_decide_eq_true h
      have h0 : 0 ≤ v := by
        have h1 := Int32.le_iff_toInt_le.mp h1
        apply Int32.le_iff_toInt_le.mpr
        rw [qn_i (by omega)] at h1
        have : (0 : Int32).toInt = 0 := by decide
        omega
      have c5 : qn v.toNatClampNeg = v := Int32.ofNat_toNatClampNeg v h0
      have c6 := Int32.toNatClampNeg_lt v
      rw [← c5, qn_le (by omega) (by omega)] at h1
      rw [← c5, qn_le (by omega) (by omega)] at h2
      exact ⟨v.toNatClampNeg, h1, by omega, c5.symm⟩
    · have c : k = 6 := c
      rw [if_neg (by omega), if_neg (by omega), if_pos c] at h
      cases hv : qin v 6 with
      | none => rw [hv] at h; cases h
      | some n => exact ⟨n, qin_s (by omega) hv⟩
    · have c : k = 7 := c
      rw [if_neg (by omega), if_neg (by omega), if_neg (by omega), if_pos c] at h
      cases hv : qin v 4 with
      | none => rw [hv] at h; cases h
      | some n => exact ⟨n, qin_s (by omega) hv⟩
theorem qin_iff {v : Int32} {n : Nat} (hn : n < 2147483648) (M : zM) : (if v < 0 then some ((0 : Int32), M) else if (qn n) ≤ v then some (0, M) else some (1, M)) = some (qb (qin v n).isSome, M) := by
  cases h : qin v n with
  | none =>
    rcases qin_n h with c | c
    · rw [if_pos c]; rfl
    · by_cases c1 : v < 0
      · rw [if_pos c1]; rfl
      · rw [if_neg c1, if_pos (Int32.not_lt.mp c)]; rfl
  | some k =>
    obtain ⟨h1, rfl⟩ := qin_s hn h
    rw [if_neg (show ¬ qn k < 0 by show ¬ qn k < qn 0; rw [qn_lt (by omega) (by omega)]; omega), if_neg (by rw [qn_le (by omega) (by omega)]; omega)]
    rfl
theorem cTokChk (s v : Int32) (M : zM) : fX7_checkToken s v M = some (if qKin s v = true then 0 else 2, qn 0, M) := by
  unfold fX7_checkToken fX7_checkToken_18
  cases hs : qin s 9 with
  | none =>
    have hK : qKin s v = false := by unfold qKin; rw [hs]
    rw [hK]
    rcases qin_n hs with c | c
    · rw [if_pos c]; rfl
    · by_cases c1 : s < 0
      · rw [if_pos c1]; rfl
      · have c5 : qn s.toNatClampNeg = s := Int32.ofNat_toNatClampNeg s (Int32.not_lt.mp c1)
        have c6 := Int32.toNatClampNeg_lt s
        rw [← c5, qn_lt (by omega) (by omega)] at c
        rw [if_neg c1, if_pos (show (8 : Int32) < s by rw [← c5]; show qn 8 < qn _; rw [qn_lt (by omega) (by omega)]; omega)]
        rfl
  | some k =>
    obtain ⟨hk, rfl⟩ := qin_s (by omega) hs
    have hK : qKin (qn k) v = (if k = 0 ∨ k = 1 then (qin v 10).isSome else if k = 4 then decide (qn 32 ≤ v ∧ v ≤ qn 126) else if k = 6 then (qin v 6).isSome else if k = 7 then (qin v 4).isSome else true) := by unfold qKin; rw [hs]
    have hV : fX7_isValueOf (qn k) v M = some (qb (if k = 0 ∨ k = 1 then (qin v 10).isSome else if k = 4 then decide (qn 32 ≤ v ∧ v ≤ qn 126) else if k = 6 then (qin v 6).isSome else if k = 7 then (qin v 4).isSome else true), M) := by
      unfold fX7_isValueOf
      have h10 := qin_iff (v := v) (n := 10) (by omega) M
      have h6 := qin_iff (v := v) (n := 6) (by omega) M
      have h4 := qin_iff (v := v) (n := 4) (by omega) M
      have h32 : (if v < qn 32 then some ((qn 0 : Int32), M) else if qn 126 < v then some (qn 0, M) else some (qn 1, M)) = some (qb (decide (qn 32 ≤ v ∧ v ≤ qn 126)), M) := by
        by_cases c1 : v < qn 32
        · have : ¬ (qn 32 ≤ v ∧ v ≤ qn 126) := fun h => Int32.not_lt.mpr h.1 c1
          simp [c1, this, qb]
        · by_cases c2 : qn 126 < v
          · have : ¬ (qn 32 ≤ v ∧ v ≤ qn 126) := fun h => Int32.not_lt.mpr h.2 c2
            simp [c1, c2, this, qb]
          · have : qn 32 ≤ v ∧ v ≤ qn 126 := ⟨Int32.not_lt.mp c1, Int32.not_lt.mp c2⟩
            simp [c1, c2, this, qb]
      simp only [qlit] at h10 h6 h4
      rcases (by omega : k = 0 ∨ k = 1 ∨ k = 2 ∨ k = 3 ∨ k = 4 ∨ k = 5 ∨ k = 6 ∨ k = 7 ∨ k = 8) with c | c | c | c | c | c | c | c | c <;> subst c <;> simp (disch := omega) only [↓qlet, eq_self, qzg_t, qzb_some, ↓reduceIte, not_or, not_false_eq_true, not_true_eq_false, and_true, true_and, and_self, or_false, false_or, true_or, or_true, and_false, false_and, qlit, qneg, qof, qn_add, qn_mul, qn_s, qn_z, qn_d, qn_dz, qm_1, qt_1, qt_0, qb_0, qb_1, qb_01, qb01b, q01_0, q01_1, qo_s, qo_n, qn_c, qn_le, qn_lt, qn_eq, qn_ne_m, qm_ne_n, qm_lt, qm_le, qn_lt_m, qn_le_m, qn_sub, qn_div, qn_mod, qle_t, qle_f, qlt_t, qlt_f, qeq_t, qeq_f, Nat.add_sub_cancel, qC_I, qC_s, qU_s, qU_a, qU_k, qb_t] <;> first | exact h10 | exact h6 | exact h4 | exact h32
    rw [← hK] at hV
    cases hb : qKin (qn k) v with
    | false =>
      rw [hb] at hV
      simp (disch := omega) only [↓qlet, eq_self, qzg_t, qzb_some, ↓reduceIte, not_or, not_false_eq_true, not_true_eq_false, and_true, true_and, and_self, or_false, false_or, true_or, or_true, and_false, false_and, qlit, qneg, qof, qn_add, qn_mul, qn_s, qn_z, qn_d, qn_dz, qm_1, qt_1, qt_0, qb_0, qb_1, qb_01, qb01b, q01_0, q01_1, qo_s, qo_n, qn_c, qn_le, qn_lt, qn_eq, qn_ne_m, qm_ne_n, qm_lt, qm_le, qn_lt_m, qn_le_m, qn_sub, qn_div, qn_mod, qle_t, qle_f, qlt_t, qlt_f, qeq_t, qeq_f, Nat.add_sub_cancel, qC_I, qC_s, qU_s, qU_a, qU_k, hV, qb_f]
      rfl
    | true =>
      rw [hb] at hV
      simp (disch := omega) only [↓qlet, eq_self, qzg_t, qzb_some, ↓reduceIte, not_or, not_false_eq_true, not_true_eq_false, and_true, true_and, and_self, or_false, false_or, true_or, or_true, and_false, false_and, qlit, qneg, qof, qn_add, qn_mul, qn_s, qn_z, qn_d, qn_dz, qm_1, qt_1, qt_0, qb_0, qb_1, qb_01, qb01b, q01_0, q01_1, qo_s, qo_n, qn_c, qn_le, qn_lt, qn_eq, qn_ne_m, qm_ne_n, qm_lt, qm_le, qn_lt_m, qn_le_m, qn_sub, qn_div, qn_mod, qle_t, qle_f, qlt_t, qlt_f, qeq_t, qeq_f, Nat.add_sub_cancel, qC_I, qC_s, qU_s, qU_a, qU_k, hV, qb_t]
theorem cEntity (hA : qCA w I A) (x s v : Int32) : ∃ w2 J, fX7_entity 1 x s v (qC w I) = some ((qoEntity A x s v).1, (qoEntity A x s v).2.1, qC w2 J) ∧ qCA w2 J (qoEntity A x s v).2.2 := by
  have hA0 := hA
  obtain ⟨⟨hg, hE, hn, hk⟩, ⟨hG, hEn, hK⟩, hV, hX, hF, h16⟩ := hA
  unfold fX7_entity qoEntity
  cases hx : qin x 6 with
  | none =>
    refine ⟨w, I, ?_, hA0⟩
    rw [show (6 : Int32) = qn 6 from rfl, cCheck_n hx, qzbx_1]
    rfl
  | some e =>
    obtain ⟨he, rfl⟩ := qin_s (by omega) hx
    rw [show (6 : Int32) = qn 6 from rfl, cCheck_s (by omega) he, qzbx_0, cTokChk]
    dsimp only
    cases hq : qKin s v with
    | false =>
      refine ⟨w, I, ?_, hA0⟩
      simp only [Bool.false_eq_true, ↓reduceIte, qzbx_2]
      rfl
    | true =>
      obtain ⟨k, k8, rfl, kc, hkk⟩ := qKin_ok hq
      obtain ⟨l1, l2⟩ := hE.1 e he
      have hKe := hEn.1 e he
      have hc := hKe.1
      simp only [↓reduceIte, qzbx_0, reduceCtorEq]
      by_cases c6 : 6 ≤ (A.2.2.1 e).length
      · rw [if_pos c6]
        refine ⟨w, I, ?_, hA0⟩
        simp (disch := omega) only [↓qlet, eq_self, qzg_t, qzb_some, ↓reduceIte, not_or, not_false_eq_true, not_true_eq_false, and_true, true_and, and_self, or_false, false_or, true_or, or_true, and_false, false_and, qlit, qneg, qof, qn_add, qn_mul, qn_s, qn_z, qn_d, qn_dz, qm_1, qt_1, qt_0, qb_0, qb_1, qb_01, qb01b, q01_0, q01_1, qo_s, qo_n, qn_c, qn_le, qn_lt, qn_eq, qn_ne_m, qm_ne_n, qm_lt, qm_le, qn_lt_m, qn_le_m, qn_sub, qn_div, qn_mod, qle_t, qle_f, qlt_t, qlt_f, qeq_t, qeq_f, Nat.add_sub_cancel, qC_I, qC_s, qU_s, qU_a, qU_k, qk_1, qk_2, qk_3, qk_4, qk_5, qk_6, qk_7, qk_68, qk_69, qk_70, qk_71, qk_72, qk_91, qk_92, qk_93, qk_94, qk_95, qk_96, qk_97, qk_98, qk_99, qk_100, qk_101, qk_102, qk_103, qk_104, qk_105, qk_106, qk_107, qk_108, qk_109, qk_476, qk_477, ql_3, ql_4, ql_5, ql_6, ql_7, ql_69, ql_70, ql_71, ql_72, ql_93, ql_94, ql_95, ql_96, ql_97, ql_99, ql_100, ql_101, ql_102, ql_103, ql_104, ql_105, ql_106, ql_108, ql_109, ql_477, qr_1_0, qr_1_1, qr_1_2, qr_1_3, qr_1_4, qr_1_5, qr_2_0, qr_2_1, qr_2_2, qr_2_3, qr_2_4, qr_68_0, qr_68_1, qr_91_0, qr_91_1, qr_91_2, qr_91_3, qr_91_4, qr_91_5, qr_91_6, qr_91_7, qr_91_10, qr_91_11, qr_91_14, qr_92_0, qr_92_1, qr_92_2, qr_92_3, qr_92_4, qr_98_0, qr_98_1, qr_107_0, qr_107_1, qr_107_2, qr_476_0, qr_476_1, qr_476_2, qen_r, qen_k, hc]
        rfl
      · rw [if_neg c6, kc]
        obtain ⟨I', e1, j1, hf⟩ := cPutTok (w := w) (qRw_E he) hKe (by omega) (by omega) (pl := (A.2.2.1 e).length) (Nat.le_refl _) (s := k) (v := v)
        rw [qIns_end] at j1
        have hl : ((A.2.2.1 e) ++ [(k, v)]).length = (A.2.2.1 e).length + 1 := by simp
        obtain ⟨K, e2, k1, k2, k3⟩ := cChange (A' := (A.1, A.2.1, (fun y => if y = e then A.2.2.1 e ++ [(k, v)] else A.2.2.1 y), A.2.2.2)) hA0 ⟨hg, ⟨fun i hi => by
            dsimp only
            split
            · refine ⟨by rw [hl]; omega, fun z hz => ?_⟩
              rcases List.mem_append.mp hz with hz | hz
              · exact l2 z hz
              · rw [List.mem_singleton.mp hz]; exact hkk
            · exact hE.1 i hi, hE.2⟩, hn, hk⟩ (I' := I') ⟨qCG_fr hG fun a ha => hf a (by omega) (by omega) (by omega), ⟨fun i hi => by
            dsimp only
            split
            · next c => subst c; exact j1
            · next c => exact qCK_fr (hEn.1 i hi) (by rw [hf _ (by omega) (by omega) (by omega)]) (by rw [hf _ (by omega) (by omega) (by omega)]) (by rw [hf _ (by omega) (by omega) (by omega)]), fun i hi => by rw [hf _ (by omega) (by omega) (by omega)]; exact hEn.2.1 i hi, fun j q h => by cases h⟩, qCK_fr hK (by rw [hf _ (by omega) (by omega) (by omega)]) (by rw [hf _ (by omega) (by omega) (by omega)]) (by rw [hf _ (by omega) (by omega) (by omega)])⟩ (fun a ha => hf a (by omega) (by omega) (by omega))
        refine ⟨!w, K, ?_, k1⟩
        have hcK : K (73 + 3 * e) 2 = qn ((A.2.2.1 e).length + 1) := by rw [k3 _ (by omega), j1.1, hl]
        simp (disch := omega) only [↓qlet, eq_self, qzg_t, qzb_some, ↓reduceIte, not_or, not_false_eq_true, not_true_eq_false, and_true, true_and, and_self, or_false, false_or, true_or, or_true, and_false, false_and, qlit, qneg, qof, qn_add, qn_mul, qn_s, qn_z, qn_d, qn_dz, qm_1, qt_1, qt_0, qb_0, qb_1, qb_01, qb01b, q01_0, q01_1, qo_s, qo_n, qn_c, qn_le, qn_lt, qn_eq, qn_ne_m, qm_ne_n, qm_lt, qm_le, qn_lt_m, qn_le_m, qn_sub, qn_div, qn_mod, qle_t, qle_f, qlt_t, qlt_f, qeq_t, qeq_f, Nat.add_sub_cancel, qC_I, qC_s, qU_s, qU_a, qU_k, qk_1, qk_2, qk_3, qk_4, qk_5, qk_6, qk_7, qk_68, qk_69, qk_70, qk_71, qk_72, qk_91, qk_92, qk_93, qk_94, qk_95, qk_96, qk_97, qk_98, qk_99, qk_100, qk_101, qk_102, qk_103, qk_104, qk_105, qk_106, qk_107, qk_108, qk_109, qk_476, qk_477, ql_3, ql_4, ql_5, ql_6, ql_7, ql_69, ql_70, ql_71, ql_72, ql_93, ql_94, ql_95, ql_96, ql_97, ql_99, ql_100, ql_101, ql_102, ql_103, ql_104, ql_105, ql_106, ql_108, ql_109, ql_477, qr_1_0, qr_1_1, qr_1_2, qr_1_3, qr_1_4, qr_1_5, qr_2_0, qr_2_1, qr_2_2, qr_2_3, qr_2_4, qr_68_0, qr_68_1, qr_91_0, qr_91_1, qr_91_2, qr_91_3, qr_91_4, qr_91_5, qr_91_6, qr_91_7, qr_91_10, qr_91_11, qr_91_14, qr_92_0, qr_92_1, qr_92_2, qr_92_3, qr_92_4, qr_98_0, qr_98_1, qr_107_0, qr_107_1, qr_107_2, qr_476_0, qr_476_1, qr_476_2, qen_r, qen_k, hc, e1, e2, hcK]
theorem cClear (hA : qCA w I A) (x : Int32) : ∃ w2 J, fX7_clear 1 x (qC w I) = some ((qoClear A x).1, (qoClear A x).2.1, qC w2 J) ∧ qCA w2 J (qoClear A x).2.2 := by
  have hA0 := hA
  obtain ⟨⟨hg, hE, hn, hk⟩, ⟨hG, hEn, hK⟩, hV, hX, hF, h16⟩ := hA
  unfold fX7_clear qoClear
  cases hx : qin x 6 with
  | none =>
    refine ⟨w, I, ?_, hA0⟩
    rw [show (6 : Int32) = qn 6 from rfl, cCheck_n hx, qzbx_1]
    rfl
  | some e =>
    obtain ⟨he, rfl⟩ := qin_s (by omega) hx
    rw [show (6 : Int32) = qn 6 from rfl, cCheck_s (by omega) he, qzbx_0]
    have hKe := hEn.1 e he
    have hc := hKe.1
    have hl6 := (hE.1 e he).1
    obtain ⟨I', hI'⟩ : ∃ I', I' = qU I (73 + 3 * e) 2 (qn 0) := ⟨_, rfl⟩
    have hf : ∀ a, a ≠ 73 + 3 * e → I' a = I a := fun a h => by rw [hI', qU_r h]
    obtain ⟨K, e2, k1, k2, k3⟩ := cChange (A' := (A.1, A.2.1, (fun y => if y = e then [] else A.2.2.1 y), A.2.2.2)) hA0 ⟨hg, ⟨fun i hi => by
        dsimp only
        split
        · exact ⟨by simp, fun z hz => by cases hz⟩
        · exact hE.1 i hi, hE.2⟩, hn, hk⟩ (I' := I') ⟨qCG_fr hG fun a ha => hf a (by omega), ⟨fun i hi => by
        dsimp only
        split
        · next c => subst c; exact ⟨by rw [hI', qU_s]; rfl, fun j k h => by simp at h⟩
        · next c => exact qCK_fr (hEn.1 i hi) (by rw [hf _ (by omega)]) (by rw [hf _ (by omega)]) (by rw [hf _ (by omega)]), fun i hi => by rw [hf _ (by omega)]; exact hEn.2.1 i hi, fun j q h => by cases h⟩, qCK_fr hK (by rw [hf _ (by omega)]) (by rw [hf _ (by omega)]) (by rw [hf _ (by omega)])⟩ (fun a ha => hf a (by omega))
    refine ⟨!w, K, ?_, k1⟩
    simp (disch := omega) only [↓qlet, eq_self, qzg_t, qzb_some, ↓reduceIte, not_or, not_false_eq_true, not_true_eq_false, and_true, true_and, and_self, or_false, false_or, true_or, or_true, and_false, false_and, qlit, qneg, qof, qn_add, qn_mul, qn_s, qn_z, qn_d, qn_dz, qm_1, qt_1, qt_0, qb_0, qb_1, qb_01, qb01b, q01_0, q01_1, qo_s, qo_n, qn_c, qn_le, qn_lt, qn_eq, qn_ne_m, qm_ne_n, qm_lt, qm_le, qn_lt_m, qn_le_m, qn_sub, qn_div, qn_mod, qle_t, qle_f, qlt_t, qlt_f, qeq_t, qeq_f, Nat.add_sub_cancel, qC_I, qC_s, qU_s, qU_a, qU_k, qk_1, qk_2, qk_3, qk_4, qk_5, qk_6, qk_7, qk_68, qk_69, qk_70, qk_71, qk_72, qk_91, qk_92, qk_93, qk_94, qk_95, qk_96, qk_97, qk_98, qk_99, qk_100, qk_101, qk_102, qk_103, qk_104, qk_105, qk_106, qk_107, qk_108, qk_109, qk_476, qk_477, ql_3, ql_4, ql_5, ql_6, ql_7, ql_69, ql_70, ql_71, ql_72, ql_93, ql_94, ql_95, ql_96, ql_97, ql_99, ql_100, ql_101, ql_102, ql_103, ql_104, ql_105, ql_106, ql_108, ql_109, ql_477, qr_1_0, qr_1_1, qr_1_2, qr_1_3, qr_1_4, qr_1_5, qr_2_0, qr_2_1, qr_2_2, qr_2_3, qr_2_4, qr_68_0, qr_68_1, qr_91_0, qr_91_1, qr_91_2, qr_91_3, qr_91_4, qr_91_5, qr_91_6, qr_91_7, qr_91_10, qr_91_11, qr_91_14, qr_92_0, qr_92_1, qr_92_2, qr_92_3, qr_92_4, qr_98_0, qr_98_1, qr_107_0, qr_107_1, qr_107_2, qr_476_0, qr_476_1, qr_476_2, qen_r, qen_k, hc, ← hI', e2]
end
