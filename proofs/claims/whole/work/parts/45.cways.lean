/-! THE CLASS: ways -/
def qEnd0 (Z : qZ) : Nat := if Z.1 = [] then 1 else 0
def qD0 (G : qG) : List qK → qZ → Nat
  | [], Z => qEnd0 Z
  | t :: r, Z => match qWr G Z t.1 t.2.toNatClampNeg with
    | none => 0
    | some Z1 => qD0 G r Z1
/-- a tag is put in -/
def qTg1 (G : qG) (nxt : qZ → Nat) (Z : qZ) (b : Bool) (s i : Nat) : Nat := if b = true then (match qWr G Z s i with
    | none => 0
    | some Z1 => nxt Z1) else 0
def qTg (G : qG) (nxt : qZ → Nat) (Z : qZ) : Nat → Nat → Nat
  | 0, _ => 0
  | n + 1, i => qTg1 G nxt Z (qgA G i) 0 i + qTg1 G nxt Z (qgB G i) 1 i + qTg G nxt Z n (i + 1)
def qDS (G : qG) (nxt : List qK → qZ → Nat) : List qK → qZ → Nat
  | [], Z => qEnd0 Z + qTg G (nxt []) Z 10 0
  | t :: r, Z => (match qWr G Z t.1 t.2.toNatClampNeg with
    | none => 0
    | some Z1 => qDS G nxt r Z1) + qTg G (nxt (t :: r)) Z 10 0
def qDn (G : qG) : Nat → List qK → qZ → Nat
  | 0 => qD0 G
  | p + 1 => qDS G (qDn G p)
def qWay (A : qA) : Nat := min 1000 (qDn A.1 2 A.2.2.2.1 qZ0)
section
variable {w : Bool} {I : Nat → Nat → Int32} {G : qG} {ks : List qK} {Z : qZ}
/-- what the frames of a try leave -/
def qFw (l : Nat) (I J : Nat → Nat → Int32) : Prop := ∀ a, a < 478 + 3 * l → a ≠ 476 → J a = I a
theorem qFw_tr {l l2 : Nat} {J K : Nat → Nat → Int32} (h : qFw l I J) (k : qFw l2 J K) (hl : l ≤ l2) : qFw l I K := fun a h1 h2 => by rw [k a (by omega) h2, h a h1 h2]
theorem qFw_Z {l s : Nat} {J : Nat → Nat → Int32} (h : qFw (l + 1) I J) (hs : s = 478 + 3 * l) (hZ : qCZ I s Z) : qCZ J s Z := qCZ_fr hZ (h _ (by omega) (by omega)) (h _ (by omega) (by omega)) (h _ (by omega) (by omega))
/-- goes on from a level -/
def qHg (w : Bool) (G : qG) (ks : List qK) (g : Nat → Int32 → Int32 → zM → Option (Int32 × zM)) (l : Nat) : Prop := ∀ rd pt Z I f, rd + pt = l → pt ≤ 2 → rd ≤ ks.length → qCG G I → qCK I 68 ks → qZok G Z → qCZ I (478 + 3 * l) Z → I 476 3 = qn f → f ≤ 1000 → ∃ J, g 476 (qn rd) (qn pt) (qC w I) = some (qn 0, qC w J) ∧ J 476 3 = qn (min 1000 (f + qDn G (2 - pt) (ks.drop rd) Z)) ∧ qFw (l + 1) I J
theorem cTryTok (hg : qGok G) {g : Nat → Int32 → Int32 → zM → Option (Int32 × zM)} {l rd pt k v f : Nat} {b : Bool} (hgo : qHg w G ks g (l + 1)) (hl : rd + pt = l) (hl8 : l < 8) (hpt : pt ≤ 2) (hrd : rd ≤ ks.length) (hb : if b = true then pt < 2 else rd < ks.length) (hk : k < 9) (hv : ¬ k = 4 → v < 10) (hv2 : v < 1000) (hG : qCG G I) (hK : qCK I 68 ks) (hz : qZok G Z) (hZ : qCZ I (478 + 3 * l) Z) (hf : I 476 3 = qn f) (hf2 : f ≤ 1000) : ∃ J, fX6_tryToken g 476 (qn k) (qn v) (qn rd) (qn pt) (qb b) (qC w I) = some (qn 0, qC w J) ∧ J 476 3 = qn (min 1000 (f + (match qWr G Z k v with
    | none => 0
    | some Z1 => qDn G (2 - (if b = true then pt + 1 else pt)) (ks.drop (if b = true then rd else rd + 1)) Z1))) ∧ qFw (l + 1) I J := by
  have hs := qSt_W (i := l) (by omega)
  have hs2 := qSt_W (i := l + 1) (by omega)
  obtain ⟨I1, e1, z1, m1, f1⟩ := cCopy (w := w) hs2 hs (by omega) hz hZ
  have hF1 : qFw (l + 1) I I1 := fun a h1 h2 => f1 a (by omega) (by omega) (by omega)
  have hG1 : qCG G I1 := qCG_fr hG fun a ha => f1 a (by omega) (by omega) (by omega)
  obtain ⟨I2, e2, z2, f2⟩ := cWr (w := w) hs2 hG1 hg hz z1 (k := k) (v := v) hk hv hv2
  have hF2 : qFw (l + 1) I I2 := fun a h1 h2 => by rw [f2 a (by omega) (by omega) (by omega), f1 a (by omega) (by omega) (by omega)]
  have h476 : I2 476 3 = qn f := by rw [f2 476 (by omega) (by omega) (by omega), f1 476 (by omega) (by omega) (by omega)]; exact hf
  have hsum : qn rd + qn pt = qn l := by rw [qn_add, hl]
  unfold fX6_tryToken
  cases hw : qWr G Z k v with
  | none =>
    rw [hw] at e2
    refine ⟨I2, ?_, ?_, hF2⟩
    · simp (disch := omega) only [↓qlet, hsum]
      simp (disch := omega) only [↓qlet, eq_self, qzg_t, qzb_some, ↓reduceIte, not_or, not_false_eq_true, not_true_eq_false, and_true, true_and, and_self, or_false, false_or, true_or, or_true, and_false, false_and, qlit, qneg, qof, qn_add, qn_mul, qn_s, qn_z, qn_d, qn_dz, qm_1, qt_1, qt_0, qb_0, qb_1, qb_01, qb01b, q01_0, q01_1, qo_s, qo_n, qn_c, qn_le, qn_lt, qn_eq, qn_ne_m, qm_ne_n, qm_lt, qm_le, qn_lt_m, qn_le_m, qn_sub, qn_div, qn_mod, qle_t, qle_f, qlt_t, qlt_f, qeq_t, qeq_f, Nat.add_sub_cancel, qC_I, qC_s, qU_s, qU_a, qU_k, qk_1, qk_2, qk_3, qk_4, qk_5, qk_6, qk_7, qk_68, qk_69, qk_70, qk_71, qk_72, qk_91, qk_92, qk_93, qk_94, qk_95, qk_96, qk_97, qk_98, qk_99, qk_100, qk_101, qk_102, qk_103, qk_104, qk_105, qk_106, qk_107, qk_108, qk_109, qk_476, qk_477, ql_3, ql_4, ql_5, ql_6, ql_7, ql_69, ql_70, ql_71, ql_72, ql_93, ql_94, ql_95, ql_96, ql_97, ql_99, ql_100, ql_101, ql_102, ql_103, ql_104, ql_105, ql_106, ql_108, ql_109, ql_477, qr_1_0, qr_1_1, qr_1_2, qr_1_3, qr_1_4, qr_1_5, qr_2_0, qr_2_1, qr_2_2, qr_2_3, qr_2_4, qr_68_0, qr_68_1, qr_91_0, qr_91_1, qr_91_2, qr_91_3, qr_91_4, qr_91_5, qr_91_6, qr_91_7, qr_91_10, qr_91_11, qr_91_14, qr_92_0, qr_92_1, qr_92_2, qr_92_3, qr_92_4, qr_98_0, qr_98_1, qr_107_0, qr_107_1, qr_107_2, qr_476_0, qr_476_1, qr_476_2, qtr_r, qSt_k _ _ hs2, e1, e2, Option.isSome_none, qb_f]
    · rw [h476]
      simp only [Nat.add_zero]
      rw [show min 1000 f = f by omega]
  | some Z1 =>
    rw [hw] at e2 z2
    have hG2 : qCG G I2 := qCG_fr hG fun a ha => hF2 a (by omega) (by omega)
    have hK2 : qCK I2 68 ks := qCK_fr hK (by rw [hF2 _ (by omega) (by omega)]) (by rw [hF2 _ (by omega) (by omega)]) (by rw [hF2 _ (by omega) (by omega)])
    obtain ⟨J, e3, j1, j2⟩ := hgo (if b = true then rd else rd + 1) (if b = true then pt + 1 else pt) Z1 I2 f (by split <;> omega) (by cases b with
      | true => simp only [↓reduceIte] at hb ⊢; omega
      | false => simp only [Bool.false_eq_true, ↓reduceIte]; omega) (by cases b with
      | true => simp only [↓reduceIte]; omega
      | false => simp only [Bool.false_eq_true, ↓reduceIte] at hb ⊢; omega) hG2 hK2 (qWr_ok hz hv hw) z2 h476 hf2
    refine ⟨J, ?_, j1, qFw_tr hF2 j2 (by omega)⟩
    simp (disch := omega) only [↓qlet, hsum]
    cases b with
    | true =>
      simp only [↓reduceIte] at e3
      simp (disch := omega) only [↓qlet, eq_self, qzg_t, qzb_some, ↓reduceIte, not_or, not_false_eq_true, not_true_eq_false, and_true, true_and, and_self, or_false, false_or, true_or, or_true, and_false, false_and, qlit, qneg, qof, qn_add, qn_mul, qn_s, qn_z, qn_d, qn_dz, qm_1, qt_1, qt_0, qb_0, qb_1, qb_01, qb01b, q01_0, q01_1, qo_s, qo_n, qn_c, qn_le, qn_lt, qn_eq, qn_ne_m, qm_ne_n, qm_lt, qm_le, qn_lt_m, qn_le_m, qn_sub, qn_div, qn_mod, qle_t, qle_f, qlt_t, qlt_f, qeq_t, qeq_f, Nat.add_sub_cancel, qC_I, qC_s, qU_s, qU_a, qU_k, qk_1, qk_2, qk_3, qk_4, qk_5, qk_6, qk_7, qk_68, qk_69, qk_70, qk_71, qk_72, qk_91, qk_92, qk_93, qk_94, qk_95, qk_96, qk_97, qk_98, qk_99, qk_100, qk_101, qk_102, qk_103, qk_104, qk_105, qk_106, qk_107, qk_108, qk_109, qk_476, qk_477, ql_3, ql_4, ql_5, ql_6, ql_7, ql_69, ql_70, ql_71, ql_72, ql_93, ql_94, ql_95, ql_96, ql_97, ql_99, ql_100, ql_101, ql_102, ql_103, ql_104, ql_105, ql_106, ql_108, ql_109, ql_477, qr_1_0, qr_1_1, qr_1_2, qr_1_3, qr_1_4, qr_1_5, qr_2_0, qr_2_1, qr_2_2, qr_2_3, qr_2_4, qr_68_0, qr_68_1, qr_91_0, qr_91_1, qr_91_2, qr_91_3, qr_91_4, qr_91_5, qr_91_6, qr_91_7, qr_91_10, qr_91_11, qr_91_14, qr_92_0, qr_92_1, qr_92_2, qr_92_3, qr_92_4, qr_98_0, qr_98_1, qr_107_0, qr_107_1, qr_107_2, qr_476_0, qr_476_1, qr_476_2, qtr_r, qSt_k _ _ hs2, e1, e2, Option.isSome_some, qb_t, fX6_tryToken_68, fX6_tryToken_82, e3]
    | false =>
      simp only [Bool.false_eq_true, ↓reduceIte] at e3
      simp (disch := omega) only [↓qlet, eq_self, qzg_t, qzb_some, ↓reduceIte, not_or, not_false_eq_true, not_true_eq_false, and_true, true_and, and_self, or_false, false_or, true_or, or_true, and_false, false_and, qlit, qneg, qof, qn_add, qn_mul, qn_s, qn_z, qn_d, qn_dz, qm_1, qt_1, qt_0, qb_0, qb_1, qb_01, qb01b, q01_0, q01_1, qo_s, qo_n, qn_c, qn_le, qn_lt, qn_eq, qn_ne_m, qm_ne_n, qm_lt, qm_le, qn_lt_m, qn_le_m, qn_sub, qn_div, qn_mod, qle_t, qle_f, qlt_t, qlt_f, qeq_t, qeq_f, Nat.add_sub_cancel, qC_I, qC_s, qU_s, qU_a, qU_k, qk_1, qk_2, qk_3, qk_4, qk_5, qk_6, qk_7, qk_68, qk_69, qk_70, qk_71, qk_72, qk_91, qk_92, qk_93, qk_94, qk_95, qk_96, qk_97, qk_98, qk_99, qk_100, qk_101, qk_102, qk_103, qk_104, qk_105, qk_106, qk_107, qk_108, qk_109, qk_476, qk_477, ql_3, ql_4, ql_5, ql_6, ql_7, ql_69, ql_70, ql_71, ql_72, ql_93, ql_94, ql_95, ql_96, ql_97, ql_99, ql_100, ql_101, ql_102, ql_103, ql_104, ql_105, ql_106, ql_108, ql_109, ql_477, qr_1_0, qr_1_1, qr_1_2, qr_1_3, qr_1_4, qr_1_5, qr_2_0, qr_2_1, qr_2_2, qr_2_3, qr_2_4, qr_68_0, qr_68_1, qr_91_0, qr_91_1, qr_91_2, qr_91_3, qr_91_4, qr_91_5, qr_91_6, qr_91_7, qr_91_10, qr_91_11, qr_91_14, qr_92_0, qr_92_1, qr_92_2, qr_92_3, qr_92_4, qr_98_0, qr_98_1, qr_107_0, qr_107_1, qr_107_2, qr_476_0, qr_476_1, qr_476_2, qtr_r, qSt_k _ _ hs2, e1, e2, Option.isSome_some, qb_t, qb_f, fX6_tryToken_68, fX6_tryToken_82, e3]
theorem cTry_88 (hg : qGok G) {g : Nat → Int32 → Int32 → zM → Option (Int32 × zM)} {l rd pt : Nat} (hgo : qHg w G ks g (l + 1)) (hl : rd + pt = l) (hl8 : l < 8) (hpt : pt < 2) (hrd : rd ≤ ks.length) (hz : qZok G Z) : ∀ n i m I f, n + i = 10 → n < m → qCG G I → qCK I 68 ks → qCZ I (478 + 3 * l) Z → I 476 3 = qn f → f ≤ 1000 → ∃ J, fX6_tryFrom_88 g m 476 (qn rd) (qn pt) (qn i) (qC w I) = some (qn 0, qC w J) ∧ J 476 3 = qn (min 1000 (f + qTg G (qDn G (2 - (pt + 1)) (ks.drop rd)) Z n i)) ∧ qFw (l + 1) I J := by
  intro n
  induction n with
  | zero =>
    intro i m I f h1 h2 hG hK hZ hf hf2
    obtain ⟨m, rfl⟩ : ∃ m', m = m' + 1 := ⟨m - 1, by omega⟩
    refine ⟨I, ?_, ?_, fun a _ _ => rfl⟩
    · unfold fX6_tryFrom_88
      simp (disch := omega) only [↓qlet, eq_self, qzg_t, qzb_some, ↓reduceIte, not_or, not_false_eq_true, not_true_eq_false, and_true, true_and, and_self, or_false, false_or, true_or, or_true, and_false, false_and, qlit, qneg, qof, qn_add, qn_mul, qn_s, qn_z, qn_d, qn_dz, qm_1, qt_1, qt_0, qb_0, qb_1, qb_01, qb01b, q01_0, q01_1, qo_s, qo_n, qn_c, qn_le, qn_lt, qn_eq, qn_ne_m, qm_ne_n, qm_lt, qm_le, qn_lt_m, qn_le_m, qn_sub, qn_div, qn_mod, qle_t, qle_f, qlt_t, qlt_f, qeq_t, qeq_f, Nat.add_sub_cancel, qC_I, qC_s, qU_s, qU_a, qU_k]
    · rw [hf]; unfold qTg; rw [show min 1000 (f + 0) = f by omega]
  | succ n ih =>
    intro i m I f h1 h2 hG hK hZ hf hf2
    obtain ⟨m, rfl⟩ : ∃ m', m = m' + 1 := ⟨m - 1, by omega⟩
    obtain ⟨-, -, -, -, -, gA, gB⟩ := hG i (by omega)
    -- START
    have hS : ∃ J f', (if qb (qgA G i) = 0 then fX6_tryFrom_123 g (fX6_tryFrom_88 g m) 476 (qn rd) (qn pt) (qn i) (qC w I) else zb (fX6_tryToken g 476 0 (qn i) (qn rd) (qn pt) 1 (qC w I)) fun r18 M19 => (fX6_tryFrom_123 g (fX6_tryFrom_88 g m) 476 (qn rd) (qn pt) (qn i) M19)) = fX6_tryFrom_123 g (fX6_tryFrom_88 g m) 476 (qn rd) (qn pt) (qn i) (qC w J) ∧ J 476 3 = qn f' ∧ f' = min 1000 (f + qTg1 G (qDn G (2 - (pt + 1)) (ks.drop rd)) Z (qgA G i) 0 i) ∧ qFw (l + 1) I J := by
      cases hA : qgA G i with
      | false =>
        refine ⟨I, f, ?_, hf, ?_, fun a _ _ => rfl⟩
        · simp (disch := omega) only [↓qlet, eq_self, qzg_t, qzb_some, ↓reduceIte, not_or, not_false_eq_true, not_true_eq_false, and_true, true_and, and_self, or_false, false_or, true_or, or_true, and_false, false_and, qlit, qneg, qof, qn_add, qn_mul, qn_s, qn_z, qn_d, qn_dz, qm_1, qt_1, qt_0, qb_0, qb_1, qb_01, qb01b, q01_0, q01_1, qo_s, qo_n, qn_c, qn_le, qn_lt, qn_eq, qn_ne_m, qm_ne_n, qm_lt, qm_le, qn_lt_m, qn_le_m, qn_sub, qn_div, qn_mod, qle_t, qle_f, qlt_t, qlt_f, qeq_t, qeq_f, Nat.add_sub_cancel, qC_I, qC_s, qU_s, qU_a, qU_k, qb_f]
        · unfold qTg1; simp; omega
      | true =>
        obtain ⟨J, e1, j1, j2⟩ := cTryTok (w := w) hg (b := true) (k := 0) (v := i) hgo hl hl8 (by omega) hrd (by simpa using hpt) (by omega) (fun _ => by omega) (by omega) hG hK hz hZ hf hf2
        refine ⟨J, _, ?_, j1, ?_, j2⟩
        · rw [qb_t] at e1
          simp (disch := omega) only [↓qlet, eq_self, qzg_t, qzb_some, ↓reduceIte, not_or, not_false_eq_true, not_true_eq_false, and_true, true_and, and_self, or_false, false_or, true_or, or_true, and_false, false_and, qlit, qneg, qof, qn_add, qn_mul, qn_s, qn_z, qn_d, qn_dz, qm_1, qt_1, qt_0, qb_0, qb_1, qb_01, qb01b, q01_0, q01_1, qo_s, qo_n, qn_c, qn_le, qn_lt, qn_eq, qn_ne_m, qm_ne_n, qm_lt, qm_le, qn_lt_m, qn_le_m, qn_sub, qn_div, qn_mod, qle_t, qle_f, qlt_t, qlt_f, qeq_t, qeq_f, Nat.add_sub_cancel, qC_I, qC_s, qU_s, qU_a, qU_k, qb_t, e1]
        · unfold qTg1; simp
    obtain ⟨J1, f1, e1, j1, hf1, k1⟩ := hS
    have hG1 : qCG G J1 := qCG_fr hG fun a ha => k1 a (by omega) (by omega)
    have hK1 : qCK J1 68 ks := qCK_fr hK (by rw [k1 _ (by omega) (by omega)]) (by rw [k1 _ (by omega) (by omega)]) (by rw [k1 _ (by omega) (by omega)])
    have hZ1 := qFw_Z k1 rfl hZ
    -- END
    have hE : ∃ J f', fX6_tryFrom_123 g (fX6_tryFrom_88 g m) 476 (qn rd) (qn pt) (qn i) (qC w J1) = fX6_tryFrom_88 g m 476 (qn rd) (qn pt) (qn (i + 1)) (qC w J) ∧ J 476 3 = qn f' ∧ f' = min 1000 (f1 + qTg1 G (qDn G (2 - (pt + 1)) (ks.drop rd)) Z (qgB G i) 1 i) ∧ qFw (l + 1) J1 J := by
      have gB1 : J1 7 i = qb (qgB G i) := (hG1 i (by omega)).2.2.2.2.2.2
      unfold fX6_tryFrom_123 fX6_tryFrom_146
      cases hB : qgB G i with
      | false =>
        rw [hB] at gB1
        refine ⟨J1, f1, ?_, j1, ?_, fun a _ _ => rfl⟩
        · simp (disch := omega) only [↓qlet, eq_self, qzg_t, qzb_some, ↓reduceIte, not_or, not_false_eq_true, not_true_eq_false, and_true, true_and, and_self, or_false, false_or, true_or, or_true, and_false, false_and, qlit, qneg, qof, qn_add, qn_mul, qn_s, qn_z, qn_d, qn_dz, qm_1, qt_1, qt_0, qb_0, qb_1, qb_01, qb01b, q01_0, q01_1, qo_s, qo_n, qn_c, qn_le, qn_lt, qn_eq, qn_ne_m, qm_ne_n, qm_lt, qm_le, qn_lt_m, qn_le_m, qn_sub, qn_div, qn_mod, qle_t, qle_f, qlt_t, qlt_f, qeq_t, qeq_f, Nat.add_sub_cancel, qC_I, qC_s, qU_s, qU_a, qU_k, qk_1, qk_2, qk_3, qk_4, qk_5, qk_6, qk_7, qk_68, qk_69, qk_70, qk_71, qk_72, qk_91, qk_92, qk_93, qk_94, qk_95, qk_96, qk_97, qk_98, qk_99, qk_100, qk_101, qk_102, qk_103, qk_104, qk_105, qk_106, qk_107, qk_108, qk_109, qk_476, qk_477, ql_3, ql_4, ql_5, ql_6, ql_7, ql_69, ql_70, ql_71, ql_72, ql_93, ql_94, ql_95, ql_96, ql_97, ql_99, ql_100, ql_101, ql_102, ql_103, ql_104, ql_105, ql_106, ql_108, ql_109, ql_477, qr_1_0, qr_1_1, qr_1_2, qr_1_3, qr_1_4, qr_1_5, qr_2_0, qr_2_1, qr_2_2, qr_2_3, qr_2_4, qr_68_0, qr_68_1, qr_91_0, qr_91_1, qr_91_2, qr_91_3, qr_91_4, qr_91_5, qr_91_6, qr_91_7, qr_91_10, qr_91_11, qr_91_14, qr_92_0, qr_92_1, qr_92_2, qr_92_3, qr_92_4, qr_98_0, qr_98_1, qr_107_0, qr_107_1, qr_107_2, qr_476_0, qr_476_1, qr_476_2, gB1, qb_f]
        · unfold qTg1; simp; omega
      | true =>
        rw [hB] at gB1
        obtain ⟨J, e1, j1, j2⟩ := cTryTok (w := w) hg (b := true) (k := 1) (v := i) hgo hl hl8 (by omega) hrd (by simpa using hpt) (by omega) (fun _ => by omega) (by omega) hG1 hK1 hz hZ1 j1 (by omega)
        refine ⟨J, _, ?_, j1, ?_, j2⟩
        · rw [qb_t] at e1
          simp (disch := omega) only [↓qlet, eq_self, qzg_t, qzb_some, ↓reduceIte, not_or, not_false_eq_true, not_true_eq_false, and_true, true_and, and_self, or_false, false_or, true_or, or_true, and_false, false_and, qlit, qneg, qof, qn_add, qn_mul, qn_s, qn_z, qn_d, qn_dz, qm_1, qt_1, qt_0, qb_0, qb_1, qb_01, qb01b, q01_0, q01_1, qo_s, qo_n, qn_c, qn_le, qn_lt, qn_eq, qn_ne_m, qm_ne_n, qm_lt, qm_le, qn_lt_m, qn_le_m, qn_sub, qn_div, qn_mod, qle_t, qle_f, qlt_t, qlt_f, qeq_t, qeq_f, Nat.add_sub_cancel, qC_I, qC_s, qU_s, qU_a, qU_k, qk_1, qk_2, qk_3, qk_4, qk_5, qk_6, qk_7, qk_68, qk_69, qk_70, qk_71, qk_72, qk_91, qk_92, qk_93, qk_94, qk_95, qk_96, qk_97, qk_98, qk_99, qk_100, qk_101, qk_102, qk_103, qk_104, qk_105, qk_106, qk_107, qk_108, qk_109, qk_476, qk_477, ql_3, ql_4, ql_5, ql_6, ql_7, ql_69, ql_70, ql_71, ql_72, ql_93, ql_94, ql_95, ql_96, ql_97, ql_99, ql_100, ql_101, ql_102, ql_103, ql_104, ql_105, ql_106, ql_108, ql_109, ql_477, qr_1_0, qr_1_1, qr_1_2, qr_1_3, qr_1_4, qr_1_5, qr_2_0, qr_2_1, qr_2_2, qr_2_3, qr_2_4, qr_68_0, qr_68_1, qr_91_0, qr_91_1, qr_91_2, qr_91_3, qr_91_4, qr_91_5, qr_91_6, qr_91_7, qr_91_10, qr_91_11, qr_91_14, qr_92_0, qr_92_1, qr_92_2, qr_92_3, qr_92_4, qr_98_0, qr_98_1, qr_107_0, qr_107_1, qr_107_2, qr_476_0, qr_476_1, qr_476_2, gB1, qb_t, e1]
        · unfold qTg1; simp
    obtain ⟨J2, f2, e2, j2, hf2', k2⟩ := hE
    have k12 := qFw_tr k1 k2 (Nat.le_refl _)
    obtain ⟨J3, e3, j3, k3⟩ := ih (i + 1) m J2 f2 (by omega) (by omega) (qCG_fr hG fun a ha => k12 a (by omega) (by omega)) (qCK_fr hK (by rw [k12 _ (by omega) (by omega)]) (by rw [k12 _ (by omega) (by omega)]) (by rw [k12 _ (by omega) (by omega)])) (qFw_Z k12 rfl hZ) j2 (by omega)
    refine ⟨J3, ?_, ?_, qFw_tr k12 k3 (Nat.le_refl _)⟩
    · rw [fX6_tryFrom_88]
      rw [← e3, ← e2, ← e1]
      simp (disch := omega) only [↓qlet, eq_self, qzg_t, qzb_some, ↓reduceIte, not_or, not_false_eq_true, not_true_eq_false, and_true, true_and, and_self, or_false, false_or, true_or, or_true, and_false, false_and, qlit, qneg, qof, qn_add, qn_mul, qn_s, qn_z, qn_d, qn_dz, qm_1, qt_1, qt_0, qb_0, qb_1, qb_01, qb01b, q01_0, q01_1, qo_s, qo_n, qn_c, qn_le, qn_lt, qn_eq, qn_ne_m, qm_ne_n, qm_lt, qm_le, qn_lt_m, qn_le_m, qn_sub, qn_div, qn_mod, qle_t, qle_f, qlt_t, qlt_f, qeq_t, qeq_f, Nat.add_sub_cancel, qC_I, qC_s, qU_s, qU_a, qU_k, qk_1, qk_2, qk_3, qk_4, qk_5, qk_6, qk_7, qk_68, qk_69, qk_70, qk_71, qk_72, qk_91, qk_92, qk_93, qk_94, qk_95, qk_96, qk_97, qk_98, qk_99, qk_100, qk_101, qk_102, qk_103, qk_104, qk_105, qk_106, qk_107, qk_108, qk_109, qk_476, qk_477, ql_3, ql_4, ql_5, ql_6, ql_7, ql_69, ql_70, ql_71, ql_72, ql_93, ql_94, ql_95, ql_96, ql_97, ql_99, ql_100, ql_101, ql_102, ql_103, ql_104, ql_105, ql_106, ql_108, ql_109, ql_477, qr_1_0, qr_1_1, qr_1_2, qr_1_3, qr_1_4, qr_1_5, qr_2_0, qr_2_1, qr_2_2, qr_2_3, qr_2_4, qr_68_0, qr_68_1, qr_91_0, qr_91_1, qr_91_2, qr_91_3, qr_91_4, qr_91_5, qr_91_6, qr_91_7, qr_91_10, qr_91_11, qr_91_14, qr_92_0, qr_92_1, qr_92_2, qr_92_3, qr_92_4, qr_98_0, qr_98_1, qr_107_0, qr_107_1, qr_107_2, qr_476_0, qr_476_1, qr_476_2, gA]
    · rw [j3]
      refine congrArg qn ?_
      simp only [qTg]
      omega
theorem cTry (hg : qGok G) (h6 : ks.length ≤ 6) (hkw : ∀ k ∈ ks, qKw k) : ∀ d l, l ≤ 8 → 8 < l + d → qHg w G ks (fX6_tryFrom d) l := by
  intro d
  induction d with
  | zero => intro l h1 h2; omega
  | succ d ih =>
    intro l h1 h2 rd pt Z I f hl hpt hrd hG hK hz hZ hf hf2
    have hs := qSt_W (i := l) (by omega)
    have hsum : qn rd + qn pt = qn l := by rw [qn_add, hl]
    rw [fX6_tryFrom]
    unfold fX6_tryFrom_b
    rw [hsum]
    by_cases c1000 : f < 1000
    · -- the token of the text, or the end
      have hT : ∃ J f', (if (zI (qC w I) (zR (qC w I) 476 1) 2) ≤ qn rd then zg (¬ (qn l < 0 ∨ zl (qC w I) (zR (qC w I) 476 2) ≤ (qn l).toNatClampNeg)) (zg (zk (qC w I) (zR (qC w I) (zR (qC w I) 476 2) (qn l).toNatClampNeg) = 4) (if (zI (qC w I) (zR (qC w I) (zR (qC w I) 476 2) (qn l).toNatClampNeg) 3) = 0 then zlet (zsI (qC w I) 476 3 ((zI (qC w I) 476 3) + 1)) fun M32 => (fX6_tryFrom_85 (fX6_tryFrom d) 476 (qn rd) (qn pt) M32) else fX6_tryFrom_85 (fX6_tryFrom d) 476 (qn rd) (qn pt) (qC w I))) else zg (zk (qC w I) (zR (qC w I) (zR (qC w I) 476 1) 0) = 100) (zg (¬ (qn rd < 0 ∨ zl (qC w I) (zR (qC w I) (zR (qC w I) 476 1) 0) ≤ (qn rd).toNatClampNeg)) (zg (zk (qC w I) (zR (qC w I) (zR (qC w I) 476 1) 1) = 100) (zg (¬ (qn rd < 0 ∨ zl (qC w I) (zR (qC w I) (zR (qC w I) 476 1) 1) ≤ (qn rd).toNatClampNeg)) (zb (fX6_tryToken (fX6_tryFrom d) 476 (zI (qC w I) (zR (qC w I) (zR (qC w I) 476 1) 0) (qn rd).toNatClampNeg) (zI (qC w I) (zR (qC w I) (zR (qC w I) 476 1) 1) (qn rd).toNatClampNeg) (qn rd) (qn pt) 0 (qC w I)) fun r38 M39 => (fX6_tryFrom_85 (fX6_tryFrom d) 476 (qn rd) (qn pt) M39)))))) = fX6_tryFrom_85 (fX6_tryFrom d) 476 (qn rd) (qn pt) (qC w J) ∧ J 476 3 = qn f' ∧ f' = min 1000 (f + (match ks.drop rd with
          | [] => qEnd0 Z
          | t :: r => (match qWr G Z t.1 t.2.toNatClampNeg with
            | none => 0
            | some Z1 => qDn G (2 - pt) r Z1))) ∧ qFw (l + 1) I J := by
        rcases Nat.lt_or_ge rd ks.length with c | c
        · have hgi : ks[rd]? = some ks[rd] := List.getElem?_eq_getElem c
          obtain ⟨a1, a2⟩ := hK.2 rd _ hgi
          obtain ⟨w1, v, w2, w3, w4⟩ := hkw _ (List.mem_of_getElem? hgi)
          rw [w2] at a2
          have hdr : ks.drop rd = ks[rd] :: ks.drop (rd + 1) := by rw [List.getElem_cons_drop]
          obtain ⟨J, e1, j1, j2⟩ := cTryTok (w := w) hg (b := false) (k := ks[rd].1) (v := v) (ih (l + 1) (by omega) (by omega)) hl (by omega) hpt hrd (by simpa using c) w1 w4 w3 hG hK hz hZ hf hf2
          refine ⟨J, _, ?_, j1, ?_, j2⟩
          · rw [qb_f] at e1
            simp (disch := omega) only [↓qlet, eq_self, qzg_t, qzb_some, ↓reduceIte, not_or, not_false_eq_true, not_true_eq_false, and_true, true_and, and_self, or_false, false_or, true_or, or_true, and_false, false_and, qlit, qneg, qof, qn_add, qn_mul, qn_s, qn_z, qn_d, qn_dz, qm_1, qt_1, qt_0, qb_0, qb_1, qb_01, qb01b, q01_0, q01_1, qo_s, qo_n, qn_c, qn_le, qn_lt, qn_eq, qn_ne_m, qm_ne_n, qm_lt, qm_le, qn_lt_m, qn_le_m, qn_sub, qn_div, qn_mod, qle_t, qle_f, qlt_t, qlt_f, qeq_t, qeq_f, Nat.add_sub_cancel, qC_I, qC_s, qU_s, qU_a, qU_k, qk_1, qk_2, qk_3, qk_4, qk_5, qk_6, qk_7, qk_68, qk_69, qk_70, qk_71, qk_72, qk_91, qk_92, qk_93, qk_94, qk_95, qk_96, qk_97, qk_98, qk_99, qk_100, qk_101, qk_102, qk_103, qk_104, qk_105, qk_106, qk_107, qk_108, qk_109, qk_476, qk_477, ql_3, ql_4, ql_5, ql_6, ql_7, ql_69, ql_70, ql_71, ql_72, ql_93, ql_94, ql_95, ql_96, ql_97, ql_99, ql_100, ql_101, ql_102, ql_103, ql_104, ql_105, ql_106, ql_108, ql_109, ql_477, qr_1_0, qr_1_1, qr_1_2, qr_1_3, qr_1_4, qr_1_5, qr_2_0, qr_2_1, qr_2_2, qr_2_3, qr_2_4, qr_68_0, qr_68_1, qr_91_0, qr_91_1, qr_91_2, qr_91_3, qr_91_4, qr_91_5, qr_91_6, qr_91_7, qr_91_10, qr_91_11, qr_91_14, qr_92_0, qr_92_1, qr_92_2, qr_92_3, qr_92_4, qr_98_0, qr_98_1, qr_107_0, qr_107_1, qr_107_2, qr_476_0, qr_476_1, qr_476_2, hK.1, a1, a2, e1]
          · rw [hdr]
            have e9 : (qn v).toNatClampNeg = v := qn_c (by omega)
            simp only [Bool.false_eq_true, ↓reduceIte, w2, e9]
        · rw [List.drop_of_length_le c]
          have hd := hZ.1
          have hzl := hz.1
          by_cases c0 : Z.1 = []
          · rw [c0] at hd
            refine ⟨qU I 476 3 (qn (f + 1)), f + 1, ?_, qU_s .., ?_, fun a _ h => qU_r h⟩
            · simp (disch := omega) only [↓qlet, eq_self, qzg_t, qzb_some, ↓reduceIte, not_or, not_false_eq_true, not_true_eq_false, and_true, true_and, and_self, or_false, false_or, true_or, or_true, and_false, false_and, qlit, qneg, qof, qn_add, qn_mul, qn_s, qn_z, qn_d, qn_dz, qm_1, qt_1, qt_0, qb_0, qb_1, qb_01, qb01b, q01_0, q01_1, qo_s, qo_n, qn_c, qn_le, qn_lt, qn_eq, qn_ne_m, qm_ne_n, qm_lt, qm_le, qn_lt_m, qn_le_m, qn_sub, qn_div, qn_mod, qle_t, qle_f, qlt_t, qlt_f, qeq_t, qeq_f, Nat.add_sub_cancel, qC_I, qC_s, qU_s, qU_a, qU_k, qk_1, qk_2, qk_3, qk_4, qk_5, qk_6, qk_7, qk_68, qk_69, qk_70, qk_71, qk_72, qk_91, qk_92, qk_93, qk_94, qk_95, qk_96, qk_97, qk_98, qk_99, qk_100, qk_101, qk_102, qk_103, qk_104, qk_105, qk_106, qk_107, qk_108, qk_109, qk_476, qk_477, ql_3, ql_4, ql_5, ql_6, ql_7, ql_69, ql_70, ql_71, ql_72, ql_93, ql_94, ql_95, ql_96, ql_97, ql_99, ql_100, ql_101, ql_102, ql_103, ql_104, ql_105, ql_106, ql_108, ql_109, ql_477, qr_1_0, qr_1_1, qr_1_2, qr_1_3, qr_1_4, qr_1_5, qr_2_0, qr_2_1, qr_2_2, qr_2_3, qr_2_4, qr_68_0, qr_68_1, qr_91_0, qr_91_1, qr_91_2, qr_91_3, qr_91_4, qr_91_5, qr_91_6, qr_91_7, qr_91_10, qr_91_11, qr_91_14, qr_92_0, qr_92_1, qr_92_2, qr_92_3, qr_92_4, qr_98_0, qr_98_1, qr_107_0, qr_107_1, qr_107_2, qr_476_0, qr_476_1, qr_476_2, hK.1, qtr_r, qSt_k _ _ hs, hd, List.length_nil, hf]
            · unfold qEnd0; rw [if_pos c0]; dsimp only; omega
          · have c3 : ¬ Z.1.length = 0 := fun e => c0 (List.length_eq_zero_iff.mp e)
            refine ⟨I, f, ?_, hf, ?_, fun a _ _ => rfl⟩
            · simp (disch := omega) only [↓qlet, eq_self, qzg_t, qzb_some, ↓reduceIte, not_or, not_false_eq_true, not_true_eq_false, and_true, true_and, and_self, or_false, false_or, true_or, or_true, and_false, false_and, qlit, qneg, qof, qn_add, qn_mul, qn_s, qn_z, qn_d, qn_dz, qm_1, qt_1, qt_0, qb_0, qb_1, qb_01, qb01b, q01_0, q01_1, qo_s, qo_n, qn_c, qn_le, qn_lt, qn_eq, qn_ne_m, qm_ne_n, qm_lt, qm_le, qn_lt_m, qn_le_m, qn_sub, qn_div, qn_mod, qle_t, qle_f, qlt_t, qlt_f, qeq_t, qeq_f, Nat.add_sub_cancel, qC_I, qC_s, qU_s, qU_a, qU_k, qk_1, qk_2, qk_3, qk_4, qk_5, qk_6, qk_7, qk_68, qk_69, qk_70, qk_71, qk_72, qk_91, qk_92, qk_93, qk_94, qk_95, qk_96, qk_97, qk_98, qk_99, qk_100, qk_101, qk_102, qk_103, qk_104, qk_105, qk_106, qk_107, qk_108, qk_109, qk_476, qk_477, ql_3, ql_4, ql_5, ql_6, ql_7, ql_69, ql_70, ql_71, ql_72, ql_93, ql_94, ql_95, ql_96, ql_97, ql_99, ql_100, ql_101, ql_102, ql_103, ql_104, ql_105, ql_106, ql_108, ql_109, ql_477, qr_1_0, qr_1_1, qr_1_2, qr_1_3, qr_1_4, qr_1_5, qr_2_0, qr_2_1, qr_2_2, qr_2_3, qr_2_4, qr_68_0, qr_68_1, qr_91_0, qr_91_1, qr_91_2, qr_91_3, qr_91_4, qr_91_5, qr_91_6, qr_91_7, qr_91_10, qr_91_11, qr_91_14, qr_92_0, qr_92_1, qr_92_2, qr_92_3, qr_92_4, qr_98_0, qr_98_1, qr_107_0, qr_107_1, qr_107_2, qr_476_0, qr_476_1, qr_476_2, hK.1, qtr_r, qSt_k _ _ hs, hd]
            · unfold qEnd0; rw [if_neg c0]; dsimp only; omega
      obtain ⟨J1, f1, e1, j1, hf1, k1⟩ := hT
      have hG1 : qCG G J1 := qCG_fr hG fun a ha => k1 a (by omega) (by omega)
      have hK1 : qCK J1 68 ks := qCK_fr hK (by rw [k1 _ (by omega) (by omega)]) (by rw [k1 _ (by omega) (by omega)]) (by rw [k1 _ (by omega) (by omega)])
      have hZ1 := qFw_Z k1 rfl hZ
      have hfin : ∃ J, fX6_tryFrom_85 (fX6_tryFrom d) 476 (qn rd) (qn pt) (qC w J1) = some (qn 0, qC w J) ∧ J 476 3 = qn (min 1000 (f + qDn G (2 - pt) (ks.drop rd) Z)) ∧ qFw (l + 1) J1 J := by
        unfold fX6_tryFrom_85
        by_cases c2 : pt < 2
        · obtain ⟨J, e2, j2, k2⟩ := cTry_88 (w := w) hg (ih (l + 1) (by omega) (by omega)) hl (by omega) c2 hrd hz 10 0 10000 J1 f1 (by omega) (by omega) hG1 hK1 hZ1 j1 (by omega)
          refine ⟨J, e2, ?_, k2⟩
          rw [j2, hf1]
          obtain ⟨q, hq⟩ : ∃ q, 2 - pt = q + 1 := ⟨1 - pt, by omega⟩
          rw [show 2 - (pt + 1) = q by omega, hq]
          refine congrArg qn ?_
          cases hdr : ks.drop rd with
          | nil => simp only [qDn, qDS]; omega
          | cons t r =>
            simp only [qDn, qDS]
            cases hw : qWr G Z t.1 t.2.toNatClampNeg with
            | none => simp only; omega
            | some Z1 => simp only; omega
        · have : pt = 2 := by omega
          subst this
          refine ⟨J1, ?_, ?_, fun a _ _ => rfl⟩
          · rw [show (10000 : Nat) = 9999 + 1 from rfl, fX6_tryFrom_88]
            simp (disch := omega) only [↓qlet, eq_self, qzg_t, qzb_some, ↓reduceIte, not_or, not_false_eq_true, not_true_eq_false, and_true, true_and, and_self, or_false, false_or, true_or, or_true, and_false, false_and, qlit, qneg, qof, qn_add, qn_mul, qn_s, qn_z, qn_d, qn_dz, qm_1, qt_1, qt_0, qb_0, qb_1, qb_01, qb01b, q01_0, q01_1, qo_s, qo_n, qn_c, qn_le, qn_lt, qn_eq, qn_ne_m, qm_ne_n, qm_lt, qm_le, qn_lt_m, qn_le_m, qn_sub, qn_div, qn_mod, qle_t, qle_f, qlt_t, qlt_f, qeq_t, qeq_f, Nat.add_sub_cancel, qC_I, qC_s, qU_s, qU_a, qU_k]
          · rw [j1, hf1]
            refine congrArg (fun y => qn (min 1000 (f + y))) ?_
            cases hdr : ks.drop rd with
            | nil => rfl
            | cons t r => rfl
      obtain ⟨J, e2, j2, k2⟩ := hfin
      refine ⟨J, ?_, j2, qFw_tr k1 k2 (Nat.le_refl _)⟩
      rw [← e2, ← e1]
      simp (disch := omega) only [↓qlet, eq_self, qzg_t, qzb_some, ↓reduceIte, not_or, not_false_eq_true, not_true_eq_false, and_true, true_and, and_self, or_false, false_or, true_or, or_true, and_false, false_and, qlit, qneg, qof, qn_add, qn_mul, qn_s, qn_z, qn_d, qn_dz, qm_1, qt_1, qt_0, qb_0, qb_1, qb_01, qb01b, q01_0, q01_1, qo_s, qo_n, qn_c, qn_le, qn_lt, qn_eq, qn_ne_m, qm_ne_n, qm_lt, qm_le, qn_lt_m, qn_le_m, qn_sub, qn_div, qn_mod, qle_t, qle_f, qlt_t, qlt_f, qeq_t, qeq_f, Nat.add_sub_cancel, qC_I, qC_s, qU_s, qU_a, qU_k, qk_1, qk_2, qk_3, qk_4, qk_5, qk_6, qk_7, qk_68, qk_69, qk_70, qk_71, qk_72, qk_91, qk_92, qk_93, qk_94, qk_95, qk_96, qk_97, qk_98, qk_99, qk_100, qk_101, qk_102, qk_103, qk_104, qk_105, qk_106, qk_107, qk_108, qk_109, qk_476, qk_477, ql_3, ql_4, ql_5, ql_6, ql_7, ql_69, ql_70, ql_71, ql_72, ql_93, ql_94, ql_95, ql_96, ql_97, ql_99, ql_100, ql_101, ql_102, ql_103, ql_104, ql_105, ql_106, ql_108, ql_109, ql_477, qr_1_0, qr_1_1, qr_1_2, qr_1_3, qr_1_4, qr_1_5, qr_2_0, qr_2_1, qr_2_2, qr_2_3, qr_2_4, qr_68_0, qr_68_1, qr_91_0, qr_91_1, qr_91_2, qr_91_3, qr_91_4, qr_91_5, qr_91_6, qr_91_7, qr_91_10, qr_91_11, qr_91_14, qr_92_0, qr_92_1, qr_92_2, qr_92_3, qr_92_4, qr_98_0, qr_98_1, qr_107_0, qr_107_1, qr_107_2, qr_476_0, qr_476_1, qr_476_2, hf]
    · refine ⟨I, ?_, by rw [hf]; refine congrArg qn ?_; omega, fun a _ _ => rfl⟩
      simp (disch := omega) only [↓qlet, eq_self, qzg_t, qzb_some, ↓reduceIte, not_or, not_false_eq_true, not_true_eq_false, and_true, true_and, and_self, or_false, false_or, true_or, or_true, and_false, false_and, qlit, qneg, qof, qn_add, qn_mul, qn_s, qn_z, qn_d, qn_dz, qm_1, qt_1, qt_0, qb_0, qb_1, qb_01, qb01b, q01_0, q01_1, qo_s, qo_n, qn_c, qn_le, qn_lt, qn_eq, qn_ne_m, qm_ne_n, qm_lt, qm_le, qn_lt_m, qn_le_m, qn_sub, qn_div, qn_mod, qle_t, qle_f, qlt_t, qlt_f, qeq_t, qeq_f, Nat.add_sub_cancel, qC_I, qC_s, qU_s, qU_a, qU_k, qk_1, qk_2, qk_3, qk_4, qk_5, qk_6, qk_7, qk_68, qk_69, qk_70, qk_71, qk_72, qk_91, qk_92, qk_93, qk_94, qk_95, qk_96, qk_97, qk_98, qk_99, qk_100, qk_101, qk_102, qk_103, qk_104, qk_105, qk_106, qk_107, qk_108, qk_109, qk_476, qk_477, ql_3, ql_4, ql_5, ql_6, ql_7, ql_69, ql_70, ql_71, ql_72, ql_93, ql_94, ql_95, ql_96, ql_97, ql_99, ql_100, ql_101, ql_102, ql_103, ql_104, ql_105, ql_106, ql_108, ql_109, ql_477, qr_1_0, qr_1_1, qr_1_2, qr_1_3, qr_1_4, qr_1_5, qr_2_0, qr_2_1, qr_2_2, qr_2_3, qr_2_4, qr_68_0, qr_68_1, qr_91_0, qr_91_1, qr_91_2, qr_91_3, qr_91_4, qr_91_5, qr_91_6, qr_91_7, qr_91_10, qr_91_11, qr_91_14, qr_92_0, qr_92_1, qr_92_2, qr_92_3, qr_92_4, qr_98_0, qr_98_1, qr_107_0, qr_107_1, qr_107_2, qr_476_0, qr_476_1, qr_476_2, hf]
variable {A : qA}
/-- ways: only for a short text of tags and data -/
def qoWays (A : qA) : Nat × Int32 := if A.2.2.2.1.length ≤ 6 ∧ (A.2.2.2.1.all fun k => k.1 == 0 || k.1 == 1 || k.1 == 4) = true then (0, qn (qWay A)) else (3, qn 0)
theorem cWays_24 (hA : qCA w I A) {r : Nat × Int32 × zM} (h75 : fX7_ways_75 1 (qC w I) = some r) : ∀ d i m, d < m → i + d = A.2.2.2.1.length → fX7_ways_24 m 1 (qn i) (qC w I) = some (if ((A.2.2.2.1.drop i).all fun k => k.1 == 0 || k.1 == 1 || k.1 == 4) = true then r else (3, qn 0, qC w I)) := by
  have hn := hA.1.2.2.1
  have hk := hA.1.2.2.2
  have hK := hA.2.1.2.2
  intro d
  induction d with
  | zero =>
    intro i m h1 h2
    obtain ⟨m, rfl⟩ : ∃ m', m = m' + 1 := ⟨m - 1, by omega⟩
    unfold fX7_ways_24
    rw [List.drop_of_length_le (by omega)]
    simp (disch := omega) only [↓qlet, eq_self, qzg_t, qzb_some, ↓reduceIte, not_or, not_false_eq_true, not_true_eq_false, and_true, true_and, and_self, or_false, false_or, true_or, or_true, and_false, false_and, qlit, qneg, qof, qn_add, qn_mul, qn_s, qn_z, qn_d, qn_dz, qm_1, qt_1, qt_0, qb_0, qb_1, qb_01, qb01b, q01_0, q01_1, qo_s, qo_n, qn_c, qn_le, qn_lt, qn_eq, qn_ne_m, qm_ne_n, qm_lt, qm_le, qn_lt_m, qn_le_m, qn_sub, qn_div, qn_mod, qle_t, qle_f, qlt_t, qlt_f, qeq_t, qeq_f, Nat.add_sub_cancel, qC_I, qC_s, qU_s, qU_a, qU_k, qk_1, qk_2, qk_3, qk_4, qk_5, qk_6, qk_7, qk_68, qk_69, qk_70, qk_71, qk_72, qk_91, qk_92, qk_93, qk_94, qk_95, qk_96, qk_97, qk_98, qk_99, qk_100, qk_101, qk_102, qk_103, qk_104, qk_105, qk_106, qk_107, qk_108, qk_109, qk_476, qk_477, qr_1_0, qr_1_1, qr_1_2, qr_1_3, qr_1_4, qr_1_5, qr_2_0, qr_2_1, qr_2_2, qr_2_3, qr_2_4, qr_68_0, qr_68_1, qr_91_0, qr_91_1, qr_91_2, qr_91_3, qr_91_4, qr_91_5, qr_91_6, qr_91_7, qr_91_10, qr_91_11, qr_91_14, qr_92_0, qr_92_1, qr_92_2, qr_92_3, qr_92_4, qr_98_0, qr_98_1, qr_107_0, qr_107_1, qr_107_2, qr_476_0, qr_476_1, qr_476_2, hK.1, h75, List.all_nil]
  | succ d ih =>
    intro i m h1 h2
    obtain ⟨m, rfl⟩ : ∃ m', m = m' + 1 := ⟨m - 1, by omega⟩
    have hil : i < A.2.2.2.1.length := by omega
    have hgi : A.2.2.2.1[i]? = some A.2.2.2.1[i] := List.getElem?_eq_getElem hil
    obtain ⟨a1, a2⟩ := hK.2 i _ hgi
    have h8 := (hk _ (List.mem_of_getElem? hgi)).1
    have hdr : A.2.2.2.1.drop i = A.2.2.2.1[i] :: A.2.2.2.1.drop (i + 1) := by rw [List.getElem_cons_drop]
    have ih := ih (i + 1) m (by omega) (by omega)
    unfold fX7_ways_24 fX7_ways_69 fX7_ways_59
    rw [hdr, List.all_cons]
    by_cases c : A.2.2.2.1[i].1 = 0 ∨ A.2.2.2.1[i].1 = 1 ∨ A.2.2.2.1[i].1 = 4
    · have e : (A.2.2.2.1[i].1 == 0 || A.2.2.2.1[i].1 == 1 || A.2.2.2.1[i].1 == 4) = true := by rcases c with c | c | c <;> rw [c] <;> rfl
      rw [e, Bool.true_and]
      rcases c with c | c | c <;> rw [c] at a1 <;> simp (disch := omega) only [↓qlet, eq_self, qzg_t, qzb_some, ↓reduceIte, not_or, not_false_eq_true, not_true_eq_false, and_true, true_and, and_self, or_false, false_or, true_or, or_true, and_false, false_and, qlit, qneg, qof, qn_add, qn_mul, qn_s, qn_z, qn_d, qn_dz, qm_1, qt_1, qt_0, qb_0, qb_1, qb_01, qb01b, q01_0, q01_1, qo_s, qo_n, qn_c, qn_le, qn_lt, qn_eq, qn_ne_m, qm_ne_n, qm_lt, qm_le, qn_lt_m, qn_le_m, qn_sub, qn_div, qn_mod, qle_t, qle_f, qlt_t, qlt_f, qeq_t, qeq_f, Nat.add_sub_cancel, qC_I, qC_s, qU_s, qU_a, qU_k, qk_1, qk_2, qk_3, qk_4, qk_5, qk_6, qk_7, qk_68, qk_69, qk_70, qk_71, qk_72, qk_91, qk_92, qk_93, qk_94, qk_95, qk_96, qk_97, qk_98, qk_99, qk_100, qk_101, qk_102, qk_103, qk_104, qk_105, qk_106, qk_107, qk_108, qk_109, qk_476, qk_477, ql_3, ql_4, ql_5, ql_6, ql_7, ql_69, ql_70, ql_71, ql_72, ql_93, ql_94, ql_95, ql_96, ql_97, ql_99, ql_100, ql_101, ql_102, ql_103, ql_104, ql_105, ql_106, ql_108, ql_109, ql_477, qr_1_0, qr_1_1, qr_1_2, qr_1_3, qr_1_4, qr_1_5, qr_2_0, qr_2_1, qr_2_2, qr_2_3, qr_2_4, qr_68_0, qr_68_1, qr_91_0, qr_91_1, qr_91_2, qr_91_3, qr_91_4, qr_91_5, qr_91_6, qr_91_7, qr_91_10, qr_91_11, qr_91_14, qr_92_0, qr_92_1, qr_92_2, qr_92_3, qr_92_4, qr_98_0, qr_98_1, qr_107_0, qr_107_1, qr_107_2, qr_476_0, qr_476_1, qr_476_2, hK.1, a1] <;> exact ih
    · have e : (A.2.2.2.1[i].1 == 0 || A.2.2.2.1[i].1 == 1 || A.2.2.2.1[i].1 == 4) = false := by
        simp only [Bool.or_eq_false_iff, beq_eq_false_iff_ne, ne_eq]
        exact ⟨⟨fun e => c (Or.inl e), fun e => c (Or.inr (Or.inl e))⟩, fun e => c (Or.inr (Or.inr e))⟩
      rw [e, Bool.false_and]
      simp (disch := omega) only [↓qlet, eq_self, qzg_t, qzb_some, ↓reduceIte, not_or, not_false_eq_true, not_true_eq_false, and_true, true_and, and_self, or_false, false_or, true_or, or_true, and_false, false_and, qlit, qneg, qof, qn_add, qn_mul, qn_s, qn_z, qn_d, qn_dz, qm_1, qt_1, qt_0, qb_0, qb_1, qb_01, qb01b, q01_0, q01_1, qo_s, qo_n, qn_c, qn_le, qn_lt, qn_eq, qn_ne_m, qm_ne_n, qm_lt, qm_le, qn_lt_m, qn_le_m, qn_sub, qn_div, qn_mod, qle_t, qle_f, qlt_t, qlt_f, qeq_t, qeq_f, Nat.add_sub_cancel, qC_I, qC_s, qU_s, qU_a, qU_k, qk_1, qk_2, qk_3, qk_4, qk_5, qk_6, qk_7, qk_68, qk_69, qk_70, qk_71, qk_72, qk_91, qk_92, qk_93, qk_94, qk_95, qk_96, qk_97, qk_98, qk_99, qk_100, qk_101, qk_102, qk_103, qk_104, qk_105, qk_106, qk_107, qk_108, qk_109, qk_476, qk_477, ql_3, ql_4, ql_5, ql_6, ql_7, ql_69, ql_70, ql_71, ql_72, ql_93, ql_94, ql_95, ql_96, ql_97, ql_99, ql_100, ql_101, ql_102, ql_103, ql_104, ql_105, ql_106, ql_108, ql_109, ql_477, qr_1_0, qr_1_1, qr_1_2, qr_1_3, qr_1_4, qr_1_5, qr_2_0, qr_2_1, qr_2_2, qr_2_3, qr_2_4, qr_68_0, qr_68_1, qr_91_0, qr_91_1, qr_91_2, qr_91_3, qr_91_4, qr_91_5, qr_91_6, qr_91_7, qr_91_10, qr_91_11, qr_91_14, qr_92_0, qr_92_1, qr_92_2, qr_92_3, qr_92_4, qr_98_0, qr_98_1, qr_107_0, qr_107_1, qr_107_2, qr_476_0, qr_476_1, qr_476_2, hK.1, a1]
      rfl
theorem qKok_kw {k : qK} (h : qKok k) (c : k.1 = 0 ∨ k.1 = 1 ∨ k.1 = 4) : qKw k := by
  refine ⟨by omega, ?_⟩
  by_cases c4 : k.1 = 4
  · obtain ⟨n, h1, h2, h3⟩ := h.2.2.1 c4
    exact ⟨n, h3, by omega, fun e => absurd c4 e⟩
  · obtain ⟨n, h1, h2⟩ := h.2.1 (by omega)
    exact ⟨n, h2, by omega, fun _ => h1⟩
theorem cWaysQ (hA : qCA w I A) : ∃ J, fX7_ways 1 (qC w I) = some ((qoWays A).1, (qoWays A).2, qC w J) ∧ qCA w J A := by
  have hn := hA.1.2.2.1
  have hk := hA.1.2.2.2
  have hK := hA.2.1.2.2
  have hG := hA.2.1.1
  have hg := hA.1.1
  unfold fX7_ways
  by_cases c6 : A.2.2.2.1.length ≤ 6
  · by_cases ca : (A.2.2.2.1.all fun k => k.1 == 0 || k.1 == 1 || k.1 == 4) = true
    · rw [show qoWays A = (0, qn (qWay A)) from if_pos ⟨c6, ca⟩]
      have hkw : ∀ k ∈ A.2.2.2.1, qKw k := by
        intro k hm
        have := List.all_eq_true.mp ca k hm
        simp only [Bool.or_eq_true, beq_iff_eq] at this
        exact qKok_kw (hk k hm) (by omega)
      have hs := qSt_W (i := 0) (by omega)
      obtain ⟨I1, hI1⟩ : ∃ I1, I1 = qU I 476 3 (qn 0) := ⟨_, rfl⟩
      have f0 : ∀ a, a ≠ 476 → I1 a = I a := fun a h => by rw [hI1, qU_r h]
      obtain ⟨I2, e2, z2, m2, f2⟩ := cRestart (w := w) (I := I1) hs
      have fA : ∀ a, a < 476 → I2 a = I a := fun a h => by rw [f2 a (by omega), f0 a (by omega)]
      obtain ⟨J, e3, j3, k3⟩ := cTry (w := w) hg c6 hkw 12 0 (by omega) (by omega) 0 0 qZ0 I2 0 rfl (by omega) (by omega) (qCG_fr hG fun a ha => fA a (by omega)) (qCK_fr hK (by rw [fA _ (by omega)]) (by rw [fA _ (by omega)]) (by rw [fA _ (by omega)])) qZ0_ok z2 (by rw [f2 476 (by omega), hI1, qU_s]) (by omega)
      have hJ : ∀ a, a < 476 → J a = I a := fun a h => by rw [k3 a (by omega) (by omega), fA a h]
      refine ⟨J, ?_, qCA_st hA fun a ha => hJ a (by omega)⟩
      have h75 : fX7_ways_75 1 (qC w I) = some (0, qn (qWay A), qC w J) := by
        unfold fX7_ways_75 fX6_countWays
        rw [List.drop_zero, Nat.zero_add] at j3
        have j4 : J 476 3 = qn (qWay A) := j3
        have e478 : (478 + 3 * 0 : Nat) = 478 := rfl
        simp only [Nat.mul_zero, Nat.add_zero] at e2 hs
        have hr := qtr_r w I1 (i := 0) (by omega)
        simp only [Nat.mul_zero, Nat.add_zero] at hr
        simp (disch := omega) only [↓qlet, eq_self, qzg_t, qzb_some, ↓reduceIte, not_or, not_false_eq_true, not_true_eq_false, and_true, true_and, and_self, or_false, false_or, true_or, or_true, and_false, false_and, qlit, qneg, qof, qn_add, qn_mul, qn_s, qn_z, qn_d, qn_dz, qm_1, qt_1, qt_0, qb_0, qb_1, qb_01, qb01b, q01_0, q01_1, qo_s, qo_n, qn_c, qn_le, qn_lt, qn_eq, qn_ne_m, qm_ne_n, qm_lt, qm_le, qn_lt_m, qn_le_m, qn_sub, qn_div, qn_mod, qle_t, qle_f, qlt_t, qlt_f, qeq_t, qeq_f, Nat.add_sub_cancel, qC_I, qC_s, qU_s, qU_a, qU_k, qk_1, qk_2, qk_3, qk_4, qk_5, qk_6, qk_7, qk_68, qk_69, qk_70, qk_71, qk_72, qk_91, qk_92, qk_93, qk_94, qk_95, qk_96, qk_97, qk_98, qk_99, qk_100, qk_101, qk_102, qk_103, qk_104, qk_105, qk_106, qk_107, qk_108, qk_109, qk_476, qk_477, ql_3, ql_4, ql_5, ql_6, ql_7, ql_69, ql_70, ql_71, ql_72, ql_93, ql_94, ql_95, ql_96, ql_97, ql_99, ql_100, ql_101, ql_102, ql_103, ql_104, ql_105, ql_106, ql_108, ql_109, ql_477, qr_1_0, qr_1_1, qr_1_2, qr_1_3, qr_1_4, qr_1_5, qr_2_0, qr_2_1, qr_2_2, qr_2_3, qr_2_4, qr_68_0, qr_68_1, qr_91_0, qr_91_1, qr_91_2, qr_91_3, qr_91_4, qr_91_5, qr_91_6, qr_91_7, qr_91_10, qr_91_11, qr_91_14, qr_92_0, qr_92_1, qr_92_2, qr_92_3, qr_92_4, qr_98_0, qr_98_1, qr_107_0, qr_107_1, qr_107_2, qr_476_0, qr_476_1, qr_476_2, ← hI1, hr, qSt_k _ _ hs, e2, e3, j4]
      have h24 := cWays_24 hA h75 A.2.2.2.1.length 0 10000 (by omega) (by omega)
      rw [List.drop_zero, if_pos ca] at h24
      simp (disch := omega) only [↓qlet, eq_self, qzg_t, qzb_some, ↓reduceIte, not_or, not_false_eq_true, not_true_eq_false, and_true, true_and, and_self, or_false, false_or, true_or, or_true, and_false, false_and, qlit, qneg, qof, qn_add, qn_mul, qn_s, qn_z, qn_d, qn_dz, qm_1, qt_1, qt_0, qb_0, qb_1, qb_01, qb01b, q01_0, q01_1, qo_s, qo_n, qn_c, qn_le, qn_lt, qn_eq, qn_ne_m, qm_ne_n, qm_lt, qm_le, qn_lt_m, qn_le_m, qn_sub, qn_div, qn_mod, qle_t, qle_f, qlt_t, qlt_f, qeq_t, qeq_f, Nat.add_sub_cancel, qC_I, qC_s, qU_s, qU_a, qU_k, qk_1, qk_2, qk_3, qk_4, qk_5, qk_6, qk_7, qk_68, qk_69, qk_70, qk_71, qk_72, qk_91, qk_92, qk_93, qk_94, qk_95, qk_96, qk_97, qk_98, qk_99, qk_100, qk_101, qk_102, qk_103, qk_104, qk_105, qk_106, qk_107, qk_108, qk_109, qk_476, qk_477, qr_1_0, qr_1_1, qr_1_2, qr_1_3, qr_1_4, qr_1_5, qr_2_0, qr_2_1, qr_2_2, qr_2_3, qr_2_4, qr_68_0, qr_68_1, qr_91_0, qr_91_1, qr_91_2, qr_91_3, qr_91_4, qr_91_5, qr_91_6, qr_91_7, qr_91_10, qr_91_11, qr_91_14, qr_92_0, qr_92_1, qr_92_2, qr_92_3, qr_92_4, qr_98_0, qr_98_1, qr_107_0, qr_107_1, qr_107_2, qr_476_0, qr_476_1, qr_476_2, hK.1]
      exact h24
    · rw [show qoWays A = (3, qn 0) from if_neg (fun h => ca h.2)]
      refine ⟨I, ?_, hA⟩
      -- a token that ways cannot have
      have hno : ∀ d i m, d < m → i + d = A.2.2.2.1.length → ¬ ((A.2.2.2.1.drop i).all fun k => k.1 == 0 || k.1 == 1 || k.1 == 4) = true → fX7_ways_24 m 1 (qn i) (qC w I) = some (3, qn 0, qC w I) := by
        intro d
        induction d with
        | zero =>
          intro i m h1 h2 h3
          rw [List.drop_of_length_le (by omega)] at h3
          exact absurd rfl h3
        | succ d ih =>
          intro i m h1 h2 h3
          obtain ⟨m, rfl⟩ : ∃ m', m = m' + 1 := ⟨m - 1, by omega⟩
          have hil : i < A.2.2.2.1.length := by omega
          have hgi : A.2.2.2.1[i]? = some A.2.2.2.1[i] := List.getElem?_eq_getElem hil
          obtain ⟨a1, a2⟩ := hK.2 i _ hgi
          have h8 := (hk _ (List.mem_of_getElem? hgi)).1
          have hdr : A.2.2.2.1.drop i = A.2.2.2.1[i] :: A.2.2.2.1.drop (i + 1) := by rw [List.getElem_cons_drop]
          rw [hdr, List.all_cons] at h3
          unfold fX7_ways_24 fX7_ways_69 fX7_ways_59
          by_cases c : A.2.2.2.1[i].1 = 0 ∨ A.2.2.2.1[i].1 = 1 ∨ A.2.2.2.1[i].1 = 4
          · have e : (A.2.2.2.1[i].1 == 0 || A.2.2.2.1[i].1 == 1 || A.2.2.2.1[i].1 == 4) = true := by rcases c with c | c | c <;> rw [c] <;> rfl
            rw [e, Bool.true_and] at h3
            have ih := ih (i + 1) m (by omega) (by omega) h3
            rcases c with c | c | c <;> rw [c] at a1 <;> simp (disch := omega) only [↓qlet, eq_self, qzg_t, qzb_some, ↓reduceIte, not_or, not_false_eq_true, not_true_eq_false, and_true, true_and, and_self, or_false, false_or, true_or, or_true, and_false, false_and, qlit, qneg, qof, qn_add, qn_mul, qn_s, qn_z, qn_d, qn_dz, qm_1, qt_1, qt_0, qb_0, qb_1, qb_01, qb01b, q01_0, q01_1, qo_s, qo_n, qn_c, qn_le, qn_lt, qn_eq, qn_ne_m, qm_ne_n, qm_lt, qm_le, qn_lt_m, qn_le_m, qn_sub, qn_div, qn_mod, qle_t, qle_f, qlt_t, qlt_f, qeq_t, qeq_f, Nat.add_sub_cancel, qC_I, qC_s, qU_s, qU_a, qU_k, qk_1, qk_2, qk_3, qk_4, qk_5, qk_6, qk_7, qk_68, qk_69, qk_70, qk_71, qk_72, qk_91, qk_92, qk_93, qk_94, qk_95, qk_96, qk_97, qk_98, qk_99, qk_100, qk_101, qk_102, qk_103, qk_104, qk_105, qk_106, qk_107, qk_108, qk_109, qk_476, qk_477, ql_3, ql_4, ql_5, ql_6, ql_7, ql_69, ql_70, ql_71, ql_72, ql_93, ql_94, ql_95, ql_96, ql_97, ql_99, ql_100, ql_101, ql_102, ql_103, ql_104, ql_105, ql_106, ql_108, ql_109, ql_477, qr_1_0, qr_1_1, qr_1_2, qr_1_3, qr_1_4, qr_1_5, qr_2_0, qr_2_1, qr_2_2, qr_2_3, qr_2_4, qr_68_0, qr_68_1, qr_91_0, qr_91_1, qr_91_2, qr_91_3, qr_91_4, qr_91_5, qr_91_6, qr_91_7, qr_91_10, qr_91_11, qr_91_14, qr_92_0, qr_92_1, qr_92_2, qr_92_3, qr_92_4, qr_98_0, qr_98_1, qr_107_0, qr_107_1, qr_107_2, qr_476_0, qr_476_1, qr_476_2, hK.1, a1] <;> exact ih
          · simp (disch := omega) only [↓qlet, eq_self, qzg_t, qzb_some, ↓reduceIte, not_or, not_false_eq_true, not_true_eq_false, and_true, true_and, and_self, or_false, false_or, true_or, or_true, and_false, false_and, qlit, qneg, qof, qn_add, qn_mul, qn_s, qn_z, qn_d, qn_dz, qm_1, qt_1, qt_0, qb_0, qb_1, qb_01, qb01b, q01_0, q01_1, qo_s, qo_n, qn_c, qn_le, qn_lt, qn_eq, qn_ne_m, qm_ne_n, qm_lt, qm_le, qn_lt_m, qn_le_m, qn_sub, qn_div, qn_mod, qle_t, qle_f, qlt_t, qlt_f, qeq_t, qeq_f, Nat.add_sub_cancel, qC_I, qC_s, qU_s, qU_a, qU_k, qk_1, qk_2, qk_3, qk_4, qk_5, qk_6, qk_7, qk_68, qk_69, qk_70, qk_71, qk_72, qk_91, qk_92, qk_93, qk_94, qk_95, qk_96, qk_97, qk_98, qk_99, qk_100, qk_101, qk_102, qk_103, qk_104, qk_105, qk_106, qk_107, qk_108, qk_109, qk_476, qk_477, ql_3, ql_4, ql_5, ql_6, ql_7, ql_69, ql_70, ql_71, ql_72, ql_93, ql_94, ql_95, ql_96, ql_97, ql_99, ql_100, ql_101, ql_102, ql_103, ql_104, ql_105, ql_106, ql_108, ql_109, ql_477, qr_1_0, qr_1_1, qr_1_2, qr_1_3, qr_1_4, qr_1_5, qr_2_0, qr_2_1, qr_2_2, qr_2_3, qr_2_4, qr_68_0, qr_68_1, qr_91_0, qr_91_1, qr_91_2, qr_91_3, qr_91_4, qr_91_5, qr_91_6, qr_91_7, qr_91_10, qr_91_11, qr_91_14, qr_92_0, qr_92_1, qr_92_2, qr_92_3, qr_92_4, qr_98_0, qr_98_1, qr_107_0, qr_107_1, qr_107_2, qr_476_0, qr_476_1, qr_476_2, hK.1, a1]
      simp (disch := omega) only [↓qlet, eq_self, qzg_t, qzb_some, ↓reduceIte, not_or, not_false_eq_true, not_true_eq_false, and_true, true_and, and_self, or_false, false_or, true_or, or_true, and_false, false_and, qlit, qneg, qof, qn_add, qn_mul, qn_s, qn_z, qn_d, qn_dz, qm_1, qt_1, qt_0, qb_0, qb_1, qb_01, qb01b, q01_0, q01_1, qo_s, qo_n, qn_c, qn_le, qn_lt, qn_eq, qn_ne_m, qm_ne_n, qm_lt, qm_le, qn_lt_m, qn_le_m, qn_sub, qn_div, qn_mod, qle_t, qle_f, qlt_t, qlt_f, qeq_t, qeq_f, Nat.add_sub_cancel, qC_I, qC_s, qU_s, qU_a, qU_k, qk_1, qk_2, qk_3, qk_4, qk_5, qk_6, qk_7, qk_68, qk_69, qk_70, qk_71, qk_72, qk_91, qk_92, qk_93, qk_94, qk_95, qk_96, qk_97, qk_98, qk_99, qk_100, qk_101, qk_102, qk_103, qk_104, qk_105, qk_106, qk_107, qk_108, qk_109, qk_476, qk_477, qr_1_0, qr_1_1, qr_1_2, qr_1_3, qr_1_4, qr_1_5, qr_2_0, qr_2_1, qr_2_2, qr_2_3, qr_2_4, qr_68_0, qr_68_1, qr_91_0, qr_91_1, qr_91_2, qr_91_3, qr_91_4, qr_91_5, qr_91_6, qr_91_7, qr_91_10, qr_91_11, qr_91_14, qr_92_0, qr_92_1, qr_92_2, qr_92_3, qr_92_4, qr_98_0, qr_98_1, qr_107_0, qr_107_1, qr_107_2, qr_476_0, qr_476_1, qr_476_2, hK.1]
      exact hno A.2.2.2.1.length 0 10000 (by omega) (by omega) (by rw [List.drop_zero]; exact ca)
  · rw [show qoWays A = (3, qn 0) from if_neg (fun h => c6 h.1)]
    refine ⟨I, ?_, hA⟩
    simp (disch := omega) only [↓qlet, eq_self, qzg_t, qzb_some, ↓reduceIte, not_or, not_false_eq_true, not_true_eq_false, and_true, true_and, and_self, or_false, false_or, true_or, or_true, and_false, false_and, qlit, qneg, qof, qn_add, qn_mul, qn_s, qn_z, qn_d, qn_dz, qm_1, qt_1, qt_0, qb_0, qb_1, qb_01, qb01b, q01_0, q01_1, qo_s, qo_n, qn_c, qn_le, qn_lt, qn_eq, qn_ne_m, qm_ne_n, qm_lt, qm_le, qn_lt_m, qn_le_m, qn_sub, qn_div, qn_mod, qle_t, qle_f, qlt_t, qlt_f, qeq_t, qeq_f, Nat.add_sub_cancel, qC_I, qC_s, qU_s, qU_a, qU_k, qk_1, qk_2, qk_3, qk_4, qk_5, qk_6, qk_7, qk_68, qk_69, qk_70, qk_71, qk_72, qk_91, qk_92, qk_93, qk_94, qk_95, qk_96, qk_97, qk_98, qk_99, qk_100, qk_101, qk_102, qk_103, qk_104, qk_105, qk_106, qk_107, qk_108, qk_109, qk_476, qk_477, qr_1_0, qr_1_1, qr_1_2, qr_1_3, qr_1_4, qr_1_5, qr_2_0, qr_2_1, qr_2_2, qr_2_3, qr_2_4, qr_68_0, qr_68_1, qr_91_0, qr_91_1, qr_91_2, qr_91_3, qr_91_4, qr_91_5, qr_91_6, qr_91_7, qr_91_10, qr_91_11, qr_91_14, qr_92_0, qr_92_1, qr_92_2, qr_92_3, qr_92_4, qr_98_0, qr_98_1, qr_107_0, qr_107_1, qr_107_2, qr_476_0, qr_476_1, qr_476_2, hK.1]
end
