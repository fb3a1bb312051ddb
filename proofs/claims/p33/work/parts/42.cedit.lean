/-! THE CLASS: insert, erase, normalize; how many tokens are read anew -/
def qAt (X : List (qZ × Nat)) (j : Nat) : qZ × Nat := (X.reverse[j]?).getD (qZ0, 0)
def qSame (X X0 : List (qZ × Nat)) (now before : Nat) : Bool := decide ((qAt X now).2 = 0 ∧ qAt X now = qAt X0 before)
def qStopAt (f : Nat → Bool) (c : Nat) : Nat → Nat → Nat
  | 0, s => s
  | n + 1, s => if s < c ∧ f s = false then qStopAt f c n (s + 1) else s
def qAnew (ks : List qK) (X X0 : List (qZ × Nat)) (pl first : Nat) (back : Bool) : Nat :=
  qStopAt (fun s => qSame X X0 s (if back = true then s - 1 else s + 1)) ks.length (ks.length + 1) (if qSo ks first = some 5 then first + 1 else first) - (if qAhead ks pl = some 5 then pl - 1 else pl)
def qoInsert (A : qA) (x s v : Int32) : Nat × Int32 × qA := match qin x (A.2.2.2.1.length + 1) with
  | none => qNo 1 A
  | some pl => if qKin s v = false then qNo 2 A else if 60 ≤ A.2.2.2.1.length then qNo 3 A else
    (0, qn (A.2.2.2.1.length + 1), A.1, A.2.1, A.2.2.1, qIns A.2.2.2.1 pl (s.toNatClampNeg, v), qAnew (qIns A.2.2.2.1 pl (s.toNatClampNeg, v)) (qFull A.1 A.2.1 A.2.2.1 (qIns A.2.2.2.1 pl (s.toNatClampNeg, v))).2 (qFA A).2 pl (pl + 1) true)
def qoErase (A : qA) (x : Int32) : Nat × Int32 × qA := match qin x A.2.2.2.1.length with
  | none => qNo 1 A
  | some pl => (0, qn (A.2.2.2.1.length - 1), A.1, A.2.1, A.2.2.1, qDel A.2.2.2.1 pl, qAnew (qDel A.2.2.2.1 pl) (qFull A.1 A.2.1 A.2.2.1 (qDel A.2.2.2.1 pl)).2 (qFA A).2 pl pl false)
def qoNormalize (A : qA) : Nat × Int32 × qA := if (qForm A.1 (qFA A).1.2.2.1).length ≤ 60 then (0, qn (qForm A.1 (qFA A).1.2.2.1).length, qNew (A.1, A.2.1, A.2.2.1, qForm A.1 (qFA A).1.2.2.1, 0)) else qNo 3 A
theorem qStopAt_ge (f : Nat → Bool) (c : Nat) : ∀ n s, s ≤ qStopAt f c n s ∧ qStopAt f c n s ≤ max s c := by
  intro n
  induction n with
  | zero => intro s; unfold qStopAt; omega
  | succ n ih =>
    intro s
    unfold qStopAt
    split
    · have := ih (s + 1); omega
    · omega
theorem qStopAt_t {f : Nat → Bool} {c n s : Nat} (h : f s = true) : qStopAt f c (n + 1) s = s := by
  unfold qStopAt
  rw [if_neg (fun h2 => by rw [h] at h2; exact absurd h2.2 (by decide))]
theorem qStopAt_f {f : Nat → Bool} {c n s : Nat} (hc : s < c) (h : f s = false) : qStopAt f c (n + 1) s = qStopAt f c n (s + 1) := by
  rw [qStopAt, if_pos ⟨hc, h⟩]
theorem qStopAt_o {f : Nat → Bool} {c n s : Nat} (hc : ¬ s < c) : qStopAt f c (n + 1) s = s := by
  unfold qStopAt
  rw [if_neg (fun h2 => hc h2.1)]
theorem qEnds_ok (G : qG) (p : Option Nat) : ∀ (W : List (Nat × Nat)) (F : List qK), (∀ x ∈ W, x.2 < 10) → (∀ k ∈ F, qKok k) → ∀ k ∈ qEnds p W F, qKok k := by
  intro W
  induction W with
  | nil => intro F _ h; exact h
  | cons x l ih =>
    intro F hW hF
    unfold qEnds
    split
    · exact hF
    · refine ih _ (fun y hy => hW y (by simp [hy])) fun k hk => ?_
      rcases List.mem_cons.mp hk with e | hk
      · subst e
        exact ⟨by dsimp only; omega, fun _ => ⟨x.2, hW x (by simp), rfl⟩, fun c => by dsimp only at c; omega, fun c => by dsimp only at c; omega, fun c => by dsimp only at c; omega⟩
      · exact hF k hk
/-- the normal form's tokens can be tokens of a text, where the letters are those of data -/
theorem qF_ok (G : qG) : ∀ th : List qT, (∀ t ∈ th, t.1 ≤ 10 ∧ (t.1 = 10 → 32 ≤ t.2.2.1 ∧ t.2.2.1 < 127)) → ∀ k ∈ qF G th, qKok k := by
  intro th
  induction th with
  | nil => intro _ k h; cases h
  | cons t l ih =>
    intro h k hk
    simp only [qF] at hk
    have ht := h t (by simp)
    rcases List.mem_cons.mp hk with e | hk
    · subst e
      split
      · next c => exact ⟨by dsimp only; omega, fun c => by dsimp only at c; omega, fun _ => ⟨t.2.2.1, (ht.2 c).1, (ht.2 c).2, rfl⟩, fun c => by dsimp only at c; omega, fun c => by dsimp only at c; omega⟩
      · next c => exact ⟨by dsimp only; omega, fun _ => ⟨t.1, by omega, rfl⟩, fun c => by dsimp only at c; omega, fun c => by dsimp only at c; omega, fun c => by dsimp only at c; omega⟩
    · exact qEnds_ok G _ _ _ (fun x hx => (qW_mem G l x hx).2.1) (ih fun y hy => h y (by simp [hy])) k hk
theorem qForm_ok (G : qG) (th : List qT) (h : ∀ t ∈ th, t.1 ≤ 10 ∧ (t.1 = 10 → 32 ≤ t.2.2.1 ∧ t.2.2.1 < 127)) : ∀ k ∈ qForm G th, qKok k := by
  intro k hk
  unfold qForm at hk
  rw [List.mem_reverse] at hk
  exact qEnds_ok G _ _ _ (fun x hx => (qW_mem G th x hx).2.1) (qF_ok G th h) k hk
section
variable {w : Bool} {I : Nat → Nat → Int32} {A : qA} {X X0 : List (qZ × Nat)} {G : qG}
theorem qCX_at (hX : qCX w I X) {j : Nat} (hj : j < X.length) : qAt X j ∈ X ∧ qCZ I (qSc w j) (qAt X j).1 ∧ I (qSc w j) 5 = qn (qAt X j).2 := by
  obtain ⟨x, hx, hg, hp⟩ := qAll_get hX j hj
  have e : qAt X j = x := by
    unfold qAt
    rw [List.getElem?_reverse hj, hg]
    rfl
  rw [e]
  exact ⟨hx, hp⟩
theorem cSame1 (hg : qGok G) (hX : qCX w I X) (hX0 : qCX (!w) I X0) (ok : qXok G X) (ok0 : qXok G X0) {s b : Nat} (hs : s < X.length) (hb : b < X0.length) (h61 : X.length ≤ 61) (h61' : X0.length ≤ 61) : fX2_isAsBefore 91 (qn s) (qn b) (qC w I) = some (qb (qSame X X0 s b), qC w I) := by
  obtain ⟨m1, z1, k1⟩ := qCX_at hX hs
  obtain ⟨m2, z2, k2⟩ := qCX_at hX0 hb
  have o1 := ok _ m1
  have o2 := ok0 _ m2
  have hS := qSt_c w (i := s) (by omega)
  have hB := qSt_c (!w) (i := b) (by omega)
  have hL := cLike (w := w) hS hB o1.1 z1 o2.1 z2 k1 k2 (by omega) (by omega) (fun x hx => (hg x hx).1) (fun x hx => (hg x hx).1)
  unfold fX2_isAsBefore qSame
  simp (disch := omega) only [↓qlet, eq_self, qzg_t, qzb_some, ↓reduceIte, not_or, not_false_eq_true, not_true_eq_false, and_true, true_and, and_self, or_false, false_or, true_or, or_true, and_false, false_and, qlit, qneg, qof, qn_add, qn_mul, qn_s, qn_z, qn_d, qn_dz, qm_1, qt_1, qt_0, qb_0, qb_1, qb_01, qb01b, q01_0, q01_1, qo_s, qo_n, qn_c, qn_le, qn_lt, qn_eq, qn_ne_m, qm_ne_n, qm_lt, qm_le, qn_lt_m, qn_le_m, qn_sub, qn_div, qn_mod, qle_t, qle_f, qlt_t, qlt_f, qeq_t, qeq_f, Nat.add_sub_cancel, qC_I, qC_s, qU_s, qU_a, qU_k, qk_1, qk_2, qk_3, qk_4, qk_5, qk_6, qk_7, qk_68, qk_69, qk_70, qk_71, qk_72, qk_91, qk_92, qk_93, qk_94, qk_95, qk_96, qk_97, qk_98, qk_99, qk_100, qk_101, qk_102, qk_103, qk_104, qk_105, qk_106, qk_107, qk_108, qk_109, qk_476, qk_477, qr_1_0, qr_1_1, qr_1_2, qr_1_3, qr_1_4, qr_1_5, qr_2_0, qr_2_1, qr_2_2, qr_2_3, qr_2_4, qr_68_0, qr_68_1, qr_91_0, qr_91_1, qr_91_2, qr_91_3, qr_91_4, qr_91_5, qr_91_6, qr_91_7, qr_91_10, qr_91_11, qr_91_14, qr_92_0, qr_92_1, qr_92_2, qr_92_3, qr_92_4, qr_98_0, qr_98_1, qr_107_0, qr_107_1, qr_107_2, qr_476_0, qr_476_1, qr_476_2, qSA_r, qSA_r2, qSA_k, qSA_l, qSA_c, qSt_k _ _ hS, k1, hL]
  by_cases c : (qAt X s).2 = 0
  · rw [if_pos c]
    by_cases c2 : (qAt X s).1 = (qAt X0 b).1 ∧ (qAt X s).2 = (qAt X0 b).2
    · have e : qAt X s = qAt X0 b := Prod.ext c2.1 c2.2
      simp [c, c2, e, qb]
      have : (qAt X0 b).2 = 0 := by rw [← e]; exact c
      simp [this]
    · have e : ¬ qAt X s = qAt X0 b := fun e => c2 (by rw [e]; exact ⟨rfl, rfl⟩)
      simp [c2, e, qb]
  · rw [if_neg c]
    simp [c, qb]
theorem cCount_44 (hg : qGok G) {ks : List qK} (hk : qCK I 68 ks) (hks : ks.length ≤ 60) (hX : qCX w I X) (hX0 : qCX (!w) I X0) (ok : qXok G X) (ok0 : qXok G X0) (h61 : X.length ≤ 61) (h61' : X0.length ≤ 61) (hXl : ks.length < X.length) (back : Bool) (hX0l : back = false → ks.length < X0.length) (hX0b : back = true → ks.length ≤ X0.length) (fr : Nat) : ∀ n s m, n < m → ks.length < s + n → (back = true → 1 ≤ s) → fr ≤ s → s ≤ 62 → fX2_countReadAnew_44 m 91 (if back = true then qm else qn 1) (qn fr) (qn s) (qC w I) = some (qn 0, qC w (qU I 91 16 (qn (qStopAt (fun s => qSame X X0 s (if back = true then s - 1 else s + 1)) ks.length n s - fr)))) := by
  intro n
  induction n with
  | zero =>
    intro s m h1 h2 h3 h4 h5
    obtain ⟨m, rfl⟩ : ∃ m', m = m' + 1 := ⟨m - 1, by omega⟩
    unfold fX2_countReadAnew_44 fX2_countReadAnew_75 qStopAt
    simp (disch := omega) only [↓qlet, eq_self, qzg_t, qzb_some, ↓reduceIte, not_or, not_false_eq_true, not_true_eq_false, and_true, true_and, and_self, or_false, false_or, true_or, or_true, and_false, false_and, qlit, qneg, qof, qn_add, qn_mul, qn_s, qn_z, qn_d, qn_dz, qm_1, qt_1, qt_0, qb_0, qb_1, qb_01, qb01b, q01_0, q01_1, qo_s, qo_n, qn_c, qn_le, qn_lt, qn_eq, qn_ne_m, qm_ne_n, qm_lt, qm_le, qn_lt_m, qn_le_m, qn_sub, qn_div, qn_mod, qle_t, qle_f, qlt_t, qlt_f, qeq_t, qeq_f, Nat.add_sub_cancel, qC_I, qC_s, qU_s, qU_a, qU_k, qk_1, qk_2, qk_3, qk_4, qk_5, qk_6, qk_7, qk_68, qk_69, qk_70, qk_71, qk_72, qk_91, qk_92, qk_93, qk_94, qk_95, qk_96, qk_97, qk_98, qk_99, qk_100, qk_101, qk_102, qk_103, qk_104, qk_105, qk_106, qk_107, qk_108, qk_109, qk_476, qk_477, qr_1_0, qr_1_1, qr_1_2, qr_1_3, qr_1_4, qr_1_5, qr_2_0, qr_2_1, qr_2_2, qr_2_3, qr_2_4, qr_68_0, qr_68_1, qr_91_0, qr_91_1, qr_91_2, qr_91_3, qr_91_4, qr_91_5, qr_91_6, qr_91_7, qr_91_10, qr_91_11, qr_91_14, qr_92_0, qr_92_1, qr_92_2, qr_92_3, qr_92_4, qr_98_0, qr_98_1, qr_107_0, qr_107_1, qr_107_2, qr_476_0, qr_476_1, qr_476_2, hk.1]
  | succ n ih =>
    intro s m h1 h2 h3 h4 h5
    obtain ⟨m, rfl⟩ : ∃ m', m = m' + 1 := ⟨m - 1, by omega⟩
    rw [fX2_countReadAnew_44]
    unfold fX2_countReadAnew_75
    by_cases c : s < ks.length
    · have hS : fX2_isAsBefore 91 (qn s) (qn s + if back = true then qm else qn 1) (qC w I) = some (qb (qSame X X0 s (if back = true then s - 1 else s + 1)), qC w I) := by
        cases back with
        | true =>
          simp only [↓reduceIte]
          rw [qn_dd (h3 rfl)]
          exact cSame1 hg hX hX0 ok ok0 (by omega) (by have := hX0b rfl; omega) h61 h61'
        | false =>
          simp only [Bool.false_eq_true, ↓reduceIte]
          rw [qn_add]
          exact cSame1 hg hX hX0 ok ok0 (by omega) (by have := hX0l rfl; omega) h61 h61'
      have ih := ih (s + 1) m (by omega) (by omega) (fun _ => by omega) (by omega) (by omega)
      cases hq : qSame X X0 s (if back = true then s - 1 else s + 1) with
      | true =>
        rw [hq] at hS
        rw [qStopAt_t (f := fun s => qSame X X0 s (if back = true then s - 1 else s + 1)) hq]
        simp (disch := omega) only [↓qlet, eq_self, qzg_t, qzb_some, ↓reduceIte, not_or, not_false_eq_true, not_true_eq_false, and_true, true_and, and_self, or_false, false_or, true_or, or_true, and_false, false_and, qlit, qneg, qof, qn_add, qn_mul, qn_s, qn_z, qn_d, qn_dz, qm_1, qt_1, qt_0, qb_0, qb_1, qb_01, qb01b, q01_0, q01_1, qo_s, qo_n, qn_c, qn_le, qn_lt, qn_eq, qn_ne_m, qm_ne_n, qm_lt, qm_le, qn_lt_m, qn_le_m, qn_sub, qn_div, qn_mod, qle_t, qle_f, qlt_t, qlt_f, qeq_t, qeq_f, Nat.add_sub_cancel, qC_I, qC_s, qU_s, qU_a, qU_k, qk_1, qk_2, qk_3, qk_4, qk_5, qk_6, qk_7, qk_68, qk_69, qk_70, qk_71, qk_72, qk_91, qk_92, qk_93, qk_94, qk_95, qk_96, qk_97, qk_98, qk_99, qk_100, qk_101, qk_102, qk_103, qk_104, qk_105, qk_106, qk_107, qk_108, qk_109, qk_476, qk_477, qr_1_0, qr_1_1, qr_1_2, qr_1_3, qr_1_4, qr_1_5, qr_2_0, qr_2_1, qr_2_2, qr_2_3, qr_2_4, qr_68_0, qr_68_1, qr_91_0, qr_91_1, qr_91_2, qr_91_3, qr_91_4, qr_91_5, qr_91_6, qr_91_7, qr_91_10, qr_91_11, qr_91_14, qr_92_0, qr_92_1, qr_92_2, qr_92_3, qr_92_4, qr_98_0, qr_98_1, qr_107_0, qr_107_1, qr_107_2, qr_476_0, qr_476_1, qr_476_2, hk.1, hS, qb_t]
      | false =>
        rw [hq] at hS
        rw [qStopAt_f (f := fun s => qSame X X0 s (if back = true then s - 1 else s + 1)) c hq]
        simp (disch := omega) only [↓qlet, eq_self, qzg_t, qzb_some, ↓reduceIte, not_or, not_false_eq_true, not_true_eq_false, and_true, true_and, and_self, or_false, false_or, true_or, or_true, and_false, false_and, qlit, qneg, qof, qn_add, qn_mul, qn_s, qn_z, qn_d, qn_dz, qm_1, qt_1, qt_0, qb_0, qb_1, qb_01, qb01b, q01_0, q01_1, qo_s, qo_n, qn_c, qn_le, qn_lt, qn_eq, qn_ne_m, qm_ne_n, qm_lt, qm_le, qn_lt_m, qn_le_m, qn_sub, qn_div, qn_mod, qle_t, qle_f, qlt_t, qlt_f, qeq_t, qeq_f, Nat.add_sub_cancel, qC_I, qC_s, qU_s, qU_a, qU_k, qk_1, qk_2, qk_3, qk_4, qk_5, qk_6, qk_7, qk_68, qk_69, qk_70, qk_71, qk_72, qk_91, qk_92, qk_93, qk_94, qk_95, qk_96, qk_97, qk_98, qk_99, qk_100, qk_101, qk_102, qk_103, qk_104, qk_105, qk_106, qk_107, qk_108, qk_109, qk_476, qk_477, qr_1_0, qr_1_1, qr_1_2, qr_1_3, qr_1_4, qr_1_5, qr_2_0, qr_2_1, qr_2_2, qr_2_3, qr_2_4, qr_68_0, qr_68_1, qr_91_0, qr_91_1, qr_91_2, qr_91_3, qr_91_4, qr_91_5, qr_91_6, qr_91_7, qr_91_10, qr_91_11, qr_91_14, qr_92_0, qr_92_1, qr_92_2, qr_92_3, qr_92_4, qr_98_0, qr_98_1, qr_107_0, qr_107_1, qr_107_2, qr_476_0, qr_476_1, qr_476_2, hk.1, hS, qb_f, ih]
    · rw [qStopAt_o c]
      simp (disch := omega) only [↓qlet, eq_self, qzg_t, qzb_some, ↓reduceIte, not_or, not_false_eq_true, not_true_eq_false, and_true, true_and, and_self, or_false, false_or, true_or, or_true, and_false, false_and, qlit, qneg, qof, qn_add, qn_mul, qn_s, qn_z, qn_d, qn_dz, qm_1, qt_1, qt_0, qb_0, qb_1, qb_01, qb01b, q01_0, q01_1, qo_s, qo_n, qn_c, qn_le, qn_lt, qn_eq, qn_ne_m, qm_ne_n, qm_lt, qm_le, qn_lt_m, qn_le_m, qn_sub, qn_div, qn_mod, qle_t, qle_f, qlt_t, qlt_f, qeq_t, qeq_f, Nat.add_sub_cancel, qC_I, qC_s, qU_s, qU_a, qU_k, qk_1, qk_2, qk_3, qk_4, qk_5, qk_6, qk_7, qk_68, qk_69, qk_70, qk_71, qk_72, qk_91, qk_92, qk_93, qk_94, qk_95, qk_96, qk_97, qk_98, qk_99, qk_100, qk_101, qk_102, qk_103, qk_104, qk_105, qk_106, qk_107, qk_108, qk_109, qk_476, qk_477, qr_1_0, qr_1_1, qr_1_2, qr_1_3, qr_1_4, qr_1_5, qr_2_0, qr_2_1, qr_2_2, qr_2_3, qr_2_4, qr_68_0, qr_68_1, qr_91_0, qr_91_1, qr_91_2, qr_91_3, qr_91_4, qr_91_5, qr_91_6, qr_91_7, qr_91_10, qr_91_11, qr_91_14, qr_92_0, qr_92_1, qr_92_2, qr_92_3, qr_92_4, qr_98_0, qr_98_1, qr_107_0, qr_107_1, qr_107_2, qr_476_0, qr_476_1, qr_476_2, hk.1]
theorem cCount (hg : qGok G) {ks : List qK} (hk : qCK I 68 ks) (hks : ks.length ≤ 60) (h8 : ∀ k ∈ ks, k.1 ≤ 8) (hX : qCX w I X) (hX0 : qCX (!w) I X0) (ok : qXok G X) (ok0 : qXok G X0) (h61 : X.length ≤ 61) (h61' : X0.length ≤ 61) (hXl : ks.length < X.length) (back : Bool) (hX0l : back = false → ks.length < X0.length) (hX0b : back = true → ks.length ≤ X0.length) {pl first : Nat} (hpl : pl ≤ 60) (hfp : back = true → 1 ≤ first) (hpf : pl ≤ first) (hf : first ≤ 61) : fX2_countReadAnew 91 (qn pl) (qn first) (if back = true then qm else qn 1) (qC w I) = some (qn 0, qC w (qU I 91 16 (qn (qAnew ks X X0 pl first back)))) := by
  have h1 := cSortAh (w := w) qRw_68 hk (by omega) (i := pl) (by omega) h8
  have h2 := cSortAt (w := w) qRw_68 hk (by omega) (i := first) (by omega) h8
  have q1 : ∀ q, qAhead ks pl = some q → q ≤ 8 := by
    unfold qAhead
    split
    · intro q h; cases h
    · exact qSo_lt h8
  have q2 := qSo_lt (ks := ks) (i := first) h8
  obtain ⟨fr, hfr⟩ : ∃ fr, fr = (if qAhead ks pl = some 5 then pl - 1 else pl) := ⟨_, rfl⟩
  obtain ⟨s0, hs0⟩ : ∃ s0, s0 = (if qSo ks first = some 5 then first + 1 else first) := ⟨_, rfl⟩
  have hfr2 : fr ≤ pl := by rw [hfr]; split <;> omega
  have hs2 : first ≤ s0 ∧ s0 ≤ first + 1 := by rw [hs0]; split <;> omega
  have hL := cCount_44 (w := w) hg hk hks hX hX0 ok ok0 h61 h61' hXl back hX0l hX0b fr (ks.length + 1) s0 10000 (by omega) (by omega) (fun h => by have := hfp h; omega) (by omega) (by omega)
  have hA : qAnew ks X X0 pl first back = qStopAt (fun s => qSame X X0 s (if back = true then s - 1 else s + 1)) ks.length (ks.length + 1) s0 - fr := by unfold qAnew; rw [← hs0, ← hfr]
  rw [hA]
  have h21 : ∀ f, f = fr → fX2_countReadAnew_21 91 (qn first) (if back = true then qm else qn 1) (qn f) (qC w I) = some (qn 0, qC w (qU I 91 16 (qn (qStopAt (fun s => qSame X X0 s (if back = true then s - 1 else s + 1)) ks.length (ks.length + 1) s0 - fr)))) := by
    intro f hfe
    subst hfe
    unfold fX2_countReadAnew_21 fX2_countReadAnew_42
    by_cases c : qSo ks first = some 5
    · rw [if_pos c] at hs0
      simp (disch := omega) only [↓qlet, eq_self, qzg_t, qzb_some, ↓reduceIte, not_or, not_false_eq_true, not_true_eq_false, and_true, true_and, and_self, or_false, false_or, true_or, or_true, and_false, false_and, qlit, qneg, qof, qn_add, qn_mul, qn_s, qn_z, qn_d, qn_dz, qm_1, qt_1, qt_0, qb_0, qb_1, qb_01, qb01b, q01_0, q01_1, qo_s, qo_n, qn_c, qn_le, qn_lt, qn_eq, qn_ne_m, qm_ne_n, qm_lt, qm_le, qn_lt_m, qn_le_m, qn_sub, qn_div, qn_mod, qle_t, qle_f, qlt_t, qlt_f, qeq_t, qeq_f, Nat.add_sub_cancel, qC_I, qC_s, qU_s, qU_a, qU_k, qk_1, qk_2, qk_3, qk_4, qk_5, qk_6, qk_7, qk_68, qk_69, qk_70, qk_71, qk_72, qk_91, qk_92, qk_93, qk_94, qk_95, qk_96, qk_97, qk_98, qk_99, qk_100, qk_101, qk_102, qk_103, qk_104, qk_105, qk_106, qk_107, qk_108, qk_109, qk_476, qk_477, qr_1_0, qr_1_1, qr_1_2, qr_1_3, qr_1_4, qr_1_5, qr_2_0, qr_2_1, qr_2_2, qr_2_3, qr_2_4, qr_68_0, qr_68_1, qr_91_0, qr_91_1, qr_91_2, qr_91_3, qr_91_4, qr_91_5, qr_91_6, qr_91_7, qr_91_10, qr_91_11, qr_91_14, qr_92_0, qr_92_1, qr_92_2, qr_92_3, qr_92_4, qr_98_0, qr_98_1, qr_107_0, qr_107_1, qr_107_2, qr_476_0, qr_476_1, qr_476_2, h2, qo_eq q2, c]
      rw [← hs0]
      exact hL
    · rw [if_neg c] at hs0
      simp (disch := omega) only [↓qlet, eq_self, qzg_t, qzb_some, ↓reduceIte, not_or, not_false_eq_true, not_true_eq_false, and_true, true_and, and_self, or_false, false_or, true_or, or_true, and_false, false_and, qlit, qneg, qof, qn_add, qn_mul, qn_s, qn_z, qn_d, qn_dz, qm_1, qt_1, qt_0, qb_0, qb_1, qb_01, qb01b, q01_0, q01_1, qo_s, qo_n, qn_c, qn_le, qn_lt, qn_eq, qn_ne_m, qm_ne_n, qm_lt, qm_le, qn_lt_m, qn_le_m, qn_sub, qn_div, qn_mod, qle_t, qle_f, qlt_t, qlt_f, qeq_t, qeq_f, Nat.add_sub_cancel, qC_I, qC_s, qU_s, qU_a, qU_k, qk_1, qk_2, qk_3, qk_4, qk_5, qk_6, qk_7, qk_68, qk_69, qk_70, qk_71, qk_72, qk_91, qk_92, qk_93, qk_94, qk_95, qk_96, qk_97, qk_98, qk_99, qk_100, qk_101, qk_102, qk_103, qk_104, qk_105, qk_106, qk_107, qk_108, qk_109, qk_476, qk_477, qr_1_0, qr_1_1, qr_1_2, qr_1_3, qr_1_4, qr_1_5, qr_2_0, qr_2_1, qr_2_2, qr_2_3, qr_2_4, qr_68_0, qr_68_1, qr_91_0, qr_91_1, qr_91_2, qr_91_3, qr_91_4, qr_91_5, qr_91_6, qr_91_7, qr_91_10, qr_91_11, qr_91_14, qr_92_0, qr_92_1, qr_92_2, qr_92_3, qr_92_4, qr_98_0, qr_98_1, qr_107_0, qr_107_1, qr_107_2, qr_476_0, qr_476_1, qr_476_2, h2, qo_eq q2, c]
      rw [hs0] at hL ⊢
      exact hL
  unfold fX2_countReadAnew
  by_cases c : qAhead ks pl = some 5
  · rw [if_pos c] at hfr
    have hp1 : 1 ≤ pl := by
      rcases Nat.eq_zero_or_pos pl with e | e
      · subst e; unfold qAhead at c; rw [if_pos rfl] at c; cases c
      · exact e
    have := h21 (pl - 1) hfr.symm
    simp (disch := omega) only [↓qlet, eq_self, qzg_t, qzb_some, ↓reduceIte, qlit, qC_I, qk_1, qk_2, qk_3, qk_4, qk_5, qk_6, qk_7, qk_68, qk_69, qk_70, qk_71, qk_72, qk_91, qk_92, qk_93, qk_94, qk_95, qk_96, qk_97, qk_98, qk_99, qk_100, qk_101, qk_102, qk_103, qk_104, qk_105, qk_106, qk_107, qk_108, qk_109, qk_476, qk_477, qr_1_0, qr_1_1, qr_1_2, qr_1_3, qr_1_4, qr_1_5, qr_2_0, qr_2_1, qr_2_2, qr_2_3, qr_2_4, qr_68_0, qr_68_1, qr_91_0, qr_91_1, qr_91_2, qr_91_3, qr_91_4, qr_91_5, qr_91_6, qr_91_7, qr_91_10, qr_91_11, qr_91_14, qr_92_0, qr_92_1, qr_92_2, qr_92_3, qr_92_4, qr_98_0, qr_98_1, qr_107_0, qr_107_1, qr_107_2, qr_476_0, qr_476_1, qr_476_2, h1, qo_eq q1, c, qo_s]
    rw [qn_sub hp1]
    exact this
  · rw [if_neg c] at hfr
    have := h21 pl hfr.symm
    simp (disch := omega) only [↓qlet, eq_self, qzg_t, qzb_some, ↓reduceIte, qlit, qC_I, qk_1, qk_2, qk_3, qk_4, qk_5, qk_6, qk_7, qk_68, qk_69, qk_70, qk_71, qk_72, qk_91, qk_92, qk_93, qk_94, qk_95, qk_96, qk_97, qk_98, qk_99, qk_100, qk_101, qk_102, qk_103, qk_104, qk_105, qk_106, qk_107, qk_108, qk_109, qk_476, qk_477, qr_1_0, qr_1_1, qr_1_2, qr_1_3, qr_1_4, qr_1_5, qr_2_0, qr_2_1, qr_2_2, qr_2_3, qr_2_4, qr_68_0, qr_68_1, qr_91_0, qr_91_1, qr_91_2, qr_91_3, qr_91_4, qr_91_5, qr_91_6, qr_91_7, qr_91_10, qr_91_11, qr_91_14, qr_92_0, qr_92_1, qr_92_2, qr_92_3, qr_92_4, qr_98_0, qr_98_1, qr_107_0, qr_107_1, qr_107_2, qr_476_0, qr_476_1, qr_476_2, h1, qo_eq q1, c, qo_s]
    exact this
theorem cInsert (hA : qCA w I A) (x s v : Int32) : ∃ w2 J, fX7_insert 1 x s v (qC w I) = some ((qoInsert A x s v).1, (qoInsert A x s v).2.1, qC w2 J) ∧ qCA w2 J (qoInsert A x s v).2.2 := by
  have hA0 := hA
  obtain ⟨⟨hg, hE, hn, hk⟩, ⟨hG, hEn, hK⟩, hV, hX, hF, h16⟩ := hA
  have hc := hK.1
  unfold fX7_insert qoInsert
  rw [qzg_i (qk_1 _ _), qr_1_1, qzg_i (qk_68 _ _), qC_I, hc, show qn A.2.2.2.1.length + 1 = qn (A.2.2.2.1.length + 1) from qn_add _ 1]
  cases hx : qin x (A.2.2.2.1.length + 1) with
  | none =>
    refine ⟨w, I, ?_, hA0⟩
    rw [cCheck_n hx, qzbx_1]
    rfl
  | some pl =>
    obtain ⟨hpl, rfl⟩ := qin_s (by omega) hx
    rw [cCheck_s (by omega) hpl, qzbx_0, cTokChk]
    dsimp only
    cases hq : qKin s v with
    | false =>
      refine ⟨w, I, ?_, hA0⟩
      simp only [Bool.false_eq_true, ↓reduceIte, qzbx_2]
      rfl
    | true =>
      obtain ⟨k, k8, rfl, kc, hkk⟩ := qKin_ok hq
      simp only [↓reduceIte, qzbx_0, reduceCtorEq]
      by_cases c6 : 60 ≤ A.2.2.2.1.length
      · rw [if_pos c6]
        refine ⟨w, I, ?_, hA0⟩
        simp (disch := omega) only [↓qlet, eq_self, qzg_t, qzb_some, ↓reduceIte, not_or, not_false_eq_true, not_true_eq_false, and_true, true_and, and_self, or_false, false_or, true_or, or_true, and_false, false_and, qlit, qneg, qof, qn_add, qn_mul, qn_s, qn_z, qn_d, qn_dz, qm_1, qt_1, qt_0, qb_0, qb_1, qb_01, qb01b, q01_0, q01_1, qo_s, qo_n, qn_c, qn_le, qn_lt, qn_eq, qn_ne_m, qm_ne_n, qm_lt, qm_le, qn_lt_m, qn_le_m, qn_sub, qn_div, qn_mod, qle_t, qle_f, qlt_t, qlt_f, qeq_t, qeq_f, Nat.add_sub_cancel, qC_I, qC_s, qU_s, qU_a, qU_k, qk_1, qk_2, qk_3, qk_4, qk_5, qk_6, qk_7, qk_68, qk_69, qk_70, qk_71, qk_72, qk_91, qk_92, qk_93, qk_94, qk_95, qk_96, qk_97, qk_98, qk_99, qk_100, qk_101, qk_102, qk_103, qk_104, qk_105, qk_106, qk_107, qk_108, qk_109, qk_476, qk_477, ql_3, ql_4, ql_5, ql_6, ql_7, ql_69, ql_70, ql_71, ql_72, ql_93, ql_94, ql_95, ql_96, ql_97, ql_99, ql_100, ql_101, ql_102, ql_103, ql_104, ql_105, ql_106, ql_108, ql_109, ql_477, qr_1_0, qr_1_1, qr_1_2, qr_1_3, qr_1_4, qr_1_5, qr_2_0, qr_2_1, qr_2_2, qr_2_3, qr_2_4, qr_68_0, qr_68_1, qr_91_0, qr_91_1, qr_91_2, qr_91_3, qr_91_4, qr_91_5, qr_91_6, qr_91_7, qr_91_10, qr_91_11, qr_91_14, qr_92_0, qr_92_1, qr_92_2, qr_92_3, qr_92_4, qr_98_0, qr_98_1, qr_107_0, qr_107_1, qr_107_2, qr_476_0, qr_476_1, qr_476_2, hc]
        rfl
      · rw [if_neg c6, kc]
        obtain ⟨I', e1, j1, hf⟩ := cPutTok (w := w) qRw_68 hK (by omega) (by omega) (pl := pl) (by omega) (s := k) (v := v)
        have hl := qIns_len (ks := A.2.2.2.1) (pl := pl) (by omega) (k, v)
        have hk2 : ∀ z ∈ qIns A.2.2.2.1 pl (k, v), qKok z := by
          intro z hz
          unfold qIns at hz
          rcases List.mem_append.mp hz with hz | hz
          · exact hk z (List.mem_of_mem_take hz)
          · rcases List.mem_cons.mp hz with e | hz
            · rw [e]; exact hkk
            · exact hk z (List.mem_of_mem_drop hz)
        obtain ⟨K, e2, k1, k2, k3⟩ := cChange (A' := (A.1, A.2.1, A.2.2.1, qIns A.2.2.2.1 pl (k, v), 0)) hA0 ⟨hg, hE, by dsimp only; omega, hk2⟩ (I' := I') ⟨qCG_fr hG fun a ha => hf a (by omega) (by omega) (by omega), ⟨fun i hi => qCK_fr (hEn.1 i hi) (by rw [hf _ (by omega) (by omega) (by omega)]) (by rw [hf _ (by omega) (by omega) (by omega)]) (by rw [hf _ (by omega) (by omega) (by omega)]), fun i hi => by rw [hf _ (by omega) (by omega) (by omega)]; exact hEn.2.1 i hi, fun j q h => by cases h⟩, j1⟩ (fun a ha => hf a (by omega) (by omega) (by omega))
        have hKK := k1.2.1.2.2
        have hcK : K 68 2 = qn (A.2.2.2.1.length + 1) := by rw [hKK.1]; dsimp only; rw [hl]
        obtain ⟨f1, f2, f3, f4, f5⟩ := qFull_ok (G := A.1) hE hk (by omega)
        obtain ⟨n1, n2, n3, n4, n5⟩ := qFull_ok (G := A.1) hE hk2 (by omega)
        have hX0 : qCX (!(!w)) K (qFA A).2 := by rw [Bool.not_not]; exact k2
        have hx0l : (qFA A).2.length = A.2.2.2.1.length + 1 := f4
        obtain ⟨L, hL⟩ : ∃ L, L = qU K 91 16 (qn (qAnew (qIns A.2.2.2.1 pl (k, v)) (qFull A.1 A.2.1 A.2.2.1 (qIns A.2.2.2.1 pl (k, v))).2 (qFA A).2 pl (pl + 1) true)) := ⟨_, rfl⟩
        have hC := cCount (w := !w) hg hKK (by dsimp only; omega) (fun z hz => (hk2 z hz).1) k1.2.2.2.1 hX0 n3 f3 (by show (qFull A.1 A.2.1 A.2.2.1 (qIns A.2.2.2.1 pl (k, v))).2.length ≤ 61; rw [n4]; omega) (by omega) (by show (qIns A.2.2.2.1 pl (k, v)).length < (qFull A.1 A.2.1 A.2.2.1 (qIns A.2.2.2.1 pl (k, v))).2.length; rw [n4]; omega) true (fun h => by cases h) (fun _ => by dsimp only; omega) (pl := pl) (first := pl + 1) (by omega) (fun _ => by omega) (by omega) (by omega)
        simp only [↓reduceIte] at hC
        have hC : fX2_countReadAnew 91 (qn pl) (qn (pl + 1)) qm (qC (!w) K) = some (qn 0, qC (!w) L) := by rw [hL]; exact hC
        have hLf : ∀ a, a ≠ 91 → L a = K a := fun a h => by rw [hL, qU_r h]
        refine ⟨!w, L, ?_, ?_⟩
        · have hcL : L 68 2 = qn (A.2.2.2.1.length + 1) := by rw [hLf 68 (by omega)]; exact hcK
          simp (disch := omega) only [↓qlet, eq_self, qzg_t, qzb_some, ↓reduceIte, not_or, not_false_eq_true, not_true_eq_false, and_true, true_and, and_self, or_false, false_or, true_or, or_true, and_false, false_and, qlit, qneg, qof, qn_add, qn_mul, qn_s, qn_z, qn_d, qn_dz, qm_1, qt_1, qt_0, qb_0, qb_1, qb_01, qb01b, q01_0, q01_1, qo_s, qo_n, qn_c, qn_le, qn_lt, qn_eq, qn_ne_m, qm_ne_n, qm_lt, qm_le, qn_lt_m, qn_le_m, qn_sub, qn_div, qn_mod, qle_t, qle_f, qlt_t, qlt_f, qeq_t, qeq_f, Nat.add_sub_cancel, qC_I, qC_s, qU_s, qU_a, qU_k, qk_1, qk_2, qk_3, qk_4, qk_5, qk_6, qk_7, qk_68, qk_69, qk_70, qk_71, qk_72, qk_91, qk_92, qk_93, qk_94, qk_95, qk_96, qk_97, qk_98, qk_99, qk_100, qk_101, qk_102, qk_103, qk_104, qk_105, qk_106, qk_107, qk_108, qk_109, qk_476, qk_477, ql_3, ql_4, ql_5, ql_6, ql_7, ql_69, ql_70, ql_71, ql_72, ql_93, ql_94, ql_95, ql_96, ql_97, ql_99, ql_100, ql_101, ql_102, ql_103, ql_104, ql_105, ql_106, ql_108, ql_109, ql_477, qr_1_0, qr_1_1, qr_1_2, qr_1_3, qr_1_4, qr_1_5, qr_2_0, qr_2_1, qr_2_2, qr_2_3, qr_2_4, qr_68_0, qr_68_1, qr_91_0, qr_91_1, qr_91_2, qr_91_3, qr_91_4, qr_91_5, qr_91_6, qr_91_7, qr_91_10, qr_91_11, qr_91_14, qr_92_0, qr_92_1, qr_92_2, qr_92_3, qr_92_4, qr_98_0, qr_98_1, qr_107_0, qr_107_1, qr_107_2, qr_476_0, qr_476_1, qr_476_2, hc, e1, e2, hC, hcL]
        · obtain ⟨o1, ⟨o2, o3, o4⟩, o5, o6, o7, o8⟩ := k1
          refine ⟨o1, ⟨qCG_fr o2 fun a ha => hLf a (by omega), qCEn_fr2 o3 fun a h1 h2 => hLf a (by omega), qCK_fr o4 (by rw [hLf _ (by omega)]) (by rw [hLf _ (by omega)]) (by rw [hLf _ (by omega)])⟩, ?_, qCX_fr o6 fun j hj d hd => by have := qSc_ge (!w) j; rw [hLf _ (by omega)], qCK_fr o7 (by rw [hLf _ (by omega)]) (by rw [hLf _ (by omega)]) (by rw [hLf _ (by omega)]), by rw [hL, qU_s]⟩
          exact qCVs_fr o5 (by rw [hL, qU_k (by omega)]) (by rw [hL, qU_k (by omega)]) (by rw [hL, qU_k (by omega)]) fun a ha => hLf a (by omega)
theorem cErase (hA : qCA w I A) (x : Int32) : ∃ w2 J, fX7_erase 1 x (qC w I) = some ((qoErase A x).1, (qoErase A x).2.1, qC w2 J) ∧ qCA w2 J (qoErase A x).2.2 := by
  have hA0 := hA
  obtain ⟨⟨hg, hE, hn, hk⟩, ⟨hG, hEn, hK⟩, hV, hX, hF, h16⟩ := hA
  have hc := hK.1
  unfold fX7_erase qoErase
  rw [qzg_i (qk_1 _ _), qr_1_1, qzg_i (qk_68 _ _), qC_I, hc]
  cases hx : qin x A.2.2.2.1.length with
  | none =>
    refine ⟨w, I, ?_, hA0⟩
    rw [cCheck_n hx, qzbx_1]
    rfl
  | some pl =>
    obtain ⟨hpl, rfl⟩ := qin_s (by omega) hx
    rw [cCheck_s (by omega) hpl, qzbx_0]
    dsimp only
    obtain ⟨I', e1, j1, hf⟩ := cDropTok (w := w) qRw_68 hK (by omega) (by omega) hpl
    have hl := qDel_len hpl
    have hk2 : ∀ z ∈ qDel A.2.2.2.1 pl, qKok z := by
      intro z hz
      unfold qDel at hz
      rcases List.mem_append.mp hz with hz | hz
      · exact hk z (List.mem_of_mem_take hz)
      · exact hk z (List.mem_of_mem_drop hz)
    obtain ⟨K, e2, k1, k2, k3⟩ := cChange (A' := (A.1, A.2.1, A.2.2.1, qDel A.2.2.2.1 pl, 0)) hA0 ⟨hg, hE, by dsimp only; omega, hk2⟩ (I' := I') ⟨qCG_fr hG fun a ha => hf a (by omega) (by omega) (by omega), ⟨fun i hi => qCK_fr (hEn.1 i hi) (by rw [hf _ (by omega) (by omega) (by omega)]) (by rw [hf _ (by omega) (by omega) (by omega)]) (by rw [hf _ (by omega) (by omega) (by omega)]), fun i hi => by rw [hf _ (by omega) (by omega) (by omega)]; exact hEn.2.1 i hi, fun j q h => by cases h⟩, j1⟩ (fun a ha => hf a (by omega) (by omega) (by omega))
    have hKK := k1.2.1.2.2
    have hcK : K 68 2 = qn (A.2.2.2.1.length - 1) := by rw [hKK.1]; dsimp only; rw [hl]
    obtain ⟨f1, f2, f3, f4, f5⟩ := qFull_ok (G := A.1) hE hk (by omega)
    obtain ⟨n1, n2, n3, n4, n5⟩ := qFull_ok (G := A.1) hE hk2 (by omega)
    have hX0 : qCX (!(!w)) K (qFA A).2 := by rw [Bool.not_not]; exact k2
    have hx0l : (qFA A).2.length = A.2.2.2.1.length + 1 := f4
    obtain ⟨L, hL⟩ : ∃ L, L = qU K 91 16 (qn (qAnew (qDel A.2.2.2.1 pl) (qFull A.1 A.2.1 A.2.2.1 (qDel A.2.2.2.1 pl)).2 (qFA A).2 pl pl false)) := ⟨_, rfl⟩
    have hC := cCount (w := !w) hg hKK (by dsimp only; omega) (fun z hz => (hk2 z hz).1) k1.2.2.2.1 hX0 n3 f3 (by show (qFull A.1 A.2.1 A.2.2.1 (qDel A.2.2.2.1 pl)).2.length ≤ 61; rw [n4]; omega) (by omega) (by show (qDel A.2.2.2.1 pl).length < (qFull A.1 A.2.1 A.2.2.1 (qDel A.2.2.2.1 pl)).2.length; rw [n4]; omega) false (fun _ => by dsimp only; omega) (fun h => by cases h) (pl := pl) (first := pl) (by omega) (fun h => by cases h) (by omega) (by omega)
    simp only [Bool.false_eq_true, ↓reduceIte] at hC
    have hC : fX2_countReadAnew 91 (qn pl) (qn pl) (qn 1) (qC (!w) K) = some (qn 0, qC (!w) L) := by rw [hL]; exact hC
    have hLf : ∀ a, a ≠ 91 → L a = K a := fun a h => by rw [hL, qU_r h]
    refine ⟨!w, L, ?_, ?_⟩
    · have hcL : L 68 2 = qn (A.2.2.2.1.length - 1) := by rw [hLf 68 (by omega)]; exact hcK
      simp (disch := omega) only [↓qlet, eq_self, qzg_t, qzb_some, ↓reduceIte, not_or, not_false_eq_true, not_true_eq_false, and_true, true_and, and_self, or_false, false_or, true_or, or_true, and_false, false_and, qlit, qneg, qof, qn_add, qn_mul, qn_s, qn_z, qn_d, qn_dz, qm_1, qt_1, qt_0, qb_0, qb_1, qb_01, qb01b, q01_0, q01_1, qo_s, qo_n, qn_c, qn_le, qn_lt, qn_eq, qn_ne_m, qm_ne_n, qm_lt, qm_le, qn_lt_m, qn_le_m, qn_sub, qn_div, qn_mod, qle_t, qle_f, qlt_t, qlt_f, qeq_t, qeq_f, Nat.add_sub_cancel, qC_I, qC_s, qU_s, qU_a, qU_k, qk_1, qk_2, qk_3, qk_4, qk_5, qk_6, qk_7, qk_68, qk_69, qk_70, qk_71, qk_72, qk_91, qk_92, qk_93, qk_94, qk_95, qk_96, qk_97, qk_98, qk_99, qk_100, qk_101, qk_102, qk_103, qk_104, qk_105, qk_106, qk_107, qk_108, qk_109, qk_476, qk_477, ql_3, ql_4, ql_5, ql_6, ql_7, ql_69, ql_70, ql_71, ql_72, ql_93, ql_94, ql_95, ql_96, ql_97, ql_99, ql_100, ql_101, ql_102, ql_103, ql_104, ql_105, ql_106, ql_108, ql_109, ql_477, qr_1_0, qr_1_1, qr_1_2, qr_1_3, qr_1_4, qr_1_5, qr_2_0, qr_2_1, qr_2_2, qr_2_3, qr_2_4, qr_68_0, qr_68_1, qr_91_0, qr_91_1, qr_91_2, qr_91_3, qr_91_4, qr_91_5, qr_91_6, qr_91_7, qr_91_10, qr_91_11, qr_91_14, qr_92_0, qr_92_1, qr_92_2, qr_92_3, qr_92_4, qr_98_0, qr_98_1, qr_107_0, qr_107_1, qr_107_2, qr_476_0, qr_476_1, qr_476_2, hc, e1, e2, hC, hcL]
    · obtain ⟨o1, ⟨o2, o3, o4⟩, o5, o6, o7, o8⟩ := k1
      refine ⟨o1, ⟨qCG_fr o2 fun a ha => hLf a (by omega), qCEn_fr2 o3 fun a h1 h2 => hLf a (by omega), qCK_fr o4 (by rw [hLf _ (by omega)]) (by rw [hLf _ (by omega)]) (by rw [hLf _ (by omega)])⟩, ?_, qCX_fr o6 fun j hj d hd => by have := qSc_ge (!w) j; rw [hLf _ (by omega)], qCK_fr o7 (by rw [hLf _ (by omega)]) (by rw [hLf _ (by omega)]) (by rw [hLf _ (by omega)]), by rw [hL, qU_s]⟩
      exact qCVs_fr o5 (by rw [hL, qU_k (by omega)]) (by rw [hL, qU_k (by omega)]) (by rw [hL, qU_k (by omega)]) fun a ha => hLf a (by omega)
end
