/-! THE CLASS: State, the rest -/
section
variable {w : Bool} {I : Nat → Nat → Int32} {G : qG} {s : Nat} {Z : qZ}
theorem qAcc_ok {Z' : qZ} {t : Nat} (hz : qZok G Z) (h : qAcc G Z t = some Z') : qZok G Z' ∧ Z'.1.length = Z.1.length ∧ Z'.2 = Z.2 := by
  obtain ⟨st, la⟩ := Z
  unfold qAcc at h
  cases la with
  | none =>
    dsimp only at h
    split at h
    · injection h with h; subst h; exact ⟨hz, rfl, rfl⟩
    · cases h
  | some e9 =>
    dsimp only at h
    cases st with
    | nil => cases h
    | cons x st =>
      dsimp only at h
      split at h
      · cases h
      · cases hb : qrBy G x.1 x.2 t with
        | none =>
          rw [hb] at h
          dsimp only at h
          split at h
          · injection h with h; subst h; exact ⟨hz, rfl, rfl⟩
          · cases h
        | some k =>
          rw [hb] at h
          injection h with h
          subst h
          have hk : k < x.2 / 2 + (qgN G x.1 - x.2 / 2) := qBy_lt G x.1 t _ _ _ k hb
          obtain ⟨b1, b2⟩ := hz.2.1 x (by simp)
          refine ⟨⟨by have := hz.1; simpa using this, ?_, hz.2.2.1, fun hn => by cases hn⟩, by simp, rfl⟩
          intro y hy
          rcases List.mem_cons.mp hy with e | hy
          · subst e; exact ⟨b1, by dsimp only; omega⟩
          · exact hz.2.1 y (by simp [hy])
theorem qEnter_ok {e : Nat} (hz : qZok G Z) (he : e < 10) (hd : Z.1.length < 20) : qZok G (qEnter G Z e) := by
  unfold qEnter
  refine ⟨?_, ?_, ?_, fun h => by cases h⟩
  · dsimp only
    split
    · omega
    · simp; omega
  · dsimp only
    split
    · exact hz.2.1
    · intro y hy
      rcases List.mem_cons.mp hy with e1 | hy
      · subst e1; exact ⟨he, by dsimp only; omega⟩
      · exact hz.2.1 y hy
  · intro e1 h; injection h with h; omega
theorem qTail_ok (hz : qZok G Z) : qZok G (Z.1.tail, Z.2) := by
  refine ⟨?_, ?_, hz.2.2.1, ?_⟩
  · have := hz.1; simp; omega
  · intro x hx; exact hz.2.1 x (List.mem_of_mem_tail hx)
  · intro h; have := hz.2.2.2 h; simp [this]
theorem qZ0_ok : qZok G qZ0 := ⟨by simp [qZ0], by simp [qZ0], by simp [qZ0], by simp [qZ0]⟩
/-- a token read as it is written -/
def qWr (G : qG) (Z : qZ) (k : Nat) (v : Nat) : Option qZ :=
  if k = 1 then (match Z.1 with
    | [] => none
    | x :: st => if x.1 = v ∧ qrEnd G x.1 x.2 = true then some (st, Z.2) else none)
  else if k = 4 then qAcc G Z 10
  else if 20 ≤ Z.1.length then none else (qAcc G Z v).map fun Z1 => qEnter G Z1 v
theorem cWr (hs : qSt s) (hG : qCG G I) (hg : qGok G) (hz : qZok G Z) (hZ : qCZ I s Z) {k v : Nat} (hk : k < 9) (hv : ¬ k = 4 → v < 10) (hv2 : v < 1000) : ∃ J, fX4_readAsWritten s (qn k) (qn v) (qC w I) = some (qb (qWr G Z k v).isSome, qC w J) ∧ qCZ J s ((qWr G Z k v).getD Z) ∧ ∀ a, a ≠ s → a ≠ s + 1 → a ≠ s + 2 → J a = I a := by
  unfold fX4_readAsWritten qWr
  by_cases c1 : k = 1
  · subst c1
    have hC := cCanEnd (w := w) hs hG hg hz hZ
    have hU := cCur (w := w) hs hz hZ
    obtain ⟨J, hL, hZ1, hJ5, hJ⟩ := cLeave (w := w) hs hz hZ
    have hv := hv (by omega)
    obtain ⟨st, la⟩ := Z
    cases st with
    | nil =>
      refine ⟨I, ?_, hZ, fun a _ _ _ => rfl⟩
      simp (disch := omega) only [↓qlet, eq_self, qzg_t, qzb_some, ↓reduceIte, not_or, not_false_eq_true, not_true_eq_false, and_true, true_and, and_self, or_false, false_or, true_or, or_true, and_false, false_and, qlit, qneg, qof, qn_add, qn_mul, qn_s, qn_z, qn_d, qn_dz, qm_1, qt_1, qt_0, qb_0, qb_1, qb_01, qb01b, q01_0, q01_1, qo_s, qo_n, qn_c, qn_le, qn_lt, qn_eq, qn_ne_m, qm_ne_n, qm_lt, qm_le, qn_lt_m, qn_le_m, qn_sub, qn_div, qn_mod, qle_t, qle_f, qlt_t, qlt_f, qeq_t, qeq_f, Nat.add_sub_cancel, qC_I, qC_s, qU_s, qU_a, qU_k, qSt_k _ _ hs, qSt_k1 _ _ hs, qSt_k2 _ _ hs, qSt_l1 _ _ hs, qSt_l2 _ _ hs, qSt_r0 _ _ hs, qSt_r1 _ _ hs, qSt_r2 _ _ hs, hU, List.head?_nil, Option.map_none]
      rfl
    | cons x st =>
      obtain ⟨b1, b2⟩ := hz.2.1 x (by simp)
      by_cases h1 : x.1 = v
      · subst h1
        cases h2 : qrEnd G x.1 x.2 with
        | true =>
          refine ⟨J, ?_, ?_, fun a h _ _ => hJ a h⟩
          · simp (disch := omega) only [↓qlet, eq_self, qzg_t, qzb_some, ↓reduceIte, not_or, not_false_eq_true, not_true_eq_false, and_true, true_and, and_self, or_false, false_or, true_or, or_true, and_false, false_and, qlit, qneg, qof, qn_add, qn_mul, qn_s, qn_z, qn_d, qn_dz, qm_1, qt_1, qt_0, qb_0, qb_1, qb_01, qb01b, q01_0, q01_1, qo_s, qo_n, qn_c, qn_le, qn_lt, qn_eq, qn_ne_m, qm_ne_n, qm_lt, qm_le, qn_lt_m, qn_le_m, qn_sub, qn_div, qn_mod, qle_t, qle_f, qlt_t, qlt_f, qeq_t, qeq_f, Nat.add_sub_cancel, qC_I, qC_s, qU_s, qU_a, qU_k, qSt_k _ _ hs, qSt_k1 _ _ hs, qSt_k2 _ _ hs, qSt_l1 _ _ hs, qSt_l2 _ _ hs, qSt_r0 _ _ hs, qSt_r1 _ _ hs, qSt_r2 _ _ hs, hU, hC, hL, List.head?_cons, Option.map_some, qCan, h2, qb_t]
            simp [qb]
          · simp [h2]
            exact hZ1
        | false =>
          refine ⟨I, ?_, ?_, fun a _ _ _ => rfl⟩
          · simp (disch := omega) only [↓qlet, eq_self, qzg_t, qzb_some, ↓reduceIte, not_or, not_false_eq_true, not_true_eq_false, and_true, true_and, and_self, or_false, false_or, true_or, or_true, and_false, false_and, qlit, qneg, qof, qn_add, qn_mul, qn_s, qn_z, qn_d, qn_dz, qm_1, qt_1, qt_0, qb_0, qb_1, qb_01, qb01b, q01_0, q01_1, qo_s, qo_n, qn_c, qn_le, qn_lt, qn_eq, qn_ne_m, qm_ne_n, qm_lt, qm_le, qn_lt_m, qn_le_m, qn_sub, qn_div, qn_mod, qle_t, qle_f, qlt_t, qlt_f, qeq_t, qeq_f, Nat.add_sub_cancel, qC_I, qC_s, qU_s, qU_a, qU_k, qSt_k _ _ hs, qSt_k1 _ _ hs, qSt_k2 _ _ hs, qSt_l1 _ _ hs, qSt_l2 _ _ hs, qSt_r0 _ _ hs, qSt_r1 _ _ hs, qSt_r2 _ _ hs, hU, hC, hL, List.head?_cons, Option.map_some, qCan, h2, qb_f]
            simp [qb]
          · simp [h2]
            exact hZ
      · refine ⟨I, ?_, ?_, fun a _ _ _ => rfl⟩
        · simp (disch := omega) only [↓qlet, eq_self, qzg_t, qzb_some, ↓reduceIte, not_or, not_false_eq_true, not_true_eq_false, and_true, true_and, and_self, or_false, false_or, true_or, or_true, and_false, false_and, qlit, qneg, qof, qn_add, qn_mul, qn_s, qn_z, qn_d, qn_dz, qm_1, qt_1, qt_0, qb_0, qb_1, qb_01, qb01b, q01_0, q01_1, qo_s, qo_n, qn_c, qn_le, qn_lt, qn_eq, qn_ne_m, qm_ne_n, qm_lt, qm_le, qn_lt_m, qn_le_m, qn_sub, qn_div, qn_mod, qle_t, qle_f, qlt_t, qlt_f, qeq_t, qeq_f, Nat.add_sub_cancel, qC_I, qC_s, qU_s, qU_a, qU_k, qSt_k _ _ hs, qSt_k1 _ _ hs, qSt_k2 _ _ hs, qSt_l1 _ _ hs, qSt_l2 _ _ hs, qSt_r0 _ _ hs, qSt_r1 _ _ hs, qSt_r2 _ _ hs, hU, hC, hL, List.head?_cons, Option.map_some, qCan, h1]
          simp [qb]
        · simp [h1]
          exact hZ
  · by_cases c2 : k = 4
    · subst c2
      obtain ⟨J, hA, hZ1, hJ⟩ := cAcc (w := w) hs hG hg hz hZ (t := 10) (by omega)
      refine ⟨J, ?_, ?_, fun a _ _ h => hJ a h⟩
      · simp (disch := omega) only [↓qlet, eq_self, qzg_t, qzb_some, ↓reduceIte, not_or, not_false_eq_true, not_true_eq_false, and_true, true_and, and_self, or_false, false_or, true_or, or_true, and_false, false_and, qlit, qneg, qof, qn_add, qn_mul, qn_s, qn_z, qn_d, qn_dz, qm_1, qt_1, qt_0, qb_0, qb_1, qb_01, qb01b, q01_0, q01_1, qo_s, qo_n, qn_c, qn_le, qn_lt, qn_eq, qn_ne_m, qm_ne_n, qm_lt, qm_le, qn_lt_m, qn_le_m, qn_sub, qn_div, qn_mod, qle_t, qle_f, qlt_t, qlt_f, qeq_t, qeq_f, Nat.add_sub_cancel, qC_I, qC_s, qU_s, qU_a, qU_k, qSt_k _ _ hs, qSt_k1 _ _ hs, qSt_k2 _ _ hs, qSt_l1 _ _ hs, qSt_l2 _ _ hs, qSt_r0 _ _ hs, qSt_r1 _ _ hs, qSt_r2 _ _ hs, hA]
      · simpa using hZ1
    · have hv := hv c2
      have h3 := hZ.1
      have hl := hz.1
      simp only [if_neg c1, if_neg c2]
      by_cases c3 : 20 ≤ Z.1.length
      · refine ⟨I, ?_, ?_, fun a _ _ _ => rfl⟩
        · simp (disch := omega) only [↓qlet, eq_self, qzg_t, qzb_some, ↓reduceIte, not_or, not_false_eq_true, not_true_eq_false, and_true, true_and, and_self, or_false, false_or, true_or, or_true, and_false, false_and, qlit, qneg, qof, qn_add, qn_mul, qn_s, qn_z, qn_d, qn_dz, qm_1, qt_1, qt_0, qb_0, qb_1, qb_01, qb01b, q01_0, q01_1, qo_s, qo_n, qn_c, qn_le, qn_lt, qn_eq, qn_ne_m, qm_ne_n, qm_lt, qm_le, qn_lt_m, qn_le_m, qn_sub, qn_div, qn_mod, qle_t, qle_f, qlt_t, qlt_f, qeq_t, qeq_f, Nat.add_sub_cancel, qC_I, qC_s, qU_s, qU_a, qU_k, qSt_k _ _ hs, qSt_k1 _ _ hs, qSt_k2 _ _ hs, qSt_l1 _ _ hs, qSt_l2 _ _ hs, qSt_r0 _ _ hs, qSt_r1 _ _ hs, qSt_r2 _ _ hs, h3]
          rfl
        · rw [if_pos c3]; exact hZ
      · rw [if_neg c3]
        obtain ⟨J, hA, hZ1, hJ⟩ := cAcc (w := w) hs hG hg hz hZ (t := v) (by omega)
        cases ha : qAcc G Z v with
        | none =>
          rw [ha] at hZ1
          refine ⟨J, ?_, hZ1, fun a _ _ h => hJ a h⟩
          simp (disch := omega) only [↓qlet, eq_self, qzg_t, qzb_some, ↓reduceIte, not_or, not_false_eq_true, not_true_eq_false, and_true, true_and, and_self, or_false, false_or, true_or, or_true, and_false, false_and, qlit, qneg, qof, qn_add, qn_mul, qn_s, qn_z, qn_d, qn_dz, qm_1, qt_1, qt_0, qb_0, qb_1, qb_01, qb01b, q01_0, q01_1, qo_s, qo_n, qn_c, qn_le, qn_lt, qn_eq, qn_ne_m, qm_ne_n, qm_lt, qm_le, qn_lt_m, qn_le_m, qn_sub, qn_div, qn_mod, qle_t, qle_f, qlt_t, qlt_f, qeq_t, qeq_f, Nat.add_sub_cancel, qC_I, qC_s, qU_s, qU_a, qU_k, qSt_k _ _ hs, qSt_k1 _ _ hs, qSt_k2 _ _ hs, qSt_l1 _ _ hs, qSt_l2 _ _ hs, qSt_r0 _ _ hs, qSt_r1 _ _ hs, qSt_r2 _ _ hs, h3, hA, ha, Option.isSome_none, qb_f, Option.map_none]
        | some Z1 =>
          rw [ha] at hZ1
          obtain ⟨k1, k2, k3⟩ := qAcc_ok hz ha
          have h107 := hs.2.2.1
          obtain ⟨J2, hE, hZ2, -, hJ2⟩ := cEnter (w := w) (I := J) (Z := Z1) hs (qCG_fr hG fun a h => hJ a (by omega)) hg k1 hZ1 (e := v) hv (by omega)
          refine ⟨J2, ?_, hZ2, fun a h1 h2 h3 => by rw [hJ2 a h1 h2 h3, hJ a h3]⟩
          simp (disch := omega) only [↓qlet, eq_self, qzg_t, qzb_some, ↓reduceIte, not_or, not_false_eq_true, not_true_eq_false, and_true, true_and, and_self, or_false, false_or, true_or, or_true, and_false, false_and, qlit, qneg, qof, qn_add, qn_mul, qn_s, qn_z, qn_d, qn_dz, qm_1, qt_1, qt_0, qb_0, qb_1, qb_01, qb01b, q01_0, q01_1, qo_s, qo_n, qn_c, qn_le, qn_lt, qn_eq, qn_ne_m, qm_ne_n, qm_lt, qm_le, qn_lt_m, qn_le_m, qn_sub, qn_div, qn_mod, qle_t, qle_f, qlt_t, qlt_f, qeq_t, qeq_f, Nat.add_sub_cancel, qC_I, qC_s, qU_s, qU_a, qU_k, qSt_k _ _ hs, qSt_k1 _ _ hs, qSt_k2 _ _ hs, qSt_l1 _ _ hs, qSt_l2 _ _ hs, qSt_r0 _ _ hs, qSt_r1 _ _ hs, qSt_r2 _ _ hs, h3, hA, ha, hE, Option.isSome_some, qb_t, Option.map_some]
theorem cCopy_26 {s2 : Nat} (hs : qSt s) (hs2 : qSt s2) (hd : s + 3 ≤ s2 ∨ s2 + 3 ≤ s) {d : Nat} (hd20 : d ≤ 20) : ∀ n k I, I s 3 = qn d → k ≤ d → d < n + k → ∃ J, fX4_copyFrom_26 n s s2 (qn k) (qC w I) = some (qn 0, qC w J) ∧ (∀ j, j < k → J (s + 1) j = I (s + 1) j ∧ J (s + 2) j = I (s + 2) j) ∧ (∀ j, k ≤ j → j < d → J (s + 1) j = I (s2 + 1) j ∧ J (s + 2) j = I (s2 + 2) j) ∧ ∀ a, a ≠ s + 1 → a ≠ s + 2 → J a = I a := by
  intro n
  induction n with
  | zero => intro k I h3 h1 h2; omega
  | succ n ih =>
    intro k I h3 h1 h2
    unfold fX4_copyFrom_26
    rcases Nat.lt_or_ge k d with hk | hk
    · obtain ⟨J, hJ, j1, j2, j3⟩ := ih (k + 1) (qU (qU I (s + 1) k (I (s2 + 1) k)) (s + 2) k (I (s2 + 2) k)) (by rw [qU_r (by omega), qU_r (by omega)]; exact h3) (by omega) (by omega)
      refine ⟨J, ?_, fun j hj => ?_, fun j hj1 hj2 => ?_, fun a h1 h2 => ?_⟩
      · simp (disch := omega) only [↓qlet, eq_self, qzg_t, qzb_some, ↓reduceIte, not_or, not_false_eq_true, not_true_eq_false, and_true, true_and, and_self, or_false, false_or, true_or, or_true, and_false, false_and, qlit, qneg, qof, qn_add, qn_mul, qn_s, qn_z, qn_d, qn_dz, qm_1, qt_1, qt_0, qb_0, qb_1, qb_01, qb01b, q01_0, q01_1, qo_s, qo_n, qn_c, qn_le, qn_lt, qn_eq, qn_ne_m, qm_ne_n, qm_lt, qm_le, qn_lt_m, qn_le_m, qn_sub, qn_div, qn_mod, qle_t, qle_f, qlt_t, qlt_f, qeq_t, qeq_f, Nat.add_sub_cancel, qC_I, qC_s, qU_s, qU_a, qU_k, qSt_k _ _ hs, qSt_k1 _ _ hs, qSt_k2 _ _ hs, qSt_l1 _ _ hs, qSt_l2 _ _ hs, qSt_r0 _ _ hs, qSt_r1 _ _ hs, qSt_r2 _ _ hs, qSt_k _ _ hs2, qSt_k1 _ _ hs2, qSt_k2 _ _ hs2, qSt_l1 _ _ hs2, qSt_l2 _ _ hs2, qSt_r0 _ _ hs2, qSt_r1 _ _ hs2, qSt_r2 _ _ hs2, h3, hJ]
      · obtain ⟨l1, l2⟩ := j1 j (by omega)
        rw [l1, l2, qU_r (by omega), qU_k (by omega), qU_k (by omega), qU_r (by omega)]
        exact ⟨rfl, rfl⟩
      · rcases Nat.eq_or_lt_of_le hj1 with e | e
        · subst e
          obtain ⟨l1, l2⟩ := j1 k (by omega)
          rw [l1, l2, qU_r (by omega), qU_s, qU_s]
          exact ⟨rfl, rfl⟩
        · obtain ⟨l1, l2⟩ := j2 j (by omega) hj2
          rw [l1, l2]
          rw [qU_r (by omega), qU_r (by omega), qU_r (by omega), qU_r (by omega)]
          exact ⟨rfl, rfl⟩
      · rw [j3 a h1 h2, qU_r h2, qU_r h1]
    · refine ⟨I, ?_, fun j _ => ⟨rfl, rfl⟩, fun j h1 h2 => by omega, fun a _ _ => rfl⟩
      simp (disch := omega) only [↓qlet, eq_self, qzg_t, qzb_some, ↓reduceIte, not_or, not_false_eq_true, not_true_eq_false, and_true, true_and, and_self, or_false, false_or, true_or, or_true, and_false, false_and, qlit, qneg, qof, qn_add, qn_mul, qn_s, qn_z, qn_d, qn_dz, qm_1, qt_1, qt_0, qb_0, qb_1, qb_01, qb01b, q01_0, q01_1, qo_s, qo_n, qn_c, qn_le, qn_lt, qn_eq, qn_ne_m, qm_ne_n, qm_lt, qm_le, qn_lt_m, qn_le_m, qn_sub, qn_div, qn_mod, qle_t, qle_f, qlt_t, qlt_f, qeq_t, qeq_f, Nat.add_sub_cancel, qC_I, qC_s, qU_s, qU_a, qU_k, qSt_k _ _ hs, qSt_k1 _ _ hs, qSt_k2 _ _ hs, qSt_l1 _ _ hs, qSt_l2 _ _ hs, qSt_r0 _ _ hs, qSt_r1 _ _ hs, qSt_r2 _ _ hs, h3]
theorem cCopy {s2 : Nat} (hs : qSt s) (hs2 : qSt s2) (hd : s + 3 ≤ s2 ∨ s2 + 3 ≤ s) (hz : qZok G Z) (hZ : qCZ I s2 Z) : ∃ J, fX4_copyFrom s s2 (qC w I) = some (qn 0, qC w J) ∧ qCZ J s Z ∧ J s 5 = I s2 5 ∧ ∀ a, a ≠ s → a ≠ s + 1 → a ≠ s + 2 → J a = I a := by
  obtain ⟨h3, h4, ha⟩ := hZ
  have hl := hz.1
  have k107 := hs.2.2.1
  have k107' := hs2.2.2.1
  unfold fX4_copyFrom
  obtain ⟨J, hJ, j1, j2, j3⟩ := cCopy_26 (w := w) hs hs2 hd hl 10000 0 (qU (qU (qU I s 3 (I s2 3)) s 4 (I s2 4)) s 5 (I s2 5)) (by rw [qU_k (by omega), qU_k (by omega), qU_s]; exact h3) (by omega) (by omega)
  refine ⟨J, ?_, ⟨?_, ?_, ?_⟩, ?_, fun a h1 h2 h3 => ?_⟩
  · simp (disch := omega) only [↓qlet, eq_self, qzg_t, qzb_some, ↓reduceIte, not_or, not_false_eq_true, not_true_eq_false, and_true, true_and, and_self, or_false, false_or, true_or, or_true, and_false, false_and, qlit, qneg, qof, qn_add, qn_mul, qn_s, qn_z, qn_d, qn_dz, qm_1, qt_1, qt_0, qb_0, qb_1, qb_01, qb01b, q01_0, q01_1, qo_s, qo_n, qn_c, qn_le, qn_lt, qn_eq, qn_ne_m, qm_ne_n, qm_lt, qm_le, qn_lt_m, qn_le_m, qn_sub, qn_div, qn_mod, qle_t, qle_f, qlt_t, qlt_f, qeq_t, qeq_f, Nat.add_sub_cancel, qC_I, qC_s, qU_s, qU_a, qU_k, qSt_k _ _ hs, qSt_k1 _ _ hs, qSt_k2 _ _ hs, qSt_l1 _ _ hs, qSt_l2 _ _ hs, qSt_r0 _ _ hs, qSt_r1 _ _ hs, qSt_r2 _ _ hs, qSt_k _ _ hs2, hJ]
  · rw [j3 s (by omega) (by omega), qU_k (by omega), qU_k (by omega), qU_s]; exact h3
  · rw [j3 s (by omega) (by omega), qU_k (by omega), qU_s]; exact h4
  · refine qAll_up ha fun j y hj hp => ?_
    obtain ⟨l1, l2⟩ := j2 j (by omega) hj
    rw [l1, l2, qU_r (by omega), qU_r (by omega), qU_r (by omega), qU_r (by omega), qU_r (by omega), qU_r (by omega)]
    exact hp
  · rw [j3 s (by omega) (by omega), qU_s]
  · rw [j3 a h2 h3, qU_r h1, qU_r h1, qU_r h1]
theorem cLike_37 {s2 : Nat} (hs : qSt s) (hs2 : qSt s2) {st st2 : List (Nat × Nat)} (hl : st2.length = st.length) (h20 : st.length ≤ 20) (h3 : I s 3 = qn st.length) (hv : ∀ x ∈ st, x.1 < 100 ∧ x.2 < 100) (hv2 : ∀ x ∈ st2, x.1 < 100 ∧ x.2 < 100) (ha : qAll (fun j x => I (s + 1) j = qn x.1 ∧ I (s + 2) j = qn x.2) st) (ha2 : qAll (fun j x => I (s2 + 1) j = qn x.1 ∧ I (s2 + 2) j = qn x.2) st2) : ∀ n k, k ≤ st.length → st.length < n + k → fX4_isLike_37 n s s2 (qn k) (qC w I) = some (qb (decide (st.reverse.drop k = st2.reverse.drop k)), qC w I) := by
  intro n
  induction n with
  | zero => intro k h1 h2; omega
  | succ n ih =>
    intro k h1 h2
    unfold fX4_isLike_37
    rcases Nat.lt_or_ge k st.length with hk | hk
    · obtain ⟨x, hx, hd, a1, a2⟩ := qAll_at ha hk
      obtain ⟨y, hy, hd2, b1, b2⟩ := qAll_at ha2 (k := k) (by omega)
      obtain ⟨v1, v2⟩ := hv x hx
      obtain ⟨v3, v4⟩ := hv2 y hy
      have ih := ih (k + 1) (by omega) (by omega)
      rw [hd, hd2]
      simp (disch := omega) only [↓qlet, eq_self, qzg_t, qzb_some, ↓reduceIte, not_or, not_false_eq_true, not_true_eq_false, and_true, true_and, and_self, or_false, false_or, true_or, or_true, and_false, false_and, qlit, qneg, qof, qn_add, qn_mul, qn_s, qn_z, qn_d, qn_dz, qm_1, qt_1, qt_0, qb_0, qb_1, qb_01, qb01b, q01_0, q01_1, qo_s, qo_n, qn_c, qn_le, qn_lt, qn_eq, qn_ne_m, qm_ne_n, qm_lt, qm_le, qn_lt_m, qn_le_m, qn_sub, qn_div, qn_mod, qle_t, qle_f, qlt_t, qlt_f, qeq_t, qeq_f, Nat.add_sub_cancel, qC_I, qC_s, qU_s, qU_a, qU_k, qSt_k _ _ hs, qSt_k1 _ _ hs, qSt_k2 _ _ hs, qSt_l1 _ _ hs, qSt_l2 _ _ hs, qSt_r0 _ _ hs, qSt_r1 _ _ hs, qSt_r2 _ _ hs, qSt_k _ _ hs2, qSt_k1 _ _ hs2, qSt_k2 _ _ hs2, qSt_l1 _ _ hs2, qSt_l2 _ _ hs2, qSt_r0 _ _ hs2, qSt_r1 _ _ hs2, qSt_r2 _ _ hs2, h3, a1, a2, b1, b2, ih]
      by_cases c1 : x.1 = y.1
      · by_cases c2 : x.2 = y.2
        · have e : x = y := Prod.ext c1 c2
          subst e
          simp
        · have e : ¬ x = y := fun e => c2 (by rw [e])
          simp [c1, c2, e, qb]
      · have e : ¬ x = y := fun e => c1 (by rw [e])
        simp [c1, e, qb]
    · rw [List.drop_of_length_le (by simp; omega), List.drop_of_length_le (by simp; omega)]
      simp (disch := omega) only [↓qlet, eq_self, qzg_t, qzb_some, ↓reduceIte, not_or, not_false_eq_true, not_true_eq_false, and_true, true_and, and_self, or_false, false_or, true_or, or_true, and_false, false_and, qlit, qneg, qof, qn_add, qn_mul, qn_s, qn_z, qn_d, qn_dz, qm_1, qt_1, qt_0, qb_0, qb_1, qb_01, qb01b, q01_0, q01_1, qo_s, qo_n, qn_c, qn_le, qn_lt, qn_eq, qn_ne_m, qm_ne_n, qm_lt, qm_le, qn_lt_m, qn_le_m, qn_sub, qn_div, qn_mod, qle_t, qle_f, qlt_t, qlt_f, qeq_t, qeq_f, Nat.add_sub_cancel, qC_I, qC_s, qU_s, qU_a, qU_k, qSt_k _ _ hs, qSt_k1 _ _ hs, qSt_k2 _ _ hs, qSt_l1 _ _ hs, qSt_l2 _ _ hs, qSt_r0 _ _ hs, qSt_r1 _ _ hs, qSt_r2 _ _ hs, h3]
      rfl
theorem cLike {s2 m m2 : Nat} {Z2 : qZ} {G2 : qG} (hs : qSt s) (hs2 : qSt s2) (hz : qZok G Z) (hZ : qCZ I s Z) (hz2 : qZok G2 Z2) (hZ2 : qCZ I s2 Z2) (hm : I s 5 = qn m) (hm2 : I s2 5 = qn m2) (hmm : m < 1000) (hmm2 : m2 < 1000) (hgn : ∀ x, x < 10 → qgN G x ≤ 6) (hgn2 : ∀ x, x < 10 → qgN G2 x ≤ 6) : fX4_isLike s s2 (qC w I) = some (qb (decide (Z = Z2 ∧ m = m2)), qC w I) := by
  obtain ⟨h3, h4, ha⟩ := hZ
  obtain ⟨k3, k4, ka⟩ := hZ2
  have hl := hz.1
  have hl2 := hz2.1
  unfold fX4_isLike
  have e4 : (qo Z.2 = qo Z2.2) = (Z.2 = Z2.2) := by
    cases c : Z.2 with
    | none => cases d : Z2.2 with
      | none => simp
      | some y => have := hz2.2.2.1 y d; simp (disch := omega) [qo, qm_ne_n]
    | some x =>
      have := hz.2.2.1 x c
      cases d : Z2.2 with
      | none => simp (disch := omega) [qo, qn_ne_m]
      | some y => have := hz2.2.2.1 y d; simp (disch := omega) [qo, qn_eq]
  simp (disch := omega) only [↓qlet, eq_self, qzg_t, qzb_some, ↓reduceIte, not_or, not_false_eq_true, not_true_eq_false, and_true, true_and, and_self, or_false, false_or, true_or, or_true, and_false, false_and, qlit, qneg, qof, qn_add, qn_mul, qn_s, qn_z, qn_d, qn_dz, qm_1, qt_1, qt_0, qb_0, qb_1, qb_01, qb01b, q01_0, q01_1, qo_s, qo_n, qn_c, qn_le, qn_lt, qn_eq, qn_ne_m, qm_ne_n, qm_lt, qm_le, qn_lt_m, qn_le_m, qn_sub, qn_div, qn_mod, qle_t, qle_f, qlt_t, qlt_f, qeq_t, qeq_f, Nat.add_sub_cancel, qC_I, qC_s, qU_s, qU_a, qU_k, qSt_k _ _ hs, qSt_k1 _ _ hs, qSt_k2 _ _ hs, qSt_l1 _ _ hs, qSt_l2 _ _ hs, qSt_r0 _ _ hs, qSt_r1 _ _ hs, qSt_r2 _ _ hs, qSt_k _ _ hs2, h3, k3, h4, k4, hm, hm2, e4]
  by_cases c1 : Z.1.length = Z2.1.length
  · have h := cLike_37 (w := w) hs hs2 c1.symm hl h3 (fun x hx => by have := hz.2.1 x hx; have := hgn x.1 this.1; omega) (fun x hx => by have := hz2.2.1 x hx; have := hgn2 x.1 this.1; omega) ha ka 10000 0 (by omega) (by omega)
    rw [if_pos c1]
    by_cases c2 : Z.2 = Z2.2
    · rw [if_pos c2]
      by_cases c3 : m = m2
      · have e9 : (Z.1.reverse = Z2.1.reverse) ↔ (Z = Z2 ∧ m = m2) := by
          rw [List.reverse_inj]
          exact ⟨fun e => ⟨Prod.ext e c2, c3⟩, fun e => by rw [e.1]⟩
        rw [if_pos c3, h, List.drop_zero, List.drop_zero, decide_eq_decide.mpr e9]
      · rw [if_neg c3]
        simp [c3, qb]
    · rw [if_neg c2]
      have e : ¬ Z = Z2 := fun e => c2 (by rw [e])
      simp [e, qb]
  · rw [if_neg c1]
    have e : ¬ Z = Z2 := fun e => c1 (by rw [e])
    simp [e, qb]
end
