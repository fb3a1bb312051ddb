/-! THE LAW: how far a text is read anew; states -/
theorem lCmp0 {a b : Nat} (ha : a < 9223372036854775808) (hb : b < 9223372036854775808) : (lg_cmp (Int64.ofNat a) (Int64.ofNat b) = qn 0) = (a = b) := by
  have h1 : (Int64.ofNat a > Int64.ofNat b) ↔ b < a := Int64.ofNat_lt_iff_lt hb ha
  have h2 : (Int64.ofNat a = Int64.ofNat b) ↔ a = b := by
    constructor
    · intro h
      have h3 := congrArg Int64.toInt h
      rw [Int64.toInt_ofNat_of_lt ha, Int64.toInt_ofNat_of_lt hb] at h3
      omega
    · intro h; rw [h]
  unfold lg_cmp
  by_cases c : b < a
  · rw [if_pos (h1.mpr c)]
    exact propext ⟨fun h => absurd h (by decide), fun h => by omega⟩
  · rw [if_neg (fun h => c (h1.mp h))]
    by_cases c2 : a = b
    · rw [if_pos (h2.mpr c2)]
      exact propext ⟨fun _ => c2, fun _ => rfl⟩
    · rw [if_neg (fun h => c2 (h2.mp h))]
      exact propext ⟨fun h => absurd h (by decide), fun h => absurd h c2⟩
theorem lCmpLe {a b : Nat} (ha : a < 9223372036854775808) (hb : b < 9223372036854775808) : (lg_cmp (Int64.ofNat a) (Int64.ofNat b) ≤ qn 0) = (a ≤ b) := by
  have h1 : (Int64.ofNat a > Int64.ofNat b) ↔ b < a := Int64.ofNat_lt_iff_lt hb ha
  unfold lg_cmp
  by_cases c : b < a
  · rw [if_pos (h1.mpr c)]
    exact propext ⟨fun h => absurd h (by decide), fun h => by omega⟩
  · rw [if_neg (fun h => c (h1.mp h))]
    refine propext ⟨fun _ => by omega, fun _ => ?_⟩
    split <;> decide
theorem lRem64 {a b : Nat} (ha : a < 9223372036854775808) (hb : b < 9223372036854775808) : zlrem (Int64.ofNat a) (Int64.ofNat b) = Int64.ofNat (a % b) := by
  unfold zlrem
  have h1 := Nat.div_mul_le_self a b
  rw [← Int64.ofNat_div ha hb, ← Int64.ofNat_mul, ← Int64.ofNat_sub _ _ h1]
  congr 1
  have h2 := Nat.div_add_mod a b
  have h3 := Nat.mul_comm b (a / b)
  omega
theorem lDiv64 {a b : Nat} (ha : a < 9223372036854775808) (hb : b < 9223372036854775808) : Int64.ofNat a / Int64.ofNat b = Int64.ofNat (a / b) := (Int64.ofNat_div ha hb).symm
theorem l32 : ∀ n, n < 80 → (Int64.ofNat n).toInt32 = qn n := by decide +kernel
theorem qn_sm (s : Nat) : qn s - qm = qn (s + 1) := by
  rw [← qn_add, Int32.sub_eq_add_neg]
  rfl
theorem qDig_inj : ∀ a b : List (Nat × Nat), (∀ y ∈ a, y.1 < 5 ∧ y.2 < 8) → (∀ y ∈ b, y.1 < 5 ∧ y.2 < 8) → qDig a = qDig b → a = b := by
  have h1 : ∀ st : List (Nat × Nat), 1 ≤ qDig st := by
    intro st
    induction st with
    | nil => exact Nat.le_refl _
    | cons x st ih => unfold qDig; omega
  intro a
  induction a with
  | nil =>
    intro b _ _ h
    cases b with
    | nil => rfl
    | cons y b =>
      have := h1 b
      unfold qDig at h
      omega
  | cons x a ih =>
    intro b ha hb h
    cases b with
    | nil =>
      have := h1 a
      unfold qDig at h
      omega
    | cons y b =>
      have hx := ha x List.mem_cons_self
      have hy := hb y List.mem_cons_self
      unfold qDig at h
      have e : qDig a = qDig b := by omega
      have e1 := ih b (fun z hz => ha z (List.mem_cons_of_mem _ hz)) (fun z hz => hb z (List.mem_cons_of_mem _ hz)) e
      have e2 : x = y := Prod.ext (by omega) (by omega)
      rw [e1, e2]
theorem qla_inj {a b : Option Nat} (h : qla a = qla b) : a = b := by
  cases a with
  | none => cases b with
    | none => rfl
    | some b => simp only [qla] at h; omega
  | some a => cases b with
    | none => simp only [qla] at h; omega
    | some b => simp only [qla] at h; congr 1; omega
section
variable {w : Bool} {I : Nat → Nat → Int32} {W : Nat → Nat → Nat} {G : qG} {X X0 : List (qZ × Nat)} {ks : List qK}
theorem qXl_eq {x x0 : qZ × Nat} (h : qXl G x) (h0 : qXl G x0) : (qDig x.1.1 = qDig x0.1.1 ∧ 2 * qla x.1.2 + (if x.2 = 0 then 0 else 1) = 2 * qla x0.1.2 + (if x0.2 = 0 then 0 else 1) ∧ (2 * qla x.1.2 + (if x.2 = 0 then 0 else 1)) % 2 = 0) ↔ (x.2 = 0 ∧ x = x0) := by
  constructor
  · rintro ⟨h1, h2, h3⟩
    have e1 := qDig_inj _ _ (fun y hy => ⟨(h.1 y hy).1, (h.1 y hy).2.1⟩) (fun y hy => ⟨(h0.1 y hy).1, (h0.1 y hy).2.1⟩) h1
    have e2 : x.2 = 0 := by
      by_cases c : x.2 = 0
      · exact c
      · rw [if_neg c] at h3; omega
    rw [if_pos e2] at h2
    have e3 : x0.2 = 0 := by
      by_cases c : x0.2 = 0
      · exact c
      · rw [if_neg c] at h2; omega
    rw [if_pos e3] at h2
    have e4 : x.1.2 = x0.1.2 := qla_inj (by omega)
    exact ⟨e2, Prod.ext (Prod.ext e1 e4) (by rw [e2, e3])⟩
  · rintro ⟨h1, h2⟩
    subst h2
    rw [if_pos h1]
    exact ⟨rfl, rfl, by omega⟩
theorem qXl_lt {x : qZ × Nat} (h : qXl G x) : qDig x.1.1 < 9223372036854775808 ∧ 2 * qla x.1.2 + (if x.2 = 0 then 0 else 1) < 100 := by
  have h1 := qDig_80 (st := x.1.1) (fun y hy => by have := h.1 y hy; omega) h.2.1
  have h2 : (2 : Nat) * 80 ^ 9 < 9223372036854775808 := by decide
  refine ⟨by omega, ?_⟩
  have h3 : qla x.1.2 ≤ 5 := by
    cases hq : x.1.2 with
    | none => exact Nat.zero_le _
    | some e => have := h.2.2 e hq; simp only [qla]; omega
  split <;> omega
theorem qLWa_at {a : Nat} (h : qLWa G a W X) {j : Nat} (hj : j < X.length) : W a j = qDig (qAt X j).1.1 ∧ W a (24 + j) = 2 * qla (qAt X j).1.2 + (if (qAt X j).2 = 0 then 0 else 1) ∧ qXl G (qAt X j) := by
  obtain ⟨x, hx, hg, hp⟩ := qAll_get h j hj
  have e : qAt X j = x := by
    unfold qAt
    rw [List.getElem?_reverse hj, hg]
    rfl
  rw [e]
  exact hp
theorem lAn_71 (h20 : I 509 20 = qn ks.length) (hn : ks.length ≤ 18) (hX : qLWa G 518 W X) (hX0 : qLWa G 519 W X0) (hXl : ks.length < X.length) (back : Bool) (hX0l : back = false → ks.length < X0.length) (hX0b : back = true → ks.length ≤ X0.length) (fr : Nat) : ∀ n s m, n < m → ks.length < s + n → (back = true → 1 ≤ s) → fr ≤ s → s ≤ 62 → fL_anew_71 m 509 518 519 (if back = true then qn 1 else qm) (qn fr) (qn s) (qL w I W) = some (qn (qStopAt (fun s => qSame X X0 s (if back = true then s - 1 else s + 1)) ks.length n s - fr), qL w I W) := by
  have hend : ∀ s m v, ks.length ≤ s → fr ≤ s → s ≤ 62 → fL_anew_71 (m + 1) 509 518 519 v (qn fr) (qn s) (qL w I W) = some (qn (s - fr), qL w I W) := by
    intro s m v h1 h2 h3
    unfold fL_anew_71
    simp (disch := omega) only [↓qlet, eq_self, qzg_t, qzb_some, ↓reduceIte, not_or, not_false_eq_true, not_true_eq_false, and_true, true_and, and_self, or_false, false_or, true_or, or_true, and_false, false_and, qlit, qneg, qof, qn_add, qn_mul, qn_s, qn_z, qn_d, qn_dz, qm_1, qt_1, qt_0, qb_0, qb_1, qb_01, qb01b, q01_0, q01_1, qo_s, qo_n, qn_c, qn_le, qn_lt, qn_eq, qn_ne_m, qm_ne_n, qm_lt, qm_le, qn_lt_m, qn_le_m, qn_sub, qn_div, qn_mod, qle_t, qle_f, qlt_t, qlt_f, qeq_t, qeq_f, Nat.add_sub_cancel, qU_s, qU_a, qU_k, qn_rem, qL_I, qL_s, lk_505, lk_506, lk_507, lk_508, lk_509, lk_510, lk_511, lk_512, lk_513, lk_514, lk_515, lk_516, lk_517, lk_518, lk_519, ll_505, ll_506, ll_507, ll_508, ll_509, ll_510, ll_511, ll_512, ll_513, ll_514, ll_515, ll_516, ll_517, ll_518, ll_519, h20, h1]
  intro n
  induction n with
  | zero =>
    intro s m h1 h2 _ h3 h4
    obtain ⟨m, rfl⟩ : ∃ q, m = q + 1 := ⟨m - 1, by omega⟩
    exact hend s m _ (by omega) h3 h4
  | succ n ih =>
    intro s m h1 h2 hb h3 h4
    obtain ⟨m, rfl⟩ : ∃ q, m = q + 1 := ⟨m - 1, by omega⟩
    by_cases c : ks.length ≤ s
    · rw [qStopAt_o (by omega), hend s m _ c h3 h4]
    · obtain ⟨a1, a2, a3⟩ := qLWa_at hX (show s < X.length by omega)
      have hbl : (if back = true then s - 1 else s + 1) < X0.length := by
        cases back with
        | true => have := hX0b rfl; have := hb rfl; rw [if_pos rfl]; omega
        | false => have := hX0l rfl; rw [if_neg Bool.false_ne_true]; omega
      obtain ⟨b1, b2, b3⟩ := qLWa_at hX0 hbl
      obtain ⟨a4, a5⟩ := qXl_lt a3
      obtain ⟨b4, b5⟩ := qXl_lt b3
      have heq := qXl_eq a3 b3
      have ih := ih (s + 1) m (by omega) (by omega) (fun _ => by omega) (by omega) (by omega)
      generalize hb9 : (if back = true then s - 1 else s + 1) = bb at *
      have i1 : qn s - (if back = true then qn 1 else qm) = qn bb := by
        cases back with
        | true => rw [if_pos rfl] at hb9 ⊢; rw [← hb9]; exact qn_sub (hb rfl)
        | false => rw [if_neg Bool.false_ne_true] at hb9 ⊢; rw [← hb9]; exact qn_sm s
      have i2 : qn (24 + s) - (if back = true then qn 1 else qm) = qn (24 + bb) := by
        cases back with
        | true =>
          rw [if_pos rfl] at hb9 ⊢
          have := hb rfl
          rw [qn_sub (by omega), ← hb9]
          congr 1; omega
        | false => rw [if_neg Bool.false_ne_true] at hb9 ⊢; rw [← hb9]; exact qn_sm (24 + s)
      have hs1 : bb ≤ s + 1 := by
        cases back with
        | true => rw [if_pos rfl] at hb9; omega
        | false => rw [if_neg Bool.false_ne_true] at hb9; omega
      generalize hDa : qDig (qAt X s).1.1 = Da at *
      generalize hDb : qDig (qAt X0 bb).1.1 = Db at *
      generalize hMa : 2 * qla (qAt X s).1.2 + (if (qAt X s).2 = 0 then 0 else 1) = Ma at *
      generalize hMb : 2 * qla (qAt X0 bb).1.2 + (if (qAt X0 bb).2 = 0 then 0 else 1) = Mb at *
      have hrem := lRem64 (a := Ma) (b := 2) (by omega) (by omega)
      generalize hby : (if back = true then qn 1 else qm) = by1 at *
      by_cases hs : Da = Db ∧ Ma = Mb ∧ Ma % 2 = 0
      · have hS : qSame X X0 s bb = true := decide_eq_true (heq.mp hs)
        have hst : qStopAt (fun s => qSame X X0 s (if back = true then s - 1 else s + 1)) ks.length (n + 1) s = s := qStopAt_t (by show qSame X X0 s (if back = true then s - 1 else s + 1) = true; rw [hb9]; exact hS)
        rw [hst]
        obtain ⟨e1, e2, e3⟩ := hs
        subst e1
        subst e2
        unfold fL_anew_71
        simp (disch := omega) only [↓qlet, eq_self, qzg_t, qzb_some, ↓reduceIte, not_or, not_false_eq_true, not_true_eq_false, and_true, true_and, and_self, or_false, false_or, true_or, or_true, and_false, false_and, qlit, qneg, qof, qn_add, qn_mul, qn_s, qn_z, qn_d, qn_dz, qm_1, qt_1, qt_0, qb_0, qb_1, qb_01, qb01b, q01_0, q01_1, qo_s, qo_n, qn_c, qn_le, qn_lt, qn_eq, qn_ne_m, qm_ne_n, qm_lt, qm_le, qn_lt_m, qn_le_m, qn_sub, qn_div, qn_mod, qle_t, qle_f, qlt_t, qlt_f, qeq_t, qeq_f, Nat.add_sub_cancel, qU_s, qU_a, qU_k, qn_rem, qL_I, qL_s, lk_505, lk_506, lk_507, lk_508, lk_509, lk_510, lk_511, lk_512, lk_513, lk_514, lk_515, lk_516, lk_517, lk_518, lk_519, ll_505, ll_506, ll_507, ll_508, ll_509, ll_510, ll_511, ll_512, ll_513, ll_514, ll_515, ll_516, ll_517, ll_518, ll_519, h20, c, i1, i2, qL_L, a1, a2, b1, b2, lCmp0, qI64_lit, hrem, e3]
      · have hS : qSame X X0 s bb = false := decide_eq_false (fun h => hs (heq.mpr h))
        have hst : qStopAt (fun s => qSame X X0 s (if back = true then s - 1 else s + 1)) ks.length (n + 1) s = qStopAt (fun s => qSame X X0 s (if back = true then s - 1 else s + 1)) ks.length n (s + 1) := qStopAt_f (by omega) (by show qSame X X0 s (if back = true then s - 1 else s + 1) = false; rw [hb9]; exact hS)
        rw [hst]
        unfold fL_anew_71 fL_anew_132
        by_cases e1 : Da = Db
        · by_cases e2 : Ma = Mb
          · have e3 : ¬ Mb % 2 = 0 := fun e3 => hs ⟨e1, e2, by rw [e2]; exact e3⟩
            subst e2
            simp (disch := omega) only [↓qlet, eq_self, qzg_t, qzb_some, ↓reduceIte, not_or, not_false_eq_true, not_true_eq_false, and_true, true_and, and_self, or_false, false_or, true_or, or_true, and_false, false_and, qlit, qneg, qof, qn_add, qn_mul, qn_s, qn_z, qn_d, qn_dz, qm_1, qt_1, qt_0, qb_0, qb_1, qb_01, qb01b, q01_0, q01_1, qo_s, qo_n, qn_c, qn_le, qn_lt, qn_eq, qn_ne_m, qm_ne_n, qm_lt, qm_le, qn_lt_m, qn_le_m, qn_sub, qn_div, qn_mod, qle_t, qle_f, qlt_t, qlt_f, qeq_t, qeq_f, Nat.add_sub_cancel, qU_s, qU_a, qU_k, qn_rem, qL_I, qL_s, lk_505, lk_506, lk_507, lk_508, lk_509, lk_510, lk_511, lk_512, lk_513, lk_514, lk_515, lk_516, lk_517, lk_518, lk_519, ll_505, ll_506, ll_507, ll_508, ll_509, ll_510, ll_511, ll_512, ll_513, ll_514, ll_515, ll_516, ll_517, ll_518, ll_519, h20, c, i1, i2, qL_L, a1, a2, b1, b2, lCmp0, qI64_lit, hrem, e1, e3, ih]
          · simp (disch := omega) only [↓qlet, eq_self, qzg_t, qzb_some, ↓reduceIte, not_or, not_false_eq_true, not_true_eq_false, and_true, true_and, and_self, or_false, false_or, true_or, or_true, and_false, false_and, qlit, qneg, qof, qn_add, qn_mul, qn_s, qn_z, qn_d, qn_dz, qm_1, qt_1, qt_0, qb_0, qb_1, qb_01, qb01b, q01_0, q01_1, qo_s, qo_n, qn_c, qn_le, qn_lt, qn_eq, qn_ne_m, qm_ne_n, qm_lt, qm_le, qn_lt_m, qn_le_m, qn_sub, qn_div, qn_mod, qle_t, qle_f, qlt_t, qlt_f, qeq_t, qeq_f, Nat.add_sub_cancel, qU_s, qU_a, qU_k, qn_rem, qL_I, qL_s, lk_505, lk_506, lk_507, lk_508, lk_509, lk_510, lk_511, lk_512, lk_513, lk_514, lk_515, lk_516, lk_517, lk_518, lk_519, ll_505, ll_506, ll_507, ll_508, ll_509, ll_510, ll_511, ll_512, ll_513, ll_514, ll_515, ll_516, ll_517, ll_518, ll_519, h20, c, i1, i2, qL_L, a1, a2, b1, b2, lCmp0, qI64_lit, hrem, e1, e2, ih]
        · simp (disch := omega) only [↓qlet, eq_self, qzg_t, qzb_some, ↓reduceIte, not_or, not_false_eq_true, not_true_eq_false, and_true, true_and, and_self, or_false, false_or, true_or, or_true, and_false, false_and, qlit, qneg, qof, qn_add, qn_mul, qn_s, qn_z, qn_d, qn_dz, qm_1, qt_1, qt_0, qb_0, qb_1, qb_01, qb01b, q01_0, q01_1, qo_s, qo_n, qn_c, qn_le, qn_lt, qn_eq, qn_ne_m, qm_ne_n, qm_lt, qm_le, qn_lt_m, qn_le_m, qn_sub, qn_div, qn_mod, qle_t, qle_f, qlt_t, qlt_f, qeq_t, qeq_f, Nat.add_sub_cancel, qU_s, qU_a, qU_k, qn_rem, qL_I, qL_s, lk_505, lk_506, lk_507, lk_508, lk_509, lk_510, lk_511, lk_512, lk_513, lk_514, lk_515, lk_516, lk_517, lk_518, lk_519, ll_505, ll_506, ll_507, ll_508, ll_509, ll_510, ll_511, ll_512, ll_513, ll_514, ll_515, ll_516, ll_517, ll_518, ll_519, h20, c, i1, i2, qL_L, a1, a2, b1, b2, lCmp0, qI64_lit, hrem, e1, ih]
theorem lTk5 (h3 : qLTk I 509 0 ks) {i : Nat} (hi : i < ks.length) : ∃ s n, n < 128 ∧ s ≤ 8 ∧ I 509 i = qn (128 * s + n) ∧ qSo ks i = some s := by
  obtain ⟨k, hk⟩ : ∃ k, ks[i]? = some k := ⟨_, List.getElem?_eq_getElem hi⟩
  obtain ⟨a1, a2⟩ := h3 i k hk
  rw [Nat.zero_add] at a2
  obtain ⟨b1, n, b2, b3, -⟩ := a1
  refine ⟨k.1, n, b2, b1, by rw [a2, b3, qn_add], ?_⟩
  unfold qSo
  rw [hk]
  rfl
theorem lAnew (h20 : I 509 20 = qn ks.length) (hn : ks.length ≤ 18) (h3 : qLTk I 509 0 ks) (hX : qLWa G 518 W X) (hX0 : qLWa G 519 W X0) (hXl : ks.length < X.length) (back : Bool) (hX0l : back = false → ks.length < X0.length) (hX0b : back = true → ks.length ≤ X0.length) {pl : Nat} (hpl : pl ≤ ks.length) : fL_anew 509 518 519 (qn pl) (if back = true then qn 1 else qm) (qL w I W) = some (qn (qAnew ks X X0 pl (if back = true then pl + 1 else pl) back), qL w I W) := by
  obtain ⟨first, hf⟩ : ∃ first, first = if back = true then pl + 1 else pl := ⟨_, rfl⟩
  rw [← hf]
  have hfp : pl ≤ first ∧ first ≤ 19 := by rw [hf]; split <;> omega
  -- behind the first stop
  have h68 : ∀ fr, fr ≤ pl → ∀ t, t ≤ 1 → fL_anew_68 509 518 519 (if back = true then qn 1 else qm) (qn fr) (qn first) (qn t) (qL w I W) = some (qn (qStopAt (fun s => qSame X X0 s (if back = true then s - 1 else s + 1)) ks.length (ks.length + 1) (first + t) - fr), qL w I W) := by
    intro fr h1 t ht
    have h := lAn_71 (w := w) h20 hn hX hX0 hXl back hX0l hX0b fr (ks.length + 1) (first + t) 10000 (by omega) (by omega) (fun hb => by rw [hb, if_pos rfl] at hf; omega) (by omega) (by omega)
    unfold fL_anew_68
    generalize fL_anew_71 10000 = F at h ⊢
    simp (disch := omega) only [↓qlet, eq_self, qzg_t, qzb_some, ↓reduceIte, not_or, not_false_eq_true, not_true_eq_false, and_true, true_and, and_self, or_false, false_or, true_or, or_true, and_false, false_and, qlit, qneg, qof, qn_add, qn_mul, qn_s, qn_z, qn_d, qn_dz, qm_1, qt_1, qt_0, qb_0, qb_1, qb_01, qb01b, q01_0, q01_1, qo_s, qo_n, qn_c, qn_le, qn_lt, qn_eq, qn_ne_m, qm_ne_n, qm_lt, qm_le, qn_lt_m, qn_le_m, qn_sub, qn_div, qn_mod, qle_t, qle_f, qlt_t, qlt_f, qeq_t, qeq_f, Nat.add_sub_cancel, qU_s, qU_a, qU_k, qn_rem, qL_I, qL_s, lk_505, lk_506, lk_507, lk_508, lk_509, lk_510, lk_511, lk_512, lk_513, lk_514, lk_515, lk_516, lk_517, lk_518, lk_519, ll_505, ll_506, ll_507, ll_508, ll_509, ll_510, ll_511, ll_512, ll_513, ll_514, ll_515, ll_516, ll_517, ll_518, ll_519]
    exact h
  have h38 : ∀ fr, fr ≤ pl → fL_anew_38 509 518 519 (if back = true then qn 1 else qm) (qn fr) (qn first) (qL w I W) = some (qn (qStopAt (fun s => qSame X X0 s (if back = true then s - 1 else s + 1)) ks.length (ks.length + 1) (if qSo ks first = some 5 then first + 1 else first) - fr), qL w I W) := by
    intro fr h1
    have a0 := h68 fr h1 0 (by omega)
    have a1 := h68 fr h1 1 (by omega)
    unfold fL_anew_38 fL_anew_67
    generalize fL_anew_68 = F at a0 a1 ⊢
    by_cases c : ks.length ≤ first
    · have e : qSo ks first = none := by unfold qSo; rw [List.getElem?_eq_none c]; rfl
      have e2 : (if qSo ks first = some 5 then first + 1 else first) = first + 0 := by rw [e, if_neg (by simp)]; rfl
      rw [e2]
      simp (disch := omega) only [↓qlet, eq_self, qzg_t, qzb_some, ↓reduceIte, not_or, not_false_eq_true, not_true_eq_false, and_true, true_and, and_self, or_false, false_or, true_or, or_true, and_false, false_and, qlit, qneg, qof, qn_add, qn_mul, qn_s, qn_z, qn_d, qn_dz, qm_1, qt_1, qt_0, qb_0, qb_1, qb_01, qb01b, q01_0, q01_1, qo_s, qo_n, qn_c, qn_le, qn_lt, qn_eq, qn_ne_m, qm_ne_n, qm_lt, qm_le, qn_lt_m, qn_le_m, qn_sub, qn_div, qn_mod, qle_t, qle_f, qlt_t, qlt_f, qeq_t, qeq_f, Nat.add_sub_cancel, qU_s, qU_a, qU_k, qn_rem, qL_I, qL_s, lk_505, lk_506, lk_507, lk_508, lk_509, lk_510, lk_511, lk_512, lk_513, lk_514, lk_515, lk_516, lk_517, lk_518, lk_519, ll_505, ll_506, ll_507, ll_508, ll_509, ll_510, ll_511, ll_512, ll_513, ll_514, ll_515, ll_516, ll_517, ll_518, ll_519, h20, c]
      exact a0
    · obtain ⟨s, n, n1, s8, i1, i2⟩ := lTk5 h3 (show first < ks.length by omega)
      have e1 : (128 * s + n) / 128 = s := by omega
      by_cases c5 : s = 5
      · have e2 : (if qSo ks first = some 5 then first + 1 else first) = first + 1 := by rw [i2, c5, if_pos rfl]
        rw [e2]
        rw [c5] at e1 i1
        simp (disch := omega) only [↓qlet, eq_self, qzg_t, qzb_some, ↓reduceIte, not_or, not_false_eq_true, not_true_eq_false, and_true, true_and, and_self, or_false, false_or, true_or, or_true, and_false, false_and, qlit, qneg, qof, qn_add, qn_mul, qn_s, qn_z, qn_d, qn_dz, qm_1, qt_1, qt_0, qb_0, qb_1, qb_01, qb01b, q01_0, q01_1, qo_s, qo_n, qn_c, qn_le, qn_lt, qn_eq, qn_ne_m, qm_ne_n, qm_lt, qm_le, qn_lt_m, qn_le_m, qn_sub, qn_div, qn_mod, qle_t, qle_f, qlt_t, qlt_f, qeq_t, qeq_f, Nat.add_sub_cancel, qU_s, qU_a, qU_k, qn_rem, qL_I, qL_s, lk_505, lk_506, lk_507, lk_508, lk_509, lk_510, lk_511, lk_512, lk_513, lk_514, lk_515, lk_516, lk_517, lk_518, lk_519, ll_505, ll_506, ll_507, ll_508, ll_509, ll_510, ll_511, ll_512, ll_513, ll_514, ll_515, ll_516, ll_517, ll_518, ll_519, h20, c, i1, e1]
        exact a1
      · have e2 : (if qSo ks first = some 5 then first + 1 else first) = first + 0 := by
          rw [i2, if_neg (fun h => c5 (by injection h))]; rfl
        rw [e2]
        simp (disch := omega) only [↓qlet, eq_self, qzg_t, qzb_some, ↓reduceIte, not_or, not_false_eq_true, not_true_eq_false, and_true, true_and, and_self, or_false, false_or, true_or, or_true, and_false, false_and, qlit, qneg, qof, qn_add, qn_mul, qn_s, qn_z, qn_d, qn_dz, qm_1, qt_1, qt_0, qb_0, qb_1, qb_01, qb01b, q01_0, q01_1, qo_s, qo_n, qn_c, qn_le, qn_lt, qn_eq, qn_ne_m, qm_ne_n, qm_lt, qm_le, qn_lt_m, qn_le_m, qn_sub, qn_div, qn_mod, qle_t, qle_f, qlt_t, qlt_f, qeq_t, qeq_f, Nat.add_sub_cancel, qU_s, qU_a, qU_k, qn_rem, qL_I, qL_s, lk_505, lk_506, lk_507, lk_508, lk_509, lk_510, lk_511, lk_512, lk_513, lk_514, lk_515, lk_516, lk_517, lk_518, lk_519, ll_505, ll_506, ll_507, ll_508, ll_509, ll_510, ll_511, ll_512, ll_513, ll_514, ll_515, ll_516, ll_517, ll_518, ll_519, h20, c, i1, e1, c5]
        exact a0
  have h24 : ∀ fr, fr ≤ pl → fL_anew_24 509 518 519 (qn pl) (if back = true then qn 1 else qm) (qn fr) (qL w I W) = some (qn (qStopAt (fun s => qSame X X0 s (if back = true then s - 1 else s + 1)) ks.length (ks.length + 1) (if qSo ks first = some 5 then first + 1 else first) - fr), qL w I W) := by
    intro fr h1
    have h := h38 fr h1
    unfold fL_anew_24
    generalize fL_anew_38 = F at h ⊢
    cases back with
    | true =>
      rw [if_pos rfl] at hf
      rw [hf] at h
      simp (disch := omega) only [↓qlet, eq_self, qzg_t, qzb_some, ↓reduceIte, not_or, not_false_eq_true, not_true_eq_false, and_true, true_and, and_self, or_false, false_or, true_or, or_true, and_false, false_and, qlit, qneg, qof, qn_add, qn_mul, qn_s, qn_z, qn_d, qn_dz, qm_1, qt_1, qt_0, qb_0, qb_1, qb_01, qb01b, q01_0, q01_1, qo_s, qo_n, qn_c, qn_le, qn_lt, qn_eq, qn_ne_m, qm_ne_n, qm_lt, qm_le, qn_lt_m, qn_le_m, qn_sub, qn_div, qn_mod, qle_t, qle_f, qlt_t, qlt_f, qeq_t, qeq_f, Nat.add_sub_cancel, qU_s, qU_a, qU_k, qn_rem, qL_I, qL_s, lk_505, lk_506, lk_507, lk_508, lk_509, lk_510, lk_511, lk_512, lk_513, lk_514, lk_515, lk_516, lk_517, lk_518, lk_519, ll_505, ll_506, ll_507, ll_508, ll_509, ll_510, ll_511, ll_512, ll_513, ll_514, ll_515, ll_516, ll_517, ll_518, ll_519, if_true]
      rw [hf]
      exact h
    | false =>
      rw [if_neg Bool.false_ne_true] at hf
      rw [hf] at h
      simp (disch := omega) only [↓qlet, eq_self, qzg_t, qzb_some, ↓reduceIte, not_or, not_false_eq_true, not_true_eq_false, and_true, true_and, and_self, or_false, false_or, true_or, or_true, and_false, false_and, qlit, qneg, qof, qn_add, qn_mul, qn_s, qn_z, qn_d, qn_dz, qm_1, qt_1, qt_0, qb_0, qb_1, qb_01, qb01b, q01_0, q01_1, qo_s, qo_n, qn_c, qn_le, qn_lt, qn_eq, qn_ne_m, qm_ne_n, qm_lt, qm_le, qn_lt_m, qn_le_m, qn_sub, qn_div, qn_mod, qle_t, qle_f, qlt_t, qlt_f, qeq_t, qeq_f, Nat.add_sub_cancel, qU_s, qU_a, qU_k, qn_rem, qL_I, qL_s, lk_505, lk_506, lk_507, lk_508, lk_509, lk_510, lk_511, lk_512, lk_513, lk_514, lk_515, lk_516, lk_517, lk_518, lk_519, ll_505, ll_506, ll_507, ll_508, ll_509, ll_510, ll_511, ll_512, ll_513, ll_514, ll_515, ll_516, ll_517, ll_518, ll_519, Bool.false_eq_true, if_false]
      rw [hf]
      exact h
  unfold qAnew fL_anew fL_anew_23
  by_cases c0 : pl ≤ 0
  · have e0 : pl = 0 := by omega
    have e : qAhead ks pl = none := by unfold qAhead; rw [if_pos e0]
    have e2 : (if qAhead ks pl = some 5 then pl - 1 else pl) = pl := by rw [e, if_neg (by simp)]
    rw [e2]
    have h := h24 pl (Nat.le_refl _)
    generalize fL_anew_24 = F at h ⊢
    simp (disch := omega) only [↓qlet, eq_self, qzg_t, qzb_some, ↓reduceIte, not_or, not_false_eq_true, not_true_eq_false, and_true, true_and, and_self, or_false, false_or, true_or, or_true, and_false, false_and, qlit, qneg, qof, qn_add, qn_mul, qn_s, qn_z, qn_d, qn_dz, qm_1, qt_1, qt_0, qb_0, qb_1, qb_01, qb01b, q01_0, q01_1, qo_s, qo_n, qn_c, qn_le, qn_lt, qn_eq, qn_ne_m, qm_ne_n, qm_lt, qm_le, qn_lt_m, qn_le_m, qn_sub, qn_div, qn_mod, qle_t, qle_f, qlt_t, qlt_f, qeq_t, qeq_f, Nat.add_sub_cancel, qU_s, qU_a, qU_k, qn_rem, qL_I, qL_s, lk_505, lk_506, lk_507, lk_508, lk_509, lk_510, lk_511, lk_512, lk_513, lk_514, lk_515, lk_516, lk_517, lk_518, lk_519, ll_505, ll_506, ll_507, ll_508, ll_509, ll_510, ll_511, ll_512, ll_513, ll_514, ll_515, ll_516, ll_517, ll_518, ll_519, c0]
    exact h
  · have e : qAhead ks pl = qSo ks (pl - 1) := by unfold qAhead; rw [if_neg (by omega)]
    obtain ⟨s, n, n1, s8, i1, i2⟩ := lTk5 h3 (show pl - 1 < ks.length by omega)
    have e1 : (128 * s + n) / 128 = s := by omega
    by_cases c5 : s = 5
    · have e2 : (if qAhead ks pl = some 5 then pl - 1 else pl) = pl - 1 := by rw [e, i2, c5, if_pos rfl]
      rw [e2]
      rw [c5] at e1 i1
      have h := h24 (pl - 1) (by omega)
      generalize fL_anew_24 = F at h ⊢
      simp (disch := omega) only [↓qlet, eq_self, qzg_t, qzb_some, ↓reduceIte, not_or, not_false_eq_true, not_true_eq_false, and_true, true_and, and_self, or_false, false_or, true_or, or_true, and_false, false_and, qlit, qneg, qof, qn_add, qn_mul, qn_s, qn_z, qn_d, qn_dz, qm_1, qt_1, qt_0, qb_0, qb_1, qb_01, qb01b, q01_0, q01_1, qo_s, qo_n, qn_c, qn_le, qn_lt, qn_eq, qn_ne_m, qm_ne_n, qm_lt, qm_le, qn_lt_m, qn_le_m, qn_sub, qn_div, qn_mod, qle_t, qle_f, qlt_t, qlt_f, qeq_t, qeq_f, Nat.add_sub_cancel, qU_s, qU_a, qU_k, qn_rem, qL_I, qL_s, lk_505, lk_506, lk_507, lk_508, lk_509, lk_510, lk_511, lk_512, lk_513, lk_514, lk_515, lk_516, lk_517, lk_518, lk_519, ll_505, ll_506, ll_507, ll_508, ll_509, ll_510, ll_511, ll_512, ll_513, ll_514, ll_515, ll_516, ll_517, ll_518, ll_519, c0, i1, e1]
      exact h
    · have e2 : (if qAhead ks pl = some 5 then pl - 1 else pl) = pl := by rw [e, i2, if_neg (fun h => c5 (by injection h))]
      rw [e2]
      have h := h24 pl (Nat.le_refl _)
      generalize fL_anew_24 = F at h ⊢
      simp (disch := omega) only [↓qlet, eq_self, qzg_t, qzb_some, ↓reduceIte, not_or, not_false_eq_true, not_true_eq_false, and_true, true_and, and_self, or_false, false_or, true_or, or_true, and_false, false_and, qlit, qneg, qof, qn_add, qn_mul, qn_s, qn_z, qn_d, qn_dz, qm_1, qt_1, qt_0, qb_0, qb_1, qb_01, qb01b, q01_0, q01_1, qo_s, qo_n, qn_c, qn_le, qn_lt, qn_eq, qn_ne_m, qm_ne_n, qm_lt, qm_le, qn_lt_m, qn_le_m, qn_sub, qn_div, qn_mod, qle_t, qle_f, qlt_t, qlt_f, qeq_t, qeq_f, Nat.add_sub_cancel, qU_s, qU_a, qU_k, qn_rem, qL_I, qL_s, lk_505, lk_506, lk_507, lk_508, lk_509, lk_510, lk_511, lk_512, lk_513, lk_514, lk_515, lk_516, lk_517, lk_518, lk_519, ll_505, ll_506, ll_507, ll_508, ll_509, ll_510, ll_511, ll_512, ll_513, ll_514, ll_515, ll_516, ll_517, ll_518, ll_519, c0, i1, e1, c5]
      exact h
end
section
variable {w : Bool} {I : Nat → Nat → Int32} {W : Nat → Nat → Nat} {A : qA}
theorem l33 (pl : Nat) (c : Int32) (M : zM) : ∀ (st : List (Nat × Nat)) n m, (∀ y ∈ st, y.1 < 5 ∧ y.2 < 8) → st.length ≤ 9 → st.length < m → fL_areStates_33 m 1 505 506 509 (qn pl) (qn n) c (Int64.ofNat (qDig st)) M = fL_areStates_54 1 505 506 509 (qn pl) (qn (n + st.length)) c M := by
  intro st
  induction st with
  | nil =>
    intro n m _ _ hm
    obtain ⟨m, rfl⟩ : ∃ q, m = q + 1 := ⟨m - 1, by omega⟩
    unfold fL_areStates_33
    generalize fL_areStates_54 = F
    simp (disch := omega) only [↓qlet, eq_self, qzg_t, qzb_some, ↓reduceIte, not_or, not_false_eq_true, not_true_eq_false, and_true, true_and, and_self, or_false, false_or, true_or, or_true, and_false, false_and, qlit, qneg, qof, qn_add, qn_mul, qn_s, qn_z, qn_d, qn_dz, qm_1, qt_1, qt_0, qb_0, qb_1, qb_01, qb01b, q01_0, q01_1, qo_s, qo_n, qn_c, qn_le, qn_lt, qn_eq, qn_ne_m, qm_ne_n, qm_lt, qm_le, qn_lt_m, qn_le_m, qn_sub, qn_div, qn_mod, qle_t, qle_f, qlt_t, qlt_f, qeq_t, qeq_f, Nat.add_sub_cancel, qU_s, qU_a, qU_k, qn_rem, qL_I, qL_s, lk_505, lk_506, lk_507, lk_508, lk_509, lk_510, lk_511, lk_512, lk_513, lk_514, lk_515, lk_516, lk_517, lk_518, lk_519, ll_505, ll_506, ll_507, ll_508, ll_509, ll_510, ll_511, ll_512, ll_513, ll_514, ll_515, ll_516, ll_517, ll_518, ll_519, qI64_lit, lCmpLe, show qDig [] = 1 from rfl, Nat.le_refl, List.length_nil, Nat.add_zero]
  | cons x st ih =>
    intro n m hst hl hm
    obtain ⟨m, rfl⟩ : ∃ q, m = q + 1 := ⟨m - 1, by omega⟩
    rw [List.length_cons] at hl hm
    have hx := hst x List.mem_cons_self
    have hlt := qDig_80 (st := x :: st) (fun y hy => by have := hst y hy; omega) (by rw [List.length_cons]; omega)
    have h2 : (2 : Nat) * 80 ^ 9 < 9223372036854775808 := by decide
    have h1 := (qDig_lt st (fun y hy => by have := hst y (List.mem_cons_of_mem _ hy); omega)).2
    have hD : qDig (x :: st) = qDig st * 80 + (16 * x.1 + x.2) := rfl
    have hd : (qDig st * 80 + (16 * x.1 + x.2)) / 80 = qDig st := by omega
    have c1 : ¬ qDig st * 80 + (16 * x.1 + x.2) ≤ 1 := by omega
    rw [hD] at hlt ⊢
    have ih := ih (n + 1) m (fun y hy => hst y (List.mem_cons_of_mem _ hy)) (by omega) (by omega)
    have el : n + 1 + st.length = n + (x :: st).length := by rw [List.length_cons]; omega
    rw [el] at ih
    unfold fL_areStates_33
    generalize fL_areStates_54 = F at ih ⊢
    simp (disch := omega) only [↓qlet, eq_self, qzg_t, qzb_some, ↓reduceIte, not_or, not_false_eq_true, not_true_eq_false, and_true, true_and, and_self, or_false, false_or, true_or, or_true, and_false, false_and, qlit, qneg, qof, qn_add, qn_mul, qn_s, qn_z, qn_d, qn_dz, qm_1, qt_1, qt_0, qb_0, qb_1, qb_01, qb01b, q01_0, q01_1, qo_s, qo_n, qn_c, qn_le, qn_lt, qn_eq, qn_ne_m, qm_ne_n, qm_lt, qm_le, qn_lt_m, qn_le_m, qn_sub, qn_div, qn_mod, qle_t, qle_f, qlt_t, qlt_f, qeq_t, qeq_f, Nat.add_sub_cancel, qU_s, qU_a, qU_k, qn_rem, qL_I, qL_s, lk_505, lk_506, lk_507, lk_508, lk_509, lk_510, lk_511, lk_512, lk_513, lk_514, lk_515, lk_516, lk_517, lk_518, lk_519, ll_505, ll_506, ll_507, ll_508, ll_509, ll_510, ll_511, ll_512, ll_513, ll_514, ll_515, ll_516, ll_517, ll_518, ll_519, qI64_lit, lCmpLe, lDiv64, c1, hd]
    exact ih
theorem lAreStates (hA : qCA w I A) (hL : qLI I A) (hX : qLW A.1 W (qFA A).2) {u : Nat} (hu : u < 100000000) : fL_areStates 1 505 506 509 518 (qn u) (qL w I W) = some (qn 1, qL w I W) := by
  have hg := hA.1.1
  obtain ⟨-, hXl, -⟩ := qAok_X hA.1
  obtain ⟨hG, ⟨t1, t2, t3⟩, -⟩ := hL
  have t1 : I 509 20 = qn A.2.2.2.1.length := t1
  have t2 : A.2.2.2.1.length ≤ 18 := t2
  obtain ⟨pl, hpl⟩ : ∃ pl, pl = u % (A.2.2.2.1.length + 1) := ⟨_, rfl⟩
  have hplt : pl < A.2.2.2.1.length + 1 := by rw [hpl]; exact Nat.mod_lt _ (by omega)
  obtain ⟨a1, a2, a3⟩ := qLWa_at hX (show pl < (qFA A).2.length by omega)
  obtain ⟨a4, -⟩ := qXl_lt a3
  have hlen := cLength hA
  have hop := cOpenQ hA (qn pl)
  have hcu := cCurrentQ hA (qn pl)
  have hne := cNextQ hA (qn pl)
  unfold qaOpen qoAsk at hop
  unfold qaCurrent qoAsk at hcu
  unfold qaNext qoAsk at hne
  rw [qin_of (by omega) hplt] at hop hcu hne
  dsimp only at hop hcu hne
  generalize hx : qAt (qFA A).2 pl = x at *
  obtain ⟨⟨st, la⟩, mk⟩ := x
  dsimp only at a1 a2 hop hcu hne
  have a4 : qDig st < 9223372036854775808 := a4
  have b1 : ∀ y ∈ st, y.1 < 5 ∧ y.2 < 8 ∧ y.2 < 2 * qgN A.1 y.1 := a3.1
  have b2 : st.length ≤ 9 := a3.2.1
  have h33 := fun c M => l33 pl c M st 0 10000 (fun y hy => ⟨(b1 y hy).1, (b1 y hy).2.1⟩) b2 (by omega)
  have hm : u % (A.2.2.2.1.length + 1) = pl := hpl.symm
  have hrem := lRem64 (a := qDig st) (b := 80) a4 (by omega)
  have h54 : ∀ c : Int32, c = (Int64.ofNat (qDig st % 80)).toInt32 → fL_areStates_54 1 505 506 509 (qn pl) (qn (0 + st.length)) c (qL w I W) = some (qn 1, qL w I W) := by
    intro c hc
    unfold fL_areStates_54 fL_areStates_96 fL_areStates_121
    cases hst : st with
    | nil =>
      rw [hst] at hop hcu hne
      simp only [List.length_nil, List.head?_nil, Option.map_none, qo_n] at hop hcu
      have hq0 : qGoes A.1 (([], la) : qZ) = qn 0 := rfl
      rw [hq0] at hne
      simp (disch := omega) only [↓qlet, eq_self, qzg_t, qzb_some, ↓reduceIte, not_or, not_false_eq_true, not_true_eq_false, and_true, true_and, and_self, or_false, false_or, true_or, or_true, and_false, false_and, qlit, qneg, qof, qn_add, qn_mul, qn_s, qn_z, qn_d, qn_dz, qm_1, qt_1, qt_0, qb_0, qb_1, qb_01, qb01b, q01_0, q01_1, qo_s, qo_n, qn_c, qn_le, qn_lt, qn_eq, qn_ne_m, qm_ne_n, qm_lt, qm_le, qn_lt_m, qn_le_m, qn_sub, qn_div, qn_mod, qle_t, qle_f, qlt_t, qlt_f, qeq_t, qeq_f, Nat.add_sub_cancel, qU_s, qU_a, qU_k, qn_rem, qL_I, qL_s, lk_505, lk_506, lk_507, lk_508, lk_509, lk_510, lk_511, lk_512, lk_513, lk_514, lk_515, lk_516, lk_517, lk_518, lk_519, ll_505, ll_506, ll_507, ll_508, ll_509, ll_510, ll_511, ll_512, ll_513, ll_514, ll_515, ll_516, ll_517, ll_518, ll_519, lcut, zbc_0, zbd_0, lCel, lk_1, qJn_r, hlen, qJn_self, t1, hop, hcu, hne, List.length_nil, Nat.add_zero]
    | cons y st2 =>
      rw [hst] at hop hcu hne hc
      obtain ⟨y1, y2, y3⟩ := b1 y (by rw [hst]; exact List.mem_cons_self)
      have hmod : qDig (y :: st2) % 80 = 16 * y.1 + y.2 := by unfold qDig; omega
      rw [hmod, l32 _ (by omega)] at hc
      simp only [List.length_cons, List.head?_cons, Option.map_some, qo_s] at hop hcu
      have hqG : qGoes A.1 ((y :: st2, la) : qZ) = qrOn A.1 y.1 y.2 := rfl
      rw [hqG] at hne
      have hnx := lNext (w := w) (W := W) hg hG y1 y3
      have e1 : (16 * y.1 + y.2) / 16 = y.1 := by omega
      have hl9 : st2.length + 1 ≤ 9 := by rw [hst] at b2; simpa using b2
      rw [hc]
      simp (disch := omega) only [↓qlet, eq_self, qzg_t, qzb_some, ↓reduceIte, not_or, not_false_eq_true, not_true_eq_false, and_true, true_and, and_self, or_false, false_or, true_or, or_true, and_false, false_and, qlit, qneg, qof, qn_add, qn_mul, qn_s, qn_z, qn_d, qn_dz, qm_1, qt_1, qt_0, qb_0, qb_1, qb_01, qb01b, q01_0, q01_1, qo_s, qo_n, qn_c, qn_le, qn_lt, qn_eq, qn_ne_m, qm_ne_n, qm_lt, qm_le, qn_lt_m, qn_le_m, qn_sub, qn_div, qn_mod, qle_t, qle_f, qlt_t, qlt_f, qeq_t, qeq_f, Nat.add_sub_cancel, qU_s, qU_a, qU_k, qn_rem, qL_I, qL_s, lk_505, lk_506, lk_507, lk_508, lk_509, lk_510, lk_511, lk_512, lk_513, lk_514, lk_515, lk_516, lk_517, lk_518, lk_519, ll_505, ll_506, ll_507, ll_508, ll_509, ll_510, ll_511, ll_512, ll_513, ll_514, ll_515, ll_516, ll_517, ll_518, ll_519, lcut, zbc_0, zbd_0, lCel, lk_1, qJn_r, hlen, qJn_self, t1, hop, hcu, hne, List.length_cons, Nat.zero_add, e1, hnx]
  have h := h33 (Int64.ofNat (qDig st % 80)).toInt32 (qL w I W)
  rw [h54 _ rfl] at h
  unfold fL_areStates
  generalize fL_areStates_33 10000 = F at h ⊢
  simp (disch := omega) only [↓qlet, eq_self, qzg_t, qzb_some, ↓reduceIte, not_or, not_false_eq_true, not_true_eq_false, and_true, true_and, and_self, or_false, false_or, true_or, or_true, and_false, false_and, qlit, qneg, qof, qn_add, qn_mul, qn_s, qn_z, qn_d, qn_dz, qm_1, qt_1, qt_0, qb_0, qb_1, qb_01, qb01b, q01_0, q01_1, qo_s, qo_n, qn_c, qn_le, qn_lt, qn_eq, qn_ne_m, qm_ne_n, qm_lt, qm_le, qn_lt_m, qn_le_m, qn_sub, qn_div, qn_mod, qle_t, qle_f, qlt_t, qlt_f, qeq_t, qeq_f, Nat.add_sub_cancel, qU_s, qU_a, qU_k, qn_rem, qL_I, qL_s, lk_505, lk_506, lk_507, lk_508, lk_509, lk_510, lk_511, lk_512, lk_513, lk_514, lk_515, lk_516, lk_517, lk_518, lk_519, ll_505, ll_506, ll_507, ll_508, ll_509, ll_510, ll_511, ll_512, ll_513, ll_514, ll_515, ll_516, ll_517, ll_518, ll_519, t1, hm, qL_L, a1, qI64_lit, hrem]
  exact h
end
