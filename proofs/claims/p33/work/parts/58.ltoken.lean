/-! THE LAW: its tokens, its states -/
/-- tokens as the law draws them: sort and value in one number -/
def qKl (k : qK) : Prop := k.1 ≤ 8 ∧ ∃ n, n < 128 ∧ k.2 = qn n ∧ (k.1 = 0 ∨ k.1 = 1 → n < 5) ∧ (k.1 = 4 → 32 ≤ n ∧ n < 127) ∧ (k.1 = 6 ∨ k.1 = 7 → n < 2)
def qLTk (I : Nat → Nat → Int32) (a o : Nat) (ks : List qK) : Prop := ∀ i k, ks[i]? = some k → qKl k ∧ I a (o + i) = qn (128 * k.1) + k.2
/-- the law's rows e, t hold entities, switches and the text -/
def qLX (I : Nat → Nat → Int32) (sw : Nat → Nat) (en : Nat → List qK) (ks : List qK) : Prop := (I 509 20 = qn ks.length ∧ ks.length ≤ 18 ∧ qLTk I 509 0 ks) ∧ (∀ e, e < 2 → I 508 (8 + e) = qn (en e).length ∧ (en e).length ≤ 4 ∧ qLTk I 508 (4 * e) (en e)) ∧ ∀ j, j < 2 → I 508 (10 + j) = qn (sw j) ∧ sw j ≤ 2
theorem qLX_fr {sw : Nat → Nat} {en : Nat → List qK} {ks : List qK} {I J : Nat → Nat → Int32} (h : qLX I sw en ks) (h8 : J 508 = I 508) (h9 : J 509 = I 509) : qLX J sw en ks := by
  unfold qLX qLTk
  rw [h8, h9]
  exact h
def qTc (ks : List qK) (i : Nat) : Int32 := match ks[i]? with
  | none => qm
  | some k => qn (128 * k.1) + k.2
theorem qTc_s {ks : List qK} {i : Nat} {k : qK} (h : ks[i]? = some k) (hk : qKl k) : ∃ n, n < 128 ∧ k.2 = qn n ∧ qTc ks i = qn (128 * k.1 + n) := by
  obtain ⟨h1, n, h2, h3, h4⟩ := hk
  refine ⟨n, h2, h3, ?_⟩
  unfold qTc
  rw [h]
  dsimp only
  rw [h3, qn_add]
theorem qTc_n {ks : List qK} {i : Nat} (h : ks.length ≤ i) : qTc ks i = qm := by
  unfold qTc
  rw [List.getElem?_eq_none h]
/-- the row at a level: the text, or an entity -/
def qLRow (I : Nat → Nat → Int32) (en : Nat → List qK) (txt : List qK) (lev : Nat) (ks : List qK) : Prop := (lev = 0 ∧ ks = txt) ∨ ((lev = 1 ∨ lev = 2) ∧ ∃ e, e < 2 ∧ I 510 (11 + lev) = qn e ∧ ks = en e)
section
variable {w : Bool} {I : Nat → Nat → Int32} {W : Nat → Nat → Nat} {G : qG} {V : qV} {f : Bool} {p : Nat} {sw : Nat → Nat} {en : Nat → List qK} {txt ks : List qK} {lev : Nat}
theorem qLRow_l (hX : qLX I sw en txt) (hr : qLRow I en txt lev ks) : ks.length ≤ 18 ∧ lev ≤ 2 ∧ ∀ k ∈ ks, qKl k := by
  rcases hr with ⟨rfl, rfl⟩ | ⟨h1, e, he, h2, rfl⟩
  · refine ⟨hX.1.2.1, by omega, fun k hk => ?_⟩
    obtain ⟨i, hi⟩ := List.getElem?_of_mem hk
    exact (hX.1.2.2 i k hi).1
  · obtain ⟨g1, g2, g3⟩ := hX.2.1 e he
    refine ⟨by omega, by omega, fun k hk => ?_⟩
    obtain ⟨i, hi⟩ := List.getElem?_of_mem hk
    exact (g3 i k hi).1
theorem lToken_n (h7 : I 510 7 = qn lev) (hX : qLX I sw en txt) (hr : qLRow I en txt lev ks) : fL_token 508 509 510 qm (qL w I W) = some (qm, qL w I W) := by
  have hm0 : (qm < qn 0) = True := qm_lt (by omega)
  unfold fL_token fL_token_19 fL_token_53
  rcases hr with ⟨rfl, rfl⟩ | ⟨h1, e, he, h2, rfl⟩
  · simp (disch := omega) only [↓qlet, eq_self, qzg_t, qzb_some, ↓reduceIte, not_or, not_false_eq_true, not_true_eq_false, and_true, true_and, and_self, or_false, false_or, true_or, or_true, and_false, false_and, qlit, qneg, qof, qn_add, qn_mul, qn_s, qn_z, qn_d, qn_dz, qm_1, qt_1, qt_0, qb_0, qb_1, qb_01, qb01b, q01_0, q01_1, qo_s, qo_n, qn_c, qn_le, qn_lt, qn_eq, qn_ne_m, qm_ne_n, qm_lt, qm_le, qn_lt_m, qn_le_m, qn_sub, qn_div, qn_mod, qle_t, qle_f, qlt_t, qlt_f, qeq_t, qeq_f, Nat.add_sub_cancel, qU_s, qU_a, qU_k, qn_rem, qL_I, qL_s, lk_505, lk_506, lk_507, lk_508, lk_509, lk_510, lk_511, lk_512, lk_513, lk_514, lk_515, lk_516, lk_517, lk_518, lk_519, ll_505, ll_506, ll_507, ll_508, ll_509, ll_510, ll_511, ll_512, ll_513, ll_514, ll_515, ll_516, ll_517, ll_518, ll_519, h7, hm0, qneg]
  · rcases h1 with rfl | rfl
    · simp (disch := omega) only [↓qlet, eq_self, qzg_t, qzb_some, ↓reduceIte, not_or, not_false_eq_true, not_true_eq_false, and_true, true_and, and_self, or_false, false_or, true_or, or_true, and_false, false_and, qlit, qneg, qof, qn_add, qn_mul, qn_s, qn_z, qn_d, qn_dz, qm_1, qt_1, qt_0, qb_0, qb_1, qb_01, qb01b, q01_0, q01_1, qo_s, qo_n, qn_c, qn_le, qn_lt, qn_eq, qn_ne_m, qm_ne_n, qm_lt, qm_le, qn_lt_m, qn_le_m, qn_sub, qn_div, qn_mod, qle_t, qle_f, qlt_t, qlt_f, qeq_t, qeq_f, Nat.add_sub_cancel, qU_s, qU_a, qU_k, qn_rem, qL_I, qL_s, lk_505, lk_506, lk_507, lk_508, lk_509, lk_510, lk_511, lk_512, lk_513, lk_514, lk_515, lk_516, lk_517, lk_518, lk_519, ll_505, ll_506, ll_507, ll_508, ll_509, ll_510, ll_511, ll_512, ll_513, ll_514, ll_515, ll_516, ll_517, ll_518, ll_519, h7, hm0, h2, qneg]
    · simp (disch := omega) only [↓qlet, eq_self, qzg_t, qzb_some, ↓reduceIte, not_or, not_false_eq_true, not_true_eq_false, and_true, true_and, and_self, or_false, false_or, true_or, or_true, and_false, false_and, qlit, qneg, qof, qn_add, qn_mul, qn_s, qn_z, qn_d, qn_dz, qm_1, qt_1, qt_0, qb_0, qb_1, qb_01, qb01b, q01_0, q01_1, qo_s, qo_n, qn_c, qn_le, qn_lt, qn_eq, qn_ne_m, qm_ne_n, qm_lt, qm_le, qn_lt_m, qn_le_m, qn_sub, qn_div, qn_mod, qle_t, qle_f, qlt_t, qlt_f, qeq_t, qeq_f, Nat.add_sub_cancel, qU_s, qU_a, qU_k, qn_rem, qL_I, qL_s, lk_505, lk_506, lk_507, lk_508, lk_509, lk_510, lk_511, lk_512, lk_513, lk_514, lk_515, lk_516, lk_517, lk_518, lk_519, ll_505, ll_506, ll_507, ll_508, ll_509, ll_510, ll_511, ll_512, ll_513, ll_514, ll_515, ll_516, ll_517, ll_518, ll_519, h7, hm0, h2, qneg]
theorem lToken (h7 : I 510 7 = qn lev) (hX : qLX I sw en txt) (hr : qLRow I en txt lev ks) {i : Nat} (hi : i < 100) : fL_token 508 509 510 (qn i) (qL w I W) = some (qTc ks i, qL w I W) := by
  unfold fL_token fL_token_19 fL_token_53
  rcases hr with ⟨rfl, rfl⟩ | ⟨h1, e, he, h2, rfl⟩
  · obtain ⟨g1, g2, g3⟩ := hX.1
    by_cases c : i < ks.length
    · obtain ⟨k, hk⟩ : ∃ k, ks[i]? = some k := ⟨_, List.getElem?_eq_getElem c⟩
      have g4 := (g3 i k hk).2
      rw [Nat.zero_add] at g4
      have e9 : qTc ks i = qn (128 * k.1) + k.2 := by unfold qTc; rw [hk]
      rw [e9]
      simp (disch := omega) only [↓qlet, eq_self, qzg_t, qzb_some, ↓reduceIte, not_or, not_false_eq_true, not_true_eq_false, and_true, true_and, and_self, or_false, false_or, true_or, or_true, and_false, false_and, qlit, qneg, qof, qn_add, qn_mul, qn_s, qn_z, qn_d, qn_dz, qm_1, qt_1, qt_0, qb_0, qb_1, qb_01, qb01b, q01_0, q01_1, qo_s, qo_n, qn_c, qn_le, qn_lt, qn_eq, qn_ne_m, qm_ne_n, qm_lt, qm_le, qn_lt_m, qn_le_m, qn_sub, qn_div, qn_mod, qle_t, qle_f, qlt_t, qlt_f, qeq_t, qeq_f, Nat.add_sub_cancel, qU_s, qU_a, qU_k, qn_rem, qL_I, qL_s, lk_505, lk_506, lk_507, lk_508, lk_509, lk_510, lk_511, lk_512, lk_513, lk_514, lk_515, lk_516, lk_517, lk_518, lk_519, ll_505, ll_506, ll_507, ll_508, ll_509, ll_510, ll_511, ll_512, ll_513, ll_514, ll_515, ll_516, ll_517, ll_518, ll_519, h7, g1, c, g4]
    · rw [qTc_n (by omega)]
      simp (disch := omega) only [↓qlet, eq_self, qzg_t, qzb_some, ↓reduceIte, not_or, not_false_eq_true, not_true_eq_false, and_true, true_and, and_self, or_false, false_or, true_or, or_true, and_false, false_and, qlit, qneg, qof, qn_add, qn_mul, qn_s, qn_z, qn_d, qn_dz, qm_1, qt_1, qt_0, qb_0, qb_1, qb_01, qb01b, q01_0, q01_1, qo_s, qo_n, qn_c, qn_le, qn_lt, qn_eq, qn_ne_m, qm_ne_n, qm_lt, qm_le, qn_lt_m, qn_le_m, qn_sub, qn_div, qn_mod, qle_t, qle_f, qlt_t, qlt_f, qeq_t, qeq_f, Nat.add_sub_cancel, qU_s, qU_a, qU_k, qn_rem, qL_I, qL_s, lk_505, lk_506, lk_507, lk_508, lk_509, lk_510, lk_511, lk_512, lk_513, lk_514, lk_515, lk_516, lk_517, lk_518, lk_519, ll_505, ll_506, ll_507, ll_508, ll_509, ll_510, ll_511, ll_512, ll_513, ll_514, ll_515, ll_516, ll_517, ll_518, ll_519, h7, g1, c, qneg]
  · obtain ⟨g1, g2, g3⟩ := hX.2.1 e he
    have hl2 : lev ≤ 2 ∧ ¬ lev = 0 := by omega
    by_cases c : i < (en e).length
    · obtain ⟨k, hk⟩ : ∃ k, (en e)[i]? = some k := ⟨_, List.getElem?_eq_getElem c⟩
      have g4 := (g3 i k hk).2
      have e9 : qTc (en e) i = qn (128 * k.1) + k.2 := by unfold qTc; rw [hk]
      rw [e9]
      simp (disch := omega) only [↓qlet, eq_self, qzg_t, qzb_some, ↓reduceIte, not_or, not_false_eq_true, not_true_eq_false, and_true, true_and, and_self, or_false, false_or, true_or, or_true, and_false, false_and, qlit, qneg, qof, qn_add, qn_mul, qn_s, qn_z, qn_d, qn_dz, qm_1, qt_1, qt_0, qb_0, qb_1, qb_01, qb01b, q01_0, q01_1, qo_s, qo_n, qn_c, qn_le, qn_lt, qn_eq, qn_ne_m, qm_ne_n, qm_lt, qm_le, qn_lt_m, qn_le_m, qn_sub, qn_div, qn_mod, qle_t, qle_f, qlt_t, qlt_f, qeq_t, qeq_f, Nat.add_sub_cancel, qU_s, qU_a, qU_k, qn_rem, qL_I, qL_s, lk_505, lk_506, lk_507, lk_508, lk_509, lk_510, lk_511, lk_512, lk_513, lk_514, lk_515, lk_516, lk_517, lk_518, lk_519, ll_505, ll_506, ll_507, ll_508, ll_509, ll_510, ll_511, ll_512, ll_513, ll_514, ll_515, ll_516, ll_517, ll_518, ll_519, h7, hl2, h2, g1, c, g4]
    · rw [qTc_n (by omega)]
      simp (disch := omega) only [↓qlet, eq_self, qzg_t, qzb_some, ↓reduceIte, not_or, not_false_eq_true, not_true_eq_false, and_true, true_and, and_self, or_false, false_or, true_or, or_true, and_false, false_and, qlit, qneg, qof, qn_add, qn_mul, qn_s, qn_z, qn_d, qn_dz, qm_1, qt_1, qt_0, qb_0, qb_1, qb_01, qb01b, q01_0, q01_1, qo_s, qo_n, qn_c, qn_le, qn_lt, qn_eq, qn_ne_m, qm_ne_n, qm_lt, qm_le, qn_lt_m, qn_le_m, qn_sub, qn_div, qn_mod, qle_t, qle_f, qlt_t, qlt_f, qeq_t, qeq_f, Nat.add_sub_cancel, qU_s, qU_a, qU_k, qn_rem, qL_I, qL_s, lk_505, lk_506, lk_507, lk_508, lk_509, lk_510, lk_511, lk_512, lk_513, lk_514, lk_515, lk_516, lk_517, lk_518, lk_519, ll_505, ll_506, ll_507, ll_508, ll_509, ll_510, ll_511, ll_512, ll_513, ll_514, ll_515, ll_516, ll_517, ll_518, ll_519, h7, hl2, h2, g1, c, qneg]
/-- what is open, as one number -/
def qDig : List (Nat × Nat) → Nat
  | [] => 1
  | x :: st => qDig st * 80 + (16 * x.1 + x.2)
theorem qDig_lt : ∀ st : List (Nat × Nat), (∀ x ∈ st, 16 * x.1 + x.2 < 80) → qDig st < 2 * 80 ^ st.length ∧ 1 ≤ qDig st := by
  intro st
  induction st with
  | nil => intro _; exact ⟨by decide, by decide⟩
  | cons x st ih =>
    intro h
    obtain ⟨h1, h2⟩ := ih (fun y hy => h y (List.mem_cons_of_mem _ hy))
    have h3 := h x List.mem_cons_self
    rw [List.length_cons, Nat.pow_succ]
    unfold qDig
    omega
theorem qDig_80 {st : List (Nat × Nat)} (h : ∀ x ∈ st, 16 * x.1 + x.2 < 80) (hl : st.length ≤ 9) : qDig st < 2 * 80 ^ 9 := by
  have h1 := (qDig_lt st h).1
  have h2 : 80 ^ st.length ≤ 80 ^ 9 := Nat.pow_le_pow_right (by decide) hl
  omega
theorem qn_64 {n : Nat} (h : n < 2147483648) : (qn n).toInt64 = Int64.ofNat n := by
  apply Int64.toInt_inj.mp
  rw [Int32.toInt_toInt64, qn_i h, Int64.toInt_ofNat_of_lt (by omega)]
theorem qI64_u {n : Nat} (h : n < 18446744073709551616) : (Int64.ofNat n).toUInt64.toNat = n := by
  show (BitVec.ofNat 64 n).toNat = n
  rw [BitVec.toNat_ofNat]
  omega
theorem qI64_lit (n : Nat) : (OfNat.ofNat n : Int64) = Int64.ofNat n := rfl
theorem qI64_add (a b : Nat) : Int64.ofNat a + Int64.ofNat b = Int64.ofNat (a + b) := (Int64.ofNat_add a b).symm
theorem qI64_mul (a b : Nat) : Int64.ofNat a * Int64.ofNat b = Int64.ofNat (a * b) := (Int64.ofNat_mul a b).symm
/-- the state that is kept at a place -/
def qWk (W : Nat → Nat → Nat) (pos : Nat) (Z : qZ) (m : Nat) : Nat → Nat → Nat := qUN (qUN W 518 pos (qDig Z.1)) 518 (24 + pos) (2 * qla Z.2 + (if m = 0 then 0 else 1))
theorem qLok_80 (hG : qLG G I) (hok : qLok G V) : ∀ x ∈ V.1.1, 16 * x.1 + x.2 < 80 := by
  intro x hx
  obtain ⟨b1, b2⟩ := hok.2.2.1 x hx
  have := (hG x.1 b1).2.1
  omega
theorem lKeep_12 (hG : qLG G I) (hV : qLV I p V f) (hok : qLok G V) {pos m : Nat} (hp : pos ≤ 18) (hm : m ≤ 100) (h8 : I 510 8 = qn pos) (h14 : I 510 14 = qn m) : ∀ d n, d ≤ V.1.1.length → d < n → fL_keep_12 n 510 511 518 (Int64.ofNat (qDig (V.1.1.drop d))) (qn (V.1.1.length - d)) (qL w I W) = some (qn 0, qL w I (qWk W pos V.1 m)) := by
  have h0 := hV.1
  have h1 := hV.2.1
  have h10 := hV.2.2.2.2.2.2.2.2.2.1
  have hl9 := hok.1
  have hd9 := qLok_80 hG hok
  have hla : qla V.1.2 ≤ 5 := by
    cases hq : V.1.2 with
    | none => exact Nat.zero_le 5
    | some e => have := hok.2.2.2.1 e hq; show e + 1 ≤ 5; omega
  intro d
  induction d with
  | zero =>
    intro n hd hn
    obtain ⟨n, rfl⟩ : ∃ q, n = q + 1 := ⟨n - 1, by omega⟩
    have hq := qDig_80 hd9 hl9
    have hq2 : qDig V.1.1 < 18446744073709551616 := by omega
    unfold fL_keep_12 fL_keep_38
    rw [List.drop_zero, Nat.sub_zero]
    by_cases c : m = 0
    · subst c
      simp (disch := omega) only [↓qlet, eq_self, qzg_t, qzb_some, ↓reduceIte, not_or, not_false_eq_true, not_true_eq_false, and_true, true_and, and_self, or_false, false_or, true_or, or_true, and_false, false_and, qlit, qneg, qof, qn_add, qn_mul, qn_s, qn_z, qn_d, qn_dz, qm_1, qt_1, qt_0, qb_0, qb_1, qb_01, qb01b, q01_0, q01_1, qo_s, qo_n, qn_c, qn_le, qn_lt, qn_eq, qn_ne_m, qm_ne_n, qm_lt, qm_le, qn_lt_m, qn_le_m, qn_sub, qn_div, qn_mod, qle_t, qle_f, qlt_t, qlt_f, qeq_t, qeq_f, Nat.add_sub_cancel, qU_s, qU_a, qU_k, qn_rem, qL_I, qL_s, lk_505, lk_506, lk_507, lk_508, lk_509, lk_510, lk_511, lk_512, lk_513, lk_514, lk_515, lk_516, lk_517, lk_518, lk_519, ll_505, ll_506, ll_507, ll_508, ll_509, ll_510, ll_511, ll_512, ll_513, ll_514, ll_515, ll_516, ll_517, ll_518, ll_519, h0, Nat.le_refl, h8, h14, h1, qL_sL, qI64_u hq2, qn_64, qI64_lit, qI64_mul, qI64_add, qI64_u]
      unfold qWk
      rw [if_pos rfl]
    · have c2 : ¬ m ≤ 0 := by omega
      simp (disch := omega) only [↓qlet, eq_self, qzg_t, qzb_some, ↓reduceIte, not_or, not_false_eq_true, not_true_eq_false, and_true, true_and, and_self, or_false, false_or, true_or, or_true, and_false, false_and, qlit, qneg, qof, qn_add, qn_mul, qn_s, qn_z, qn_d, qn_dz, qm_1, qt_1, qt_0, qb_0, qb_1, qb_01, qb01b, q01_0, q01_1, qo_s, qo_n, qn_c, qn_le, qn_lt, qn_eq, qn_ne_m, qm_ne_n, qm_lt, qm_le, qn_lt_m, qn_le_m, qn_sub, qn_div, qn_mod, qle_t, qle_f, qlt_t, qlt_f, qeq_t, qeq_f, Nat.add_sub_cancel, qU_s, qU_a, qU_k, qn_rem, qL_I, qL_s, lk_505, lk_506, lk_507, lk_508, lk_509, lk_510, lk_511, lk_512, lk_513, lk_514, lk_515, lk_516, lk_517, lk_518, lk_519, ll_505, ll_506, ll_507, ll_508, ll_509, ll_510, ll_511, ll_512, ll_513, ll_514, ll_515, ll_516, ll_517, ll_518, ll_519, h0, Nat.le_refl, h8, h14, h1, c2, qL_sL, qI64_u hq2, qn_64, qI64_lit, qI64_mul, qI64_add, qI64_u]
      unfold qWk
      rw [if_neg c]
  | succ d ih =>
    intro n hd hn
    obtain ⟨n, rfl⟩ : ∃ q, n = q + 1 := ⟨n - 1, by omega⟩
    have ih := ih n (by omega) (by omega)
    have hlt : d < V.1.1.length := by omega
    have hdr : V.1.1.drop d = V.1.1[d] :: V.1.1.drop (d + 1) := (List.getElem_cons_drop hlt).symm
    have ha := qAll_drop d h10
    rw [hdr] at ha ih
    have a1 := ha.1
    rw [List.length_drop] at a1
    have e1 : V.1.1.length - (d + 1) + 1 = V.1.1.length - d := by omega
    have c : ¬ V.1.1.length ≤ V.1.1.length - (d + 1) := by omega
    have h8 := hd9 _ (List.getElem_mem hlt)
    rw [← e1] at ih
    unfold qDig at ih
    unfold fL_keep_12
    simp (disch := omega) only [↓qlet, eq_self, qzg_t, qzb_some, ↓reduceIte, not_or, not_false_eq_true, not_true_eq_false, and_true, true_and, and_self, or_false, false_or, true_or, or_true, and_false, false_and, qlit, qneg, qof, qn_add, qn_mul, qn_s, qn_z, qn_d, qn_dz, qm_1, qt_1, qt_0, qb_0, qb_1, qb_01, qb01b, q01_0, q01_1, qo_s, qo_n, qn_c, qn_le, qn_lt, qn_eq, qn_ne_m, qm_ne_n, qm_lt, qm_le, qn_lt_m, qn_le_m, qn_sub, qn_div, qn_mod, qle_t, qle_f, qlt_t, qlt_f, qeq_t, qeq_f, Nat.add_sub_cancel, qU_s, qU_a, qU_k, qn_rem, qL_I, qL_s, lk_505, lk_506, lk_507, lk_508, lk_509, lk_510, lk_511, lk_512, lk_513, lk_514, lk_515, lk_516, lk_517, lk_518, lk_519, ll_505, ll_506, ll_507, ll_508, ll_509, ll_510, ll_511, ll_512, ll_513, ll_514, ll_515, ll_516, ll_517, ll_518, ll_519, h0, c, a1, qn_64, qI64_lit, qI64_mul, qI64_add]
    exact ih
theorem lKeep (hG : qLG G I) (hV : qLV I p V f) (hok : qLok G V) {pos m : Nat} (hp : pos ≤ 18) (hm : m ≤ 100) (h7 : I 510 7 = qn 0) (h8 : I 510 8 = qn pos) (h14 : I 510 14 = qn m) : fL_keep 510 511 518 (qL w I W) = some (qn 0, qL w I (qWk W pos V.1 m)) := by
  have hl9 := hok.1
  have h := lKeep_12 (w := w) (W := W) hG hV hok hp hm h8 h14 V.1.1.length 10000 (Nat.le_refl _) (by omega)
  rw [List.drop_length, Nat.sub_self] at h
  unfold fL_keep
  generalize fL_keep_12 10000 = F at h ⊢
  simp (disch := omega) only [↓qlet, eq_self, qzg_t, qzb_some, ↓reduceIte, not_or, not_false_eq_true, not_true_eq_false, and_true, true_and, and_self, or_false, false_or, true_or, or_true, and_false, false_and, qlit, qneg, qof, qn_add, qn_mul, qn_s, qn_z, qn_d, qn_dz, qm_1, qt_1, qt_0, qb_0, qb_1, qb_01, qb01b, q01_0, q01_1, qo_s, qo_n, qn_c, qn_le, qn_lt, qn_eq, qn_ne_m, qm_ne_n, qm_lt, qm_le, qn_lt_m, qn_le_m, qn_sub, qn_div, qn_mod, qle_t, qle_f, qlt_t, qlt_f, qeq_t, qeq_f, Nat.add_sub_cancel, qU_s, qU_a, qU_k, qn_rem, qL_I, qL_s, lk_505, lk_506, lk_507, lk_508, lk_509, lk_510, lk_511, lk_512, lk_513, lk_514, lk_515, lk_516, lk_517, lk_518, lk_519, ll_505, ll_506, ll_507, ll_508, ll_509, ll_510, ll_511, ll_512, ll_513, ll_514, ll_515, ll_516, ll_517, ll_518, ll_519, h7, qI64_lit]
  exact h
theorem lKeep_n (h7 : I 510 7 = qn lev) (h : ¬ lev = 0) (hl : lev ≤ 2) : fL_keep 510 511 518 (qL w I W) = some (qn 0, qL w I W) := by
  unfold fL_keep
  generalize fL_keep_12 10000 = F
  simp (disch := omega) only [↓qlet, eq_self, qzg_t, qzb_some, ↓reduceIte, not_or, not_false_eq_true, not_true_eq_false, and_true, true_and, and_self, or_false, false_or, true_or, or_true, and_false, false_and, qlit, qneg, qof, qn_add, qn_mul, qn_s, qn_z, qn_d, qn_dz, qm_1, qt_1, qt_0, qb_0, qb_1, qb_01, qb01b, q01_0, q01_1, qo_s, qo_n, qn_c, qn_le, qn_lt, qn_eq, qn_ne_m, qm_ne_n, qm_lt, qm_le, qn_lt_m, qn_le_m, qn_sub, qn_div, qn_mod, qle_t, qle_f, qlt_t, qlt_f, qeq_t, qeq_f, Nat.add_sub_cancel, qU_s, qU_a, qU_k, qn_rem, qL_I, qL_s, lk_505, lk_506, lk_507, lk_508, lk_509, lk_510, lk_511, lk_512, lk_513, lk_514, lk_515, lk_516, lk_517, lk_518, lk_519, ll_505, ll_506, ll_507, ll_508, ll_509, ll_510, ll_511, ll_512, ll_513, ll_514, ll_515, ll_516, ll_517, ll_518, ll_519, h7, h]
end
