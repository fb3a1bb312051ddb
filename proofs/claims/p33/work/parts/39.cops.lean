/-! THE CLASS: its calls that change the grammar, entities, switches -/
/-- grammar, switches, entities, text, how many tokens were read anew -/
abbrev qA : Type := qG × (Nat → Nat) × (Nat → List qK) × List qK × Nat
def qFA (A : qA) : qV × List (qZ × Nat) := qFull A.1 A.2.1 A.2.2.1 A.2.2.2.1
def qAok (A : qA) : Prop := qGok A.1 ∧ qEok A.2.1 A.2.2.1 ∧ A.2.2.2.1.length ≤ 60 ∧ ∀ k ∈ A.2.2.2.1, qKok k
/-- grammar, entities, switches, text in the class's cells -/
def qCB (I : Nat → Nat → Int32) (A : qA) : Prop := qCG A.1 I ∧ qCEn A.2.1 A.2.2.1 [] I ∧ qCK I 68 A.2.2.2.1
/-- what calls ask of the last reading -/
def qCVs (I : Nat → Nat → Int32) (p : Nat) (V : qV) : Prop := I 92 5 = qn V.2.2.1.length ∧ qAll (fun j t => I 93 j = qn t.1 ∧ I 94 j = qo t.2.1 ∧ I 95 j = qn t.2.2.1 ∧ I 96 j = qn t.2.2.2.1 ∧ I 97 j = qb t.2.2.2.2) V.2.2.1 ∧ I 91 9 = qn V.2.2.2.1 ∧ I 91 8 = qn V.2.2.2.2.2.length ∧ qAll (fun j e => I 101 j = qn e.1 ∧ I 102 j = qn e.2) V.2.2.2.2.2 ∧ I 91 15 = qn p
theorem qCVs_fr {I J : Nat → Nat → Int32} {p : Nat} {V : qV} (h : qCVs I p V) (h8 : J 91 8 = I 91 8) (h9 : J 91 9 = I 91 9) (h15 : J 91 15 = I 91 15) (hf : ∀ a, (92 ≤ a ∧ a ≤ 97) ∨ a = 101 ∨ a = 102 → J a = I a) : qCVs J p V := by
  unfold qCVs
  rw [h8, h9, h15, hf 92 (by omega), hf 93 (by omega), hf 94 (by omega), hf 95 (by omega), hf 96 (by omega), hf 97 (by omega), hf 101 (by omega), hf 102 (by omega)]
  exact h
def qCA (w : Bool) (I : Nat → Nat → Int32) (A : qA) : Prop := qAok A ∧ qCB I A ∧ qCVs I A.2.2.2.1.length (qFA A).1 ∧ qCX w I (qFA A).2 ∧ qCK I 98 (qForm A.1 (qFA A).1.2.2.1) ∧ I 91 16 = qn A.2.2.2.2
theorem qCEn_fr2 {sw : Nat → Nat} {en : Nat → List qK} {I J : Nat → Nat → Int32} (h : qCEn sw en [] I) (f : ∀ a, 72 ≤ a → a ≤ 90 → J a = I a) : qCEn sw en [] J := ⟨fun i hi => qCK_fr (h.1 i hi) (by rw [f _ (by omega) (by omega)]) (by rw [f _ (by omega) (by omega)]) (by rw [f _ (by omega) (by omega)]), fun i hi => by rw [f 72 (by omega) (by omega)]; exact h.2.1 i hi, fun j q h => by cases h⟩
section
variable {w : Bool} {I : Nat → Nat → Int32} {A : qA}
/-- what was changed is read -/
theorem cChange {A' : qA} (hA : qCA w I A) (hA' : qAok A') {I' : Nat → Nat → Int32} (hB : qCB I' A') (hf : ∀ a, 91 ≤ a → I' a = I a) : ∃ J, fX2_readText 91 (qC w I') = some (qn 0, qC (!w) J) ∧ qCA (!w) J (A'.1, A'.2.1, A'.2.2.1, A'.2.2.2.1, A'.2.2.2.1.length) ∧ qCX w J (qFA A).2 ∧ ∀ a, a ≤ 90 → J a = I' a := by
  obtain ⟨⟨hg, hE, hn, hk⟩, -, hV, hX, -, -⟩ := hA
  have hX1 : qCX w I' (qFA A).2 := qCX_fr hX fun j hj d hd => by have := qSc_ge w j; rw [hf _ (by omega)]
  have hl := (qFull_ok (G := A.1) hE hk (by omega)).2.2.2.1
  obtain ⟨J, e1, v1, x1, x2, k1, r1, f1⟩ := cReadText (w := w) (I := I') (p0 := A.2.2.2.1.length) hA'.1 hA'.2.1 hA'.2.2.1 hA'.2.2.2 hB.1 hB.2.1 hB.2.2 (by rw [hf 91 (by omega)]; exact hV.2.2.2.2.2) hX1 (by show (qFull A.1 A.2.1 A.2.2.1 A.2.2.2.1).2.length ≤ 61; rw [hl]; omega)
  refine ⟨J, e1, ⟨hA', ⟨qCG_fr hB.1 fun a ha => f1 a (by omega), qCEn_fr2 hB.2.1 fun a h1 h2 => f1 a (by omega), qCK_fr hB.2.2 (by rw [f1 68 (by omega)]) (by rw [f1 _ (by omega)]) (by rw [f1 _ (by omega)])⟩, v1.2.2, x1, k1, r1⟩, x2, fun a ha => f1 a (by omega)⟩
/-- an argument as a natural below a bound -/
def qin (x : Int32) (n : Nat) : Option Nat := if 0 ≤ x ∧ x < qn n then some x.toNatClampNeg else none
theorem qin_s {x : Int32} {n k : Nat} (hn : n < 2147483648) (h : qin x n = some k) : k < n ∧ x = qn k := by
  unfold qin at h
  split at h
  · next c =>
    injection h with h
    have e : qn x.toNatClampNeg = x := Int32.ofNat_toNatClampNeg x c.1
    rw [h] at e
    refine ⟨?_, e.symm⟩
    have c2 := c.2
    have hb := Int32.toNatClampNeg_lt x
    rw [← e, qn_lt (by rw [← h]; exact hb) hn] at c2
    exact c2
  · cases h
theorem qin_n {x : Int32} {n : Nat} (h : qin x n = none) : x < 0 ∨ ¬ x < qn n := by
  unfold qin at h
  split at h
  · cases h
  · next c =>
    by_cases c1 : x < 0
    · exact Or.inl c1
    · refine Or.inr fun c2 => c ⟨?_, c2⟩
      exact Int32.not_lt.mp c1
theorem qin_of {n k : Nat} (hn : n < 2147483648) (h : k < n) : qin (qn k) n = some k := by
  unfold qin
  have h1 : (0 : Int32) ≤ qn k := by show qn 0 ≤ qn k; rw [qn_le (by omega) (by omega)]; omega
  have h2 : qn k < qn n := by rw [qn_lt (by omega) hn]; exact h
  rw [if_pos ⟨h1, h2⟩, qn_c (by omega)]
theorem cCheck_s {n k : Nat} (hn : n < 2147483648) (hk : k < n) (M : zM) : fX7_checkIndex (qn k) (qn n) M = some (0, qn 0, M) := by
  unfold fX7_checkIndex
  simp (disch := omega) only [↓qlet, eq_self, qzg_t, qzb_some, ↓reduceIte, not_or, not_false_eq_true, not_true_eq_false, and_true, true_and, and_self, or_false, false_or, true_or, or_true, and_false, false_and, qlit, qneg, qof, qn_add, qn_mul, qn_s, qn_z, qn_d, qn_dz, qm_1, qt_1, qt_0, qb_0, qb_1, qb_01, qb01b, q01_0, q01_1, qo_s, qo_n, qn_c, qn_le, qn_lt, qn_eq, qn_ne_m, qm_ne_n, qm_lt, qm_le, qn_lt_m, qn_le_m, qn_sub, qn_div, qn_mod, qle_t, qle_f, qlt_t, qlt_f, qeq_t, qeq_f, Nat.add_sub_cancel, qC_I, qC_s, qU_s, qU_a, qU_k]
theorem cCheck_n {x : Int32} {n : Nat} (h : qin x n = none) (M : zM) : fX7_checkIndex x (qn n) M = some (1, qn 0, M) := by
  unfold fX7_checkIndex fX7_checkIndex_9
  rcases qin_n h with c | c
  · rw [if_pos c]; rfl
  · by_cases c1 : x < 0
    · rw [if_pos c1]; rfl
    · rw [if_neg c1, if_neg c]; rfl
theorem qzbx_0 (r : Int32) (M : zM) (f : Int32 → zM → Option (Nat × Int32 × zM)) : zbx (some (0, r, M)) f = f r M := rfl
theorem qzbx_s (t : Nat) (r : Int32) (M : zM) (f : Int32 → zM → Option (Nat × Int32 × zM)) : zbx (some (t + 1, r, M)) f = some (t + 1, qn 0, M) := rfl
theorem qzbx_1 (r : Int32) (M : zM) (f : Int32 → zM → Option (Nat × Int32 × zM)) : zbx (some (1, r, M)) f = some (1, qn 0, M) := rfl
theorem qzbx_2 (r : Int32) (M : zM) (f : Int32 → zM → Option (Nat × Int32 × zM)) : zbx (some (2, r, M)) f = some (2, qn 0, M) := rfl
/-- refused: nothing is changed -/
def qNo (t : Nat) (A : qA) : Nat × Int32 × qA := (t, qn 0, A)
/-- read anew from its beginning -/
def qNew (A : qA) : qA := (A.1, A.2.1, A.2.2.1, A.2.2.2.1, A.2.2.2.1.length)
/-- the lowest thing that two slots have -/
def qClash (G : qG) (e : Nat) : Option Nat := (List.range 11).find? fun t => (List.range (2 * qgN G e)).any fun r => qgDb G e t (qgN G e - r / 2) (r / 2) (r % 2 == 1) false
def qoSlot (A : qA) (x s : Int32) (h : Bool) (o : Int32) : Nat × Int32 × qA := match qin x 10 with
  | none => qNo 1 A
  | some e => match qin s 1024, qin o 4 with
    | some s1, some o1 => if s1 = 0 ∧ h = false then qNo 2 A else if 6 ≤ qgN A.1 e then qNo 3 A else
      match qClash (qgAdd A.1 e (s ||| (if h = true then qn 1024 else qn 0)) o1) e with
      | some t => (0, qn t, A)
      | none => (0, qm, qNew (qgAdd A.1 e (s ||| (if h = true then qn 1024 else qn 0)) o1, A.2))
    | _, _ => qNo 2 A
def qoEmpty (A : qA) (x : Int32) : Nat × Int32 × qA := match qin x 10 with
  | none => qNo 1 A
  | some e => (0, qn (qgN A.1 e), qNew (qgNil A.1 e, A.2))
def qgExc (G : qG) (e : Nat) (i x : Int32) : qG := (G.1, G.2.1, G.2.2.1, fun y => if y = e then i else qgI G y, fun y => if y = e then x else qgX G y, G.2.2.2.2.2)
def qoExcept (A : qA) (x i z : Int32) : Nat × Int32 × qA := match qin x 10 with
  | none => qNo 1 A
  | some e => match qin i 1024, qin z 1024 with
    | some _, some _ => (0, qn 0, qNew (qgExc A.1 e i z, A.2))
    | _, _ => qNo 2 A
def qgOmit (G : qG) (e : Nat) (a b : Bool) : qG := (G.1, G.2.1, G.2.2.1, G.2.2.2.1, G.2.2.2.2.1, fun y => if y = e then a else qgA G y, fun y => if y = e then b else qgB G y)
def qoOmit (A : qA) (x : Int32) (a b : Bool) : Nat × Int32 × qA := match qin x 10 with
  | none => qNo 1 A
  | some e => (0, qn 0, qNew (qgOmit A.1 e a b, A.2))
/-- whether a token can be -/
def qKin (s v : Int32) : Bool := match qin s 9 with
  | none => false
  | some k => if k = 0 ∨ k = 1 then (qin v 10).isSome else if k = 4 then decide (qn 32 ≤ v ∧ v ≤ qn 126) else if k = 6 then (qin v 6).isSome else if k = 7 then (qin v 4).isSome else true
def qoEntity (A : qA) (x s v : Int32) : Nat × Int32 × qA := match qin x 6 with
  | none => qNo 1 A
  | some e => if qKin s v = false then qNo 2 A else if 6 ≤ (A.2.2.1 e).length then qNo 3 A else (0, qn ((A.2.2.1 e).length + 1), qNew (A.1, A.2.1, (fun y => if y = e then A.2.2.1 e ++ [(s.toNatClampNeg, v)] else A.2.2.1 y), A.2.2.2))
def qoClear (A : qA) (x : Int32) : Nat × Int32 × qA := match qin x 6 with
  | none => qNo 1 A
  | some e => (0, qn (A.2.2.1 e).length, qNew (A.1, A.2.1, (fun y => if y = e then [] else A.2.2.1 y), A.2.2.2))
def qoFlip (A : qA) (x t : Int32) : Nat × Int32 × qA := match qin x 4 with
  | none => qNo 1 A
  | some e => match qin t 3 with
    | none => qNo 2 A
    | some t1 => (0, qn (A.2.1 e), qNew (A.1, (fun y => if y = e then t1 else A.2.1 y), A.2.2))
/-- models as the class keeps them -/
def qCM (G : qG) (e : Nat) (I : Nat → Nat → Int32) : Prop := qCS G e I ∧ ∀ r, r < 2 * qgN G e → I (12 + 6 * e) r = qrOn G e r ∧ I (13 + 6 * e) r = qb (qrEnd G e r)
theorem qCG_M {G : qG} (h : qCG G I) {e : Nat} (he : e < 10) : qCM G e I := ⟨⟨(h e he).1, (h e he).2.1⟩, (h e he).2.2.1⟩
/-- one model was changed -/
theorem qCG_one {G G' : qG} {J : Nat → Nat → Int32} {e : Nat} (he : e < 10) (h : qCG G I) (hM : qCM G' e J) (hf : ∀ a, (a < 8 + 6 * e ∨ 14 + 6 * e ≤ a) → J a = I a) (h2 : G'.2.2.2 = G.2.2.2) (h1 : ∀ y, ¬ y = e → qgN G' y = qgN G y ∧ ∀ k, qgS G' y k = qgS G y k ∧ qgO G' y k = qgO G y k) : qCG G' J := by
  have hrest : ∀ y, qgI G' y = qgI G y ∧ qgX G' y = qgX G y ∧ qgA G' y = qgA G y ∧ qgB G' y = qgB G y := fun y => by
    unfold qgI qgX qgA qgB
    rw [h2]
    exact ⟨rfl, rfl, rfl, rfl⟩
  intro y hy
  obtain ⟨r1, r2, r3, r4⟩ := hrest y
  obtain ⟨g1, g2, g3, g4, g5, g6, g7⟩ := h y hy
  rw [r1, r2, r3, r4, hf 4 (by omega), hf 5 (by omega), hf 6 (by omega), hf 7 (by omega)]
  by_cases c : y = e
  · subst c
    exact ⟨hM.1.1, hM.1.2, hM.2, g4, g5, g6, g7⟩
  · obtain ⟨n1, n2⟩ := h1 y c
    have hon : ∀ n k s, qgOn G' y n k s = qgOn G y n k s := by
      intro n
      induction n with
      | zero => intro k s; rfl
      | succ n ih => intro k s; unfold qgOn qgEn; rw [(n2 k).1, (n2 k).2, ih]
    have hen : ∀ n k s, qgEnd G' y n k s = qgEnd G y n k s := by
      intro n
      induction n with
      | zero => intro k s; rfl
      | succ n ih => intro k s; unfold qgEnd qgEn; rw [(n2 k).2, ih]
    rw [n1]
    have ha : 14 + 6 * e ≤ 8 + 6 * y ∨ 14 + 6 * y ≤ 8 + 6 * e := by omega
    refine ⟨by rw [hf _ (by omega)]; exact g1, fun k hk => ?_, fun r hr => ?_, g4, g5, g6, g7⟩
    · rw [hf _ (by omega), hf (10 + 6 * y) (by omega), hf (11 + 6 * y) (by omega), (n2 k).1, (n2 k).2]
      exact g2 k hk
    · rw [hf _ (by omega), hf (13 + 6 * y) (by omega)]
      unfold qrOn qrEnd
      rw [n1, hon, hen]
      exact g3 r hr
theorem qClA_S {G : qG} {e : Nat} (hS : ∀ k, k < qgN G e → qS (qgS G e k)) : ∀ r, qS (qgClA G e r) := by
  have hset : ∀ k s, k < qgN G e → qS (if (!s || qmany (qgO G e k)) = true then qgS G e k else qn 0) := fun k s hk => by
    split
    · exact hS k hk
    · exact qS_z
  have hand : ∀ {a b : Int32}, qS b → qS (a &&& b) := fun {a b} hb => by
    obtain ⟨m, hm, rfl⟩ := hb
    refine qS_of fun t h1 h2 => ?_
    rw [qt_and _ _ h2, qt_hi hm h1 h2, Bool.and_false]
  have hcl : ∀ n k s z, n + k ≤ qgN G e → qS (qgCl G e n k s z) := by
    intro n
    induction n with
    | zero => intro k s z _; exact qS_z
    | succ n ih =>
      intro k s z hk
      unfold qgCl
      refine qS_or (hand (hset k s (by omega))) ?_
      split
      · exact ih _ _ _ (by omega)
      · exact qS_z
  intro r
  induction r with
  | zero => exact qS_z
  | succ r ih =>
    unfold qgClA
    by_cases c : r / 2 ≤ qgN G e
    · exact qS_or ih (hcl _ _ _ _ (by omega))
    · rw [show qgN G e - r / 2 = 0 by omega]
      exact qS_or ih qS_z
theorem qClA_t (G : qG) (e : Nat) {t : Nat} (ht : t < 32) : ∀ r, qt (qgClA G e r) t = (List.range r).any fun q => qgDb G e t (qgN G e - q / 2) (q / 2) (q % 2 == 1) false := by
  intro r
  induction r with
  | zero => exact qt_z ht
  | succ r ih =>
    unfold qgClA
    rw [qt_or _ _ ht, ih, qCl_t G e ht, qt_z ht, List.range_succ, List.any_append]
    simp
def qlk (n : Nat) : Bool := match (List.range 11).find? (fun t => qt (qn n) t) with
  | some t => decide (qbc ((qn n &&& (-(qn n))) - 1) = qn t ∧ ¬ n = 0 ∧ t < 11)
  | none => decide (n = 0)
set_option maxRecDepth 1000000 in
theorem qlk_is : ∀ n, n < 2048 → qlk n = true := by decide +kernel
theorem qClash_0 {G : qG} {e : Nat} (hS : ∀ k, k < qgN G e → qS (qgS G e k)) : (qgClA G e (2 * qgN G e) = qn 0 ∧ qClash G e = none) ∨ ∃ t, t < 11 ∧ qClash G e = some t ∧ ¬ qgClA G e (2 * qgN G e) = qn 0 ∧ qbc ((qgClA G e (2 * qgN G e) &&& (-(qgClA G e (2 * qgN G e)))) - 1) = qn t := by
  obtain ⟨n, hn, he⟩ := qClA_S hS (2 * qgN G e)
  have hl := qlk_is n hn
  have hf : qClash G e = (List.range 11).find? (fun t => qt (qn n) t) := by
    unfold qClash
    have key : ∀ (l : List Nat), (∀ t ∈ l, t < 11) → l.find? (fun t => (List.range (2 * qgN G e)).any fun r => qgDb G e t (qgN G e - r / 2) (r / 2) (r % 2 == 1) false) = l.find? (fun t => qt (qn n) t) := by
      intro l
      induction l with
      | nil => intro _; rfl
      | cons t l ih =>
        intro hm
        have ht := hm t (by simp)
        rw [List.find?_cons, List.find?_cons, ← he, qClA_t G e (by omega), he, ih fun y hy => hm y (by simp [hy])]
    exact key _ fun t ht => by simpa using ht
  unfold qlk at hl
  rw [he]
  cases h : (List.range 11).find? (fun t => qt (qn n) t) with
  | none =>
    rw [h] at hl
    have h0 := of_decide_eq_true hl
    left
    exact ⟨by rw [h0], by rw [hf, h]⟩
  | some t =>
    rw [h] at hl
    obtain ⟨h1, h2, h3⟩ := of_decide_eq_true hl
    right
    refine ⟨t, h3, by rw [hf, h], ?_, h1⟩
    rw [qn_eq (by omega) (by omega)]
    exact h2
theorem qgAdd_ok {G : qG} (hg : qGok G) {e : Nat} (he : e < 10) (h6 : qgN G e < 6) {s : Int32} (hs : qS s) {o : Nat} (ho : o ≤ 3) : qGok (qgAdd G e s o) := by
  intro y hy
  obtain ⟨g1, g2, g3, g4⟩ := hg y hy
  have en : qgN (qgAdd G e s o) y = if y = e then qgN G e + 1 else qgN G y := rfl
  refine ⟨?_, fun k hk => ?_, g3, g4⟩
  · rw [en]; split <;> omega
  · have es : qgS (qgAdd G e s o) y k = if y = e ∧ k = qgN G e then s else qgS G y k := rfl
    have eo : qgO (qgAdd G e s o) y k = if y = e ∧ k = qgN G e then o else qgO G y k := rfl
    rw [en] at hk
    rw [es, eo]
    by_cases c : y = e ∧ k = qgN G e
    · rw [if_pos c, if_pos c]; exact ⟨hs, ho⟩
    · rw [if_neg c, if_neg c]
      refine g2 k ?_
      by_cases c2 : y = e
      · subst c2; rw [if_pos rfl] at hk; have : ¬ k = qgN G y := fun e => c ⟨rfl, e⟩; omega
      · rw [if_neg c2] at hk; exact hk
theorem qgNil_ok {G : qG} (hg : qGok G) (e : Nat) : qGok (qgNil G e) := by
  intro y hy
  obtain ⟨g1, g2, g3, g4⟩ := hg y hy
  have en : qgN (qgNil G e) y = if y = e then 0 else qgN G y := rfl
  refine ⟨by rw [en]; split <;> omega, fun k hk => g2 k ?_, g3, g4⟩
  rw [en] at hk
  split at hk
  · omega
  · exact hk
/-- a call that changes nothing -/
theorem cSame (hA : qCA w I A) : ∃ w2 J, qC w I = qC w2 J ∧ qCA w2 J A := ⟨w, I, rfl, hA⟩
theorem cSlot (hA : qCA w I A) (x s : Int32) (h : Bool) (o : Int32) : ∃ w2 J, fX7_slot 1 x s (qb h) o (qC w I) = some ((qoSlot A x s h o).1, (qoSlot A x s h o).2.1, qC w2 J) ∧ qCA w2 J (qoSlot A x s h o).2.2 := by
  have hA0 := hA
  obtain ⟨⟨hg, hE, hn, hk⟩, ⟨hG, hEn, hK⟩, hV, hX, hF, h16⟩ := hA
  unfold fX7_slot qoSlot
  cases hx : qin x 10 with
  | none =>
    refine ⟨w, I, ?_, hA0⟩
    rw [show (10 : Int32) = qn 10 from rfl, cCheck_n hx, qzbx_1]
    rfl
  | some e =>
    obtain ⟨he, rfl⟩ := qin_s (by omega) hx
    rw [show (10 : Int32) = qn 10 from rfl, cCheck_s (by omega) he, qzbx_0]
    -- the set and the occurrence
    have hbad : ∀ z : Int32, (qin s 1024 = none ∨ qin o 4 = none) → fX7_slot_19 1 (qn e) s (qb h) o z (qC w I) = some (2, qn 0, qC w I) := by
      intro z hq
      unfold fX7_slot_19 fX7_slot_48
      by_cases c1 : s < 0
      · rw [if_pos c1]; rfl
      · rw [if_neg c1]
        by_cases c2 : (1024 : Int32) ≤ s
        · rw [if_pos c2]; rfl
        · rw [if_neg c2]
          by_cases c3 : o < 0
          · rw [if_pos c3]; rfl
          · rw [if_neg c3]
            by_cases c4 : (3 : Int32) < o
            · rw [if_pos c4]; rfl
            · exfalso
              rcases hq with hq | hq
              · rcases qin_n hq with c | c
                · exact c1 c
                · exact c (Int32.not_le.mp c2)
              · rcases qin_n hq with c | c
                · exact c3 c
                · have c4 := Int32.not_lt.mp c4
                  have c5 := Int32.ofNat_toNatClampNeg o (Int32.not_lt.mp c3)
                  have c6 := Int32.toNatClampNeg_lt o
                  have c5 : qn o.toNatClampNeg = o := c5
                  rw [← c5, qn_lt (by omega) (by omega)] at c
                  rw [← c5] at c4
                  have c4 : qn o.toNatClampNeg ≤ qn 3 := c4
                  rw [qn_le (by omega) (by omega)] at c4
                  omega
    have hgo : ∀ z : Int32, (qin s 1024 = none ∨ qin o 4 = none) → (if s = 0 then if qb h = 0 then fX7_slot_19 1 (qn e) s (qb h) o 1 (qC w I) else fX7_slot_18 1 (qn e) s (qb h) o (qC w I) else fX7_slot_18 1 (qn e) s (qb h) o (qC w I)) = some (2, qn 0, qC w I) := by
      intro z hq
      unfold fX7_slot_18
      rw [hbad 1 hq, hbad 0 hq]
      split
      · split <;> rfl
      · rfl
    dsimp only
    cases hs : qin s 1024 with
    | none =>
      refine ⟨w, I, ?_, hA0⟩
      exact hgo 0 (Or.inl hs)
    | some s1 =>
      cases ho : qin o 4 with
      | none =>
        refine ⟨w, I, ?_, hA0⟩
        exact hgo 0 (Or.inr ho)
      | some o1 =>
        obtain ⟨hs1, rfl⟩ := qin_s (by omega) hs
        obtain ⟨ho1, rfl⟩ := qin_s (by omega) ho
        dsimp only
        by_cases c0 : s1 = 0 ∧ h = false
        · rw [if_pos c0]
          refine ⟨w, I, ?_, hA0⟩
          obtain ⟨c1, c2⟩ := c0
          subst c1; subst c2
          unfold fX7_slot_19 fX7_slot_48
          simp (disch := omega) only [↓qlet, eq_self, qzg_t, qzb_some, ↓reduceIte, not_or, not_false_eq_true, not_true_eq_false, and_true, true_and, and_self, or_false, false_or, true_or, or_true, and_false, false_and, qlit, qneg, qof, qn_add, qn_mul, qn_s, qn_z, qn_d, qn_dz, qm_1, qt_1, qt_0, qb_0, qb_1, qb_01, qb01b, q01_0, q01_1, qo_s, qo_n, qn_c, qn_le, qn_lt, qn_eq, qn_ne_m, qm_ne_n, qm_lt, qm_le, qn_lt_m, qn_le_m, qn_sub, qn_div, qn_mod, qle_t, qle_f, qlt_t, qlt_f, qeq_t, qeq_f, Nat.add_sub_cancel, qC_I, qC_s, qU_s, qU_a, qU_k, qb_f]
          rfl
        · rw [if_neg c0]
          obtain ⟨g1, g2, g3⟩ := hG e he
          have h6 := (hg e he).1
          have hcond : (if qn s1 = 0 then if qb h = 0 then fX7_slot_19 1 (qn e) (qn s1) (qb h) (qn o1) 1 (qC w I) else fX7_slot_18 1 (qn e) (qn s1) (qb h) (qn o1) (qC w I) else fX7_slot_18 1 (qn e) (qn s1) (qb h) (qn o1) (qC w I)) = fX7_slot_19 1 (qn e) (qn s1) (qb h) (qn o1) 0 (qC w I) := by
            unfold fX7_slot_18
            by_cases c1 : s1 = 0
            · cases h with
              | false => exact absurd ⟨c1, rfl⟩ c0
              | true => simp (disch := omega) only [↓qlet, eq_self, qzg_t, qzb_some, ↓reduceIte, not_or, not_false_eq_true, not_true_eq_false, and_true, true_and, and_self, or_false, false_or, true_or, or_true, and_false, false_and, qlit, qneg, qof, qn_add, qn_mul, qn_s, qn_z, qn_d, qn_dz, qm_1, qt_1, qt_0, qb_0, qb_1, qb_01, qb01b, q01_0, q01_1, qo_s, qo_n, qn_c, qn_le, qn_lt, qn_eq, qn_ne_m, qm_ne_n, qm_lt, qm_le, qn_lt_m, qn_le_m, qn_sub, qn_div, qn_mod, qle_t, qle_f, qlt_t, qlt_f, qeq_t, qeq_f, Nat.add_sub_cancel, qC_I, qC_s, qU_s, qU_a, qU_k, c1, qb_t]
            · simp (disch := omega) only [↓qlet, eq_self, qzg_t, qzb_some, ↓reduceIte, not_or, not_false_eq_true, not_true_eq_false, and_true, true_and, and_self, or_false, false_or, true_or, or_true, and_false, false_and, qlit, qneg, qof, qn_add, qn_mul, qn_s, qn_z, qn_d, qn_dz, qm_1, qt_1, qt_0, qb_0, qb_1, qb_01, qb01b, q01_0, q01_1, qo_s, qo_n, qn_c, qn_le, qn_lt, qn_eq, qn_ne_m, qm_ne_n, qm_lt, qm_le, qn_lt_m, qn_le_m, qn_sub, qn_div, qn_mod, qle_t, qle_f, qlt_t, qlt_f, qeq_t, qeq_f, Nat.add_sub_cancel, qC_I, qC_s, qU_s, qU_a, qU_k, c1]
          rw [hcond]
          unfold fX7_slot_19
          by_cases c6 : 6 ≤ qgN A.1 e
          · rw [if_pos c6]
            refine ⟨w, I, ?_, hA0⟩
            simp (disch := omega) only [↓qlet, eq_self, qzg_t, qzb_some, ↓reduceIte, not_or, not_false_eq_true, not_true_eq_false, and_true, true_and, and_self, or_false, false_or, true_or, or_true, and_false, false_and, qlit, qneg, qof, qn_add, qn_mul, qn_s, qn_z, qn_d, qn_dz, qm_1, qt_1, qt_0, qb_0, qb_1, qb_01, qb01b, q01_0, q01_1, qo_s, qo_n, qn_c, qn_le, qn_lt, qn_eq, qn_ne_m, qm_ne_n, qm_lt, qm_le, qn_lt_m, qn_le_m, qn_sub, qn_div, qn_mod, qle_t, qle_f, qlt_t, qlt_f, qeq_t, qeq_f, Nat.add_sub_cancel, qC_I, qC_s, qU_s, qU_a, qU_k, qk_1, qk_2, qk_3, qk_4, qk_5, qk_6, qk_7, qk_68, qk_69, qk_70, qk_71, qk_72, qk_91, qk_92, qk_93, qk_94, qk_95, qk_96, qk_97, qk_98, qk_99, qk_100, qk_101, qk_102, qk_103, qk_104, qk_105, qk_106, qk_107, qk_108, qk_109, qk_476, qk_477, qr_1_0, qr_1_1, qr_1_2, qr_1_3, qr_1_4, qr_1_5, qr_2_0, qr_2_1, qr_2_2, qr_2_3, qr_2_4, qr_68_0, qr_68_1, qr_91_0, qr_91_1, qr_91_2, qr_91_3, qr_91_4, qr_91_5, qr_91_6, qr_91_7, qr_91_10, qr_91_11, qr_91_14, qr_92_0, qr_92_1, qr_92_2, qr_92_3, qr_92_4, qr_98_0, qr_98_1, qr_107_0, qr_107_1, qr_107_2, qr_476_0, qr_476_1, qr_476_2, qk_2, qk_3, qk_4, qk_5, qk_6, qk_7, ql_3, ql_4, ql_5, ql_6, ql_7, qr_2_0, qr_2_1, qr_2_2, qr_2_3, qr_2_4, qmo_r, qmo_k, qmo0_k, qmo0_l, qmo1_k, qmo1_l, qmo2_k, qmo2_l, qmo4_k, qmo4_l, qmo5_k, qmo5_l, qmo_r0, qmo_r1, qmo_r2, qmo_r4, qmo_r5, g1]
            rfl
          · rw [if_neg c6]
            have hMe := qCG_M hG he
            obtain ⟨st, hst⟩ : ∃ st, st = qn s1 ||| (if h = true then qn 1024 else qn 0) := ⟨_, rfl⟩
            rw [← hst]
            have hSst : qS st := by
              rw [hst]
              refine qS_or ⟨s1, by omega, rfl⟩ ?_
              split
              · exact ⟨1024, by omega, rfl⟩
              · exact qS_z
            obtain ⟨J, e1, j1, j2, j3, j4⟩ := cAddSlot (w := w) he (by omega) hMe.1 st (o := o1) (by omega)
            have hn1 : qgN (qgAdd A.1 e st o1) e = qgN A.1 e + 1 := if_pos rfl
            have hgA := qgAdd_ok hg he (by omega) hSst (o := o1) (by omega)
            have hone : ∀ y, ¬ y = e → qgN (qgAdd A.1 e st o1) y = qgN A.1 y ∧ ∀ k, qgS (qgAdd A.1 e st o1) y k = qgS A.1 y k ∧ qgO (qgAdd A.1 e st o1) y k = qgO A.1 y k := fun y hy => ⟨if_neg hy, fun k => ⟨if_neg fun h => hy h.1, if_neg fun h => hy h.1⟩⟩
            have hr : (if 1024 ≤ qn s1 then fX7_slot_48 (qC w I) else if qn o1 < 0 then fX7_slot_48 (qC w I) else if 3 < qn o1 then fX7_slot_48 (qC w I) else if (0 : Int32) = 0 then zg (zk (qC w I) 1 = 7) (zg (zk (qC w I) (zR (qC w I) 1 0) = 0) (zg (zk (qC w I) (zR (qC w I) (zR (qC w I) 1 0) 0) = 110) (zg (¬ (qn e < 0 ∨ zl (qC w I) (zR (qC w I) (zR (qC w I) 1 0) 0) ≤ (qn e).toNatClampNeg)) (zlet ((zR (qC w I) (zR (qC w I) (zR (qC w I) 1 0) 0) (qn e).toNatClampNeg)) fun u28 => (zg (zk (qC w I) u28 = 1) (if (zI (qC w I) u28 3) < 6 then if qb h = 0 then fX7_slot_104 1 (qn o1) u28 u28 (qn s1) (qC w I) else fX7_slot_104 1 (qn o1) u28 u28 (qn s1 ||| 1024) (qC w I) else some (3, 0, qC w I))))))) else fX7_slot_48 (qC w I)) = fX7_slot_104 1 (qn o1) (8 + 6 * e) (8 + 6 * e) st (qC w I) := by
              rw [hst]
              cases h with
              | true => simp (disch := omega) only [↓qlet, eq_self, qzg_t, qzb_some, ↓reduceIte, not_or, not_false_eq_true, not_true_eq_false, and_true, true_and, and_self, or_false, false_or, true_or, or_true, and_false, false_and, qlit, qneg, qof, qn_add, qn_mul, qn_s, qn_z, qn_d, qn_dz, qm_1, qt_1, qt_0, qb_0, qb_1, qb_01, qb01b, q01_0, q01_1, qo_s, qo_n, qn_c, qn_le, qn_lt, qn_eq, qn_ne_m, qm_ne_n, qm_lt, qm_le, qn_lt_m, qn_le_m, qn_sub, qn_div, qn_mod, qle_t, qle_f, qlt_t, qlt_f, qeq_t, qeq_f, Nat.add_sub_cancel, qC_I, qC_s, qU_s, qU_a, qU_k, qk_1, qk_2, qk_3, qk_4, qk_5, qk_6, qk_7, qk_68, qk_69, qk_70, qk_71, qk_72, qk_91, qk_92, qk_93, qk_94, qk_95, qk_96, qk_97, qk_98, qk_99, qk_100, qk_101, qk_102, qk_103, qk_104, qk_105, qk_106, qk_107, qk_108, qk_109, qk_476, qk_477, qr_1_0, qr_1_1, qr_1_2, qr_1_3, qr_1_4, qr_1_5, qr_2_0, qr_2_1, qr_2_2, qr_2_3, qr_2_4, qr_68_0, qr_68_1, qr_91_0, qr_91_1, qr_91_2, qr_91_3, qr_91_4, qr_91_5, qr_91_6, qr_91_7, qr_91_10, qr_91_11, qr_91_14, qr_92_0, qr_92_1, qr_92_2, qr_92_3, qr_92_4, qr_98_0, qr_98_1, qr_107_0, qr_107_1, qr_107_2, qr_476_0, qr_476_1, qr_476_2, qk_2, qk_3, qk_4, qk_5, qk_6, qk_7, ql_3, ql_4, ql_5, ql_6, ql_7, qr_2_0, qr_2_1, qr_2_2, qr_2_3, qr_2_4, qmo_r, qmo_k, qmo0_k, qmo0_l, qmo1_k, qmo1_l, qmo2_k, qmo2_l, qmo4_k, qmo4_l, qmo5_k, qmo5_l, qmo_r0, qmo_r1, qmo_r2, qmo_r4, qmo_r5, g1, qb_t]
              | false => simp (disch := omega) only [↓qlet, eq_self, qzg_t, qzb_some, ↓reduceIte, not_or, not_false_eq_true, not_true_eq_false, and_true, true_and, and_self, or_false, false_or, true_or, or_true, and_false, false_and, qlit, qneg, qof, qn_add, qn_mul, qn_s, qn_z, qn_d, qn_dz, qm_1, qt_1, qt_0, qb_0, qb_1, qb_01, qb01b, q01_0, q01_1, qo_s, qo_n, qn_c, qn_le, qn_lt, qn_eq, qn_ne_m, qm_ne_n, qm_lt, qm_le, qn_lt_m, qn_le_m, qn_sub, qn_div, qn_mod, qle_t, qle_f, qlt_t, qlt_f, qeq_t, qeq_f, Nat.add_sub_cancel, qC_I, qC_s, qU_s, qU_a, qU_k, qk_1, qk_2, qk_3, qk_4, qk_5, qk_6, qk_7, qk_68, qk_69, qk_70, qk_71, qk_72, qk_91, qk_92, qk_93, qk_94, qk_95, qk_96, qk_97, qk_98, qk_99, qk_100, qk_101, qk_102, qk_103, qk_104, qk_105, qk_106, qk_107, qk_108, qk_109, qk_476, qk_477, qr_1_0, qr_1_1, qr_1_2, qr_1_3, qr_1_4, qr_1_5, qr_2_0, qr_2_1, qr_2_2, qr_2_3, qr_2_4, qr_68_0, qr_68_1, qr_91_0, qr_91_1, qr_91_2, qr_91_3, qr_91_4, qr_91_5, qr_91_6, qr_91_7, qr_91_10, qr_91_11, qr_91_14, qr_92_0, qr_92_1, qr_92_2, qr_92_3, qr_92_4, qr_98_0, qr_98_1, qr_107_0, qr_107_1, qr_107_2, qr_476_0, qr_476_1, qr_476_2, qk_2, qk_3, qk_4, qk_5, qk_6, qk_7, ql_3, ql_4, ql_5, ql_6, ql_7, qr_2_0, qr_2_1, qr_2_2, qr_2_3, qr_2_4, qmo_r, qmo_k, qmo0_k, qmo0_l, qmo1_k, qmo1_l, qmo2_k, qmo2_l, qmo4_k, qmo4_l, qmo5_k, qmo5_l, qmo_r0, qmo_r1, qmo_r2, qmo_r4, qmo_r5, g1, qb_f, Bool.false_eq_true, q_or0r]
            rw [if_neg (show ¬ qn s1 < 0 by show ¬ qn s1 < qn 0; rw [qn_lt (by omega) (by omega)]; omega), hr]
            unfold fX7_slot_104
            rcases qClash_0 (G := qgAdd A.1 e st o1) (e := e) (fun k hk => ((hgA e he).2.1 k hk).1) with ⟨z1, z2⟩ | ⟨t, t1, t2, t3, t4⟩
            · rw [z2]
              rw [hn1] at z1
              have hG2 : qCG (qgAdd A.1 e st o1) J := qCG_one he hG ⟨j1, by rw [hn1]; exact j3⟩ j4 rfl hone
              obtain ⟨K, e2, k1, k2, k3⟩ := cChange (A' := (qgAdd A.1 e st o1, A.2)) hA0 ⟨hgA, hE, hn, hk⟩ (I' := J) ⟨hG2, qCEn_fr2 hEn fun a h1 h2 => j4 a (by omega), qCK_fr hK (by rw [j4 _ (by omega)]) (by rw [j4 _ (by omega)]) (by rw [j4 _ (by omega)])⟩ (fun a ha => j4 a (by omega))
              refine ⟨!w, K, ?_, k1⟩
              simp (disch := omega) only [↓qlet, eq_self, qzg_t, qzb_some, ↓reduceIte, not_or, not_false_eq_true, not_true_eq_false, and_true, true_and, and_self, or_false, false_or, true_or, or_true, and_false, false_and, qlit, qneg, qof, qn_add, qn_mul, qn_s, qn_z, qn_d, qn_dz, qm_1, qt_1, qt_0, qb_0, qb_1, qb_01, qb01b, q01_0, q01_1, qo_s, qo_n, qn_c, qn_le, qn_lt, qn_eq, qn_ne_m, qm_ne_n, qm_lt, qm_le, qn_lt_m, qn_le_m, qn_sub, qn_div, qn_mod, qle_t, qle_f, qlt_t, qlt_f, qeq_t, qeq_f, Nat.add_sub_cancel, qC_I, qC_s, qU_s, qU_a, qU_k, qk_1, qk_2, qk_3, qk_4, qk_5, qk_6, qk_7, qk_68, qk_69, qk_70, qk_71, qk_72, qk_91, qk_92, qk_93, qk_94, qk_95, qk_96, qk_97, qk_98, qk_99, qk_100, qk_101, qk_102, qk_103, qk_104, qk_105, qk_106, qk_107, qk_108, qk_109, qk_476, qk_477, qr_1_0, qr_1_1, qr_1_2, qr_1_3, qr_1_4, qr_1_5, qr_2_0, qr_2_1, qr_2_2, qr_2_3, qr_2_4, qr_68_0, qr_68_1, qr_91_0, qr_91_1, qr_91_2, qr_91_3, qr_91_4, qr_91_5, qr_91_6, qr_91_7, qr_91_10, qr_91_11, qr_91_14, qr_92_0, qr_92_1, qr_92_2, qr_92_3, qr_92_4, qr_98_0, qr_98_1, qr_107_0, qr_107_1, qr_107_2, qr_476_0, qr_476_1, qr_476_2, qk_2, qk_3, qk_4, qk_5, qk_6, qk_7, ql_3, ql_4, ql_5, ql_6, ql_7, qr_2_0, qr_2_1, qr_2_2, qr_2_3, qr_2_4, qmo_r, qmo_k, qmo0_k, qmo0_l, qmo1_k, qmo1_l, qmo2_k, qmo2_l, qmo4_k, qmo4_l, qmo5_k, qmo5_l, qmo_r0, qmo_r1, qmo_r2, qmo_r4, qmo_r5, e1, j2, z1, e2]
            · rw [t2]
              rw [hn1] at t3 t4
              obtain ⟨K, e2, k1, k2, k3⟩ := cDropLast (w := w) he (by omega) j1
              have hG2 : qCG A.1 K := qCG_one he hG ⟨k1, k2⟩ (fun a ha => by rw [k3 a ha, j4 a ha]) rfl (fun y _ => ⟨rfl, fun k => ⟨rfl, rfl⟩⟩)
              have hKI : ∀ a, 68 ≤ a → K a = I a := fun a ha => by rw [k3 a (by omega), j4 a (by omega)]
              refine ⟨w, K, ?_, ⟨hg, hE, hn, hk⟩, ⟨hG2, qCEn_fr2 hEn fun a h1 h2 => hKI a (by omega), qCK_fr hK (by rw [hKI _ (by omega)]) (by rw [hKI _ (by omega)]) (by rw [hKI _ (by omega)])⟩, ?_, ?_, qCK_fr hF (by rw [hKI _ (by omega)]) (by rw [hKI _ (by omega)]) (by rw [hKI _ (by omega)]), by rw [hKI _ (by omega)]; exact h16⟩
              · rw [qlit] at t4
                simp (disch := omega) only [↓qlet, eq_self, qzg_t, qzb_some, ↓reduceIte, not_or, not_false_eq_true, not_true_eq_false, and_true, true_and, and_self, or_false, false_or, true_or, or_true, and_false, false_and, qlit, qneg, qof, qn_add, qn_mul, qn_s, qn_z, qn_d, qn_dz, qm_1, qt_1, qt_0, qb_0, qb_1, qb_01, qb01b, q01_0, q01_1, qo_s, qo_n, qn_c, qn_le, qn_lt, qn_eq, qn_ne_m, qm_ne_n, qm_lt, qm_le, qn_lt_m, qn_le_m, qn_sub, qn_div, qn_mod, qle_t, qle_f, qlt_t, qlt_f, qeq_t, qeq_f, Nat.add_sub_cancel, qC_I, qC_s, qU_s, qU_a, qU_k, qk_1, qk_2, qk_3, qk_4, qk_5, qk_6, qk_7, qk_68, qk_69, qk_70, qk_71, qk_72, qk_91, qk_92, qk_93, qk_94, qk_95, qk_96, qk_97, qk_98, qk_99, qk_100, qk_101, qk_102, qk_103, qk_104, qk_105, qk_106, qk_107, qk_108, qk_109, qk_476, qk_477, qr_1_0, qr_1_1, qr_1_2, qr_1_3, qr_1_4, qr_1_5, qr_2_0, qr_2_1, qr_2_2, qr_2_3, qr_2_4, qr_68_0, qr_68_1, qr_91_0, qr_91_1, qr_91_2, qr_91_3, qr_91_4, qr_91_5, qr_91_6, qr_91_7, qr_91_10, qr_91_11, qr_91_14, qr_92_0, qr_92_1, qr_92_2, qr_92_3, qr_92_4, qr_98_0, qr_98_1, qr_107_0, qr_107_1, qr_107_2, qr_476_0, qr_476_1, qr_476_2, qk_2, qk_3, qk_4, qk_5, qk_6, qk_7, ql_3, ql_4, ql_5, ql_6, ql_7, qr_2_0, qr_2_1, qr_2_2, qr_2_3, qr_2_4, qmo_r, qmo_k, qmo0_k, qmo0_l, qmo1_k, qmo1_l, qmo2_k, qmo2_l, qmo4_k, qmo4_l, qmo5_k, qmo5_l, qmo_r0, qmo_r1, qmo_r2, qmo_r4, qmo_r5, e1, j2, t3, cLow, t4, e2]
              · exact qCVs_fr hV (by rw [hKI 91 (by omega)]) (by rw [hKI 91 (by omega)]) (by rw [hKI 91 (by omega)]) fun a ha => hKI a (by omega)
              · exact qCX_fr hX fun j hj d hd => by have := qSc_ge w j; rw [hKI _ (by omega)]
end
