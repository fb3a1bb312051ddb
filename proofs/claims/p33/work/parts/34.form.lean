/-! THE VALUE: what is closed under the steps of a reading; the normal form -/
def qClosed (G : qG) (P : qV → Prop) : Prop := (∀ k p V, P V → P (qErr k p V)) ∧ (∀ l p V, (∃ B, qVok G B V) → V.2.2.1.length < 300 → 32 ≤ l ∧ l < 127 → P V → P (qPut 10 l p false V)) ∧ (∀ e p b V, (∃ B, qVok G B V) → e < 10 → V.1.1.length < 20 → V.2.2.1.length < 300 → P V → P (qOpen G e p b V)) ∧ (∀ V Z t, (∃ B, qVok G B V) → P V → qAcc G V.1 t = some Z → P (qTo Z V)) ∧ (∀ V, (∃ B, qVok G B V) → 0 < V.1.1.length → P V → P (qShut V)) ∧ (∀ p b V, (∃ B, qVok G B V) → 0 < V.1.1.length → P V → P (qEnd1 G p b V))
section
variable {G : qG} {P : qV → Prop} {ks : List qK}
theorem qRead_P (hP : qClosed G P) {t l p : Nat} (htt : t ≤ 10) (hl : 32 ≤ l ∧ l < 127) (hp : p ≤ 600) : ∀ n put B V V', qVok G B V → P V → qRead G t l p n put V = some V' → P V' := by
  obtain ⟨p1, p2, p3, p4, p5, p6⟩ := hP
  intro n
  induction n with
  | zero => intro put B V V' _ _ h; cases h
  | succ n ih =>
    intro put B V V' hV hPV h
    unfold qRead at h
    by_cases c1 : 300 ≤ V.2.2.1.length ∨ t < 10 ∧ 20 ≤ V.1.1.length
    · rw [if_pos c1] at h
      injection h with h; subst h
      exact p1 _ _ _ hPV
    · rw [if_neg c1] at h
      have ht : V.2.2.1.length < 300 := by omega
      cases ha : qAcc G V.1 t with
      | some Z =>
        rw [ha] at h
        dsimp only at h
        injection h with h; subst h
        have hT := qTo_ok hV ha
        have hA := qAcc_ok hV.1 ha
        have hPT := p4 V Z t ⟨B, hV⟩ hPV ha
        split
        · next c => exact p3 _ _ _ _ ⟨B, hT⟩ c (by show Z.1.length < 20; rw [hA.2.1]; omega) ht hPT
        · exact p2 _ _ _ ⟨B, hT⟩ ht hl hPT
      | none =>
        rw [ha] at h
        dsimp only at h
        by_cases c2 : V.1.2 = none ∧ qgA G 0 = true
        · rw [if_pos c2] at h
          have e0 := hV.1.2.2.2 c2.1
          have hO := qOpen_ok hV ht (e := 0) (by omega) (by rw [e0]; simp) hp true
          exact ih put B _ V' hO (p3 _ _ _ _ ⟨B, hV⟩ (by omega) (by rw [e0]; simp) ht hPV) h
        · rw [if_neg c2] at h
          cases hw : (if put < 8 then qWant G V.1 else none) with
          | some e =>
            rw [hw] at h
            dsimp only at h
            have h8 : put < 8 := by
              by_cases c : put < 8
              · exact c
              · rw [if_neg c] at hw; cases hw
            rw [if_pos h8] at hw
            obtain ⟨w1, w2, w3⟩ := qWant_some hw
            have hL := qToD_len hV e
            have hdl : (qTo ((qAcc G V.1 e).getD V.1) V).1.1.length < 20 := by show _ < 20; simp only [qTo]; rw [hL.1]; exact w2
            have hPT : P (qTo ((qAcc G V.1 e).getD V.1) V) := by
              cases hb : qAcc G V.1 e with
              | none => exact hPV
              | some Z => exact p4 V Z e ⟨B, hV⟩ hPV hb
            exact ih (put + 1) B _ V' (qOpen_ok (qToD_ok hV e) ht w1 hdl hp true) (p3 _ _ _ _ ⟨B, qToD_ok hV e⟩ w1 hdl ht hPT) h
          | none =>
            rw [hw] at h
            dsimp only at h
            by_cases c3 : qMay G V.1 = true
            · rw [if_pos c3] at h
              have hm := qMay_len c3
              exact ih put B _ V' (qShut_ok hV (by omega)) (p5 V ⟨B, hV⟩ (by omega) hPV) h
            · rw [if_neg c3] at h
              injection h with h; subst h
              exact p1 _ _ _ hPV
theorem qPlain_rng {s : Nat} {v : Int32} (hk : qKok (s, v)) : 32 ≤ qPlain s v ∧ qPlain s v < 127 := by
  unfold qPlain
  split
  · next c =>
    obtain ⟨n, h1, h2, h3⟩ := hk.2.2.1 c
    have h3 : v = qn n := h3
    rw [h3, qn_c (by omega)]
    omega
  · split <;> omega
theorem qRd_P (hP : qClosed G P) {t l p B : Nat} {V : qV} (htt : t ≤ 10) (hl : 32 ≤ l ∧ l < 127) (hp : p ≤ 600) (hV : qVok G B V) (h : P V) : P (qRd G t l p V) := qRead_P hP htt hl hp 100 0 B V _ hV h (qRd_is htt (by omega) hp hV).1
theorem qClose_P (hP : qClosed G P) {p : Nat} (to : Nat) (b : Bool) : ∀ n B V, qVok G B V → P V → P (qClose G p to b n V) := by
  intro n
  induction n with
  | zero => intro B V _ h; exact h
  | succ n ih =>
    intro B V hV h
    unfold qClose
    by_cases c : V.1.1.length ≤ to
    · rw [if_pos c]; exact h
    · rw [if_neg c]
      exact ih B _ (qEnd1_ok hV (by omega) _).1 (hP.2.2.2.2.2 _ _ _ ⟨B, hV⟩ (by omega) h)
theorem qShutTo_P (hP : qClosed G P) {p B : Nat} {V : qV} (to : Nat) (b : Bool) (hV : qVok G B V) (h : P V) : P (qShutTo G p to b V) := qClose_P hP to b _ B V hV h
theorem qErrs_P (hP : qClosed G P) (k p : Nat) : ∀ n V, P V → P (qErrs k p n V) := by
  intro n
  induction n with
  | zero => intro V h; exact h
  | succ n ih => intro V h; exact ih _ (hP.1 _ _ _ h)
theorem qTok_P (hP : qClosed G P) {ent : Nat → Nat → qV → qV} {i p s B : Nat} {v : Int32} {V : qV} (hA : ∀ e p B V, e < 6 → p ≤ 600 → qVok G B V → P V → P (ent e p V)) (hk : qKok (s, v)) (hp : p ≤ 600) (hV : qVok G B V) (h : P V) : P (qTok G ent ks i p s v V) := by
  have h8 := hk.1
  have hz := hV.1
  unfold qTok
  by_cases c0 : s = 0
  · obtain ⟨n, h1, h2⟩ := hk.2.1 (Or.inl c0)
    have h2 : v = qn n := h2
    rw [if_pos c0, h2, qn_c (by omega)]
    exact qRd_P hP (by omega) (by omega) hp hV h
  · rw [if_neg c0]
    by_cases c1 : s = 1
    · rw [if_pos c1]
      cases hq : qLast V.1.1 v.toNatClampNeg with
      | none => exact hP.1 _ _ _ h
      | some q => exact qShutTo_P hP q true hV h
    · rw [if_neg c1]
      by_cases c2 : s = 2
      · rw [if_pos c2]
        cases hq : V.1.2 with
        | none => exact hP.1 _ _ _ h
        | some e => exact qRd_P hP (by have := hz.2.2.1 e hq; omega) (by omega) hp hV h
      · rw [if_neg c2]
        by_cases c3 : s = 3
        · rw [if_pos c3]
          cases hq : V.1.1 with
          | nil => exact hP.1 _ _ _ h
          | cons x st => exact qShutTo_P hP st.length true hV h
        · rw [if_neg c3]
          by_cases c4 : s = 4
          · obtain ⟨n, h1, h2, h3⟩ := hk.2.2.1 c4
            have h3 : v = qn n := h3
            rw [if_pos c4, h3, qn_c (by omega)]
            exact qRd_P hP (by omega) (by omega) hp hV h
          · rw [if_neg c4]
            by_cases c5 : s = 5
            · rw [if_pos c5]
              split
              · exact h
              · exact qRd_P hP (by omega) (by omega) hp hV h
            · rw [if_neg c5]
              by_cases c6 : s = 6
              · obtain ⟨n, h1, h2⟩ := hk.2.2.2.1 c6
                have h2 : v = qn n := h2
                rw [if_pos c6, h2, qn_c (by omega)]
                exact hA n p B V h1 hp hV h
              · rw [if_neg c6]
                exact hP.1 _ _ _ h
theorem qStep_P (hP : qClosed G P) {sw : Nat → Nat} {ent : Nat → Nat → qV → qV} {i p C : Nat} {Q : qQ} (hA : ∀ e p B V, e < 6 → p ≤ 600 → qVok G B V → P V → P (ent e p V)) (hk : ∀ k ∈ ks, qKok k) (hp : p ≤ 600) (hQ : qQok G C i Q) (h : P Q.2.2.2) : P (qStep G sw ent ks i p Q).2.2.2 := by
  obtain ⟨⟨B, hV, hB⟩, -, -⟩ := hQ
  unfold qStep
  cases hg : ks[i]? with
  | none => exact h
  | some q =>
    obtain ⟨s, v⟩ := q
    have hkk := hk _ (List.mem_of_getElem? hg)
    dsimp only
    by_cases c1 : 0 < Q.2.1
    · rw [if_pos c1]
      have h9 : ∀ (R : Prop) [Decidable R], P (if R then qRd G 10 (qPlain s v) p Q.2.2.2 else Q.2.2.2) := by
        intro R _
        split
        · exact qRd_P hP (t := 10) (l := qPlain s v) (by omega) (qPlain_rng hkk) hp hV h
        · exact h
      exact h9 _
    · rw [if_neg c1]
      by_cases c7 : s = 7
      · rw [if_pos c7]
        split
        · exact h
        · exact h
      · rw [if_neg c7]
        split
        · exact h
        · exact qTok_P hP hA hkk hp hV h
theorem qLoop_P (hP : qClosed G P) {sw : Nat → Nat} {ent : Nat → Nat → qV → qV} {c : Nat} (hsw : ∀ j, j < 4 → sw j ≤ 2) (hc : 2 ≤ c) (hA0 : ∀ e p B V, e < 6 → p ≤ 600 → qVok G B V → qVok G (B + c) (ent e p V)) (hA : ∀ e p B V, e < 6 → p ≤ 600 → qVok G B V → P V → P (ent e p V)) (hk : ∀ k ∈ ks, qKok k) (h600 : ks.length ≤ 600) (pl : Option Nat) (hp : ∀ q, pl = some q → q ≤ 600) : ∀ n i C Q X, i + n = ks.length → qQok G C i Q → P Q.2.2.2 → P (qLoop G sw ent ks pl n i (Q, X)).1.2.2.2 := by
  intro n
  induction n with
  | zero => intro i C Q X _ _ h; exact h
  | succ n ih =>
    intro i C Q X hn hQ h
    have hpp : pl.getD i ≤ 600 := by
      cases pl with
      | none => simp; omega
      | some q => exact hp q rfl
    exact ih (i + 1) (C + c) _ _ (by omega) (qStep_ok hsw hc hA0 hk hpp hQ) (qStep_P hP hA hk hpp hQ h)
theorem qRow_P (hP : qClosed G P) {sw : Nat → Nat} {ent : Nat → Nat → qV → qV} {c C : Nat} (hsw : ∀ j, j < 4 → sw j ≤ 2) (hc : 2 ≤ c) (hA0 : ∀ e p B V, e < 6 → p ≤ 600 → qVok G B V → qVok G (B + c) (ent e p V)) (hA : ∀ e p B V, e < 6 → p ≤ 600 → qVok G B V → P V → P (ent e p V)) (hk : ∀ k ∈ ks, qKok k) (h600 : ks.length ≤ 600) (pl : Option Nat) (hp : ∀ q, pl = some q → q ≤ 600) {V : qV} (X : List (qZ × Nat)) (hV : qVok G C V) (h : P V) : P (qRow G sw ent ks pl V X).1 := qErrs_P hP _ _ _ _ (qLoop_P hP hsw hc hA0 hA hk h600 pl hp ks.length 0 C (0, 0, 1, V) X (by omega) ⟨⟨C, hV, by dsimp only; omega⟩, by dsimp only; omega, by dsimp only; omega⟩ h)
theorem qGo_P (hP : qClosed G P) {sw : Nat → Nat} {en : Nat → List qK} (hE : qEok sw en) (hk : ∀ k ∈ ks, qKok k) (h600 : ks.length ≤ 600) (h : P qV0) : P (qGo G sw en ks).1 := by
  have h2 : ∀ e p B V, e < 6 → p ≤ 600 → qVok G B V → P V → P (qEnt2 e p V) := fun e p B V _ _ _ h => hP.1 _ _ _ h
  have h1 : ∀ e0 e p B V, e < 6 → p ≤ 600 → qVok G B V → P V → P (qEnt1 G sw en e0 e p V) := by
    intro e0 e p B V he hp hV h
    unfold qEnt1
    split
    · exact hP.1 _ _ _ h
    · obtain ⟨k1, k2⟩ := hE.1 e he
      exact qRow_P hP hE.2 (by omega) qEnt2_ok h2 k2 (by omega) (some p) (fun q h => by injection h; omega) [] hV h
  have h0 : ∀ e p B V, e < 6 → p ≤ 600 → qVok G B V → P V → P (qEnt0 G sw en e p V) := by
    intro e p B V he hp hV h
    obtain ⟨k1, k2⟩ := hE.1 e he
    exact qRow_P hP hE.2 (by omega) (qEnt1_ok hE e) (h1 e) k2 (by omega) (some p) (fun q h => by injection h; omega) [] hV h
  exact qRow_P (C := 0) hP hE.2 (by omega) (qEnt0_ok hE) h0 hk h600 none (fun q h => by cases h) _ qV0_ok h
end
/-- what is open behind so many things (the newest first): number, kind -/
def qPop (p : Option Nat) : List (Nat × Nat) → List (Nat × Nat)
  | [] => []
  | x :: l => if some x.1 = p then x :: l else qPop p l
def qEnds (p : Option Nat) : List (Nat × Nat) → List qK → List qK
  | [], F => F
  | x :: l, F => if some x.1 = p then F else qEnds p l ((1, qn x.2) :: F)
def qW (G : qG) : List qT → List (Nat × Nat)
  | [] => []
  | t :: l => if t.1 < 10 ∧ ¬ qgN G t.1 = 0 then (l.length, t.1) :: qPop t.2.1 (qW G l) else qPop t.2.1 (qW G l)
/-- the tokens, the newest first -/
def qF (G : qG) : List qT → List qK
  | [] => []
  | t :: l => (if t.1 = 10 then (4, qn t.2.2.1) else (0, qn t.1)) :: qEnds t.2.1 (qW G l) (qF G l)
def qForm (G : qG) (th : List qT) : List qK := (qEnds none (qW G th) (qF G th)).reverse
theorem qPop_len (p : Option Nat) : ∀ W : List (Nat × Nat), (qPop p W).length ≤ W.length := by
  intro W
  induction W with
  | nil => exact Nat.le_refl _
  | cons x l ih => unfold qPop; split <;> simp <;> omega
theorem qEnds_len (p : Option Nat) : ∀ (W : List (Nat × Nat)) (F : List qK), (qEnds p W F).length + (qPop p W).length = F.length + W.length := by
  intro W
  induction W with
  | nil => intro F; rfl
  | cons x l ih =>
    intro F
    unfold qEnds qPop
    split
    · rfl
    · rw [ih]; simp; omega
theorem qF_len (G : qG) : ∀ th : List qT, (qF G th).length + (qW G th).length ≤ 2 * th.length := by
  intro th
  induction th with
  | nil => exact Nat.le_refl _
  | cons t l ih =>
    have h := qEnds_len t.2.1 (qW G l) (qF G l)
    simp only [qF, qW, List.length_cons]
    split <;> (try simp only [List.length_cons]) <;> omega
theorem qPop_mem (p : Option Nat) : ∀ {W : List (Nat × Nat)} {x : Nat × Nat}, x ∈ qPop p W → x ∈ W := by
  intro W
  induction W with
  | nil => intro x h; exact h
  | cons y l ih =>
    intro x h
    unfold qPop at h
    split at h
    · exact h
    · exact List.mem_cons_of_mem _ (ih h)
/-- what is open are things of the tree -/
theorem qW_mem (G : qG) : ∀ (th : List qT) (x : Nat × Nat), x ∈ qW G th → x.1 < th.length ∧ x.2 < 10 ∧ ∃ t, th.reverse[x.1]? = some t ∧ t.1 = x.2 := by
  intro th
  induction th with
  | nil => intro x h; cases h
  | cons t l ih =>
    intro x h
    have hup : x ∈ qPop t.2.1 (qW G l) → x.1 < (t :: l).length ∧ x.2 < 10 ∧ ∃ t', (t :: l).reverse[x.1]? = some t' ∧ t'.1 = x.2 := by
      intro h
      obtain ⟨h1, h2, t', h3, h4⟩ := ih x (qPop_mem _ h)
      refine ⟨by simp; omega, h2, t', ?_, h4⟩
      rw [List.reverse_cons, List.getElem?_append_left (by simpa using h1)]
      exact h3
    unfold qW at h
    split at h
    · next c =>
      rcases List.mem_cons.mp h with e | h
      · subst e
        refine ⟨by simp, c.1, t, ?_, rfl⟩
        rw [List.reverse_cons, List.getElem?_append_right (by simp)]
        simp
      · exact hup h
    · exact hup h
def qWF (G : qG) : List qT → Prop
  | [] => True
  | t :: l => qWF G l ∧ t.2.1 = (qPop t.2.1 (qW G l)).head?.map (fun x => x.1) ∧ (qW G (t :: l)).length ≤ 20
/-- numbers of open things fall -/
theorem qW_dec (G : qG) : ∀ th : List qT, (qW G th).Pairwise fun x y => y.1 < x.1 := by
  have hpop : ∀ (p : Option Nat) (W : List (Nat × Nat)), (W.Pairwise fun x y => y.1 < x.1) → (qPop p W).Pairwise fun x y => y.1 < x.1 := by
    intro p W
    induction W with
    | nil => intro h; exact h
    | cons y l ih =>
      intro h
      unfold qPop
      split
      · exact h
      · exact ih (List.pairwise_cons.mp h).2
  intro th
  induction th with
  | nil => exact List.Pairwise.nil
  | cons t l ih =>
    unfold qW
    split
    · refine List.pairwise_cons.mpr ⟨fun y hy => (qW_mem G l y (qPop_mem _ hy)).1, hpop _ _ ih⟩
    · exact hpop _ _ ih
