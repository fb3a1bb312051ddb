/-! THE VALUE: places and kinds of errors -/
def qPE (V : qV) : Prop := ∀ e ∈ V.2.2.2.2.2, e.1 ≤ 6 ∧ e.2 ≤ 60
section
variable {G : qG} {V : qV}
theorem qPE_err {k p : Nat} (hk : k ≤ 6) (hp : p ≤ 60) (h : qPE V) : qPE (qErr k p V) := by
  intro e he
  rcases List.mem_cons.mp he with c | he
  · rw [c]; exact ⟨hk, hp⟩
  · exact h e he
theorem qPE_end1 {p : Nat} (hp : p ≤ 60) (b : Bool) (h : qPE V) : qPE (qEnd1 G p b V) := by
  have h1 : qPE (if qCan G V.1 = true then V else qErr 2 p V) := by
    split
    · exact h
    · exact qPE_err (by omega) hp h
  have h2 : qPE (if b = true then (if qgB G ((V.1.1.head?).getD (0, 0)).1 = true then (if qCan G V.1 = true then V else qErr 2 p V) else qErr 3 p (if qCan G V.1 = true then V else qErr 2 p V)) else (if qCan G V.1 = true then V else qErr 2 p V)) := by
    split
    · split
      · exact h1
      · exact qPE_err (by omega) hp h1
    · exact h1
  exact h2
end
section
variable {G : qG} {ks : List qK}
theorem qRead_E {t l p : Nat} (hp : p ≤ 60) : ∀ n put V V', qPE V → qRead G t l p n put V = some V' → qPE V' := by
  intro n
  induction n with
  | zero => intro put V V' _ h; cases h
  | succ n ih =>
    intro put V V' hPV h
    unfold qRead at h
    by_cases c1 : 300 ≤ V.2.2.1.length ∨ t < 10 ∧ 20 ≤ V.1.1.length
    · rw [if_pos c1] at h
      injection h with h; subst h
      exact qPE_err (by omega) hp hPV
    · rw [if_neg c1] at h
      cases ha : qAcc G V.1 t with
      | some Z =>
        rw [ha] at h
        dsimp only at h
        injection h with h; subst h
        split
        · exact hPV
        · exact hPV
      | none =>
        rw [ha] at h
        dsimp only at h
        by_cases c2 : V.1.2 = none ∧ qgA G 0 = true
        · rw [if_pos c2] at h
          exact ih put (qOpen G 0 p true V) V' hPV h
        · rw [if_neg c2] at h
          cases hw : (if put < 8 then qWant G V.1 else none) with
          | some e =>
            rw [hw] at h
            dsimp only at h
            exact ih (put + 1) (qOpen G e p true (qTo ((qAcc G V.1 e).getD V.1) V)) V' hPV h
          | none =>
            rw [hw] at h
            dsimp only at h
            by_cases c3 : qMay G V.1 = true
            · rw [if_pos c3] at h
              exact ih put (qShut V) V' hPV h
            · rw [if_neg c3] at h
              injection h with h; subst h
              exact qPE_err (by omega) hp hPV
theorem qRd_E {t l p : Nat} {V : qV} (hp : p ≤ 60) (h : qPE V) : qPE (qRd G t l p V) := by
  unfold qRd
  cases hr : qRead G t l p 100 0 V with
  | none => exact h
  | some V' => exact qRead_E hp 100 0 V V' h hr
theorem qClose_E {p : Nat} (hp : p ≤ 60) (to : Nat) (b : Bool) : ∀ n V, qPE V → qPE (qClose G p to b n V) := by
  intro n
  induction n with
  | zero => intro V h; exact h
  | succ n ih =>
    intro V h
    unfold qClose
    split
    · exact h
    · exact ih _ (qPE_end1 hp _ h)
theorem qShutTo_E {p : Nat} (hp : p ≤ 60) {V : qV} (to : Nat) (b : Bool) (h : qPE V) : qPE (qShutTo G p to b V) := qClose_E hp to b _ V h
theorem qErrs_E {k p : Nat} (hk : k ≤ 6) (hp : p ≤ 60) : ∀ n V, qPE V → qPE (qErrs k p n V) := by
  intro n
  induction n with
  | zero => intro V h; exact h
  | succ n ih => intro V h; exact ih _ (qPE_err hk hp h)
theorem qTok_E {ent : Nat → Nat → qV → qV} {i p s : Nat} {v : Int32} {V : qV} (hA : ∀ e p V, e < 6 → p ≤ 60 → qPE V → qPE (ent e p V)) (hk : qKok (s, v)) (hp : p ≤ 60) (h : qPE V) : qPE (qTok G ent ks i p s v V) := by
  unfold qTok
  split
  · exact qRd_E hp h
  · split
    · split
      · exact qPE_err (by omega) hp h
      · exact qShutTo_E hp _ true h
    · split
      · split
        · exact qPE_err (by omega) hp h
        · exact qRd_E hp h
      · split
        · split
          · exact qPE_err (by omega) hp h
          · exact qShutTo_E hp _ true h
        · split
          · exact qRd_E hp h
          · split
            · split
              · exact h
              · exact qRd_E hp h
            · split
              · next c6 =>
                obtain ⟨n, h1, h2⟩ := hk.2.2.2.1 c6
                have h2 : v = qn n := h2
                rw [h2, qn_c (by omega)]
                exact hA n p V h1 hp h
              · exact qPE_err (by omega) hp h
theorem qStep_E {sw : Nat → Nat} {ent : Nat → Nat → qV → qV} {i p : Nat} {Q : qQ} (hA : ∀ e p V, e < 6 → p ≤ 60 → qPE V → qPE (ent e p V)) (hk : ∀ k ∈ ks, qKok k) (hp : p ≤ 60) (h : qPE Q.2.2.2) : qPE (qStep G sw ent ks i p Q).2.2.2 := by
  unfold qStep
  cases hg : ks[i]? with
  | none => exact h
  | some q =>
    obtain ⟨s, v⟩ := q
    have hkk := hk _ (List.mem_of_getElem? hg)
    dsimp only
    by_cases c1 : 0 < Q.2.1
    · rw [if_pos c1]
      have h9 : ∀ (R : Prop) [Decidable R], qPE (if R then qRd G 10 (qPlain s v) p Q.2.2.2 else Q.2.2.2) := by
        intro R _
        split
        · exact qRd_E hp h
        · exact h
      exact h9 _
    · rw [if_neg c1]
      by_cases c7 : s = 7
      · rw [if_pos c7]
        split
        · exact h
        · exact h
      · rw [if_neg c7]
        split
        · exact h
        · exact qTok_E hA hkk hp h
theorem qLoop_E {sw : Nat → Nat} {ent : Nat → Nat → qV → qV} (hA : ∀ e p V, e < 6 → p ≤ 60 → qPE V → qPE (ent e p V)) (hk : ∀ k ∈ ks, qKok k) (pl : Option Nat) (hp : ∀ q, pl = some q → q ≤ 60) : ∀ n i Q X, i + n ≤ 60 → qPE Q.2.2.2 → qPE (qLoop G sw ent ks pl n i (Q, X)).1.2.2.2 := by
  intro n
  induction n with
  | zero => intro i Q X _ h; exact h
  | succ n ih =>
    intro i Q X hn h
    have hpp : pl.getD i ≤ 60 := by
      cases pl with
      | none => simp; omega
      | some q => exact hp q rfl
    exact ih (i + 1) _ _ (by omega) (qStep_E hA hk hpp h)
theorem qRow_E {sw : Nat → Nat} {ent : Nat → Nat → qV → qV} (hA : ∀ e p V, e < 6 → p ≤ 60 → qPE V → qPE (ent e p V)) (hk : ∀ k ∈ ks, qKok k) (h60 : ks.length ≤ 60) (pl : Option Nat) (hp : ∀ q, pl = some q → q ≤ 60) {V : qV} (X : List (qZ × Nat)) (h : qPE V) : qPE (qRow G sw ent ks pl V X).1 := qErrs_E (by omega) (by
  cases pl with
  | none => simp; omega
  | some q => exact hp q rfl) _ _ (qLoop_E hA hk pl hp ks.length 0 (0, 0, 1, V) X (by omega) h)
theorem qGo_E {sw : Nat → Nat} {en : Nat → List qK} (hE : qEok sw en) (hk : ∀ k ∈ ks, qKok k) (h60 : ks.length ≤ 60) : qPE (qGo G sw en ks).1 := by
  have h2 : ∀ e p V, e < 6 → p ≤ 60 → qPE V → qPE (qEnt2 e p V) := fun e p V _ hp h => qPE_err (by omega) hp h
  have h1 : ∀ e0 e p V, e < 6 → p ≤ 60 → qPE V → qPE (qEnt1 G sw en e0 e p V) := by
    intro e0 e p V he hp h
    unfold qEnt1
    split
    · exact qPE_err (by omega) hp h
    · obtain ⟨k1, k2⟩ := hE.1 e he
      exact qRow_E h2 k2 (by omega) (some p) (fun q h => by injection h; omega) [] h
  have h0 : ∀ e p V, e < 6 → p ≤ 60 → qPE V → qPE (qEnt0 G sw en e p V) := by
    intro e p V he hp h
    obtain ⟨k1, k2⟩ := hE.1 e he
    exact qRow_E (h1 e) k2 (by omega) (some p) (fun q h => by injection h; omega) [] h
  exact qRow_E h0 hk h60 none (fun q h => by cases h) _ (fun e he => by cases he)
theorem qFA_E {A : qA} (hA : qAok A) : qPE (qFA A).1 := by
  obtain ⟨hg, hE, hn, hk⟩ := hA
  exact qShutTo_E hn 0 false (qGo_E hE hk hn)
theorem qF_ge (G : qG) : ∀ th : List qT, th.length ≤ (qF G th).length := by
  have hE : ∀ (p : Option Nat) (W : List (Nat × Nat)) (F : List qK), F.length ≤ (qEnds p W F).length := by
    intro p W
    induction W with
    | nil => intro F; exact Nat.le_refl _
    | cons x l ih =>
      intro F
      unfold qEnds
      split
      · exact Nat.le_refl _
      · have := ih ((1, qn x.2) :: F)
        simp only [List.length_cons] at this
        omega
  intro th
  induction th with
  | nil => exact Nat.le_refl _
  | cons t l ih =>
    have := hE t.2.1 (qW G l) (qF G l)
    simp only [qF, List.length_cons]
    omega
theorem qForm_len (G : qG) (th : List qT) : th.length ≤ (qForm G th).length ∧ (qForm G th).length ≤ 2 * th.length := by
  unfold qForm
  rw [List.length_reverse]
  have h1 := qEnds_len none (qW G th) (qF G th)
  have h2 := qF_len G th
  have h3 := qF_ge G th
  have h4 := qPop_len none (qW G th)
  omega
end
