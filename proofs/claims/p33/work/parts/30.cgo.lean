/-! THE CLASS: rows of tokens are gone through -/
theorem qn_dd {a : Nat} (h : 1 ≤ a) : qn a + qm = qn (a - 1) := by
  obtain ⟨b, rfl⟩ : ∃ b, a = b + 1 := ⟨a - 1, by omega⟩
  rw [qn_d]; rfl
theorem qLast_lt : ∀ (st : List (Nat × Nat)) (e q : Nat), qLast st e = some q → q < st.length := by
  intro st
  induction st with
  | nil => intro e q h; cases h
  | cons x st ih =>
    intro e q h
    unfold qLast at h
    split at h
    · injection h with h; subst h; simp
    · have := ih e q h; simp; omega
section
variable {G : qG} {B : Nat} {V : qV} {p : Nat} {ks : List qK}
theorem qTok_ok {ent : Nat → Nat → qV → qV} {c i s : Nat} {v : Int32} (hA : ∀ e p B V, e < 6 → p ≤ 600 → qVok G B V → qVok G (B + c) (ent e p V)) (hk : qKok (s, v)) (hp : p ≤ 600) (hV : qVok G B V) : qVok G (B + if s = 6 then c else 1) (qTok G ent ks i p s v V) := by
  have h8 := hk.1
  have hz := hV.1
  unfold qTok
  by_cases c0 : s = 0
  · obtain ⟨n, h1, h2⟩ := hk.2.1 (Or.inl c0)
    have h2 : v = qn n := h2
    rw [if_pos c0, if_neg (by omega), h2, qn_c (by omega)]
    exact (qRd_is (by omega) (by omega) hp hV).2
  · rw [if_neg c0]
    by_cases c1 : s = 1
    · rw [if_pos c1, if_neg (by omega)]
      cases hq : qLast V.1.1 v.toNatClampNeg with
      | none => exact qErr_ok hV 1
      | some q => exact qVok_B (qShutTo_ok q true hV).1 (by omega)
    · rw [if_neg c1]
      by_cases c2 : s = 2
      · rw [if_pos c2, if_neg (by omega)]
        cases hq : V.1.2 with
        | none => exact qErr_ok hV 1
        | some e => exact (qRd_is (by have := hz.2.2.1 e hq; omega) (by omega) hp hV).2
      · rw [if_neg c2]
        by_cases c3 : s = 3
        · rw [if_pos c3, if_neg (by omega)]
          cases hq : V.1.1 with
          | nil => exact qErr_ok hV 1
          | cons x st => exact qVok_B (qShutTo_ok st.length true hV).1 (by omega)
        · rw [if_neg c3]
          by_cases c4 : s = 4
          · obtain ⟨n, h1, h2, h3⟩ := hk.2.2.1 c4
            have h3 : v = qn n := h3
            rw [if_pos c4, if_neg (by omega), h3, qn_c (by omega)]
            exact (qRd_is (by omega) (by omega) hp hV).2
          · rw [if_neg c4]
            by_cases c5 : s = 5
            · rw [if_pos c5, if_neg (by omega)]
              split
              · exact qVok_B hV (by omega)
              · exact (qRd_is (by omega) (by omega) hp hV).2
            · rw [if_neg c5]
              by_cases c6 : s = 6
              · obtain ⟨n, h1, h2⟩ := hk.2.2.2.1 c6
                have h2 : v = qn n := h2
                rw [if_pos c6, if_pos c6, h2, qn_c (by omega)]
                exact hA n p B V h1 hp hV
              · rw [if_neg c6, if_neg c6]
                exact qErr_ok hV 5
/-- C errors may have come about by now, those of open MARKs counted in -/
def qQok (G : qG) (C i : Nat) (Q : qQ) : Prop := (∃ B, qVok G B Q.2.2.2 ∧ B + Q.1 + Q.2.1 ≤ C) ∧ Q.1 + Q.2.1 ≤ i ∧ Q.2.2.1 ≤ 2
theorem qStep_ok {sw : Nat → Nat} {ent : Nat → Nat → qV → qV} {c C i : Nat} {Q : qQ} (hsw : ∀ j, j < 4 → sw j ≤ 2) (hc : 2 ≤ c) (hA : ∀ e p B V, e < 6 → p ≤ 600 → qVok G B V → qVok G (B + c) (ent e p V)) (hk : ∀ k ∈ ks, qKok k) (hp : p ≤ 600) (hQ : qQok G C i Q) : qQok G (C + c) (i + 1) (qStep G sw ent ks i p Q) := by
  obtain ⟨⟨B, hV, hB⟩, hi, hcov⟩ := hQ
  unfold qStep
  cases hg : ks[i]? with
  | none => exact ⟨⟨B, hV, by dsimp only; omega⟩, by dsimp only; omega, hcov⟩
  | some q =>
    obtain ⟨s, v⟩ := q
    have hkk := hk _ (List.mem_of_getElem? hg)
    have h8 := hkk.1
    dsimp only
    by_cases c1 : 0 < Q.2.1
    · rw [if_pos c1]
      refine ⟨⟨B + 1, ?_, ?_⟩, ?_, hcov⟩
      · have h9 : ∀ (P : Prop) [Decidable P], qVok G (B + 1) (if P then qRd G 10 (qPlain s v) p Q.2.2.2 else Q.2.2.2) := by
          intro P _
          split
          · exact (qRd_is (t := 10) (l := qPlain s v) (by omega) (cPlain hkk (qM0 0)).2 hp hV).2
          · exact qVok_B hV (by omega)
        exact h9 _
      · dsimp only; split
        · omega
        · split <;> omega
      · dsimp only; split
        · omega
        · split <;> omega
    · rw [if_neg c1]
      by_cases c7 : s = 7
      · obtain ⟨n, h1, h2⟩ := hkk.2.2.2.2 c7
        have h2 : v = qn n := h2
        rw [if_pos c7]
        have := hsw n h1
        rw [h2, qn_c (by omega)]
        split
        · exact ⟨⟨B, hV, by dsimp only; omega⟩, by dsimp only; omega, by dsimp only; omega⟩
        · exact ⟨⟨B, hV, by dsimp only; omega⟩, by dsimp only; omega, by dsimp only; omega⟩
      · rw [if_neg c7]
        split
        · exact ⟨⟨B, hV, by dsimp only; omega⟩, by dsimp only; omega, hcov⟩
        · have ht := qTok_ok (ks := ks) (i := i) hA hkk hp hV
          refine ⟨⟨B + c, qVok_B ht ?_, ?_⟩, by dsimp only; omega, hcov⟩
          · split <;> omega
          · dsimp only; omega
def qXok (G : qG) (X : List (qZ × Nat)) : Prop := ∀ x ∈ X, qZok G x.1 ∧ x.2 ≤ 600
theorem qLoop_ok {sw : Nat → Nat} {ent : Nat → Nat → qV → qV} {c : Nat} (hsw : ∀ j, j < 4 → sw j ≤ 2) (hc : 2 ≤ c) (hA : ∀ e p B V, e < 6 → p ≤ 600 → qVok G B V → qVok G (B + c) (ent e p V)) (hk : ∀ k ∈ ks, qKok k) (h600 : ks.length ≤ 600) (pl : Option Nat) (hp : ∀ q, pl = some q → q ≤ 600) : ∀ n i C Q X, i + n = ks.length → qQok G C i Q → qXok G X → qQok G (C + c * n) (i + n) (qLoop G sw ent ks pl n i (Q, X)).1 ∧ qXok G (qLoop G sw ent ks pl n i (Q, X)).2 ∧ (qLoop G sw ent ks pl n i (Q, X)).2.length = X.length + (if pl = none then n else 0) := by
  intro n
  induction n with
  | zero => intro i C Q X hn hQ hX; exact ⟨hQ, hX, by simp [qLoop]⟩
  | succ n ih =>
    intro i C Q X hn hQ hX
    have hpp : pl.getD i ≤ 600 := by
      cases pl with
      | none => simp; omega
      | some q => exact hp q rfl
    have hs := qStep_ok hsw hc hA hk hpp hQ
    obtain ⟨B, hV, hB⟩ := hs.1
    have hX2 : qXok G (if pl = none then ((qStep G sw ent ks i (pl.getD i) Q).2.2.2.1, (qStep G sw ent ks i (pl.getD i) Q).1 + (qStep G sw ent ks i (pl.getD i) Q).2.1) :: X else X) := by
      split
      · intro x hx
        rcases List.mem_cons.mp hx with e | hx
        · subst e; exact ⟨hV.1, by have := hs.2.1; dsimp only; omega⟩
        · exact hX x hx
      · exact hX
    obtain ⟨k1, k2, k3⟩ := ih (i + 1) (C + c) _ _ (by omega) hs hX2
    unfold qLoop
    refine ⟨?_, k2, ?_⟩
    · rw [show C + c * (n + 1) = C + c + c * n by rw [Nat.mul_succ]; omega, show i + (n + 1) = i + 1 + n by omega]
      exact k1
    · dsimp only at k3 ⊢
      rw [k3]
      split <;> simp <;> omega
theorem qRow_ok {sw : Nat → Nat} {ent : Nat → Nat → qV → qV} {c C : Nat} (hsw : ∀ j, j < 4 → sw j ≤ 2) (hc : 2 ≤ c) (hA : ∀ e p B V, e < 6 → p ≤ 600 → qVok G B V → qVok G (B + c) (ent e p V)) (hk : ∀ k ∈ ks, qKok k) (h600 : ks.length ≤ 600) (pl : Option Nat) (hp : ∀ q, pl = some q → q ≤ 600) {X : List (qZ × Nat)} (hV : qVok G C V) (hX : qXok G X) : qVok G (C + c * ks.length) (qRow G sw ent ks pl V X).1 ∧ qXok G (qRow G sw ent ks pl V X).2 ∧ (qRow G sw ent ks pl V X).2.length = X.length + (if pl = none then ks.length else 0) := by
  obtain ⟨⟨⟨B, k1, k2⟩, -, -⟩, k3, k4⟩ := qLoop_ok hsw hc hA hk h600 pl hp ks.length 0 C (0, 0, 1, V) X (by omega) ⟨⟨C, hV, by dsimp only; omega⟩, by dsimp only; omega, by dsimp only; omega⟩ hX
  unfold qRow
  exact ⟨qVok_B (qErrs_ok 5 _ _ _ k1) (by omega), k3, k4⟩
def qEok (sw : Nat → Nat) (en : Nat → List qK) : Prop := (∀ i, i < 6 → (en i).length ≤ 6 ∧ ∀ k ∈ en i, qKok k) ∧ ∀ i, i < 4 → sw i ≤ 2
theorem qEnt2_ok : ∀ e p B V, e < 6 → p ≤ 600 → qVok G B V → qVok G (B + 2) (qEnt2 e p V) := fun _ _ _ _ _ _ h => qVok_B (qErr_ok h 4) (by omega)
theorem qEnt1_ok {sw : Nat → Nat} {en : Nat → List qK} (hE : qEok sw en) (e0 : Nat) : ∀ e p B V, e < 6 → p ≤ 600 → qVok G B V → qVok G (B + 12) (qEnt1 G sw en e0 e p V) := by
  intro e p B V he hp hV
  unfold qEnt1
  split
  · exact qVok_B (qErr_ok hV 4) (by omega)
  · obtain ⟨h1, h2⟩ := hE.1 e he
    exact qVok_B (qRow_ok hE.2 (by omega) qEnt2_ok h2 (by omega) (some p) (fun q h => by injection h; omega) hV (fun x h => by cases h)).1 (by omega)
theorem qEnt0_ok {sw : Nat → Nat} {en : Nat → List qK} (hE : qEok sw en) : ∀ e p B V, e < 6 → p ≤ 600 → qVok G B V → qVok G (B + 72) (qEnt0 G sw en e p V) := by
  intro e p B V he hp hV
  unfold qEnt0
  obtain ⟨h1, h2⟩ := hE.1 e he
  exact qVok_B (qRow_ok hE.2 (by omega) (qEnt1_ok hE e) h2 (by omega) (some p) (fun q h => by injection h; omega) hV (fun x h => by cases h)).1 (by omega)
theorem qV0_ok : qVok G 0 qV0 := ⟨qZ0_ok, rfl, by simp [qV0], fun _ => rfl, by simp [qV0], by simp [qV0], by simp [qV0, qZ0], by simp [qV0], by simp [qV0, qZ0]⟩
theorem qGo_ok {sw : Nat → Nat} {en : Nat → List qK} (hE : qEok sw en) (hk : ∀ k ∈ ks, qKok k) (h60 : ks.length ≤ 600) : qVok G (72 * ks.length) (qGo G sw en ks).1 ∧ qXok G (qGo G sw en ks).2 ∧ (qGo G sw en ks).2.length = ks.length + 1 := by
  have h := qRow_ok (C := 0) hE.2 (by omega) (qEnt0_ok (G := G) hE) hk (by omega) none (fun q h => by cases h) (X := [(qZ0, 0)]) qV0_ok (fun x hx => by rw [List.mem_singleton.mp hx]; exact ⟨qZ0_ok, by omega⟩)
  unfold qGo
  refine ⟨qVok_B h.1 (by omega), h.2.1, ?_⟩
  rw [h.2.2]; simp; omega
end
