/-! THE VALUE: a reading stays within its bounds, and a thing is read within 100 rounds -/
section
variable {G : qG} {B : Nat} {V : qV} {p : Nat}
theorem qErr_ok (h : qVok G B V) (k : Nat) : qVok G (B + 1) (qErr k p V) := by
  obtain ⟨h1, h2, h3, h4, h5, h6, h7, h8, h9⟩ := h
  refine ⟨h1, h2, h3, h4, h5, h6, h7, h8, ?_⟩
  simp only [qErr, List.length_cons]
  omega
theorem qVok_B {B' : Nat} (h : qVok G B V) (hB : B ≤ B') : qVok G B' V := by
  obtain ⟨h1, h2, h3, h4, h5, h6, h7, h8, h9⟩ := h
  exact ⟨h1, h2, h3, h4, h5, h6, h7, h8, by omega⟩
theorem qHead_ok (h : qVok G B V) : ∀ q, V.2.1.head? = some q → q < 300 := by
  obtain ⟨h1, h2, h3, h4, h5, h6, h7, h8, h9⟩ := h
  intro q hq
  have := h6 q (List.mem_of_head? hq)
  omega
theorem qPut_ok (h : qVok G B V) (hla : ¬ V.1.2 = none) (ht : V.2.2.1.length < 300) {l : Nat} (hl : l < 128) (hp : p ≤ 600) (b : Bool) : qVok G B (qPut 10 l p b V) := by
  have hh := qHead_ok h
  obtain ⟨h1, h2, h3, h4, h5, h6, h7, h8, h9⟩ := h
  refine ⟨h1, h2, ?_, fun e => absurd e hla, ?_, ?_, ?_, ?_, ?_⟩
  · simp only [qPut, List.length_cons]; omega
  · intro t hm
    rcases List.mem_cons.mp hm with e | hm
    · subst e; exact ⟨Nat.le_refl _, hh, hl, hp⟩
    · exact h5 t hm
  · intro x hx; have := h6 x hx; simp only [qPut, List.length_cons]; omega
  · simp only [qPut, List.length_cons]; omega
  · simp only [qPut, List.length_cons]; omega
  · simp only [qPut, List.length_cons]; omega
theorem qOpen_ok (h : qVok G B V) (ht : V.2.2.1.length < 300) {e : Nat} (he : e < 10) (hd : V.1.1.length < 20) (hp : p ≤ 600) (b : Bool) : qVok G B (qOpen G e p b V) := by
  have hh := qHead_ok h
  obtain ⟨h1, h2, h3, h4, h5, h6, h7, h8, h9⟩ := h
  refine ⟨qEnter_ok h1 he hd, ?_, ?_, fun e => by simp [qOpen, qEnter] at e, ?_, ?_, ?_, ?_, ?_⟩
  · simp only [qOpen, qEnter]
    split
    · exact h2
    · simp [h2]
  · simp only [qOpen, List.length_cons]; omega
  · intro t hm
    rcases List.mem_cons.mp hm with e1 | hm
    · subst e1; exact ⟨by dsimp only; omega, hh, by dsimp only; omega, hp⟩
    · exact h5 t hm
  · intro x hx
    simp only [qOpen, List.length_cons] at hx ⊢
    split at hx
    · have := h6 x hx; omega
    · rcases List.mem_cons.mp hx with e1 | hx
      · omega
      · have := h6 x hx; omega
  · simp only [qOpen, qEnter, List.length_cons]
    split <;> (try simp only [List.length_cons]) <;> omega
  · simp only [qOpen, List.length_cons]
    split <;> omega
  · simp only [qOpen, qEnter, List.length_cons]
    split <;> (try simp only [List.length_cons]) <;> omega
theorem qShut_ok (h : qVok G B V) (hd : 0 < V.1.1.length) : qVok G B (qShut V) := by
  obtain ⟨h1, h2, h3, h4, h5, h6, h7, h8, h9⟩ := h
  refine ⟨qTail_ok h1, ?_, h3, h4, h5, fun x hx => h6 x (List.mem_of_mem_tail hx), ?_, h8, ?_⟩
  · simp only [qShut, List.length_tail]; omega
  · simp only [qShut, List.length_tail]; omega
  · simp only [qShut, List.length_tail]; omega
theorem qTo_ok (h : qVok G B V) {t : Nat} {Z : qZ} (ha : qAcc G V.1 t = some Z) : qVok G B (qTo Z V) := by
  obtain ⟨h1, h2, h3, h4, h5, h6, h7, h8, h9⟩ := h
  obtain ⟨k1, k2, k3⟩ := qAcc_ok h1 ha
  refine ⟨k1, ?_, h3, ?_, h5, h6, ?_, h8, ?_⟩
  · simp only [qTo]; omega
  · simp only [qTo]; rw [k3]; exact h4
  · simp only [qTo]; omega
  · simp only [qTo]; omega
theorem qToD_ok (h : qVok G B V) (t : Nat) : qVok G B (qTo ((qAcc G V.1 t).getD V.1) V) := by
  cases ha : qAcc G V.1 t with
  | none => exact h
  | some Z => exact qTo_ok h ha
theorem qToD_len (h : qVok G B V) (t : Nat) : ((qAcc G V.1 t).getD V.1).1.length = V.1.1.length ∧ ((qAcc G V.1 t).getD V.1).2 = V.1.2 := by
  cases ha : qAcc G V.1 t with
  | none => exact ⟨rfl, rfl⟩
  | some Z => exact (qAcc_ok h.1 ha).2
theorem qOnly_lt {s : Int32} {k : Nat} (h : qOnly s = some k) : k < 10 := by
  have := List.mem_of_find?_eq_some h
  simpa using this
theorem qWant_some {Z : qZ} {e : Nat} (h : qWant G Z = some e) : e < 10 ∧ Z.1.length < 20 ∧ ¬ qgN G e = 0 := by
  unfold qWant at h
  cases ho : qOnly (qGoes G Z) with
  | none => rw [ho] at h; cases h
  | some k =>
    rw [ho] at h
    dsimp only at h
    split at h
    · cases h
    · next c =>
      injection h with h
      subst h
      refine ⟨qOnly_lt ho, ?_, fun e => c (by simp [e])⟩
      rcases Nat.lt_or_ge Z.1.length 20 with h1 | h1
      · exact h1
      · exact absurd (Or.inr (Or.inl h1)) c
theorem qAcc_la {Z Z' : qZ} {t : Nat} (h : qAcc G Z t = some Z') (ht : ¬ t = 0) : ¬ Z.2 = none := by
  intro e
  unfold qAcc at h
  rw [e] at h
  dsimp only at h
  rw [if_neg ht] at h
  cases h
theorem qMay_len {Z : qZ} (h : qMay G Z = true) : 1 < Z.1.length := by
  obtain ⟨st, la⟩ := Z
  unfold qMay at h
  match st, h with
  | x :: y :: st, _ => simp
/-- rounds that are left suffice -/
theorem qRead_some {t l : Nat} (htt : t ≤ 10) (hl : l < 128) (hp : p ≤ 600) : ∀ n put V, qVok G B V → put ≤ 8 → 2 * (8 - put) + V.1.1.length + (if V.1.2 = none then 2 else 0) < n → ∃ V', qRead G t l p n put V = some V' ∧ qVok G (B + 1) V' := by
  intro n
  induction n with
  | zero => intro put V hV h1 h2; omega
  | succ n ih =>
    intro put V hV h1 h2
    unfold qRead
    by_cases c1 : 300 ≤ V.2.2.1.length ∨ t < 10 ∧ 20 ≤ V.1.1.length
    · rw [if_pos c1]
      exact ⟨_, rfl, qErr_ok hV 6⟩
    · rw [if_neg c1]
      have ht : V.2.2.1.length < 300 := by omega
      cases ha : qAcc G V.1 t with
      | some Z =>
        dsimp only
        refine ⟨_, rfl, qVok_B (B := B) ?_ (by omega)⟩
        have hT := qTo_ok hV ha
        have hA := qAcc_ok hV.1 ha
        split
        · next c => exact qOpen_ok hT ht c (by show Z.1.length < 20; rw [hA.2.1]; omega) hp false
        · next c => exact qPut_ok hT (by show ¬ Z.2 = none; rw [hA.2.2]; exact qAcc_la ha (by omega)) ht hl hp false
      | none =>
        dsimp only
        by_cases c2 : V.1.2 = none ∧ qgA G 0 = true
        · rw [if_pos c2]
          have e0 := hV.1.2.2.2 c2.1
          have hO := qOpen_ok hV ht (e := 0) (by omega) (by rw [e0]; simp) hp true
          refine ih put _ hO h1 ?_
          rw [if_pos c2.1] at h2
          simp only [qOpen, qEnter, reduceCtorEq, ↓reduceIte]
          split
          · omega
          · simp only [List.length_cons]; omega
        · rw [if_neg c2]
          cases hw : (if put < 8 then qWant G V.1 else none) with
          | some e =>
            have h8 : put < 8 := by
              by_cases c : put < 8
              · exact c
              · rw [if_neg c] at hw; cases hw
            rw [if_pos h8] at hw
            obtain ⟨w1, w2, w3⟩ := qWant_some hw
            have hL := qToD_len hV e
            have hO := qOpen_ok (qToD_ok hV e) ht w1 (by show _ < 20; simp only [qTo]; rw [hL.1]; exact w2) hp true
            refine ih (put + 1) _ hO (by omega) ?_
            simp only [qOpen, qEnter, qTo, reduceCtorEq, ↓reduceIte]
            rw [if_neg w3]
            simp only [List.length_cons, hL.1]
            omega
          | none =>
            dsimp only
            by_cases c3 : qMay G V.1 = true
            · rw [if_pos c3]
              have hm := qMay_len c3
              have cn : ¬ V.1.2 = none := fun e => by
                have := hV.1.2.2.2 e
                rw [this] at hm
                simp at hm
              refine ih put _ (qShut_ok hV (by omega)) h1 ?_
              rw [if_neg cn] at h2
              rw [if_neg (show ¬ (qShut V).1.2 = none from cn)]
              simp only [qShut, List.length_tail]
              omega
            · rw [if_neg c3]
              exact ⟨_, rfl, qErr_ok hV 0⟩
theorem qRd_is {t l : Nat} (htt : t ≤ 10) (hl : l < 128) (hp : p ≤ 600) (hV : qVok G B V) : qRead G t l p 100 0 V = some (qRd G t l p V) ∧ qVok G (B + 1) (qRd G t l p V) := by
  have h20 := hV.1.1
  obtain ⟨V', h1, h2⟩ := qRead_some (G := G) (B := B) htt hl hp 100 0 V hV (by omega) (by split <;> omega)
  unfold qRd
  rw [h1]
  exact ⟨rfl, h2⟩
/-- closing -/
theorem qEnd1_ok (hV : qVok G B V) (hd : 0 < V.1.1.length) (put : Bool) : qVok G B (qEnd1 G p put V) ∧ (qEnd1 G p put V).1.1.length = V.1.1.length - 1 := by
  obtain ⟨h1, h2, h3, h4, h5, h6, h7, h8, h9⟩ := hV
  refine ⟨⟨qTail_ok h1, ?_, h3, h4, h5, fun x hx => h6 x (List.mem_of_mem_tail hx), ?_, h8, ?_⟩, ?_⟩
  · simp only [qEnd1, List.length_tail]; omega
  · simp only [qEnd1, List.length_tail]; split <;> omega
  · simp only [qEnd1, List.length_tail]
    have e1 : (if qCan G V.1 = true then V else qErr 2 p V).2.2.2.2.2.length ≤ V.2.2.2.2.2.length + 1 := by
      split
      · omega
      · simp [qErr]
    have e2 : ∀ W : qV, (if put = true then (if qgB G ((V.1.1.head?).getD (0, 0)).1 = true then W else qErr 3 p W) else W).2.2.2.2.2.length ≤ W.2.2.2.2.2.length + 1 := by
      intro W
      split
      · split
        · omega
        · simp [qErr]
      · omega
    have e3 := e2 (if qCan G V.1 = true then V else qErr 2 p V)
    omega
  · simp only [qEnd1, List.length_tail]
theorem qClose_ok (to : Nat) (b : Bool) : ∀ n V, qVok G B V → qVok G B (qClose G p to b n V) ∧ (qClose G p to b n V).1.1.length ≤ V.1.1.length ∧ (V.1.1.length ≤ n → (qClose G p to b n V).1.1.length ≤ to) := by
  intro n
  induction n with
  | zero => intro V hV; exact ⟨hV, Nat.le_refl _, fun h => by unfold qClose; omega⟩
  | succ n ih =>
    intro V hV
    unfold qClose
    by_cases c : V.1.1.length ≤ to
    · rw [if_pos c]; exact ⟨hV, Nat.le_refl _, fun _ => c⟩
    · rw [if_neg c]
      have h := qEnd1_ok (p := p) hV (by omega) (decide (to + 1 < V.1.1.length) || !b)
      obtain ⟨k1, k2, k3⟩ := ih _ h.1
      rw [h.2] at k2 k3
      exact ⟨k1, by omega, fun hn => k3 (by omega)⟩
theorem qShutTo_ok (to : Nat) (b : Bool) (hV : qVok G B V) : qVok G B (qShutTo G p to b V) ∧ (qShutTo G p to b V).1.1.length ≤ to := by
  have h := qClose_ok (G := G) (B := B) (p := p) to b V.1.1.length V hV
  exact ⟨h.1, h.2.2 (Nat.le_refl _)⟩
theorem qErrs_ok (k : Nat) : ∀ n B V, qVok G B V → qVok G (B + n) (qErrs k p n V) := by
  intro n
  induction n with
  | zero => intro B V h; exact h
  | succ n ih =>
    intro B V h
    have := ih (B + 1) _ (qErr_ok (p := p) h k)
    rw [show B + 1 + n = B + (n + 1) by omega] at this
    exact this
end
