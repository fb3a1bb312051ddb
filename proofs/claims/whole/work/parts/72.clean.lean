/-! THE VALUE: readings without an error and without what was put in -/
def qCln (V : qV) : Prop := V.2.2.2.1 = 0 ∧ V.2.2.2.2.1 = 0 ∧ V.2.2.2.2.2 = []
def qDirty (V : qV) : Prop := ¬ qCln V
theorem qErr_d (k p : Nat) (V : qV) : qDirty (qErr k p V) := fun h => by have h := h.2.2; exact absurd h (by simp [qErr])
theorem qOpen_d (G : qG) (e p : Nat) (V : qV) : qDirty (qOpen G e p true V) := fun h => by have h := h.2.1; exact absurd h (by simp [qOpen])
theorem qShut_d (V : qV) : qDirty (qShut V) := fun h => by have h := h.1; exact absurd h (by simp [qShut])
theorem qEnd1_dt (G : qG) (p : Nat) (V : qV) : qDirty (qEnd1 G p true V) := fun h => by have h := h.1; exact absurd h (by simp [qEnd1])
theorem qDirty_closed (G : qG) : qClosed G qDirty := by
  refine ⟨fun k p V _ => qErr_d k p V, fun l p V _ _ _ h => h, fun e p b V _ _ _ _ h => ?_, fun V Z t _ h _ => h, fun V _ _ _ => qShut_d V, fun p b V _ _ h => ?_⟩
  · cases b with
    | true => exact qOpen_d G e p V
    | false => exact h
  · cases b with
    | true => exact qEnd1_dt G p V
    | false =>
      intro hc
      obtain ⟨h1, h2, h3⟩ := hc
      refine h ⟨h1, h2, ?_⟩
      have h3 : (if qCan G V.1 = true then V else qErr 2 p V).2.2.2.2.2 = [] := h3
      split at h3
      · exact h3
      · exact absurd h3 (by simp [qErr])
section
variable {G : qG}
theorem qRd_cln {B t l p : Nat} {V : qV} (htt : t ≤ 10) (hl : 32 ≤ l ∧ l < 127) (hp : p ≤ 600) (hV : qVok G B V) (ht : V.2.2.1.length < 300) : (match (if t < 10 ∧ 20 ≤ V.1.1.length then none else qAcc G V.1 t) with
    | some Z => qRd G t l p V = (if t < 10 then qOpen G t p false (qTo Z V) else qPut 10 l p false (qTo Z V))
    | none => qDirty (qRd G t l p V)) := by
  have h := (qRd_is htt (by omega) hp hV (l := l)).1
  rw [show (100 : Nat) = 99 + 1 from rfl] at h
  unfold qRead at h
  by_cases c0 : t < 10 ∧ 20 ≤ V.1.1.length
  · rw [if_pos c0]
    rw [if_pos (Or.inr c0)] at h
    injection h with h
    dsimp only
    rw [← h]
    exact qErr_d _ _ _
  · rw [if_neg c0]
    rw [if_neg (fun hh => hh.elim (fun h => by omega) c0)] at h
    cases ha : qAcc G V.1 t with
    | some Z =>
      rw [ha] at h
      dsimp only at h ⊢
      injection h with h
      exact h.symm
    | none =>
      rw [ha] at h
      dsimp only at h ⊢
      by_cases c2 : V.1.2 = none ∧ qgA G 0 = true
      · rw [if_pos c2] at h
        have e0 := hV.1.2.2.2 c2.1
        have hO := qOpen_ok hV ht (e := 0) (by omega) (by rw [e0]; simp) hp true
        exact qRead_P (qDirty_closed G) htt hl hp 99 0 B _ _ hO (qOpen_d G _ _ _) h
      · rw [if_neg c2] at h
        cases hw : (if 0 < 8 then qWant G V.1 else none) with
        | some e =>
          rw [hw] at h
          dsimp only at h
          rw [if_pos (by omega)] at hw
          obtain ⟨w1, w2, w3⟩ := qWant_some hw
          have hL := qToD_len hV e
          have hdl : (qTo ((qAcc G V.1 e).getD V.1) V).1.1.length < 20 := by show _ < 20; simp only [qTo]; rw [hL.1]; exact w2
          exact qRead_P (qDirty_closed G) htt hl hp 99 (0 + 1) B _ _ (qOpen_ok (qToD_ok hV e) ht w1 hdl hp true) (qOpen_d G _ _ _) h
        | none =>
          rw [hw] at h
          dsimp only at h
          by_cases c3 : qMay G V.1 = true
          · rw [if_pos c3] at h
            have hm := qMay_len c3
            exact qRead_P (qDirty_closed G) htt hl hp 99 0 B _ _ (qShut_ok hV (by omega)) (qShut_d _) h
          · rw [if_neg c3] at h
            injection h with h
            rw [← h]
            exact qErr_d _ _ _
/-- a token of ways and of the normal form, read -/
def qTk (G : qG) (p : Nat) (k : qK) (V : qV) : qV := if k.1 = 0 then qRd G k.2.toNatClampNeg 60 p V else if k.1 = 1 then (match qLast V.1.1 k.2.toNatClampNeg with
    | none => qErr 1 p V
    | some to => qShutTo G p to true V) else qRd G 10 k.2.toNatClampNeg p V
def qSimp (k : qK) : Prop := qKok k ∧ (k.1 = 0 ∨ k.1 = 1 ∨ k.1 = 4)
theorem qTk_is {ent : Nat → Nat → qV → qV} {ks : List qK} {i p : Nat} {k : qK} {V : qV} (h : k.1 = 0 ∨ k.1 = 1 ∨ k.1 = 4) : qTok G ent ks i p k.1 k.2 V = qTk G p k V := by
  unfold qTok qTk
  rcases h with h | h | h
  · rw [if_pos h, if_pos h]
  · rw [if_neg (by omega), if_pos h, if_neg (by omega), if_pos h]
    cases qLast V.1.1 k.2.toNatClampNeg <;> rfl
  · rw [if_neg (by omega), if_neg (by omega), if_neg (by omega), if_neg (by omega), if_pos h, if_neg (by omega), if_neg (by omega)]
theorem qTk_ok {B p : Nat} {k : qK} {V : qV} (h : qSimp k) (hp : p ≤ 600) (hV : qVok G B V) : qVok G (B + 1) (qTk G p k V) := by
  have := qTok_ok (ent := fun _ _ V => V) (c := 0) (ks := []) (i := 0) (v := k.2) (s := k.1) (fun e p B V _ _ h => h) h.1 hp hV
  rw [qTk_is h.2, if_neg (by rcases h.2 with c | c | c <;> omega)] at this
  exact this
theorem qTk_d {B p : Nat} {k : qK} {V : qV} (h : qSimp k) (hp : p ≤ 600) (hV : qVok G B V) (hd : qDirty V) : qDirty (qTk G p k V) := by
  have := qTok_P (qDirty_closed G) (ent := fun _ _ V => V) (ks := []) (i := 0) (v := k.2) (s := k.1) (fun e p B V _ _ _ h => h) h.1 hp hV hd
  rw [qTk_is h.2] at this
  exact this
/-- what a token does to the open numbers, and to the things (kind, parent, letter) -/
abbrev qE : Type := List Nat × List (Nat × Option Nat × Nat)
def qKPL (t : qT) : Nat × Option Nat × Nat := (t.1, t.2.1, t.2.2.1)
def qEV (V : qV) : qE := (V.2.1, V.2.2.1.map qKPL)
def qEf (G : qG) (k : qK) (E : qE) : qE := if k.1 = 0 then (if qgN G k.2.toNatClampNeg = 0 then E.1 else E.2.length :: E.1, (k.2.toNatClampNeg, E.1.head?, 60) :: E.2) else if k.1 = 1 then (E.1.tail, E.2) else (E.1, (10, E.1.head?, k.2.toNatClampNeg) :: E.2)
theorem qLast_top {x : Nat × Nat} {st : List (Nat × Nat)} {v to : Nat} (h : qLast (x :: st) v = some to) : (x.1 = v ∧ to = st.length) ∨ (¬ x.1 = v ∧ to < st.length) := by
  unfold qLast at h
  split at h
  · next c => injection h with h; exact Or.inl ⟨c, h.symm⟩
  · next c => exact Or.inr ⟨c, qLast_lt _ _ _ h⟩
theorem qShut_1 {p : Nat} {V : qV} {x : Nat × Nat} {st : List (Nat × Nat)} (hst : V.1.1 = x :: st) : qShutTo G p st.length true V = qEnd1 G p false V := by
  unfold qShutTo
  have hl : V.1.1.length = st.length + 1 := by rw [hst]; rfl
  rw [hl]
  unfold qClose
  rw [if_neg (by omega), hl]
  have e : (decide (st.length + 1 < st.length + 1) || !true) = false := by simp
  rw [e]
  have hl2 : (qEnd1 G p false V).1.1.length = st.length := by
    show V.1.1.tail.length = _
    rw [hst]; rfl
  cases hs : st.length with
  | zero => rfl
  | succ n =>
    unfold qClose
    rw [if_pos (by omega)]
theorem qTk_cln {B p : Nat} {k : qK} {V : qV} (hk : qSimp k) (hp : p ≤ 600) (hV : qVok G B V) (ht : ¬ k.1 = 1 → V.2.2.1.length < 300) (hc : qCln V) : (match qWr G V.1 k.1 k.2.toNatClampNeg with
    | some Z => qCln (qTk G p k V) ∧ (qTk G p k V).1 = Z ∧ qEV (qTk G p k V) = qEf G k (qEV V)
    | none => qDirty (qTk G p k V)) := by
  obtain ⟨hkk, hk3⟩ := hk
  unfold qTk qWr qEf
  rcases hk3 with c | c | c
  · obtain ⟨n, n1, n2⟩ := hkk.2.1 (Or.inl c)
    have hv : k.2.toNatClampNeg = n := by rw [n2, qn_c (by omega)]
    rw [hv, if_pos c, if_pos c, if_neg (show ¬ k.1 = 1 by omega), if_neg (show ¬ k.1 = 4 by omega)]
    have h := qRd_cln (t := n) (l := 60) (p := p) (by omega) (by omega) hp hV (ht (by omega))
    by_cases c20 : 20 ≤ V.1.1.length
    · rw [if_pos ⟨n1, c20⟩] at h
      rw [if_pos c20]
      exact h
    · rw [if_neg (fun hh => c20 hh.2)] at h
      rw [if_neg c20]
      cases ha : qAcc G V.1 n with
      | none => rw [ha] at h; exact h
      | some Z =>
        rw [ha] at h
        dsimp only [Option.map_some] at h ⊢
        rw [if_pos n1] at h
        rw [h]
        refine ⟨hc, rfl, ?_⟩
        unfold qEV qOpen qTo
        simp only [List.map_cons, qKPL, List.length_map]
  · rw [if_neg (show ¬ k.1 = 0 by omega), if_pos c, if_pos c, if_neg (show ¬ k.1 = 0 by omega), if_pos c]
    cases hst : V.1.1 with
    | nil => dsimp only [qLast]; exact qErr_d _ _ _
    | cons x st =>
      dsimp only
      cases hla : qLast (x :: st) k.2.toNatClampNeg with
      | none =>
        have hne : ¬ x.1 = k.2.toNatClampNeg := fun e => by unfold qLast at hla; rw [if_pos e] at hla; cases hla
        rw [if_neg (fun hh => hne hh.1)]
        exact qErr_d _ _ _
      | some to =>
        dsimp only
        rcases qLast_top hla with ⟨e1, e2⟩ | ⟨e1, e2⟩
        · subst e2
          rw [qShut_1 hst]
          have hcan : qCan G V.1 = qrEnd G x.1 x.2 := by unfold qCan; rw [hst]
          by_cases cc : qrEnd G x.1 x.2 = true
          · rw [if_pos ⟨e1, cc⟩]
            dsimp only
            refine ⟨⟨hc.1, hc.2.1, ?_⟩, ?_, rfl⟩
            · show (if qCan G V.1 = true then V else qErr 2 p V).2.2.2.2.2 = []
              rw [hcan, if_pos cc]; exact hc.2.2
            · show (V.1.1.tail, V.1.2) = (st, V.1.2)
              rw [hst]; rfl
          · rw [if_neg (fun hh => cc hh.2)]
            dsimp only
            intro hd
            have hd : (if qCan G V.1 = true then V else qErr 2 p V).2.2.2.2.2 = [] := hd.2.2
            rw [hcan, if_neg cc] at hd
            exact absurd hd (by simp [qErr])
        · rw [if_neg (fun hh => e1 hh.1)]
          dsimp only
          unfold qShutTo
          have hl : V.1.1.length = st.length + 1 := by rw [hst]; rfl
          rw [hl]
          unfold qClose
          rw [if_neg (by omega), hl]
          have e : (decide (to + 1 < st.length + 1) || !true) = true := by simp; omega
          rw [e]
          exact qClose_P (qDirty_closed G) to true _ B _ (qEnd1_ok hV (by omega) true).1 (qEnd1_dt G _ _)
  · obtain ⟨n, n1, n2, n3⟩ := hkk.2.2.1 c
    have hv : k.2.toNatClampNeg = n := by rw [n3, qn_c (by omega)]
    rw [hv, if_neg (show ¬ k.1 = 0 by omega), if_neg (show ¬ k.1 = 1 by omega), if_neg (show ¬ k.1 = 1 by omega), if_pos c, if_neg (show ¬ k.1 = 0 by omega), if_neg (show ¬ k.1 = 1 by omega)]
    have h := qRd_cln (t := 10) (l := n) (p := p) (by omega) ⟨n1, n2⟩ hp hV (ht (by omega))
    rw [if_neg (by omega)] at h
    cases ha : qAcc G V.1 10 with
    | none => rw [ha] at h; exact h
    | some Z =>
      rw [ha] at h
      dsimp only at h ⊢
      rw [if_neg (by omega)] at h
      rw [h]
      exact ⟨hc, rfl, rfl⟩
/-- a row of such tokens -/
def qFold (G : qG) : Nat → List qK → qV → qV
  | _, [], V => V
  | i, k :: l, V => qFold G (i + 1) l (qTk G i k V)
def qEfs (G : qG) (F : List qK) (E : qE) : qE := F.foldl (fun E k => qEf G k E) E
theorem qLoop_s {sw : Nat → Nat} {ent : Nat → Nat → qV → qV} {ks : List qK} (hk : ∀ k ∈ ks, qSimp k) : ∀ n i V X, n + i = ks.length → (qLoop G sw ent ks none n i ((0, 0, 1, V), X)).1 = (0, 0, 1, qFold G i (ks.drop i) V) := by
  intro n
  induction n with
  | zero =>
    intro i V X h
    rw [List.drop_of_length_le (by omega)]
    rfl
  | succ n ih =>
    intro i V X h
    have hi : i < ks.length := by omega
    have hg : ks[i]? = some ks[i] := List.getElem?_eq_getElem hi
    have hs := hk _ (List.getElem_mem hi)
    have hst : qStep G sw ent ks i i (0, 0, 1, V) = (0, 0, 1, qTk G i ks[i] V) := by
      unfold qStep
      rw [hg]
      dsimp only
      have h7 : ¬ ks[i].1 = 7 := by rcases hs.2 with c | c | c <;> omega
      have h8 : ¬ (ks[i].1 = 8 ∧ 0 < 0) := by omega
      rw [if_neg (by omega), if_neg h7, if_neg h8, qTk_is hs.2]
    unfold qLoop
    dsimp only [Option.getD_none]
    rw [hst, ih (i + 1) _ _ (by omega), List.drop_eq_getElem_cons hi]
    rfl
def qTs (F : List qK) : Nat := (F.filter fun k => !(k.1 == 1)).length
theorem qFold_ok : ∀ F i B V, (∀ k ∈ F, qSimp k) → i + F.length ≤ 600 → qVok G B V → qVok G (B + F.length) (qFold G i F V) ∧ (qDirty V → qDirty (qFold G i F V)) := by
  intro F
  induction F with
  | nil => intro i B V _ _ hV; exact ⟨hV, fun h => h⟩
  | cons k F ih =>
    intro i B V hk h6 hV
    have hs := hk k (by simp)
    simp only [List.length_cons] at h6
    obtain ⟨o1, o2⟩ := ih (i + 1) (B + 1) _ (fun k h => hk k (by simp [h])) (by omega) (qTk_ok (p := i) hs (by omega) hV)
    refine ⟨qVok_B o1 (by simp only [List.length_cons]; omega), fun hd => o2 (qTk_d hs (by omega) hV hd)⟩
theorem qEV_len {V V' : qV} {k : qK} (h : qEV V' = qEf G k (qEV V)) : V'.2.2.1.length = V.2.2.1.length + (if k.1 = 1 then 0 else 1) := by
  have h2 : (qEV V').2.length = (qEf G k (qEV V)).2.length := by rw [h]
  have e1 : (qEV V').2.length = V'.2.2.1.length := by unfold qEV; simp
  have e2 : (qEV V).2.length = V.2.2.1.length := by unfold qEV; simp
  rw [e1] at h2
  rw [h2, ← e2]
  unfold qEf
  by_cases c0 : k.1 = 0
  · rw [if_pos c0, if_neg (show ¬ k.1 = 1 by omega)]; simp
  · rw [if_neg c0]
    by_cases c1 : k.1 = 1
    · rw [if_pos c1, if_pos c1]; rfl
    · rw [if_neg c1, if_neg c1]; simp
theorem qFold_cln : ∀ F i B V, (∀ k ∈ F, qSimp k) → i + F.length ≤ 600 → qVok G B V → V.2.2.1.length + qTs F ≤ 300 → qCln V → (match qWrs G F V.1 with
    | some Z => qCln (qFold G i F V) ∧ (qFold G i F V).1 = Z ∧ qEV (qFold G i F V) = qEfs G F (qEV V)
    | none => qDirty (qFold G i F V)) := by
  intro F
  induction F with
  | nil => intro i B V _ _ hV _ hc; exact ⟨hc, rfl, rfl⟩
  | cons k F ih =>
    intro i B V hk h6 hV h3 hc
    have hs := hk k (by simp)
    simp only [List.length_cons] at h6
    have hts : qTs (k :: F) = (if k.1 = 1 then 0 else 1) + qTs F := by
      unfold qTs
      by_cases c : k.1 = 1
      · rw [List.filter_cons_of_neg (by simp [c]), if_pos c, Nat.zero_add]
      · rw [List.filter_cons_of_pos (by simp [c]), if_neg c, List.length_cons, Nat.add_comm]
    have h := qTk_cln (p := i) hs (by omega) hV (fun c => by rw [hts, if_neg c] at h3; omega) hc
    have hok := qTk_ok (p := i) hs (by omega) hV
    unfold qWrs
    cases hw : qWr G V.1 k.1 k.2.toNatClampNeg with
    | none =>
      rw [hw] at h
      exact (qFold_ok F (i + 1) (B + 1) _ (fun k h => hk k (by simp [h])) (by omega) hok).2 h
    | some Z =>
      rw [hw] at h
      dsimp only at h ⊢
      obtain ⟨c1, c2, c3⟩ := h
      have hl := qEV_len c3
      have := ih (i + 1) (B + 1) _ (fun k h => hk k (by simp [h])) (by omega) hok (by rw [hl]; omega) c1
      rw [c2, c3] at this
      exact this
theorem qShut_0 {B p : Nat} {V : qV} (hV : qVok G B V) : (V.1.1 = [] → qShutTo G p 0 false V = V) ∧ (¬ V.1.1 = [] → qDirty (qShutTo G p 0 false V)) ∧ (qDirty V → qDirty (qShutTo G p 0 false V)) := by
  refine ⟨fun h => ?_, fun h => ?_, fun h => qShutTo_P (qDirty_closed G) 0 false hV h⟩
  · unfold qShutTo; rw [h]; rfl
  · unfold qShutTo
    cases hst : V.1.1 with
    | nil => exact absurd hst h
    | cons x st =>
      have hl : V.1.1.length = st.length + 1 := by rw [hst]; rfl
      rw [List.length_cons]
      unfold qClose
      rw [if_neg (by omega)]
      have e : (decide (0 + 1 < V.1.1.length) || !false) = true := by simp
      rw [e]
      exact qClose_P (qDirty_closed G) 0 false _ B _ (qEnd1_ok hV (by omega) true).1 (qEnd1_dt G _ _)
/-- the reading of a row of such tokens, to its end -/
def qRun (G : qG) (F : List qK) : qV := qShutTo G F.length 0 false (qFold G 0 F qV0)
theorem qRun_is {sw : Nat → Nat} {ent : Nat → Nat → qV → qV} {F : List qK} (hk : ∀ k ∈ F, qSimp k) : qShutTo G F.length 0 false (qRow G sw ent F none qV0 [(qZ0, 0)]).1 = qRun G F := by
  have h := qLoop_s (G := G) (sw := sw) (ent := ent) hk F.length 0 qV0 [(qZ0, 0)] (by omega)
  rw [List.drop_zero] at h
  unfold qRun qRow
  dsimp only
  rw [h]
  rfl
theorem qRun_c {F : List qK} (hk : ∀ k ∈ F, qSimp k) (h6 : F.length ≤ 600) (h3 : qTs F ≤ 300) : (match qWrs G F qZ0 with
    | some Z => (Z.1 = [] → qCln (qRun G F) ∧ qEV (qRun G F) = qEfs G F ([], [])) ∧ (¬ Z.1 = [] → qDirty (qRun G F))
    | none => qDirty (qRun G F)) := by
  have h := qFold_cln (G := G) F 0 0 qV0 hk (by omega) qV0_ok (by show 0 + qTs F ≤ 300; omega) ⟨rfl, rfl, rfl⟩
  have hok := (qFold_ok (G := G) F 0 0 qV0 hk (by omega) qV0_ok).1
  obtain ⟨s1, s2, s3⟩ := qShut_0 (p := F.length) hok
  have e0 : qV0.1 = qZ0 := rfl
  rw [e0] at h
  unfold qRun
  cases hw : qWrs G F qZ0 with
  | none => rw [hw] at h; exact s3 h
  | some Z =>
    rw [hw] at h
    dsimp only at h ⊢
    obtain ⟨c1, c2, c3⟩ := h
    refine ⟨fun hz => ?_, fun hz => s2 (by rw [c2]; exact hz)⟩
    rw [s1 (by rw [c2]; exact hz)]
    exact ⟨c1, c3⟩
end
