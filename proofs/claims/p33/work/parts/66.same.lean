/-! THE VALUE: the normal form is read as it is written, unless something was too short -/
theorem qWrs_app (G : qG) : ∀ (a b : List qK) (Z : qZ), qWrs G (a ++ b) Z = (qWrs G a Z).bind (qWrs G b) := by
  intro a
  induction a with
  | nil => intro b Z; rfl
  | cons k a ih =>
    intro b Z
    rw [List.cons_append]
    unfold qWrs
    cases qWr G Z k.1 k.2.toNatClampNeg with
    | none => rfl
    | some Z1 => exact ih b Z1
theorem qWrs_1 (G : qG) (k : qK) (Z : qZ) : qWrs G [k] Z = qWr G Z k.1 k.2.toNatClampNeg := by
  unfold qWrs
  cases qWr G Z k.1 k.2.toNatClampNeg <;> rfl
theorem qEnds_head (S : List (Nat × Nat)) (F : List qK) : qEnds (S.head?.map fun x => x.1) S F = F := by
  cases S with
  | nil => rfl
  | cons x S =>
    rw [List.head?_cons, Option.map_some]
    unfold qEnds
    rw [if_pos rfl]
theorem qEnds_pre (x : Nat × Nat) (S : List (Nat × Nat)) : ∀ (pre : List (Nat × Nat)) (F : List qK), ((pre ++ x :: S).Pairwise fun x y => y.1 < x.1) → qEnds (S.head?.map fun x => x.1) (pre ++ x :: S) F = (1, qn x.2) :: qEnds (some x.1) (pre ++ x :: S) F := by
  have hS : ∀ (y : Nat × Nat), (∀ z ∈ S, z.1 < y.1) → ¬ some y.1 = S.head?.map (fun x => x.1) := fun y h e => by
    cases S with
    | nil => cases e
    | cons z S =>
      have h1 := h z List.mem_cons_self
      simp only [List.head?_cons, Option.map_some, Option.some.injEq] at e
      omega
  intro pre
  induction pre with
  | nil =>
    intro F h
    rw [List.nil_append] at h ⊢
    obtain ⟨h1, h2⟩ := List.pairwise_cons.mp h
    rw [show qEnds (some x.1) (x :: S) F = F by unfold qEnds; rw [if_pos rfl]]
    rw [qEnds, if_neg (hS x h1), qEnds_head]
  | cons y pre ih =>
    intro F h
    rw [List.cons_append] at h ⊢
    obtain ⟨h1, h2⟩ := List.pairwise_cons.mp h
    have hy : ¬ some y.1 = some x.1 := fun e => by
      have := h1 x (by simp)
      simp only [Option.some.injEq] at e
      omega
    rw [qEnds, if_neg (hS y fun z hz => h1 z (by simp [hz])), ih _ h2]
    rw [show qEnds (some x.1) (y :: (pre ++ x :: S)) F = qEnds (some x.1) (pre ++ x :: S) ((1, qn y.2) :: F) by rw [qEnds, if_neg hy]]
/-- something was too short -/
def qSh (V : qV) : Prop := ∃ e ∈ V.2.2.2.2.2, e.1 = 2
/-- the normal form up to what is open -/
def qCl (G : qG) (V : qV) : List qK := (qEnds ((qOS V).head?.map fun x => x.1) (qW G V.2.2.1) (qF G V.2.2.1)).reverse
def qPI (G : qG) (V : qV) : Prop := qTr G V ∧ (qSh V → qWrs G (qCl G V) qZ0 = none) ∧ (¬ qSh V → qWrs G (qCl G V) qZ0 = some V.1)
section
variable {G : qG} {B : Nat} {V : qV}
theorem qPI_err {k : Nat} (hk : k ≠ 2) (p : Nat) (h : qPI G V) : qPI G (qErr k p V) := by
  obtain ⟨h1, h2, h3⟩ := h
  have e : qSh (qErr k p V) ↔ qSh V := by
    constructor
    · rintro ⟨x, hx, hx2⟩
      rcases List.mem_cons.mp hx with e | hx
      · subst e; exact absurd hx2 hk
      · exact ⟨x, hx, hx2⟩
    · rintro ⟨x, hx, hx2⟩
      exact ⟨x, List.mem_cons_of_mem _ hx, hx2⟩
  exact ⟨h1, fun s => h2 (e.mp s), fun s => h3 fun q => s (e.mpr q)⟩
/-- one token more -/
theorem qPI_tok {V' : qV} {k : qK} (h : qPI G V) (ht : qTr G V') (hc : qCl G V' = qCl G V ++ [k]) (hs : qSh V → qSh V') (hk : ¬ qSh V → (qSh V' → qWr G V.1 k.1 k.2.toNatClampNeg = none) ∧ (¬ qSh V' → qWr G V.1 k.1 k.2.toNatClampNeg = some V'.1)) : qPI G V' := by
  obtain ⟨h1, h2, h3⟩ := h
  refine ⟨ht, fun s => ?_, fun s => ?_⟩
  · rw [hc, qWrs_app]
    by_cases c : qSh V
    · rw [h2 c]; rfl
    · rw [h3 c, Option.bind_some, qWrs_1]
      exact (hk c).1 s
  · have c : ¬ qSh V := fun c => s (hs c)
    rw [hc, qWrs_app, h3 c, Option.bind_some, qWrs_1]
    exact (hk c).2 s
theorem qOS_pop (hV : qVok G B V) (h : qTr G V) : qPop V.2.1.head? (qW G V.2.2.1) = qOS V := by
  obtain ⟨h1, pre, h2⟩ := h
  have hd := qW_dec G V.2.2.1
  rw [h2] at hd
  rw [← qOS_head hV.2.1, h2]
  exact qPop_suf _ _ hd
theorem qPI_open (hV : qVok G B V) {e p : Nat} {b : Bool} {Z : qZ} (ha : qAcc G V.1 e = some Z) (he : e < 10) (hd20 : V.1.1.length < 20) (ht : V.2.2.1.length < 300) (h : qPI G V) : qPI G (qOpen G e p b (qTo Z V)) := by
  have hT := qTo_ok hV ha
  have hA := qAcc_ok hV.1 ha
  have hTr := (qTr_closed G).2.2.2.1 V Z e ⟨B, hV⟩ h.1 ha
  have hp := qOS_pop hT hTr
  have hlen := hT.2.1
  have hOS : qOS (qTo Z V) = qOS V := by
    unfold qOS qTo
    dsimp only
    rw [qAcc_els ha]
  have eW : qW G ((e, V.2.1.head?, 60, p, b) :: V.2.2.1) = if qgN G e = 0 then qOS V else (V.2.2.1.length, e) :: qOS V := by
    have hp : qPop V.2.1.head? (qW G V.2.2.1) = qOS (qTo Z V) := hp
    rw [hOS] at hp
    simp only [qW]
    by_cases c : qgN G e = 0
    · rw [if_neg (fun h => h.2 c), if_pos c]; exact hp
    · rw [if_pos ⟨he, c⟩, if_neg c, hp]
  have eO : qOS (qOpen G e p b (qTo Z V)) = qW G ((e, V.2.1.head?, 60, p, b) :: V.2.2.1) := by
    rw [eW, ← hOS]
    unfold qOS qOpen qEnter qTo
    dsimp only
    by_cases c : qgN G e = 0
    · simp only [if_pos c]
    · simp only [if_neg c]
      rfl
  refine qPI_tok h ((qTr_closed G).2.2.1 e p b _ ⟨B, hT⟩ he (by show Z.1.length < 20; rw [hA.2.1]; exact hd20) ht hTr) (k := (0, qn e)) ?_ (fun s => s) (fun s => ⟨fun s2 => absurd s2 s, fun _ => ?_⟩)
  · unfold qCl
    rw [eO]
    show (qEnds _ (qW G ((e, V.2.1.head?, 60, p, b) :: V.2.2.1)) (qF G ((e, V.2.1.head?, 60, p, b) :: V.2.2.1))).reverse = _
    rw [qEnds_head]
    simp only [qF]
    rw [if_neg (by omega), List.reverse_cons, qOS_head hV.2.1]
  · unfold qWr
    dsimp only
    rw [if_neg (show ¬ (0 : Nat) = 1 by decide), if_neg (show ¬ (0 : Nat) = 4 by decide), if_neg (by omega), qn_c (by omega), ha]
    rfl
theorem qPI_put (hV : qVok G B V) {l p : Nat} {Z : qZ} (ha : qAcc G V.1 10 = some Z) (ht : V.2.2.1.length < 300) (hl : 32 ≤ l ∧ l < 127) (h : qPI G V) : qPI G (qPut 10 l p false (qTo Z V)) := by
  have hT := qTo_ok hV ha
  have hTr := (qTr_closed G).2.2.2.1 V Z 10 ⟨B, hV⟩ h.1 ha
  have hp := qOS_pop hT hTr
  have hOS : qOS (qTo Z V) = qOS V := by
    unfold qOS qTo
    dsimp only
    rw [qAcc_els ha]
  have eW : qW G ((10, V.2.1.head?, l, p, false) :: V.2.2.1) = qOS V := by
    have hp : qPop V.2.1.head? (qW G V.2.2.1) = qOS (qTo Z V) := hp
    rw [hOS] at hp
    simp only [qW]
    rw [if_neg (by omega)]
    exact hp
  have eO : qOS (qPut 10 l p false (qTo Z V)) = qW G ((10, V.2.1.head?, l, p, false) :: V.2.2.1) := by
    rw [eW, ← hOS]
    rfl
  refine qPI_tok h ((qTr_closed G).2.1 l p _ ⟨B, hT⟩ ht hl hTr) (k := (4, qn l)) ?_ (fun s => s) (fun s => ⟨fun s2 => absurd s2 s, fun _ => ?_⟩)
  · unfold qCl
    rw [eO]
    show (qEnds _ (qW G ((10, V.2.1.head?, l, p, false) :: V.2.2.1)) (qF G ((10, V.2.1.head?, l, p, false) :: V.2.2.1))).reverse = _
    rw [qEnds_head]
    simp only [qF]
    rw [if_pos trivial, List.reverse_cons, qOS_head hV.2.1]
  · unfold qWr
    dsimp only
    rw [if_neg (show ¬ (4 : Nat) = 1 by decide), if_pos rfl]
    exact ha
/-- the current element is closed: one END more -/
theorem qCl_end (hV : qVok G B V) (hT : qTr G V) {V' : qV} {x : Nat × Nat} {st : List (Nat × Nat)} (hst : V.1.1 = x :: st) (h1 : V'.2.2.1 = V.2.2.1) (h2 : V'.1.1 = V.1.1.tail) (h3 : V'.2.1 = V.2.1.tail) : qCl G V' = qCl G V ++ [(1, qn x.1)] := by
  obtain ⟨hW, pre, hp⟩ := hT
  have hlen := hV.2.1
  have hd := qW_dec G V.2.2.1
  rw [hp] at hd
  rw [hst] at hlen
  obtain ⟨a, ot, ho⟩ : ∃ a ot, V.2.1 = a :: ot := by
    cases ho : V.2.1 with
    | nil => rw [ho] at hlen; simp at hlen
    | cons a ot => exact ⟨a, ot, rfl⟩
  have hOS : qOS V = (a, x.1) :: List.zip ot (st.map fun x => x.1) := by
    unfold qOS
    rw [ho, hst]
    rfl
  have hOS' : qOS V' = List.zip ot (st.map fun x => x.1) := by
    unfold qOS
    rw [h2, h3, ho, hst]
    rfl
  unfold qCl
  rw [h1, hOS', hp, hOS]
  rw [hOS] at hd
  rw [qEnds_pre _ _ pre _ hd, List.reverse_cons]
  rfl
theorem qPI_shut (hV : qVok G B V) (hm : qMay G V.1 = true) (h : qPI G V) : qPI G (qShut V) := by
  unfold qMay at hm
  cases hst : V.1.1 with
  | nil => rw [hst] at hm; cases hm
  | cons x st =>
    rw [hst] at hm
    have hE : qrEnd G x.1 x.2 = true := by
      cases st with
      | nil => cases hm
      | cons y st =>
        simp only [Bool.and_eq_true] at hm
        exact hm.2
    have hx := hV.1.2.1 x (by rw [hst]; exact List.mem_cons_self)
    refine qPI_tok h (qTr_tail h.1 rfl rfl rfl) (k := (1, qn x.1)) (qCl_end hV h.1 hst rfl rfl rfl) (fun s => s) (fun s => ⟨fun s2 => absurd s2 s, fun _ => ?_⟩)
    unfold qWr
    rw [if_pos rfl, hst]
    dsimp only
    rw [qn_c (by omega), if_pos ⟨rfl, hE⟩]
    show some (st, V.1.2) = some (V.1.1.tail, V.1.2)
    rw [hst]
    rfl
theorem qPI_end1 (hV : qVok G B V) (p : Nat) (b : Bool) (hl : 0 < V.1.1.length) (h : qPI G V) : qPI G (qEnd1 G p b V) := by
  cases hst : V.1.1 with
  | nil => rw [hst] at hl; simp at hl
  | cons x st =>
    have hx := hV.1.2.1 x (by rw [hst]; exact List.mem_cons_self)
    have hcan : qCan G V.1 = qrEnd G x.1 x.2 := by unfold qCan; rw [hst]
    have hsh : qSh (qEnd1 G p b V) ↔ qSh V ∨ qrEnd G x.1 x.2 = false := by
      have h3 : ∀ U : qV, qSh (qErr 3 p U) ↔ qSh U := fun U => by
        constructor
        · rintro ⟨y, hy, hy2⟩
          rcases List.mem_cons.mp hy with e | hy
          · subst e; exact absurd hy2 (show ¬ (3 : Nat) = 2 by decide)
          · exact ⟨y, hy, hy2⟩
        · rintro ⟨y, hy, hy2⟩
          exact ⟨y, List.mem_cons_of_mem _ hy, hy2⟩
      have h4 : qSh (qEnd1 G p b V) ↔ qSh (if qCan G V.1 = true then V else qErr 2 p V) := by
        have e : ∀ U W : qV, U.2.2.2.2.2 = W.2.2.2.2.2 → (qSh U ↔ qSh W) := fun U W e => by unfold qSh; rw [e]
        cases b with
        | false => exact e _ _ rfl
        | true =>
          cases hB : qgB G ((V.1.1.head?).getD (0, 0)).1 with
          | true => exact e _ _ (by unfold qEnd1; simp only [hB, if_true])
          | false => exact (e _ _ (by unfold qEnd1; simp only [hB, if_true, Bool.false_eq_true, if_false])).trans (h3 _)
      rw [h4, hcan]
      cases hE : qrEnd G x.1 x.2 with
      | true => simp
      | false =>
        rw [if_neg Bool.false_ne_true]
        exact ⟨fun _ => Or.inr rfl, fun _ => ⟨_, List.mem_cons_self, rfl⟩⟩
    refine qPI_tok h (qTr_tail h.1 rfl rfl rfl) (k := (1, qn x.1)) (qCl_end hV h.1 hst rfl rfl rfl) (fun s => hsh.mpr (Or.inl s)) (fun s => ⟨fun s2 => ?_, fun s2 => ?_⟩)
    · have hE : qrEnd G x.1 x.2 = false := (hsh.mp s2).resolve_left s
      unfold qWr
      rw [if_pos rfl, hst]
      dsimp only
      rw [if_neg (fun c => by rw [hE] at c; cases c.2)]
    · have hE : qrEnd G x.1 x.2 = true := by
        cases hE : qrEnd G x.1 x.2 with
        | true => rfl
        | false => exact absurd (hsh.mpr (Or.inr hE)) s2
      unfold qWr
      rw [if_pos rfl, hst]
      dsimp only
      rw [qn_c (by omega), if_pos ⟨rfl, hE⟩]
      show some (st, V.1.2) = some (V.1.1.tail, V.1.2)
      rw [hst]
      rfl
end
section
variable {G : qG} {ks : List qK}
theorem qRead_I {t l p : Nat} (htt : t ≤ 10) (hl : 32 ≤ l ∧ l < 127) (hp : p ≤ 600) : ∀ n put B V V', qVok G B V → qPI G V → qRead G t l p n put V = some V' → qPI G V' := by
  intro n
  induction n with
  | zero => intro put B V V' _ _ h; cases h
  | succ n ih =>
    intro put B V V' hV hPV h
    unfold qRead at h
    by_cases c1 : 300 ≤ V.2.2.1.length ∨ t < 10 ∧ 20 ≤ V.1.1.length
    · rw [if_pos c1] at h
      injection h with h; subst h
      exact qPI_err (by decide) _ hPV
    · rw [if_neg c1] at h
      have ht : V.2.2.1.length < 300 := by omega
      cases ha : qAcc G V.1 t with
      | some Z =>
        rw [ha] at h
        dsimp only at h
        injection h with h; subst h
        split
        · next c => exact qPI_open hV ha c (by omega) ht hPV
        · next c =>
          have e : t = 10 := by omega
          subst e
          exact qPI_put hV ha ht hl hPV
      | none =>
        rw [ha] at h
        dsimp only at h
        by_cases c2 : V.1.2 = none ∧ qgA G 0 = true
        · rw [if_pos c2] at h
          have e0 := hV.1.2.2.2 c2.1
          have hO := qOpen_ok hV ht (e := 0) (by omega) (by rw [e0]; simp) hp true
          have ha0 : qAcc G V.1 0 = some V.1 := by unfold qAcc; rw [c2.1]; exact if_pos rfl
          exact ih put B _ V' hO (qPI_open hV ha0 (by omega) (by rw [e0]; simp) ht hPV) h
        · rw [if_neg c2] at h
          cases hw : (if put < 8 then qWant G V.1 else none) with
          | some e =>
            rw [hw] at h
            dsimp only at h
            have h8 : put < 8 := by
              by_cases c : put < 8
              · exact c
              · rw [if_neg c] at hw; cases hw
            rw [if_pos h8] at hw
            obtain ⟨w1, w2, w3⟩ := qWant_some hw
            have hL := qToD_len hV e
            have hdl : (qTo ((qAcc G V.1 e).getD V.1) V).1.1.length < 20 := by show _ < 20; simp only [qTo]; rw [hL.1]; exact w2
            cases hst : V.1.1 with
            | nil => rw [qWant_nil hst] at hw; cases hw
            | cons x st =>
              have hla : ¬ V.1.2 = none := fun h => by
                have := hV.1.2.2.2 h
                rw [hst] at this; cases this
              obtain ⟨j, hj, hacc⟩ := lWant_some hst hla hw
              have hN := qPI_open (p := p) (b := true) hV hacc w1 w2 ht hPV
              have hok := qOpen_ok (qToD_ok hV e) ht w1 hdl hp true
              rw [hacc, Option.getD_some] at h hok
              exact ih (put + 1) B _ V' hok hN h
          | none =>
            rw [hw] at h
            dsimp only at h
            by_cases c3 : qMay G V.1 = true
            · rw [if_pos c3] at h
              have hm := qMay_len c3
              exact ih put B _ V' (qShut_ok hV (by omega)) (qPI_shut hV c3 hPV) h
            · rw [if_neg c3] at h
              injection h with h; subst h
              exact qPI_err (by decide) _ hPV
theorem qRd_I {t l p B : Nat} {V : qV} (htt : t ≤ 10) (hl : 32 ≤ l ∧ l < 127) (hp : p ≤ 600) (hV : qVok G B V) (h : qPI G V) : qPI G (qRd G t l p V) := qRead_I htt hl hp 100 0 B V _ hV h (qRd_is htt (by omega) hp hV).1
theorem qClose_I {p : Nat} (to : Nat) (b : Bool) : ∀ n B V, qVok G B V → qPI G V → qPI G (qClose G p to b n V) := by
  intro n
  induction n with
  | zero => intro B V _ h; exact h
  | succ n ih =>
    intro B V hV h
    unfold qClose
    by_cases c : V.1.1.length ≤ to
    · rw [if_pos c]; exact h
    · rw [if_neg c]
      exact ih B _ (qEnd1_ok hV (by omega) _).1 (qPI_end1 hV _ _ (by omega) h)
theorem qShutTo_I {p B : Nat} {V : qV} (to : Nat) (b : Bool) (hV : qVok G B V) (h : qPI G V) : qPI G (qShutTo G p to b V) := qClose_I to b _ B V hV h
theorem qErrs_I {k : Nat} (hk2 : k ≠ 2) (p : Nat) : ∀ n V, qPI G V → qPI G (qErrs k p n V) := by
  intro n
  induction n with
  | zero => intro V h; exact h
  | succ n ih => intro V h; exact ih _ (qPI_err hk2 _ h)
theorem qTok_I {ent : Nat → Nat → qV → qV} {i p s B : Nat} {v : Int32} {V : qV} (hA : ∀ e p B V, e < 6 → p ≤ 600 → qVok G B V → qPI G V → qPI G (ent e p V)) (hk : qKok (s, v)) (hp : p ≤ 600) (hV : qVok G B V) (h : qPI G V) : qPI G (qTok G ent ks i p s v V) := by
  have h8 := hk.1
  have hz := hV.1
  unfold qTok
  by_cases c0 : s = 0
  · obtain ⟨n, h1, h2⟩ := hk.2.1 (Or.inl c0)
    have h2 : v = qn n := h2
    rw [if_pos c0, h2, qn_c (by omega)]
    exact qRd_I (by omega) (by omega) hp hV h
  · rw [if_neg c0]
    by_cases c1 : s = 1
    · rw [if_pos c1]
      cases hq : qLast V.1.1 v.toNatClampNeg with
      | none => exact qPI_err (by decide) _ h
      | some q => exact qShutTo_I q true hV h
    · rw [if_neg c1]
      by_cases c2 : s = 2
      · rw [if_pos c2]
        cases hq : V.1.2 with
        | none => exact qPI_err (by decide) _ h
        | some e => exact qRd_I (by have := hz.2.2.1 e hq; omega) (by omega) hp hV h
      · rw [if_neg c2]
        by_cases c3 : s = 3
        · rw [if_pos c3]
          cases hq : V.1.1 with
          | nil => exact qPI_err (by decide) _ h
          | cons x st => exact qShutTo_I st.length true hV h
        · rw [if_neg c3]
          by_cases c4 : s = 4
          · obtain ⟨n, h1, h2, h3⟩ := hk.2.2.1 c4
            have h3 : v = qn n := h3
            rw [if_pos c4, h3, qn_c (by omega)]
            exact qRd_I (by omega) (by omega) hp hV h
          · rw [if_neg c4]
            by_cases c5 : s = 5
            · rw [if_pos c5]
              split
              · exact h
              · exact qRd_I (by omega) (by omega) hp hV h
            · rw [if_neg c5]
              by_cases c6 : s = 6
              · obtain ⟨n, h1, h2⟩ := hk.2.2.2.1 c6
                have h2 : v = qn n := h2
                rw [if_pos c6, h2, qn_c (by omega)]
                exact hA n p B V h1 hp hV h
              · rw [if_neg c6]
                exact qPI_err (by decide) _ h
theorem qStep_I {sw : Nat → Nat} {ent : Nat → Nat → qV → qV} {i p C : Nat} {Q : qQ} (hA : ∀ e p B V, e < 6 → p ≤ 600 → qVok G B V → qPI G V → qPI G (ent e p V)) (hk : ∀ k ∈ ks, qKok k) (hp : p ≤ 600) (hQ : qQok G C i Q) (h : qPI G Q.2.2.2) : qPI G (qStep G sw ent ks i p Q).2.2.2 := by
  obtain ⟨⟨B, hV, hB⟩, -, -⟩ := hQ
  unfold qStep
  cases hg : ks[i]? with
  | none => exact h
  | some q =>
    obtain ⟨s, v⟩ := q
    have hkk := hk _ (List.mem_of_getElem? hg)
    dsimp only
    by_cases c1 : 0 < Q.2.1
    · rw [if_pos c1]
      have h9 : ∀ (R : Prop) [Decidable R], qPI G (if R then qRd G 10 (qPlain s v) p Q.2.2.2 else Q.2.2.2) := by
        intro R _
        split
        · exact qRd_I (t := 10) (l := qPlain s v) (by omega) (qPlain_rng hkk) hp hV h
        · exact h
      exact h9 _
    · rw [if_neg c1]
      by_cases c7 : s = 7
      · rw [if_pos c7]
        split
        · exact h
        · exact h
      · rw [if_neg c7]
        split
        · exact h
        · exact qTok_I hA hkk hp hV h
theorem qLoop_I {sw : Nat → Nat} {ent : Nat → Nat → qV → qV} {c : Nat} (hsw : ∀ j, j < 4 → sw j ≤ 2) (hc : 2 ≤ c) (hA0 : ∀ e p B V, e < 6 → p ≤ 600 → qVok G B V → qVok G (B + c) (ent e p V)) (hA : ∀ e p B V, e < 6 → p ≤ 600 → qVok G B V → qPI G V → qPI G (ent e p V)) (hk : ∀ k ∈ ks, qKok k) (h600 : ks.length ≤ 600) (pl : Option Nat) (hp : ∀ q, pl = some q → q ≤ 600) : ∀ n i C Q X, i + n = ks.length → qQok G C i Q → qPI G Q.2.2.2 → qPI G (qLoop G sw ent ks pl n i (Q, X)).1.2.2.2 := by
  intro n
  induction n with
  | zero => intro i C Q X _ _ h; exact h
  | succ n ih =>
    intro i C Q X hn hQ h
    have hpp : pl.getD i ≤ 600 := by
      cases pl with
      | none => simp; omega
      | some q => exact hp q rfl
    exact ih (i + 1) (C + c) _ _ (by omega) (qStep_ok hsw hc hA0 hk hpp hQ) (qStep_I hA hk hpp hQ h)
theorem qRow_I {sw : Nat → Nat} {ent : Nat → Nat → qV → qV} {c C : Nat} (hsw : ∀ j, j < 4 → sw j ≤ 2) (hc : 2 ≤ c) (hA0 : ∀ e p B V, e < 6 → p ≤ 600 → qVok G B V → qVok G (B + c) (ent e p V)) (hA : ∀ e p B V, e < 6 → p ≤ 600 → qVok G B V → qPI G V → qPI G (ent e p V)) (hk : ∀ k ∈ ks, qKok k) (h600 : ks.length ≤ 600) (pl : Option Nat) (hp : ∀ q, pl = some q → q ≤ 600) {V : qV} (X : List (qZ × Nat)) (hV : qVok G C V) (h : qPI G V) : qPI G (qRow G sw ent ks pl V X).1 := qErrs_I (by decide) _ _ _ (qLoop_I hsw hc hA0 hA hk h600 pl hp ks.length 0 C (0, 0, 1, V) X (by omega) ⟨⟨C, hV, by dsimp only; omega⟩, by dsimp only; omega, by dsimp only; omega⟩ h)
theorem qGo_I {sw : Nat → Nat} {en : Nat → List qK} (hE : qEok sw en) (hk : ∀ k ∈ ks, qKok k) (h600 : ks.length ≤ 600) (h : qPI G qV0) : qPI G (qGo G sw en ks).1 := by
  have h2 : ∀ e p B V, e < 6 → p ≤ 600 → qVok G B V → qPI G V → qPI G (qEnt2 e p V) := fun e p B V _ _ _ h => qPI_err (by decide) _ h
  have h1 : ∀ e0 e p B V, e < 6 → p ≤ 600 → qVok G B V → qPI G V → qPI G (qEnt1 G sw en e0 e p V) := by
    intro e0 e p B V he hp hV h
    unfold qEnt1
    split
    · exact qPI_err (by decide) _ h
    · obtain ⟨k1, k2⟩ := hE.1 e he
      exact qRow_I hE.2 (by omega) qEnt2_ok h2 k2 (by omega) (some p) (fun q h => by injection h; omega) [] hV h
  have h0 : ∀ e p B V, e < 6 → p ≤ 600 → qVok G B V → qPI G V → qPI G (qEnt0 G sw en e p V) := by
    intro e p B V he hp hV h
    obtain ⟨k1, k2⟩ := hE.1 e he
    exact qRow_I hE.2 (by omega) (qEnt1_ok hE e) (h1 e) k2 (by omega) (some p) (fun q h => by injection h; omega) [] hV h
  exact qRow_I (C := 0) hE.2 (by omega) (qEnt0_ok hE) h0 hk h600 none (fun q h => by cases h) _ qV0_ok h
/-- isSame tells whether nothing was too short -/
theorem qSame_is {A : qA} (hA : qAok A) : (qSh (qFA A).1 → qSameA A = false) ∧ (¬ qSh (qFA A).1 → qSameA A = true) := by
  obtain ⟨hg, hE, hn, hk⟩ := hA
  have h0 : qPI A.1 qV0 := ⟨⟨True.intro, [], rfl⟩, fun s => (by obtain ⟨e, he, _⟩ := s; cases he), fun _ => rfl⟩
  have h1 := qGo_I (G := A.1) hE hk (by omega) h0
  have h2 := qShutTo_I (p := A.2.2.2.1.length) 0 false (qGo_ok (G := A.1) hE hk (by omega)).1 h1
  have h3 : qPI A.1 (qFA A).1 := h2
  have h4 := (qFull_ok (G := A.1) hE hk (by omega)).2.2.2.2
  have h4 : (qFA A).1.1.1 = [] := h4
  have h5 : qCl A.1 (qFA A).1 = qForm A.1 (qFA A).1.2.2.1 := by
    unfold qCl qForm qOS
    rw [h4, List.map_nil, List.zip_nil_right]
    rfl
  obtain ⟨-, h6, h7⟩ := h3
  rw [h5] at h6 h7
  unfold qSameA
  refine ⟨fun c => ?_, fun c => ?_⟩
  · rw [h6 c]
  · rw [h7 c]
    simp [h4]
end
