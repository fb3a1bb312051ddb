/-! THE LAW: a row is gone through -/
/-- how far a row at a level is gone through -/
def qSta (G : qG) (sw : Nat → Nat) (en : Nat → List qK) (txt : List qK) (e0 lev : Nat) (pl : Option Nat) (ks : List qK) (I : Nat → Nat → Int32) (i : Nat) (Q : qQ) : Prop := qLG G I ∧ qLX I sw en txt ∧ (∃ p, (∀ q, pl = some q → p = q) ∧ qLV I p Q.2.2.2 false) ∧ qLok G Q.2.2.2 ∧ qLRow I en txt lev ks ∧ I 510 7 = qn lev ∧ I 510 (8 + lev) = qn i ∧ qLMk I lev Q.1 Q.2.1 Q.2.2.1 ∧ Q.1 + Q.2.1 ≤ i ∧ (pl = none ↔ lev = 0) ∧ (lev = 1 → e0 < 2 ∧ I 510 12 = qn e0) ∧ ∃ k, k ≤ 18 ∧ I 510 14 = qn k
/-- the states that are kept -/
def qXl (G : qG) (x : qZ × Nat) : Prop := (∀ y ∈ x.1.1, y.1 < 5 ∧ y.2 < 8 ∧ y.2 < 2 * qgN G y.1) ∧ x.1.1.length ≤ 9 ∧ ∀ e, x.1.2 = some e → e < 5
def qLWa (G : qG) (a : Nat) (W : Nat → Nat → Nat) (X : List (qZ × Nat)) : Prop := qAll (fun j x => W a j = qDig x.1.1 ∧ W a (24 + j) = 2 * qla x.1.2 + (if x.2 = 0 then 0 else 1) ∧ qXl G x) X
def qLW (G : qG) (W : Nat → Nat → Nat) (X : List (qZ × Nat)) : Prop := qLWa G 518 W X
theorem qXl_of {G : qG} {I : Nat → Nat → Int32} {V : qV} (hG : qLG G I) (hok : qLok G V) (m : Nat) : qXl G (V.1, m) := ⟨fun y hy => by
  obtain ⟨b1, b2⟩ := hok.2.2.1 y hy
  have := (hG _ b1).2.1
  exact ⟨b1, by omega, b2⟩, hok.1, hok.2.2.2.1⟩
def qRW (G : qG) (lev : Nat) (W : Nat → Nat → Nat) (X : List (qZ × Nat)) (i : Nat) : Prop := lev = 0 → qLW G W X ∧ X.length = i + 1
def qFrW (lev : Nat) (W W' : Nat → Nat → Nat) : Prop := (¬ lev = 0 → W' = W) ∧ W' 519 = W 519
/-- too much was put into the law's rows -/
def qBad (w : Bool) (G : qG) (C : Nat) (I : Nat → Nat → Int32) (W : Nat → Nat → Nat) : Prop := ∃ c, c ≤ C ∧ ∃ J W', (∀ m, lR (m + c) (qL w I W) = lF (qL w J W')) ∧ (∃ p V, qLV J p V true ∧ qLok G V) ∧ (∃ k, k ≤ 18 ∧ J 510 14 = qn k) ∧ (∀ a, (a ≤ 509 ∨ 518 ≤ a) → J a = I a) ∧ W' 519 = W 519
def qGood (w : Bool) (C lev : Nat) (I : Nat → Nat → Int32) (W : Nat → Nat → Nat) (P : (Nat → Nat → Int32) → (Nat → Nat → Nat) → Prop) : Prop := ∃ c, c ≤ C ∧ ∃ J W', (∀ m, lR (m + c) (qL w I W) = lR m (qL w J W')) ∧ qFrO lev I J ∧ qFrW lev W W' ∧ P J W'
theorem qFrW_refl (lev : Nat) (W : Nat → Nat → Nat) : qFrW lev W W := ⟨fun _ => rfl, rfl⟩
theorem qFrW_tr {lev : Nat} {W X Y : Nat → Nat → Nat} (h : qFrW lev W X) (k : qFrW lev X Y) : qFrW lev W Y := ⟨fun c => by rw [k.1 c, h.1 c], by rw [k.2, h.2]⟩
theorem qBad_le {w : Bool} {G : qG} {C D : Nat} {I : Nat → Nat → Int32} {W : Nat → Nat → Nat} (h : qBad w G C I W) (hl : C ≤ D) : qBad w G D I W := by
  obtain ⟨c, h1, h2⟩ := h
  exact ⟨c, by omega, h2⟩
/-- behind good steps a bad one -/
theorem qBad_tr {w : Bool} {G : qG} {C D lev : Nat} {I J : Nat → Nat → Int32} {W W' : Nat → Nat → Nat} {c : Nat} (hc : c ≤ C) (he : ∀ m, lR (m + c) (qL w I W) = lR m (qL w J W')) (hF : qFrO lev I J) (hW : W' 519 = W 519) (h : qBad w G D J W') : qBad w G (C + D) I W := by
  obtain ⟨d, d1, K, Y, d2, d3, d4, d5, d6⟩ := h
  refine ⟨c + d, by omega, K, Y, fun m => ?_, d3, d4, fun a ha => by rw [d5 a ha, hF.1 a ha], by rw [d6, hW]⟩
  rw [show m + (c + d) = (m + d) + c by omega, he, d2]
theorem qGood_tr {w : Bool} {C D lev : Nat} {I J : Nat → Nat → Int32} {W W' : Nat → Nat → Nat} {c : Nat} {P : (Nat → Nat → Int32) → (Nat → Nat → Nat) → Prop} (hc : c ≤ C) (he : ∀ m, lR (m + c) (qL w I W) = lR m (qL w J W')) (hF : qFrO lev I J) (hW : qFrW lev W W') (h : qGood w D lev J W' P) : qGood w (C + D) lev I W P := by
  obtain ⟨d, d1, K, Y, d2, d3, d4, d5⟩ := h
  refine ⟨c + d, by omega, K, Y, fun m => ?_, qFrO_tr hF d3, qFrW_tr hW d4, d5⟩
  rw [show m + (c + d) = (m + d) + c by omega, he, d2]
theorem qLMk_fr2 {I J : Nat → Nat → Int32} {lev inc cov cover : Nat} (h : qLMk I lev inc cov cover) (hc : inc + cov ≤ 18) (h1 : J 510 (14 + lev) = I 510 (14 + lev)) (h2 : ∀ q, q < 20 * (lev + 1) → J 512 q = I 512 q) : qLMk J lev inc cov cover := ⟨by rw [h1]; exact h.1, fun i hi => by rw [h2 _ (by omega)]; exact h.2.1 i hi, fun hc => ⟨(h.2.2.1 hc).1, by rw [h2 _ (by omega)]; exact (h.2.2.1 hc).2⟩, fun i h3 h4 => by rw [h2 _ (by omega)]; exact h.2.2.2 i h3 h4⟩
theorem qLW_push {G : qG} {W : Nat → Nat → Nat} {X : List (qZ × Nat)} (h : qLW G W X) {i : Nat} (hX : X.length = i) (hi : i ≤ 18) (Z : qZ) (m : Nat) (hZ : qXl G (Z, m)) : qLW G (qWk W i Z m) ((Z, m) :: X) := by
  refine ⟨⟨?_, ?_, hZ⟩, qAll_mono h fun j x hj _ hp => ⟨?_, ?_, hp.2.2⟩⟩
  · rw [hX]; unfold qWk qUN
    rw [if_neg (by omega), if_pos ⟨rfl, rfl⟩]
  · rw [hX]; unfold qWk qUN
    rw [if_pos ⟨rfl, rfl⟩]
  · unfold qWk qUN
    rw [if_neg (by omega), if_neg (by omega)]
    exact hp.1
  · unfold qWk qUN
    rw [if_neg (by omega), if_neg (by omega)]
    exact hp.2.1
theorem qWk_519 (W : Nat → Nat → Nat) (i : Nat) (Z : qZ) (m : Nat) : qWk W i Z m 519 = W 519 := by
  funext k
  unfold qWk qUN
  rw [if_neg (by omega), if_neg (by omega)]
section
variable {w : Bool} {I : Nat → Nat → Int32} {W : Nat → Nat → Nat} {G : qG} {sw : Nat → Nat} {en : Nat → List qK} {txt ks : List qK} {lev e0 : Nat} {pl : Option Nat} {X : List (qZ × Nat)}
/-- one token that is no ENTITY that is gone into -/
theorem lTok (hg : qGok G) {i s n : Nat} {Q : qQ} (hS : qSta G sw en txt e0 lev pl ks I i Q) (hW : qRW G lev W X i) (hi : ks[i]? = some (s, qn n)) (hn : n < 128) (ent : Nat → Nat → qV → qV) (hent : s = 6 → Q.2.1 = 0 → (lev = 2 ∨ lev = 1 ∧ I 510 12 = qn n) ∧ ∀ p U, ent n p U = qErr 4 p U) :
    qGood w 1 lev I W (fun J W' => qSta G sw en txt e0 lev pl ks J (i + 1) (qStep G sw ent ks i (pl.getD i) Q) ∧ qRW G lev W' (if pl = none then ((qStep G sw ent ks i (pl.getD i) Q).2.2.2.1, (qStep G sw ent ks i (pl.getD i) Q).1 + (qStep G sw ent ks i (pl.getD i) Q).2.1) :: X else X) (i + 1)) ∨ qBad w G 2 I W := by
  obtain ⟨hG, hX, ⟨p, hp, hV⟩, hok, hr, h7, h8, hM, hc, hpl, he0, k14, hk14, h14⟩ := hS
  obtain ⟨inc, cov, cover, V⟩ := Q
  dsimp only at hV hok hM hc hent
  obtain ⟨l1, l2, l3⟩ := qLRow_l hX hr
  have hil : i < ks.length := (List.getElem?_eq_some_iff.mp hi).1
  have hpp : (if lev = 0 then i else p) = pl.getD i := by
    by_cases c : lev = 0
    · rw [if_pos c, hpl.mpr c]; rfl
    · rw [if_neg c]
      cases hq : pl with
      | none => exact absurd (hpl.mp hq) c
      | some q => rw [hp q hq]; rfl
  obtain ⟨J, V', f', j1, j2, j3, j4, j5, j6, j7, j8, j9⟩ := lOne (w := w) (W := W) hg hG hV hok hX hr h7 hi hn h8 hM hc ent (fun a b => by
    obtain ⟨c1, c2⟩ := hent a b
    exact ⟨c1, fun U => c2 _ U⟩)
  rw [hpp] at j2 j7 j8 j9
  have hGJ := qFrO_G j4 hG
  generalize hQ' : qStep G sw ent ks i (pl.getD i) (inc, cov, cover, V) = Q' at j7 j8 j9 ⊢
  have hk := lKeepStep (w := w) (W := W) (lev := lev) hGJ j2 j3 j5 l2 (pos := i + 1) (mk := Q'.1 + Q'.2.1) (fun h => by
    subst h
    exact ⟨by omega, by omega, j6, j7.1⟩)
  have hhead : ∀ m, lR (m + 1) (qL w I W) = lR m (qL w J (if lev = 0 then qWk W (i + 1) V'.1 (Q'.1 + Q'.2.1) else W)) := fun m => by
    rw [lHead_tok hV hX hr h7 h8 hil m, j1, qzb_some, hk]
  have h14J : ∃ k, k ≤ 18 ∧ J 510 14 = qn k := by
    by_cases c : lev = 0
    · subst c
      exact ⟨Q'.1 + Q'.2.1, by omega, j7.1⟩
    · refine ⟨k14, hk14, ?_⟩
      rw [(j4.2.1 0 (by omega)).2]
      exact h14
  have h519 : (if lev = 0 then qWk W (i + 1) V'.1 (Q'.1 + Q'.2.1) else W) 519 = W 519 := by
    split
    · exact qWk_519 _ _ _ _
    · rfl
  cases f' with
  | true =>
    right
    refine ⟨2, Nat.le_refl _, J, _, fun m => ?_, ⟨_, _, j2, j3⟩, h14J, j4.1, h519⟩
    rw [show m + 2 = (m + 1) + 1 by omega, hhead (m + 1), lOver j2 j5 l2 m]
  | false =>
    left
    obtain ⟨-, hV'⟩ := j9 rfl
    subst hV'
    refine ⟨1, Nat.le_refl _, J, _, hhead, j4, ⟨fun c => by rw [if_neg c], h519⟩, ⟨hGJ, qFrO_X j4 hX, ⟨pl.getD i, fun q hq => by rw [hq]; rfl, j2⟩, j3, qFrO_R j4 hr, j5, j6, j7, j8, hpl, fun h => ⟨(he0 h).1, by rw [j4.2.2.1 1 (by omega) (by omega)]; exact (he0 h).2⟩, h14J⟩, fun h => ?_⟩
    obtain ⟨a1, a2⟩ := hW h
    subst h
    rw [if_pos (hpl.mpr rfl), if_pos rfl]
    exact ⟨qLW_push a1 a2 (by omega) _ _ (qXl_of hGJ j3 _), by rw [List.length_cons, a2]⟩
/-- an ENTITY that is gone into, up to the end of its row -/
theorem lEnt {i n C : Nat} {Q : qQ} (hS : qSta G sw en txt e0 lev pl ks I i Q) (hW : qRW G lev W X i) (hi : ks[i]? = some (6, qn n)) (hn : n < 128) (h0 : Q.2.1 = 0) (hl : lev = 0 ∨ lev = 1 ∧ ¬ e0 = n) (ent2 : Nat → Nat → qV → qV)
    (hrun : ∀ J, qSta G sw en txt n (lev + 1) (some (pl.getD i)) (en n) J 0 (0, 0, 1, Q.2.2.2) → qGood w C (lev + 1) J W (fun K W' => qSta G sw en txt n (lev + 1) (some (pl.getD i)) (en n) K (en n).length (qLoop G sw ent2 (en n) (some (pl.getD i)) (en n).length 0 ((0, 0, 1, Q.2.2.2), [])).1) ∨ qBad w G C J W) :
    qGood w (C + 2) lev I W (fun J W' => qSta G sw en txt e0 lev pl ks J (i + 1) (Q.1, 0, Q.2.2.1, (qRow G sw ent2 (en n) (some (pl.getD i)) Q.2.2.2 []).1) ∧ qRW G lev W' (if pl = none then ((qRow G sw ent2 (en n) (some (pl.getD i)) Q.2.2.2 []).1.1, Q.1) :: X else X) (i + 1)) ∨ qBad w G (C + 3) I W := by
  obtain ⟨hG, hX, ⟨p, hp, hV⟩, hok, hr, h7, h8, hM, hc, hpl, he0, k14, hk14, h14⟩ := hS
  obtain ⟨inc, cov, cover, V⟩ := Q
  dsimp only at hV hok hM hc h0 hrun ⊢
  subst h0
  obtain ⟨l1, l2, l3⟩ := qLRow_l hX hr
  have hil : i < ks.length := (List.getElem?_eq_some_iff.mp hi).1
  have hpp : (if lev = 0 then i else p) = pl.getD i := by
    by_cases c : lev = 0
    · rw [if_pos c, hpl.mpr c]; rfl
    · rw [if_neg c]
      cases hq : pl with
      | none => exact absurd (hpl.mp hq) c
      | some q => rw [hp q hq]; rfl
  obtain ⟨J, j1, j2, j3, j4, j5, j6, j7, j8, j9, j10⟩ := lOneEnter (w := w) (W := W) hV hX hr h7 hi hn h8 hM (by omega) (by
    rcases hl with h | ⟨h, h2⟩
    · exact Or.inl h
    · exact Or.inr ⟨h, e0, (he0 h).1, h2, (he0 h).2⟩)
  rw [hpp] at j2
  have hGJ := qFrO_G j3 hG
  have hlev : lev ≤ 1 := by omega
  have hk := lKeepStep (w := w) (W := W) (lev := lev + 1) hGJ j2 hok j6 (by omega) (pos := 0) (mk := 0) (fun h => by omega)
  have hhead : ∀ m, lR (m + 1) (qL w I W) = lR m (qL w J W) := fun m => by
    rw [lHead_tok hV hX hr h7 h8 hil m, j1, qzb_some, hk, if_neg (by omega)]
  have h14J : ∃ k, k ≤ 18 ∧ J 510 14 = qn k := by
    by_cases c : lev = 0
    · subst c
      exact ⟨inc + 0, by omega, j5.1⟩
    · refine ⟨k14, hk14, ?_⟩
      rw [(j3.2.1 0 (by omega)).2]
      exact h14
  have hS1 : qSta G sw en txt n (lev + 1) (some (pl.getD i)) (en n) J 0 (0, 0, 1, V) := by
    have hM0 : qLMk J (lev + 1) 0 0 1 := ⟨j9, fun q hq => (by omega), fun h => absurd h (by decide), fun q h1 h2 => (by omega)⟩
    refine ⟨hGJ, qFrO_X j3 hX, ⟨_, fun q hq => (by cases hq; rfl), j2⟩, hok, Or.inr ⟨by omega, n, j10, j8, rfl⟩, j6, j7, hM0, Nat.le_refl _, ⟨(fun h => nomatch h), (fun h => absurd h (by omega))⟩, fun h => ⟨j10, ?_⟩, h14J⟩
    have h : lev = 0 := by omega
    subst h
    exact j8
  rcases hrun J hS1 with ⟨c, c1, K, W', c2, c3, c4, c5⟩ | hb
  · have hWW : W' = W := c4.1 (by omega)
    subst hWW
    obtain ⟨kG, kX, ⟨p2, kp, kV⟩, kok, kr, k7, k8, kM, kc, -, -, k14', hk14', hk14''⟩ := c5
    have kp2 := kp _ rfl
    rw [kp2] at kV
    have kl := (qLRow_l kX kr).1
    have hKM : qLMk K lev inc 0 cover := qLMk_fr2 j5 (by omega) ((c3.2.1 lev (by omega)).2) (fun q hq => c3.2.2.2 q hq)
    have hK8 : K 510 (8 + lev) = qn (i + 1) := by rw [(c3.2.1 lev (by omega)).1]; exact j4
    obtain ⟨N, V', f', n1, n2, n3, n4, n5, n6⟩ := lRowEnd (w := w) (W := W') (lev := lev) kG kV kok kX kr k7 k8 (show _ ≤ 18 by omega) kM.1 (pos := i + 1) (mk := inc) (fun h => by
      subst h
      exact ⟨by omega, by omega, hK8, hKM.1⟩)
    have hN8 : N 510 (8 + lev) = qn (i + 1) := by rw [(n4.2.1 lev (by omega)).1]; exact hK8
    have hNM : qLMk N lev inc 0 cover := qLMk_fr2 hKM (by omega) ((n4.2.1 lev (by omega)).2) (fun q hq => n4.2.2.2 q hq)
    have hF : qFrO lev I N := qFrO_tr j3 (qFrO_tr (qFrO_le c3 (by omega)) (qFrO_le n4 (by omega)))
    have h14N : ∃ k, k ≤ 18 ∧ N 510 14 = qn k := by
      by_cases c : lev = 0
      · subst c
        exact ⟨inc + 0, by omega, hNM.1⟩
      · refine ⟨k14, hk14, ?_⟩
        rw [(hF.2.1 0 (by omega)).2]
        exact h14
    have heq : ∀ m, lR (m + (c + 2)) (qL w I W') = lR m (qL w N (if lev = 0 then qWk W' (i + 1) V'.1 inc else W')) := fun m => by
      rw [show m + (c + 2) = ((m + 1) + c) + 1 by omega, hhead, c2, n1]
    have h519 : (if lev = 0 then qWk W' (i + 1) V'.1 inc else W') 519 = W' 519 := by
      split
      · exact qWk_519 _ _ _ _
      · rfl
    cases f' with
    | true =>
      right
      refine ⟨c + 3, by omega, N, _, fun m => ?_, ⟨_, _, n2, n3⟩, h14N, hF.1, h519⟩
      rw [show m + (c + 3) = (m + 1) + (c + 2) by omega, heq, lOver n2 n5 l2 m]
    | false =>
      left
      have hV' := n6 rfl
      have hrow : (qRow G sw ent2 (en n) (some (pl.getD i)) V []).1 = V' := by
        rw [hV']; rfl
      rw [hrow]
      refine ⟨c + 2, by omega, N, _, heq, hF, ⟨fun c => by rw [if_neg c], h519⟩, ⟨qFrO_G hF hG, qFrO_X hF hX, ⟨pl.getD i, fun q hq => by rw [hq]; rfl, n2⟩, n3, qFrO_R hF hr, n5, hN8, hNM, by show inc + 0 ≤ i + 1; omega, hpl, fun h => ⟨(he0 h).1, by rw [hF.2.2.1 1 (by omega) (by omega)]; exact (he0 h).2⟩, h14N⟩, fun h => ?_⟩
      obtain ⟨a1, a2⟩ := hW h
      subst h
      rw [if_pos (hpl.mpr rfl), if_pos rfl]
      exact ⟨qLW_push a1 a2 (by omega) _ _ (qXl_of (qFrO_G hF hG) n3 _), by rw [List.length_cons, a2]⟩
  · right
    exact qBad_le (qBad_tr (c := 1) (C := 1) (Nat.le_refl _) hhead j3 rfl hb) (by omega)
end
