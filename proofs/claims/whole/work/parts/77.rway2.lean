/-! THE REFERENCE: whether a way is one -/
theorem qD0_is (G : qG) : ∀ (F : List qK) (Z : qZ), qD0 G F Z = match qWrs G F Z with
    | none => 0
    | some Z1 => qEnd0 Z1 := by
  intro F
  induction F with
  | nil => intro Z; rfl
  | cons k F ih =>
    intro Z
    unfold qD0 qWrs
    cases qWr G Z k.1 k.2.toNatClampNeg with
    | none => rfl
    | some Z1 => exact ih Z1
theorem qTgk_s {t : Nat} (h : t < 20) : qSimp (qTgk t) := by
  have h1 : t / 10 = 0 ∨ t / 10 = 1 := by omega
  have e : (qTgk t).1 = t / 10 := rfl
  have e2 : (qTgk t).2 = qn (t % 10) := rfl
  refine ⟨⟨by rw [e]; omega, fun _ => ⟨t % 10, by omega, e2⟩, fun c => by rw [e] at c; omega, fun c => by rw [e] at c; omega, fun c => by rw [e] at c; omega⟩, ?_⟩
  rw [e]; omega
theorem qIf_s {a : Option (Nat × Nat)} (ha : ∀ x, a = some x → x.2 < 20) (i : Nat) : (∀ k ∈ qIf a i, qSimp k) ∧ (qIf a i).length ≤ 1 := by
  unfold qIf
  cases a with
  | none => exact ⟨fun k hk => absurd hk (by simp), by simp⟩
  | some x =>
    dsimp only
    split
    · exact ⟨fun k hk => by rw [List.mem_singleton.mp hk]; exact qTgk_s (ha x rfl), by simp⟩
    · exact ⟨fun k hk => absurd hk (by simp), by simp⟩
theorem qBld_s {a b : Option (Nat × Nat)} (ha : ∀ x, a = some x → x.2 < 20) (hb : ∀ x, b = some x → x.2 < 20) : ∀ (l : List qK) i, (∀ k ∈ l, qSimp k) → (∀ k ∈ qBld a b i l, qSimp k) ∧ (qBld a b i l).length ≤ 3 * l.length + 2 := by
  intro l
  induction l with
  | nil =>
    intro i _
    obtain ⟨a1, a2⟩ := qIf_s ha i
    obtain ⟨b1, b2⟩ := qIf_s hb i
    unfold qBld
    refine ⟨fun k hk => ?_, by rw [List.length_append]; simp; omega⟩
    rcases List.mem_append.mp hk with h | h
    · exact a1 k h
    · exact b1 k h
  | cons q l ih =>
    intro i hq
    obtain ⟨a1, a2⟩ := qIf_s ha i
    obtain ⟨b1, b2⟩ := qIf_s hb i
    obtain ⟨c1, c2⟩ := ih (i + 1) fun k hk => hq k (by simp [hk])
    unfold qBld
    refine ⟨fun k hk => ?_, by simp only [List.length_append, List.length_cons]; omega⟩
    rcases List.mem_append.mp hk with h | h
    · exact a1 k h
    · rcases List.mem_append.mp h with h | h
      · exact b1 k h
      · rcases List.mem_cons.mp h with h | h
        · rw [h]; exact hq q (by simp)
        · exact c1 k h
theorem qTs_le (F : List qK) : qTs F ≤ F.length := List.length_filter_le _ _
section
variable {I : Nat → Nat → Int32} {A : qA} {G : qG} {sw : Nat → Nat} {en : Nat → List qK} {ks : List qK} {a b : Option (Nat × Nat)}
def qFrW (I J : Nat → Nat → Int32) : Prop := (∀ a, a ≠ 1 → a ≤ 14 → J a = I a) ∧ J 1 13 = I 1 13 ∧ J 1 14 = I 1 14 ∧ J 1 18 = I 1 18 ∧ J 1 56 = I 1 56
theorem qFrW_tr {I J K : Nat → Nat → Int32} (h : qFrW I J) (k : qFrW J K) : qFrW I K := ⟨fun a h1 h2 => by rw [k.1 a h1 h2, h.1 a h1 h2], by rw [k.2.1, h.2.1], by rw [k.2.2.1, h.2.2.1], by rw [k.2.2.2.1, h.2.2.2.1], by rw [k.2.2.2.2, h.2.2.2.2]⟩
theorem qFrW_refl (I : Nat → Nat → Int32) : qFrW I I := ⟨fun _ _ _ => rfl, rfl, rfl, rfl, rfl⟩
/-- what trying ways needs -/
def qWn (G : qG) (sw : Nat → Nat) (en : Nat → List qK) (ks : List qK) (I : Nat → Nat → Int32) : Prop := qRG G I ∧ qREn sw en I ∧ qRT I ks ∧ I 1 18 = qn 0
theorem qWn_fr {J : Nat → Nat → Int32} (h : qWn G sw en ks I) (hf : qFrW I J) : qWn G sw en ks J := ⟨qRG_fr h.1 fun a h1 h2 => hf.1 a (by omega) (by omega), qREn_fr h.2.1 fun a h1 h2 => hf.1 a (by omega) (by omega), qRT_fr h.2.2.1 hf.2.1 (hf.1 13 (by omega) (by omega)) (hf.1 14 (by omega) (by omega)), by rw [hf.2.2.2.1]; exact h.2.2.2⟩
def qIsW (G : qG) (ks : List qK) (a b : Option (Nat × Nat)) : Nat := qD0 G (qBld a b 0 ks) qZ0
theorem rIsWay (hg : qGok G) (hEk : qEok sw en) (hs : ∀ k ∈ ks, qSimp k) (h6 : ks.length ≤ 6) (ha : ∀ x, a = some x → x.1 ≤ 60 ∧ x.2 < 20) (hb : ∀ x, b = some x → x.1 ≤ 60 ∧ x.2 < 20) (hW : qWn G sw en ks I) : qIsW G ks a b ≤ 1 ∧ ∃ J, fX8_isWay 1 (qa1 a) (qa2 a) (qa1 b) (qa2 b) (qD I) = some (qn (qIsW G ks a b), qD J) ∧ qFrW I J := by
  obtain ⟨F, hF⟩ : ∃ F, F = qBld a b 0 ks := ⟨_, rfl⟩
  obtain ⟨s1, s2⟩ := qBld_s (fun x h => (ha x h).2) (fun x h => (hb x h).2) ks 0 hs
  rw [← hF] at s1 s2
  have hts := qTs_le F
  have hc := qRun_c (G := G) s1 (by omega) (by omega)
  have hq : qIsW G ks a b = if qClnB (qRun G F) = true then 1 else 0 := by
    unfold qIsW
    rw [← hF, qD0_is]
    cases hw : qWrs G F qZ0 with
    | none =>
      rw [hw] at hc
      dsimp only at hc ⊢
      rw [if_neg (fun h => hc ((qClnB_is _).mp h))]
    | some Z =>
      rw [hw] at hc
      dsimp only at hc ⊢
      unfold qEnd0
      by_cases c : Z.1 = []
      · rw [if_pos c, if_pos ((qClnB_is _).mpr (hc.1 c).1)]
      · rw [if_neg c, if_neg (fun h => hc.2 c ((qClnB_is _).mp h))]
  refine ⟨by rw [hq]; split <;> omega, ?_⟩
  have hT0 : qRT (qU I 1 17 (qn 0)) ks := qRT_fr hW.2.2.1 (qU_k (by omega)) (qU_r (by omega)) (qU_r (by omega))
  have hP0 : qRk (qU I 1 17 (qn 0)) 0 [] := by
    unfold qRk
    rw [if_pos rfl]
    exact ⟨qU_s .., fun i k h => by simp at h⟩
  obtain ⟨J, j1, j2, j3⟩ := rIsWay_8 ha hb (by omega) ks.length 0 [] (qU I 1 17 (qn 0)) 10000 (by omega) (by omega) (by simp) hT0 hP0
  rw [List.nil_append, List.drop_zero, ← hF] at j2
  have r1 : ∀ a, a ≠ 1 → a ≠ 15 → a ≠ 16 → J a = I a := fun a h1 h2 h3 => by rw [j3.1 a h1 h2 h3, qU_r h1]
  have r2 : ∀ k, k ≠ 17 → J 1 k = I 1 k := fun k h => by rw [j3.2 k h, qU_k h]
  obtain ⟨K, k1, k2, k3, k4⟩ := rRunRow (I := J) hg hEk s1 (by omega) (qRG_fr hW.1 fun a h1 h2 => r1 a (by omega) (by omega) (by omega)) (qREn_fr hW.2.1 fun a h1 h2 => r1 a (by omega) (by omega) (by omega)) j2 (by rw [r2 18 (by omega)]; exact hW.2.2.2)
  have w1 : ∀ k, k ≠ 17 → k ≠ 23 → k ≠ 24 → k ≠ 25 → k ≠ 31 → k ≠ 32 → k ≠ 33 → k ≠ 36 → k ≠ 41 → K 1 k = I 1 k := fun k h1 h2 h3 h4 h5 h6 h7 h8 h9 => by rw [k3.2.2 k h2 h3 h4 h5 h6 h7 h8 h9, r2 k h1]
  refine ⟨K, ?_, fun a h1 h2 => by rw [k3.1 a h1 (by omega), r1 a h1 (by omega) (by omega)], w1 13 (by omega) (by omega) (by omega) (by omega) (by omega) (by omega) (by omega) (by omega) (by omega), w1 14 (by omega) (by omega) (by omega) (by omega) (by omega) (by omega) (by omega) (by omega) (by omega), w1 18 (by omega) (by omega) (by omega) (by omega) (by omega) (by omega) (by omega) (by omega) (by omega), w1 56 (by omega) (by omega) (by omega) (by omega) (by omega) (by omega) (by omega) (by omega) (by omega)⟩
  have hv : qb (qClnB (qRun G F)) = qn (qIsW G ks a b) := by
    rw [hq]
    cases qClnB (qRun G F) <;> rfl
  have h99 : fX8_isWay_99 1 (qD J) = some (qn (qIsW G ks a b), qD K) := by
    unfold fX8_isWay_99
    rw [qzg_i (qdk_1 _), k1, qzb_some, qzg_i (qdk_1 _), k4, qzb_some, qzg_i (by cases qClnB (qRun G F) <;> decide), hv]
  have j1 : fX8_isWay_8 10000 1 (qa1 a) (qa2 a) (qa1 b) (qa2 b) 0 (qD (qU I 1 17 (qn 0))) = fX8_isWay_99 1 (qD J) := j1
  unfold fX8_isWay
  rw [qzg_i (qdk_1 _), qlet, qD_s, show (0 : Int32) = qn 0 from rfl]
  rw [show fX8_isWay_8 10000 1 (qa1 a) (qa2 a) (qa1 b) (qa2 b) (qn 0) (qD (qU I 1 17 (qn 0))) = fX8_isWay_99 1 (qD J) from j1, h99]
end
