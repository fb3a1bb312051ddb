/-! THE REFERENCE: isSame, whole -/
section
variable {I : Nat → Nat → Int32} {A : qA}
/-- the text is read anew, after another row was read -/
theorem rAgain (hA : qRA I A) {J : Nat → Nat → Int32} (hf : ∀ a, a ≠ 1 → a ≤ 14 → J a = I a) (h13 : J 1 13 = I 1 13) (h14 : J 1 14 = I 1 14) : ∃ K, fX8_readsText 1 (qD J) = some (qn 0, qD K) ∧ qRA K A ∧ K 1 56 = J 1 56 := by
  obtain ⟨⟨hg, hEk, hn, hk⟩, hG, hE, hT, hV, hX, h14', h18⟩ := hA
  have hGJ : qRG A.1 J := qRG_fr hG fun a h1 h2 => hf a (by omega) (by omega)
  have hEJ : qREn A.2.1 A.2.2.1 J := qREn_fr hE fun a h1 h2 => hf a (by omega) (by omega)
  have hTJ : qRT J A.2.2.2.1 := qRT_fr hT h13 (hf 13 (by omega) (by omega)) (hf 14 (by omega) (by omega))
  obtain ⟨K, k1, k2, k3, k4, k5⟩ := rReadsText hg hEk hk hn hGJ hEJ hTJ
  refine ⟨K, k1, ⟨⟨hg, hEk, hn, hk⟩, qRG_fr hGJ fun a h1 h2 => k5.1 a (by omega) (by omega), qREn_fr hEJ fun a h1 h2 => k5.1 a (by omega) (by omega), qRT_fr hTJ (k5.2 13 (by omega) (by omega) (by omega) (by omega) (by omega) (by omega) (by omega) (by omega) (by omega) (by omega)) (k5.1 13 (by omega) (by omega)) (k5.1 14 (by omega) (by omega)), ?_, k3, by rw [k5.2 14 (by omega) (by omega) (by omega) (by omega) (by omega) (by omega) (by omega) (by omega) (by omega) (by omega), h14]; exact h14', k4⟩, k5.2 56 (by omega) (by omega) (by omega) (by omega) (by omega) (by omega) (by omega) (by omega) (by omega) (by omega)⟩
  obtain ⟨z, h2, h3, h4, h5, h6, h7, h8, h9⟩ := k2
  exact ⟨h3, h4, h5, h7, h8⟩
theorem rSameQ (hA : qRA I A) : ∃ J, fX8_isSame 1 (qD I) = some (qb (qSameA A), qD J) ∧ qRA J A ∧ J 1 56 = qn 0 := by
  obtain ⟨J0, f1, f2, f3, f4⟩ := rForms (qRA_56 hA (qn 0))
  obtain ⟨s1, s2, s3, s4⟩ := qForm_simp hA.1
  obtain ⟨q1, q2⟩ := qSameA_c hA.1
  have hg := hA.1.1
  have hEk := hA.1.2.1
  have h300 := (qAok_X hA.1).2.2.1
  obtain ⟨F, hF⟩ : ∃ F, F = qForm A.1 (qFA A).1.2.2.1 := ⟨_, rfl⟩
  rw [← hF] at f2 s1 s2 s3 s4 q1 q2
  obtain ⟨N, hN⟩ : ∃ N, N = (qFA A).1.2.2.1.length := ⟨_, rfl⟩
  have v31 : J0 1 31 = qn N := by rw [hN]; exact f4.2.2.2.2.1.1
  have vth := f4.2.2.2.2.1.2.1
  obtain ⟨J1, a1, a2, a3, a4⟩ := rSame16 (N := N) (by omega) N 0 J0 10000 (by omega) (by omega)
  have j52 : J1 1 52 = qn F.length := by rw [a2 1 (by omega) (by omega) (by omega)]; exact f2.1
  obtain ⟨J2, hJ2⟩ : ∃ J2, J2 = qU J1 1 17 (qn F.length) := ⟨_, rfl⟩
  obtain ⟨J3, b1, b2, b3, b4⟩ := rSame73 (N := N) s2 F.length 0 J2 10000 (by omega) (by omega) (by rw [hJ2, qU_k (by omega)]; exact j52)
  have t1 : ∀ a, a ≠ 1 → a ≠ 15 → a ≠ 16 → a ≠ 42 → a ≠ 43 → a ≠ 44 → J3 a = J0 a := fun a h1 h2 h3 h4 h5 h6 => by rw [b2 a h2 h3, hJ2, qU_r h1, a2 a h4 h5 h6]
  have t2 : ∀ k, k ≠ 17 → J3 1 k = J0 1 k := fun k h1 => by rw [b2 1 (by omega) (by omega), hJ2, qU_k (by omega), a2 1 (by omega) (by omega) (by omega)]
  have hk3 : qRk J3 0 F := by
    unfold qRk
    rw [if_pos rfl]
    refine ⟨by rw [b2 1 (by omega) (by omega), hJ2, qU_s], fun i k hi => ?_⟩
    have hil := (List.getElem?_eq_some_iff.mp hi).1
    obtain ⟨e1, e2⟩ := b4 i (by omega) hil
    rw [e1, e2, hJ2, qU_r (by omega), qU_r (by omega), a2 40 (by omega) (by omega) (by omega), a2 41 (by omega) (by omega) (by omega)]
    exact f2.2 i k hi
  obtain ⟨J4, c1, c2, c3, c4⟩ := rRunRow (I := J3) hg hEk s1 s2 (qRG_fr f4.2.1 fun a h1 h2 => t1 a (by omega) (by omega) (by omega) (by omega) (by omega) (by omega)) (qREn_fr f4.2.2.1 fun a h1 h2 => t1 a (by omega) (by omega) (by omega) (by omega) (by omega) (by omega)) hk3 (by rw [t2 18 (by omega)]; exact f4.2.2.2.2.2.2.2)
  have u1 : ∀ k, k ≠ 17 → k ≠ 23 → k ≠ 24 → k ≠ 25 → k ≠ 31 → k ≠ 32 → k ≠ 33 → k ≠ 36 → k ≠ 41 → J4 1 k = J0 1 k := fun k h1 h2 h3 h4 h5 h6 h7 h8 h9 => by rw [c3.2.2 k h2 h3 h4 h5 h6 h7 h8 h9, t2 k h1]
  obtain ⟨J5, d1, d2, d3⟩ := rAgain f4 (J := J4) (fun a h1 h2 => by rw [c3.1 a h1 (by omega), t1 a h1 (by omega) (by omega) (by omega) (by omega) (by omega)]) (u1 13 (by omega) (by omega) (by omega) (by omega) (by omega) (by omega) (by omega) (by omega) (by omega)) (u1 14 (by omega) (by omega) (by omega) (by omega) (by omega) (by omega) (by omega) (by omega) (by omega))
  have j56 : J5 1 56 = qn 0 := by
    rw [d3, u1 56 (by omega) (by omega) (by omega) (by omega) (by omega) (by omega) (by omega) (by omega) (by omega), f3.2 56 (by omega), qU_s]
  refine ⟨J5, ?_, d2, j56⟩
  have h204 : ∀ b : Bool, fX8_isSame_204 1 (qb b) (qD J4) = some (qb b, qD J5) := fun b => by
    unfold fX8_isSame_204
    rw [qzg_i (qdk_1 _), d1, qzb_some, qzg_i (by cases b <;> decide)]
  have h134 : fX8_isSame_134 1 (qn N) (qD J4) = some (qn 0, qD J5) := by
    unfold fX8_isSame_134 fX8_isSame_135
    rw [show (10000 : Nat) = 9999 + 1 from rfl, fX8_isSame_138, if_pos rfl]
    exact h204 false
  have h111 : fX8_isSame_111 1 (qn N) (qD J3) = some (qb (qSameA A), qD J5) := by
    unfold fX8_isSame_111
    rw [qzg_i (qdk_1 _), c1, qzb_some, qzg_i (qdk_1 _), c4, qzb_some, ← q1]
    cases hs : qSameA A with
    | false => rw [if_pos (show qb false = 0 from rfl), h134]; rfl
    | true =>
      have hm := q2 hs
      have hl : (qRun A.1 F).2.2.1.length = N := by
        have := congrArg List.length hm
        rw [List.length_map, List.length_map] at this
        rw [this, hN]
      have v4 : J4 1 31 = qn N := by rw [← hl]; exact c2.2.2.1
      have hcmp : ∀ j, j < N → J4 21 j = J4 42 j ∧ J4 22 j = J4 43 j ∧ J4 23 j = J4 44 j := by
        intro j hj
        obtain ⟨x, hx⟩ : ∃ x, (qFA A).1.2.2.1.reverse[j]? = some x := ⟨_, List.getElem?_eq_getElem (by rw [List.length_reverse, ← hN]; exact hj)⟩
        obtain ⟨y, hy⟩ : ∃ y, (qRun A.1 F).2.2.1.reverse[j]? = some y := ⟨_, List.getElem?_eq_getElem (by rw [List.length_reverse, hl]; exact hj)⟩
        have hxy : qKPL y = qKPL x := by
          have e1 : ((qRun A.1 F).2.2.1.map qKPL).reverse[j]? = some (qKPL y) := by rw [← List.map_reverse, List.getElem?_map, hy]; rfl
          have e2 : ((qFA A).1.2.2.1.map qKPL).reverse[j]? = some (qKPL x) := by rw [← List.map_reverse, List.getElem?_map, hx]; rfl
          rw [hm, e2] at e1
          exact (Option.some.inj e1).symm
        obtain ⟨x1, x2, x3, -⟩ := qAll_rev vth hx
        obtain ⟨y1, y2, y3, -⟩ := qAll_rev c2.2.2.2.1 hy
        have k1 : y.1 = x.1 := congrArg (fun z => z.1) hxy
        have k2 : y.2.1 = x.2.1 := congrArg (fun z => z.2.1) hxy
        have k3 : y.2.2.1 = x.2.2.1 := congrArg (fun z => z.2.2) hxy
        obtain ⟨z1, z2, z3⟩ := a4 j (by omega) hj
        have w : ∀ a, a = 42 ∨ a = 43 ∨ a = 44 → J4 a = J1 a := fun a ha => by rw [c3.1 a (by omega) (by omega), b2 a (by omega) (by omega), hJ2, qU_r (by omega)]
        rw [w 42 (by omega), w 43 (by omega), w 44 (by omega), z1, z2, z3, x1, x2, x3, y1, y2, y3, k1, k2, k3]
        exact ⟨rfl, rfl, rfl⟩
      have h138 := rSame138 (I := J4) (N := N) (by omega) hcmp N 0 10000 (by omega) (by omega)
      rw [if_neg (show ¬ qb true = 0 by decide), qzg_i (qdk_1 _), qD_I, v4, if_pos rfl]
      unfold fX8_isSame_135
      have h138 : fX8_isSame_138 10000 1 (qn N) 1 0 (qD J4) = fX8_isSame_204 1 (qn 1) (qD J4) := h138
      rw [h138]
      exact h204 true
  have b1 : fX8_isSame_73 10000 1 (qn N) 0 (qD J2) = fX8_isSame_111 1 (qn N) (qD J3) := b1
  have a1 : fX8_isSame_16 10000 1 (qn N) 0 (qD J0) = fX8_isSame_63 1 (qn N) (qD J1) := a1
  unfold fX8_isSame
  rw [qzg_i (qdk_1 _), qlet, qD_s, show (0 : Int32) = qn 0 from rfl, f1, qzb_some, qzg_i (qdk_1 _), qlet, qD_I, v31]
  rw [show qn 0 = (0 : Int32) from rfl, a1]
  unfold fX8_isSame_63
  rw [qzg_i (qdk_1 _), qlet, qD_I, j52, qD_s, ← hJ2, b1, h111]
end
