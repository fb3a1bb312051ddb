/-! THE REFERENCE: ordinary tokens -/
theorem qgd {n m : Nat} (h : n < m) (hn : n < 2147483648) : ¬ (qn n < 0 ∨ m ≤ (qn n).toNatClampNeg) := by
  rw [qn_c hn]
  intro k
  rcases k with k | k
  · have k : qn n < qn 0 := k
    rw [qn_lt hn (by omega)] at k
    omega
  · omega
section
variable {I : Nat → Nat → Int32} {G : qG} {V : qV} {p B lvl i : Nat} {ks : List qK} {sw : Nat → Nat} {en : Nat → List qK} {ent : Nat → Nat → qV → qV}
theorem rReadsLine (hg9 : qGok G) (hB : B + 1 ≤ 4320) (hG : qRG G I) (hl : lvl < 3) {Q : qQ} (hok : qVok G B Q.2.2.2) (hp6 : p ≤ 600) (hp : lvl = 0 → p = i) (hS : qRst lvl i p Q I) (hQ : Q.1 + Q.2.1 < 600) (hk : qRk I lvl ks) (hn : ks.length ≤ 620) (hn6 : lvl = 0 ∨ ks.length ≤ 6) (hs8 : ∀ k ∈ ks, qKok k) (hi : i < 990) : ∃ J, fX8_readsLine 1 (qn i) (qD I) = some (qn 0, qD J) ∧ qRV J p (if qLine ks i = true then Q.2.2.2 else qRd G 10 32 p Q.2.2.2) ∧ qFrR I J := by
  obtain ⟨s1, s2, s3, s4⟩ := hS
  have h1 := rSortAh (I := I) (i := i) hl s1 hk hn hn6 (fun k h => (hs8 k h).1) (by omega)
  have h2 := rSortAt (I := I) (i := i + 1) hl s1 hk hn hn6 (fun k h => (hs8 k h).1) (by omega)
  have h3 : ∀ q, qAhead ks i = some q → q ≤ 8 := by
    unfold qAhead
    split
    · intro q h; cases h
    · exact qSo_lt fun k h => (hs8 k h).1
  have h4 := qSo_lt (ks := ks) (i := i + 1) fun k h => (hs8 k h).1
  obtain ⟨J1, r1, r2, r3⟩ := rRd (t := 10) (l := 32) (x2 := qn 32) (by omega) (by omega) (fun _ => rfl) hp6 hg9 (by omega) hG hok s4
  have he : ∃ J, fX8_readsLine 1 (qn i) (qD I) = some (qn 0, qD J) ∧ J = if qLine ks i = true then I else J1 := by
    refine ⟨_, ?_, rfl⟩
    unfold fX8_readsLine qLine
    simp (disch := omega) only [↓qlet, eq_self, qzg_t, qzb_some, qdk_1, qlit, qn_add, h1, h2, qo_eq h3, qo_eq h4]
    by_cases c1 : qAhead ks i = some 0
    · simp [c1]
    · by_cases c2 : qAhead ks i = some 2
      · simp [c2]
      · by_cases c3 : qSo ks (i + 1) = some 1
        · simp [c1, c2, c3]
        · by_cases c4 : qSo ks (i + 1) = some 3
          · simp [c1, c2, c4]
          · rw [if_neg c1, if_neg c2, if_neg c3, if_neg c4, r1, qzb_some]
            simp [c1, c2, c3, c4]
  obtain ⟨J, e1, e2⟩ := he
  refine ⟨J, e1, ?_⟩
  rw [e2]
  by_cases c : qLine ks i = true
  · rw [if_pos c, if_pos c]; exact ⟨s4, qFrR_refl I⟩
  · rw [if_neg c, if_neg c]; exact ⟨r2, r3⟩
theorem rOrd (hg9 : qGok G) (hB : B + 1 ≤ 4320) (hG : qRG G I) (hl : lvl < 3) {Q : qQ} (hok : qVok G B Q.2.2.2) (hp6 : p ≤ 600) (hp : lvl = 0 → p = i) (hS : qRst lvl i p Q I) (hQ : Q.1 + Q.2.1 < 600) (hk : qRk I lvl ks) (hn : ks.length ≤ 620) (hn6 : lvl = 0 ∨ ks.length ≤ 6) (hs8 : ∀ k ∈ ks, qKok k) (hE : qREn sw en I) (hEk : qEok sw en) {s : Nat} {v : Int32} (hg : ks[i]? = some (s, v)) (hc : Q.2.1 = 0) (hs6 : s ≠ 6) : ∃ J, fX8_readsToken 1 (qD I) = some (qn 0, qD J) ∧ qRst lvl (i + 1) (if lvl = 0 then i + 1 else p) (qStep G sw ent ks i p Q) J ∧ qFrL lvl I J := by
  have hbd := rBody hl hS (by omega) hk hn hn6 (fun k h => (hs8 k h).1) hg
  have hS0 := hS
  obtain ⟨s1, s2, s3, s4⟩ := hS
  have hkk := hs8 _ (List.mem_of_getElem? hg)
  have h8 : s ≤ 8 := hkk.1
  have hil := (List.getElem?_eq_some_iff.mp hg).1
  have hm0 : qMode Q.1 Q.2.1 Q.2.2.1 = 0 := by unfold qMode; rw [if_pos hc]
  rw [hm0] at hbd
  rw [hbd]
  have hst : s ≠ 7 → ¬ (s = 8 ∧ 0 < Q.1) → qStep G sw ent ks i p Q = (Q.1, Q.2.1, Q.2.2.1, qTok G ent ks i p s v Q.2.2.2) := by
    intro h1 h2
    unfold qStep
    rw [hg]
    dsimp only
    rw [if_neg (by omega), if_neg h1, if_neg h2, hc]
  have hfin : ∀ V', (∃ J, qFrR I J ∧ qRV J p V' ∧ fX8_readsToken_327 1 (qD J) = qTB 1 (qn i) (qn s) v (qn 0) (qD I)) → qStep G sw ent ks i p Q = (Q.1, Q.2.1, Q.2.2.1, V') → ∃ J, qTB 1 (qn i) (qn s) v (qn 0) (qD I) = some (qn 0, qD J) ∧ qRst lvl (i + 1) (if lvl = 0 then i + 1 else p) (qStep G sw ent ks i p Q) J ∧ qFrL lvl I J := by
    intro V' ⟨J, j1, j2, j3⟩ hq
    obtain ⟨K, k1, k2, k3⟩ := rDoneR hl hp hS0 j1 j2
    rw [hq]
    exact ⟨K, by rw [← j3]; exact k1, k2, k3⟩
  have her := qVok_err6 hok (by omega)
  have h07 : s = 0 ∨ s = 1 ∨ s = 2 ∨ s = 3 ∨ s = 4 ∨ s = 5 ∨ s = 7 ∨ s = 8 := by omega
  rcases h07 with c | c | c | c | c | c | c | c
  · subst c
    obtain ⟨n, n1, n2⟩ := hkk.2.1 (Or.inl rfl)
    have n2 : v = qn n := n2
    obtain ⟨J, r1, r2, r3⟩ := rRd (t := n) (l := 60) (x2 := 0) (by omega) (by omega) (fun h => by omega) hp6 hg9 (by omega) hG hok s4
    refine hfin _ ⟨J, r3, r2, ?_⟩ (by rw [hst (by omega) (by omega)]; unfold qTok; rw [if_pos rfl, n2, qn_c (by omega)])
    unfold qTB
    rw [if_neg (show ¬ qn 0 = 1 by decide), if_neg (show ¬ qn 0 = 3 by decide), if_neg (show ¬ qn 0 = 2 by decide), if_neg (show ¬ qn 0 = 4 by decide), if_pos (show qn 0 = 0 from rfl), qzg_i (qdk_1 _), n2, r1, qzb_some]
  · subst c
    obtain ⟨n, n1, n2⟩ := hkk.2.1 (Or.inr rfl)
    have n2 : v = qn n := n2
    obtain ⟨J, r1, r2, r3⟩ := rReadsEnd1 hg9 (by omega) hG hok s4 (e := n) (by omega)
    refine hfin _ ⟨J, r3, r2, ?_⟩ (by
      rw [hst (by omega) (by omega)]
      unfold qTok qShutO
      rw [if_neg (by omega), if_pos rfl, n2, qn_c (by omega)]
      cases qLast Q.2.2.2.1.1 n <;> rfl)
    unfold qTB fX8_readsToken_154
    rw [if_neg (show ¬ qn 0 = 1 by decide), if_neg (show ¬ qn 0 = 3 by decide), if_neg (show ¬ qn 0 = 2 by decide), if_neg (show ¬ qn 0 = 4 by decide), if_neg (show ¬ qn 1 = 0 by decide), if_neg (show ¬ qn 1 = 2 by decide), if_pos (show qn 1 = 1 from rfl), qzg_i (qdk_1 _), n2, r1, qzb_some]
  · subst c
    have h24 := s4.1.2.1
    cases hla : Q.2.2.2.1.2 with
    | none =>
      rw [hla] at h24
      obtain ⟨J, r1, r2, r3⟩ := rErr s4 (by omega) 1
      refine hfin _ ⟨J, r3, r2, ?_⟩ (by
        rw [hst (by omega) (by omega)]
        unfold qTok
        rw [if_neg (by omega), if_neg (by omega), if_pos rfl, hla])
      unfold qTB
      rw [if_neg (show ¬ qn 0 = 1 by decide), if_neg (show ¬ qn 0 = 3 by decide), if_neg (show ¬ qn 0 = 2 by decide), if_neg (show ¬ qn 0 = 4 by decide), if_neg (show ¬ qn 2 = 0 by decide), if_pos (show qn 2 = 2 from rfl), qzg_i (qdk_1 _), qD_I, h24, if_pos (show qo none = -1 from rfl)]
      have r1 : fX8_fails 1 1 (qD I) = some (qn 0, qD J) := r1
      rw [r1, qzb_some]
    | some e =>
      rw [hla] at h24
      have he := hok.1.2.2.1 e hla
      obtain ⟨J, r1, r2, r3⟩ := rRd (t := e) (l := 60) (x2 := 0) (by omega) (by omega) (fun h => by omega) hp6 hg9 (by omega) hG hok s4
      refine hfin _ ⟨J, r3, r2, ?_⟩ (by
        rw [hst (by omega) (by omega)]
        unfold qTok
        rw [if_neg (by omega), if_neg (by omega), if_pos rfl, hla])
      unfold qTB
      rw [if_neg (show ¬ qn 0 = 1 by decide), if_neg (show ¬ qn 0 = 3 by decide), if_neg (show ¬ qn 0 = 2 by decide), if_neg (show ¬ qn 0 = 4 by decide), if_neg (show ¬ qn 2 = 0 by decide), if_pos (show qn 2 = 2 from rfl), qzg_i (qdk_1 _), qD_I, h24, if_neg (show ¬ qo (some e) = -1 from fun h => by have h : qn e = qm := h; rw [qn_ne_m (by omega)] at h; exact h), qo_s, r1, qzb_some]
  · subst c
    obtain ⟨J, r1, r2, r3⟩ := rReadsEnd3 hg9 (by omega) hG hok s4 v
    refine hfin _ ⟨J, r3, r2, ?_⟩ (by
      rw [hst (by omega) (by omega)]
      unfold qTok
      rw [if_neg (by omega), if_neg (by omega), if_neg (by omega), if_pos rfl]
      cases Q.2.2.2.1.1 <;> rfl)
    unfold qTB fX8_readsToken_154
    rw [if_neg (show ¬ qn 0 = 1 by decide), if_neg (show ¬ qn 0 = 3 by decide), if_neg (show ¬ qn 0 = 2 by decide), if_neg (show ¬ qn 0 = 4 by decide), if_neg (show ¬ qn 3 = 0 by decide), if_neg (show ¬ qn 3 = 2 by decide), if_neg (show ¬ qn 3 = 1 by decide), if_pos (show qn 3 = 3 from rfl), qzg_i (qdk_1 _), r1, qzb_some]
  · subst c
    obtain ⟨n, n1, n2, n3⟩ := hkk.2.2.1 rfl
    have n3 : v = qn n := n3
    obtain ⟨J, r1, r2, r3⟩ := rRd (t := 10) (l := n) (x2 := qn n) (by omega) (by omega) (fun h => rfl) hp6 hg9 (by omega) hG hok s4
    refine hfin _ ⟨J, r3, r2, ?_⟩ (by
      rw [hst (by omega) (by omega)]
      unfold qTok
      rw [if_neg (by omega), if_neg (by omega), if_neg (by omega), if_neg (by omega), if_pos rfl, n3, qn_c (by omega)])
    unfold qTB
    have r1 : fX8_readsThing 1 10 (qn n) (qD I) = some (qn 0, qD J) := r1
    rw [if_neg (show ¬ qn 0 = 1 by decide), if_neg (show ¬ qn 0 = 3 by decide), if_neg (show ¬ qn 0 = 2 by decide), if_neg (show ¬ qn 0 = 4 by decide), if_neg (show ¬ qn 4 = 0 by decide), if_neg (show ¬ qn 4 = 2 by decide), if_neg (show ¬ qn 4 = 1 by decide), if_neg (show ¬ qn 4 = 3 by decide), if_pos (show qn 4 = 4 from rfl), qzg_i (qdk_1 _), n3, r1, qzb_some]
  · subst c
    obtain ⟨J, r1, r2, r3⟩ := rReadsLine hg9 hB hG hl hok hp6 hp hS0 hQ hk hn hn6 hs8 (by omega)
    refine hfin _ ⟨J, r3, r2, ?_⟩ (by
      rw [hst (by omega) (by omega)]
      unfold qTok
      rw [if_neg (by omega), if_neg (by omega), if_neg (by omega), if_neg (by omega), if_neg (by omega), if_pos rfl])
    unfold qTB
    rw [if_neg (show ¬ qn 0 = 1 by decide), if_neg (show ¬ qn 0 = 3 by decide), if_neg (show ¬ qn 0 = 2 by decide), if_neg (show ¬ qn 0 = 4 by decide), if_neg (show ¬ qn 5 = 0 by decide), if_neg (show ¬ qn 5 = 2 by decide), if_neg (show ¬ qn 5 = 1 by decide), if_neg (show ¬ qn 5 = 3 by decide), if_neg (show ¬ qn 5 = 4 by decide), if_pos (show qn 5 = 5 from rfl), qzg_i (qdk_1 _), r1, qzb_some]
  · subst c
    obtain ⟨n, n1, n2⟩ := hkk.2.2.2.2 rfl
    have n2 : v = qn n := n2
    have h12 := hE.2 n n1
    have hsw := hEk.2 n n1
    obtain ⟨m1, m2, m3, m4⟩ := s3
    have hO := rOpensMark (I := I) hl s1 m1 (by omega) (sw n)
    have hq : qStep G sw ent ks i p Q = (if sw n = 0 then (Q.1 + 1, 0, 0, Q.2.2.2) else (Q.1, 1, sw n, Q.2.2.2)) := by
      unfold qStep
      rw [hg]
      dsimp only
      rw [if_neg (by omega), if_pos rfl, n2, qn_c (by omega)]
    have hmm : qRm (qU (qU I 31 (620 * lvl + (Q.1 + Q.2.1)) (qn (sw n))) 30 lvl (qn (Q.1 + Q.2.1 + 1))) lvl (qStep G sw ent ks i p Q).1 (qStep G sw ent ks i p Q).2.1 (qStep G sw ent ks i p Q).2.2.1 := by
      rw [hq]
      by_cases c0 : sw n = 0
      · rw [if_pos c0, c0, hc]
        refine ⟨by rw [qU_s]; rfl, fun j hj => ?_, fun h => absurd (show 0 < 0 from h) (by omega), fun j h1 h2 => by have h1 : Q.1 + 1 < j := h1; have h2 : j < Q.1 + 1 + 0 := h2; omega⟩
        rw [qU_r (by omega)]
        by_cases cj : j = Q.1
        · subst cj; rw [Nat.add_zero, qU_s]
        · rw [qU_k (by omega)]
          have hj : j < Q.1 + 1 := hj
          exact m2 j (by omega)
      · rw [if_neg c0, hc]
        refine ⟨by rw [qU_s]; rfl, fun j hj => ?_, fun h => ⟨show sw n = 1 ∨ sw n = 2 by omega, ?_⟩, fun j h1 h2 => ?_⟩
        · have hj : j < Q.1 := hj
          rw [qU_r (by omega), qU_k (by omega)]; exact m2 j hj
        · rw [qU_r (by omega)]; exact qU_s ..
        · have h1 : Q.1 < j := h1
          have h2 : j < Q.1 + 1 := h2
          omega
    have hV2 : (qStep G sw ent ks i p Q).2.2.2 = Q.2.2.2 := by rw [hq]; split <;> rfl
    obtain ⟨K, k1, k2, k3⟩ := rDone (p := p) hl hp (by simp (disch := omega) only [qU_s, qU_a, qU_k]; exact s1) (by simp (disch := omega) only [qU_s, qU_a, qU_k]; exact s2) hmm (V := (qStep G sw ent ks i p Q).2.2.2) (by rw [hV2]; exact qRV_m s4)
    refine ⟨K, ?_, k2, qFrL_tr (qFrL_m (a := 0) (by omega)) k3⟩
    unfold qTB
    rw [if_neg (show ¬ qn 0 = 1 by decide), if_neg (show ¬ qn 0 = 3 by decide), if_neg (show ¬ qn 0 = 2 by decide), if_neg (show ¬ qn 0 = 4 by decide), if_neg (show ¬ qn 7 = 0 by decide), if_neg (show ¬ qn 7 = 2 by decide), if_neg (show ¬ qn 7 = 1 by decide), if_neg (show ¬ qn 7 = 3 by decide), if_neg (show ¬ qn 7 = 4 by decide), if_neg (show ¬ qn 7 = 5 by decide), if_pos (show qn 7 = 7 from rfl), qzg_i (qdk_1 _), qdr_10, qzg_i (qdk_12 _), n2, qzg_i (by rw [qdl_12]; exact qgd n1 (by omega)), qn_c (by omega), qD_I, h12, hO, qzb_some]
    exact k1
  · subst c
    obtain ⟨m1, m2, m3, m4⟩ := s3
    rw [hc, Nat.add_zero] at m1
    by_cases c0 : Q.1 = 0
    · obtain ⟨J, r1, r2, r3⟩ := rErr s4 (by omega) 5
      refine hfin _ ⟨J, r3, r2, ?_⟩ (by
        rw [hst (by omega) (by omega)]
        unfold qTok
        rw [if_neg (by omega), if_neg (by omega), if_neg (by omega), if_neg (by omega), if_neg (by omega), if_neg (by omega), if_neg (by omega)])
      unfold qTB
      have r1 : fX8_fails 1 5 (qD I) = some (qn 0, qD J) := r1
      rw [if_neg (show ¬ qn 0 = 1 by decide), if_neg (show ¬ qn 0 = 3 by decide), if_neg (show ¬ qn 0 = 2 by decide), if_neg (show ¬ qn 0 = 4 by decide), if_neg (show ¬ qn 8 = 0 by decide), if_neg (show ¬ qn 8 = 2 by decide), if_neg (show ¬ qn 8 = 1 by decide), if_neg (show ¬ qn 8 = 3 by decide), if_neg (show ¬ qn 8 = 4 by decide), if_neg (show ¬ qn 8 = 5 by decide), if_neg (show ¬ qn 8 = 7 by decide), if_pos (show qn 8 = 8 from rfl), qzg_i (qdk_1 _), qdr_39, qzg_i (qdk_30 _), qD_I, qD_I, s1, qzg_i (by rw [qdl_30]; exact qgd hl (by omega)), qn_c (by omega), m1, c0, if_pos (show qn 0 = 0 from rfl), r1, qzb_some]
    · have hq : qStep G sw ent ks i p Q = (Q.1 - 1, 0, Q.2.2.1, Q.2.2.2) := by
        unfold qStep
        rw [hg]
        dsimp only
        rw [if_neg (by omega), if_neg (by omega), if_pos ⟨rfl, by omega⟩]
      have hmm : qRm (qU I 30 lvl (qn (Q.1 - 1))) lvl (qStep G sw ent ks i p Q).1 (qStep G sw ent ks i p Q).2.1 (qStep G sw ent ks i p Q).2.2.1 := by
        rw [hq]
        refine ⟨by rw [qU_s]; rfl, fun j hj => ?_, fun h => ?_, fun j h1 h2 => ?_⟩
        · have hj : j < Q.1 - 1 := hj
          rw [qU_r (by omega)]; exact m2 j (by omega)
        · have h : 0 < 0 := h
          omega
        · have h1 : Q.1 - 1 < j := h1
          have h2 : j < Q.1 - 1 + 0 := h2
          omega
      have hV2 : (qStep G sw ent ks i p Q).2.2.2 = Q.2.2.2 := by rw [hq]
      obtain ⟨K, k1, k2, k3⟩ := rDone (p := p) hl hp (by rw [qU_r (by omega)]; exact s1) (by rw [qU_r (by omega)]; exact s2) hmm (V := (qStep G sw ent ks i p Q).2.2.2) (by rw [hV2]; exact qRV_m1 s4)
      refine ⟨K, ?_, k2, qFrL_tr qFrL_m1 k3⟩
      unfold qTB
      have hgd : ¬ (qn lvl < 0 ∨ zl (qD I) 30 ≤ (qn lvl).toNatClampNeg) := by rw [qdl_30]; exact qgd hl (by omega)
      rw [if_neg (show ¬ qn 0 = 1 by decide), if_neg (show ¬ qn 0 = 3 by decide), if_neg (show ¬ qn 0 = 2 by decide), if_neg (show ¬ qn 0 = 4 by decide), if_neg (show ¬ qn 8 = 0 by decide), if_neg (show ¬ qn 8 = 2 by decide), if_neg (show ¬ qn 8 = 1 by decide), if_neg (show ¬ qn 8 = 3 by decide), if_neg (show ¬ qn 8 = 4 by decide), if_neg (show ¬ qn 8 = 5 by decide), if_neg (show ¬ qn 8 = 7 by decide), if_pos (show qn 8 = 8 from rfl), qzg_i (qdk_1 _), qdr_39, qzg_i (qdk_30 _), qD_I, qD_I, s1, qzg_i hgd, qn_c (by omega), m1, if_neg (show ¬ qn Q.1 = 0 from fun h => by have h : qn Q.1 = qn 0 := h; rw [qn_eq (by omega) (by omega)] at h; omega)]
      rw [qn_c (by omega)] at hgd
      rw [qzg_i hgd, qzg_i hgd, qlet, qD_s, show qn Q.1 - 1 = qn (Q.1 - 1) from (qn_sub (by omega) : qn Q.1 - qn 1 = qn (Q.1 - 1))]
      exact k1
end
