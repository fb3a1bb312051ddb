/-! THE REFERENCE: any token; the rows of entities -/
section
variable {I : Nat → Nat → Int32} {G : qG} {V : qV} {p B lvl i : Nat} {ks : List qK} {sw : Nat → Nat} {en : Nat → List qK} {ent : Nat → Nat → qV → qV}
/-- a token that opens no entity -/
theorem rTok (hg9 : qGok G) (hB : B + 1 ≤ 4320) (hG : qRG G I) (hl : lvl < 3) {Q : qQ} (hok : qVok G B Q.2.2.2) (hp6 : p ≤ 600) (hp : lvl = 0 → p = i) (hS : qRst lvl i p Q I) (hQ : Q.1 + Q.2.1 < 600) (hk : qRk I lvl ks) (hn : ks.length ≤ 620) (hn6 : lvl = 0 ∨ ks.length ≤ 6) (hs8 : ∀ k ∈ ks, qKok k) (hE : qREn sw en I) (hEk : qEok sw en) {s : Nat} {v : Int32} (hg : ks[i]? = some (s, v)) (hc : 0 < Q.2.1 ∨ s ≠ 6) : ∃ J, fX8_readsToken 1 (qD I) = some (qn 0, qD J) ∧ qRst lvl (i + 1) (if lvl = 0 then i + 1 else p) (qStep G sw ent ks i p Q) J ∧ qFrL lvl I J := by
  by_cases c : 0 < Q.2.1
  · have hm := hS.2.2.1.2.2.1 c
    have hst : qStep G sw ent ks i p Q = (Q.1, (if s = 7 then Q.2.1 + 1 else if s = 8 then Q.2.1 - 1 else Q.2.1), Q.2.2.1, (if 0 < (if s = 7 then Q.2.1 + 1 else if s = 8 then Q.2.1 - 1 else Q.2.1) ∧ Q.2.2.1 = 2 then qRd G 10 (qPlain s v) p Q.2.2.2 else Q.2.2.2)) := by
      unfold qStep
      rw [hg]
      dsimp only
      rw [if_pos c]
    rw [hst]
    rcases hm.1 with h | h
    · have := rIgn hl hp hS hQ hk hn hn6 (fun k h => (hs8 k h).1) hg c h
      rw [if_neg (show ¬ (0 < (if s = 7 then Q.2.1 + 1 else if s = 8 then Q.2.1 - 1 else Q.2.1) ∧ Q.2.2.1 = 2) by omega)]
      exact this
    · have := rPln hg9 hB hG hl hok hp6 hp hS hQ hk hn hn6 hs8 hg c h
      have e : (if 0 < (if s = 7 then Q.2.1 + 1 else if s = 8 then Q.2.1 - 1 else Q.2.1) ∧ Q.2.2.1 = 2 then qRd G 10 (qPlain s v) p Q.2.2.2 else Q.2.2.2) = (if 0 < (if s = 7 then Q.2.1 + 1 else if s = 8 then Q.2.1 - 1 else Q.2.1) then qRd G 10 (qPlain s v) p Q.2.2.2 else Q.2.2.2) := by
        simp only [h, and_true]
      rw [e]
      exact this
  · exact rOrd hg9 hB hG hl hok hp6 hp hS hQ hk hn hn6 hs8 hE hEk hg (by omega) (by omega)
/-- an entity's token: its ways -/
theorem rEntBody (hl : lvl < 3) {Q : qQ} (hS : qRst lvl i p Q I) (hQ : Q.1 + Q.2.1 < 600) (hk : qRk I lvl ks) (hn : ks.length ≤ 620) (hn6 : lvl = 0 ∨ ks.length ≤ 6) (hs8 : ∀ k ∈ ks, qKok k) {v : Int32} (hg : ks[i]? = some (6, v)) (hc : Q.2.1 = 0) : fX8_readsToken 1 (qD I) = if qn lvl = 2 then fX8_readsToken_278 1 (qD I) else if qn lvl = 1 then (if I 28 1 = v then fX8_readsToken_278 1 (qD I) else fX8_readsToken_286 1 v (qD I)) else fX8_readsToken_286 1 v (qD I) := by
  have hbd := rBody hl hS (by omega) hk hn hn6 (fun k h => (hs8 k h).1) hg
  have hm0 : qMode Q.1 Q.2.1 Q.2.2.1 = 0 := by unfold qMode; rw [if_pos hc]
  rw [hm0] at hbd
  rw [hbd]
  unfold qTB
  rw [if_neg (show ¬ qn 0 = 1 by decide), if_neg (show ¬ qn 0 = 3 by decide), if_neg (show ¬ qn 0 = 2 by decide), if_neg (show ¬ qn 0 = 4 by decide), if_neg (show ¬ qn 6 = 0 by decide), if_neg (show ¬ qn 6 = 2 by decide), if_neg (show ¬ qn 6 = 1 by decide), if_neg (show ¬ qn 6 = 3 by decide), if_neg (show ¬ qn 6 = 4 by decide), if_neg (show ¬ qn 6 = 5 by decide), if_neg (show ¬ qn 6 = 7 by decide), if_neg (show ¬ qn 6 = 8 by decide), qzg_i (qdk_1 _), qD_I, hS.1, qdr_37, qzg_i (qdk_28 _), qzg_i (by rw [qdl_28]; exact qgd (n := 1) (by omega) (by omega)), qD_I]
  rfl
theorem rRing (hB : B + 1 ≤ 4320) (hl : lvl < 3) {Q : qQ} (hok : qVok G B Q.2.2.2) (hp : lvl = 0 → p = i) (hS : qRst lvl i p Q I) (hQ : Q.1 + Q.2.1 < 600) (hk : qRk I lvl ks) (hn : ks.length ≤ 620) (hn6 : lvl = 0 ∨ ks.length ≤ 6) (hs8 : ∀ k ∈ ks, qKok k) {v : Int32} (hg : ks[i]? = some (6, v)) (hc : Q.2.1 = 0) (hr : lvl = 2 ∨ lvl = 1 ∧ I 28 1 = v) (he : ent v.toNatClampNeg p Q.2.2.2 = qErr 4 p Q.2.2.2) : ∃ J, fX8_readsToken 1 (qD I) = some (qn 0, qD J) ∧ qRst lvl (i + 1) (if lvl = 0 then i + 1 else p) (qStep G sw ent ks i p Q) J ∧ qFrL lvl I J := by
  have her := qVok_err6 hok (by omega)
  rw [rEntBody hl hS hQ hk hn hn6 hs8 hg hc]
  obtain ⟨J, r1, r2, r3⟩ := rErr hS.2.2.2 (by omega) 4
  have hq : qStep G sw ent ks i p Q = (Q.1, Q.2.1, Q.2.2.1, qErr 4 p Q.2.2.2) := by
    unfold qStep qTok
    rw [hg]
    dsimp only
    rw [if_neg (by omega), if_neg (by omega), if_neg (by omega), if_neg (by omega), if_neg (by omega), if_neg (by omega), if_neg (by omega), if_neg (by omega), if_neg (by omega), if_pos rfl, he, hc]
  obtain ⟨K, k1, k2, k3⟩ := rDoneR hl hp hS r3 r2
  have h278 : fX8_readsToken_278 1 (qD I) = some (qn 0, qD K) := by
    unfold fX8_readsToken_278
    have r1 : fX8_fails 1 4 (qD I) = some (qn 0, qD J) := r1
    rw [qzg_i (qdk_1 _), r1, qzb_some]
    exact k1
  refine ⟨K, ?_, by rw [hq]; exact k2, k3⟩
  rcases hr with h | ⟨h, h2⟩
  · rw [h, if_pos (show qn 2 = 2 from rfl), h278]
  · rw [h, if_neg (show ¬ qn 1 = 2 by decide), if_pos (show qn 1 = 1 from rfl), if_pos h2, h278]
/-- into an entity -/
def qInto (lvl : Nat) (v : Int32) (I : Nat → Nat → Int32) : Nat → Nat → Int32 := qU (qU (qU (qU I 1 41 (qn (lvl + 1))) 28 (lvl + 1) v) 29 (lvl + 1) (qn 0)) 30 (lvl + 1) (qn 0)
theorem rEnter (hl : lvl < 2) {Q : qQ} (hS : qRst lvl i p Q I) (hQ : Q.1 + Q.2.1 < 600) (hk : qRk I lvl ks) (hn : ks.length ≤ 620) (hn6 : lvl = 0 ∨ ks.length ≤ 6) (hs8 : ∀ k ∈ ks, qKok k) {v : Int32} (hg : ks[i]? = some (6, v)) (hc : Q.2.1 = 0) (hr : lvl = 1 → ¬ I 28 1 = v) : fX8_readsToken 1 (qD I) = some (qn 0, qD (qInto lvl v I)) := by
  rw [rEntBody (by omega) hS hQ hk hn hn6 hs8 hg hc]
  have s1 := hS.1
  have h286 : fX8_readsToken_286 1 v (qD I) = some (qn 0, qD (qInto lvl v I)) := by
    unfold fX8_readsToken_286 qInto
    simp (disch := omega) only [↓qlet, eq_self, qzg_t, qzb_some, ↓reduceIte, not_or, not_false_eq_true, not_true_eq_false, and_true, true_and, and_self, or_false, false_or, true_or, or_true, and_false, false_and, qlit, qneg, qof, qn_add, qn_mul, qn_s, qn_z, qn_d, qn_dz, qm_1, qt_1, qt_0, qb_0, qb_1, qb_01, qb01b, q01_0, q01_1, qo_s, qo_n, qn_c, qn_le, qn_lt, qn_eq, qn_ne_m, qm_ne_n, qm_lt, qm_le, qn_lt_m, qn_le_m, qn_sub, qn_div, qn_mod, qle_t, qle_f, qlt_t, qlt_f, qeq_t, qeq_f, Nat.add_sub_cancel, qD_I, qD_s, qU_s, qU_a, qU_k, qdk_1, qdk_2, qdk_3, qdk_4, qdk_5, qdk_6, qdk_7, qdk_8, qdk_9, qdk_10, qdk_11, qdk_12, qdk_13, qdk_14, qdk_15, qdk_16, qdk_17, qdk_18, qdk_19, qdk_20, qdk_21, qdk_22, qdk_23, qdk_24, qdk_25, qdk_26, qdk_27, qdk_28, qdk_29, qdk_30, qdk_31, qdk_32, qdk_33, qdk_34, qdk_35, qdk_36, qdk_37, qdk_38, qdk_39, qdk_40, qdk_41, qdk_42, qdk_43, qdk_44, qdl_2, qdl_3, qdl_4, qdl_5, qdl_6, qdl_7, qdl_8, qdl_9, qdl_10, qdl_11, qdl_12, qdl_13, qdl_14, qdl_15, qdl_16, qdl_17, qdl_18, qdl_19, qdl_20, qdl_21, qdl_22, qdl_23, qdl_24, qdl_25, qdl_26, qdl_27, qdl_28, qdl_29, qdl_30, qdl_31, qdl_32, qdl_33, qdl_34, qdl_35, qdl_36, qdl_37, qdl_38, qdl_39, qdl_40, qdl_41, qdl_42, qdl_43, qdl_44, qdr_0, qdr_1, qdr_2, qdr_3, qdr_4, qdr_5, qdr_6, qdr_7, qdr_8, qdr_9, qdr_10, qdr_11, qdr_12, qdr_15, qdr_16, qdr_19, qdr_20, qdr_21, qdr_22, qdr_26, qdr_27, qdr_28, qdr_29, qdr_30, qdr_34, qdr_35, qdr_37, qdr_38, qdr_39, qdr_40, qdr_42, qdr_43, qdr_44, qdr_45, qdr_46, qdr_47, qdr_48, qdr_49, qdr_50, qdr_51, qdr_53, qdr_54, qdr_55, s1]
  rw [if_neg (show ¬ qn lvl = 2 from fun h => by have h : qn lvl = qn 2 := h; rw [qn_eq (by omega) (by omega)] at h; omega), h286]
  by_cases c : lvl = 1
  · rw [if_neg (hr c), ite_self]
  · rw [if_neg (show ¬ qn lvl = 1 from fun h => by have h : qn lvl = qn 1 := h; rw [qn_eq (by omega) (by omega)] at h; omega)]
theorem qInto_st (hl : lvl < 2) {Q : qQ} (hS : qRst lvl i p Q I) (v : Int32) : qRst (lvl + 1) 0 p (0, 0, 1, Q.2.2.2) (qInto lvl v I) ∧ qFrL lvl I (qInto lvl v I) ∧ qInto lvl v I 28 (lvl + 1) = v ∧ qInto lvl v I 29 lvl = qn i ∧ qRm (qInto lvl v I) lvl Q.1 Q.2.1 Q.2.2.1 := by
  obtain ⟨s1, s2, s3, s4⟩ := hS
  obtain ⟨m1, m2, m3, m4⟩ := s3
  unfold qInto
  refine ⟨⟨?_, ?_, ⟨?_, ?_, ?_, ?_⟩, ?_⟩, ⟨?_, ?_, ?_, ?_, ?_⟩, ?_, ?_, ⟨?_, ?_, ?_, ?_⟩⟩
  · simp (disch := omega) only [qU_s, qU_a, qU_k]
  · simp (disch := omega) only [qU_s, qU_a, qU_k]
  · simp (disch := omega) only [qU_s, qU_a, qU_k]
  · intro j hj; have hj : j < 0 := hj; omega
  · intro h; have h : 0 < 0 := h; omega
  · intro j h1 h2; have h2 : j < 0 + 0 := h2; omega
  · exact qRV_fr s4 (fun k hk => by simp (disch := omega) only [qU_s, qU_a, qU_k]) (fun a h1 h2 => by simp (disch := omega) only [qU_r]) (by simp (disch := omega) only [qU_s, qU_a, qU_k]; exact s4.2.2.2.2.2.2.2.2)
  · intro a h1 h2; simp (disch := omega) only [qU_r]
  · intro k _ _ _ _ _ _ _ _; simp (disch := omega) only [qU_s, qU_a, qU_k]
  · intro j hj; simp (disch := omega) only [qU_s, qU_a, qU_k]
  · intro j hj; exact ⟨by simp (disch := omega) only [qU_s, qU_a, qU_k], by simp (disch := omega) only [qU_s, qU_a, qU_k]⟩
  · intro j hj; simp (disch := omega) only [qU_s, qU_a, qU_k]
  · simp (disch := omega) only [qU_s, qU_a, qU_k]
  · simp (disch := omega) only [qU_s, qU_a, qU_k]; exact s2
  · simp (disch := omega) only [qU_s, qU_a, qU_k]; exact m1
  · intro j hj; simp (disch := omega) only [qU_s, qU_a, qU_k]; exact m2 j hj
  · intro h; simp (disch := omega) only [qU_s, qU_a, qU_k]; exact m3 h
  · intro j h1 h2; simp (disch := omega) only [qU_s, qU_a, qU_k]; exact m4 j h1 h2
end
