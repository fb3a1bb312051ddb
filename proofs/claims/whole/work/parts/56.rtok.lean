/-! THE REFERENCE: a token -/
def qREn (sw : Nat → Nat) (en : Nat → List qK) (I : Nat → Nat → Int32) : Prop := (∀ e, e < 6 → I 11 e = qn (en e).length ∧ ∀ j k, (en e)[j]? = some k → I 9 (6 * e + j) = qn k.1 ∧ I 10 (6 * e + j) = k.2) ∧ ∀ i, i < 4 → I 12 i = qn (sw i)
theorem qREn_fr {sw : Nat → Nat} {en : Nat → List qK} {I J : Nat → Nat → Int32} (h : qREn sw en I) (hf : ∀ a, 9 ≤ a → a ≤ 12 → J a = I a) : qREn sw en J := by
  unfold qREn
  rw [hf 9 (by omega) (by omega), hf 10 (by omega) (by omega), hf 11 (by omega) (by omega), hf 12 (by omega) (by omega)]
  exact h
/-- level, place in the row, marks, reading -/
def qRst (lvl i p : Nat) (Q : qQ) (I : Nat → Nat → Int32) : Prop := I 1 41 = qn lvl ∧ I 29 lvl = qn i ∧ qRm I lvl Q.1 Q.2.1 Q.2.2.1 ∧ qRV I p Q.2.2.2
theorem qRm_fr {I J : Nat → Nat → Int32} {lvl a b c : Nat} (h : qRm I lvl a b c) (h30 : J 30 = I 30) (h31 : J 31 = I 31) : qRm J lvl a b c := by
  unfold qRm
  rw [h30, h31]
  exact h
theorem qRV_fr {I J : Nat → Nat → Int32} {p p' : Nat} {V : qV} (hV : qRV I p V) (h1 : ∀ k, k ≠ 41 → J 1 k = I 1 k) (hf : ∀ a, 17 ≤ a → a ≤ 27 → J a = I a) (h29 : J 29 0 = qn p') : qRV J p' V := by
  obtain ⟨z, h2, h3, h4, h5, h6, h7, h8, h9⟩ := hV
  refine ⟨qRZ_fr z (h1 _ (by omega)) (h1 _ (by omega)) (h1 _ (by omega)) (hf _ (by omega) (by omega)) (hf _ (by omega) (by omega)) (hf _ (by omega) (by omega)), ?_, ?_, ?_, ?_, ?_, ?_, ?_, h29⟩
  · rw [hf _ (by omega) (by omega)]; exact h2
  · rw [h1 _ (by omega)]; exact h3
  · rw [hf 21 (by omega) (by omega), hf 22 (by omega) (by omega), hf 23 (by omega) (by omega), hf 24 (by omega) (by omega), hf 25 (by omega) (by omega)]; exact h4
  · rw [h1 _ (by omega)]; exact h5
  · rw [h1 _ (by omega)]; exact h6
  · rw [h1 _ (by omega)]; exact h7
  · rw [hf 26 (by omega) (by omega), hf 27 (by omega) (by omega)]; exact h8
set_option maxRecDepth 100000 in
/-- what a token brings, its sort, value and the innermost mark known -/
def qTB (x0 : Nat) (u50 r52 r56 r60 : Int32) (M61 : zM) : Option (Int32 × zM) := if r60 = 1 then fX8_readsToken_40 x0 r52 M61 else if r60 = 3 then fX8_readsToken_40 x0 r52 M61 else if r60 = 2 then fX8_readsToken_89 x0 r52 r56 M61 else if r60 = 4 then fX8_readsToken_89 x0 r52 r56 M61 else if r52 = 0 then zg (zk M61 x0 = 8) (zb (fX8_readsThing x0 r56 0 M61) fun r115 M116 => (fX8_readsToken_327 x0 M116)) else if r52 = 2 then zg (zk M61 x0 = 8) (if (zI M61 x0 24) = (-1) then zb (fX8_fails x0 1 M61) fun r111 M112 => (fX8_readsToken_327 x0 M112) else zb (fX8_readsThing x0 (zI M61 x0 24) 0 M61) fun r108 M109 => (fX8_readsToken_327 x0 M109)) else if r52 = 1 then fX8_readsToken_154 x0 r52 r56 M61 else if r52 = 3 then fX8_readsToken_154 x0 r52 r56 M61 else if r52 = 4 then zg (zk M61 x0 = 8) (zb (fX8_readsThing x0 10 r56 M61) fun r103 M104 => (fX8_readsToken_327 x0 M104)) else if r52 = 5 then zg (zk M61 x0 = 8) (zb (fX8_readsLine x0 u50 M61) fun r99 M100 => (fX8_readsToken_327 x0 M100)) else if r52 = 7 then zg (zk M61 x0 = 8) (zg (zk M61 (zR M61 x0 10) = 100) (zg (¬ (r56 < 0 ∨ zl M61 (zR M61 x0 10) ≤ r56.toNatClampNeg)) (zb (fX8_opensMark x0 (zI M61 (zR M61 x0 10) r56.toNatClampNeg) M61) fun r95 M96 => (fX8_readsToken_327 x0 M96)))) else if r52 = 8 then zg (zk M61 x0 = 8) (zg (zk M61 (zR M61 x0 39) = 100) (zg (¬ ((zI M61 x0 41) < 0 ∨ zl M61 (zR M61 x0 39) ≤ (zI M61 x0 41).toNatClampNeg)) (if (zI M61 (zR M61 x0 39) (zI M61 x0 41).toNatClampNeg) = 0 then zb (fX8_fails x0 5 M61) fun r89 M90 => (fX8_readsToken_327 x0 M90) else zg (¬ ((zI M61 x0 41) < 0 ∨ zl M61 (zR M61 x0 39) ≤ (zI M61 x0 41).toNatClampNeg)) (zg (¬ ((zI M61 x0 41) < 0 ∨ zl M61 (zR M61 x0 39) ≤ (zI M61 x0 41).toNatClampNeg)) (zlet (zsI M61 (zR M61 x0 39) (zI M61 x0 41).toNatClampNeg ((zI M61 (zR M61 x0 39) (zI M61 x0 41).toNatClampNeg) - 1)) fun M87 => (fX8_readsToken_327 x0 M87)))))) else zg (zk M61 x0 = 8) (if (zI M61 x0 41) = 2 then fX8_readsToken_278 x0 M61 else if (zI M61 x0 41) = 1 then zg (zk M61 (zR M61 x0 37) = 100) (zg (¬ ((1 : Int32) < 0 ∨ zl M61 (zR M61 x0 37) ≤ (1 : Int32).toNatClampNeg)) (if (zI M61 (zR M61 x0 37) (1 : Int32).toNatClampNeg) = r56 then fX8_readsToken_278 x0 M61 else fX8_readsToken_286 x0 r56 M61)) else fX8_readsToken_286 x0 r56 M61)
section
variable {I : Nat → Nat → Int32} {G : qG} {V : qV} {p B lvl i : Nat} {ks : List qK} {sw : Nat → Nat} {en : Nat → List qK}
/-- the end of a token -/
theorem rDone (hl : lvl < 3) {a b c : Nat} (hp : lvl = 0 → p = i) (hL : I 1 41 = qn lvl) (hi : I 29 lvl = qn i) (hm : qRm I lvl a b c) (hV : qRV I p V) : ∃ J, fX8_readsToken_327 1 (qD I) = some (qn 0, qD J) ∧ qRst lvl (i + 1) (if lvl = 0 then i + 1 else p) (a, b, c, V) J ∧ qFrL lvl I J := by
  refine ⟨_, rNext hl hL hi, ⟨?_, qU_s .., qRm_fr hm (qU_r (by omega)) (qU_r (by omega)), ?_⟩, ?_, ?_, ?_, ?_, ?_⟩
  · rw [qU_r (by omega)]; exact hL
  · refine qRV_fr hV (fun k _ => by rw [qU_r (by omega)]) (fun a h1 h2 => qU_r (by omega)) ?_
    by_cases c0 : lvl = 0
    · rw [if_pos c0]; subst c0; exact qU_s ..
    · rw [if_neg c0, qU_k (by omega)]; exact hV.2.2.2.2.2.2.2.2
  · intro a h1 h2; rw [qU_r (by omega)]
  · intro k _ _ _ _ _ _ _ _; rw [qU_r (by omega)]
  · intro j hj; rw [qU_r (by omega)]
  · intro j hj; rw [qU_k (by omega), qU_r (by omega)]; exact ⟨rfl, rfl⟩
  · intro j hj; rw [qU_r (by omega)]
/-- a thing was read, or there was an error, within a row -/
theorem rDoneR (hl : lvl < 3) {Q : qQ} (hp : lvl = 0 → p = i) (hS : qRst lvl i p Q I) {J : Nat → Nat → Int32} (hJ : qFrR I J) (hV : qRV J p V) : ∃ K, fX8_readsToken_327 1 (qD J) = some (qn 0, qD K) ∧ qRst lvl (i + 1) (if lvl = 0 then i + 1 else p) (Q.1, Q.2.1, Q.2.2.1, V) K ∧ qFrL lvl I K := by
  obtain ⟨s1, s2, s3, s4⟩ := hS
  obtain ⟨K, k1, k2, k3⟩ := rDone (I := J) (V := V) hl hp (by rw [hJ.2 41 (by omega) (by omega) (by omega) (by omega) (by omega) (by omega) (by omega)]; exact s1) (by rw [hJ.1 29 (by omega) (by omega)]; exact s2) (qRm_fr s3 (hJ.1 30 (by omega) (by omega)) (hJ.1 31 (by omega) (by omega))) hV
  exact ⟨K, k1, k2, qFrL_tr (qFrL_of hJ) k3⟩
/-- the ways of a token: what it is, and what the innermost mark says -/
theorem rFront (hl : lvl < 3) {Q : qQ} (hS : qRst lvl i p Q I) (hQ : Q.1 + Q.2.1 ≤ 600) (hk : qRk I lvl ks) (hn : ks.length ≤ 620) (hn6 : lvl = 0 ∨ ks.length ≤ 6) (hs8 : ∀ k ∈ ks, k.1 ≤ 8) {s : Nat} {v : Int32} (hg : ks[i]? = some (s, v)) : fX8_sortAt 1 (qn i) (qD I) = some (qn s, qD I) ∧ fX8_valueAt 1 (qn i) (qD I) = some (v, qD I) ∧ fX8_mode 1 (qD I) = some (qn (qMode Q.1 Q.2.1 Q.2.2.1), qD I) := by
  obtain ⟨s1, s2, s3, s4⟩ := hS
  have hil := (List.getElem?_eq_some_iff.mp hg).1
  refine ⟨?_, rValueAt hl s1 hk hn hn6 hg, rMode hl s1 s3 hQ⟩
  have h := rSortAt (i := i) hl s1 hk hn hn6 hs8 (by omega)
  have e : qSo ks i = some s := by unfold qSo; rw [hg]; rfl
  rw [e] at h
  exact h
theorem rBody (hl : lvl < 3) {Q : qQ} (hS : qRst lvl i p Q I) (hQ : Q.1 + Q.2.1 ≤ 600) (hk : qRk I lvl ks) (hn : ks.length ≤ 620) (hn6 : lvl = 0 ∨ ks.length ≤ 6) (hs8 : ∀ k ∈ ks, k.1 ≤ 8) {s : Nat} {v : Int32} (hg : ks[i]? = some (s, v)) : fX8_readsToken 1 (qD I) = qTB 1 (qn i) (qn s) v (qn (qMode Q.1 Q.2.1 Q.2.2.1)) (qD I) := by
  obtain ⟨f1, f2, f3⟩ := rFront hl hS hQ hk hn hn6 hs8 hg
  obtain ⟨s1, s2, s3, s4⟩ := hS
  have hgd : ¬ ((zI (qD I) 1 41) < 0 ∨ zl (qD I) 29 ≤ (zI (qD I) 1 41).toNatClampNeg) := by
    rw [qD_I, s1, qdl_29, qn_c (by omega)]
    intro h
    rcases h with h | h
    · have h : qn lvl < qn 0 := h
      rw [qn_lt (by omega) (by omega)] at h
      omega
    · omega
  have hu : zI (qD I) 29 (zI (qD I) 1 41).toNatClampNeg = qn i := by rw [qD_I, qD_I, s1, qn_c (by omega), s2]
  unfold fX8_readsToken
  rw [qzg_i (qdk_1 _), qdr_38, qzg_i (qdk_29 _), qzg_i hgd, qlet, hu, f1, qzb_some, qzg_i (qdk_1 _), f2, qzb_some, qzg_i (qdk_1 _), f3, qzb_some]
  rfl
/-- within IGNORE -/
theorem rIgn (hl : lvl < 3) {Q : qQ} (hp : lvl = 0 → p = i) (hS : qRst lvl i p Q I) (hQ : Q.1 + Q.2.1 < 600) (hk : qRk I lvl ks) (hn : ks.length ≤ 620) (hn6 : lvl = 0 ∨ ks.length ≤ 6) (hs8 : ∀ k ∈ ks, k.1 ≤ 8) {s : Nat} {v : Int32} (hg : ks[i]? = some (s, v)) (hc : 0 < Q.2.1) (hcov : Q.2.2.1 = 1) : ∃ J, fX8_readsToken 1 (qD I) = some (qn 0, qD J) ∧ qRst lvl (i + 1) (if lvl = 0 then i + 1 else p) (Q.1, (if s = 7 then Q.2.1 + 1 else if s = 8 then Q.2.1 - 1 else Q.2.1), Q.2.2.1, Q.2.2.2) J ∧ qFrL lvl I J := by
  have hbd := rBody hl hS (by omega) hk hn hn6 hs8 hg
  obtain ⟨s1, s2, s3, s4⟩ := hS
  have h8 := hs8 _ (List.mem_of_getElem? hg)
  have h8 : s ≤ 8 := h8
  obtain ⟨m1, m2, m3, m4⟩ := s3
  have hmode : qMode Q.1 Q.2.1 Q.2.2.1 = 1 ∨ qMode Q.1 Q.2.1 Q.2.2.1 = 3 := by unfold qMode; rw [hcov, if_neg (by omega)]; split <;> simp
  have hred : fX8_readsToken 1 (qD I) = fX8_readsToken_40 1 (qn s) (qD I) := by
    rw [hbd]
    unfold qTB
    rcases hmode with c | c <;> rw [c]
    · rw [if_pos (show qn 1 = 1 from rfl)]
    · rw [if_neg (show ¬ qn 3 = 1 by decide), if_pos (show qn 3 = 3 from rfl)]
  rw [hred]
  unfold fX8_readsToken_40 fX8_readsToken_51 fX8_readsToken_72
  by_cases c7 : s = 7
  · have hO := rOpensMark (I := I) hl s1 m1 (by omega) 3
    obtain ⟨K, k1, k2, k3⟩ := rDone (I := qU (qU I 31 (620 * lvl + (Q.1 + Q.2.1)) (qn 3)) 30 lvl (qn (Q.1 + Q.2.1 + 1))) (p := p) (a := Q.1) (b := Q.2.1 + 1) (c := Q.2.2.1) (V := Q.2.2.2) hl hp (by simp (disch := omega) only [qU_s, qU_a, qU_k]; exact s1) (by simp (disch := omega) only [qU_s, qU_a, qU_k]; exact s2) (by
        refine ⟨by rw [qU_s]; rfl, fun j hj => ?_, fun _ => ⟨(m3 hc).1, ?_⟩, fun j h1 h2 => ?_⟩
        · simp (disch := omega) only [qU_s, qU_a, qU_k]; exact m2 j hj
        · simp (disch := omega) only [qU_s, qU_a, qU_k]; exact (m3 hc).2
        · rw [qU_r (by omega)]
          by_cases cj : j = Q.1 + Q.2.1
          · subst cj; rw [qU_s, hcov]
          · rw [qU_k (by omega)]; exact m4 j h1 (by omega)) (qRV_fr s4 (fun k _ => by simp (disch := omega) only [qU_s, qU_a, qU_k]) (fun a h1 h2 => by simp (disch := omega) only [qU_r]) (by simp (disch := omega) only [qU_s, qU_a, qU_k]; exact s4.2.2.2.2.2.2.2.2))
    have hw : qU (qU (qU I 31 (620 * lvl + (Q.1 + Q.2.1)) (qn 3)) 30 lvl (qn (Q.1 + Q.2.1 + 1))) 30 lvl (qn (Q.1 + Q.2.1 + 1)) = qU (qU I 31 (620 * lvl + (Q.1 + Q.2.1)) (qn 3)) 30 lvl (qn (Q.1 + Q.2.1 + 1)) := qU_same (qU_s ..)
    refine ⟨K, ?_, by rw [if_pos c7]; exact k2, qFrL_tr ⟨fun a h1 h2 => by simp (disch := omega) only [qU_r], fun k _ _ _ _ _ _ _ _ => by simp (disch := omega) only [qU_s, qU_a, qU_k], fun j hj => by simp (disch := omega) only [qU_s, qU_a, qU_k], fun j hj => ⟨by simp (disch := omega) only [qU_s, qU_a, qU_k], by simp (disch := omega) only [qU_s, qU_a, qU_k]⟩, fun j hj => by simp (disch := omega) only [qU_s, qU_a, qU_k]⟩ k3⟩
    simp (disch := omega) only [↓qlet, eq_self, qzg_t, qzb_some, ↓reduceIte, not_or, not_false_eq_true, not_true_eq_false, and_true, true_and, and_self, or_false, false_or, true_or, or_true, and_false, false_and, qlit, qneg, qof, qn_add, qn_mul, qn_s, qn_z, qn_d, qn_dz, qm_1, qt_1, qt_0, qb_0, qb_1, qb_01, qb01b, q01_0, q01_1, qo_s, qo_n, qn_c, qn_le, qn_lt, qn_eq, qn_ne_m, qm_ne_n, qm_lt, qm_le, qn_lt_m, qn_le_m, qn_sub, qn_div, qn_mod, qle_t, qle_f, qlt_t, qlt_f, qeq_t, qeq_f, Nat.add_sub_cancel, qD_I, qD_s, qU_s, qU_a, qU_k, qdk_1, qdk_2, qdk_3, qdk_4, qdk_5, qdk_6, qdk_7, qdk_8, qdk_9, qdk_10, qdk_11, qdk_12, qdk_13, qdk_14, qdk_15, qdk_16, qdk_17, qdk_18, qdk_19, qdk_20, qdk_21, qdk_22, qdk_23, qdk_24, qdk_25, qdk_26, qdk_27, qdk_28, qdk_29, qdk_30, qdk_31, qdk_32, qdk_33, qdk_34, qdk_35, qdk_36, qdk_37, qdk_38, qdk_39, qdk_40, qdk_41, qdk_42, qdk_43, qdk_44, qdl_2, qdl_3, qdl_4, qdl_5, qdl_6, qdl_7, qdl_8, qdl_9, qdl_10, qdl_11, qdl_12, qdl_13, qdl_14, qdl_15, qdl_16, qdl_17, qdl_18, qdl_19, qdl_20, qdl_21, qdl_22, qdl_23, qdl_24, qdl_25, qdl_26, qdl_27, qdl_28, qdl_29, qdl_30, qdl_31, qdl_32, qdl_33, qdl_34, qdl_35, qdl_36, qdl_37, qdl_38, qdl_39, qdl_40, qdl_41, qdl_42, qdl_43, qdl_44, qdr_0, qdr_1, qdr_2, qdr_3, qdr_4, qdr_5, qdr_6, qdr_7, qdr_8, qdr_9, qdr_10, qdr_11, qdr_12, qdr_15, qdr_16, qdr_19, qdr_20, qdr_21, qdr_22, qdr_26, qdr_27, qdr_28, qdr_29, qdr_30, qdr_34, qdr_35, qdr_37, qdr_38, qdr_39, qdr_40, qdr_42, qdr_43, qdr_44, qdr_45, qdr_46, qdr_47, qdr_48, qdr_49, qdr_50, qdr_51, qdr_53, qdr_54, qdr_55, c7, hO, s1]
    rw [Nat.sub_zero, hw]
    exact k1
  · rw [if_neg c7]
    by_cases c8 : s = 8
    · rw [if_pos c8]
      obtain ⟨K, k1, k2, k3⟩ := rDone (I := qU I 30 lvl (qn (Q.1 + Q.2.1 - 1))) (p := p) (a := Q.1) (b := Q.2.1 - 1) (c := Q.2.2.1) (V := Q.2.2.2) hl hp (by simp (disch := omega) only [qU_s, qU_a, qU_k]; exact s1) (by simp (disch := omega) only [qU_s, qU_a, qU_k]; exact s2) (by
        refine ⟨by rw [qU_s]; congr 1; omega, fun j hj => ?_, fun _ => ⟨(m3 hc).1, ?_⟩, fun j h1 h2 => ?_⟩
        · simp (disch := omega) only [qU_s, qU_a, qU_k]; exact m2 j hj
        · simp (disch := omega) only [qU_s, qU_a, qU_k]; exact (m3 hc).2
        · rw [qU_r (by omega)]; exact m4 j h1 (by omega)) (qRV_fr s4 (fun k _ => by simp (disch := omega) only [qU_s, qU_a, qU_k]) (fun a h1 h2 => by simp (disch := omega) only [qU_r]) (by simp (disch := omega) only [qU_s, qU_a, qU_k]; exact s4.2.2.2.2.2.2.2.2))
      refine ⟨K, ?_, k2, qFrL_tr ⟨fun a h1 h2 => by simp (disch := omega) only [qU_r], fun k _ _ _ _ _ _ _ _ => by simp (disch := omega) only [qU_s, qU_a, qU_k], fun j hj => by simp (disch := omega) only [qU_s, qU_a, qU_k], fun j hj => ⟨by simp (disch := omega) only [qU_s, qU_a, qU_k], by simp (disch := omega) only [qU_s, qU_a, qU_k]⟩, fun j hj => by simp (disch := omega) only [qU_s, qU_a, qU_k]⟩ k3⟩
      simp (disch := omega) only [↓qlet, eq_self, qzg_t, qzb_some, ↓reduceIte, not_or, not_false_eq_true, not_true_eq_false, and_true, true_and, and_self, or_false, false_or, true_or, or_true, and_false, false_and, qlit, qneg, qof, qn_add, qn_mul, qn_s, qn_z, qn_d, qn_dz, qm_1, qt_1, qt_0, qb_0, qb_1, qb_01, qb01b, q01_0, q01_1, qo_s, qo_n, qn_c, qn_le, qn_lt, qn_eq, qn_ne_m, qm_ne_n, qm_lt, qm_le, qn_lt_m, qn_le_m, qn_sub, qn_div, qn_mod, qle_t, qle_f, qlt_t, qlt_f, qeq_t, qeq_f, Nat.add_sub_cancel, qD_I, qD_s, qU_s, qU_a, qU_k, qdk_1, qdk_2, qdk_3, qdk_4, qdk_5, qdk_6, qdk_7, qdk_8, qdk_9, qdk_10, qdk_11, qdk_12, qdk_13, qdk_14, qdk_15, qdk_16, qdk_17, qdk_18, qdk_19, qdk_20, qdk_21, qdk_22, qdk_23, qdk_24, qdk_25, qdk_26, qdk_27, qdk_28, qdk_29, qdk_30, qdk_31, qdk_32, qdk_33, qdk_34, qdk_35, qdk_36, qdk_37, qdk_38, qdk_39, qdk_40, qdk_41, qdk_42, qdk_43, qdk_44, qdl_2, qdl_3, qdl_4, qdl_5, qdl_6, qdl_7, qdl_8, qdl_9, qdl_10, qdl_11, qdl_12, qdl_13, qdl_14, qdl_15, qdl_16, qdl_17, qdl_18, qdl_19, qdl_20, qdl_21, qdl_22, qdl_23, qdl_24, qdl_25, qdl_26, qdl_27, qdl_28, qdl_29, qdl_30, qdl_31, qdl_32, qdl_33, qdl_34, qdl_35, qdl_36, qdl_37, qdl_38, qdl_39, qdl_40, qdl_41, qdl_42, qdl_43, qdl_44, qdr_0, qdr_1, qdr_2, qdr_3, qdr_4, qdr_5, qdr_6, qdr_7, qdr_8, qdr_9, qdr_10, qdr_11, qdr_12, qdr_15, qdr_16, qdr_19, qdr_20, qdr_21, qdr_22, qdr_26, qdr_27, qdr_28, qdr_29, qdr_30, qdr_34, qdr_35, qdr_37, qdr_38, qdr_39, qdr_40, qdr_42, qdr_43, qdr_44, qdr_45, qdr_46, qdr_47, qdr_48, qdr_49, qdr_50, qdr_51, qdr_53, qdr_54, qdr_55, c8, s1, m1]
      exact k1
    · rw [if_neg c8]
      obtain ⟨K, k1, k2, k3⟩ := rDone (I := I) (p := p) (a := Q.1) (b := Q.2.1) (c := Q.2.2.1) (V := Q.2.2.2) hl hp s1 s2 ⟨m1, m2, m3, m4⟩ s4
      have hw : qU I 30 lvl (qn (Q.1 + Q.2.1)) = I := qU_same m1
      refine ⟨K, ?_, k2, k3⟩
      simp (disch := omega) only [↓qlet, eq_self, qzg_t, qzb_some, ↓reduceIte, not_or, not_false_eq_true, not_true_eq_false, and_true, true_and, and_self, or_false, false_or, true_or, or_true, and_false, false_and, qlit, qneg, qof, qn_add, qn_mul, qn_s, qn_z, qn_d, qn_dz, qm_1, qt_1, qt_0, qb_0, qb_1, qb_01, qb01b, q01_0, q01_1, qo_s, qo_n, qn_c, qn_le, qn_lt, qn_eq, qn_ne_m, qm_ne_n, qm_lt, qm_le, qn_lt_m, qn_le_m, qn_sub, qn_div, qn_mod, qle_t, qle_f, qlt_t, qlt_f, qeq_t, qeq_f, Nat.add_sub_cancel, qD_I, qD_s, qU_s, qU_a, qU_k, qdk_1, qdk_2, qdk_3, qdk_4, qdk_5, qdk_6, qdk_7, qdk_8, qdk_9, qdk_10, qdk_11, qdk_12, qdk_13, qdk_14, qdk_15, qdk_16, qdk_17, qdk_18, qdk_19, qdk_20, qdk_21, qdk_22, qdk_23, qdk_24, qdk_25, qdk_26, qdk_27, qdk_28, qdk_29, qdk_30, qdk_31, qdk_32, qdk_33, qdk_34, qdk_35, qdk_36, qdk_37, qdk_38, qdk_39, qdk_40, qdk_41, qdk_42, qdk_43, qdk_44, qdl_2, qdl_3, qdl_4, qdl_5, qdl_6, qdl_7, qdl_8, qdl_9, qdl_10, qdl_11, qdl_12, qdl_13, qdl_14, qdl_15, qdl_16, qdl_17, qdl_18, qdl_19, qdl_20, qdl_21, qdl_22, qdl_23, qdl_24, qdl_25, qdl_26, qdl_27, qdl_28, qdl_29, qdl_30, qdl_31, qdl_32, qdl_33, qdl_34, qdl_35, qdl_36, qdl_37, qdl_38, qdl_39, qdl_40, qdl_41, qdl_42, qdl_43, qdl_44, qdr_0, qdr_1, qdr_2, qdr_3, qdr_4, qdr_5, qdr_6, qdr_7, qdr_8, qdr_9, qdr_10, qdr_11, qdr_12, qdr_15, qdr_16, qdr_19, qdr_20, qdr_21, qdr_22, qdr_26, qdr_27, qdr_28, qdr_29, qdr_30, qdr_34, qdr_35, qdr_37, qdr_38, qdr_39, qdr_40, qdr_42, qdr_43, qdr_44, qdr_45, qdr_46, qdr_47, qdr_48, qdr_49, qdr_50, qdr_51, qdr_53, qdr_54, qdr_55, s1, m1]
      rw [Nat.sub_zero, hw]
      exact k1
/-- frames of the writings of a token -/
theorem qFrL_m {a k : Nat} {x y : Int32} (hk : 620 * lvl ≤ k) : qFrL lvl I (qU (qU I 31 k x) 30 lvl y) := ⟨fun a h1 h2 => by simp (disch := omega) only [qU_r], fun k _ _ _ _ _ _ _ _ => by simp (disch := omega) only [qU_s, qU_a, qU_k], fun j hj => by simp (disch := omega) only [qU_s, qU_a, qU_k], fun j hj => ⟨by simp (disch := omega) only [qU_s, qU_a, qU_k], by simp (disch := omega) only [qU_s, qU_a, qU_k]⟩, fun j hj => by simp (disch := omega) only [qU_s, qU_a, qU_k]⟩
theorem qFrL_m1 {x : Int32} : qFrL lvl I (qU I 30 lvl x) := ⟨fun a h1 h2 => by simp (disch := omega) only [qU_r], fun k _ _ _ _ _ _ _ _ => by simp (disch := omega) only [qU_s, qU_a, qU_k], fun j hj => by simp (disch := omega) only [qU_s, qU_a, qU_k], fun j hj => ⟨by simp (disch := omega) only [qU_s, qU_a, qU_k], by simp (disch := omega) only [qU_s, qU_a, qU_k]⟩, fun j hj => by simp (disch := omega) only [qU_s, qU_a, qU_k]⟩
theorem qRV_m {a k : Nat} {x y : Int32} (hV : qRV I p V) : qRV (qU (qU I 31 k x) 30 a y) p V := qRV_fr hV (fun k _ => by simp (disch := omega) only [qU_s, qU_a, qU_k]) (fun a h1 h2 => by simp (disch := omega) only [qU_r]) (by simp (disch := omega) only [qU_s, qU_a, qU_k]; exact hV.2.2.2.2.2.2.2.2)
theorem qRV_m1 {a : Nat} {x : Int32} (hV : qRV I p V) : qRV (qU I 30 a x) p V := qRV_fr hV (fun k _ => by simp (disch := omega) only [qU_s, qU_a, qU_k]) (fun a h1 h2 => by simp (disch := omega) only [qU_r]) (by simp (disch := omega) only [qU_s, qU_a, qU_k]; exact hV.2.2.2.2.2.2.2.2)
/-- within PLAIN -/
theorem rPln (hg9 : qGok G) (hB : B + 1 ≤ 4320) (hG : qRG G I) (hl : lvl < 3) {Q : qQ} (hok : qVok G B Q.2.2.2) (hp6 : p ≤ 600) (hp : lvl = 0 → p = i) (hS : qRst lvl i p Q I) (hQ : Q.1 + Q.2.1 < 600) (hk : qRk I lvl ks) (hn : ks.length ≤ 620) (hn6 : lvl = 0 ∨ ks.length ≤ 6) (hs8 : ∀ k ∈ ks, qKok k) {s : Nat} {v : Int32} (hg : ks[i]? = some (s, v)) (hc : 0 < Q.2.1) (hcov : Q.2.2.1 = 2) : ∃ J, fX8_readsToken 1 (qD I) = some (qn 0, qD J) ∧ qRst lvl (i + 1) (if lvl = 0 then i + 1 else p) (Q.1, (if s = 7 then Q.2.1 + 1 else if s = 8 then Q.2.1 - 1 else Q.2.1), Q.2.2.1, (if 0 < (if s = 7 then Q.2.1 + 1 else if s = 8 then Q.2.1 - 1 else Q.2.1) then qRd G 10 (qPlain s v) p Q.2.2.2 else Q.2.2.2)) J ∧ qFrL lvl I J := by
  have hbd := rBody hl hS (by omega) hk hn hn6 (fun k h => (hs8 k h).1) hg
  have hmd := (rFront hl hS (by omega) hk hn hn6 (fun k h => (hs8 k h).1) hg).2.2
  have hS0 := hS
  obtain ⟨s1, s2, s3, s4⟩ := hS
  have hkk := hs8 _ (List.mem_of_getElem? hg)
  have h8 : s ≤ 8 := hkk.1
  have hpl := (cPlain hkk (qM0 0)).2
  obtain ⟨m1, m2, m3, m4⟩ := s3
  have hmv : qMode Q.1 Q.2.1 Q.2.2.1 = if Q.2.1 = 1 then 2 else 4 := by unfold qMode; rw [hcov, if_neg (by omega)]
  have hmode : qMode Q.1 Q.2.1 Q.2.2.1 = 2 ∨ qMode Q.1 Q.2.1 Q.2.2.1 = 4 := by rw [hmv]; split <;> simp
  have hred : fX8_readsToken 1 (qD I) = fX8_readsToken_89 1 (qn s) v (qD I) := by
    rw [hbd]
    unfold qTB
    rcases hmode with c | c <;> rw [c]
    · rw [if_neg (show ¬ qn 2 = 1 by decide), if_neg (show ¬ qn 2 = 3 by decide), if_pos (show qn 2 = 2 from rfl)]
    · rw [if_neg (show ¬ qn 4 = 1 by decide), if_neg (show ¬ qn 4 = 3 by decide), if_neg (show ¬ qn 4 = 2 by decide), if_pos (show qn 4 = 4 from rfl)]
  rw [hred]
  unfold fX8_readsToken_89 fX8_readsPlain fX8_readsPlain_86
  rw [qzg_i (qdk_1 _), qzg_i (qdk_1 _), hmd, qzb_some]
  by_cases c7 : s = 7
  · obtain ⟨J1, r1, r2, r3⟩ := rRd (t := 10) (l := 42) (x2 := qn 42) (by omega) (by omega) (fun _ => rfl) hp6 hg9 (by omega) hG hok s4
    have t1 : J1 1 41 = qn lvl := by rw [r3.2 41 (by omega) (by omega) (by omega) (by omega) (by omega) (by omega) (by omega)]; exact s1
    have t30 : J1 30 = I 30 := r3.1 30 (by omega) (by omega)
    have t31 : J1 31 = I 31 := r3.1 31 (by omega) (by omega)
    have t29 : J1 29 = I 29 := r3.1 29 (by omega) (by omega)
    have hO := rOpensMark (I := J1) hl t1 (by rw [t30]; exact m1) (by omega) 4
    obtain ⟨K, k1, k2, k3⟩ := rDone (I := qU (qU J1 31 (620 * lvl + (Q.1 + Q.2.1)) (qn 4)) 30 lvl (qn (Q.1 + Q.2.1 + 1))) (p := p) (a := Q.1) (b := Q.2.1 + 1) (c := Q.2.2.1) (V := qRd G 10 42 p Q.2.2.2) hl hp (by simp (disch := omega) only [qU_s, qU_a, qU_k]; exact t1) (by simp (disch := omega) only [qU_s, qU_a, qU_k]; rw [t29]; exact s2) (by
        refine ⟨by rw [qU_s]; rfl, fun j hj => ?_, fun _ => ⟨(m3 hc).1, ?_⟩, fun j h1 h2 => ?_⟩
        · simp (disch := omega) only [qU_s, qU_a, qU_k]; rw [t31]; exact m2 j hj
        · simp (disch := omega) only [qU_s, qU_a, qU_k]; rw [t31]; exact (m3 hc).2
        · rw [qU_r (by omega)]
          by_cases cj : j = Q.1 + Q.2.1
          · subst cj; rw [qU_s, hcov]
          · rw [qU_k (by omega), t31]; exact m4 j h1 (by omega)) (qRV_m r2)
    have hpv : qPlain s v = 42 := by unfold qPlain; rw [if_neg (by omega), if_neg (by omega)]
    refine ⟨K, ?_, by rw [if_pos c7, if_pos (show 0 < Q.2.1 + 1 by omega), hpv]; exact k2, qFrL_tr (qFrL_of r3) (qFrL_tr (qFrL_m (a := 0) (by omega)) k3)⟩
    simp (disch := omega) only [↓qlet, eq_self, qzg_t, qzb_some, ↓reduceIte, not_or, not_false_eq_true, not_true_eq_false, and_true, true_and, and_self, or_false, false_or, true_or, or_true, and_false, false_and, qlit, qneg, qof, qn_add, qn_mul, qn_s, qn_z, qn_d, qn_dz, qm_1, qt_1, qt_0, qb_0, qb_1, qb_01, qb01b, q01_0, q01_1, qo_s, qo_n, qn_c, qn_le, qn_lt, qn_eq, qn_ne_m, qm_ne_n, qm_lt, qm_le, qn_lt_m, qn_le_m, qn_sub, qn_div, qn_mod, qle_t, qle_f, qlt_t, qlt_f, qeq_t, qeq_f, Nat.add_sub_cancel, qD_I, qD_s, qU_s, qU_a, qU_k, qdk_1, qdk_2, qdk_3, qdk_4, qdk_5, qdk_6, qdk_7, qdk_8, qdk_9, qdk_10, qdk_11, qdk_12, qdk_13, qdk_14, qdk_15, qdk_16, qdk_17, qdk_18, qdk_19, qdk_20, qdk_21, qdk_22, qdk_23, qdk_24, qdk_25, qdk_26, qdk_27, qdk_28, qdk_29, qdk_30, qdk_31, qdk_32, qdk_33, qdk_34, qdk_35, qdk_36, qdk_37, qdk_38, qdk_39, qdk_40, qdk_41, qdk_42, qdk_43, qdk_44, qdl_2, qdl_3, qdl_4, qdl_5, qdl_6, qdl_7, qdl_8, qdl_9, qdl_10, qdl_11, qdl_12, qdl_13, qdl_14, qdl_15, qdl_16, qdl_17, qdl_18, qdl_19, qdl_20, qdl_21, qdl_22, qdl_23, qdl_24, qdl_25, qdl_26, qdl_27, qdl_28, qdl_29, qdl_30, qdl_31, qdl_32, qdl_33, qdl_34, qdl_35, qdl_36, qdl_37, qdl_38, qdl_39, qdl_40, qdl_41, qdl_42, qdl_43, qdl_44, qdr_0, qdr_1, qdr_2, qdr_3, qdr_4, qdr_5, qdr_6, qdr_7, qdr_8, qdr_9, qdr_10, qdr_11, qdr_12, qdr_15, qdr_16, qdr_19, qdr_20, qdr_21, qdr_22, qdr_26, qdr_27, qdr_28, qdr_29, qdr_30, qdr_34, qdr_35, qdr_37, qdr_38, qdr_39, qdr_40, qdr_42, qdr_43, qdr_44, qdr_45, qdr_46, qdr_47, qdr_48, qdr_49, qdr_50, qdr_51, qdr_53, qdr_54, qdr_55, c7, r1, hO]
    exact k1
  · rw [if_neg c7]
    by_cases c8 : s = 8
    · rw [if_pos c8]
      have hpv : qPlain s v = 42 := by unfold qPlain; rw [if_neg (by omega), if_neg (by omega)]
      have hmm : qRm (qU I 30 lvl (qn (Q.1 + Q.2.1 - 1))) lvl Q.1 (Q.2.1 - 1) Q.2.2.1 := by
        refine ⟨by rw [qU_s]; congr 1; omega, fun j hj => ?_, fun _ => ⟨(m3 hc).1, ?_⟩, fun j h1 h2 => ?_⟩
        · simp (disch := omega) only [qU_s, qU_a, qU_k]; exact m2 j hj
        · simp (disch := omega) only [qU_s, qU_a, qU_k]; exact (m3 hc).2
        · rw [qU_r (by omega)]; exact m4 j h1 (by omega)
      have u1 : qU I 30 lvl (qn (Q.1 + Q.2.1 - 1)) 1 41 = qn lvl := by rw [qU_r (by omega)]; exact s1
      have u2 : qU I 30 lvl (qn (Q.1 + Q.2.1 - 1)) 29 lvl = qn i := by rw [qU_r (by omega)]; exact s2
      by_cases c1 : Q.2.1 = 1
      · obtain ⟨K, k1, k2, k3⟩ := rDone (p := p) (V := Q.2.2.2) hl hp u1 u2 hmm (qRV_m1 s4)
        rw [if_pos c1] at hmv
        refine ⟨K, ?_, by rw [if_neg (show ¬ 0 < Q.2.1 - 1 by omega)]; exact k2, qFrL_tr qFrL_m1 k3⟩
        simp (disch := omega) only [↓qlet, eq_self, qzg_t, qzb_some, ↓reduceIte, not_or, not_false_eq_true, not_true_eq_false, and_true, true_and, and_self, or_false, false_or, true_or, or_true, and_false, false_and, qlit, qneg, qof, qn_add, qn_mul, qn_s, qn_z, qn_d, qn_dz, qm_1, qt_1, qt_0, qb_0, qb_1, qb_01, qb01b, q01_0, q01_1, qo_s, qo_n, qn_c, qn_le, qn_lt, qn_eq, qn_ne_m, qm_ne_n, qm_lt, qm_le, qn_lt_m, qn_le_m, qn_sub, qn_div, qn_mod, qle_t, qle_f, qlt_t, qlt_f, qeq_t, qeq_f, Nat.add_sub_cancel, qD_I, qD_s, qU_s, qU_a, qU_k, qdk_1, qdk_2, qdk_3, qdk_4, qdk_5, qdk_6, qdk_7, qdk_8, qdk_9, qdk_10, qdk_11, qdk_12, qdk_13, qdk_14, qdk_15, qdk_16, qdk_17, qdk_18, qdk_19, qdk_20, qdk_21, qdk_22, qdk_23, qdk_24, qdk_25, qdk_26, qdk_27, qdk_28, qdk_29, qdk_30, qdk_31, qdk_32, qdk_33, qdk_34, qdk_35, qdk_36, qdk_37, qdk_38, qdk_39, qdk_40, qdk_41, qdk_42, qdk_43, qdk_44, qdl_2, qdl_3, qdl_4, qdl_5, qdl_6, qdl_7, qdl_8, qdl_9, qdl_10, qdl_11, qdl_12, qdl_13, qdl_14, qdl_15, qdl_16, qdl_17, qdl_18, qdl_19, qdl_20, qdl_21, qdl_22, qdl_23, qdl_24, qdl_25, qdl_26, qdl_27, qdl_28, qdl_29, qdl_30, qdl_31, qdl_32, qdl_33, qdl_34, qdl_35, qdl_36, qdl_37, qdl_38, qdl_39, qdl_40, qdl_41, qdl_42, qdl_43, qdl_44, qdr_0, qdr_1, qdr_2, qdr_3, qdr_4, qdr_5, qdr_6, qdr_7, qdr_8, qdr_9, qdr_10, qdr_11, qdr_12, qdr_15, qdr_16, qdr_19, qdr_20, qdr_21, qdr_22, qdr_26, qdr_27, qdr_28, qdr_29, qdr_30, qdr_34, qdr_35, qdr_37, qdr_38, qdr_39, qdr_40, qdr_42, qdr_43, qdr_44, qdr_45, qdr_46, qdr_47, qdr_48, qdr_49, qdr_50, qdr_51, qdr_53, qdr_54, qdr_55, c8, hmv, s1, m1]
        exact k1
      · obtain ⟨J1, r1, r2, r3⟩ := rRd (I := qU I 30 lvl (qn (Q.1 + Q.2.1 - 1))) (t := 10) (l := 42) (x2 := qn 42) (by omega) (by omega) (fun _ => rfl) hp6 hg9 (by omega) (qRG_fr hG fun a h1 h2 => qU_r (by omega)) hok (qRV_m1 s4)
        obtain ⟨K, k1, k2, k3⟩ := rDoneR hl (Q := (Q.1, Q.2.1 - 1, Q.2.2.1, Q.2.2.2)) hp ⟨u1, u2, hmm, qRV_m1 s4⟩ r3 r2
        rw [if_neg c1] at hmv
        refine ⟨K, ?_, by rw [if_pos (show 0 < Q.2.1 - 1 by omega), hpv]; exact k2, qFrL_tr qFrL_m1 k3⟩
        simp (disch := omega) only [↓qlet, eq_self, qzg_t, qzb_some, ↓reduceIte, not_or, not_false_eq_true, not_true_eq_false, and_true, true_and, and_self, or_false, false_or, true_or, or_true, and_false, false_and, qlit, qneg, qof, qn_add, qn_mul, qn_s, qn_z, qn_d, qn_dz, qm_1, qt_1, qt_0, qb_0, qb_1, qb_01, qb01b, q01_0, q01_1, qo_s, qo_n, qn_c, qn_le, qn_lt, qn_eq, qn_ne_m, qm_ne_n, qm_lt, qm_le, qn_lt_m, qn_le_m, qn_sub, qn_div, qn_mod, qle_t, qle_f, qlt_t, qlt_f, qeq_t, qeq_f, Nat.add_sub_cancel, qD_I, qD_s, qU_s, qU_a, qU_k, qdk_1, qdk_2, qdk_3, qdk_4, qdk_5, qdk_6, qdk_7, qdk_8, qdk_9, qdk_10, qdk_11, qdk_12, qdk_13, qdk_14, qdk_15, qdk_16, qdk_17, qdk_18, qdk_19, qdk_20, qdk_21, qdk_22, qdk_23, qdk_24, qdk_25, qdk_26, qdk_27, qdk_28, qdk_29, qdk_30, qdk_31, qdk_32, qdk_33, qdk_34, qdk_35, qdk_36, qdk_37, qdk_38, qdk_39, qdk_40, qdk_41, qdk_42, qdk_43, qdk_44, qdl_2, qdl_3, qdl_4, qdl_5, qdl_6, qdl_7, qdl_8, qdl_9, qdl_10, qdl_11, qdl_12, qdl_13, qdl_14, qdl_15, qdl_16, qdl_17, qdl_18, qdl_19, qdl_20, qdl_21, qdl_22, qdl_23, qdl_24, qdl_25, qdl_26, qdl_27, qdl_28, qdl_29, qdl_30, qdl_31, qdl_32, qdl_33, qdl_34, qdl_35, qdl_36, qdl_37, qdl_38, qdl_39, qdl_40, qdl_41, qdl_42, qdl_43, qdl_44, qdr_0, qdr_1, qdr_2, qdr_3, qdr_4, qdr_5, qdr_6, qdr_7, qdr_8, qdr_9, qdr_10, qdr_11, qdr_12, qdr_15, qdr_16, qdr_19, qdr_20, qdr_21, qdr_22, qdr_26, qdr_27, qdr_28, qdr_29, qdr_30, qdr_34, qdr_35, qdr_37, qdr_38, qdr_39, qdr_40, qdr_42, qdr_43, qdr_44, qdr_45, qdr_46, qdr_47, qdr_48, qdr_49, qdr_50, qdr_51, qdr_53, qdr_54, qdr_55, c8, hmv, s1, m1, r1]
        exact k1
    · rw [if_neg c8, if_pos hc]
      have hgo : ∀ x2, x2 = qn (qPlain s v) → ∃ J, (zb (fX8_readsThing 1 10 x2 (qD I)) fun r2 M3 => (some (0, M3))) = some (qn 0, qD J) ∧ qRV J p (qRd G 10 (qPlain s v) p Q.2.2.2) ∧ qFrR I J := by
        intro x2 hx
        obtain ⟨J1, r1, r2, r3⟩ := rRd (t := 10) (l := qPlain s v) (x2 := x2) (by omega) hpl (fun _ => hx) hp6 hg9 (by omega) hG hok s4
        refine ⟨J1, ?_, r2, r3⟩
        have r1 : fX8_readsThing 1 10 x2 (qD I) = some (qn 0, qD J1) := r1
        rw [r1]; rfl
      by_cases c4 : s = 4
      · obtain ⟨n, n1, n2, n3⟩ := hkk.2.2.1 c4
        have n3 : v = qn n := n3
        obtain ⟨J1, r1, r2, r3⟩ := hgo v (by unfold qPlain; rw [if_pos c4, n3, qn_c (by omega)])
        obtain ⟨K, k1, k2, k3⟩ := rDoneR hl hp hS0 r3 r2
        refine ⟨K, ?_, k2, k3⟩
        simp (disch := omega) only [↓qlet, eq_self, qzg_t, qzb_some, ↓reduceIte, not_or, not_false_eq_true, not_true_eq_false, and_true, true_and, and_self, or_false, false_or, true_or, or_true, and_false, false_and, qlit, qneg, qof, qn_add, qn_mul, qn_s, qn_z, qn_d, qn_dz, qm_1, qt_1, qt_0, qb_0, qb_1, qb_01, qb01b, q01_0, q01_1, qo_s, qo_n, qn_c, qn_le, qn_lt, qn_eq, qn_ne_m, qm_ne_n, qm_lt, qm_le, qn_lt_m, qn_le_m, qn_sub, qn_div, qn_mod, qle_t, qle_f, qlt_t, qlt_f, qeq_t, qeq_f, Nat.add_sub_cancel, qD_I, qD_s, qU_s, qU_a, qU_k, qdk_1, qdk_2, qdk_3, qdk_4, qdk_5, qdk_6, qdk_7, qdk_8, qdk_9, qdk_10, qdk_11, qdk_12, qdk_13, qdk_14, qdk_15, qdk_16, qdk_17, qdk_18, qdk_19, qdk_20, qdk_21, qdk_22, qdk_23, qdk_24, qdk_25, qdk_26, qdk_27, qdk_28, qdk_29, qdk_30, qdk_31, qdk_32, qdk_33, qdk_34, qdk_35, qdk_36, qdk_37, qdk_38, qdk_39, qdk_40, qdk_41, qdk_42, qdk_43, qdk_44, qdl_2, qdl_3, qdl_4, qdl_5, qdl_6, qdl_7, qdl_8, qdl_9, qdl_10, qdl_11, qdl_12, qdl_13, qdl_14, qdl_15, qdl_16, qdl_17, qdl_18, qdl_19, qdl_20, qdl_21, qdl_22, qdl_23, qdl_24, qdl_25, qdl_26, qdl_27, qdl_28, qdl_29, qdl_30, qdl_31, qdl_32, qdl_33, qdl_34, qdl_35, qdl_36, qdl_37, qdl_38, qdl_39, qdl_40, qdl_41, qdl_42, qdl_43, qdl_44, qdr_0, qdr_1, qdr_2, qdr_3, qdr_4, qdr_5, qdr_6, qdr_7, qdr_8, qdr_9, qdr_10, qdr_11, qdr_12, qdr_15, qdr_16, qdr_19, qdr_20, qdr_21, qdr_22, qdr_26, qdr_27, qdr_28, qdr_29, qdr_30, qdr_34, qdr_35, qdr_37, qdr_38, qdr_39, qdr_40, qdr_42, qdr_43, qdr_44, qdr_45, qdr_46, qdr_47, qdr_48, qdr_49, qdr_50, qdr_51, qdr_53, qdr_54, qdr_55, c4]
        rw [show fX8_readsThing 1 (qn 10) v (qD I) = fX8_readsThing 1 10 v (qD I) from rfl]
        have r1' : (zb (fX8_readsThing 1 10 v (qD I)) fun r2 M3 => (some (qn 0, M3))) = some (qn 0, qD J1) := r1
        rw [r1', qzb_some]
        exact k1
      · by_cases c5 : s = 5
        · obtain ⟨J1, r1, r2, r3⟩ := hgo (qn 32) (by unfold qPlain; rw [if_neg c4, if_pos c5])
          obtain ⟨K, k1, k2, k3⟩ := rDoneR hl hp hS0 r3 r2
          refine ⟨K, ?_, k2, k3⟩
          simp (disch := omega) only [↓qlet, eq_self, qzg_t, qzb_some, ↓reduceIte, not_or, not_false_eq_true, not_true_eq_false, and_true, true_and, and_self, or_false, false_or, true_or, or_true, and_false, false_and, qlit, qneg, qof, qn_add, qn_mul, qn_s, qn_z, qn_d, qn_dz, qm_1, qt_1, qt_0, qb_0, qb_1, qb_01, qb01b, q01_0, q01_1, qo_s, qo_n, qn_c, qn_le, qn_lt, qn_eq, qn_ne_m, qm_ne_n, qm_lt, qm_le, qn_lt_m, qn_le_m, qn_sub, qn_div, qn_mod, qle_t, qle_f, qlt_t, qlt_f, qeq_t, qeq_f, Nat.add_sub_cancel, qD_I, qD_s, qU_s, qU_a, qU_k, qdk_1, qdk_2, qdk_3, qdk_4, qdk_5, qdk_6, qdk_7, qdk_8, qdk_9, qdk_10, qdk_11, qdk_12, qdk_13, qdk_14, qdk_15, qdk_16, qdk_17, qdk_18, qdk_19, qdk_20, qdk_21, qdk_22, qdk_23, qdk_24, qdk_25, qdk_26, qdk_27, qdk_28, qdk_29, qdk_30, qdk_31, qdk_32, qdk_33, qdk_34, qdk_35, qdk_36, qdk_37, qdk_38, qdk_39, qdk_40, qdk_41, qdk_42, qdk_43, qdk_44, qdl_2, qdl_3, qdl_4, qdl_5, qdl_6, qdl_7, qdl_8, qdl_9, qdl_10, qdl_11, qdl_12, qdl_13, qdl_14, qdl_15, qdl_16, qdl_17, qdl_18, qdl_19, qdl_20, qdl_21, qdl_22, qdl_23, qdl_24, qdl_25, qdl_26, qdl_27, qdl_28, qdl_29, qdl_30, qdl_31, qdl_32, qdl_33, qdl_34, qdl_35, qdl_36, qdl_37, qdl_38, qdl_39, qdl_40, qdl_41, qdl_42, qdl_43, qdl_44, qdr_0, qdr_1, qdr_2, qdr_3, qdr_4, qdr_5, qdr_6, qdr_7, qdr_8, qdr_9, qdr_10, qdr_11, qdr_12, qdr_15, qdr_16, qdr_19, qdr_20, qdr_21, qdr_22, qdr_26, qdr_27, qdr_28, qdr_29, qdr_30, qdr_34, qdr_35, qdr_37, qdr_38, qdr_39, qdr_40, qdr_42, qdr_43, qdr_44, qdr_45, qdr_46, qdr_47, qdr_48, qdr_49, qdr_50, qdr_51, qdr_53, qdr_54, qdr_55, c5]
          have r1' : (zb (fX8_readsThing 1 (qn 10) (qn 32) (qD I)) fun r2 M3 => (some (qn 0, M3))) = some (qn 0, qD J1) := r1
          rw [r1', qzb_some]
          exact k1
        · obtain ⟨J1, r1, r2, r3⟩ := hgo (qn 42) (by unfold qPlain; rw [if_neg c4, if_neg c5])
          obtain ⟨K, k1, k2, k3⟩ := rDoneR hl hp hS0 r3 r2
          refine ⟨K, ?_, k2, k3⟩
          simp (disch := omega) only [↓qlet, eq_self, qzg_t, qzb_some, ↓reduceIte, not_or, not_false_eq_true, not_true_eq_false, and_true, true_and, and_self, or_false, false_or, true_or, or_true, and_false, false_and, qlit, qneg, qof, qn_add, qn_mul, qn_s, qn_z, qn_d, qn_dz, qm_1, qt_1, qt_0, qb_0, qb_1, qb_01, qb01b, q01_0, q01_1, qo_s, qo_n, qn_c, qn_le, qn_lt, qn_eq, qn_ne_m, qm_ne_n, qm_lt, qm_le, qn_lt_m, qn_le_m, qn_sub, qn_div, qn_mod, qle_t, qle_f, qlt_t, qlt_f, qeq_t, qeq_f, Nat.add_sub_cancel, qD_I, qD_s, qU_s, qU_a, qU_k, qdk_1, qdk_2, qdk_3, qdk_4, qdk_5, qdk_6, qdk_7, qdk_8, qdk_9, qdk_10, qdk_11, qdk_12, qdk_13, qdk_14, qdk_15, qdk_16, qdk_17, qdk_18, qdk_19, qdk_20, qdk_21, qdk_22, qdk_23, qdk_24, qdk_25, qdk_26, qdk_27, qdk_28, qdk_29, qdk_30, qdk_31, qdk_32, qdk_33, qdk_34, qdk_35, qdk_36, qdk_37, qdk_38, qdk_39, qdk_40, qdk_41, qdk_42, qdk_43, qdk_44, qdl_2, qdl_3, qdl_4, qdl_5, qdl_6, qdl_7, qdl_8, qdl_9, qdl_10, qdl_11, qdl_12, qdl_13, qdl_14, qdl_15, qdl_16, qdl_17, qdl_18, qdl_19, qdl_20, qdl_21, qdl_22, qdl_23, qdl_24, qdl_25, qdl_26, qdl_27, qdl_28, qdl_29, qdl_30, qdl_31, qdl_32, qdl_33, qdl_34, qdl_35, qdl_36, qdl_37, qdl_38, qdl_39, qdl_40, qdl_41, qdl_42, qdl_43, qdl_44, qdr_0, qdr_1, qdr_2, qdr_3, qdr_4, qdr_5, qdr_6, qdr_7, qdr_8, qdr_9, qdr_10, qdr_11, qdr_12, qdr_15, qdr_16, qdr_19, qdr_20, qdr_21, qdr_22, qdr_26, qdr_27, qdr_28, qdr_29, qdr_30, qdr_34, qdr_35, qdr_37, qdr_38, qdr_39, qdr_40, qdr_42, qdr_43, qdr_44, qdr_45, qdr_46, qdr_47, qdr_48, qdr_49, qdr_50, qdr_51, qdr_53, qdr_54, qdr_55]
          have r1' : (zb (fX8_readsThing 1 (qn 10) (qn 42) (qD I)) fun r2 M3 => (some (qn 0, M3))) = some (qn 0, qD J1) := r1
          rw [r1', qzb_some]
          exact k1
end
