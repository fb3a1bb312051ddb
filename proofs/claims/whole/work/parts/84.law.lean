/-! THE LAW: a call answers alike, both hold what is new -/
def qBoth (M1 M2 : zM) (A : qA) : Prop := ∃ w I J, M1 = qC w I ∧ M2 = qD J ∧ qCA w I A ∧ qRA J A
def lGo (k : Int32 → zM → zM → (Nat → Int64) → Option Int32) (i : Nat) (o : Option Int32) : Prop := ∃ N1 N2 w A, qBoth N1 N2 A ∧ o = k (qn i + 5) N1 N2 w
theorem lcmp_s (x : Int64) : lg_cmp x x = 0 := by
  unfold lg_cmp
  rw [if_neg (Int64.lt_irrefl), if_pos rfl]
theorem qzbh_some (r : Int32) (M : zM) (w : Nat → Int64) (f : Int32 → zM → (Nat → Int64) → Option Int32) : zbh (some (r, M, w)) f = f r M w := rfl
theorem lIn {L i : Nat} (hi : i + 5 ≤ L) (hL : L ≤ 2560) (j : Nat) (hj : j < 5) : ¬ (qn i + qn j < 0 ∨ L ≤ (qn i + qn j).toNatClampNeg) := by
  rw [qn_add, qn_c (by omega)]
  intro h
  rcases h with h | h
  · rw [show (0 : Int32) = qn 0 from rfl, qn_lt (by omega) (by omega)] at h
    omega
  · omega
section
variable {α : Type} {L i : Nat}
theorem lg1 (hi : i + 5 ≤ L) (hL : L ≤ 2560) (k : Option α) : zg (¬ (qn i + 1 < 0 ∨ L ≤ (qn i + 1).toNatClampNeg)) k = k := qzg_i (lIn hi hL 1 (by omega)) k
theorem lg2 (hi : i + 5 ≤ L) (hL : L ≤ 2560) (k : Option α) : zg (¬ (qn i + 2 < 0 ∨ L ≤ (qn i + 2).toNatClampNeg)) k = k := qzg_i (lIn hi hL 2 (by omega)) k
theorem lg3 (hi : i + 5 ≤ L) (hL : L ≤ 2560) (k : Option α) : zg (¬ (qn i + 3 < 0 ∨ L ≤ (qn i + 3).toNatClampNeg)) k = k := qzg_i (lIn hi hL 3 (by omega)) k
theorem lg4 (hi : i + 5 ≤ L) (hL : L ≤ 2560) (k : Option α) : zg (¬ (qn i + 4 < 0 ∨ L ≤ (qn i + 4).toNatClampNeg)) k = k := qzg_i (lIn hi hL 4 (by omega)) k
end
theorem lThrown (J : Nat → Nat → Int32) : fX8_thrown 1 (qD J) = some (J 1 56, qD J) := by
  unfold fX8_thrown
  rw [qzg_i (qdk_1 J), qD_I]
section
variable {w : Nat → Int64} {f : Int32 → Nat → Int64} {x : Option (Nat × Int32 × zM)} {t : Nat} {r : Int32} {M : zM}
theorem lH1 (h : x = some (t, r, M)) (ht : t ≤ 1) : zhS [1] w f x = some (qn t, M, if t = 0 then f r else w) := by
  subst h
  rcases (show t = 0 ∨ t = 1 by omega) with rfl | rfl <;> rfl
theorem lH2 (h : x = some (t, r, M)) (ht : t ≤ 2) : zhS [1, 2] w f x = some (qn t, M, if t = 0 then f r else w) := by
  subst h
  rcases (show t = 0 ∨ t = 1 ∨ t = 2 by omega) with rfl | rfl | rfl <;> rfl
theorem lH3 (h : x = some (t, r, M)) (ht : t ≤ 3) : zhS [1, 2, 3] w f x = some (qn t, M, if t = 0 then f r else w) := by
  subst h
  rcases (show t = 0 ∨ t = 1 ∨ t = 2 ∨ t = 3 by omega) with rfl | rfl | rfl | rfl <;> rfl
theorem lH9 (h : x = some (t, r, M)) (ht : t = 0 ∨ t = 3) : zhS [3] w f x = some (qn (if t = 0 then 0 else 1), M, if t = 0 then f r else w) := by
  subst h
  rcases ht with rfl | rfl <;> rfl
end
section
variable {k : Int32 → zM → zM → (Nat → Int64) → Option Int32} {i t : Nat} {r : Int32} {A A2 : qA} {y : Option (Int32 × zM)} {J0 I2 : Nat → Nat → Int32} {w2 : Bool} {w1 : Nat → Int64} {K : zM → Option Int32}
/-- tag and answer are compared -/
theorem lAns (hC : qCA w2 I2 A2) (hy : ∃ J, y = some (r, qD J) ∧ qRA J A2 ∧ J 1 56 = qn t) (ht : t ≤ 3) (hw : t = 0 → w1 0 = r.toInt64) (hK : ∀ N, K N = k (qn i + 5) (qC w2 I2) N w1) : lGo k i (zg (zk (qD J0) 1 = 8) (zb y fun r9 M9 => zg (zk M9 1 = 8) (zb (fX8_thrown 1 M9) fun e N => if e = qn t then (if qn t = 0 then (if lg_cmp (w1 0) r9.toInt64 = 0 then K N else some 0) else K N) else some 0))) := by
  obtain ⟨J, rfl, hR, h56⟩ := hy
  refine ⟨qC w2 I2, qD J, w1, A2, ⟨w2, I2, J, rfl, rfl, hC, hR⟩, ?_⟩
  rw [← hK, qzg_i (qdk_1 J0), qzb_some, qzg_i (qdk_1 J), lThrown, qzb_some, if_pos h56]
  by_cases c : t = 0
  · rw [if_pos (show qn t = 0 by rw [c]; rfl), hw c, if_pos (lcmp_s _)]
  · rw [if_neg]
    rw [show (0 : Int32) = qn 0 from rfl, qn_eq (by omega) (by omega)]
    exact c
/-- the tag alone -/
theorem lTag (hC : qCA w2 I2 A2) (hy : ∃ J, y = some (r, qD J) ∧ qRA J A2 ∧ J 1 56 = qn t) (hK : ∀ N, K N = k (qn i + 5) (qC w2 I2) N w1) : lGo k i (zg (zk (qD J0) 1 = 8) (zb y fun _ M9 => zg (zk M9 1 = 8) (zb (fX8_thrown 1 M9) fun e N => if e = qn t then K N else some 0))) := by
  obtain ⟨J, rfl, hR, h56⟩ := hy
  refine ⟨qC w2 I2, qD J, w1, A2, ⟨w2, I2, J, rfl, rfl, hC, hR⟩, ?_⟩
  rw [← hK, qzg_i (qdk_1 J0), qzb_some, qzg_i (qdk_1 J), lThrown, qzb_some, if_pos h56]
/-- tag and truth -/
theorem lTru (hC : qCA w2 I2 A2) (hy : ∃ J, y = some (r, qD J) ∧ qRA J A2 ∧ J 1 56 = qn t) (ht : t ≤ 3) (hw : t = 0 → w1 0 = if r = 0 then 0 else 1) (hK : ∀ N, K N = k (qn i + 5) (qC w2 I2) N w1) : lGo k i (zg (zk (qD J0) 1 = 8) (zb y fun r9 M9 => zg (zk M9 1 = 8) (zb (fX8_thrown 1 M9) fun e N => if e = qn t then (if qn t = 0 then (if r9 = 0 then (if lg_cmp (w1 0) 0 = 0 then K N else some 0) else (if lg_cmp (w1 0) 1 = 0 then K N else some 0)) else K N) else some 0))) := by
  obtain ⟨J, rfl, hR, h56⟩ := hy
  refine ⟨qC w2 I2, qD J, w1, A2, ⟨w2, I2, J, rfl, rfl, hC, hR⟩, ?_⟩
  rw [← hK, qzg_i (qdk_1 J0), qzb_some, qzg_i (qdk_1 J), lThrown, qzb_some, if_pos h56]
  by_cases c : t = 0
  · rw [if_pos (show qn t = 0 by rw [c]; rfl)]
    by_cases d : r = 0
    · rw [if_pos d, hw c, if_pos d, if_pos (lcmp_s _)]
    · rw [if_neg d, hw c, if_neg d, if_pos (lcmp_s _)]
  · rw [if_neg]
    rw [show (0 : Int32) = qn 0 from rfl, qn_eq (by omega) (by omega)]
    exact c
/-- never refused -/
theorem lNum {u : Option (Int32 × zM)} {I0 : Nat → Nat → Int32} {w0 : Bool} {K2 : zM → zM → Option Int32} (hu : u = some (r, qC w2 I2)) (hC : qCA w2 I2 A2) (hy : ∃ J, y = some (r, qD J) ∧ qRA J A2) (hK : ∀ N1 N2, K2 N1 N2 = k (qn i + 5) N1 N2 w1) : lGo k i (zg (zk (qC w0 I0) 1 = 7) (zb u fun r1 M1 => zg (zk (qD J0) 1 = 8) (zb y fun r2 M2 => if r1 = r2 then K2 M1 M2 else some 0))) := by
  obtain ⟨J, rfl, hR⟩ := hy
  subst hu
  refine ⟨qC w2 I2, qD J, w1, A2, ⟨w2, I2, J, rfl, rfl, hC, hR⟩, ?_⟩
  rw [← hK, qzg_i (qk_1 w0 I0), qzb_some, qzg_i (qdk_1 J0), qzb_some, if_pos rfl]
theorem lAsk_t (x : Int32) (n : Nat) (f : Nat → Int32) : (qoAsk x n f).1 ≤ 1 := by
  unfold qoAsk
  cases qin x n with
  | none => exact Nat.le_refl 1
  | some k => exact Nat.zero_le 1
theorem lW {c : Prop} [Decidable c] {w0 : Nat → Int64} (v : Int64) (h : c) : (if c then vp_updL w0 0 v else w0) 0 = v := by
  rw [if_pos h]
  rfl

theorem lt_slot (A : qA) (x s : Int32) (h : Bool) (o : Int32) : (qoSlot A x s h o).1 ≤ 3 := by
  unfold qoSlot qNo
  repeat' split
  all_goals first | exact Nat.le_refl 3 | exact Nat.zero_le 3 | (show 1 ≤ 3; omega) | (show 2 ≤ 3; omega)
theorem lt_empty (A : qA) (x : Int32) : (qoEmpty A x).1 ≤ 1 := by
  unfold qoEmpty qNo
  repeat' split
  all_goals first | exact Nat.le_refl 1 | exact Nat.zero_le 1
theorem lt_except (A : qA) (x i z : Int32) : (qoExcept A x i z).1 ≤ 2 := by
  unfold qoExcept qNo
  repeat' split
  all_goals first | exact Nat.le_refl 2 | exact Nat.zero_le 2 | (show 1 ≤ 2; omega)
theorem lt_omit (A : qA) (x : Int32) (a b : Bool) : (qoOmit A x a b).1 ≤ 1 := by
  unfold qoOmit qNo
  repeat' split
  all_goals first | exact Nat.le_refl 1 | exact Nat.zero_le 1
theorem lt_entity (A : qA) (x s v : Int32) : (qoEntity A x s v).1 ≤ 3 := by
  unfold qoEntity qNo
  repeat' split
  all_goals first | exact Nat.le_refl 3 | exact Nat.zero_le 3 | (show 1 ≤ 3; omega) | (show 2 ≤ 3; omega)
theorem lt_clear (A : qA) (x : Int32) : (qoClear A x).1 ≤ 1 := by
  unfold qoClear qNo
  repeat' split
  all_goals first | exact Nat.le_refl 1 | exact Nat.zero_le 1
theorem lt_flip (A : qA) (x t : Int32) : (qoFlip A x t).1 ≤ 2 := by
  unfold qoFlip qNo
  repeat' split
  all_goals first | exact Nat.le_refl 2 | exact Nat.zero_le 2 | (show 1 ≤ 2; omega)
theorem lt_insert (A : qA) (x s v : Int32) : (qoInsert A x s v).1 ≤ 3 := by
  unfold qoInsert qNo
  repeat' split
  all_goals first | exact Nat.le_refl 3 | exact Nat.zero_le 3 | (show 1 ≤ 3; omega) | (show 2 ≤ 3; omega)
theorem lt_erase (A : qA) (x : Int32) : (qoErase A x).1 ≤ 1 := by
  unfold qoErase qNo
  repeat' split
  all_goals first | exact Nat.le_refl 1 | exact Nat.zero_le 1
theorem lt_normalize (A : qA) : (qoNormalize A).1 = 0 ∨ (qoNormalize A).1 = 3 := by
  unfold qoNormalize qNo
  split
  · exact Or.inl rfl
  · exact Or.inr rfl
theorem lt_ways (A : qA) : (qoWays A).1 = 0 ∨ (qoWays A).1 = 3 := by
  unfold qoWays
  split
  · exact Or.inl rfl
  · exact Or.inr rfl
variable {xs : Nat → Int32} {L : Nat} {M1 M2 : zM} {w : Nat → Int64}
theorem lCase1 (hi : i + 5 ≤ L) (hL : L ≤ 2560) (hB : qBoth M1 M2 A) : lGo k i (fW_case1 xs L k (qn i) M1 M2 w) := by
  obtain ⟨w0, I, J, rfl, rfl, hC, hR⟩ := hB
  obtain ⟨w2, I2, e1, hC2⟩ := cEmpty hC (xs (qn i + 1).toNatClampNeg)
  have e2 : fL_empty 1 (xs (qn i + 1).toNatClampNeg) (qC w0 I) w = _ := (qzg_i (qk_1 w0 I) _).trans (lH1 e1 (lt_empty A (xs (qn i + 1).toNatClampNeg)))
  unfold fW_case1
  simp only [lg1 hi hL, e2, qzbh_some]
  exact lAns hC2 (rEmpty hR (xs (qn i + 1).toNatClampNeg)) (Nat.le_trans (lt_empty A (xs (qn i + 1).toNatClampNeg)) (by omega)) (fun h => lW _ h) (fun _ => rfl)
theorem lCase4 (hi : i + 5 ≤ L) (hL : L ≤ 2560) (hB : qBoth M1 M2 A) : lGo k i (fW_case4 xs L k (qn i) M1 M2 w) := by
  obtain ⟨w0, I, J, rfl, rfl, hC, hR⟩ := hB
  obtain ⟨w2, I2, e1, hC2⟩ := cEntity hC (xs (qn i + 1).toNatClampNeg) (xs (qn i + 2).toNatClampNeg) (xs (qn i + 3).toNatClampNeg)
  have e2 : fL_entity 1 (xs (qn i + 1).toNatClampNeg) (xs (qn i + 2).toNatClampNeg) (xs (qn i + 3).toNatClampNeg) (qC w0 I) w = _ := (qzg_i (qk_1 w0 I) _).trans (lH3 e1 (lt_entity A (xs (qn i + 1).toNatClampNeg) (xs (qn i + 2).toNatClampNeg) (xs (qn i + 3).toNatClampNeg)))
  unfold fW_case4
  simp only [lg1 hi hL, lg2 hi hL, lg3 hi hL, e2, qzbh_some]
  exact lAns hC2 (rEntity hR (xs (qn i + 1).toNatClampNeg) (xs (qn i + 2).toNatClampNeg) (xs (qn i + 3).toNatClampNeg)) (Nat.le_trans (lt_entity A (xs (qn i + 1).toNatClampNeg) (xs (qn i + 2).toNatClampNeg) (xs (qn i + 3).toNatClampNeg)) (by omega)) (fun h => lW _ h) (fun _ => rfl)
theorem lCase5 (hi : i + 5 ≤ L) (hL : L ≤ 2560) (hB : qBoth M1 M2 A) : lGo k i (fW_case5 xs L k (qn i) M1 M2 w) := by
  obtain ⟨w0, I, J, rfl, rfl, hC, hR⟩ := hB
  obtain ⟨w2, I2, e1, hC2⟩ := cClear hC (xs (qn i + 1).toNatClampNeg)
  have e2 : fL_clear 1 (xs (qn i + 1).toNatClampNeg) (qC w0 I) w = _ := (qzg_i (qk_1 w0 I) _).trans (lH1 e1 (lt_clear A (xs (qn i + 1).toNatClampNeg)))
  unfold fW_case5
  simp only [lg1 hi hL, e2, qzbh_some]
  exact lAns hC2 (rClear hR (xs (qn i + 1).toNatClampNeg)) (Nat.le_trans (lt_clear A (xs (qn i + 1).toNatClampNeg)) (by omega)) (fun h => lW _ h) (fun _ => rfl)
theorem lCase6 (hi : i + 5 ≤ L) (hL : L ≤ 2560) (hB : qBoth M1 M2 A) : lGo k i (fW_case6 xs L k (qn i) M1 M2 w) := by
  obtain ⟨w0, I, J, rfl, rfl, hC, hR⟩ := hB
  obtain ⟨w2, I2, e1, hC2⟩ := cFlip hC (xs (qn i + 1).toNatClampNeg) (xs (qn i + 2).toNatClampNeg)
  have e2 : fL_flip 1 (xs (qn i + 1).toNatClampNeg) (xs (qn i + 2).toNatClampNeg) (qC w0 I) w = _ := (qzg_i (qk_1 w0 I) _).trans (lH2 e1 (lt_flip A (xs (qn i + 1).toNatClampNeg) (xs (qn i + 2).toNatClampNeg)))
  unfold fW_case6
  simp only [lg1 hi hL, lg2 hi hL, e2, qzbh_some]
  exact lAns hC2 (rFlip hR (xs (qn i + 1).toNatClampNeg) (xs (qn i + 2).toNatClampNeg)) (Nat.le_trans (lt_flip A (xs (qn i + 1).toNatClampNeg) (xs (qn i + 2).toNatClampNeg)) (by omega)) (fun h => lW _ h) (fun _ => rfl)
theorem lCase7 (hi : i + 5 ≤ L) (hL : L ≤ 2560) (hB : qBoth M1 M2 A) : lGo k i (fW_case7 xs L k (qn i) M1 M2 w) := by
  obtain ⟨w0, I, J, rfl, rfl, hC, hR⟩ := hB
  obtain ⟨w2, I2, e1, hC2⟩ := cInsert hC (xs (qn i + 1).toNatClampNeg) (xs (qn i + 2).toNatClampNeg) (xs (qn i + 3).toNatClampNeg)
  have e2 : fL_insert 1 (xs (qn i + 1).toNatClampNeg) (xs (qn i + 2).toNatClampNeg) (xs (qn i + 3).toNatClampNeg) (qC w0 I) w = _ := (qzg_i (qk_1 w0 I) _).trans (lH3 e1 (lt_insert A (xs (qn i + 1).toNatClampNeg) (xs (qn i + 2).toNatClampNeg) (xs (qn i + 3).toNatClampNeg)))
  unfold fW_case7
  simp only [lg1 hi hL, lg2 hi hL, lg3 hi hL, e2, qzbh_some]
  exact lAns hC2 (rInsert hR (xs (qn i + 1).toNatClampNeg) (xs (qn i + 2).toNatClampNeg) (xs (qn i + 3).toNatClampNeg)) (Nat.le_trans (lt_insert A (xs (qn i + 1).toNatClampNeg) (xs (qn i + 2).toNatClampNeg) (xs (qn i + 3).toNatClampNeg)) (by omega)) (fun h => lW _ h) (fun _ => rfl)
theorem lCase8 (hi : i + 5 ≤ L) (hL : L ≤ 2560) (hB : qBoth M1 M2 A) : lGo k i (fW_case8 xs L k (qn i) M1 M2 w) := by
  obtain ⟨w0, I, J, rfl, rfl, hC, hR⟩ := hB
  obtain ⟨w2, I2, e1, hC2⟩ := cErase hC (xs (qn i + 1).toNatClampNeg)
  have e2 : fL_erase 1 (xs (qn i + 1).toNatClampNeg) (qC w0 I) w = _ := (qzg_i (qk_1 w0 I) _).trans (lH1 e1 (lt_erase A (xs (qn i + 1).toNatClampNeg)))
  unfold fW_case8
  simp only [lg1 hi hL, e2, qzbh_some]
  exact lAns hC2 (rErase hR (xs (qn i + 1).toNatClampNeg)) (Nat.le_trans (lt_erase A (xs (qn i + 1).toNatClampNeg)) (by omega)) (fun h => lW _ h) (fun _ => rfl)
theorem lCase2 (hi : i + 5 ≤ L) (hL : L ≤ 2560) (hB : qBoth M1 M2 A) : lGo k i (fW_case2 xs L k (qn i) M1 M2 w) := by
  obtain ⟨w0, I, J, rfl, rfl, hC, hR⟩ := hB
  obtain ⟨w2, I2, e1, hC2⟩ := cExcept hC (xs (qn i + 1).toNatClampNeg) (xs (qn i + 2).toNatClampNeg) (xs (qn i + 3).toNatClampNeg)
  have e2 : fL_except 1 (xs (qn i + 1).toNatClampNeg) (xs (qn i + 2).toNatClampNeg) (xs (qn i + 3).toNatClampNeg) (qC w0 I) w = _ := (qzg_i (qk_1 w0 I) _).trans (lH2 e1 (lt_except A (xs (qn i + 1).toNatClampNeg) (xs (qn i + 2).toNatClampNeg) (xs (qn i + 3).toNatClampNeg)))
  unfold fW_case2
  simp only [lg1 hi hL, lg2 hi hL, lg3 hi hL, e2, qzbh_some]
  exact lTag hC2 (rExcept hR (xs (qn i + 1).toNatClampNeg) (xs (qn i + 2).toNatClampNeg) (xs (qn i + 3).toNatClampNeg)) (fun _ => rfl)
theorem lCase12 (hi : i + 5 ≤ L) (hL : L ≤ 2560) (hB : qBoth M1 M2 A) : lGo k i (fW_case12 xs L k (qn i) M1 M2 w) := by
  obtain ⟨w0, I, J, rfl, rfl, hC, hR⟩ := hB
  have e1 := (cOpenQ hC (xs (qn i + 1).toNatClampNeg))
  have e2 : fL_open 1 (xs (qn i + 1).toNatClampNeg) (qC w0 I) w = _ := (qzg_i (qk_1 w0 I) _).trans (lH1 e1 (lAsk_t _ _ _))
  unfold fW_case12
  simp only [lg1 hi hL, e2, qzbh_some]
  exact lAns hC (rOpenQ hR (xs (qn i + 1).toNatClampNeg)) (Nat.le_trans (lAsk_t _ _ _) (by omega)) (fun h => lW _ h) (fun _ => rfl)
theorem lCase13 (hi : i + 5 ≤ L) (hL : L ≤ 2560) (hB : qBoth M1 M2 A) : lGo k i (fW_case13 xs L k (qn i) M1 M2 w) := by
  obtain ⟨w0, I, J, rfl, rfl, hC, hR⟩ := hB
  have e1 := (cCurrentQ hC (xs (qn i + 1).toNatClampNeg))
  have e2 : fL_current 1 (xs (qn i + 1).toNatClampNeg) (qC w0 I) w = _ := (qzg_i (qk_1 w0 I) _).trans (lH1 e1 (lAsk_t _ _ _))
  unfold fW_case13
  simp only [lg1 hi hL, e2, qzbh_some]
  exact lAns hC (rCurrentQ hR (xs (qn i + 1).toNatClampNeg)) (Nat.le_trans (lAsk_t _ _ _) (by omega)) (fun h => lW _ h) (fun _ => rfl)
theorem lCase14 (hi : i + 5 ≤ L) (hL : L ≤ 2560) (hB : qBoth M1 M2 A) : lGo k i (fW_case14 xs L k (qn i) M1 M2 w) := by
  obtain ⟨w0, I, J, rfl, rfl, hC, hR⟩ := hB
  have e1 := (cNextQ hC (xs (qn i + 1).toNatClampNeg))
  have e2 : fL_next 1 (xs (qn i + 1).toNatClampNeg) (qC w0 I) w = _ := (qzg_i (qk_1 w0 I) _).trans (lH1 e1 (lAsk_t _ _ _))
  unfold fW_case14
  simp only [lg1 hi hL, e2, qzbh_some]
  exact lAns hC (rNextQ hR (xs (qn i + 1).toNatClampNeg)) (Nat.le_trans (lAsk_t _ _ _) (by omega)) (fun h => lW _ h) (fun _ => rfl)
theorem lCase16 (hi : i + 5 ≤ L) (hL : L ≤ 2560) (hB : qBoth M1 M2 A) : lGo k i (fW_case16 xs L k (qn i) M1 M2 w) := by
  obtain ⟨w0, I, J, rfl, rfl, hC, hR⟩ := hB
  have e1 := (cKindQ hC (xs (qn i + 1).toNatClampNeg)).1
  have e2 : fL_kind 1 (xs (qn i + 1).toNatClampNeg) (qC w0 I) w = _ := (qzg_i (qk_1 w0 I) _).trans (lH1 e1 (lAsk_t _ _ _))
  unfold fW_case16
  simp only [lg1 hi hL, e2, qzbh_some]
  exact lAns hC (rKindQ hR (xs (qn i + 1).toNatClampNeg)).1 (Nat.le_trans (lAsk_t _ _ _) (by omega)) (fun h => lW _ h) (fun _ => rfl)
theorem lCase17 (hi : i + 5 ≤ L) (hL : L ≤ 2560) (hB : qBoth M1 M2 A) : lGo k i (fW_case17 xs L k (qn i) M1 M2 w) := by
  obtain ⟨w0, I, J, rfl, rfl, hC, hR⟩ := hB
  have e1 := (cKindQ hC (xs (qn i + 1).toNatClampNeg)).2.1
  have e2 : fL_parent 1 (xs (qn i + 1).toNatClampNeg) (qC w0 I) w = _ := (qzg_i (qk_1 w0 I) _).trans (lH1 e1 (lAsk_t _ _ _))
  unfold fW_case17
  simp only [lg1 hi hL, e2, qzbh_some]
  exact lAns hC (rKindQ hR (xs (qn i + 1).toNatClampNeg)).2.1 (Nat.le_trans (lAsk_t _ _ _) (by omega)) (fun h => lW _ h) (fun _ => rfl)
theorem lCase18 (hi : i + 5 ≤ L) (hL : L ≤ 2560) (hB : qBoth M1 M2 A) : lGo k i (fW_case18 xs L k (qn i) M1 M2 w) := by
  obtain ⟨w0, I, J, rfl, rfl, hC, hR⟩ := hB
  have e1 := (cKindQ hC (xs (qn i + 1).toNatClampNeg)).2.2.1
  have e2 : fL_letter 1 (xs (qn i + 1).toNatClampNeg) (qC w0 I) w = _ := (qzg_i (qk_1 w0 I) _).trans (lH1 e1 (lAsk_t _ _ _))
  unfold fW_case18
  simp only [lg1 hi hL, e2, qzbh_some]
  exact lAns hC (rKindQ hR (xs (qn i + 1).toNatClampNeg)).2.2.1 (Nat.le_trans (lAsk_t _ _ _) (by omega)) (fun h => lW _ h) (fun _ => rfl)
theorem lCase19 (hi : i + 5 ≤ L) (hL : L ≤ 2560) (hB : qBoth M1 M2 A) : lGo k i (fW_case19 xs L k (qn i) M1 M2 w) := by
  obtain ⟨w0, I, J, rfl, rfl, hC, hR⟩ := hB
  have e1 := (cKindQ hC (xs (qn i + 1).toNatClampNeg)).2.2.2.1
  have e2 : fL_placeOf 1 (xs (qn i + 1).toNatClampNeg) (qC w0 I) w = _ := (qzg_i (qk_1 w0 I) _).trans (lH1 e1 (lAsk_t _ _ _))
  unfold fW_case19
  simp only [lg1 hi hL, e2, qzbh_some]
  exact lAns hC (rKindQ hR (xs (qn i + 1).toNatClampNeg)).2.2.2.1 (Nat.le_trans (lAsk_t _ _ _) (by omega)) (fun h => lW _ h) (fun _ => rfl)
theorem lCase23 (hi : i + 5 ≤ L) (hL : L ≤ 2560) (hB : qBoth M1 M2 A) : lGo k i (fW_case23 xs L k (qn i) M1 M2 w) := by
  obtain ⟨w0, I, J, rfl, rfl, hC, hR⟩ := hB
  have e1 := (cErrorQ hC (xs (qn i + 1).toNatClampNeg)).1
  have e2 : fL_errorKind 1 (xs (qn i + 1).toNatClampNeg) (qC w0 I) w = _ := (qzg_i (qk_1 w0 I) _).trans (lH1 e1 (lAsk_t _ _ _))
  unfold fW_case23
  simp only [lg1 hi hL, e2, qzbh_some]
  exact lAns hC (rErrorQ hR (xs (qn i + 1).toNatClampNeg)).1 (Nat.le_trans (lAsk_t _ _ _) (by omega)) (fun h => lW _ h) (fun _ => rfl)
theorem lCase24 (hi : i + 5 ≤ L) (hL : L ≤ 2560) (hB : qBoth M1 M2 A) : lGo k i (fW_case24 xs L k (qn i) M1 M2 w) := by
  obtain ⟨w0, I, J, rfl, rfl, hC, hR⟩ := hB
  have e1 := (cErrorQ hC (xs (qn i + 1).toNatClampNeg)).2
  have e2 : fL_errorAt 1 (xs (qn i + 1).toNatClampNeg) (qC w0 I) w = _ := (qzg_i (qk_1 w0 I) _).trans (lH1 e1 (lAsk_t _ _ _))
  unfold fW_case24
  simp only [lg1 hi hL, e2, qzbh_some]
  exact lAns hC (rErrorQ hR (xs (qn i + 1).toNatClampNeg)).2 (Nat.le_trans (lAsk_t _ _ _) (by omega)) (fun h => lW _ h) (fun _ => rfl)
theorem lCase26 (hi : i + 5 ≤ L) (hL : L ≤ 2560) (hB : qBoth M1 M2 A) : lGo k i (fW_case26 xs L k (qn i) M1 M2 w) := by
  obtain ⟨w0, I, J, rfl, rfl, hC, hR⟩ := hB
  have e1 := (cTokQ hC (xs (qn i + 1).toNatClampNeg)).1
  have e2 : fL_normalSort 1 (xs (qn i + 1).toNatClampNeg) (qC w0 I) w = _ := (qzg_i (qk_1 w0 I) _).trans (lH1 e1 (lAsk_t _ _ _))
  unfold fW_case26
  simp only [lg1 hi hL, e2, qzbh_some]
  exact lAns hC (rTokQ hR (xs (qn i + 1).toNatClampNeg)).1 (Nat.le_trans (lAsk_t _ _ _) (by omega)) (fun h => lW _ h) (fun _ => rfl)
theorem lCase27 (hi : i + 5 ≤ L) (hL : L ≤ 2560) (hB : qBoth M1 M2 A) : lGo k i (fW_case27 xs L k (qn i) M1 M2 w) := by
  obtain ⟨w0, I, J, rfl, rfl, hC, hR⟩ := hB
  have e1 := (cTokQ hC (xs (qn i + 1).toNatClampNeg)).2
  have e2 : fL_normalValue 1 (xs (qn i + 1).toNatClampNeg) (qC w0 I) w = _ := (qzg_i (qk_1 w0 I) _).trans (lH1 e1 (lAsk_t _ _ _))
  unfold fW_case27
  simp only [lg1 hi hL, e2, qzbh_some]
  exact lAns hC (rTokQ hR (xs (qn i + 1).toNatClampNeg)).2 (Nat.le_trans (lAsk_t _ _ _) (by omega)) (fun h => lW _ h) (fun _ => rfl)
theorem lCase20 (hi : i + 5 ≤ L) (hL : L ≤ 2560) (hB : qBoth M1 M2 A) : lGo k i (fW_case20 xs L k (qn i) M1 M2 w) := by
  obtain ⟨w0, I, J, rfl, rfl, hC, hR⟩ := hB
  have e1 := (cKindQ hC (xs (qn i + 1).toNatClampNeg)).2.2.2.2
  have e2 : fL_isPutIn 1 (xs (qn i + 1).toNatClampNeg) (qC w0 I) w = _ := (qzg_i (qk_1 w0 I) _).trans (lH1 e1 (lAsk_t _ _ _))
  unfold fW_case20
  simp only [lg1 hi hL, e2, qzbh_some]
  exact lTru hC (rKindQ hR (xs (qn i + 1).toNatClampNeg)).2.2.2.2 (Nat.le_trans (lAsk_t _ _ _) (by omega)) (fun h => lW _ h) (fun _ => rfl)
theorem lCase10 (hi : i + 5 ≤ L) (hL : L ≤ 2560) (hB : qBoth M1 M2 A) : lGo k i (fW_case10 xs L k (qn i) M1 M2 w) := by
  obtain ⟨w0, I, J, rfl, rfl, hC, hR⟩ := hB
  unfold fW_case10
  obtain ⟨J2, j1, j2, -⟩ := rLength hR
  exact lNum (cLength hC) hC ⟨J2, j1, j2⟩ (fun _ _ => rfl)
theorem lCase11 (hi : i + 5 ≤ L) (hL : L ≤ 2560) (hB : qBoth M1 M2 A) : lGo k i (fW_case11 xs L k (qn i) M1 M2 w) := by
  obtain ⟨w0, I, J, rfl, rfl, hC, hR⟩ := hB
  unfold fW_case11
  obtain ⟨J2, j1, j2, -⟩ := rAnew hR
  exact lNum (cAnew hC) hC ⟨J2, j1, j2⟩ (fun _ _ => rfl)
theorem lCase15 (hi : i + 5 ≤ L) (hL : L ≤ 2560) (hB : qBoth M1 M2 A) : lGo k i (fW_case15 xs L k (qn i) M1 M2 w) := by
  obtain ⟨w0, I, J, rfl, rfl, hC, hR⟩ := hB
  unfold fW_case15
  obtain ⟨J2, j1, j2, -⟩ := rThings hR
  exact lNum (cThings hC) hC ⟨J2, j1, j2⟩ (fun _ _ => rfl)
theorem lCase21 (hi : i + 5 ≤ L) (hL : L ≤ 2560) (hB : qBoth M1 M2 A) : lGo k i (fW_case21 xs L k (qn i) M1 M2 w) := by
  obtain ⟨w0, I, J, rfl, rfl, hC, hR⟩ := hB
  unfold fW_case21
  obtain ⟨J2, j1, j2, -⟩ := rEndsPut hR
  exact lNum (cEndsPut hC) hC ⟨J2, j1, j2⟩ (fun _ _ => rfl)
theorem lCase22 (hi : i + 5 ≤ L) (hL : L ≤ 2560) (hB : qBoth M1 M2 A) : lGo k i (fW_case22 xs L k (qn i) M1 M2 w) := by
  obtain ⟨w0, I, J, rfl, rfl, hC, hR⟩ := hB
  unfold fW_case22
  obtain ⟨J2, j1, j2, -⟩ := rErrors hR
  exact lNum (cErrors hC) hC ⟨J2, j1, j2⟩ (fun _ _ => rfl)
theorem lCase25 (hi : i + 5 ≤ L) (hL : L ≤ 2560) (hB : qBoth M1 M2 A) : lGo k i (fW_case25 xs L k (qn i) M1 M2 w) := by
  obtain ⟨w0, I, J, rfl, rfl, hC, hR⟩ := hB
  unfold fW_case25
  obtain ⟨J2, j1, j2, -⟩ := rNormal hR
  exact lNum (cNormal hC) hC ⟨J2, j1, j2⟩ (fun _ _ => rfl)
theorem lCase28 (hi : i + 5 ≤ L) (hL : L ≤ 2560) (hB : qBoth M1 M2 A) : lGo k i (fW_case28 xs L k (qn i) M1 M2 w) := by
  obtain ⟨w0, I, J, rfl, rfl, hC, hR⟩ := hB
  unfold fW_case28
  obtain ⟨I2, e1, hC2⟩ := cSameQ hC
  obtain ⟨J2, j1, j2, -⟩ := rSameQ hR
  exact lNum e1 hC2 ⟨J2, j1, j2⟩ (fun _ _ => rfl)
theorem lCase9 (hi : i + 5 ≤ L) (hL : L ≤ 2560) (hB : qBoth M1 M2 A) : lGo k i (fW_case9 xs L k (qn i) M1 M2 w) := by
  obtain ⟨w0, I, J, rfl, rfl, hC, hR⟩ := hB
  obtain ⟨w2, I2, e1, hC2⟩ := cNormalize hC
  have e2 : fL_normalize 1 (qC w0 I) w = _ := (qzg_i (qk_1 w0 I) _).trans (lH9 e1 (lt_normalize A))
  unfold fW_case9
  simp only [e2, qzbh_some]
  refine lAns hC2 (rNormalize hR) (by split <;> omega) (fun h => lW _ ?_) (fun _ => rfl)
  rcases lt_normalize A with h0 | h0
  · exact h0
  · rw [if_neg (by omega)] at h
    exact absurd h (by omega)
theorem lCase29 (hi : i + 5 ≤ L) (hL : L ≤ 2560) (hB : qBoth M1 M2 A) : lGo k i (fW_case29 xs L k (qn i) M1 M2 w) := by
  obtain ⟨w0, I, J, rfl, rfl, hC, hR⟩ := hB
  obtain ⟨I2, e1, hC2⟩ := cWaysQ hC
  have e2 : fL_ways 1 (qC w0 I) w = _ := (qzg_i (qk_1 w0 I) _).trans (lH9 e1 (lt_ways A))
  unfold fW_case29
  simp only [e2, qzbh_some]
  refine lAns hC2 (rWays hR) (by split <;> omega) (fun h => lW _ ?_) (fun _ => rfl)
  rcases lt_ways A with h0 | h0
  · exact h0
  · rw [if_neg (by omega)] at h
    exact absurd h (by omega)
theorem lOmit2 (hi : i + 5 ≤ L) (hL : L ≤ 2560) (hB : qBoth M1 M2 A) (a b : Bool) (x : Int32) : lGo k i (zbh (fL_omit 1 x (qb a) (qb b) M1 w) fun r M w9 => fW_471 xs L k (qn i) r x (qb a) (qb b) M M2 w9) := by
  obtain ⟨w0, I, J, rfl, rfl, hC, hR⟩ := hB
  obtain ⟨w2, I2, e1, hC2⟩ := cOmit hC x a b
  have e2 : fL_omit 1 x (qb a) (qb b) (qC w0 I) w = _ := (qzg_i (qk_1 w0 I) _).trans (lH1 e1 (lt_omit A x a b))
  unfold fW_471
  simp only [e2, qzbh_some]
  exact lTag hC2 (rOmit hR x a b) (fun _ => rfl)
theorem lCase3 (hi : i + 5 ≤ L) (hL : L ≤ 2560) (hB : qBoth M1 M2 A) : lGo k i (fW_case3 xs L k (qn i) M1 M2 w) := by
  have h := lOmit2 (xs := xs) (k := k) (w := w) hi hL hB
  unfold fW_case3 fW_417 fW_431 fW_457
  simp only [lg1 hi hL, lg2 hi hL, lg3 hi hL]
  by_cases c2 : (xs (qn i + 2).toNatClampNeg) = 0
  · by_cases c3 : (xs (qn i + 3).toNatClampNeg) = 0
    · simp only [if_pos c2, if_pos c3]
      exact h false false _
    · simp only [if_pos c2, if_neg c3]
      exact h false true _
  · by_cases c3 : (xs (qn i + 3).toNatClampNeg) = 0
    · simp only [if_neg c2, if_pos c3]
      exact h true false _
    · simp only [if_neg c2, if_neg c3]
      exact h true true _
theorem lSlot2 (hi : i + 5 ≤ L) (hL : L ≤ 2560) (hB : qBoth M1 M2 A) (x s : Int32) (h : Bool) : lGo k i (zbh (fL_slot 1 x s (qb h) (xs (qn i + 4).toNatClampNeg) M1 w) fun r M w9 => fW_238 xs L k (qn i) r x s (qb h) M M2 w9) := by
  obtain ⟨w0, I, J, rfl, rfl, hC, hR⟩ := hB
  obtain ⟨w2, I2, e1, hC2⟩ := cSlot hC x s h (xs (qn i + 4).toNatClampNeg)
  have e2 : fL_slot 1 x s (qb h) (xs (qn i + 4).toNatClampNeg) (qC w0 I) w = _ := (qzg_i (qk_1 w0 I) _).trans (lH3 e1 (lt_slot A x s h (xs (qn i + 4).toNatClampNeg)))
  unfold fW_238
  simp only [lg4 hi hL, e2, qzbh_some]
  exact lAns hC2 (rSlot hR x s h (xs (qn i + 4).toNatClampNeg)) (lt_slot A x s h (xs (qn i + 4).toNatClampNeg)) (fun h => lW _ h) (fun _ => rfl)
theorem lCase0 (hi : i + 5 ≤ L) (hL : L ≤ 2560) (hB : qBoth M1 M2 A) : lGo k i (fW_case0 xs L k (qn i) M1 M2 w) := by
  have h := lSlot2 (xs := xs) (k := k) (w := w) hi hL hB
  unfold fW_case0 fW_199
  simp only [lg1 hi hL, lg2 hi hL, lg3 hi hL, lg4 hi hL]
  by_cases c3 : (xs (qn i + 3).toNatClampNeg) = 0
  · simp only [if_pos c3]
    exact h _ _ false
  · simp only [if_neg c3]
    exact h _ _ true
theorem lOther (hB : qBoth M1 M2 A) : lGo k i (fW_1686 xs L k (qn i) M1 M2 w) := ⟨M1, M2, w, A, hB, rfl⟩
theorem lLen {L i : Nat} (hi : i ≤ 2560) (hL : L ≤ 2560) (h : ¬ (Int32.ofNat L - 5) < qn i) : i + 5 ≤ L := by
  rw [Int32.lt_iff_toInt_lt] at h
  have e : (Int32.ofNat L - 5).toInt = (L : Int) - 5 := by
    rw [Int32.toInt_sub, show (Int32.ofNat L).toInt = (L : Int) from qn_i (by omega), show (5 : Int32).toInt = 5 by decide]
    have h1 : -2147483648 ≤ (L : Int) - 5 := by omega
    have h2 : (L : Int) - 5 ≤ 2147483647 := by omega
    exact Int.bmod_eq_of_le (by omega) (by omega)
  rw [e, qn_i (by omega)] at h
  omega
theorem lStep (hi : i ≤ 2560) (hL : L ≤ 2560) (hB : qBoth M1 M2 A) : fW_b xs L k (qn i) M1 M2 w = some 1 ∨ i + 5 ≤ L ∧ lGo k i (fW_b xs L k (qn i) M1 M2 w) := by
  unfold fW_b
  by_cases h : (Int32.ofNat L - 5) < qn i
  · exact Or.inl (if_pos h)
  · have h5 := lLen hi hL h
    refine Or.inr ⟨h5, ?_⟩
    have hx : ¬ (qn i < 0 ∨ L ≤ (qn i).toNatClampNeg) := by
      rw [qn_c (by omega)]
      intro c
      rcases c with c | c
      · rw [show (0 : Int32) = qn 0 from rfl, qn_lt (by omega) (by omega)] at c
        omega
      · omega
    rw [if_neg h, qzg_i hx]
    by_cases c0 : ((xs (qn i).toNatClampNeg) &&& 31) = 0
    · rw [if_pos c0]
      exact lCase0 h5 hL hB
    rw [if_neg c0]
    by_cases c1 : ((xs (qn i).toNatClampNeg) &&& 31) = 1
    · rw [if_pos c1]
      exact lCase1 h5 hL hB
    rw [if_neg c1]
    by_cases c2 : ((xs (qn i).toNatClampNeg) &&& 31) = 2
    · rw [if_pos c2]
      exact lCase2 h5 hL hB
    rw [if_neg c2]
    by_cases c3 : ((xs (qn i).toNatClampNeg) &&& 31) = 3
    · rw [if_pos c3]
      exact lCase3 h5 hL hB
    rw [if_neg c3]
    by_cases c4 : ((xs (qn i).toNatClampNeg) &&& 31) = 4
    · rw [if_pos c4]
      exact lCase4 h5 hL hB
    rw [if_neg c4]
    by_cases c5 : ((xs (qn i).toNatClampNeg) &&& 31) = 5
    · rw [if_pos c5]
      exact lCase5 h5 hL hB
    rw [if_neg c5]
    by_cases c6 : ((xs (qn i).toNatClampNeg) &&& 31) = 6
    · rw [if_pos c6]
      exact lCase6 h5 hL hB
    rw [if_neg c6]
    by_cases c7 : ((xs (qn i).toNatClampNeg) &&& 31) = 7
    · rw [if_pos c7]
      exact lCase7 h5 hL hB
    rw [if_neg c7]
    by_cases c8 : ((xs (qn i).toNatClampNeg) &&& 31) = 8
    · rw [if_pos c8]
      exact lCase8 h5 hL hB
    rw [if_neg c8]
    by_cases c9 : ((xs (qn i).toNatClampNeg) &&& 31) = 9
    · rw [if_pos c9]
      exact lCase9 h5 hL hB
    rw [if_neg c9]
    by_cases c10 : ((xs (qn i).toNatClampNeg) &&& 31) = 10
    · rw [if_pos c10]
      exact lCase10 h5 hL hB
    rw [if_neg c10]
    by_cases c11 : ((xs (qn i).toNatClampNeg) &&& 31) = 11
    · rw [if_pos c11]
      exact lCase11 h5 hL hB
    rw [if_neg c11]
    by_cases c12 : ((xs (qn i).toNatClampNeg) &&& 31) = 12
    · rw [if_pos c12]
      exact lCase12 h5 hL hB
    rw [if_neg c12]
    by_cases c13 : ((xs (qn i).toNatClampNeg) &&& 31) = 13
    · rw [if_pos c13]
      exact lCase13 h5 hL hB
    rw [if_neg c13]
    by_cases c14 : ((xs (qn i).toNatClampNeg) &&& 31) = 14
    · rw [if_pos c14]
      exact lCase14 h5 hL hB
    rw [if_neg c14]
    by_cases c15 : ((xs (qn i).toNatClampNeg) &&& 31) = 15
    · rw [if_pos c15]
      exact lCase15 h5 hL hB
    rw [if_neg c15]
    by_cases c16 : ((xs (qn i).toNatClampNeg) &&& 31) = 16
    · rw [if_pos c16]
      exact lCase16 h5 hL hB
    rw [if_neg c16]
    by_cases c17 : ((xs (qn i).toNatClampNeg) &&& 31) = 17
    · rw [if_pos c17]
      exact lCase17 h5 hL hB
    rw [if_neg c17]
    by_cases c18 : ((xs (qn i).toNatClampNeg) &&& 31) = 18
    · rw [if_pos c18]
      exact lCase18 h5 hL hB
    rw [if_neg c18]
    by_cases c19 : ((xs (qn i).toNatClampNeg) &&& 31) = 19
    · rw [if_pos c19]
      exact lCase19 h5 hL hB
    rw [if_neg c19]
    by_cases c20 : ((xs (qn i).toNatClampNeg) &&& 31) = 20
    · rw [if_pos c20]
      exact lCase20 h5 hL hB
    rw [if_neg c20]
    by_cases c21 : ((xs (qn i).toNatClampNeg) &&& 31) = 21
    · rw [if_pos c21]
      exact lCase21 h5 hL hB
    rw [if_neg c21]
    by_cases c22 : ((xs (qn i).toNatClampNeg) &&& 31) = 22
    · rw [if_pos c22]
      exact lCase22 h5 hL hB
    rw [if_neg c22]
    by_cases c23 : ((xs (qn i).toNatClampNeg) &&& 31) = 23
    · rw [if_pos c23]
      exact lCase23 h5 hL hB
    rw [if_neg c23]
    by_cases c24 : ((xs (qn i).toNatClampNeg) &&& 31) = 24
    · rw [if_pos c24]
      exact lCase24 h5 hL hB
    rw [if_neg c24]
    by_cases c25 : ((xs (qn i).toNatClampNeg) &&& 31) = 25
    · rw [if_pos c25]
      exact lCase25 h5 hL hB
    rw [if_neg c25]
    by_cases c26 : ((xs (qn i).toNatClampNeg) &&& 31) = 26
    · rw [if_pos c26]
      exact lCase26 h5 hL hB
    rw [if_neg c26]
    by_cases c27 : ((xs (qn i).toNatClampNeg) &&& 31) = 27
    · rw [if_pos c27]
      exact lCase27 h5 hL hB
    rw [if_neg c27]
    by_cases c28 : ((xs (qn i).toNatClampNeg) &&& 31) = 28
    · rw [if_pos c28]
      exact lCase28 h5 hL hB
    rw [if_neg c28]
    by_cases c29 : ((xs (qn i).toNatClampNeg) &&& 31) = 29
    · rw [if_pos c29]
      exact lCase29 h5 hL hB
    rw [if_neg c29]
    exact lOther hB
/-- the whole loop -/
theorem lLoop : ∀ (n i : Nat) (M1 M2 : zM) (w : Nat → Int64) (A : qA), 1 ≤ n → L < 5 * n + i → i ≤ 2560 → L ≤ 2560 → qBoth M1 M2 A → fW xs L n (qn i) M1 M2 w = some 1 := by
  intro n
  induction n with
  | zero => intro i M1 M2 w A h; exact absurd h (by omega)
  | succ n ih =>
    intro i M1 M2 w A _ h hi hL hB
    have e : fW xs L (n + 1) (qn i) M1 M2 w = fW_b xs L (fW xs L n) (qn i) M1 M2 w := rfl
    rw [e]
    rcases lStep (xs := xs) (k := fW xs L n) (w := w) hi hL hB with h1 | ⟨h5, N1, N2, w2, A2, hB2, h1⟩
    · exact h1
    · rw [h1, show qn i + 5 = qn (i + 5) from qn_add i 5]
      exact ih (i + 5) N1 N2 w2 A2 (by omega) (by omega) (by omega) hL hB2
theorem lAll (hL : L ≤ 2560) : ∃ J, fX8_init 1 (qM0 8) = some (0, qD J) ∧ ∀ w, fW xs L 513 0 qC1 (qD J) w = some 1 := by
  obtain ⟨J, j1, j2⟩ := qD1_A
  exact ⟨J, j1, fun w => lLoop 513 0 qC1 (qD J) w qA0 (by omega) (by omega) (by omega) hL ⟨false, qC1.1, J, qC1_eq, rfl, qC1_A, j2⟩⟩
end
