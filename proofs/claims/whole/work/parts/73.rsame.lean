/-! THE VALUE: the normal form read again; THE REFERENCE: isSame -/
section
variable {G : qG}
theorem qEfs_app (F F2 : List qK) (E : qE) : qEfs G (F ++ F2) E = qEfs G F2 (qEfs G F E) := by unfold qEfs; rw [List.foldl_append]
theorem qEfs_len : ∀ F E, (qEfs G F E).2.length = E.2.length + qTs F := by
  intro F
  induction F with
  | nil => intro E; rfl
  | cons k F ih =>
    intro E
    have e : qEfs G (k :: F) E = qEfs G F (qEf G k E) := rfl
    have hts : qTs (k :: F) = (if k.1 = 1 then 0 else 1) + qTs F := by
      unfold qTs
      by_cases c : k.1 = 1
      · rw [List.filter_cons_of_neg (by simp [c]), if_pos c, Nat.zero_add]
      · rw [List.filter_cons_of_pos (by simp [c]), if_neg c, List.length_cons, Nat.add_comm]
    rw [e, ih, hts, ← Nat.add_assoc]
    congr 1
    unfold qEf
    by_cases c0 : k.1 = 0
    · rw [if_pos c0, if_neg (show ¬ k.1 = 1 by omega)]; simp
    · rw [if_neg c0]
      by_cases c1 : k.1 = 1
      · rw [if_pos c1, if_pos c1]; rfl
      · rw [if_neg c1, if_neg c1]; simp
theorem qEfs_ends (p : Option Nat) (E0 : qE) : ∀ (W : List (Nat × Nat)) F, (qEfs G F.reverse E0).1 = W.map (fun x => x.1) → (qEfs G (qEnds p W F).reverse E0).1 = (qPop p W).map (fun x => x.1) ∧ (qEfs G (qEnds p W F).reverse E0).2 = (qEfs G F.reverse E0).2 := by
  intro W
  induction W with
  | nil => intro F h; exact ⟨h, rfl⟩
  | cons x l ih =>
    intro F h
    unfold qEnds qPop
    by_cases c : some x.1 = p
    · rw [if_pos c, if_pos c]; exact ⟨h, rfl⟩
    · rw [if_neg c, if_neg c]
      have e : qEfs G (((1, qn x.2) :: F) : List qK).reverse E0 = ((qEfs G F.reverse E0).1.tail, (qEfs G F.reverse E0).2) := by
        rw [List.reverse_cons, qEfs_app]
        rfl
      obtain ⟨h1, h2⟩ := ih ((1, qn x.2) :: F) (by rw [e]; show (qEfs G F.reverse E0).1.tail = _; rw [h]; rfl)
      exact ⟨h1, by rw [h2, e]⟩
theorem qhd_map (W : List (Nat × Nat)) : (W.map (fun x => x.1)).head? = qhd W := by cases W <;> rfl
theorem qEfs_F : ∀ l : List qT, qWF G l → (∀ t ∈ l, (t.1 < 10 → t.2.2.1 = 60) ∧ t.1 ≤ 10 ∧ t.2.2.1 < 128) → qEfs G (qF G l).reverse ([], []) = ((qW G l).map (fun x => x.1), l.map qKPL) := by
  intro l
  induction l with
  | nil => intro _ _; rfl
  | cons t l ih =>
    intro h1 h2
    have hl := ih h1.1 fun t ht => h2 t (by simp [ht])
    obtain ⟨t1, t2, t3⟩ := h2 t (by simp)
    obtain ⟨e1, e2⟩ := qEfs_ends (G := G) t.2.1 ([], []) (qW G l) (qF G l) (by rw [hl])
    rw [hl] at e2
    have hp : qhd (qPop t.2.1 (qW G l)) = t.2.1 := h1.2.1.symm
    have hE : qEfs G (qEnds t.2.1 (qW G l) (qF G l)).reverse ([], []) = ((qPop t.2.1 (qW G l)).map (fun x => x.1), l.map qKPL) := Prod.ext e1 e2
    have eF : qF G (t :: l) = (if t.1 = 10 then (4, qn t.2.2.1) else (0, qn t.1)) :: qEnds t.2.1 (qW G l) (qF G l) := rfl
    have eW : qW G (t :: l) = if t.1 < 10 ∧ ¬ qgN G t.1 = 0 then (l.length, t.1) :: qPop t.2.1 (qW G l) else qPop t.2.1 (qW G l) := rfl
    rw [eF, eW, List.reverse_cons, qEfs_app, hE]
    by_cases c : t.1 = 10
    · rw [if_pos c, if_neg (by omega)]
      have : qEfs G [((4, qn t.2.2.1) : qK)] ((qPop t.2.1 (qW G l)).map (fun x => x.1), l.map qKPL) = ((qPop t.2.1 (qW G l)).map (fun x => x.1), (10, ((qPop t.2.1 (qW G l)).map (fun x => x.1)).head?, (qn t.2.2.1).toNatClampNeg) :: l.map qKPL) := rfl
      rw [this, qhd_map, hp, qn_c (by omega), ← c]
      rfl
    · have he : t.1 < 10 := by omega
      rw [if_neg c]
      have hn : (qn t.1).toNatClampNeg = t.1 := qn_c (by omega)
      have : qEfs G [((0, qn t.1) : qK)] ((qPop t.2.1 (qW G l)).map (fun x => x.1), l.map qKPL) = (if qgN G (qn t.1).toNatClampNeg = 0 then (qPop t.2.1 (qW G l)).map (fun x => x.1) else (l.map qKPL).length :: (qPop t.2.1 (qW G l)).map (fun x => x.1), ((qn t.1).toNatClampNeg, ((qPop t.2.1 (qW G l)).map (fun x => x.1)).head?, 60) :: l.map qKPL) := rfl
      rw [this, qhd_map, hp, hn, List.length_map]
      have hk : qKPL t = (t.1, t.2.1, 60) := by unfold qKPL; rw [t1 he]
      rw [List.map_cons, hk]
      by_cases c0 : qgN G t.1 = 0
      · rw [if_pos c0, if_neg (by omega)]
      · rw [if_neg c0, if_pos ⟨he, c0⟩]; rfl
theorem qEfs_form {th : List qT} (h1 : qWF G th) (h2 : ∀ t ∈ th, (t.1 < 10 → t.2.2.1 = 60) ∧ t.1 ≤ 10 ∧ t.2.2.1 < 128) : (qEfs G (qForm G th) ([], [])).2 = th.map qKPL := by
  have h := qEfs_F th h1 h2
  unfold qForm
  rw [(qEfs_ends none ([], []) (qW G th) (qF G th) (by rw [h])).2, h]
def qL6 (V : qV) : Prop := ∀ t ∈ V.2.2.1, t.1 < 10 → t.2.2.1 = 60
theorem qL6_closed (G : qG) : qClosed G qL6 := by
  refine ⟨fun k p V h => h, fun l p V _ _ _ h t ht c => ?_, fun e p b V _ _ _ _ h t ht c => ?_, fun V Z t _ h _ => h, fun V _ _ h => h, fun p b V _ _ h => h⟩
  · rcases List.mem_cons.mp ht with e | ht
    · rw [e] at c; exact absurd c (by show ¬ 10 < 10; omega)
    · exact h t ht c
  · rcases List.mem_cons.mp ht with e | ht
    · rw [e]
    · exact h t ht c
theorem qFull_6 {sw : Nat → Nat} {en : Nat → List qK} {ks : List qK} (hE : qEok sw en) (hk : ∀ k ∈ ks, qKok k) (h6 : ks.length ≤ 600) : qL6 (qFull G sw en ks).1 := qShutTo_P (qL6_closed G) 0 false (qGo_ok (G := G) hE hk h6).1 (qGo_P (qL6_closed G) hE hk h6 (fun t ht => by cases ht))
theorem qForm_simp {A : qA} (h : qAok A) : (∀ k ∈ qForm A.1 (qFA A).1.2.2.1, qSimp k) ∧ (qForm A.1 (qFA A).1.2.2.1).length ≤ 600 ∧ qTs (qForm A.1 (qFA A).1.2.2.1) = (qFA A).1.2.2.1.length ∧ (qEfs A.1 (qForm A.1 (qFA A).1.2.2.1) ([], [])).2 = (qFA A).1.2.2.1.map qKPL := by
  obtain ⟨a1, a2⟩ := qFormA h
  obtain ⟨b1, b2⟩ := qForm_kw h
  obtain ⟨hg, hE, hn, hk⟩ := h
  obtain ⟨f1, f2, f3, f4, f5⟩ := qFull_ok (G := A.1) hE hk (by omega)
  have h6 := qFull_6 (G := A.1) hE hk (by omega)
  have hf : (qEfs A.1 (qForm A.1 (qFA A).1.2.2.1) ([], [])).2 = (qFA A).1.2.2.1.map qKPL := qEfs_form (G := A.1) f2.1 fun t ht => ⟨h6 t ht, (f1.2.2.2.2.1 t ht).1, (f1.2.2.2.2.1 t ht).2.2.1⟩
  refine ⟨fun k hk => ⟨a2 k hk, (b1 k hk).2⟩, a1, ?_, hf⟩
  have hl := qEfs_len (G := A.1) (qForm A.1 (qFA A).1.2.2.1) ([], [])
  rw [hf] at hl
  simpa using hl.symm
end
