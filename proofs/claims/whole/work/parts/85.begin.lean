/-! THE LAW: its beginning -/
theorem sW {s : State} {b : Nat} (hts : ∀ w ∈ lw_tbl, w.before #[Value.ref b] s = true) (i : Nat) {w : Cond} (h : lw_tbl[i]? = some w) : w.before #[Value.ref b] s = true := hts w (List.mem_of_getElem? h)
theorem sArr {s : State} {args : Array Value} {ty : FieldType} (h : (Cond.arrayClass ty).before args s = true) : ∃ cA : ClassId, ArrOfT s cA ty ∧ s.vm.findClass ("[" ++ ty.toString) = some cA := by
  obtain ⟨c, k, comp, h1, h2, h3⟩ := Cond.arrayClass_spec h
  exact ⟨c, fun n z => ⟨fun k h => (by cases h), k, h2, comp, h3⟩, h1⟩
theorem sArrO {s : State} {C : String} (h : va_AO C s) : ∃ cA : ClassId, ArrOfT s cA (.object C) ∧ va_RA s cA (.object C) := by
  obtain ⟨comp, c, k, h1, h2, h3, h4, h5⟩ := Cond.arrayOver_spec h
  exact ⟨c, fun n z => ⟨fun k h => (by cases h), k, h3, comp, h4⟩, k, comp, h3, h4, h1, h5⟩
theorem sAO {s : State} {b : Nat} (hts : ∀ w ∈ lw_tbl, w.before #[Value.ref b] s = true) : zAO s := ⟨va_AO.of (sW hts 93 (by decide +kernel)), va_AO.of (sW hts 185 (by decide +kernel)), va_AO.of (sW hts 231 (by decide +kernel))⟩
theorem sKn {s : State} {b : Nat} (hts : ∀ w ∈ gtb, w.before #[Value.ref b] s = true) : ∀ ci, ci < 9 → ∃ (cC : ClassId) (iS : Nat → Nat), u_Kn s (zcl ci).1 (zcl ci).2.1 (zcl ci).2.2 cC iS := by
  intro ci h
  rcases (show ci = 0 ∨ ci = 1 ∨ ci = 2 ∨ ci = 3 ∨ ci = 4 ∨ ci = 5 ∨ ci = 6 ∨ ci = 7 ∨ ci = 8 by omega) with rfl | rfl | rfl | rfl | rfl | rfl | rfl | rfl | rfl
  · exact u_known hts zcU0 (hts _ zcV0)
  · exact u_known hts zcU1 (hts _ zcV1)
  · exact u_known hts zcU2 (hts _ zcV2)
  · exact u_known hts zcU3 (hts _ zcV3)
  · exact u_known hts zcU4 (hts _ zcV4)
  · exact u_known hts zcU5 (hts _ zcV5)
  · exact u_known hts zcU6 (hts _ zcV6)
  · exact u_known hts zcU7 (hts _ zcV7)
  · exact u_known hts zcU8 (hts _ zcV8)
theorem sK {s : State} {b : Nat} (hts : ∀ w ∈ lw_tbl, w.before #[Value.ref b] s = true) : ∃ (D : va_G) (T : Nat → ClassId), va_K D vwCl (ztys T) s := by
  have hg : ∀ w ∈ gtb, w.before #[Value.ref b] s = true := fun w hw => hts w (List.mem_filter.mp hw).1
  obtain ⟨c0, i0, -⟩ := sKn hg 0 (by omega)
  have h : ∀ ci, ∃ q : ClassId × (Nat → Nat), ci < 9 → u_Kn s (zcl ci).1 (zcl ci).2.1 (zcl ci).2.2 q.1 q.2 := fun ci => by
    by_cases c : ci < 9
    · obtain ⟨cC, iS, h⟩ := sKn hg ci c
      exact ⟨(cC, iS), fun _ => h⟩
    · exact ⟨(c0, i0), fun h => absurd h c⟩
  obtain ⟨cI, aI, rI⟩ := sArr (hg _ zar_int)
  obtain ⟨cB, aB, rB⟩ := sArr (hg _ zar_boolean)
  obtain ⟨cC, aC, rC⟩ := sArr (hg _ zar_char)
  obtain ⟨cL, aL, rL⟩ := sArr (hg _ zar_long)
  obtain ⟨c1, a1, r1⟩ := sArrO (sAO hts).1
  obtain ⟨c3, a3, r3⟩ := sArrO (sAO hts).2.1
  obtain ⟨c4, a4, r4⟩ := sArrO (sAO hts).2.2
  refine ⟨(fun ci => (Classical.choose (h ci)).1, fun ci => (Classical.choose (h ci)).2), fun t => if t = 100 then cI else if t = 101 then cB else if t = 102 then cC else if t = 103 then cL else if t = 110 then c1 else if t = 111 then c3 else c4, fun ci q hq => ?_, fun k q hq => ?_⟩
  · have hl : ci < 9 := (List.getElem?_eq_some_iff.mp hq).1
    have e : vwCl[ci]? = some (zcl ci) := by
      rcases (show ci = 0 ∨ ci = 1 ∨ ci = 2 ∨ ci = 3 ∨ ci = 4 ∨ ci = 5 ∨ ci = 6 ∨ ci = 7 ∨ ci = 8 by omega) with rfl | rfl | rfl | rfl | rfl | rfl | rfl | rfl | rfl <;> rfl
    rw [e] at hq
    cases hq
    exact Classical.choose_spec (h ci) hl
  · have hl : k < 7 := (List.getElem?_eq_some_iff.mp hq).1
    rcases (show k = 0 ∨ k = 1 ∨ k = 2 ∨ k = 3 ∨ k = 4 ∨ k = 5 ∨ k = 6 by omega) with rfl | rfl | rfl | rfl | rfl | rfl | rfl <;> cases hq
    · exact ⟨aI, rI⟩
    · exact ⟨aB, rB⟩
    · exact ⟨aC, rC⟩
    · exact ⟨aL, rL⟩
    · exact ⟨a1, r1⟩
    · exact ⟨a3, r3⟩
    · exact ⟨a4, r4⟩
theorem zFw_in : (zFw.all fun w => decide (w ∈ lw_tbl)) = true := by decide +kernel
theorem zStr_in : ∀ q ∈ zStr, (Cond.stringRef RX7 q.1 q.2) ∈ lw_tbl ∧ (Cond.exactly (.string RX7 q.1) "java/lang/String") ∈ flatC (Jvm.Cond.and given_1 narrow_1) := by decide +kernel
theorem sU {s : State} {b : Nat} (hts : ∀ w ∈ lw_tbl, w.before #[Value.ref b] s = true) (hgv : (Jvm.Cond.and given_1 narrow_1).before #[Value.ref b] s = true) : zU (fun q : Nat => s.heap.size ≤ q) s s.heap := by
  have hs := flat_of_before _ hgv
  have hA : ∀ a : Nat, a < s.heap.size → ¬ s.heap.size ≤ a := fun a h => Nat.not_le.mpr h
  refine ⟨vx_Zqof (sW hts 474 (by decide +kernel)) (sW hts 71 (by decide +kernel)) (hs _ (by decide +kernel)) hA, vx_Zqof (sW hts 476 (by decide +kernel)) (sW hts 71 (by decide +kernel)) (hs _ (by decide +kernel)) hA, fun w hw => ?_, fun q hq => ?_⟩
  · have h1 := List.all_eq_true.mp zFw_ok w hw
    simp only [Bool.and_eq_true] at h1
    exact va_Nw.of h1.1 (hts w (of_decide_eq_true (List.all_eq_true.mp zFw_in w hw)))
  · obtain ⟨h1, h2⟩ := zStr_in q hq
    obtain ⟨a, c, cell, k, e, -⟩ := Cond.exactly_spec (hs _ h2)
    exact ⟨a, vk_R.of (hts _ h1) e⟩
theorem sN {s : State} {b : Nat} (hts : ∀ w ∈ lw_tbl, w.before #[Value.ref b] s = true) : zN s := by
  intro w hw
  have h1 := (List.mem_filter.mp hw).2
  have h2 := hts w (List.mem_filter.mp hw).1
  cases w <;> first | exact va_Nw.of rfl h2 | (simp [znest] at h1)
theorem sNC {s : State} {b : Nat} (hgv : (Jvm.Cond.and given_1 narrow_1).before #[Value.ref b] s = true) : zNC s := by
  have hs := flat_of_before _ hgv
  intro i j h1 h2 h3 h4 h5
  rcases (show i = 1 ∨ i = 2 ∨ i = 3 by omega) with rfl | rfl | rfl <;> rcases (show j = 1 ∨ j = 2 ∨ j = 3 by omega) with rfl | rfl | rfl
  · exact absurd rfl h5
  · exact va_Nc.of (hs _ (by decide +kernel))
  · exact va_Nc.of (hs _ (by decide +kernel))
  · exact va_Nc.of (hs _ (by decide +kernel))
  · exact absurd rfl h5
  · exact va_Nc.of (hs _ (by decide +kernel))
  · exact va_Nc.of (hs _ (by decide +kernel))
  · exact va_Nc.of (hs _ (by decide +kernel))
  · exact absurd rfl h5
