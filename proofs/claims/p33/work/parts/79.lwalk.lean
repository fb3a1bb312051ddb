/-! THE LAW: its beginning -/
theorem sW {s : State} {b : Nat} (hts : ∀ w ∈ lw_tbl, w.before #[Value.ref b] s = true) (i : Nat) {w : Cond} (h : lw_tbl[i]? = some w) : w.before #[Value.ref b] s = true := hts w (List.mem_of_getElem? h)
theorem sArr {s : State} {args : Array Value} {ty : FieldType} (h : (Cond.arrayClass ty).before args s = true) : ∃ cA : ClassId, ArrOfT s cA ty ∧ s.vm.findClass ("[" ++ ty.toString) = some cA := by
  obtain ⟨c, k, comp, h1, h2, h3⟩ := Cond.arrayClass_spec h
  exact ⟨c, fun n z => ⟨fun k h => (by cases h), k, h2, comp, h3⟩, h1⟩
theorem sArrO {s : State} {C : String} (h : va_AO C s) : ∃ cA : ClassId, ArrOfT s cA (.object C) ∧ va_RA s cA (.object C) := by
  obtain ⟨comp, c, k, h1, h2, h3, h4, h5⟩ := Cond.arrayOver_spec h
  exact ⟨c, fun n z => ⟨fun k h => (by cases h), k, h3, comp, h4⟩, k, comp, h3, h4, h1, h5⟩
theorem sAO {s : State} {b : Nat} (hts : ∀ w ∈ lw_tbl, w.before #[Value.ref b] s = true) : zAO s := ⟨va_AO.of (sW hts 57 (by decide +kernel)), va_AO.of (sW hts 142 (by decide +kernel)), va_AO.of (sW hts 188 (by decide +kernel))⟩
theorem sKn {s : State} {b : Nat} (hts : ∀ w ∈ gtb, w.before #[Value.ref b] s = true) : ∀ ci, ci < 8 → ∃ (cC : ClassId) (iS : Nat → Nat), u_Kn s (zcl ci).1 (zcl ci).2.1 (zcl ci).2.2 cC iS := by
  intro ci h
  rcases (show ci = 0 ∨ ci = 1 ∨ ci = 2 ∨ ci = 3 ∨ ci = 4 ∨ ci = 5 ∨ ci = 6 ∨ ci = 7 by omega) with rfl | rfl | rfl | rfl | rfl | rfl | rfl | rfl
  · exact u_known hts zcU0 (hts _ zcV0)
  · exact u_known hts zcU1 (hts _ zcV1)
  · exact u_known hts zcU2 (hts _ zcV2)
  · exact u_known hts zcU3 (hts _ zcV3)
  · exact u_known hts zcU4 (hts _ zcV4)
  · exact u_known hts zcU5 (hts _ zcV5)
  · exact u_known hts zcU6 (hts _ zcV6)
  · exact u_known hts zcU7 (hts _ zcV7)
theorem sK {s : State} {b : Nat} (hts : ∀ w ∈ lw_tbl, w.before #[Value.ref b] s = true) : ∃ (D : va_G) (T : Nat → ClassId), va_K D vwCl (ztys T) s := by
  have hg : ∀ w ∈ gtb, w.before #[Value.ref b] s = true := fun w hw => hts w (List.mem_filter.mp hw).1
  obtain ⟨c0, i0, -⟩ := sKn hg 0 (by omega)
  have h : ∀ ci, ∃ q : ClassId × (Nat → Nat), ci < 8 → u_Kn s (zcl ci).1 (zcl ci).2.1 (zcl ci).2.2 q.1 q.2 := fun ci => by
    by_cases c : ci < 8
    · obtain ⟨cC, iS, h⟩ := sKn hg ci c
      exact ⟨(cC, iS), fun _ => h⟩
    · exact ⟨(c0, i0), fun h => absurd h c⟩
  obtain ⟨cI, aI, rI⟩ := sArr (hg _ zar_int)
  obtain ⟨cB, aB, rB⟩ := sArr (hg _ zar_boolean)
  obtain ⟨cC, aC, rC⟩ := sArr (hg _ zar_char)
  obtain ⟨cL, aL, rL⟩ := sArr (hg _ zar_long)
  obtain ⟨c1, a1, r1⟩ := sArrO (sAO hts).1
  obtain ⟨c3, a3, r3⟩ := sArrO (sAO hts).2.1
  obtain ⟨c4, a4, r4⟩ := sArrO (sAO hts).2.2
  refine ⟨(fun ci => (Classical.choose (h ci)).1, fun ci => (Classical.choose (h ci)).2), fun t => if t = 100 then cI else if t = 101 then cB else if t = 102 then cC else if t = 103 then cL else if t = 110 then c1 else if t = 111 then c3 else c4, fun ci q hq => ?_, fun k q hq => ?_⟩
  · have hl : ci < 8 := (List.getElem?_eq_some_iff.mp hq).1
    have e : vwCl[ci]? = some (zcl ci) := by
      rcases (show ci = 0 ∨ ci = 1 ∨ ci = 2 ∨ ci = 3 ∨ ci = 4 ∨ ci = 5 ∨ ci = 6 ∨ ci = 7 by omega) with rfl | rfl | rfl | rfl | rfl | rfl | rfl | rfl <;> rfl
    rw [e] at hq
    cases hq
    exact Classical.choose_spec (h ci) hl
  · have hl : k < 7 := (List.getElem?_eq_some_iff.mp hq).1
    rcases (show k = 0 ∨ k = 1 ∨ k = 2 ∨ k = 3 ∨ k = 4 ∨ k = 5 ∨ k = 6 by omega) with rfl | rfl | rfl | rfl | rfl | rfl | rfl <;> cases hq
    · exact ⟨aI, rI⟩
    · exact ⟨aB, rB⟩
    · exact ⟨aC, rC⟩
    · exact ⟨aL, rL⟩
    · exact ⟨a1, r1⟩
    · exact ⟨a3, r3⟩
    · exact ⟨a4, r4⟩
theorem sN {s : State} {b : Nat} (hts : ∀ w ∈ lw_tbl, w.before #[Value.ref b] s = true) : zN s := by
  intro w hw
  have h1 := (List.mem_filter.mp hw).2
  have h2 := hts w (List.mem_filter.mp hw).1
  cases w <;> first | exact va_Nw.of rfl h2 | (simp [znest] at h1)

theorem lw_own {p : Program} {s : State} {m : MethodId} {meth : Method} {c : Code} {b L : Nat} {xs : Nat → Int32} (h : lw_At p s m meth c b L xs) : s.vm.findClass RL = some m.cls := h.2.2.2.2.1
theorem lw_gtb {p : Program} {s : State} {m : MethodId} {meth : Method} {c : Code} {b L : Nat} {xs : Nat → Int32} (h : lw_At p s m meth c b L xs) : ∀ w ∈ gtb, w.before #[Value.ref b] s = true := fun w hw => h.2.2.2.2.2.1 w (List.mem_filter.mp hw).1
/-- a method that reads the script and has a table of catches that is never used -/
def zMetSW (l : Launch) (D : va_G) (T : Nat → ClassId) (b : Nat) (gr : Bool) (b0 L : Nat) (xs : Nat → Int32) (y : MethodName) (cc : ByteArray) (nL : Nat) (ret : Option FieldType) (hh : List (Nat × Nat × Nat × Nat)) (K mc ms : Nat) (as : List Value) (M : zM) (o : Nat × Int32 × zM) : Prop :=
  ∀ sz, Met l y (Cond.codeWith y cc nL ret hh :: gtb) (zRm K mc ms) (zPcS D T b gr b0 L xs as M sz) (zQ ret D T b gr M.2.2.2 o (zA b M.2.2.2 sz)) mc ms (zA b M.2.2.2 sz)
theorem zEntrySW {l : Launch} {D : va_G} {T : Nat → ClassId} {b : Nat} {gr : Bool} {b0 L : Nat} {xs : Nat → Int32} {y : MethodName} {cc : ByteArray} {nL : Nat} {ret : Option FieldType} {hh : List (Nat × Nat × Nat × Nat)} {K mc ms : Nat} {as : List Value} {M : zM} {o : Nat × Int32 × zM} (hy : plainName y.cls = true) (hc : zc1 as) (hn : as.length ≤ nL)
    (h : zV false l y.cls cc nL ret false K mc ms D T (zEs b0 L xs) b gr M.2.2.2 o 0 0 0 (zarg 0 as) [] M) : zMetSW l D T b gr b0 L xs y cc nL ret hh K mc ms as M o := by
  intro sz
  refine va_MetW hy rfl ?_
  intro p e s m args below meth c s₁ B hml hv
  obtain ⟨rfl, ⟨hsz, hgr, hP, hK, hao, hnw⟩, hX, hb, hlt⟩ := hv
  subst hsz
  rw [lg_entry_eq]
  have hcat : ∀ q ∈ lv_args 0 as, q.2.category = 1 := by rw [zarg_eq as 0 hc]; exact zarg_cat as 0 hc
  rw [← zarg_eq as 0 hc] at h
  exact h p e _ s m as.toArray below meth c s.heap [] (zA b M.2.2.2 s.heap.size) _
    ⟨B.exec, B.bytes, hml, findClass_of_methodNamed B.named, fun w hw => atoms_spec (ws := Cond.codeWith y cc nL ret hh :: gtb) B.pre w (List.mem_cons_of_mem _ hw), B.notSynchronized, B.returns, fun hi => (nomatch hi), trivial, rfl, hK, fun q hq => Or.inr hq⟩
    ⟨hP, zD_of fun r h1 h2 => Or.inl ⟨by omega, by omega⟩, va_S.rf, hgr, ⟨fun hg => (nomatch hg), hao, hnw⟩, fun _ => rfl⟩ ⟨fun q hq => Or.inl (hcat q hq), fun _ => ⟨hX, hlt, fun h9 => by
      rcases h9 with ⟨h9, _⟩ | h9
      · have h9 : b < b0 := h9
        omega
      · have h9 : s.heap.size ≤ b0 := h9
        omega⟩⟩ (lv_entry as (by rw [zarg_len as hc]; exact hn))
/-- a call of a method that reads the script and makes something -/
theorem zV_callFm {tx : Bool} {l : Launch} {own : String} {cc : ByteArray} {nL : Nat} {ret : Option FieldType} {ini : Bool} {K mc ms : Nat} {D : va_G} {T : Nat → ClassId} {ev : zE} {b : Nat} {gr : Bool} {n0 : Nat} {o : Nat × Int32 × zM} {cells slots pc : Nat} {lv : List (Nat × Value)} {st : List Value} {M : zM} (he : ev.1 = true) (hgr : gr = true) {index n K' mc' ms' maxL' : Nat} {y : MethodName} {bytes' : ByteArray} {As rest : List Value} {ty : FieldType} {x : Int32} {M1 : zM} (hM : zMetS l D T b gr ev.2.1 ev.2.2.1 ev.2.2.2.1 y bytes' maxL' (some ty) K' mc' ms' As M (0, x, M1)) (hm : zMd y bytes' maxL' (some ty) n) (hl : (Cond.methodLink own index y) ∈ gtb) (hst9 : (Cond.static y) ∈ gtb) (hst : st = As.reverse ++ rest) (hn : As.length = n) (hcat : (rest.map fun v => v.category).sum ≤ 8) (hK : K' + 1 ≤ K) (hmc : cells + mc' ≤ mc) (hms : slots + ms' ≤ ms) (hdg : decode cc pc = .ok (.invokestatic index, 3)) (k : zV tx l own cc nL ret ini K mc ms D T ev b gr n0 o (cells + mc') (slots + ms') (pc + 3) lv (.int x :: rest) M1) : zV tx l own cc nL ret ini K mc ms D T ev b gr n0 o cells slots pc lv st M := by
  subst hst
  intro p e R s m args below meth c H locs A ls hX hY hc hl9
  have hsub := zA_sub hY.2.1 hY.2.2.1 hX.2.2.2.2.2.2.2.2.2.2.2 rfl
  obtain ⟨h1, h2, h3⟩ := hc.2 he
  have hb : ev.2.1 ≤ b := by
    rcases Nat.lt_or_ge b ev.2.1 with h9 | h9
    · exfalso
      apply h3
      have h4 := hY.2.1.2 (ev.2.1 - b - 1) _ (zw_get (T := T) (b := b) (M := M) (a := ev.2.1 - b) (by omega) (by have := hY.2.2.2.1 hgr; have := hY.2.2.1.1; omega))
      have e9 : b + (ev.2.1 - b) = ev.2.1 := by omega
      rw [← e9]
      exact h4
    · exact h9
  have hpre : ∀ U : State, U.heap = H → s.WarmedH U.vm → zPcS D T b gr ev.2.1 ev.2.2.1 ev.2.2.2.1 As M H.size As.toArray U := by
    intro U hU hW
    obtain ⟨g0, g1, g2, g3, g4, g5, g6, g7⟩ := zPc_at (as := As) (tz' := false) hY hX.2.2.2.2.2.2.2.2.2.2.1 hX.2.2.2.2.2.2.2.2.2.2.2 (fun h => nomatch h) U hU hW
    refine ⟨g0, ⟨g1, g2, g3, g4, g6, g7⟩, ?_, hb, Nat.lt_of_lt_of_le h2 hY.2.2.1.1⟩
    rw [hU]
    exact va_X.moved hW.alike (h1.kept (hY.2.2.1.2.1 _ h2 h3))
  refine va_calli (va_runS (As := As) (rest := rest) (n := n) ⟨hX.1, hX.2.1, hX.2.2.1, hX.2.2.2.1, hX.2.2.2.2.1⟩ (hM H.size) ⟨zCB hX.2.2.2.2.1 hX.2.2.2.2.2.2.2.2.2.1 hm hl hK, hX.2.2.2.2.1 _ hst9⟩ ⟨zPcS_blind, hpre⟩ rfl hn hl9.1 rfl (lv_room hcat) hdg ⟨by rw [hX.2.2.2.2.2.2.2.2.2.1]; exact hmc, by rw [hX.2.2.2.2.2.2.2.2.2.1]; exact hms⟩) hY.2.2.1 (fun q _ h => hsub q h) hsub (fun x9 u t H1 locs1 ht hvm hw hB hz1 hk1 hS => ?_)
  obtain ⟨hw, -⟩ := hw
  have hw : x9 = x := hw
  subst hw
  exact k p e R s m args below meth c H1 locs1 A ls hX (zY_aft hY hX.2.2.2.2.2.2.2.2.2.2.2 ht hB hS) hc hl9
set_option maxHeartbeats 4000000 in
set_option maxRecDepth 100000 in
theorem vL_isHeld (l : Launch) (D : va_G) (T : Nat → ClassId) (b : Nat) (xs : Nat → Int32) (L b0 : Nat) (M M' : zM) (h : fL_holds xs L M = some (1, M')) : zMetSW l D T b true b0 L xs yL_isHeld cL_isHeld 2 (some .boolean) [(0, 4, 5, 213), (0, 4, 8, 215), (0, 4, 11, 132)] 126 519 20148 [.ref b0] M (0, 1, M') := by
  refine zEntrySW zp_yL_isHeld ⟨rfl, trivial⟩ (Nat.le_of_ble_eq_true rfl) ?_
  show zV false l RL cL_isHeld 2 (some .boolean) false 126 519 20148 D T (zEs b0 L xs) b true M.2.2.2 (0, 1, M') 0 0 0 [(0, .ref b0)] [] M
  refine zV_sload_n (j := 0) dL_isHeld_0 rfl rfl ?_
  refine zV_callFm rfl rfl (As := [.ref b0]) (rest := []) (vL_holds l D T b true xs L b0 rfl M _ _ h) zm_yL_holds zl_RL_209 zs_yL_holds rfl rfl (zcs trivial (Nat.le_of_ble_eq_true rfl)) (by decide) (Nat.le_of_ble_eq_true rfl) (Nat.le_of_ble_eq_true rfl) dL_isHeld_1 ?_
  exact zV_zret rfl dL_isHeld_4 (Nat.le_of_ble_eq_true rfl) (Nat.le_of_ble_eq_true rfl) (Or.inr rfl) rfl
/-- the law, from its entry -/
theorem whole_start {p : Program} {e : Env} {s : State} {m : MethodId} {below : List Frame} {meth : Method} {c : Code} (l : Launch) (hflags : l.flags = flags0) {b L : Nat} {xs : Nat → Int32} (hL : L ≤ 260) (C0 : lw_At p s m meth c b L xs) : W p l e room_1 s m #[Value.ref b] below meth c s.heap [] 0 0 (lw_Z below #[Value.ref b] s) (entryFrame m ([Value.ref b] : List Value).toArray 1) := by
  have hl := lv_entry ([.ref b]) (n := 1) (Nat.le_of_ble_eq_true rfl)
  rw [lg_entry_eq]
  generalize (lg_sl ([.ref b]) ++ List.replicate (1 - (lg_sl ([.ref b])).length) Slot.unset).toArray = ls at hl ⊢
  have hl : lv_has ls 1 [(0, .ref b)] := hl
  have hts := lw_gtb C0
  have htt := C0.2.2.2.2.2.1
  have hX := C0.2.2.2.2.2.2.1
  have hbl : b < s.heap.size := C0.2.2.2.2.2.2.2.1
  obtain ⟨D, T, hK⟩ := sK htt
  have hN := sN htt
  have hAO := sAO htt
  obtain ⟨b1, hb1⟩ : ∃ b1, s.heap.size = b1 + 1 := ⟨s.heap.size - 1, by omega⟩
  obtain ⟨M', hM'⟩ := lHolds xs (L := L) (by omega)
  have hM := vL_isHeld l D T b1 xs L b qMz M' hM'
  have hcw : vx_CSW room_1 s #[Value.ref b] RL 217 yL_isHeld cL_isHeld 2 (some .boolean) [(0, 4, 5, 213), (0, 4, 8, 215), (0, 4, 11, 132)] (Cond.codeWith yL_isHeld cL_isHeld 2 (some .boolean) [(0, 4, 5, 213), (0, 4, 8, 215), (0, 4, 11, 132)] :: gtb) (zRm 126 519 20148) 519 20148 1 := by
    refine vx_cwSW 1 hts (gtb_good fun w hw => ?_) rfl rfl rfl ⟨by decide +kernel, by decide +kernel, by decide +kernel⟩ ⟨by show 126 + 1 ≤ 2048; omega, by show 8 + (2 + 11) + 64 * 126 ≤ 84000; omega⟩
    rcases List.mem_append.mp hw with h | h
    · rcases List.mem_cons.mp h with e1 | h
      · rw [e1]; exact zl_RL_217
      · rcases List.mem_cons.mp h with e1 | h
        · rw [e1]; exact zs_yL_isHeld
        · rcases List.mem_cons.mp h with e1 | h
          · rw [e1]; exact zK_RL
          · cases h
    · rcases List.mem_cons.mp h with e1 | h
      · rw [e1]; exact zg_yL_isHeld
      · exact h
  have hpre : ∀ U : State, U.heap = s.heap → s.WarmedH U.vm → zPcS D T b1 true b L xs [.ref b] qMz s.heap.size ([Value.ref b] : List Value).toArray U := by
    intro U hU hW
    refine ⟨rfl, ⟨by rw [hU], fun _ => hb1, ?_, va_K.moved hW.alike hK, fun _ => zAO_moved hW.alike hAO, zN_warm hW hN⟩, ?_, by omega, hbl⟩
    · intro k q hk
      obtain ⟨g1, -⟩ := zw_at hk
      exact absurd g1 (Nat.not_lt_zero k)
    · rw [hU]
      exact va_X.moved hW.alike hX
  have hsub : ∀ q, zA b1 qMz.2.2.2 s.heap.size q → s.heap.size ≤ q := by
    intro q h
    rcases h with ⟨h1, h2⟩ | h
    · have h2 : q ≤ b1 + 0 := h2
      omega
    · exact h
  refine lv_aload_n C0.1 C0.2.1 dL_law_0 rfl (lv_at hl 0 rfl) ?_
  refine va_calli (A0 := fun q : Nat => s.heap.size ≤ q) (vx_runSW (As := [.ref b]) (rest := []) (n := 1) ⟨C0.1, C0.2.1, C0.2.2.2.1, lw_own C0, hts⟩ (hM s.heap.size) hcw ⟨zPcS_blind, hpre⟩ rfl rfl hl.1 rfl (lv_room (Nat.zero_le _)) dL_law_1 ⟨by show 0 + 519 ≤ 600104; omega, by show 0 + 20148 ≤ 7301314; omega⟩) va_S.rf (fun q _ h => hsub q h) hsub (fun x9 u t H1 locs1 ht hvm hw hB hz1 hk1 hS => ?_)
  obtain ⟨hw, -⟩ := hw
  have hw : x9 = 1 := hw
  subst hw
  refine va_forget (fun q hq => hS.2.2 q hq) ?_
  refine W.widen (k := 600104) (n := 7301314) (by omega) (by omega) ?_
  exact lw_ret C0.1 C0.2.1 C0.2.2.1 C0.2.2.2.2.2.2.2.2.1 dL_law_4
