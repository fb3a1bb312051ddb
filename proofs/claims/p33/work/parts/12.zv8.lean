/-! contracts of methods that read the script (zMetS), of methods with a table of catches that is never used (zMetW), of methods that make nothing, with the heap's size (zMet0) -/
def zPcS (D : va_G) (T : Nat → ClassId) (b : Nat) (gr : Bool) (b0 L : Nat) (xs : Nat → Int32) (as : List Value) (M : zM) (sz : Nat) : Array Value → State → Prop := va_Pc as fun U => (U.heap.size = sz ∧ (gr = true → sz = b + M.2.2.2 + 1) ∧ va_P D vwCl (zw T b M) U.heap ∧ va_K D vwCl (ztys T) U ∧ (gr = true → zAO U) ∧ zN U) ∧ va_X b0 L xs U U.heap ∧ b0 ≤ b ∧ b0 < sz
def zMetS (l : Launch) (D : va_G) (T : Nat → ClassId) (b : Nat) (gr : Bool) (b0 L : Nat) (xs : Nat → Int32) (y : MethodName) (cc : ByteArray) (nL : Nat) (ret : Option FieldType) (K mc ms : Nat) (as : List Value) (M : zM) (o : Nat × Int32 × zM) : Prop :=
  ∀ sz, Met l y (zWs y cc nL ret) (zRm K mc ms) (zPcS D T b gr b0 L xs as M sz) (zQ ret D T b gr M.2.2.2 o (zA b M.2.2.2 sz)) mc ms (zA b M.2.2.2 sz)
def zMetW (l : Launch) (D : va_G) (T : Nat → ClassId) (b : Nat) (gr : Bool) (y : MethodName) (cc : ByteArray) (nL : Nat) (ret : Option FieldType) (hh : List (Nat × Nat × Nat × Nat)) (K mc ms : Nat) (as : List Value) (M : zM) (o : Nat × Int32 × zM) : Prop :=
  ∀ sz, Met l y (Cond.codeWith y cc nL ret hh :: gtb) (zRm K mc ms) (zPc D T b gr false as M sz) (zQ ret D T b gr M.2.2.2 o (zA b M.2.2.2 sz)) mc ms (zA b M.2.2.2 sz)
theorem zPcS_blind {D : va_G} {T : Nat → ClassId} {b : Nat} {gr : Bool} {b0 L : Nat} {xs : Nat → Int32} {as : List Value} {M : zM} {sz : Nat} : FrameBlind (zPcS D T b gr b0 L xs as M sz) := by
  intro a U g mk q
  obtain ⟨q0, ⟨q1, q2, q3, q4, q6, q7⟩, q8, q9, q10⟩ := q
  exact ⟨q0, ⟨q1, q2, q3, va_K.moved (u := U) (U := U.calling g mk a) (Vm.Alike.refl U.vm) q4, fun h => zAO_moved (u := U) (U := U.calling g mk a) (Vm.Alike.refl U.vm) (q6 h), zN_warm (s := U) (U := U.calling g mk a) (State.WarmedH.refl U) q7⟩, va_X.moved (u := U) (U := U.calling g mk a) (Vm.Alike.refl U.vm) q8, q9, q10⟩
theorem zEntryS {l : Launch} {D : va_G} {T : Nat → ClassId} {b : Nat} {gr : Bool} {b0 L : Nat} {xs : Nat → Int32} {y : MethodName} {cc : ByteArray} {nL : Nat} {ret : Option FieldType} {K mc ms : Nat} {as : List Value} {M : zM} {o : Nat × Int32 × zM} (hy : plainName y.cls = true) (hc : zc1 as) (hn : as.length ≤ nL)
    (h : zV false l y.cls cc nL ret false K mc ms D T (zEs b0 L xs) b gr M.2.2.2 o 0 0 0 (zarg 0 as) [] M) : zMetS l D T b gr b0 L xs y cc nL ret K mc ms as M o := by
  intro sz
  refine Met.ofW (cc := cc) (maxL := nL) (ret := ret) hy rfl ?_
  intro p e s m args below meth c s₁ B hml hv
  obtain ⟨rfl, ⟨hsz, hgr, hP, hK, hao, hnw⟩, hX, hb, hlt⟩ := hv
  subst hsz
  rw [lg_entry_eq]
  have hcat : ∀ q ∈ lv_args 0 as, q.2.category = 1 := by rw [zarg_eq as 0 hc]; exact zarg_cat as 0 hc
  rw [← zarg_eq as 0 hc] at h
  exact h p e _ s m as.toArray below meth c s.heap [] (zA b M.2.2.2 s.heap.size) _
    ⟨B.exec, B.bytes, hml, findClass_of_methodNamed B.named, fun w hw => atoms_spec (ws := zWs y cc nL ret) B.pre w (List.mem_cons_of_mem _ hw), B.notSynchronized, B.returns, fun hi => (nomatch hi), trivial, rfl, hK, fun q hq => Or.inr hq⟩
    ⟨hP, zD_of fun r h1 h2 => Or.inl ⟨by omega, by omega⟩, va_S.rf, hgr, ⟨fun hg => (nomatch hg), hao, hnw⟩, fun _ => rfl⟩ ⟨fun q hq => Or.inl (hcat q hq), fun _ => ⟨hX, hlt, fun h9 => by
      rcases h9 with ⟨h9, _⟩ | h9
      · have h9 : b < b0 := h9
        omega
      · have h9 : s.heap.size ≤ b0 := h9
        omega⟩⟩ (lv_entry as (by rw [zarg_len as hc]; exact hn))
theorem zEntryW {l : Launch} {D : va_G} {T : Nat → ClassId} {b : Nat} {gr : Bool} {y : MethodName} {cc : ByteArray} {nL : Nat} {ret : Option FieldType} {hh : List (Nat × Nat × Nat × Nat)} {K mc ms : Nat} {as : List Value} {M : zM} {o : Nat × Int32 × zM} (hy : plainName y.cls = true) (hc : zc1 as) (hn : as.length ≤ nL)
    (h : zV false l y.cls cc nL ret false K mc ms D T zE0 b gr M.2.2.2 o 0 0 0 (zarg 0 as) [] M) : zMetW l D T b gr y cc nL ret hh K mc ms as M o := by
  intro sz
  refine va_MetW hy rfl ?_
  intro p e s m args below meth c s₁ B hml hv
  obtain ⟨rfl, hsz, hgr, hP, hK, -, hao, hnw⟩ := hv
  subst hsz
  rw [lg_entry_eq]
  have hcat : ∀ q ∈ lv_args 0 as, q.2.category = 1 := by rw [zarg_eq as 0 hc]; exact zarg_cat as 0 hc
  rw [← zarg_eq as 0 hc] at h
  exact h p e _ s m as.toArray below meth c s.heap [] (zA b M.2.2.2 s.heap.size) _
    ⟨B.exec, B.bytes, hml, findClass_of_methodNamed B.named, fun w hw => atoms_spec (ws := Cond.codeWith y cc nL ret hh :: gtb) B.pre w (List.mem_cons_of_mem _ hw), B.notSynchronized, B.returns, fun hi => (nomatch hi), trivial, rfl, hK, fun q hq => Or.inr hq⟩
    ⟨hP, zD_of fun r h1 h2 => Or.inl ⟨by omega, by omega⟩, va_S.rf, hgr, ⟨fun hg => (nomatch hg), hao, hnw⟩, fun _ => rfl⟩ ⟨fun q hq => Or.inl (hcat q hq), fun h9 => absurd h9 Bool.false_ne_true⟩ (lv_entry as (by rw [zarg_len as hc]; exact hn))
section ZRows
variable {tx : Bool} {l : Launch} {own : String} {cc : ByteArray} {nL : Nat} {ret : Option FieldType} {ini : Bool} {K mc ms : Nat} {D : va_G} {T : Nat → ClassId} {ev : zE} {b : Nat} {gr : Bool} {n0 : Nat} {o : Nat × Int32 × zM} {cells slots pc : Nat} {lv : List (Nat × Value)} {st : List Value} {M : zM}
theorem zV_callF (he : ev.1 = true) (hgr : gr = true) {index n K' maxL' : Nat} {y : MethodName} {bytes' : ByteArray} {As rest : List Value} {ty : FieldType} {x : Int32} {M1 : zM} (hM : zMetS l D T b gr ev.2.1 ev.2.2.1 ev.2.2.2.1 y bytes' maxL' (some ty) K' 0 0 As M (0, x, M1)) (hm : zMd y bytes' maxL' (some ty) n) (hl : (Cond.methodLink own index y) ∈ gtb) (hst9 : (Cond.static y) ∈ gtb) (hst : st = As.reverse ++ rest) (hn : As.length = n) (hcat : (rest.map fun v => v.category).sum ≤ 8) (hK : K' + 1 ≤ K) (hmc : cells ≤ mc) (hms : slots ≤ ms) (hdg : decode cc pc = .ok (.invokestatic index, 3)) (k : zV tx l own cc nL ret ini K mc ms D T ev b gr n0 o cells slots (pc + 3) lv (.int x :: rest) M1) : zV tx l own cc nL ret ini K mc ms D T ev b gr n0 o cells slots pc lv st M := by
  subst hst
  intro p e R s m args below meth c H locs A ls hX hY hc hl9
  have hsub := zA_sub hY.2.1 hY.2.2.1 hX.2.2.2.2.2.2.2.2.2.2.2 rfl
  obtain ⟨h1, h2, h3⟩ := hc.2 he
  have hb : ev.2.1 ≤ b := by
    rcases Nat.lt_or_ge b ev.2.1 with h9 | h9
    · exfalso
      apply h3
      have h4 := hY.2.1.2 (ev.2.1 - b - 1) _ (zw_get (T := T) (b := b) (M := M) (a := ev.2.1 - b) (by omega) (by have := hY.2.2.2.1 hgr; have := hY.2.2.1.1; omega))
      have e9 : b + (ev.2.1 - b) = ev.2.1 := by omega
      rw [← e9]
      exact h4
    · exact h9
  have hpre : ∀ U : State, U.heap = H → s.WarmedH U.vm → zPcS D T b gr ev.2.1 ev.2.2.1 ev.2.2.2.1 As M H.size As.toArray U := by
    intro U hU hW
    obtain ⟨g0, g1, g2, g3, g4, g5, g6, g7⟩ := zPc_at (as := As) (tz' := false) hY hX.2.2.2.2.2.2.2.2.2.2.1 hX.2.2.2.2.2.2.2.2.2.2.2 (fun h => nomatch h) U hU hW
    refine ⟨g0, ⟨g1, g2, g3, g4, g6, g7⟩, ?_, hb, Nat.lt_of_lt_of_le h2 hY.2.2.1.1⟩
    rw [hU]
    exact va_X.moved hW.alike (h1.kept (hY.2.2.1.2.1 _ h2 h3))
  refine va_calli (va_runS (As := As) (rest := rest) (n := n) ⟨hX.1, hX.2.1, hX.2.2.1, hX.2.2.2.1, hX.2.2.2.2.1⟩ (hM H.size) ⟨zCB hX.2.2.2.2.1 hX.2.2.2.2.2.2.2.2.2.1 hm hl hK, hX.2.2.2.2.1 _ hst9⟩ ⟨zPcS_blind, hpre⟩ rfl hn hl9.1 rfl (lv_room hcat) hdg ⟨by rw [hX.2.2.2.2.2.2.2.2.2.1]; exact hmc, by rw [hX.2.2.2.2.2.2.2.2.2.1]; exact hms⟩) hY.2.2.1 (fun q _ h => hsub q h) hsub (fun x9 u t H1 locs1 ht hvm hw hB hz1 hk1 hS => ?_)
  obtain ⟨hw, -⟩ := hw
  have hw : x9 = x := hw
  subst hw
  exact k p e R s m args below meth c H1 locs1 A ls hX (zY_aft hY hX.2.2.2.2.2.2.2.2.2.2.2 ht hB hS) hc hl9
theorem zV_callW {index n K' mc' ms' maxL' : Nat} {y : MethodName} {bytes' : ByteArray} {hh : List (Nat × Nat × Nat × Nat)} {As rest : List Value} {ty : FieldType} {x : Int32} {M1 : zM} (hM : zMetW l D T b gr y bytes' maxL' (some ty) hh K' mc' ms' As M (0, x, M1)) (hm : (Cond.codeWith y bytes' maxL' (some ty) hh) ∈ gtb) (hd : y.cls ≠ "java/lang/invoke/MethodHandle" ∧ y.cls ≠ "java/lang/invoke/VarHandle" ∧ (parseMethodDescriptor y.desc).map (fun d => d.parameters.length) = some n) (hl : (Cond.methodLink own index y) ∈ gtb) (hst9 : (Cond.static y) ∈ gtb) (hin : (Cond.initialized RL) ∈ gtb) (hcl : y.cls = RL) (hst : st = As.reverse ++ rest) (hn : As.length = n) (hcat : (rest.map fun v => v.category).sum ≤ 8) (hK : K' + 1 ≤ K) (hm9 : maxL' ≤ 45) (hmc : cells + mc' ≤ mc) (hms : slots + ms' ≤ ms) (hdg : decode cc pc = .ok (.invokestatic index, 3)) (k : zV tx l own cc nL ret ini K mc ms D T ev b gr n0 o (cells + mc') (slots + ms') (pc + 3) lv (.int x :: rest) M1) : zV tx l own cc nL ret ini K mc ms D T ev b gr n0 o cells slots pc lv st M := by
  subst hst
  intro p e R s m args below meth c H locs A ls hX hY hc hl9
  have hsub := zA_sub hY.2.1 hY.2.2.1 hX.2.2.2.2.2.2.2.2.2.2.2 rfl
  have hR : R = zRm K mc ms := hX.2.2.2.2.2.2.2.2.2.1
  have hcw : vx_CSW R s args own index y bytes' maxL' (some ty) hh (Cond.codeWith y bytes' maxL' (some ty) hh :: gtb) (zRm K' mc' ms') mc' ms' n := by
    refine vx_cwSW n hX.2.2.2.2.1 (gtb_good fun w hw => ?_) rfl rfl rfl hd ⟨by rw [hR]; exact hK, by rw [hR]; show 8 + (maxL' + 11) + 64 * K' ≤ 64 * K; omega⟩
    rcases List.mem_append.mp hw with h | h
    · rcases List.mem_cons.mp h with e1 | h
      · rw [e1]; exact hl
      · rcases List.mem_cons.mp h with e1 | h
        · rw [e1]; exact hst9
        · rcases List.mem_cons.mp h with e1 | h
          · rw [e1, hcl]; exact hin
          · cases h
    · rcases List.mem_cons.mp h with e1 | h
      · rw [e1]; exact hm
      · exact h
  refine va_calli (vx_runSW (As := As) (rest := rest) (n := n) ⟨hX.1, hX.2.1, hX.2.2.1, hX.2.2.2.1, hX.2.2.2.2.1⟩ (hM H.size) hcw ⟨zPc_blind, zPc_at hY hX.2.2.2.2.2.2.2.2.2.2.1 hX.2.2.2.2.2.2.2.2.2.2.2 (fun h => nomatch h)⟩ rfl hn hl9.1 rfl (lv_room hcat) hdg ⟨by rw [hR]; exact hmc, by rw [hR]; exact hms⟩) hY.2.2.1 (fun q _ h => hsub q h) hsub (fun x9 u t H1 locs1 ht hvm hw hB hz1 hk1 hS => ?_)
  obtain ⟨hw, -⟩ := hw
  have hw : x9 = x := hw
  subst hw
  exact k p e R s m args below meth c H1 locs1 A ls hX (zY_aft hY hX.2.2.2.2.2.2.2.2.2.2.2 ht hB hS) hc hl9
end ZRows
theorem zc_congr {T : Nat → ClassId} {b : Nat} {M N : zM} {a : Nat} (hS : M.2.2.1 a = N.2.2.1 a) (hI : zI M a = zI N a) (hR : zR M a = zR N a) : zc T b M a = zc T b N a := by
  have e3 : ∀ ci, zfs b M a ci = zfs b N a ci := fun ci => by
    unfold zfs
    refine List.map_congr_left fun j _ => ?_
    unfold zv; rw [hI, hR]
  unfold zc
  rw [hS, hI, hR, e3]
/-- a method that makes nothing: the heap's size is as it was -/
def zQ0 (ret : Option FieldType) (D : va_G) (T : Nat → ClassId) (b n0 sz : Nat) (o : Nat × Int32 × zM) (A : Nat → Prop) : Array Value → State → Outcome → State → Prop := match ret with
  | none => va_Qv (S := Unit) (fun _ => o.1 = 0) (fun _ t => (va_P D vwCl (zw T b o.2.2) t.heap ∧ o.2.2.2.2.2 = n0) ∧ t.heap.size = sz) A
  | some _ => va_Qi (S := Unit) (fun r _ => r = o.2.1 ∧ o.1 = 0) (fun _ t => (va_P D vwCl (zw T b o.2.2) t.heap ∧ o.2.2.2.2.2 = n0) ∧ t.heap.size = sz) A
theorem zMet_0 {l : Launch} {D : va_G} {T : Nat → ClassId} {b : Nat} {y : MethodName} {cc : ByteArray} {nL : Nat} {ret : Option FieldType} {K : Nat} {as : List Value} {M : zM} {o : Nat × Int32 × zM} (hM : zMet l D T b false y cc nL ret K 0 0 as M o) (sz : Nat) :
    Met l y (zWs y cc nL ret) (zRm K 0 0) (zPc D T b false false as M sz) (zQ0 ret D T b M.2.2.2 sz o (zA b M.2.2.2 sz)) 0 0 (zA b M.2.2.2 sz) := by
  intro p e ha hc hk s m args below hf happ hP hK
  obtain ⟨n, o9, h1, h2, h3, h4, L, h5, h6⟩ := hM sz p e ha hc hk s m args below hf happ hP hK
  refine ⟨n, o9, h1, h2, h3, ?_, L, h5, h6⟩
  have hsz : s.heap.size = sz := hP.2.1
  have e1 := h5.2.2.2.1
  have e2 := h5.2.2.2.2.1
  have hz : (stepsAlone p.tables e n s).heap.size = sz := by
    have e1 : s.heap.size ≤ (stepsAlone p.tables e n s).heap.size := e1
    have e2 : (stepsAlone p.tables e n s).heap.size ≤ s.heap.size + 0 := e2
    omega
  cases ret with
  | none =>
    obtain ⟨⟨u, g1, g2, g3⟩, g4⟩ := h4
    exact ⟨⟨u, g1, g2, ⟨g3.1, g3.2.2.2 rfl⟩, hz⟩, g4⟩
  | some ty =>
    obtain ⟨⟨r, u, g1, g2, g3⟩, g4⟩ := h4
    exact ⟨⟨r, u, g1, g2, ⟨g3.1, g3.2.2.2 rfl⟩, hz⟩, g4⟩
