/-! THE LAW: the class's region, the law's own row 'out', the calls of the class out of the law's helpers -/
def zoE (T : Nat → ClassId) (w : Nat → Int64) : va_E := .inl (T 103, (1, .inr (.inl w)))
def zNC (U : State) : Prop := ∀ i j, 1 ≤ i → i < 4 → 1 ≤ j → j < 4 → ¬ i = j → va_Nc (zEx i) (zEx j) U
theorem zNC_moved {u U : State} (hvm : u.vm.Alike U.vm) (h : zNC u) : zNC U := fun i j h1 h2 h3 h4 h5 => (h i j h1 h2 h3 h4 h5).moved hvm
def zAo (b n ao sz : Nat) : Nat → Prop := fun q => (b < q ∧ q ≤ b + n) ∨ q = ao ∨ sz ≤ q
def zhPc (D : va_G) (T : Nat → ClassId) (b ao : Nat) (as : List Value) (M : zM) (w : Nat → Int64) (sz : Nat) : Array Value → State → Prop := va_Pc as fun U => U.heap.size = sz ∧ va_P D vwCl (zw T b M) U.heap ∧ va_at D vwCl (ao, zoE T w) U.heap ∧ va_K D vwCl (ztys T) U ∧ zU (zAo b M.2.2.2 ao sz) U U.heap ∧ zN U ∧ zNC U
def zhMet (l : Launch) (D : va_G) (T : Nat → ClassId) (b ao : Nat) (y : MethodName) (cc : ByteArray) (nL : Nat) (hh : List (Nat × Nat × Nat × Nat)) (K mc ms : Nat) (as : List Value) (M : zM) (w : Nat → Int64) (k : Int32) (M' : zM) (w' : Nat → Int64) : Prop :=
  ∀ sz, Met l y (Cond.codeWith y cc nL (some .int) hh :: gtb) (zRm K mc ms) (zhPc D T b ao as M w sz) (va_Qi (S := Unit) (fun r _ => r = k) (fun _ t => va_P D vwCl (zw T b M') t.heap ∧ va_at D vwCl (ao, zoE T w') t.heap ∧ va_K D vwCl (ztys T) t ∧ M'.2.2.2 = M.2.2.2) (zAo b M.2.2.2 ao sz)) mc ms (zAo b M.2.2.2 ao sz)
theorem zhPc_blind {D : va_G} {T : Nat → ClassId} {b ao : Nat} {as : List Value} {M : zM} {w : Nat → Int64} {sz : Nat} : FrameBlind (zhPc D T b ao as M w sz) := by
  intro a U g mk q
  obtain ⟨q0, q1, q2, q3, q4, q5, q6, q7⟩ := q
  exact ⟨q0, q1, q2, q3, va_K.moved (u := U) (U := U.calling g mk a) (Vm.Alike.refl U.vm) q4, zU_warm (s := U) (U := U.calling g mk a) (State.WarmedH.refl U) q5, zN_warm (s := U) (U := U.calling g mk a) (State.WarmedH.refl U) q6, zNC_moved (u := U) (U := U.calling g mk a) (Vm.Alike.refl U.vm) q7⟩
section ZHelp
variable {p : Program} {l : Launch} {e : Env} {R : Room} {s : State} {m : MethodId} {args : Array Value} {below : List Frame} {meth : Method} {c : Code} {H : Heap} {locs : List Loc} {cells slots : Nat} {Q : State → Prop} {cc : ByteArray} {pc : Nat} {ls : Array Slot} {D : va_G} {T : Nat → ClassId} {A : Nat → Prop} {b ao n0 K mc ms nL : Nat} {own : String} {M : zM} {w : Nat → Int64}
theorem zH_kept {H1 : Heap} (hao : b + M.2.2.2 < ao) (hO : va_at D vwCl (ao, zoE T w) H) (hk : ∀ q : Nat, q < H.size → ¬ zA b M.2.2.2 H.size q → H1[q]? = H[q]?) : va_at D vwCl (ao, zoE T w) H1 := by
  have hlt := va_at.lt hO
  refine hO.kept (hk _ hlt (fun h => ?_))
  rcases h with ⟨h1, h2⟩ | h
  · have h2 : ao ≤ b + M.2.2.2 := h2
    omega
  · have h : H.size ≤ ao := h
    have hlt : ao < H.size := hlt
    omega
theorem zH_calli (hx : p.tables.exec = Jvm.exec) (hb : c.code = cc) (hml : c.maxLocals = nL) (hown : s.vm.findClass own = some m.cls) (hts : ∀ w ∈ gtb, w.before args s = true) (hR : R = zRm K mc ms) (hK : va_K D vwCl (ztys T) s) (hA : ∀ q : Nat, s.heap.size ≤ q → A q)
    (hY : zY D T b false true n0 M s H A locs) (hO : va_at D vwCl (ao, zoE T w) H) (hao : b + M.2.2.2 < ao) {lv : List (Nat × Value)} (hl9 : lv_has ls nL lv)
    {index n K' mc' ms' maxL' r : Nat} {y : MethodName} {bytes' : ByteArray} {As rest : List Value} {ty : FieldType} {o1 : Nat × Int32 × zM} (hM : zMeX l D T b y bytes' maxL' (some ty) K' mc' ms' (zr b r :: As) M o1) (hm : zMd y bytes' maxL' (some ty) n) (hl : (Cond.methodLink own index y) ∈ gtb) {ci : Nat} (hi : (Cond.instanceMethod y) ∈ gtb) (hse : (Cond.selects (zcl ci).1 y y) ∈ gtb) (hci : vwCl[ci]? = some (zcl ci) ∧ ci < 100) (hk : zk M r = ci) (hn : As.length = n) (hcat : (rest.map fun v => v.category).sum ≤ 8) (hKK : K' + 1 ≤ K) (hmc : cells + mc' ≤ mc) (hms : slots + ms' ≤ ms) (hdg : decode cc pc = .ok (.invokevirtual index, 3)) {st : List Value} (hst : st = As.reverse ++ zr b r :: rest)
    (kx : ¬ o1.1 = 0 → ∀ (H1 : Heap) (locs1 : List Loc) (q9 : Addr) (ce : Cell), zY D T b false true n0 o1.2.2 s H1 A locs1 → va_at D vwCl (ao, zoE T w) H1 → H1[q9]? = some ce → ce.vm = .none → s.vm.findClass (zEx o1.1) = some ce.cls → vx_W p l e R s m args below meth c H1 locs1 (cells + mc') (slots + ms') Q (F0 m pc ls rest) q9)
    (kk : o1.1 = 0 → ∀ (H1 : Heap) (locs1 : List Loc), zY D T b false true n0 o1.2.2 s H1 A locs1 → va_at D vwCl (ao, zoE T w) H1 → W p l e R s m args below meth c H1 locs1 (cells + mc') (slots + ms') Q (F0 m (pc + 3) ls (.int o1.2.1 :: rest))) : W p l e R s m args below meth c H locs cells slots Q (F0 m pc ls st) := by
  subst hst
  have hsub := zA_sub hY.2.1 hY.2.2.1 hA rfl
  obtain ⟨h1, h2, h3⟩ := zk_1 hk (by omega)
  rw [zr_pos h1] at hM ⊢
  refine vx_calli (vx_runV (As := As) (rest := rest) (n := n) ⟨hx, hb, hml, hown, hts⟩ (hM H.size) ⟨zCB hts hR hm hl hKK, hts _ hi, hts _ hse⟩ ⟨zPc_blind, va_recv hK hY.1 (q0 := r - 1) hci.1 (by rw [zw_get h1 h2, zc_obj h3 hci.2]), by rw [← zr_pos h1]; exact zPc_at hY hK hA (fun _ => rfl)⟩ rfl hn hl9.1 rfl (lv_room hcat) hdg ⟨by rw [hR]; exact hmc, by rw [hR]; exact hms⟩) hY.2.2.1 (fun q _ h => hsub q h) hsub (fun q _ h => hsub q h) (fun E ce q9 u t H1 locs1 ht hvm hp hB hz1 hk1 hS hce hcv hcl => ?_) (fun x9 u t H1 locs1 ht hvm hw hB hz1 hk1 hS => ?_)
  · obtain ⟨hE, hB⟩ := hB
    subst hE
    exact kx hp H1 locs1 q9 ce (zY_aft hY hA ht hB hS) (zH_kept hao hO hk1) hce hcv hcl
  · obtain ⟨hw, h0⟩ := hw
    have hw : x9 = o1.2.1 := hw
    subst hw
    exact kk h0 H1 locs1 (zY_aft hY hA ht hB hS) (zH_kept hao hO hk1)
theorem zH_callv (hx : p.tables.exec = Jvm.exec) (hb : c.code = cc) (hml : c.maxLocals = nL) (hown : s.vm.findClass own = some m.cls) (hts : ∀ w ∈ gtb, w.before args s = true) (hR : R = zRm K mc ms) (hK : va_K D vwCl (ztys T) s) (hA : ∀ q : Nat, s.heap.size ≤ q → A q)
    (hY : zY D T b false true n0 M s H A locs) (hO : va_at D vwCl (ao, zoE T w) H) (hao : b + M.2.2.2 < ao) {lv : List (Nat × Value)} (hl9 : lv_has ls nL lv)
    {index n K' mc' ms' maxL' r : Nat} {y : MethodName} {bytes' : ByteArray} {As rest : List Value} {o1 : Nat × Int32 × zM} (hM : zMeX l D T b y bytes' maxL' none K' mc' ms' (zr b r :: As) M o1) (hm : zMd y bytes' maxL' none n) (hl : (Cond.methodLink own index y) ∈ gtb) {ci : Nat} (hi : (Cond.instanceMethod y) ∈ gtb) (hse : (Cond.selects (zcl ci).1 y y) ∈ gtb) (hci : vwCl[ci]? = some (zcl ci) ∧ ci < 100) (hk : zk M r = ci) (hn : As.length = n) (hcat : (rest.map fun v => v.category).sum ≤ 8) (hKK : K' + 1 ≤ K) (hmc : cells + mc' ≤ mc) (hms : slots + ms' ≤ ms) (hdg : decode cc pc = .ok (.invokevirtual index, 3)) {st : List Value} (hst : st = As.reverse ++ zr b r :: rest)
    (kx : ¬ o1.1 = 0 → ∀ (H1 : Heap) (locs1 : List Loc) (q9 : Addr) (ce : Cell), zY D T b false true n0 o1.2.2 s H1 A locs1 → va_at D vwCl (ao, zoE T w) H1 → H1[q9]? = some ce → ce.vm = .none → s.vm.findClass (zEx o1.1) = some ce.cls → vx_W p l e R s m args below meth c H1 locs1 (cells + mc') (slots + ms') Q (F0 m pc ls rest) q9)
    (kk : o1.1 = 0 → ∀ (H1 : Heap) (locs1 : List Loc), zY D T b false true n0 o1.2.2 s H1 A locs1 → va_at D vwCl (ao, zoE T w) H1 → W p l e R s m args below meth c H1 locs1 (cells + mc') (slots + ms') Q (F0 m (pc + 3) ls rest)) : W p l e R s m args below meth c H locs cells slots Q (F0 m pc ls st) := by
  subst hst
  have hsub := zA_sub hY.2.1 hY.2.2.1 hA rfl
  obtain ⟨h1, h2, h3⟩ := zk_1 hk (by omega)
  rw [zr_pos h1] at hM ⊢
  refine vx_callv (vx_runV (As := As) (rest := rest) (n := n) ⟨hx, hb, hml, hown, hts⟩ (hM H.size) ⟨zCB hts hR hm hl hKK, hts _ hi, hts _ hse⟩ ⟨zPc_blind, va_recv hK hY.1 (q0 := r - 1) hci.1 (by rw [zw_get h1 h2, zc_obj h3 hci.2]), by rw [← zr_pos h1]; exact zPc_at hY hK hA (fun _ => rfl)⟩ rfl hn hl9.1 rfl (lv_room hcat) hdg ⟨by rw [hR]; exact hmc, by rw [hR]; exact hms⟩) hY.2.2.1 (fun q _ h => hsub q h) hsub (fun q _ h => hsub q h) (fun E ce q9 u t H1 locs1 ht hvm hp hB hz1 hk1 hS hce hcv hcl => ?_) (fun u t H1 locs1 ht hvm hw hB hz1 hk1 hS => ?_)
  · obtain ⟨hE, hB⟩ := hB
    subst hE
    exact kx hp H1 locs1 q9 ce (zY_aft hY hA ht hB hS) (zH_kept hao hO hk1) hce hcv hcl
  · exact kk hw H1 locs1 (zY_aft hY hA ht hB hS) (zH_kept hao hO hk1)
/-- caught by the row of the helper's table that names the class -/
theorem zH_catch {i j : Nat} {ce : Cell} {q : Addr} {rest : List Value} (hown : s.vm.findClass own = some m.cls) (hts : ∀ w ∈ gtb, w.before args s = true) (hFw : ∀ w ∈ zFw, w.before #[] s = true) (hNC : zNC s) {hh : List (Nat × Nat × Nat × Nat)} (htab : c.exceptionTable.toList = tableOf hh) (cs : List Nat)
    (hcs : hh.length = cs.length) (hj : cs[j]? = some i) (hfirst : ∀ k : Nat, k < j → ∃ i', cs[k]? = some i' ∧ ¬ i' = i ∧ 1 ≤ i' ∧ i' < 4) (hi : 1 ≤ i ∧ i < 4)
    (hlk : ∀ (k : Nat) (q : Nat × Nat × Nat × Nat) (i' : Nat), hh[k]? = some q → cs[k]? = some i' → q.1 ≤ pc ∧ pc < q.2.1 ∧ ¬ q.2.2.2 = 0 ∧ (Cond.classLink own q.2.2.2 (zEx i')) ∈ gtb) (hcast : (Cond.castable (zEx i) (zEx i)) ∈ zFw) (hcell : H[q]? = some ce) (hv : ce.vm = .none) (hcl : s.vm.findClass (zEx i) = some ce.cls)
    (kk : ∀ x : Nat × Nat × Nat × Nat, hh[j]? = some x → W p l e R s m args below meth c H locs cells slots Q (F0 m x.2.2.1 ls [.ref q])) : vx_W p l e R s m args below meth c H locs cells slots Q (F0 m pc ls rest) q := by
  have hjl : j < hh.length := by rw [hcs]; exact (List.getElem?_eq_some_iff.mp hj).1
  obtain ⟨x, hx⟩ : ∃ x, hh[j]? = some x := ⟨_, List.getElem?_eq_getElem hjl⟩
  have hcov : ∀ (k : Nat) (q : Nat × Nat × Nat × Nat) (i' : Nat), hh[k]? = some q → cs[k]? = some i' → covers ⟨q.1, q.2.1, q.2.2.1, q.2.2.2⟩ pc = true := by
    intro k q i' h1 h2
    obtain ⟨g1, g2, -, -⟩ := hlk k q i' h1 h2
    simp [covers, g1, g2]
  have hsplit : c.exceptionTable.toList = (tableOf hh).take j ++ ⟨x.1, x.2.1, x.2.2.1, x.2.2.2⟩ :: (tableOf hh).drop (j + 1) := by
    rw [htab]
    have hget? : (tableOf hh)[j]? = some ⟨x.1, x.2.1, x.2.2.1, x.2.2.2⟩ := by
      unfold tableOf
      rw [List.getElem?_map, hx]
      rfl
    obtain ⟨hjl2, hget⟩ := List.getElem?_eq_some_iff.mp hget?
    rw [← hget, List.getElem_cons_drop, List.take_append_drop]
  obtain ⟨g1, g2, g3, g4⟩ := hlk j x i hx hj
  refine vx_catch hown _ ⟨x.1, x.2.1, x.2.2.1, x.2.2.2⟩ _ hsplit (fun z hz => Or.inr ?_) (hcov j x i hx hj) g3 (hts _ g4) (vx_ot_at (State.WarmedH.refl s) rfl (by unfold vx_ot; rfl) (hFw _ hcast)) hcell hv hcl (kk x hx)
  obtain ⟨k, hk⟩ := List.getElem?_of_mem hz
  have hkj : k < j := by
    have := (List.getElem?_eq_some_iff.mp hk).1
    rw [List.length_take] at this
    omega
  rw [List.getElem?_take_of_lt hkj] at hk
  unfold tableOf at hk
  rw [List.getElem?_map] at hk
  obtain ⟨i', hi', hne, b1, b2⟩ := hfirst k hkj
  cases hq : hh[k]? with
  | none => rw [hq] at hk; cases hk
  | some q9 =>
    rw [hq] at hk
    cases hk
    obtain ⟨-, -, f3, f4⟩ := hlk k q9 i' hq hi'
    exact ⟨f3, zEx i', hts _ f4, hNC i i' hi.1 hi.2 b1 b2 (fun e => hne e.symm)⟩
/-- the row 'out' is written -/
theorem zH_out {x : Int64} {rest : List Value} (hx : p.tables.exec = Jvm.exec) (hb : c.code = cc) (hK : va_K D vwCl (ztys T) s) (hY : zY D T b false true n0 M s H A locs) (hO : va_at D vwCl (ao, zoE T w) H) (hao : b + M.2.2.2 < ao) (hAo : A ao) (hdg : decode cc pc = .ok (.lastore, 1))
    (kk : ∀ (H1 : Heap) (locs1 : List Loc), zY D T b false true n0 M s H1 A locs1 → va_at D vwCl (ao, zoE T (vp_updL w 0 x)) H1 → W p l e R s m args below meth c H1 locs1 cells slots Q (F0 m (pc + 1) ls rest)) : W p l e R s m args below meth c H locs cells slots Q (F0 m pc ls (.long x :: .int 0 :: .ref ao :: rest)) := by
  have hO1 : va_P D vwCl [(ao, zoE T w)] H := by
    intro k q hk
    have hz : k < 1 := (List.getElem?_eq_some_iff.mp hk).1
    rw [show k = 0 by omega] at hk
    cases hk
    exact hO
  have hD1 : va_D A [(ao, zoE T w)] := by
    refine ⟨fun i j x y hi hj _ => ?_, fun k q hk => ?_⟩
    · have h1 : i < 1 := (List.getElem?_eq_some_iff.mp hi).1
      have h2 : j < 1 := (List.getElem?_eq_some_iff.mp hj).1
      omega
    · have hz : k < 1 := (List.getElem?_eq_some_iff.mp hk).1
      rw [show k = 0 by omega] at hk
      cases hk
      exact hAo
  have hP2 := hY.1.app hO1
  have hD2 : va_D A (zw T b M ++ [(ao, zoE T w)]) := hY.2.1.app hD1 (by
    intro i j x y hi hj
    obtain ⟨h1, rfl⟩ := zw_at hi
    have hz : j < 1 := (List.getElem?_eq_some_iff.mp hj).1
    rw [show j = 0 by omega] at hj
    cases hj
    show b + (i + 1) ≠ ao
    omega)
  have hget : (zw T b M ++ [(ao, zoE T w)])[M.2.2.2]? = some (ao, .inl (T 103, 1, .inr (.inl w))) := by
    rw [List.getElem?_append_right (by rw [zw_len]; exact Nat.le_refl _), zw_len, Nat.sub_self]
    rfl
  refine va_last hx hb hK hP2 hD2 hY.2.2.1 M.2.2.2 3 hget rfl (i := 0) (x := x) (by unfold vp_in; decide) hdg (fun H1 locs1 hP hD hS => ?_)
  have hset : (zw T b M ++ [(ao, zoE T w)]).set M.2.2.2 (ao, .inl (T 103, 1, .inr (.inl (vp_updL w (0 : Int32).toNatClampNeg x)))) = zw T b M ++ [(ao, zoE T (vp_updL w 0 x))] := by
    rw [List.set_append_right _ _ (by rw [zw_len]; exact Nat.le_refl _), zw_len, Nat.sub_self]
    rfl
  rw [hset] at hP
  refine kk H1 locs1 ⟨fun k q hk => ?_, hY.2.1, hS, fun hg => absurd hg Bool.false_ne_true, hY.2.2.2.2⟩ ?_
  · exact hP k q (by rw [List.getElem?_append_left (List.getElem?_eq_some_iff.mp hk).1]; exact hk)
  · exact hP M.2.2.2 (ao, zoE T (vp_updL w 0 x)) (by rw [List.getElem?_append_right (by rw [zw_len]; exact Nat.le_refl _), zw_len, Nat.sub_self]; rfl)
end ZHelp
