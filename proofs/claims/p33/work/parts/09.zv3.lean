theorem zWs_in {y : MethodName} {bytes : ByteArray} {maxL n : Nat} {ret : Option FieldType} (h : zMd y bytes maxL ret n) : ∀ w ∈ zWs y bytes maxL ret, w ∈ gtb := by
  intro w hw
  rcases List.mem_cons.mp hw with e | e
  · rw [e]; exact h.1
  · exact e
theorem zCB {R : Room} {s : State} {args : Array Value} {own : String} {index K K' mc ms mc' ms' n maxL : Nat} {y : MethodName} {bytes : ByteArray} {ret : Option FieldType} (hts : ∀ w ∈ gtb, w.before args s = true) (hR : R = zRm K mc ms) (hm : zMd y bytes maxL ret n) (hl : (Cond.methodLink own index y) ∈ gtb) (hK : K' + 1 ≤ K) :
    CallB R s args own index y bytes maxL ret (zWs y bytes maxL ret) (zRm K' mc' ms') mc' ms' n :=
  callB_of n hts (gtb_good (zWs_in hm)) rfl rfl rfl (hts _ hm.2.1) (hts _ hl) hm.2.2.1 (by subst hR; refine ⟨hK, ?_⟩; have := hm.2.2.2; show 8 + (maxL + 11) + 64 * K' ≤ 64 * K; omega)
theorem zPc_blind {D : va_G} {T : Nat → ClassId} {b : Nat} {gr tz : Bool} {as : List Value} {M : zM} {sz : Nat} : FrameBlind (zPc D T b gr tz as M sz) := by
  intro a U g mk q
  obtain ⟨q0, q1, q2, q3, q4, q5, q6, q7⟩ := q
  exact ⟨q0, q1, q2, q3, va_K.moved (u := U) (U := U.calling g mk a) (Vm.Alike.refl U.vm) q4, fun h => zU_warm (s := U) (U := U.calling g mk a) (State.WarmedH.refl U) (q5 h), fun h => zAO_moved (u := U) (U := U.calling g mk a) (Vm.Alike.refl U.vm) (q6 h), zN_warm (s := U) (U := U.calling g mk a) (State.WarmedH.refl U) q7⟩
theorem zPc_at {D : va_G} {T : Nat → ClassId} {b n0 : Nat} {gr tz tz' : Bool} {as : List Value} {M : zM} {s : State} {H : Heap} {A : Nat → Prop} {locs : List Loc} (hY : zY D T b gr tz n0 M s H A locs) (hK : va_K D vwCl (ztys T) s) (hA : ∀ q : Nat, s.heap.size ≤ q → A q) (htz : tz' = true → tz = true) : ∀ U : State, U.heap = H → s.WarmedH U.vm → zPc D T b gr tz' as M H.size as.toArray U := by
  intro U hU hW
  have hsub := zA_sub hY.2.1 hY.2.2.1 hA rfl
  refine ⟨rfl, by rw [hU], hY.2.2.2.1, by rw [hU]; exact hY.1, va_K.moved hW.alike hK, fun h => ?_, fun h => zAO_moved hW.alike (hY.2.2.2.2.1.2.1 h), zN_warm hW hY.2.2.2.2.1.2.2⟩
  obtain ⟨h1, h2, h3, h4⟩ := hY.2.2.2.2.1.1 (htz h)
  rw [hU]
  exact zU_warm hW ⟨(h1.kept hY.2.2.1.2.1).narrow hsub, (h2.kept hY.2.2.1.2.1).narrow hsub, h3, h4⟩
theorem zY_aft {D : va_G} {T : Nat → ClassId} {b n0 : Nat} {gr tz : Bool} {M M1 : zM} {s t : State} {H H1 : Heap} {A : Nat → Prop} {locs locs1 : List Loc} (hY : zY D T b gr tz n0 M s H A locs) (hA : ∀ q : Nat, s.heap.size ≤ q → A q) (ht : t.heap = H1) (hB : zB D T b gr M.2.2.2 M1 t) (hS : va_S A s.heap H1 locs1) : zY D T b gr tz n0 M1 s H1 A locs1 := by
  subst ht
  refine ⟨hB.1, zD_of fun r h1 h2 => ?_, hS, hB.2.2.1, hY.2.2.2.2.1, fun hg => (hB.2.2.2 hg).trans (hY.2.2.2.2.2 hg)⟩
  rcases Nat.lt_or_ge M.2.2.2 r with hr | hr
  · cases gr with
    | false => exact absurd (hB.2.2.2 rfl) (by omega)
    | true => exact hA _ (Nat.le_trans hY.2.2.1.1 (by have := hY.2.2.2.1 rfl; omega))
  · exact hY.2.1.2 (r - 1) _ (zw_get (T := T) (b := b) (M := M) h1 hr)
section ZRows
variable {tx : Bool} {l : Launch} {own : String} {cc : ByteArray} {nL : Nat} {ret : Option FieldType} {ini : Bool} {K mc ms : Nat} {D : va_G} {T : Nat → ClassId} {ev : zE} {b : Nat} {gr : Bool} {n0 : Nat} {o : Nat × Int32 × zM} {cells slots pc : Nat} {lv : List (Nat × Value)} {st : List Value} {M : zM}
theorem zV_callVi {index n K' mc' ms' maxL' : Nat} {y : MethodName} {bytes' : ByteArray} {As rest : List Value} {r : Nat} {ty : FieldType} {x : Int32} {M1 : zM} (hM : zMet l D T b gr y bytes' maxL' (some ty) K' mc' ms' (zr b r :: As) M (0, x, M1)) (hm : zMd y bytes' maxL' (some ty) n) (hl : (Cond.methodLink own index y) ∈ gtb) {ci : Nat} (hi : (Cond.instanceMethod y) ∈ gtb) (hse : (Cond.selects (zcl ci).1 y y) ∈ gtb) (hci : vwCl[ci]? = some (zcl ci) ∧ ci < 100) (hk : zk M r = ci) (hst : st = As.reverse ++ zr b r :: rest) (hn : As.length = n) (hcat : (rest.map fun v => v.category).sum ≤ 8) (hK : K' + 1 ≤ K) (hmc : cells + mc' ≤ mc) (hms : slots + ms' ≤ ms) (hdg : decode cc pc = .ok (.invokevirtual index, 3)) (k : zV tx l own cc nL ret ini K mc ms D T ev b gr n0 o (cells + mc') (slots + ms') (pc + 3) lv (.int x :: rest) M1) : zV tx l own cc nL ret ini K mc ms D T ev b gr n0 o cells slots pc lv st M := by
  subst hst
  intro p e R s m args below meth c H locs A ls hX hY hc hl9
  have hsub := zA_sub hY.2.1 hY.2.2.1 hX.2.2.2.2.2.2.2.2.2.2.2 rfl
  obtain ⟨h1, h2, h3⟩ := zk_1 hk (by omega)
  rw [zr_pos h1] at hM ⊢
  refine va_calli (va_runV (As := As) (rest := rest) (n := n) ⟨hX.1, hX.2.1, hX.2.2.1, hX.2.2.2.1, hX.2.2.2.2.1⟩ (hM H.size) ⟨zCB hX.2.2.2.2.1 hX.2.2.2.2.2.2.2.2.2.1 hm hl hK, hX.2.2.2.2.1 _ hi, hX.2.2.2.2.1 _ hse⟩ ⟨zPc_blind, va_recv hX.2.2.2.2.2.2.2.2.2.2.1 hY.1 (q0 := r - 1) hci.1 (by rw [zw_get h1 h2, zc_obj h3 hci.2]), by rw [← zr_pos h1]; exact zPc_at hY hX.2.2.2.2.2.2.2.2.2.2.1 hX.2.2.2.2.2.2.2.2.2.2.2 (fun h => nomatch h)⟩ rfl hn hl9.1 rfl (lv_room hcat) hdg ⟨by rw [hX.2.2.2.2.2.2.2.2.2.1]; exact hmc, by rw [hX.2.2.2.2.2.2.2.2.2.1]; exact hms⟩) hY.2.2.1 (fun q _ h => hsub q h) hsub (fun x9 u t H1 locs1 ht hvm hw hB hz1 hk1 hS => ?_)
  obtain ⟨hw, -⟩ := hw
  have hw : x9 = x := hw
  subst hw
  exact k p e R s m args below meth c H1 locs1 A ls hX (zY_aft hY hX.2.2.2.2.2.2.2.2.2.2.2 ht hB hS) hc hl9
theorem zV_callVv {index n K' mc' ms' maxL' : Nat} {y : MethodName} {bytes' : ByteArray} {As rest : List Value} {r : Nat} {x : Int32} {M1 : zM} (hM : zMet l D T b gr y bytes' maxL' none K' mc' ms' (zr b r :: As) M (0, x, M1)) (hm : zMd y bytes' maxL' none n) (hl : (Cond.methodLink own index y) ∈ gtb) {ci : Nat} (hi : (Cond.instanceMethod y) ∈ gtb) (hse : (Cond.selects (zcl ci).1 y y) ∈ gtb) (hci : vwCl[ci]? = some (zcl ci) ∧ ci < 100) (hk : zk M r = ci) (hst : st = As.reverse ++ zr b r :: rest) (hn : As.length = n) (hcat : (rest.map fun v => v.category).sum ≤ 8) (hK : K' + 1 ≤ K) (hmc : cells + mc' ≤ mc) (hms : slots + ms' ≤ ms) (hdg : decode cc pc = .ok (.invokevirtual index, 3)) (k : zV tx l own cc nL ret ini K mc ms D T ev b gr n0 o (cells + mc') (slots + ms') (pc + 3) lv rest M1) : zV tx l own cc nL ret ini K mc ms D T ev b gr n0 o cells slots pc lv st M := by
  subst hst
  intro p e R s m args below meth c H locs A ls hX hY hc hl9
  have hsub := zA_sub hY.2.1 hY.2.2.1 hX.2.2.2.2.2.2.2.2.2.2.2 rfl
  obtain ⟨h1, h2, h3⟩ := zk_1 hk (by omega)
  rw [zr_pos h1] at hM ⊢
  refine va_callv (va_runV (As := As) (rest := rest) (n := n) ⟨hX.1, hX.2.1, hX.2.2.1, hX.2.2.2.1, hX.2.2.2.2.1⟩ (hM H.size) ⟨zCB hX.2.2.2.2.1 hX.2.2.2.2.2.2.2.2.2.1 hm hl hK, hX.2.2.2.2.1 _ hi, hX.2.2.2.2.1 _ hse⟩ ⟨zPc_blind, va_recv hX.2.2.2.2.2.2.2.2.2.2.1 hY.1 (q0 := r - 1) hci.1 (by rw [zw_get h1 h2, zc_obj h3 hci.2]), by rw [← zr_pos h1]; exact zPc_at hY hX.2.2.2.2.2.2.2.2.2.2.1 hX.2.2.2.2.2.2.2.2.2.2.2 (fun h => nomatch h)⟩ rfl hn hl9.1 rfl (lv_room hcat) hdg ⟨by rw [hX.2.2.2.2.2.2.2.2.2.1]; exact hmc, by rw [hX.2.2.2.2.2.2.2.2.2.1]; exact hms⟩) hY.2.2.1 (fun q _ h => hsub q h) hsub (fun u t H1 locs1 ht hvm hw hB hz1 hk1 hS => ?_)
  exact k p e R s m args below meth c H1 locs1 A ls hX (zY_aft hY hX.2.2.2.2.2.2.2.2.2.2.2 ht hB hS) hc hl9
theorem zV_callSi {index n K' mc' ms' maxL' : Nat} {y : MethodName} {bytes' : ByteArray} {As rest : List Value} {ty : FieldType} {x : Int32} {M1 : zM} (hM : zMet l D T b gr y bytes' maxL' (some ty) K' mc' ms' (As) M (0, x, M1)) (hm : zMd y bytes' maxL' (some ty) n) (hl : (Cond.methodLink own index y) ∈ gtb) (hst9 : (Cond.static y) ∈ gtb) (hst : st = As.reverse ++ rest) (hn : As.length = n) (hcat : (rest.map fun v => v.category).sum ≤ 8) (hK : K' + 1 ≤ K) (hmc : cells + mc' ≤ mc) (hms : slots + ms' ≤ ms) (hdg : decode cc pc = .ok (.invokestatic index, 3)) (k : zV tx l own cc nL ret ini K mc ms D T ev b gr n0 o (cells + mc') (slots + ms') (pc + 3) lv (.int x :: rest) M1) : zV tx l own cc nL ret ini K mc ms D T ev b gr n0 o cells slots pc lv st M := by
  subst hst
  intro p e R s m args below meth c H locs A ls hX hY hc hl9
  have hsub := zA_sub hY.2.1 hY.2.2.1 hX.2.2.2.2.2.2.2.2.2.2.2 rfl
  refine va_calli (va_runS (As := As) (rest := rest) (n := n) ⟨hX.1, hX.2.1, hX.2.2.1, hX.2.2.2.1, hX.2.2.2.2.1⟩ (hM H.size) ⟨zCB hX.2.2.2.2.1 hX.2.2.2.2.2.2.2.2.2.1 hm hl hK, hX.2.2.2.2.1 _ hst9⟩ ⟨zPc_blind, zPc_at hY hX.2.2.2.2.2.2.2.2.2.2.1 hX.2.2.2.2.2.2.2.2.2.2.2 (fun h => nomatch h)⟩ rfl hn hl9.1 rfl (lv_room hcat) hdg ⟨by rw [hX.2.2.2.2.2.2.2.2.2.1]; exact hmc, by rw [hX.2.2.2.2.2.2.2.2.2.1]; exact hms⟩) hY.2.2.1 (fun q _ h => hsub q h) hsub (fun x9 u t H1 locs1 ht hvm hw hB hz1 hk1 hS => ?_)
  obtain ⟨hw, -⟩ := hw
  have hw : x9 = x := hw
  subst hw
  exact k p e R s m args below meth c H1 locs1 A ls hX (zY_aft hY hX.2.2.2.2.2.2.2.2.2.2.2 ht hB hS) hc hl9
theorem zV_callSv {index n K' mc' ms' maxL' : Nat} {y : MethodName} {bytes' : ByteArray} {As rest : List Value} {x : Int32} {M1 : zM} (hM : zMet l D T b gr y bytes' maxL' none K' mc' ms' (As) M (0, x, M1)) (hm : zMd y bytes' maxL' none n) (hl : (Cond.methodLink own index y) ∈ gtb) (hst9 : (Cond.static y) ∈ gtb) (hst : st = As.reverse ++ rest) (hn : As.length = n) (hcat : (rest.map fun v => v.category).sum ≤ 8) (hK : K' + 1 ≤ K) (hmc : cells + mc' ≤ mc) (hms : slots + ms' ≤ ms) (hdg : decode cc pc = .ok (.invokestatic index, 3)) (k : zV tx l own cc nL ret ini K mc ms D T ev b gr n0 o (cells + mc') (slots + ms') (pc + 3) lv rest M1) : zV tx l own cc nL ret ini K mc ms D T ev b gr n0 o cells slots pc lv st M := by
  subst hst
  intro p e R s m args below meth c H locs A ls hX hY hc hl9
  have hsub := zA_sub hY.2.1 hY.2.2.1 hX.2.2.2.2.2.2.2.2.2.2.2 rfl
  refine va_callv (va_runS (As := As) (rest := rest) (n := n) ⟨hX.1, hX.2.1, hX.2.2.1, hX.2.2.2.1, hX.2.2.2.2.1⟩ (hM H.size) ⟨zCB hX.2.2.2.2.1 hX.2.2.2.2.2.2.2.2.2.1 hm hl hK, hX.2.2.2.2.1 _ hst9⟩ ⟨zPc_blind, zPc_at hY hX.2.2.2.2.2.2.2.2.2.2.1 hX.2.2.2.2.2.2.2.2.2.2.2 (fun h => nomatch h)⟩ rfl hn hl9.1 rfl (lv_room hcat) hdg ⟨by rw [hX.2.2.2.2.2.2.2.2.2.1]; exact hmc, by rw [hX.2.2.2.2.2.2.2.2.2.1]; exact hms⟩) hY.2.2.1 (fun q _ h => hsub q h) hsub (fun u t H1 locs1 ht hvm hw hB hz1 hk1 hS => ?_)
  exact k p e R s m args below meth c H1 locs1 A ls hX (zY_aft hY hX.2.2.2.2.2.2.2.2.2.2.2 ht hB hS) hc hl9
theorem zV_callSNi {index n K' mc' ms' maxL' : Nat} {y : MethodName} {bytes' : ByteArray} {As rest : List Value} {ty : FieldType} {x : Int32} {M1 : zM} (hM : zMet l D T b gr y bytes' maxL' (some ty) K' mc' ms' (As) M (0, x, M1)) (hm : zMd y bytes' maxL' (some ty) n) {host : String} (hl : (Cond.methodLinkNest own index y host) ∈ znw) (hst9 : (Cond.static y) ∈ gtb) (hst : st = As.reverse ++ rest) (hn : As.length = n) (hcat : (rest.map fun v => v.category).sum ≤ 8) (hK : K' + 1 ≤ K) (hmc : cells + mc' ≤ mc) (hms : slots + ms' ≤ ms) (hdg : decode cc pc = .ok (.invokestatic index, 3)) (k : zV tx l own cc nL ret ini K mc ms D T ev b gr n0 o (cells + mc') (slots + ms') (pc + 3) lv (.int x :: rest) M1) : zV tx l own cc nL ret ini K mc ms D T ev b gr n0 o cells slots pc lv st M := by
  subst hst
  intro p e R s m args below meth c H locs A ls hX hY hc hl9
  have hsub := zA_sub hY.2.1 hY.2.2.1 hX.2.2.2.2.2.2.2.2.2.2.2 rfl
  refine va_calli (va_runSN (As := As) (rest := rest) (n := n) ⟨hX.1, hX.2.1, hX.2.2.1, hX.2.2.2.1, hX.2.2.2.2.1⟩ (hM H.size) ⟨va_cnB n hX.2.2.2.2.1 (gtb_good (zWs_in hm)) rfl rfl rfl (hY.2.2.2.2.1.2.2 _ hl) (hX.2.2.2.2.1 _ hm.2.1) hm.2.2.1 (by rw [hX.2.2.2.2.2.2.2.2.2.1]; refine ⟨hK, ?_⟩; have := hm.2.2.2; show 8 + (maxL' + 11) + 64 * K' ≤ 64 * K; omega), hX.2.2.2.2.1 _ hst9, trivial⟩ ⟨zPc_blind, zPc_at hY hX.2.2.2.2.2.2.2.2.2.2.1 hX.2.2.2.2.2.2.2.2.2.2.2 (fun h => nomatch h)⟩ rfl hn hl9.1 rfl (lv_room hcat) hdg ⟨by rw [hX.2.2.2.2.2.2.2.2.2.1]; exact hmc, by rw [hX.2.2.2.2.2.2.2.2.2.1]; exact hms⟩) hY.2.2.1 (fun q _ h => hsub q h) hsub (fun x9 u t H1 locs1 ht hvm hw hB hz1 hk1 hS => ?_)
  obtain ⟨hw, -⟩ := hw
  have hw : x9 = x := hw
  subst hw
  exact k p e R s m args below meth c H1 locs1 A ls hX (zY_aft hY hX.2.2.2.2.2.2.2.2.2.2.2 ht hB hS) hc hl9
theorem zV_callSNv {index n K' mc' ms' maxL' : Nat} {y : MethodName} {bytes' : ByteArray} {As rest : List Value} {x : Int32} {M1 : zM} (hM : zMet l D T b gr y bytes' maxL' none K' mc' ms' (As) M (0, x, M1)) (hm : zMd y bytes' maxL' none n) {host : String} (hl : (Cond.methodLinkNest own index y host) ∈ znw) (hst9 : (Cond.static y) ∈ gtb) (hst : st = As.reverse ++ rest) (hn : As.length = n) (hcat : (rest.map fun v => v.category).sum ≤ 8) (hK : K' + 1 ≤ K) (hmc : cells + mc' ≤ mc) (hms : slots + ms' ≤ ms) (hdg : decode cc pc = .ok (.invokestatic index, 3)) (k : zV tx l own cc nL ret ini K mc ms D T ev b gr n0 o (cells + mc') (slots + ms') (pc + 3) lv rest M1) : zV tx l own cc nL ret ini K mc ms D T ev b gr n0 o cells slots pc lv st M := by
  subst hst
  intro p e R s m args below meth c H locs A ls hX hY hc hl9
  have hsub := zA_sub hY.2.1 hY.2.2.1 hX.2.2.2.2.2.2.2.2.2.2.2 rfl
  refine va_callv (va_runSN (As := As) (rest := rest) (n := n) ⟨hX.1, hX.2.1, hX.2.2.1, hX.2.2.2.1, hX.2.2.2.2.1⟩ (hM H.size) ⟨va_cnB n hX.2.2.2.2.1 (gtb_good (zWs_in hm)) rfl rfl rfl (hY.2.2.2.2.1.2.2 _ hl) (hX.2.2.2.2.1 _ hm.2.1) hm.2.2.1 (by rw [hX.2.2.2.2.2.2.2.2.2.1]; refine ⟨hK, ?_⟩; have := hm.2.2.2; show 8 + (maxL' + 11) + 64 * K' ≤ 64 * K; omega), hX.2.2.2.2.1 _ hst9, trivial⟩ ⟨zPc_blind, zPc_at hY hX.2.2.2.2.2.2.2.2.2.2.1 hX.2.2.2.2.2.2.2.2.2.2.2 (fun h => nomatch h)⟩ rfl hn hl9.1 rfl (lv_room hcat) hdg ⟨by rw [hX.2.2.2.2.2.2.2.2.2.1]; exact hmc, by rw [hX.2.2.2.2.2.2.2.2.2.1]; exact hms⟩) hY.2.2.1 (fun q _ h => hsub q h) hsub (fun u t H1 locs1 ht hvm hw hB hz1 hk1 hS => ?_)
  exact k p e R s m args below meth c H1 locs1 A ls hX (zY_aft hY hX.2.2.2.2.2.2.2.2.2.2.2 ht hB hS) hc hl9
theorem zV_callIv {index n K' mc' ms' maxL' : Nat} {y : MethodName} {bytes' : ByteArray} {As rest : List Value} {r : Nat} {x : Int32} {M1 : zM} (hM : zMet l D T b gr y bytes' maxL' none K' mc' ms' (zr b r :: As) M (0, x, M1)) (hm : zMd y bytes' maxL' none n) (hl : (Cond.methodLink own index y) ∈ gtb) (hi : (Cond.instanceMethod y) ∈ gtb) (hy1 : y.name = "<init>") (hk : 1 ≤ r) (hst : st = As.reverse ++ zr b r :: rest) (hn : As.length = n) (hcat : (rest.map fun v => v.category).sum ≤ 8) (hK : K' + 1 ≤ K) (hmc : cells + mc' ≤ mc) (hms : slots + ms' ≤ ms) (hdg : decode cc pc = .ok (.invokespecial index, 3)) (k : zV tx l own cc nL ret ini K mc ms D T ev b gr n0 o (cells + mc') (slots + ms') (pc + 3) lv rest M1) : zV tx l own cc nL ret ini K mc ms D T ev b gr n0 o cells slots pc lv st M := by
  subst hst
  intro p e R s m args below meth c H locs A ls hX hY hc hl9
  have hsub := zA_sub hY.2.1 hY.2.2.1 hX.2.2.2.2.2.2.2.2.2.2.2 rfl
  rw [zr_pos hk] at hM ⊢
  refine va_callv (va_runI (As := As) (rest := rest) (n := n) ⟨hX.1, hX.2.1, hX.2.2.1, hX.2.2.2.1, hX.2.2.2.2.1⟩ (hM H.size) ⟨zCB hX.2.2.2.2.1 hX.2.2.2.2.2.2.2.2.2.1 hm hl hK, hy1, hX.2.2.2.2.1 _ hi⟩ ⟨zPc_blind, by rw [← zr_pos hk]; exact zPc_at hY hX.2.2.2.2.2.2.2.2.2.2.1 hX.2.2.2.2.2.2.2.2.2.2.2 (fun h => nomatch h)⟩ rfl hn hl9.1 rfl (lv_room hcat) hdg ⟨by rw [hX.2.2.2.2.2.2.2.2.2.1]; exact hmc, by rw [hX.2.2.2.2.2.2.2.2.2.1]; exact hms⟩) hY.2.2.1 (fun q _ h => hsub q h) hsub (fun u t H1 locs1 ht hvm hw hB hz1 hk1 hS => ?_)
  exact k p e R s m args below meth c H1 locs1 A ls hX (zY_aft hY hX.2.2.2.2.2.2.2.2.2.2.2 ht hB hS) hc hl9
theorem zV_callINv {index n K' mc' ms' maxL' : Nat} {y : MethodName} {bytes' : ByteArray} {As rest : List Value} {r : Nat} {x : Int32} {M1 : zM} (hM : zMet l D T b gr y bytes' maxL' none K' mc' ms' (zr b r :: As) M (0, x, M1)) (hm : zMd y bytes' maxL' none n) {host : String} (hl : (Cond.methodLinkNest own index y host) ∈ znw) (hi : (Cond.instanceMethod y) ∈ gtb) (hy1 : y.name = "<init>") (hk : 1 ≤ r) (hst : st = As.reverse ++ zr b r :: rest) (hn : As.length = n) (hcat : (rest.map fun v => v.category).sum ≤ 8) (hK : K' + 1 ≤ K) (hmc : cells + mc' ≤ mc) (hms : slots + ms' ≤ ms) (hdg : decode cc pc = .ok (.invokespecial index, 3)) (k : zV tx l own cc nL ret ini K mc ms D T ev b gr n0 o (cells + mc') (slots + ms') (pc + 3) lv rest M1) : zV tx l own cc nL ret ini K mc ms D T ev b gr n0 o cells slots pc lv st M := by
  subst hst
  intro p e R s m args below meth c H locs A ls hX hY hc hl9
  have hsub := zA_sub hY.2.1 hY.2.2.1 hX.2.2.2.2.2.2.2.2.2.2.2 rfl
  rw [zr_pos hk] at hM ⊢
  refine va_callv (va_runIN (As := As) (rest := rest) (n := n) ⟨hX.1, hX.2.1, hX.2.2.1, hX.2.2.2.1, hX.2.2.2.2.1⟩ (hM H.size) ⟨va_cnB n hX.2.2.2.2.1 (gtb_good (zWs_in hm)) rfl rfl rfl (hY.2.2.2.2.1.2.2 _ hl) (hX.2.2.2.2.1 _ hm.2.1) hm.2.2.1 (by rw [hX.2.2.2.2.2.2.2.2.2.1]; refine ⟨hK, ?_⟩; have := hm.2.2.2; show 8 + (maxL' + 11) + 64 * K' ≤ 64 * K; omega), hy1, hX.2.2.2.2.1 _ hi⟩ ⟨zPc_blind, by rw [← zr_pos hk]; exact zPc_at hY hX.2.2.2.2.2.2.2.2.2.2.1 hX.2.2.2.2.2.2.2.2.2.2.2 (fun h => nomatch h)⟩ rfl hn hl9.1 rfl (lv_room hcat) hdg ⟨by rw [hX.2.2.2.2.2.2.2.2.2.1]; exact hmc, by rw [hX.2.2.2.2.2.2.2.2.2.1]; exact hms⟩) hY.2.2.1 (fun q _ h => hsub q h) hsub (fun u t H1 locs1 ht hvm hw hB hz1 hk1 hS => ?_)
  exact k p e R s m args below meth c H1 locs1 A ls hX (zY_aft hY hX.2.2.2.2.2.2.2.2.2.2.2 ht hB hS) hc hl9
end ZRows
/-- the entry of a method -/
theorem zEntry {l : Launch} {D : va_G} {T : Nat → ClassId} {b : Nat} {gr : Bool} {y : MethodName} {cc : ByteArray} {nL : Nat} {ret : Option FieldType} {K mc ms : Nat} {as : List Value} {M : zM} {o : Nat × Int32 × zM} (ini : Bool) (hini : ini = true → y.name = "<init>") (hy : plainName y.cls = true) (hls : (lg_sl as).length ≤ nL) (hcat : ∀ q ∈ lv_args 0 as, q.2.category = 1) {ev : zE} (hev : ev.1 = false)
    (h : zV false l y.cls cc nL ret ini K mc ms D T ev b gr M.2.2.2 o 0 0 0 (lv_args 0 as) [] M) : zMet l D T b gr y cc nL ret K mc ms as M o := by
  intro sz
  refine Met.ofW (cc := cc) (maxL := nL) (ret := ret) hy rfl ?_
  intro p e s m args below meth c s₁ B hml hv
  obtain ⟨rfl, hsz, hgr, hP, hK, -, hao, hnw⟩ := hv
  subst hsz
  rw [lg_entry_eq]
  exact h p e _ s m as.toArray below meth c s.heap [] (zA b M.2.2.2 s.heap.size) _
    ⟨B.exec, B.bytes, hml, findClass_of_methodNamed B.named, fun w hw => atoms_spec (ws := zWs y cc nL ret) B.pre w (List.mem_cons_of_mem _ hw), B.notSynchronized, B.returns, fun hi => (name_of_methodNamed B.named B.method).1.trans (hini hi), trivial, rfl, hK, fun q hq => Or.inr hq⟩
    ⟨hP, zD_of fun r h1 h2 => Or.inl ⟨by omega, by omega⟩, va_S.rf, hgr, ⟨fun hg => (nomatch hg), hao, hnw⟩, fun _ => rfl⟩ ⟨fun q hq => Or.inl (hcat q hq), fun h9 => absurd (hev.symm.trans h9) Bool.false_ne_true⟩ (lv_entry as hls)
theorem zargs_nil : lv_args 0 [] = [] := rfl
