/-! THE LAW: its beginning, walked -/
theorem zl_c8 : (Cond.classLink RL 8 (zcl 7).1) ∈ gtb := gi 78 (by decide +kernel) rfl
theorem zl_c94 : (Cond.classLink RL 94 (zcl 8).1) ∈ gtb := gi 876 (by decide +kernel) rfl
theorem sBorn {D : va_G} {T : Nat → ClassId} {s : State} {args : Array Value} {b ci : Nat} {H1 : Heap} {kC : Class} (hK : va_K D vwCl (ztys T) s) (hci : vwCl[ci]? = some (zcl ci) ∧ ci < 100) (hts : ∀ w ∈ gtb, w.before args s = true) (hws : ∀ w ∈ u_ws (zcl ci).1 (zcl ci).2.1 (zcl ci).2.2, w ∈ gtb) (hty : ∀ j, j < (zcl ci).2.2 → parseFieldDescriptor ((zcl ci).2.1 j).2.2.1 = some (zty ci j)) (hdf : ∀ j, j < (zcl ci).2.2 → defaultValue (zty ci j) = if zrt (zty ci j) = true then .null else .int 0) (hkC : s.vm.classes[D.1 ci]? = some kC) (e1 : H1[b + 1]? = some (blank (D.1 ci) kC)) : va_P D vwCl (zw T b (qM0 ci)) H1 := by
  have hKn := hK.1 ci _ hci.1
  have hobj : zc T b (qM0 ci) 1 = .inr (ci, zfs b (qM0 ci) 1 ci) := zc_obj rfl hci.2
  intro k x hx
  obtain ⟨hk, rfl⟩ := zw_at hx
  have hk : k < 1 := hk
  obtain rfl : k = 0 := by omega
  show va_at D vwCl (b + 1, zc T b (qM0 ci) 1) H1
  rw [hobj]
  refine ⟨_, hci.1, (u_born (zty ci) hts hws hKn hkC e1 hty).to (fun j hj => ?_)⟩
  rw [hdf j hj]
  unfold vp_V
  rw [List.getD_eq_getElem?_getD, zfs_get hj, Option.getD_some]
  unfold zv
  simp [zI, zR, qM0, zr_0]
section
variable {p : Program} {l : Launch} {e : Env} {s : State} {m : MethodId} {below : List Frame} {meth : Method} {c : Code} {b0 L : Nat} {xs : Nat → Int32}
theorem sInit (C : lw_At p s m meth c b0 L xs) {D : va_G} {T : Nat → ClassId} {b index K' mc ms maxL' pc cells slots : Nat} {y : MethodName} {bytes' : ByteArray} {r : Int32} {M N : zM} {H : Heap} {locs : List Loc} {ls : Array Slot} {lv : List (Nat × Value)} {rest : List Value} {Q : State → Prop} (hM : zMet l D T b true y bytes' maxL' none K' mc ms [zr b 1] M (0, r, N)) (hm : zMd y bytes' maxL' none 0) (hy1 : y.name = "<init>") (hl : (Cond.methodLink RL index y) ∈ gtb) (hi : (Cond.instanceMethod y) ∈ gtb) (hY : zY D T b true false M.2.2.2 M s H (fun q : Nat => s.heap.size ≤ q) locs) (hK : va_K D vwCl (ztys T) s) (hl9 : lv_has ls 7 lv) (hKK : K' ≤ 1000) (hcc : cells + mc ≤ 601024) (hss : slots + ms ≤ 7293033) (hcat : (rest.map fun v => v.category).sum ≤ 8) (hdg : decode cL_law pc = .ok (.invokespecial index, 3))
    (kk : ∀ (H1 : Heap) (locs1 : List Loc), zY D T b true false M.2.2.2 N s H1 (fun q : Nat => s.heap.size ≤ q) locs1 → (∀ q : Nat, q < H.size → ¬ zA b M.2.2.2 H.size q → H1[q]? = H[q]?) → W p l e room_1 s m #[Value.ref b0] below meth c H1 locs1 (cells + mc) (slots + ms) Q (F0 m (pc + 3) ls rest)) : W p l e room_1 s m #[Value.ref b0] below meth c H locs cells slots Q (F0 m pc ls (.ref (b + 1) :: rest)) := by
  have hA : ∀ q : Nat, s.heap.size ≤ q → (fun q : Nat => s.heap.size ≤ q) q := fun _ h => h
  have hsub := zA_sub hY.2.1 hY.2.2.1 hA rfl
  have hts := lw_gtb C
  have hcw : CallB room_1 s #[Value.ref b0] RL index y bytes' maxL' none (zWs y bytes' maxL' none) (zRm K' mc ms) mc ms 0 :=
    callB_of 0 hts (gtb_good (zWs_in hm)) rfl rfl rfl (hts _ hm.2.1) (hts _ hl) hm.2.2.1 ⟨by show K' + 1 ≤ 2048; omega, by have := hm.2.2.2; show 8 + (maxL' + 11) + 64 * K' ≤ 84000; omega⟩
  refine va_callv (va_runI (As := []) (rest := rest) (n := 0) ⟨C.1, C.2.1, C.2.2.2.1, lw_own C, hts⟩ (hM H.size) ⟨hcw, hy1, hts _ hi⟩ ⟨zPc_blind, zPc_at hY hK hA (fun h => nomatch h)⟩ rfl rfl hl9.1 rfl (lv_room hcat) hdg ⟨by show cells + mc ≤ 601024; omega, by show slots + ms ≤ 7293033; omega⟩) hY.2.2.1 (fun q _ h => hsub q h) hsub (fun u t H1 locs1 ht hvm hw hB hz1 hk1 hS => ?_)
  exact kk H1 locs1 (zY_aft hY hA ht hB hS) hk1
set_option maxHeartbeats 4000000 in
set_option maxRecDepth 100000 in
theorem sWhole (hl0 : l.stackTraces = false) (C : lw_At p s m meth c b0 L xs) {N1 N2 : zM} (h1 : fX7_init 1 (qM0 7) = some (0, N1)) (n1 : N1.2.2.2 = 504) (h2 : fX8_init 1 (qM0 8) = some (0, N2)) (n2 : N2.2.2.2 = 44) (hW : fW xs L 513 0 N1 N2 (fun _ => 0) = some 1) {ls : Array Slot} (hl : lv_has ls 7 [(0, .ref b0)]) : W p l e room_1 s m #[Value.ref b0] below meth c s.heap [] 0 0 (lw_Z below #[Value.ref b0] s) (F0 m 0 ls []) := by
  have hts := lw_gtb C
  have htt := C.2.2.2.2.2.1
  have hbl : b0 < s.heap.size := C.2.2.2.2.2.2.2.1
  have hgv := C.2.2.2.2.2.2.2.2.2
  obtain ⟨D, T, hK⟩ := sK htt
  have hU := sU htt hgv
  have hN := sN htt
  have hNC := sNC hgv
  have hAO := sAO htt
  have hKn7 := hK.1 7 _ zcI7.1
  have hKn8 := hK.1 8 _ zcI8.1
  obtain ⟨b1, hb1⟩ : ∃ b1, s.heap.size = b1 + 1 := ⟨s.heap.size - 1, by omega⟩
  refine W.newcK C.1 C.2.1 (lw_own C) (hts _ zl_c8) (hts _ zcV7) (hts _ zcK7) rfl dL_law_0 (by show 0 + 1 ≤ 601024; omega) (by show 0 + 6 ≤ 7293033; omega) hKn7.2.1 hb1 fun H1 kC hkC e1 z1 o1 => ?_
  have hP1 : va_P D vwCl (zw T b1 (qM0 7)) H1 := sBorn hK zcI7 hts zcU7 zcT7 zcD7 hkC e1
  have hY1 : zY D T b1 true false (qM0 7).2.2.2 (qM0 7) s H1 (fun q : Nat => s.heap.size ≤ q) [] := ⟨hP1, zD_of (fun r g1 g2 => by show s.heap.size ≤ b1 + r; omega), ⟨by omega, fun q hq _ => o1 q (by omega), fun l hl => by cases hl⟩, fun _ => by show H1.size = b1 + 1 + 1; omega, ⟨fun h => absurd h Bool.false_ne_true, fun _ => hAO, hN⟩, fun h => absurd h.symm Bool.false_ne_true⟩
  show W p l e room_1 s m #[Value.ref b0] below meth c H1 [] 1 6 (lw_Z below #[Value.ref b0] s) (F0 m 3 ls [.ref (b1 + 1)])
  refine lv_dup C.1 C.2.1 dL_law_3 rfl ?_
  refine sInit C (vX7_init l D T b1 true rfl 1 (qM0 7) 0 N1 h1) zm_yX7_init rfl zl_RL_93 zi_yX7_init hY1 hK hl (by omega) (by omega) (by omega) (Nat.le_of_ble_eq_true rfl) dL_law_4 (fun H2 locs2 hY2 hk2 => ?_)
  refine lv_astore_n (lv' := [(1, .ref (b1 + 1)), (0, .ref b0)]) C.1 C.2.1 dL_law_7 rfl hl (by decide) rfl (fun ls hl => ?_)
  obtain ⟨b2, hb2⟩ : ∃ b2, b2 = b1 + 504 := ⟨_, rfl⟩
  have hz2 : H2.size = b2 + 1 := by have := hY2.2.2.2.1 rfl; omega
  refine W.newcK C.1 C.2.1 (lw_own C) (hts _ zl_c94) (hts _ zcV8) (hts _ zcK8) rfl dL_law_8 (by show 1 + 503 + 1 ≤ 601024; omega) (by show 6 + 19563 + 57 ≤ 7293033; omega) hKn8.2.1 hz2 fun H3 kC8 hkC8 e3 z3 o3 => ?_
  have hP2 : va_P D vwCl (zw T b2 (qM0 8)) H3 := sBorn hK zcI8 hts zcU8 zcT8 zcD8 hkC8 e3
  have hP13 : va_P D vwCl (zw T b1 N1) H3 := hY2.1.kept fun k q hk => o3 q.1 (by have : q.1 < H2.size := (hY2.1 k q hk).lt; omega)
  have hs2 := hY2.2.2.1
  have hY3 : zY D T b2 true false (qM0 8).2.2.2 (qM0 8) s H3 (fun q : Nat => s.heap.size ≤ q) locs2 := ⟨hP2, zD_of (fun r g1 g2 => by show s.heap.size ≤ b2 + r; omega), ⟨by omega, fun q hq hq2 => (o3 q (by omega)).trans (hs2.2.1 q hq hq2), hs2.2.2⟩, fun _ => by show H3.size = b2 + 1 + 1; omega, ⟨fun h => absurd h Bool.false_ne_true, fun _ => hAO, hN⟩, fun h => absurd h.symm Bool.false_ne_true⟩
  show W p l e room_1 s m #[Value.ref b0] below meth c H3 locs2 505 19626 (lw_Z below #[Value.ref b0] s) (F0 m 11 ls [.ref (b2 + 1)])
  refine lv_dup C.1 C.2.1 dL_law_11 rfl ?_
  refine sInit C (vX8_init l D T b2 true rfl 1 (qM0 8) 0 N2 h2) zm_yX8_init rfl zl_RL_96 zi_yX8_init hY3 hK hl (by omega) (by omega) (by omega) (Nat.le_of_ble_eq_true rfl) dL_law_12 (fun H4 locs4 hY4 hk4 => ?_)
  have hP14 : va_P D vwCl (zw T b1 N1) H4 := hP13.kept fun k q hk => by
    have hlt := (hP13 k q hk).lt
    obtain ⟨g1, rfl⟩ := zw_at hk
    refine hk4 _ hlt (fun h => ?_)
    rcases h with ⟨h, _⟩ | h
    · have h : b2 < b1 + (k + 1) := h
      omega
    · have h : H3.size ≤ b1 + (k + 1) := h
      have hlt : b1 + (k + 1) < H3.size := hlt
      omega
  refine lv_astore_n (lv' := [(2, .ref (b2 + 1)), (1, .ref (b1 + 1)), (0, .ref b0)]) C.1 C.2.1 dL_law_15 rfl hl (by decide) rfl (fun ls hl => ?_)
  refine lv_iconst (v := 1) C.1 C.2.1 dL_law_16 (by decide) ?_
  obtain ⟨ao, hao⟩ : ∃ ao, ao = b2 + 45 := ⟨_, rfl⟩
  have hz4 : H4.size = ao := by have := hY4.2.2.2.1 rfl; omega
  refine va_newaK C.1 C.2.1 (atype := .long) (hts _ zar_long) rfl dL_law_17 rfl (by decide) (N := 1) (by decide) (by decide) (by show 505 + 43 + 1 ≤ 601024; omega) (by show 19626 + 22007 + 1 ≤ 7293033; omega) hz4 fun H5 cA e5 z5 o5 hAr hNm => ?_
  have hcA : cA = T 103 := Option.some.inj (hNm.symm.trans (zT_of (i := 3) (cd := 103) (ty := .long) hK rfl))
  subst hcA
  have hO : va_at D vwCl (ao, zoE T (fun _ => 0)) H5 := by
    show H5[ao]? = some (vp_cell _ _)
    rw [e5, vp_cell_l]
    rfl
  have hk5 : ∀ (b : Nat) (M : zM), va_P D vwCl (zw T b M) H4 → va_P D vwCl (zw T b M) H5 := fun b M h => h.kept fun k q hk => o5 q.1 (by have : q.1 < H4.size := (h k q hk).lt; omega)
  have hs4 := hY4.2.2.1
  show W p l e room_1 s m #[Value.ref b0] below meth c H5 locs4 549 41634 (lw_Z below #[Value.ref b0] s) (F0 m 19 ls [.ref ao])
  refine lv_astore_n (lv' := [(3, .ref ao), (2, .ref (b2 + 1)), (1, .ref (b1 + 1)), (0, .ref b0)]) C.1 C.2.1 dL_law_19 rfl hl (by decide) rfl (fun ls hl => ?_)
  refine lv_iconst (v := 0) C.1 C.2.1 dL_law_20 (by decide) ?_
  refine lv_istore (lv' := [(4, .int 0), (3, .ref ao), (2, .ref (b2 + 1)), (1, .ref (b1 + 1)), (0, .ref b0)]) C.1 C.2.1 dL_law_21 hl (by decide) rfl (fun ls hl => ?_)
  exact vW (D := D) (T := T) (b1 := b1) (b2 := b2) (ao := ao) hl0 513 549 41634 (by omega) (by omega) 0 N1 N2 (fun _ => 0) hW p e s m below meth c H5 locs4 ls C ⟨hk5 _ _ hP14, hk5 _ _ hY4.1, hO, ⟨by omega, fun q hq hq2 => (o5 q (by have := hs4.1; omega)).trans (hs4.2.1 q hq hq2), hs4.2.2⟩, ⟨by omega, by omega, by omega⟩, hK, hU, hN, hNC⟩ (zcl_cat ⟨rfl, rfl, rfl, rfl, rfl, True.intro⟩) (lv_sub hl [4, 3, 2, 1, 0] rfl)
end
/-- the law, from its entry -/
theorem whole_start {p : Program} {e : Env} {s : State} {m : MethodId} {below : List Frame} {meth : Method} {c : Code} (l : Launch) (hflags : l.flags = flags0) {b L : Nat} {xs : Nat → Int32} (hL : L ≤ 2560) (C0 : lw_At p s m meth c b L xs) : W p l e room_1 s m #[Value.ref b] below meth c s.heap [] 0 0 (lw_Z below #[Value.ref b] s) (entryFrame m ([Value.ref b] : List Value).toArray 7) := by
  have hl := lv_entry ([.ref b]) (n := 7) (Nat.le_of_ble_eq_true rfl)
  rw [lg_entry_eq]
  generalize (lg_sl ([.ref b]) ++ List.replicate (7 - (lg_sl ([.ref b])).length) Slot.unset).toArray = ls at hl ⊢
  have hl : lv_has ls 7 [(0, .ref b)] := hl
  have hl0 : l.stackTraces = false := by
    unfold Launch.stackTraces
    rw [hflags]
    decide +kernel
  obtain ⟨J, j1, j2⟩ := lAll (xs := xs) hL
  exact sWhole hl0 C0 qC1_is (by rw [qC1_eq]; rfl) j1 rfl (j2 _) hl
