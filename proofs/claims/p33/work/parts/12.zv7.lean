section ZRows
variable {tx : Bool} {l : Launch} {own : String} {cc : ByteArray} {nL : Nat} {ret : Option FieldType} {ini : Bool} {K mc ms : Nat} {D : va_G} {T : Nat → ClassId} {ev : zE} {b : Nat} {gr : Bool} {n0 : Nat} {o : Nat × Int32 × zM} {cells slots pc : Nat} {lv : List (Nat × Value)} {st : List Value} {M : zM}
theorem zV_lconst {n : Fin 2} {v : Int64} (hdg : decode cc pc = .ok (.lconst n, 1)) (hv : Int64.ofNat (n : Nat) = v) (k : zV tx l own cc nL ret ini K mc ms D T ev b gr n0 o cells slots (pc + 1) lv (.long v :: st) M) : zV tx l own cc nL ret ini K mc ms D T ev b gr n0 o cells slots pc lv (st) M :=
  fun p e R s m args below meth c H locs A ls hX hY hc hl => lv_lconst hX.1 hX.2.1 hdg hv (k p e R s m args below meth c H locs A ls hX hY hc hl)
theorem zV_ldc2 {index : Nat} {v : Int64} (hdg : decode cc pc = .ok (.ldc2_w index, 3)) (hw : Cond.constantLong own index v ∈ gtb) (k : zV tx l own cc nL ret ini K mc ms D T ev b gr n0 o cells slots (pc + 3) lv (.long v :: st) M) : zV tx l own cc nL ret ini K mc ms D T ev b gr n0 o cells slots pc lv (st) M :=
  fun p e R s m args below meth c H locs A ls hX hY hc hl => lv_ldc2 hX.1 hX.2.1 hX.2.2.2.1 (hX.2.2.2.2.1 _ hw) hdg (k p e R s m args below meth c H locs A ls hX hY hc hl)
theorem zV_lload_n {q : Fin 4} {i j : Nat} {x : Int64} (hdg : decode cc pc = .ok (.lload_n q, 1)) (hi : (q : Nat) = i) (hk : lv[j]? = some (i, .long x)) (k : zV tx l own cc nL ret ini K mc ms D T ev b gr n0 o cells slots (pc + 1) lv (.long x :: st) M) : zV tx l own cc nL ret ini K mc ms D T ev b gr n0 o cells slots pc lv (st) M :=
  fun p e R s m args below meth c H locs A ls hX hY hc hl => lv_lload_n hX.1 hX.2.1 hdg hi (lv_at hl j hk) (k p e R s m args below meth c H locs A ls hX hY hc hl)
theorem zV_lload {i j : Nat} {x : Int64} (hdg : decode cc pc = .ok (.lload i, 2)) (hk : lv[j]? = some (i, .long x)) (k : zV tx l own cc nL ret ini K mc ms D T ev b gr n0 o cells slots (pc + 2) lv (.long x :: st) M) : zV tx l own cc nL ret ini K mc ms D T ev b gr n0 o cells slots pc lv (st) M :=
  fun p e R s m args below meth c H locs A ls hX hY hc hl => lv_lload hX.1 hX.2.1 hdg (lv_at hl j hk) (k p e R s m args below meth c H locs A ls hX hY hc hl)
theorem zV_sload_n {q : Fin 4} {i j a : Nat} (hdg : decode cc pc = .ok (.aload_n q, 1)) (hi : (q : Nat) = i) (hk : lv[j]? = some (i, .ref a)) (k : zV tx l own cc nL ret ini K mc ms D T ev b gr n0 o cells slots (pc + 1) lv (.ref a :: st) M) : zV tx l own cc nL ret ini K mc ms D T ev b gr n0 o cells slots pc lv (st) M :=
  fun p e R s m args below meth c H locs A ls hX hY hc hl => lv_aload_n hX.1 hX.2.1 hdg hi (lv_at hl j hk) (k p e R s m args below meth c H locs A ls hX hY hc hl)
theorem zV_ladd {x y : Int64} (hdg : decode cc pc = .ok (.ladd, 1)) (k : zV tx l own cc nL ret ini K mc ms D T ev b gr n0 o cells slots (pc + 1) lv (.long (x + y) :: st) M) : zV tx l own cc nL ret ini K mc ms D T ev b gr n0 o cells slots pc lv (.long y :: .long x :: st) M :=
  fun p e R s m args below meth c H locs A ls hX hY hc hl => lv_ladd hX.1 hX.2.1 hdg (k p e R s m args below meth c H locs A ls hX hY hc hl)
theorem zV_lmul {x y : Int64} (hdg : decode cc pc = .ok (.lmul, 1)) (k : zV tx l own cc nL ret ini K mc ms D T ev b gr n0 o cells slots (pc + 1) lv (.long (x * y) :: st) M) : zV tx l own cc nL ret ini K mc ms D T ev b gr n0 o cells slots pc lv (.long y :: .long x :: st) M :=
  fun p e R s m args below meth c H locs A ls hX hY hc hl => lv_lmul hX.1 hX.2.1 hdg (k p e R s m args below meth c H locs A ls hX hY hc hl)
theorem zV_ldiv {x y : Int64} (hdg : decode cc pc = .ok (.ldiv, 1)) (hne : ¬ y = 0) (k : zV tx l own cc nL ret ini K mc ms D T ev b gr n0 o cells slots (pc + 1) lv (.long (x / y) :: st) M) : zV tx l own cc nL ret ini K mc ms D T ev b gr n0 o cells slots pc lv (.long y :: .long x :: st) M :=
  fun p e R s m args below meth c H locs A ls hX hY hc hl => lv_ldiv hX.1 hX.2.1 hdg hne (k p e R s m args below meth c H locs A ls hX hY hc hl)
theorem zV_lrem {x y : Int64} (hdg : decode cc pc = .ok (.lrem, 1)) (hne : ¬ y = 0) (k : zV tx l own cc nL ret ini K mc ms D T ev b gr n0 o cells slots (pc + 1) lv (.long (zlrem x y) :: st) M) : zV tx l own cc nL ret ini K mc ms D T ev b gr n0 o cells slots pc lv (.long y :: .long x :: st) M :=
  fun p e R s m args below meth c H locs A ls hX hY hc hl => lv_lrem hX.1 hX.2.1 hdg hne (k p e R s m args below meth c H locs A ls hX hY hc hl)
theorem zV_ixor {x y : Int32} (hdg : decode cc pc = .ok (.ixor, 1)) (k : zV tx l own cc nL ret ini K mc ms D T ev b gr n0 o cells slots (pc + 1) lv (.int (x ^^^ y) :: st) M) : zV tx l own cc nL ret ini K mc ms D T ev b gr n0 o cells slots pc lv (.int y :: .int x :: st) M :=
  fun p e R s m args below meth c H locs A ls hX hY hc hl => lv_ixor hX.1 hX.2.1 hdg (k p e R s m args below meth c H locs A ls hX hY hc hl)
theorem zV_i2l {x : Int32} (hdg : decode cc pc = .ok (.i2l, 1)) (k : zV tx l own cc nL ret ini K mc ms D T ev b gr n0 o cells slots (pc + 1) lv (.long x.toInt64 :: st) M) : zV tx l own cc nL ret ini K mc ms D T ev b gr n0 o cells slots pc lv (.int x :: st) M :=
  fun p e R s m args below meth c H locs A ls hX hY hc hl => lv_i2l hX.1 hX.2.1 hdg rfl (k p e R s m args below meth c H locs A ls hX hY hc hl)
theorem zV_l2i {x : Int64} (hdg : decode cc pc = .ok (.l2i, 1)) (k : zV tx l own cc nL ret ini K mc ms D T ev b gr n0 o cells slots (pc + 1) lv (.int x.toInt32 :: st) M) : zV tx l own cc nL ret ini K mc ms D T ev b gr n0 o cells slots pc lv (.long x :: st) M :=
  fun p e R s m args below meth c H locs A ls hX hY hc hl => lv_l2i hX.1 hX.2.1 hdg rfl (k p e R s m args below meth c H locs A ls hX hY hc hl)
theorem zV_lcmp {x y : Int64} (hdg : decode cc pc = .ok (.lcmp, 1)) (k : zV tx l own cc nL ret ini K mc ms D T ev b gr n0 o cells slots (pc + 1) lv (.int (lg_cmp x y) :: st) M) : zV tx l own cc nL ret ini K mc ms D T ev b gr n0 o cells slots pc lv (.long y :: .long x :: st) M :=
  fun p e R s m args below meth c H locs A ls hX hY hc hl => W.lcmp hX.1 hX.2.1 hdg (k p e R s m args below meth c H locs A ls hX hY hc hl)
theorem zV_topl {x : Int64} (k : ∀ y : Int64, y = x → zV tx l own cc nL ret ini K mc ms D T ev b gr n0 o cells slots pc lv (.long y :: st) M) : zV tx l own cc nL ret ini K mc ms D T ev b gr n0 o cells slots pc lv (.long x :: st) M := k x rfl
theorem zV_lstore_n {q : Fin 4} {i : Nat} {x : Int64} (lv' : List (Nat × Value)) (hdg : decode cc pc = .ok (.lstore_n q, 1)) (hi : (q : Nat) = i) (hn : i + 1 < nL) (hj : i = zJ ev) (hs : zsetl lv i (.long x) = lv') (k : zV tx l own cc nL ret ini K mc ms D T ev b gr n0 o cells slots (pc + 1) lv' st M) : zV tx l own cc nL ret ini K mc ms D T ev b gr n0 o cells slots pc lv (.long x :: st) M := by
  subst hs
  intro p e R s m args below meth c H locs A ls hX hY hc hl
  exact lv_lstore_n hX.1 hX.2.1 hdg hi hl hn rfl (fun ls' hl' => k p e R s m args below meth c H locs A ls' hX hY (zsetl_cat hc hj) (zsetl_has hc hj hl'))
theorem zV_lstore {i : Nat} {x : Int64} (lv' : List (Nat × Value)) (hdg : decode cc pc = .ok (.lstore i, 2)) (hn : i + 1 < nL) (hj : i = zJ ev) (hs : zsetl lv i (.long x) = lv') (k : zV tx l own cc nL ret ini K mc ms D T ev b gr n0 o cells slots (pc + 2) lv' st M) : zV tx l own cc nL ret ini K mc ms D T ev b gr n0 o cells slots pc lv (.long x :: st) M := by
  subst hs
  intro p e R s m args below meth c H locs A ls hX hY hc hl
  exact lv_lstore hX.1 hX.2.1 hdg hl hn rfl (fun ls' hl' => k p e R s m args below meth c H locs A ls' hX hY (zsetl_cat hc hj) (zsetl_has hc hj hl'))
theorem zV_lald {a : Nat} {i : Int32} (hdg : decode cc pc = .ok (.laload, 1)) (hk : zk M a = 103) (hi : vp_in i (zl M a)) (k : zV tx l own cc nL ret ini K mc ms D T ev b gr n0 o cells slots (pc + 1) lv (.long (zL M a i.toNatClampNeg) :: st) M) : zV tx l own cc nL ret ini K mc ms D T ev b gr n0 o cells slots pc lv (.int i :: zr b a :: st) M := by
  intro p e R s m args below meth c H locs A ls hX hY hc hl
  obtain ⟨h1, h2, h3⟩ := zk_1 hk (by decide)
  rw [zr_pos h1]
  exact va_lald hX.1 hX.2.1 hX.2.2.2.2.2.2.2.2.2.2.1 hY.1 (a - 1) 3 (by rw [zw_get h1 h2, zc_lng h3]) rfl hi hdg (k p e R s m args below meth c H locs A ls hX hY hc hl)
theorem zset_last {T : Nat → ClassId} {b : Nat} {M : zM} {a : Nat} {j : Nat} {x : Int64} (h1 : 1 ≤ a) (h2 : a ≤ M.2.2.2) (h3 : (M.2.2.1 a).1 = 103) : (zw T b M).set (a - 1) (b + a, .inl (T 103, (zl M a, .inr (.inl (vp_updL (zL M a) j x))))) = zw T b (zsL M a j x) := by
  rw [← zw_set (M := M) (M' := zsL M a j x) h1 h2 rfl (fun y hy => zsR_off hy), zc_lng (M := zsL M a j x) h3]
  have e1 : vp_updL (zL M a) j x = zL (zsL M a j x) a := by
    funext y
    by_cases hy : y = j
    · subst hy
      simp [vp_updL, zL, zsL, zR, zsR, zL_of]
    · simp [vp_updL, zL, zsL, zR, zsR, hy]
  rw [e1]
  rfl
theorem zV_last {a : Nat} {i : Int32} {x : Int64} (hdg : decode cc pc = .ok (.lastore, 1)) (hk : zk M a = 103) (hi : vp_in i (zl M a)) (k : zV tx l own cc nL ret ini K mc ms D T ev b gr n0 o cells slots (pc + 1) lv st (zsL M a i.toNatClampNeg x)) : zV tx l own cc nL ret ini K mc ms D T ev b gr n0 o cells slots pc lv (.long x :: .int i :: zr b a :: st) M := by
  intro p e R s m args below meth c H locs A ls hX hY hc hl
  obtain ⟨h1, h2, h3⟩ := zk_1 hk (by decide)
  have hset := zset_last (T := T) (b := b) (M := M) (a := a) (j := i.toNatClampNeg) (x := x) h1 h2 h3
  have haa : (zw T b M)[a - 1]? = some (b + a, .inl (T 103, (zl M a, .inr (.inl (zL M a))))) := by rw [zw_get h1 h2, zc_lng h3]
  rw [zr_pos h1]
  refine W.last hX.1 hX.2.1 (hY.1 _ _ haa) ((hX.2.2.2.2.2.2.2.2.2.2.1.2 3 _ rfl).1 (zl M a) (fun j => .long (zL M a j))) (fun q => by cases q) (by show ¬ (i < 0 ∨ (arrV _ _ _).slots.size ≤ _); rw [arrV_size]; exact hi) rfl rfl hdg fun H1 e z oq => ?_
  have hP : va_P D vwCl (zw T b (zsL M a i.toNatClampNeg x)) H1 := by
    rw [← hset]
    refine hY.1.set hY.2.1 haa ?_ oq
    show H1[b + a]? = some (vp_cell _ _)
    rw [e]
    rw [vp_cell_l, vp_cell_l, arrV_store]
    congr 2
    funext q
    by_cases hq : q = i.toNatClampNeg
    · subst hq
      simp [updV, vp_updL]
    · simp [updV, vp_updL, hq]
  have hD : va_D A (zw T b (zsL M a i.toNatClampNeg x)) := by rw [← hset]; exact hY.2.1.set haa
  exact k p _ R s m args below meth c H1 _ A ls hX ⟨hP, hD, hY.2.2.1.put z oq (hY.2.1.2 _ _ haa), fun hg => by rw [z]; exact hY.2.2.2.1 hg, hY.2.2.2.2⟩ hc hl
/-- the script -/
theorem zV_sald {i : Int32} (he : ev.1 = true) (hdg : decode cc pc = .ok (.iaload, 1)) (hi : vp_in i ev.2.2.1) (k : zV tx l own cc nL ret ini K mc ms D T ev b gr n0 o cells slots (pc + 1) lv (.int (ev.2.2.2.1 i.toNatClampNeg) :: st) M) : zV tx l own cc nL ret ini K mc ms D T ev b gr n0 o cells slots pc lv (.int i :: .ref ev.2.1 :: st) M := by
  intro p e R s m args below meth c H locs A ls hX hY hc hl
  obtain ⟨h1, h2, h3⟩ := hc.2 he
  exact va_sld hX.1 hX.2.1 h1 h2 h3 hY.2.2.1 hi hdg (k p e R s m args below meth c H locs A ls hX hY hc hl)
theorem zV_salen (he : ev.1 = true) (hdg : decode cc pc = .ok (.arraylength, 1)) (k : zV tx l own cc nL ret ini K mc ms D T ev b gr n0 o cells slots (pc + 1) lv (.int (Int32.ofNat ev.2.2.1) :: st) M) : zV tx l own cc nL ret ini K mc ms D T ev b gr n0 o cells slots pc lv (.ref ev.2.1 :: st) M := by
  intro p e R s m args below meth c H locs A ls hX hY hc hl
  obtain ⟨h1, h2, h3⟩ := hc.2 he
  exact va_slen hX.1 hX.2.1 h1 h2 h3 hY.2.2.1 hdg (k p e R s m args below meth c H locs A ls hX hY hc hl)
end ZRows
section ZRows
variable {tx : Bool} {l : Launch} {own : String} {cc : ByteArray} {nL : Nat} {ret : Option FieldType} {ini : Bool} {K mc ms : Nat} {D : va_G} {T : Nat → ClassId} {ev : zE} {b : Nat} {gr : Bool} {n0 : Nat} {o : Nat × Int32 × zM} {cells slots pc : Nat} {lv : List (Nat × Value)} {st : List Value} {M : zM}
theorem zV_newa_long {x : Int32} {n : Nat} (hgr : gr = true) (har : (Cond.arrayClass .long) ∈ gtb) (hn : ¬ x < 0) (hN : x.toNatClampNeg = n) (hby : n ≤ 100000) (hmc : cells + 1 ≤ mc) (hms : slots + n ≤ ms) (hdg : decode cc pc = .ok (.newarray .long, 2))
    (k : zV tx l own cc nL ret ini K mc ms D T ev b gr n0 o (cells + 1) (slots + n) (pc + 2) lv (zr b (M.2.2.2 + 1) :: st) (zsN M 103 n)) : zV tx l own cc nL ret ini K mc ms D T ev b gr n0 o cells slots pc lv (.int x :: st) M := by
  subst hgr
  intro p e R s m args below meth c H locs A ls hX hY hc hl9
  have hR : R = zRm K mc ms := hX.2.2.2.2.2.2.2.2.2.1
  have hK := hX.2.2.2.2.2.2.2.2.2.2.1
  have hA := hX.2.2.2.2.2.2.2.2.2.2.2
  have hsz := hY.2.2.2.1 rfl
  refine va_newaK hX.1 hX.2.1 (atype := .long) (hX.2.2.2.2.1 _ har) rfl hdg rfl hn hN (Nat.le_trans (Nat.mul_le_mul_right _ hby) (by decide)) (by rw [hR]; exact hmc) (by rw [hR]; exact hms) rfl fun H1 cA e1 z1 o1 hAr hNm => ?_
  have hcA : cA = T 103 := Option.some.inj (hNm.symm.trans (zT_of (i := 3) (cd := 103) (ty := .long) hK rfl))
  subst hcA
  have hk : ∀ (k : Nat) (x : Nat × va_E), (zw T b M)[k]? = some x → H1[x.1]? = H[x.1]? := fun k x hx => o1 x.1 ((hY.1 k x hx).lt)
  have hobj : zc T b (zsN M 103 n) (M.2.2.2 + 1) = .inl (T 103, (n, .inr (.inl (fun _ => 0)))) := by
    rw [zc_lng (by simp [zsN])]
    have e2 : zl (zsN M 103 n) (M.2.2.2 + 1) = n := by simp [zl, zsN]
    have e3 : zL (zsN M 103 n) (M.2.2.2 + 1) = fun _ => 0 := by funext y; simp [zL, zR, zsN]
    rw [e2, e3]
  have hpu := zw_push (T := T) (b := b) (M := M) (M' := zsN M 103 n) rfl (fun x hx => zsN_off hx)
  have hsz2 : H.size = b + (M.2.2.2 + 1) := by omega
  have hP : va_P D vwCl (zw T b (zsN M 103 n)) H1 := by
    rw [← hpu]
    refine (hY.1.kept hk).app (fun k x hx => ?_)
    have hz : k < 1 := (List.getElem?_eq_some_iff.mp hx).1
    rw [show k = 0 by omega] at hx
    cases hx
    rw [hobj]
    show H1[b + (M.2.2.2 + 1)]? = some (vp_cell _ _)
    rw [← hsz2, e1, vp_cell_l]
    rfl
  have hD : va_D A (zw T b (zsN M 103 n)) := zD_of fun r h1 h2 => by
    rcases Nat.lt_or_ge M.2.2.2 r with hr | hr
    · exact hA _ (Nat.le_trans hY.2.2.1.1 (by omega))
    · exact hY.2.1.2 (r - 1) _ (zw_get (T := T) (b := b) (M := M) h1 hr)
  have h := k p e R s m args below meth c H1 locs A ls hX ⟨hP, hD, ⟨Nat.le_trans hY.2.2.1.1 (by omega), fun x h1 h2 => (o1 x (Nat.lt_of_lt_of_le h1 hY.2.2.1.1)).trans (hY.2.2.1.2.1 x h1 h2), hY.2.2.1.2.2⟩, fun _ => by rw [z1, hsz]; rfl, hY.2.2.2.2.1, fun hg => absurd hg.symm Bool.false_ne_true⟩ hc hl9
  rw [zr_pos (by omega), ← hsz2] at h
  exact h
end ZRows
