theorem zs_aast {T : Nat → ClassId} {b : Nat} {M : zM} {a j v cd : Nat} (h1 : 1 ≤ a) (h2 : a ≤ M.2.2.2) (h3 : (M.2.2.1 a).1 = cd) (hcd : 110 ≤ cd) (hv : 1 ≤ v) : (zw T b M).set (a - 1) (b + a, .inl (T cd, (zl M a, .inr (.inr (.inr (.inr (va_up (fun i => zop b (zR M a i)) j (some (b + v))))))))) = zw T b (zsR M a j v) := by
  rw [← zw_set (M := M) (M' := zsR M a j v) h1 h2 rfl (fun y hy => zsR_off hy), zc_ref (M := zsR M a j v) (c := cd) h3 hcd]
  have e1 : va_up (fun i => zop b (zR M a i)) j (some (b + v)) = fun i => zop b (zR (zsR M a j v) a i) := by
    funext y
    unfold va_up zop zR zsR
    by_cases hy : y = j
    · subst hy
      simp
      omega
    · simp [hy]
  rw [e1]
  rfl
section ZRows
variable {tx : Bool} {l : Launch} {own : String} {cc : ByteArray} {nL : Nat} {ret : Option FieldType} {ini : Bool} {K mc ms : Nat} {D : va_G} {T : Nat → ClassId} {ev : zE} {b : Nat} {gr : Bool} {n0 : Nat} {o : Nat × Int32 × zM} {cells slots pc : Nat} {lv : List (Nat × Value)} {st : List Value} {M : zM}
theorem zV_objInit {index r : Nat} (hl : (Cond.methodLink own index Lib.objectInit) ∈ gtb) (hi : (Cond.instanceMethod Lib.objectInit) ∈ gtb) (hco : (Cond.code Lib.objectInit ⟨#[0xb1]⟩ 1 none) ∈ gtb) (hK : 1 ≤ K) (hr : 1 ≤ r) (hcat : (st.map fun v => v.category).sum ≤ 8) (hdg : decode cc pc = .ok (.invokespecial index, 3)) (k : zV tx l own cc nL ret ini K mc ms D T ev b gr n0 o cells slots (pc + 3) lv st M) : zV tx l own cc nL ret ini K mc ms D T ev b gr n0 o cells slots pc lv (zr b r :: st) M := by
  intro p e R s m args below meth c H locs A ls hX hY hc hl9
  rw [zr_pos hr]
  have hR : R = zRm K mc ms := hX.2.2.2.2.2.2.2.2.2.1
  exact W.objInit hX.1 hX.2.1 hX.2.2.2.1 (hX.2.2.2.2.1 _ hl) (hX.2.2.2.2.1 _ hi) (hX.2.2.2.2.1 _ hco) rfl (by rw [hX.2.2.1]; exact hl9.1) rfl hdg (by rw [hR]; exact hK) (by rw [hR]; show 2 * 0 + _ + 12 ≤ 64 * K; omega) (k p e R s m args below meth c H locs A ls hX hY hc hl9)
/-- a new object of class ci -/
theorem zV_new {index ci : Nat} (hci : vwCl[ci]? = some (zcl ci) ∧ ci < 100) (hgr : gr = true) (hws : ∀ w ∈ u_ws (zcl ci).1 (zcl ci).2.1 (zcl ci).2.2, w ∈ gtb) (hty : ∀ j, j < (zcl ci).2.2 → parseFieldDescriptor ((zcl ci).2.1 j).2.2.1 = some (zty ci j)) (hdf : ∀ j, j < (zcl ci).2.2 → defaultValue (zty ci j) = if zrt (zty ci j) = true then .null else .int 0)
    (hcl : (Cond.classLink own index (zcl ci).1) ∈ gtb) (hin : (Cond.instantiable (zcl ci).1 (zcl ci).2.2) ∈ gtb) (hit : (Cond.initialized (zcl ci).1) ∈ gtb) (hmc : cells + 1 ≤ mc) (hms : slots + (zcl ci).2.2 ≤ ms) (hdg : decode cc pc = .ok (.new index, 3))
    (k : zV tx l own cc nL ret ini K mc ms D T ev b gr n0 o (cells + 1) (slots + (zcl ci).2.2) (pc + 3) lv (zr b (M.2.2.2 + 1) :: st) (zsN M ci 0)) : zV tx l own cc nL ret ini K mc ms D T ev b gr n0 o cells slots pc lv st M := by
  subst hgr
  intro p e R s m args below meth c H locs A ls hX hY hc hl9
  have hR : R = zRm K mc ms := hX.2.2.2.2.2.2.2.2.2.1
  have hK := hX.2.2.2.2.2.2.2.2.2.2.1
  have hA := hX.2.2.2.2.2.2.2.2.2.2.2
  have hKn := hK.1 ci _ hci.1
  have hsz := hY.2.2.2.1 rfl
  refine W.newcK hX.1 hX.2.1 hX.2.2.2.1 (hX.2.2.2.2.1 _ hcl) (hX.2.2.2.2.1 _ hin) (hX.2.2.2.2.1 _ hit) rfl hdg (by rw [hR]; exact hmc) (by rw [hR]; exact hms) hKn.2.1 rfl fun H1 kC hkC e1 z1 o1 => ?_
  have hk : ∀ (k : Nat) (x : Nat × va_E), (zw T b M)[k]? = some x → H1[x.1]? = H[x.1]? := fun k x hx => o1 x.1 ((hY.1 k x hx).lt)
  have hobj : zc T b (zsN M ci 0) (M.2.2.2 + 1) = .inr (ci, zfs b (zsN M ci 0) (M.2.2.2 + 1) ci) := zc_obj (by simp [zsN]) hci.2
  have hpu := zw_push (T := T) (b := b) (M := M) (M' := zsN M ci 0) rfl (fun x hx => zsN_off hx)
  have hsz2 : H.size = b + (M.2.2.2 + 1) := by omega
  have hP : va_P D vwCl (zw T b (zsN M ci 0)) H1 := by
    rw [← hpu]
    refine (hY.1.kept hk).app (fun k x hx => ?_)
    have hz : k < 1 := (List.getElem?_eq_some_iff.mp hx).1
    rw [show k = 0 by omega] at hx
    cases hx
    rw [hobj]
    refine ⟨_, hci.1, (u_born (zty ci) hX.2.2.2.2.1 hws hKn hkC (by rw [← hsz2]; exact e1) hty).to (fun j hj => ?_)⟩
    rw [hdf j hj]
    unfold vp_V
    rw [List.getD_eq_getElem?_getD, zfs_get hj, Option.getD_some]
    unfold zv
    simp [zI, zR, zsN, zr_0]
  have hD : va_D A (zw T b (zsN M ci 0)) := zD_of fun r h1 h2 => by
    rcases Nat.lt_or_ge M.2.2.2 r with hr | hr
    · exact hA _ (Nat.le_trans hY.2.2.1.1 (by omega))
    · exact hY.2.1.2 (r - 1) _ (zw_get (T := T) (b := b) (M := M) h1 hr)
  have h := k p e R s m args below meth c H1 locs A ls hX ⟨hP, hD, ⟨Nat.le_trans hY.2.2.1.1 (by omega), fun x h1 h2 => (o1 x (Nat.lt_of_lt_of_le h1 hY.2.2.1.1)).trans (hY.2.2.1.2.1 x h1 h2), hY.2.2.1.2.2⟩, fun _ => by rw [z1, hsz]; rfl, hY.2.2.2.2.1, fun hg => absurd hg.symm Bool.false_ne_true⟩ hc hl9
  rw [zr_pos (by omega), ← hsz2] at h
  exact h
theorem zT_of {D : va_G} {T : Nat → ClassId} {s : State} {i cd : Nat} {ty : FieldType} (hK : va_K D vwCl (ztys T) s) (ht : (ztys T)[i]? = some (T cd, ty)) : va_RA s (T cd) ty := (hK.2 i _ ht).2
theorem zV_newa_int {x : Int32} {n : Nat} (hgr : gr = true) (har : (Cond.arrayClass .int) ∈ gtb) (hn : ¬ x < 0) (hN : x.toNatClampNeg = n) (hby : n ≤ 100000) (hmc : cells + 1 ≤ mc) (hms : slots + n ≤ ms) (hdg : decode cc pc = .ok (.newarray .int, 2))
    (k : zV tx l own cc nL ret ini K mc ms D T ev b gr n0 o (cells + 1) (slots + n) (pc + 2) lv (zr b (M.2.2.2 + 1) :: st) (zsN M 100 n)) : zV tx l own cc nL ret ini K mc ms D T ev b gr n0 o cells slots pc lv (.int x :: st) M := by
  subst hgr
  intro p e R s m args below meth c H locs A ls hX hY hc hl9
  have hR : R = zRm K mc ms := hX.2.2.2.2.2.2.2.2.2.1
  have hK := hX.2.2.2.2.2.2.2.2.2.2.1
  have hA := hX.2.2.2.2.2.2.2.2.2.2.2
  have hsz := hY.2.2.2.1 rfl
  refine va_newaK hX.1 hX.2.1 (atype := .int) (hX.2.2.2.2.1 _ har) rfl hdg rfl hn hN (Nat.le_trans (Nat.mul_le_mul_right _ hby) (by decide)) (by rw [hR]; exact hmc) (by rw [hR]; exact hms) rfl fun H1 cA e1 z1 o1 hAr hNm => ?_
  have hcA : cA = T 100 := Option.some.inj (hNm.symm.trans (zT_of (i := 0) (cd := 100) (ty := .int) hK rfl))
  subst hcA
  have hk : ∀ (k : Nat) (x : Nat × va_E), (zw T b M)[k]? = some x → H1[x.1]? = H[x.1]? := fun k x hx => o1 x.1 ((hY.1 k x hx).lt)
  have hobj : zc T b (zsN M 100 n) (M.2.2.2 + 1) = .inl (T 100, (n, .inl (fun _ => 0))) := by
    rw [zc_int (c := 100) (by simp [zsN]) (by decide) (by decide)]
    have e2 : zl (zsN M 100 n) (M.2.2.2 + 1) = n := by simp [zl, zsN]
    have e3 : zI (zsN M 100 n) (M.2.2.2 + 1) = fun _ => 0 := by funext y; simp [zI, zsN]
    rw [e2, e3]
  have hpu := zw_push (T := T) (b := b) (M := M) (M' := zsN M 100 n) rfl (fun x hx => zsN_off hx)
  have hsz2 : H.size = b + (M.2.2.2 + 1) := by omega
  have hP : va_P D vwCl (zw T b (zsN M 100 n)) H1 := by
    rw [← hpu]
    refine (hY.1.kept hk).app (fun k x hx => ?_)
    have hz : k < 1 := (List.getElem?_eq_some_iff.mp hx).1
    rw [show k = 0 by omega] at hx
    cases hx
    rw [hobj]
    show H1[b + (M.2.2.2 + 1)]? = some (vp_cell _ _)
    rw [← hsz2, e1, vp_cell_i]
    rfl
  have hD : va_D A (zw T b (zsN M 100 n)) := zD_of fun r h1 h2 => by
    rcases Nat.lt_or_ge M.2.2.2 r with hr | hr
    · exact hA _ (Nat.le_trans hY.2.2.1.1 (by omega))
    · exact hY.2.1.2 (r - 1) _ (zw_get (T := T) (b := b) (M := M) h1 hr)
  have h := k p e R s m args below meth c H1 locs A ls hX ⟨hP, hD, ⟨Nat.le_trans hY.2.2.1.1 (by omega), fun x h1 h2 => (o1 x (Nat.lt_of_lt_of_le h1 hY.2.2.1.1)).trans (hY.2.2.1.2.1 x h1 h2), hY.2.2.1.2.2⟩, fun _ => by rw [z1, hsz]; rfl, hY.2.2.2.2.1, fun hg => absurd hg.symm Bool.false_ne_true⟩ hc hl9
  rw [zr_pos (by omega), ← hsz2] at h
  exact h
theorem zV_newa_bool {x : Int32} {n : Nat} (hgr : gr = true) (har : (Cond.arrayClass .boolean) ∈ gtb) (hn : ¬ x < 0) (hN : x.toNatClampNeg = n) (hby : n ≤ 100000) (hmc : cells + 1 ≤ mc) (hms : slots + n ≤ ms) (hdg : decode cc pc = .ok (.newarray .boolean, 2))
    (k : zV tx l own cc nL ret ini K mc ms D T ev b gr n0 o (cells + 1) (slots + n) (pc + 2) lv (zr b (M.2.2.2 + 1) :: st) (zsN M 101 n)) : zV tx l own cc nL ret ini K mc ms D T ev b gr n0 o cells slots pc lv (.int x :: st) M := by
  subst hgr
  intro p e R s m args below meth c H locs A ls hX hY hc hl9
  have hR : R = zRm K mc ms := hX.2.2.2.2.2.2.2.2.2.1
  have hK := hX.2.2.2.2.2.2.2.2.2.2.1
  have hA := hX.2.2.2.2.2.2.2.2.2.2.2
  have hsz := hY.2.2.2.1 rfl
  refine va_newaK hX.1 hX.2.1 (atype := .boolean) (hX.2.2.2.2.1 _ har) rfl hdg rfl hn hN (Nat.le_trans (Nat.mul_le_mul_right _ hby) (by decide)) (by rw [hR]; exact hmc) (by rw [hR]; exact hms) rfl fun H1 cA e1 z1 o1 hAr hNm => ?_
  have hcA : cA = T 101 := Option.some.inj (hNm.symm.trans (zT_of (i := 1) (cd := 101) (ty := .boolean) hK rfl))
  subst hcA
  have hk : ∀ (k : Nat) (x : Nat × va_E), (zw T b M)[k]? = some x → H1[x.1]? = H[x.1]? := fun k x hx => o1 x.1 ((hY.1 k x hx).lt)
  have hobj : zc T b (zsN M 101 n) (M.2.2.2 + 1) = .inl (T 101, (n, .inl (fun _ => 0))) := by
    rw [zc_int (c := 101) (by simp [zsN]) (by decide) (by decide)]
    have e2 : zl (zsN M 101 n) (M.2.2.2 + 1) = n := by simp [zl, zsN]
    have e3 : zI (zsN M 101 n) (M.2.2.2 + 1) = fun _ => 0 := by funext y; simp [zI, zsN]
    rw [e2, e3]
  have hpu := zw_push (T := T) (b := b) (M := M) (M' := zsN M 101 n) rfl (fun x hx => zsN_off hx)
  have hsz2 : H.size = b + (M.2.2.2 + 1) := by omega
  have hP : va_P D vwCl (zw T b (zsN M 101 n)) H1 := by
    rw [← hpu]
    refine (hY.1.kept hk).app (fun k x hx => ?_)
    have hz : k < 1 := (List.getElem?_eq_some_iff.mp hx).1
    rw [show k = 0 by omega] at hx
    cases hx
    rw [hobj]
    show H1[b + (M.2.2.2 + 1)]? = some (vp_cell _ _)
    rw [← hsz2, e1, vp_cell_i]
    rfl
  have hD : va_D A (zw T b (zsN M 101 n)) := zD_of fun r h1 h2 => by
    rcases Nat.lt_or_ge M.2.2.2 r with hr | hr
    · exact hA _ (Nat.le_trans hY.2.2.1.1 (by omega))
    · exact hY.2.1.2 (r - 1) _ (zw_get (T := T) (b := b) (M := M) h1 hr)
  have h := k p e R s m args below meth c H1 locs A ls hX ⟨hP, hD, ⟨Nat.le_trans hY.2.2.1.1 (by omega), fun x h1 h2 => (o1 x (Nat.lt_of_lt_of_le h1 hY.2.2.1.1)).trans (hY.2.2.1.2.1 x h1 h2), hY.2.2.1.2.2⟩, fun _ => by rw [z1, hsz]; rfl, hY.2.2.2.2.1, fun hg => absurd hg.symm Bool.false_ne_true⟩ hc hl9
  rw [zr_pos (by omega), ← hsz2] at h
  exact h
theorem zV_newa_char {x : Int32} {n : Nat} (hgr : gr = true) (har : (Cond.arrayClass .char) ∈ gtb) (hn : ¬ x < 0) (hN : x.toNatClampNeg = n) (hby : n ≤ 100000) (hmc : cells + 1 ≤ mc) (hms : slots + n ≤ ms) (hdg : decode cc pc = .ok (.newarray .char, 2))
    (k : zV tx l own cc nL ret ini K mc ms D T ev b gr n0 o (cells + 1) (slots + n) (pc + 2) lv (zr b (M.2.2.2 + 1) :: st) (zsN M 102 n)) : zV tx l own cc nL ret ini K mc ms D T ev b gr n0 o cells slots pc lv (.int x :: st) M := by
  subst hgr
  intro p e R s m args below meth c H locs A ls hX hY hc hl9
  have hR : R = zRm K mc ms := hX.2.2.2.2.2.2.2.2.2.1
  have hK := hX.2.2.2.2.2.2.2.2.2.2.1
  have hA := hX.2.2.2.2.2.2.2.2.2.2.2
  have hsz := hY.2.2.2.1 rfl
  refine va_newaK hX.1 hX.2.1 (atype := .char) (hX.2.2.2.2.1 _ har) rfl hdg rfl hn hN (Nat.le_trans (Nat.mul_le_mul_right _ hby) (by decide)) (by rw [hR]; exact hmc) (by rw [hR]; exact hms) rfl fun H1 cA e1 z1 o1 hAr hNm => ?_
  have hcA : cA = T 102 := Option.some.inj (hNm.symm.trans (zT_of (i := 2) (cd := 102) (ty := .char) hK rfl))
  subst hcA
  have hk : ∀ (k : Nat) (x : Nat × va_E), (zw T b M)[k]? = some x → H1[x.1]? = H[x.1]? := fun k x hx => o1 x.1 ((hY.1 k x hx).lt)
  have hobj : zc T b (zsN M 102 n) (M.2.2.2 + 1) = .inl (T 102, (n, .inl (fun _ => 0))) := by
    rw [zc_int (c := 102) (by simp [zsN]) (by decide) (by decide)]
    have e2 : zl (zsN M 102 n) (M.2.2.2 + 1) = n := by simp [zl, zsN]
    have e3 : zI (zsN M 102 n) (M.2.2.2 + 1) = fun _ => 0 := by funext y; simp [zI, zsN]
    rw [e2, e3]
  have hpu := zw_push (T := T) (b := b) (M := M) (M' := zsN M 102 n) rfl (fun x hx => zsN_off hx)
  have hsz2 : H.size = b + (M.2.2.2 + 1) := by omega
  have hP : va_P D vwCl (zw T b (zsN M 102 n)) H1 := by
    rw [← hpu]
    refine (hY.1.kept hk).app (fun k x hx => ?_)
    have hz : k < 1 := (List.getElem?_eq_some_iff.mp hx).1
    rw [show k = 0 by omega] at hx
    cases hx
    rw [hobj]
    show H1[b + (M.2.2.2 + 1)]? = some (vp_cell _ _)
    rw [← hsz2, e1, vp_cell_i]
    rfl
  have hD : va_D A (zw T b (zsN M 102 n)) := zD_of fun r h1 h2 => by
    rcases Nat.lt_or_ge M.2.2.2 r with hr | hr
    · exact hA _ (Nat.le_trans hY.2.2.1.1 (by omega))
    · exact hY.2.1.2 (r - 1) _ (zw_get (T := T) (b := b) (M := M) h1 hr)
  have h := k p e R s m args below meth c H1 locs A ls hX ⟨hP, hD, ⟨Nat.le_trans hY.2.2.1.1 (by omega), fun x h1 h2 => (o1 x (Nat.lt_of_lt_of_le h1 hY.2.2.1.1)).trans (hY.2.2.1.2.1 x h1 h2), hY.2.2.1.2.2⟩, fun _ => by rw [z1, hsz]; rfl, hY.2.2.2.2.1, fun hg => absurd hg.symm Bool.false_ne_true⟩ hc hl9
  rw [zr_pos (by omega), ← hsz2] at h
  exact h
theorem zV_newq {index : Nat} {x : Int32} {n : Nat} (cd t0 : Nat) {C : String} (hcd : 110 ≤ cd ∧ cd < 255) (ht : (ztys T)[t0]? = some (T cd, .object C)) (hgr : gr = true) (hcl : (Cond.classLink own index C) ∈ gtb) (hao : ∀ s : State, zAO s → va_AO C s) (hn : ¬ x < 0) (hN : x.toNatClampNeg = n) (hby : n ≤ 100000) (hmc : cells + 1 ≤ mc) (hms : slots + n ≤ ms) (hdg : decode cc pc = .ok (.anewarray index, 3))
    (k : zV tx l own cc nL ret ini K mc ms D T ev b gr n0 o (cells + 1) (slots + n) (pc + 3) lv (zr b (M.2.2.2 + 1) :: st) (zsN M cd n)) : zV tx l own cc nL ret ini K mc ms D T ev b gr n0 o cells slots pc lv (.int x :: st) M := by
  subst hgr
  subst hN
  intro p e R s m args below meth c H locs A ls hX hY hc hl9
  have hR : R = zRm K mc ms := hX.2.2.2.2.2.2.2.2.2.1
  have hK := hX.2.2.2.2.2.2.2.2.2.2.1
  have hA := hX.2.2.2.2.2.2.2.2.2.2.2
  have hsz := hY.2.2.2.1 rfl
  refine W.anew hX.1 hX.2.1 hX.2.2.2.1 (hX.2.2.2.2.1 _ hcl) (va_AO.use (hao s (hY.2.2.2.2.1.2.1 rfl))) rfl hdg rfl hn (Nat.le_trans (Nat.mul_le_mul_right _ hby) (by decide)) (by rw [hR]; exact hmc) (by rw [hR]; exact hms) fun cA kA comp f1 f2 f3 f4 => ?_
  generalize hH1 : H.push ({ cls := cA, slots := Array.replicate x.toNatClampNeg .null, vm := .none } : Cell) = H1
  have z1 : H1.size = H.size + 1 := by rw [← hH1, Array.size_push]
  have e1 : H1[H.size]? = some (arrV cA x.toNatClampNeg (fun _ => .null)) := by rw [← hH1, Array.getElem?_push_size, ← arrV_new]
  have o1 : ∀ q : Nat, q < H.size → H1[q]? = H[q]? := fun q hq => by rw [← hH1, Array.getElem?_push, if_neg (Nat.ne_of_lt hq)]
  have hcA : cA = T cd := by
    obtain ⟨kA9, comp9, g1, g2, g3, g4⟩ := zT_of (i := t0) (cd := cd) hK ht
    exact Option.some.inj (f1.symm.trans g4)
  subst hcA
  have hk : ∀ (k : Nat) (x : Nat × va_E), (zw T b M)[k]? = some x → H1[x.1]? = H[x.1]? := fun k x hx => o1 x.1 ((hY.1 k x hx).lt)
  have hobj : zc T b (zsN M cd x.toNatClampNeg) (M.2.2.2 + 1) = .inl (T cd, (x.toNatClampNeg, .inr (.inr (.inr (.inr (fun _ => none)))))) := by
    rw [zc_ref (c := cd) (by simp [zsN]) hcd.1]
    have e2 : zl (zsN M cd x.toNatClampNeg) (M.2.2.2 + 1) = x.toNatClampNeg := by simp [zl, zsN]
    have e3 : (fun i => zop b (zR (zsN M cd x.toNatClampNeg) (M.2.2.2 + 1) i)) = fun _ => none := by funext y; simp [zR, zsN, zop]
    rw [e2, e3]
  have hpu := zw_push (T := T) (b := b) (M := M) (M' := zsN M cd x.toNatClampNeg) rfl (fun x hx => zsN_off hx)
  have hsz2 : H.size = b + (M.2.2.2 + 1) := by omega
  have hP : va_P D vwCl (zw T b (zsN M cd x.toNatClampNeg)) H1 := by
    rw [← hpu]
    refine (hY.1.kept hk).app (fun k x hx => ?_)
    have hz : k < 1 := (List.getElem?_eq_some_iff.mp hx).1
    rw [show k = 0 by omega] at hx
    cases hx
    rw [hobj]
    show H1[b + (M.2.2.2 + 1)]? = some (vp_cell _ _)
    rw [← hsz2, e1, vp_cell_q]
    rfl
  have hD : va_D A (zw T b (zsN M cd x.toNatClampNeg)) := zD_of fun r h1 h2 => by
    rcases Nat.lt_or_ge M.2.2.2 r with hr | hr
    · exact hA _ (Nat.le_trans hY.2.2.1.1 (by omega))
    · exact hY.2.1.2 (r - 1) _ (zw_get (T := T) (b := b) (M := M) h1 hr)
  have h := k p e R s m args below meth c H1 locs A ls hX ⟨hP, hD, ⟨Nat.le_trans hY.2.2.1.1 (by omega), fun x h1 h2 => (o1 x (Nat.lt_of_lt_of_le h1 hY.2.2.1.1)).trans (hY.2.2.1.2.1 x h1 h2), hY.2.2.1.2.2⟩, fun _ => by rw [z1, hsz]; rfl, hY.2.2.2.2.1, fun hg => absurd hg.symm Bool.false_ne_true⟩ hc hl9
  rw [zr_pos (by omega), ← hsz2] at h
  exact h
theorem zV_aast {a v ci : Nat} {i : Int32} (cd t0 : Nat) (hdg : decode cc pc = .ok (.aastore, 1)) (hk : zk M a = cd) (hcd : 110 ≤ cd ∧ cd < 255) (ht : (ztys T)[t0]? = some (T cd, .object (zcl ci).1)) (hci : vwCl[ci]? = some (zcl ci) ∧ ci < 100) (hkv : zk M v = ci) (hi : vp_in i (zl M a)) (k : zV tx l own cc nL ret ini K mc ms D T ev b gr n0 o cells slots (pc + 1) lv st (zsR M a i.toNatClampNeg v)) : zV tx l own cc nL ret ini K mc ms D T ev b gr n0 o cells slots pc lv (zr b v :: .int i :: zr b a :: st) M := by
  intro p e R s m args below meth c H locs A ls hX hY hc hl9
  obtain ⟨h1, h2, h3⟩ := zk_1 hk hcd.2
  obtain ⟨v1, v2, v3⟩ := zk_1 hkv (by omega)
  have hK := hX.2.2.2.2.2.2.2.2.2.2.1
  rw [zr_pos h1, zr_pos v1]
  have hlt : i.toNatClampNeg < zl M a := Nat.not_le.mp fun q => hi (Or.inr q)
  have h0 : ¬ i < 0 := fun q => hi (Or.inl q)
  have hav : (zw T b M)[v - 1]? = some (b + v, .inr (ci, zfs b M v ci)) := by rw [zw_get v1 v2, zc_obj v3 hci.2]
  have haa : (zw T b M)[a - 1]? = some (b + a, .inl (T cd, (zl M a, .inr (.inr (.inr (.inr (fun i => zop b (zR M a i)))))))) := by rw [zw_get h1 h2, zc_ref h3 hcd.1]
  obtain ⟨r', hr', cellV, g1, g2, g3, -⟩ := hY.1 _ _ hav
  have hcls := (hK.1 ci _ hci.1).2
  obtain ⟨kA, comp, k1, k2, k3, -⟩ := (hK.2 t0 _ ht).2
  have hcomp : comp = D.1 ci := Option.some.inj (k3.symm.trans hcls.1)
  subst hcomp
  obtain ⟨kC, hkC, -⟩ := hcls.2
  refine W.aast hX.1 hX.2.1 (hY.1 _ _ haa) (fun q h => by cases h) (fun h => by cases h) k1 k2 rfl hkC ⟨h0, by show _ < (arrV _ _ _).slots.size; rw [arrV_size]; exact hlt⟩ g1 (fun q h => by rw [g3] at h; cases h) (by rw [g2]; exact hkC) (by rw [g2]; exact va_assign hcls) rfl rfl hdg fun H1 e z oq => ?_
  have hset := zs_aast (T := T) (b := b) (M := M) (a := a) (j := i.toNatClampNeg) (v := v) h1 h2 h3 hcd.1 v1
  have hP : va_P D vwCl (zw T b (zsR M a i.toNatClampNeg v)) H1 := by
    rw [← hset]
    refine hY.1.set hY.2.1 haa ?_ oq
    show H1[b + a]? = some (vp_cell _ _)
    rw [e]
    rw [vp_cell_q, vp_cell_q, arrV_store]
    congr 2
    funext q
    by_cases hq : q = i.toNatClampNeg
    · subst hq
      simp [updV, va_up, va_rf]
    · simp [updV, va_up, hq]
  have hD : va_D A (zw T b (zsR M a i.toNatClampNeg v)) := by rw [← hset]; exact hY.2.1.set haa
  exact k p _ R s m args below meth c H1 _ A ls hX ⟨hP, hD, hY.2.2.1.put z oq (hY.2.1.2 _ _ haa), fun hg => by rw [z]; exact hY.2.2.2.1 hg, hY.2.2.2.2⟩ hc hl9
end ZRows