theorem z_ret {x : Int32} {M : zM} {o : Int32 × zM} (h : some (x, M) = some o) : ((0, o.1, o.2) : Nat × Int32 × zM) = (0, x, M) := by cases h; rfl
theorem z_retx {t : Nat} {x : Int32} {M : zM} {o : Nat × Int32 × zM} (h : some (t, x, M) = some o) : o = (t, x, M) := by cases h; rfl
section ZRows
variable {tx : Bool} {l : Launch} {own : String} {cc : ByteArray} {nL : Nat} {ret : Option FieldType} {ini : Bool} {K mc ms : Nat} {D : va_G} {T : Nat → ClassId} {ev : zE} {b : Nat} {gr : Bool} {n0 : Nat} {o : Nat × Int32 × zM} {cells slots pc : Nat} {lv : List (Nat × Value)} {st : List Value} {M : zM}
theorem zV_pk (is : List Nat) {lv' : List (Nat × Value)} (hs : is.filterMap (fun k => lv[k]?) = lv') (k : zV tx l own cc nL ret ini K mc ms D T ev b gr n0 o cells slots pc lv' st M) : zV tx l own cc nL ret ini K mc ms D T ev b gr n0 o cells slots pc lv st M := by
  subst hs
  refine zV_lv _ (fun q hq => ?_) k
  obtain ⟨i, -, hi⟩ := List.mem_filterMap.mp hq
  exact List.mem_of_getElem? hi
theorem zV_topr {r : Nat} (k : ∀ y : Nat, y = r → zV tx l own cc nL ret ini K mc ms D T ev b gr n0 o cells slots pc lv (zr b y :: st) M) : zV tx l own cc nL ret ini K mc ms D T ev b gr n0 o cells slots pc lv (zr b r :: st) M := k r rfl
theorem zV_wd (c9 s9 : Nat) (h1 : cells ≤ c9) (h2 : slots ≤ s9) (k : zV tx l own cc nL ret ini K mc ms D T ev b gr n0 o c9 s9 pc lv st M) : zV tx l own cc nL ret ini K mc ms D T ev b gr n0 o cells slots pc lv st M :=
  fun p e R s m args below meth c H locs A ls hX hY hc hl => W.widen h1 h2 (k p e R s m args below meth c H locs A ls hX hY hc hl)
theorem zV_alen {a : Nat} (cd t0 : Nat) {ty : FieldType} (hdg : decode cc pc = .ok (.arraylength, 1)) (hk : zk M a = cd) (hcd : 100 ≤ cd ∧ cd < 255) (ht : (ztys T)[t0]? = some (T cd, ty)) (k : zV tx l own cc nL ret ini K mc ms D T ev b gr n0 o cells slots (pc + 1) lv (.int (Int32.ofNat (zl M a)) :: st) M) : zV tx l own cc nL ret ini K mc ms D T ev b gr n0 o cells slots pc lv (zr b a :: st) M := by
  intro p e R s m args below meth c H locs A ls hX hY hc hl
  obtain ⟨h1, h2, h3⟩ := zk_1 hk hcd.2
  rw [zr_pos h1]
  by_cases h9 : cd = 103
  · subst h9
    exact va_alen hX.1 hX.2.1 hX.2.2.2.2.2.2.2.2.2.2.1 hY.1 (a - 1) t0 (by rw [zw_get h1 h2, zc_lng h3]) ht rfl hdg (k p e R s m args below meth c H locs A ls hX hY hc hl)
  rcases Nat.lt_or_ge cd 110 with hq | hq
  · exact va_alen hX.1 hX.2.1 hX.2.2.2.2.2.2.2.2.2.2.1 hY.1 (a - 1) t0 (by rw [zw_get h1 h2, zc_int h3 hcd.1 hq h9]) ht rfl hdg (k p e R s m args below meth c H locs A ls hX hY hc hl)
  · exact va_alen hX.1 hX.2.1 hX.2.2.2.2.2.2.2.2.2.2.1 hY.1 (a - 1) t0 (by rw [zw_get h1 h2, zc_ref h3 hq]) ht rfl hdg (k p e R s m args below meth c H locs A ls hX hY hc hl)
end ZRows
def zc1 : List Value → Prop
  | [] => True
  | v :: vs => v.category = 1 ∧ zc1 vs
theorem zcs : ∀ {st : List Value}, zc1 st → st.length ≤ 8 → (st.map fun v => v.category).sum ≤ 8 := by
  have h : ∀ st : List Value, zc1 st → (st.map fun v => v.category).sum = st.length := by
    intro st
    induction st with
    | nil => intro _; rfl
    | cons v vs ih =>
      intro h
      rw [List.map_cons, List.sum_cons, List.length_cons, ih h.2, h.1]
      omega
  intro st h1 h2
  rw [h st h1]
  exact h2
def zarg : Nat → List Value → List (Nat × Value)
  | _, [] => []
  | i, v :: vs => (i, v) :: zarg (i + 1) vs
theorem zarg_eq : ∀ (as : List Value) (i : Nat), zc1 as → lv_args i as = zarg i as
  | [], _, _ => rfl
  | v :: vs, i, h => by
    unfold lv_args zarg
    rw [if_neg (by rw [h.1]; decide), zarg_eq vs (i + 1) h.2]
theorem zarg_cat : ∀ (as : List Value) (i : Nat), zc1 as → ∀ q ∈ zarg i as, q.2.category = 1
  | [], _, _, q, hq => by cases hq
  | v :: vs, i, h, q, hq => by
    rcases List.mem_cons.mp hq with e | e
    · rw [e]; exact h.1
    · exact zarg_cat vs (i + 1) h.2 q e
theorem zarg_len : ∀ (as : List Value), zc1 as → (lg_sl as).length = as.length
  | [], _ => rfl
  | v :: vs, h => by
    have ih := zarg_len vs h.2
    unfold lg_sl at ih ⊢
    rw [List.flatMap_cons, if_neg (by rw [h.1]; decide), List.length_append, ih]
    simp
    omega
theorem zEntry2 {l : Launch} {D : va_G} {T : Nat → ClassId} {b : Nat} {gr : Bool} {y : MethodName} {cc : ByteArray} {nL : Nat} {ret : Option FieldType} {K mc ms : Nat} {as : List Value} {M : zM} {o : Nat × Int32 × zM} {ev : zE} (hev : ev.1 = false) (ini : Bool) (hini : ini = true → y.name = "<init>") (hy : plainName y.cls = true) (hc : zc1 as) (hn : as.length ≤ nL)
    (h : zV false l y.cls cc nL ret ini K mc ms D T ev b gr M.2.2.2 o 0 0 0 (zarg 0 as) [] M) : zMet l D T b gr y cc nL ret K mc ms as M o :=
  zEntry ini hini hy (by rw [zarg_len as hc]; exact hn) (by rw [zarg_eq as 0 hc]; exact zarg_cat as 0 hc) hev (by rw [zarg_eq as 0 hc]; exact h)
theorem zkI {M N : zM} {a k x c : Nat} {v : Int32} (e : N = zsI M a k v) (h : zk M x = c) : zk N x = c := by subst e; exact h
theorem zkR {M N : zM} {a k x c v : Nat} (e : N = zsR M a k v) (h : zk M x = c) : zk N x = c := by subst e; exact h
theorem zkN {M N : zM} {d n x c : Nat} (e : N = zsN M d n) (h : zk M x = c) (hc : c < 255 := by decide) : zk N x = c := by
  subst e
  obtain ⟨h1, h2, h3⟩ := zk_1 h hc
  unfold zk zsN
  have e1 : x ≠ M.2.2.2 + 1 := by omega
  simp only [e1, if_false]
  rw [if_pos ⟨h1, by omega⟩]
  exact h3
theorem z_out_0_7 {x : Int32} (h0 : ¬ x = 0) (h1 : ¬ x = 1) (h2 : ¬ x = 2) (h3 : ¬ x = 3) (h4 : ¬ x = 4) (h5 : ¬ x = 5) (h6 : ¬ x = 6) (h7 : ¬ x = 7) : x.toInt < 0 ∨ 7 < x.toInt := by
  simp only [← Int32.toInt_inj] at h0 h1 h2 h3 h4 h5 h6 h7
  have e0 : (0 : Int32).toInt = 0 := by decide
  have e1 : (1 : Int32).toInt = 1 := by decide
  have e2 : (2 : Int32).toInt = 2 := by decide
  have e3 : (3 : Int32).toInt = 3 := by decide
  have e4 : (4 : Int32).toInt = 4 := by decide
  have e5 : (5 : Int32).toInt = 5 := by decide
  have e6 : (6 : Int32).toInt = 6 := by decide
  have e7 : (7 : Int32).toInt = 7 := by decide
  omega
theorem z_out_0_6 {x : Int32} (h0 : ¬ x = 0) (h1 : ¬ x = 1) (h2 : ¬ x = 2) (h3 : ¬ x = 3) (h4 : ¬ x = 4) (h5 : ¬ x = 5) (h6 : ¬ x = 6) : x.toInt < 0 ∨ 6 < x.toInt := by
  rcases Int.lt_or_le 6 x.toInt with h | h
  · exact Or.inr h
  · exact (z_out_0_7 h0 h1 h2 h3 h4 h5 h6 (fun e => by subst e; exact absurd h (by decide))).imp id (fun h9 => by omega)

theorem z_ret0 {x : Int32} {M : zM} {o : Int32 × zM} (h : some ((0, x, M) : Nat × Int32 × zM) = some (0, o)) : ((0, o.1, o.2) : Nat × Int32 × zM) = (0, x, M) := by cases h; rfl
theorem zkL {M N : zM} {a k x c : Nat} {v : Int64} (e : N = zsL M a k v) (h : zk M x = c) : zk N x = c := by subst e; exact h
