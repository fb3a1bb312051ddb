/-! THE CLASS'S PART of a region: its first 504 cells -/
def qM0 (c : Nat) : zM := (fun _ _ => 0, fun _ _ => 0, fun _ => (c, 0), 1)
def qC1 : zM := match fX7_init 1 (qM0 7) with
  | some q => q.2
  | none => qM0 7
def zcut (M : zM) : zM := (M.1, fun a k => if a ≤ 504 then M.2.1 a k else qC1.2.1 a k, fun a => if a ≤ 504 then M.2.2.1 a else qC1.2.2.1 a, 504)
def zput (N M : zM) : zM := (fun a k => if a ≤ 504 then N.1 a k else M.1 a k, fun a k => if a ≤ 504 then N.2.1 a k else M.2.1 a k, fun a => if a ≤ 504 then N.2.2.1 a else M.2.2.1 a, M.2.2.2)
theorem zcut_c {T : Nat → ClassId} {b : Nat} {M : zM} {a : Nat} (h : a ≤ 504) : zc T b (zcut M) a = zc T b M a := by
  refine zc_congr ?_ rfl ?_
  · show (if a ≤ 504 then _ else _) = _
    rw [if_pos h]
  · funext k
    show (if a ≤ 504 then _ else _) = _
    rw [if_pos h]
    rfl
theorem zput_l {T : Nat → ClassId} {b : Nat} {N M : zM} {a : Nat} (h : a ≤ 504) : zc T b (zput N M) a = zc T b N a := by
  refine zc_congr ?_ ?_ ?_
  · show (if a ≤ 504 then _ else _) = _
    rw [if_pos h]
  · funext k
    show (if a ≤ 504 then _ else _) = _
    rw [if_pos h]
    rfl
  · funext k
    show (if a ≤ 504 then _ else _) = _
    rw [if_pos h]
    rfl
theorem zput_r {T : Nat → ClassId} {b : Nat} {N M : zM} {a : Nat} (h : ¬ a ≤ 504) : zc T b (zput N M) a = zc T b M a := by
  refine zc_congr ?_ ?_ ?_
  · show (if a ≤ 504 then _ else _) = _
    rw [if_neg h]
  · funext k
    show (if a ≤ 504 then _ else _) = _
    rw [if_neg h]
    rfl
  · funext k
    show (if a ≤ 504 then _ else _) = _
    rw [if_neg h]
    rfl
def zbc {β : Type} (x : Option (Nat × Int32 × zM)) (M : zM) (f : Int32 → zM → Option β) : Option β := match x with
  | some (0, r, N) => f r (zput N M)
  | _ => none
def zbd {β : Type} (x : Option (Int32 × zM)) (M : zM) (f : Int32 → zM → Option β) : Option β := match x with
  | some (r, N) => f r (zput N M)
  | _ => none
theorem zbc_of {β : Type} {x : Option (Nat × Int32 × zM)} {M : zM} {f : Int32 → zM → Option β} {o : β} (h : zbc x M f = some o) : ∃ (r : Int32) (N : zM), x = some (0, r, N) ∧ f r (zput N M) = some o := by
  match x, h with
  | none, h => cases h
  | some (0, r, N), h => exact ⟨r, N, rfl, h⟩
  | some (t + 1, r, N), h => cases h
theorem zbd_of {β : Type} {x : Option (Int32 × zM)} {M : zM} {f : Int32 → zM → Option β} {o : β} (h : zbd x M f = some o) : ∃ (r : Int32) (N : zM), x = some (r, N) ∧ f r (zput N M) = some o := by
  match x, h with
  | none, h => cases h
  | some (r, N), h => exact ⟨r, N, rfl, h⟩
theorem zcut_pre {D : va_G} {T : Nat → ClassId} {b n0 : Nat} {gr tz : Bool} {as : List Value} {M : zM} {s : State} {H : Heap} {A : Nat → Prop} {locs : List Loc} (hn : 504 ≤ M.2.2.2) (hY : zY D T b gr tz n0 M s H A locs) (hK : va_K D vwCl (ztys T) s) : ∀ U : State, U.heap = H → s.WarmedH U.vm → zPc D T b false false as (zcut M) H.size as.toArray U := by
  intro U hU hW
  refine ⟨rfl, by rw [hU], fun h => (nomatch h), ?_, va_K.moved hW.alike hK, fun h => (nomatch h), fun h => (nomatch h), zN_warm hW hY.2.2.2.2.1.2.2⟩
  rw [hU]
  intro k q hk
  obtain ⟨g1, rfl⟩ := zw_at hk
  have g1 : k < 504 := g1
  rw [zcut_c (by omega)]
  exact hY.1 k _ (zw_get (T := T) (b := b) (M := M) (a := k + 1) (by omega) (by omega))
theorem zcut_sub {A : Nat → Prop} {T : Nat → ClassId} {b : Nat} {M : zM} {s : State} {H : Heap} {locs : List Loc} (hn : 504 ≤ M.2.2.2) (hD : va_D A (zw T b M)) (hS : va_S A s.heap H locs) (hA : ∀ q : Nat, s.heap.size ≤ q → A q) : ∀ q, zA b 504 H.size q → A q := by
  intro q h
  refine zA_sub hD hS hA rfl q ?_
  rcases h with ⟨h1, h2⟩ | h
  · exact Or.inl ⟨h1, by omega⟩
  · exact Or.inr h
theorem zcut_aft {D : va_G} {T : Nat → ClassId} {b n0 : Nat} {gr tz : Bool} {M N : zM} {s t : State} {H H1 : Heap} {A : Nat → Prop} {locs locs1 : List Loc} (hn : 504 ≤ M.2.2.2) (hY : zY D T b gr tz n0 M s H A locs) (ht : t.heap = H1) (hB : (va_P D vwCl (zw T b N) t.heap ∧ N.2.2.2 = 504) ∧ t.heap.size = H.size) (hk1 : ∀ q : Nat, q < H.size → ¬ zA b 504 H.size q → H1[q]? = H[q]?) (hS : va_S A s.heap H1 locs1) : zY D T b gr tz n0 (zput N M) s H1 A locs1 := by
  subst ht
  refine ⟨fun k q hk => ?_, zD_of fun r h1 h2 => hY.2.1.2 (r - 1) _ (zw_get (T := T) (b := b) (M := M) h1 h2), hS, fun hg => by rw [hB.2]; exact hY.2.2.2.1 hg, hY.2.2.2.2.1, fun hg => hY.2.2.2.2.2 hg⟩
  obtain ⟨g1, rfl⟩ := zw_at hk
  have g1 : k < M.2.2.2 := g1
  by_cases h9 : k + 1 ≤ 504
  · rw [zput_l h9]
    exact hB.1.1 k _ (zw_get (T := T) (b := b) (M := N) (a := k + 1) (by omega) (by omega))
  · rw [zput_r h9]
    have h8 := hY.1 k _ (zw_get (T := T) (b := b) (M := M) (a := k + 1) (by omega) (by omega))
    refine h8.kept (hk1 _ h8.lt (fun h7 => ?_))
    rcases h7 with ⟨_, h7⟩ | h7
    · have h7 : b + (k + 1) ≤ b + 504 := h7
      omega
    · have h7 : H.size ≤ b + (k + 1) := h7
      have h6 : b + (k + 1) < H.size := h8.lt
      omega
section ZRows
variable {tx : Bool} {l : Launch} {own : String} {cc : ByteArray} {nL : Nat} {ret : Option FieldType} {ini : Bool} {K mc ms : Nat} {D : va_G} {T : Nat → ClassId} {ev : zE} {b : Nat} {gr : Bool} {n0 : Nat} {o : Nat × Int32 × zM} {cells slots pc : Nat} {lv : List (Nat × Value)} {st : List Value} {M : zM}
theorem zV_cutVi {index n K' maxL' : Nat} {y : MethodName} {bytes' : ByteArray} {As rest : List Value} {r : Nat} {ty : FieldType} {x : Int32} {N : zM} (hM : zMet l D T b false y bytes' maxL' (some ty) K' 0 0 (zr b r :: As) (zcut M) (0, x, N)) (hm : zMd y bytes' maxL' (some ty) n) (hl : (Cond.methodLink own index y) ∈ gtb) {ci : Nat} (hi : (Cond.instanceMethod y) ∈ gtb) (hse : (Cond.selects (zcl ci).1 y y) ∈ gtb) (hci : vwCl[ci]? = some (zcl ci) ∧ ci < 100) (hk : zk M r = ci) (h504 : 504 ≤ M.2.2.2) (hst : st = As.reverse ++ zr b r :: rest) (hn : As.length = n) (hcat : (rest.map fun v => v.category).sum ≤ 8) (hK : K' + 1 ≤ K) (hmc : cells ≤ mc) (hms : slots ≤ ms) (hdg : decode cc pc = .ok (.invokevirtual index, 3)) (k : zV tx l own cc nL ret ini K mc ms D T ev b gr n0 o cells slots (pc + 3) lv (.int x :: rest) (zput N M)) : zV tx l own cc nL ret ini K mc ms D T ev b gr n0 o cells slots pc lv st M := by
  subst hst
  intro p e R s m args below meth c H locs A ls hX hY hc hl9
  have hsub := zcut_sub h504 hY.2.1 hY.2.2.1 hX.2.2.2.2.2.2.2.2.2.2.2
  obtain ⟨h1, h2, h3⟩ := zk_1 hk (by omega)
  rw [zr_pos h1] at hM ⊢
  refine va_calli (va_runV (As := As) (rest := rest) (n := n) ⟨hX.1, hX.2.1, hX.2.2.1, hX.2.2.2.1, hX.2.2.2.2.1⟩ (zMet_0 hM H.size) ⟨zCB hX.2.2.2.2.1 hX.2.2.2.2.2.2.2.2.2.1 hm hl hK, hX.2.2.2.2.1 _ hi, hX.2.2.2.2.1 _ hse⟩ ⟨zPc_blind, va_recv hX.2.2.2.2.2.2.2.2.2.2.1 hY.1 (q0 := r - 1) hci.1 (by rw [zw_get h1 h2, zc_obj h3 hci.2]), zcut_pre h504 hY hX.2.2.2.2.2.2.2.2.2.2.1⟩ rfl hn hl9.1 rfl (lv_room hcat) hdg ⟨by rw [hX.2.2.2.2.2.2.2.2.2.1]; exact hmc, by rw [hX.2.2.2.2.2.2.2.2.2.1]; exact hms⟩) hY.2.2.1 (fun q _ h => hsub q h) hsub (fun x9 u t H1 locs1 ht hvm hw hB hz1 hk1 hS => ?_)
  obtain ⟨hw, -⟩ := hw
  have hw : x9 = x := hw
  subst hw
  exact k p e R s m args below meth c H1 locs1 A ls hX (zcut_aft h504 hY ht hB hk1 hS) hc hl9
theorem zV_cutVv {index n K' maxL' : Nat} {y : MethodName} {bytes' : ByteArray} {As rest : List Value} {r : Nat} {x : Int32} {N : zM} (hM : zMet l D T b false y bytes' maxL' none K' 0 0 (zr b r :: As) (zcut M) (0, x, N)) (hm : zMd y bytes' maxL' none n) (hl : (Cond.methodLink own index y) ∈ gtb) {ci : Nat} (hi : (Cond.instanceMethod y) ∈ gtb) (hse : (Cond.selects (zcl ci).1 y y) ∈ gtb) (hci : vwCl[ci]? = some (zcl ci) ∧ ci < 100) (hk : zk M r = ci) (h504 : 504 ≤ M.2.2.2) (hst : st = As.reverse ++ zr b r :: rest) (hn : As.length = n) (hcat : (rest.map fun v => v.category).sum ≤ 8) (hK : K' + 1 ≤ K) (hmc : cells ≤ mc) (hms : slots ≤ ms) (hdg : decode cc pc = .ok (.invokevirtual index, 3)) (k : zV tx l own cc nL ret ini K mc ms D T ev b gr n0 o cells slots (pc + 3) lv rest (zput N M)) : zV tx l own cc nL ret ini K mc ms D T ev b gr n0 o cells slots pc lv st M := by
  subst hst
  intro p e R s m args below meth c H locs A ls hX hY hc hl9
  have hsub := zcut_sub h504 hY.2.1 hY.2.2.1 hX.2.2.2.2.2.2.2.2.2.2.2
  obtain ⟨h1, h2, h3⟩ := zk_1 hk (by omega)
  rw [zr_pos h1] at hM ⊢
  refine va_callv (va_runV (As := As) (rest := rest) (n := n) ⟨hX.1, hX.2.1, hX.2.2.1, hX.2.2.2.1, hX.2.2.2.2.1⟩ (zMet_0 hM H.size) ⟨zCB hX.2.2.2.2.1 hX.2.2.2.2.2.2.2.2.2.1 hm hl hK, hX.2.2.2.2.1 _ hi, hX.2.2.2.2.1 _ hse⟩ ⟨zPc_blind, va_recv hX.2.2.2.2.2.2.2.2.2.2.1 hY.1 (q0 := r - 1) hci.1 (by rw [zw_get h1 h2, zc_obj h3 hci.2]), zcut_pre h504 hY hX.2.2.2.2.2.2.2.2.2.2.1⟩ rfl hn hl9.1 rfl (lv_room hcat) hdg ⟨by rw [hX.2.2.2.2.2.2.2.2.2.1]; exact hmc, by rw [hX.2.2.2.2.2.2.2.2.2.1]; exact hms⟩) hY.2.2.1 (fun q _ h => hsub q h) hsub (fun u t H1 locs1 ht hvm hw hB hz1 hk1 hS => ?_)
  exact k p e R s m args below meth c H1 locs1 A ls hX (zcut_aft h504 hY ht hB hk1 hS) hc hl9
end ZRows
