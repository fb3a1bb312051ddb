theorem zr_narrow {b r : Nat} {ty : FieldType} (h : zrt ty = true) : narrow ty (zr b r) = zr b r := by
  unfold zr
  cases ty <;> simp [zrt] at h <;> split <;> rfl
theorem zr_fits {b r : Nat} {ty : FieldType} (h : zrt ty = true) : fits ty (zr b r) = true := by
  unfold zr
  cases ty <;> simp [zrt] at h <;> split <;> rfl
theorem zD_of {A : Nat → Prop} {T : Nat → ClassId} {b : Nat} {M : zM} (h : ∀ r, 1 ≤ r → r ≤ M.2.2.2 → A (b + r)) : va_D A (zw T b M) := by
  refine ⟨fun i j p q hi hj hpq => ?_, fun k q hk => ?_⟩
  · obtain ⟨_, rfl⟩ := zw_at hi
    obtain ⟨_, rfl⟩ := zw_at hj
    have : b + (i + 1) = b + (j + 1) := hpq
    omega
  · obtain ⟨h1, rfl⟩ := zw_at hk
    exact h _ (by omega) (by omega)
theorem zA_sub {A : Nat → Prop} {T : Nat → ClassId} {b n0 : Nat} {M : zM} {s : State} {H : Heap} {locs : List Loc} (hD : va_D A (zw T b M)) (hS : va_S A s.heap H locs) (hA : ∀ q : Nat, s.heap.size ≤ q → A q) (hn : n0 = M.2.2.2) : ∀ q, zA b n0 H.size q → A q := by
  subst hn
  intro q h
  rcases h with ⟨h1, h2⟩ | h
  · have := hD.2 (q - b - 1) _ (zw_get (T := T) (b := b) (M := M) (a := q - b) (by omega) (by omega))
    have e : b + (q - b) = q := by omega
    rw [← e]
    exact this
  · exact hA q (Nat.le_trans hS.1 h)
/-- a field is stored: as the kit's rows, with the heap's size -/
theorem zW_put {p : Program} {l : Launch} {e : Env} {R : Room} {s : State} {m : MethodId} {args : Array Value} {below : List Frame} {meth : Method} {c : Code} {H : Heap} {locs : List Loc} {cells slots : Nat} {Q : State → Prop} {cc : ByteArray} {pc : Nat} {ls : Array Slot} {rest : List Value} {D : va_G} {A : Nat → Prop} {a : Nat} {tys : List (ClassId × FieldType)} {ws : va_W} {H0 : Heap} {own : String} {index ci k : Nat}
    (hexec : p.tables.exec = Jvm.exec) (hb : c.code = cc) (hF : zFl own index ci k) (hts : ∀ w ∈ gtb, w.before args s = true) (hnw : zN s) (hown : s.vm.findClass own = some m.cls) (hK : va_K D vwCl tys s) (hP : va_P D vwCl ws H) (hD : va_D A ws) (hS0 : va_S A H0 H locs) (q0 : Nat) {fs : List Value} (he : ws[q0]? = some (a, .inr (ci, fs)))
    (hfin : ((zcl ci).2.1 k).2.2.2 = false ∨ (((zcl ci).2.1 k).2.2.2 = true ∧ meth.name = "<init>" ∧ ((zcl ci).2.1 k).1 = own ∧ (Cond.fieldLink own index ((zcl ci).2.1 k).1 ((zcl ci).2.1 k).2.1 ((zcl ci).2.1 k).2.2.1) ∈ gtb)) {v : Value} (hn : narrow (zty ci k) v = v) (hfit : fits (zty ci k) v = true) (hl : k < fs.length)
    (hdg : decode cc pc = .ok (.putfield index, 3)) (kk : ∀ (H1 : Heap) (locs1 : List Loc), va_P D vwCl (ws.set q0 (a, .inr (ci, fs.set k v))) H1 → va_D A (ws.set q0 (a, .inr (ci, fs.set k v))) → va_S A H0 H1 locs1 → H1.size = H.size → W p l e R s m args below meth c H1 locs1 cells slots Q (F0 m (pc + 3) ls rest)) : W p l e R s m args below meth c H locs cells slots Q (F0 m pc ls (v :: .ref a :: rest)) := by
  obtain ⟨hc, -, hk, hin, hty, hnm, hlk⟩ := hF
  have hap := va_apart (own := own) hts hin (zty ci) hty hnm hK hc
  obtain ⟨r, h1, cell, q1, q2, q3, q4⟩ := hP q0 _ he
  have hr : r = zcl ci := Option.some.inj (h1.symm.trans hc)
  subst hr
  obtain ⟨hS, hfc, kC, hkC, hkind⟩ := hK.1 ci _ hc
  obtain ⟨cf, kf, fi, f, hi, hsl⟩ := hS k hk
  have hlay := hts _ (hin _ (u_in_lay hk))
  have hst := (u_facts hfc hkC (u_lays hts hin hk) hi).1
  have hend : ∀ H' : Heap, H'[a]? = some (cell.setSlot f.slot v) → H'.size = H.size → (∀ q, q ≠ a → H'[q]? = H[q]?) → W p l e R s m args below meth c H' (locs ++ [⟨a, f.slot⟩]) cells slots Q (F0 m (pc + 3) ls rest) := by
    intro H' e1 e2 e3
    rw [hsl] at e1 ⊢
    exact kk H' _ (hP.set hD he ⟨_, hc, t_OB.to (V := updV (vp_V fs) k v) ⟨_, e1, q2, q3, t_set q4 hap hk v⟩ (fun j _ => vp_updV_set hl v j)⟩ e3) (hD.set he) (hS0.put e2 e3 (hD.2 q0 _ he)) e2
  have hlt : f.slot < cell.slots.size := by rw [hsl]; exact k2_hasslot (q4 k hk)
  rcases hfin with hfin | ⟨hfin, hin2, hdecl, hlk2⟩
  · unfold u_lay at hlay
    rw [if_neg (by rw [hfin]; decide)] at hlay
    have h6 := u_store hfc hkC hkind hlay hi (hty k hk) hn hfit
    rcases hlk with hlk | ⟨host, hlk⟩
    · exact W.putK hexec hb (f := f) ⟨hown, hts _ hlk, ⟨_, _, _, hi⟩, hst⟩ (by rw [q2]; exact h6) q1 q3 hlt rfl rfl hdg hend
    · exact va_WputK hexec hb (f := f) hown (va_Nw.use rfl (hnw _ hlk)) hi hst (by rw [q2]; exact h6) q1 q3 hlt rfl rfl hdg hend
  · unfold u_lay at hlay
    rw [if_pos hfin] at hlay
    have hcf : m.cls = cf := by
      obtain ⟨_, _, c', _, _, _, -, -, hf', -, -, -, hown2, -⟩ := Cond.laysFinal_spec hlay
      have e1 : c' = cf := by have := hi.symm.trans hf'; simp at this; exact this.1.symm
      rw [hdecl] at hown2
      rw [← e1]; exact Option.some.inj (hown.symm.trans hown2)
    have h6 := u_fits hfc hkC hkind (Or.inr hlay) hi (hty k hk) hn hfit
    exact W.putFinK hexec hb hown (hts _ hlk2) hi hst hcf hin2 (by rw [q2]; exact h6) q1 q3 hlt rfl rfl hdg hend
theorem zset_f {T : Nat → ClassId} {b : Nat} {M M' : zM} {a ci k : Nat} {v : Value} (h1 : 1 ≤ a) (h2 : a ≤ M.2.2.2) (h3 : (M.2.2.1 a).1 = ci) (hc : ci < 100) (hk : k < (zcl ci).2.2) (hn : M'.2.2 = M.2.2) (ho : ∀ x, x ≠ a → zc T b M' x = zc T b M x) (ho2 : ∀ x, x ≠ k → zv b M' a ci x = zv b M a ci x) (hv : v = zv b M' a ci k) : (zw T b M).set (a - 1) (b + a, .inr (ci, (zfs b M a ci).set k v)) = zw T b M' := by
  subst hv
  rw [zfs_set hk ho2, ← zc_obj (T := T) (M := M') (by rw [hn]; exact h3) hc]
  exact zw_set h1 h2 (by rw [hn]) ho
section ZRows
variable {tx : Bool} {l : Launch} {own : String} {cc : ByteArray} {nL : Nat} {ret : Option FieldType} {ini : Bool} {K mc ms : Nat} {D : va_G} {T : Nat → ClassId} {ev : zE} {b : Nat} {gr : Bool} {n0 : Nat} {o : Nat × Int32 × zM} {cells slots pc : Nat} {lv : List (Nat × Value)} {st : List Value} {M : zM}
theorem zV_iast {a : Nat} {i x : Int32} (hdg : decode cc pc = .ok (.iastore, 1)) (hk : zk M a = 100) (hi : vp_in i (zl M a)) (k : zV tx l own cc nL ret ini K mc ms D T ev b gr n0 o cells slots (pc + 1) lv st (zsI M a i.toNatClampNeg x)) : zV tx l own cc nL ret ini K mc ms D T ev b gr n0 o cells slots pc lv (.int x :: .int i :: zr b a :: st) M := by
  intro p e R s m args below meth c H locs A ls hX hY hc hl
  obtain ⟨h1, h2, h3⟩ := zk_1 hk (by decide)
  have hset := zset_iast (T := T) (b := b) (M := M) (a := a) (j := i.toNatClampNeg) (x := x) h1 h2 h3
  have haa : (zw T b M)[a - 1]? = some (b + a, .inl (T 100, (zl M a, .inl (zI M a)))) := by rw [zw_get h1 h2, zc_int h3 (by decide) (by decide)]
  rw [zr_pos h1]
  refine W.iast hX.1 hX.2.1 (hY.1 _ _ haa) ((hX.2.2.2.2.2.2.2.2.2.2.1.2 0 _ rfl).1 (zl M a) (fun j => .int (zI M a j))) (fun q => by cases q) (by show ¬ (i < 0 ∨ (arrV _ _ _).slots.size ≤ _); rw [arrV_size]; exact hi) rfl rfl hdg fun H1 e z oq => ?_
  have hP : va_P D vwCl (zw T b (zsI M a i.toNatClampNeg x)) H1 := by
    rw [← hset]
    refine hY.1.set hY.2.1 haa ?_ oq
    show H1[b + a]? = some (vp_cell _ _)
    rw [e]
    rw [vp_cell_i, vp_cell_i, arrV_store]
    congr 2
    funext q
    by_cases hq : q = i.toNatClampNeg
    · subst hq
      simp [updV, upd]
      try exact congrArg Value.int hx2
    · simp [updV, upd, hq]
  have hD : va_D A (zw T b (zsI M a i.toNatClampNeg x)) := by rw [← hset]; exact hY.2.1.set haa
  exact k p _ R s m args below meth c H1 _ A ls hX ⟨hP, hD, hY.2.2.1.put z oq (hY.2.1.2 _ _ haa), fun hg => by rw [z]; exact hY.2.2.2.1 hg, hY.2.2.2.2⟩ hc hl
theorem zV_zast {a : Nat} {i x : Int32} (hdg : decode cc pc = .ok (.bastore, 1)) (hk : zk M a = 101) (hi : vp_in i (zl M a)) (hx : x = 0 ∨ x = 1) (k : zV tx l own cc nL ret ini K mc ms D T ev b gr n0 o cells slots (pc + 1) lv st (zsI M a i.toNatClampNeg x)) : zV tx l own cc nL ret ini K mc ms D T ev b gr n0 o cells slots pc lv (.int x :: .int i :: zr b a :: st) M := by
  intro p e R s m args below meth c H locs A ls hX hY hc hl
  obtain ⟨h1, h2, h3⟩ := zk_1 hk (by decide)
  have hset := zset_zast (T := T) (b := b) (M := M) (a := a) (j := i.toNatClampNeg) (x := x) h1 h2 h3
  have haa : (zw T b M)[a - 1]? = some (b + a, .inl (T 101, (zl M a, .inl (zI M a)))) := by rw [zw_get h1 h2, zc_int h3 (by decide) (by decide)]
  have hx2 : vp_nar .boolean x = x := by rcases hx with h | h <;> subst h <;> rfl
  rw [zr_pos h1]
  refine W.zast hX.1 hX.2.1 (hY.1 _ _ haa) ((hX.2.2.2.2.2.2.2.2.2.2.1.2 1 _ rfl).1 (zl M a) (fun j => .int (zI M a j))) (fun q => by cases q) (by show ¬ (i < 0 ∨ (arrV _ _ _).slots.size ≤ _); rw [arrV_size]; exact hi) rfl rfl hdg fun H1 e z oq => ?_
  have hP : va_P D vwCl (zw T b (zsI M a i.toNatClampNeg x)) H1 := by
    rw [← hset]
    refine hY.1.set hY.2.1 haa ?_ oq
    show H1[b + a]? = some (vp_cell _ _)
    rw [e]
    rw [vp_cell_i, vp_cell_i, arrV_store]
    congr 2
    funext q
    by_cases hq : q = i.toNatClampNeg
    · subst hq
      simp [updV, upd]
      try exact congrArg Value.int hx2
    · simp [updV, upd, hq]
  have hD : va_D A (zw T b (zsI M a i.toNatClampNeg x)) := by rw [← hset]; exact hY.2.1.set haa
  exact k p _ R s m args below meth c H1 _ A ls hX ⟨hP, hD, hY.2.2.1.put z oq (hY.2.1.2 _ _ haa), fun hg => by rw [z]; exact hY.2.2.2.1 hg, hY.2.2.2.2⟩ hc hl
theorem zV_cast {a : Nat} {i x : Int32} (hdg : decode cc pc = .ok (.castore, 1)) (hk : zk M a = 102) (hi : vp_in i (zl M a)) (hx : x.toUInt32.toUInt16.toUInt32.toInt32 = x) (k : zV tx l own cc nL ret ini K mc ms D T ev b gr n0 o cells slots (pc + 1) lv st (zsI M a i.toNatClampNeg x)) : zV tx l own cc nL ret ini K mc ms D T ev b gr n0 o cells slots pc lv (.int x :: .int i :: zr b a :: st) M := by
  intro p e R s m args below meth c H locs A ls hX hY hc hl
  obtain ⟨h1, h2, h3⟩ := zk_1 hk (by decide)
  have hset := zset_cast (T := T) (b := b) (M := M) (a := a) (j := i.toNatClampNeg) (x := x) h1 h2 h3
  have haa : (zw T b M)[a - 1]? = some (b + a, .inl (T 102, (zl M a, .inl (zI M a)))) := by rw [zw_get h1 h2, zc_int h3 (by decide) (by decide)]
  have hx2 : vp_nar .char x = x := hx
  rw [zr_pos h1]
  refine W.cast hX.1 hX.2.1 (hY.1 _ _ haa) ((hX.2.2.2.2.2.2.2.2.2.2.1.2 2 _ rfl).1 (zl M a) (fun j => .int (zI M a j))) (fun q => by cases q) (by show ¬ (i < 0 ∨ (arrV _ _ _).slots.size ≤ _); rw [arrV_size]; exact hi) rfl rfl hdg fun H1 e z oq => ?_
  have hP : va_P D vwCl (zw T b (zsI M a i.toNatClampNeg x)) H1 := by
    rw [← hset]
    refine hY.1.set hY.2.1 haa ?_ oq
    show H1[b + a]? = some (vp_cell _ _)
    rw [e]
    rw [vp_cell_i, vp_cell_i, arrV_store]
    congr 2
    funext q
    by_cases hq : q = i.toNatClampNeg
    · subst hq
      simp [updV, upd]
      try exact congrArg Value.int hx2
    · simp [updV, upd, hq]
  have hD : va_D A (zw T b (zsI M a i.toNatClampNeg x)) := by rw [← hset]; exact hY.2.1.set haa
  exact k p _ R s m args below meth c H1 _ A ls hX ⟨hP, hD, hY.2.2.1.put z oq (hY.2.1.2 _ _ haa), fun hg => by rw [z]; exact hY.2.2.2.1 hg, hY.2.2.2.2⟩ hc hl
theorem zV_aald {a : Nat} {i : Int32} (cd t0 : Nat) {C : String} (hdg : decode cc pc = .ok (.aaload, 1)) (hk : zk M a = cd) (hcd : 110 ≤ cd ∧ cd < 255) (ht : (ztys T)[t0]? = some (T cd, .object C)) (hi : vp_in i (zl M a)) (k : zV tx l own cc nL ret ini K mc ms D T ev b gr n0 o cells slots (pc + 1) lv (zr b (zR M a i.toNatClampNeg) :: st) M) : zV tx l own cc nL ret ini K mc ms D T ev b gr n0 o cells slots pc lv (.int i :: zr b a :: st) M := by
  intro p e R s m args below meth c H locs A ls hX hY hc hl
  obtain ⟨h1, h2, h3⟩ := zk_1 hk hcd.2
  rw [zr_pos h1]
  have k2 := k p e R s m args below meth c H locs A ls hX hY hc hl
  rw [← zop_rf] at k2
  exact va_aldq hX.1 hX.2.1 hX.2.2.2.2.2.2.2.2.2.2.1 hY.1 (a - 1) t0 (by rw [zw_get h1 h2, zc_ref h3 hcd.1]) ht hi hdg k2
theorem zV_getI {a index ci q : Nat} (hF : zFl own index ci q) (hdg : decode cc pc = .ok (.getfield index, 3)) (hz : zrt (zty ci q) = false) (hk : zk M a = ci) (k : zV tx l own cc nL ret ini K mc ms D T ev b gr n0 o cells slots (pc + 3) lv (.int (zI M a q) :: st) M) : zV tx l own cc nL ret ini K mc ms D T ev b gr n0 o cells slots pc lv (zr b a :: st) M := by
  intro p e R s m args below meth c H locs A ls hX hY hc hl
  obtain ⟨hF1, hF2, hF3, hF4, hF5, hF6, hF7⟩ := hF
  obtain ⟨h1, h2, h3⟩ := zk_1 hk (by omega)
  rw [zr_pos h1]
  have hv : (zfs b M a ci)[q]? = some (.int (zI M a q)) := by rw [zfs_get hF3]; unfold zv; rw [hz]; rfl
  rcases hF7 with hF7 | ⟨host, hF7⟩
  · exact va_get hX.1 hX.2.1 hX.2.2.2.2.1 hF4 hX.2.2.2.1 hX.2.2.2.2.2.2.2.2.2.2.1 hY.1 (a - 1) (by rw [zw_get h1 h2, zc_obj h3 hF2]) hF1 q hF3 (hX.2.2.2.2.1 _ hF7) (fun _ h9 => h9) hv hdg (k p e R s m args below meth c H locs A ls hX hY hc hl)
  · exact va_getN hX.1 hX.2.1 hX.2.2.2.2.1 hF4 hX.2.2.2.1 hX.2.2.2.2.2.2.2.2.2.2.1 hY.1 (a - 1) (by rw [zw_get h1 h2, zc_obj h3 hF2]) hF1 q hF3 (va_Nw.use rfl (hY.2.2.2.2.1.2.2 _ hF7)) (fun _ h9 => h9) hv hdg (k p e R s m args below meth c H locs A ls hX hY hc hl)
theorem zV_getR {a index ci q : Nat} (hF : zFl own index ci q) (hdg : decode cc pc = .ok (.getfield index, 3)) (hz : zrt (zty ci q) = true) (hk : zk M a = ci) (k : zV tx l own cc nL ret ini K mc ms D T ev b gr n0 o cells slots (pc + 3) lv (zr b (zR M a q) :: st) M) : zV tx l own cc nL ret ini K mc ms D T ev b gr n0 o cells slots pc lv (zr b a :: st) M := by
  intro p e R s m args below meth c H locs A ls hX hY hc hl
  obtain ⟨hF1, hF2, hF3, hF4, hF5, hF6, hF7⟩ := hF
  obtain ⟨h1, h2, h3⟩ := zk_1 hk (by omega)
  rw [zr_pos h1]
  have hv : (zfs b M a ci)[q]? = some (zr b (zR M a q)) := by rw [zfs_get hF3]; unfold zv; rw [hz]; rfl
  rcases hF7 with hF7 | ⟨host, hF7⟩
  · exact va_get hX.1 hX.2.1 hX.2.2.2.2.1 hF4 hX.2.2.2.1 hX.2.2.2.2.2.2.2.2.2.2.1 hY.1 (a - 1) (by rw [zw_get h1 h2, zc_obj h3 hF2]) hF1 q hF3 (hX.2.2.2.2.1 _ hF7) (fun _ h9 => h9) hv hdg (k p e R s m args below meth c H locs A ls hX hY hc hl)
  · exact va_getN hX.1 hX.2.1 hX.2.2.2.2.1 hF4 hX.2.2.2.1 hX.2.2.2.2.2.2.2.2.2.2.1 hY.1 (a - 1) (by rw [zw_get h1 h2, zc_obj h3 hF2]) hF1 q hF3 (va_Nw.use rfl (hY.2.2.2.2.1.2.2 _ hF7)) (fun _ h9 => h9) hv hdg (k p e R s m args below meth c H locs A ls hX hY hc hl)
theorem zV_putI {a index ci q : Nat} {x : Int32} (hF : zFl own index ci q) (hdg : decode cc pc = .ok (.putfield index, 3)) (hfin : ((zcl ci).2.1 q).2.2.2 = false) (hty : zty ci q = .int) (hk : zk M a = ci) (k : zV tx l own cc nL ret ini K mc ms D T ev b gr n0 o cells slots (pc + 3) lv st (zsI M a q x)) : zV tx l own cc nL ret ini K mc ms D T ev b gr n0 o cells slots pc lv (.int x :: zr b a :: st) M := by
  intro p e R s m args below meth c H locs A ls hX hY hc hl
  obtain ⟨h1, h2, h3⟩ := zk_1 hk (by have := hF.2.1; omega)
  rw [zr_pos h1]
  refine zW_put hX.1 hX.2.1 hF hX.2.2.2.2.1 hY.2.2.2.2.1.2.2 hX.2.2.2.1 hX.2.2.2.2.2.2.2.2.2.2.1 hY.1 hY.2.1 hY.2.2.1 (a - 1) (by rw [zw_get h1 h2, zc_obj h3 hF.2.1]) (Or.inl hfin) (by rw [hty]; rfl) (by rw [hty]; rfl) (by rw [zfs_len]; exact hF.2.2.1) hdg (fun H1 locs1 hP hD hS hsz => ?_)
  rw [zset_f (M' := zsI M a q x) h1 h2 h3 hF.2.1 hF.2.2.1 rfl (fun y hy => zsI_off hy) (fun y hy => by unfold zv; simp [zI, zR, zsI, zsR, hy]) (by unfold zv; rw [hty]; simp [zrt, zI, zsI])] at hP hD
  exact k p e R s m args below meth c H1 locs1 A ls hX ⟨hP, hD, hS, fun hg => by rw [hsz]; exact hY.2.2.2.1 hg, hY.2.2.2.2⟩ hc hl
theorem zV_putZ {a index ci q : Nat} {x : Int32} (hF : zFl own index ci q) (hdg : decode cc pc = .ok (.putfield index, 3)) (hfin : ((zcl ci).2.1 q).2.2.2 = false) (hty : zty ci q = .boolean) (hx : x = 0 ∨ x = 1) (hk : zk M a = ci) (k : zV tx l own cc nL ret ini K mc ms D T ev b gr n0 o cells slots (pc + 3) lv st (zsI M a q x)) : zV tx l own cc nL ret ini K mc ms D T ev b gr n0 o cells slots pc lv (.int x :: zr b a :: st) M := by
  intro p e R s m args below meth c H locs A ls hX hY hc hl
  obtain ⟨h1, h2, h3⟩ := zk_1 hk (by have := hF.2.1; omega)
  rw [zr_pos h1]
  refine zW_put hX.1 hX.2.1 hF hX.2.2.2.2.1 hY.2.2.2.2.1.2.2 hX.2.2.2.1 hX.2.2.2.2.2.2.2.2.2.2.1 hY.1 hY.2.1 hY.2.2.1 (a - 1) (by rw [zw_get h1 h2, zc_obj h3 hF.2.1]) (Or.inl hfin) (by rw [hty]; rcases hx with h | h <;> subst h <;> rfl) (by rw [hty]; rcases hx with h | h <;> subst h <;> rfl) (by rw [zfs_len]; exact hF.2.2.1) hdg (fun H1 locs1 hP hD hS hsz => ?_)
  rw [zset_f (M' := zsI M a q x) h1 h2 h3 hF.2.1 hF.2.2.1 rfl (fun y hy => zsI_off hy) (fun y hy => by unfold zv; simp [zI, zR, zsI, zsR, hy]) (by unfold zv; rw [hty]; simp [zrt, zI, zsI])] at hP hD
  exact k p e R s m args below meth c H1 locs1 A ls hX ⟨hP, hD, hS, fun hg => by rw [hsz]; exact hY.2.2.2.1 hg, hY.2.2.2.2⟩ hc hl
theorem zV_putR {a index ci q : Nat} {r : Nat} (hF : zFl own index ci q) (hdg : decode cc pc = .ok (.putfield index, 3)) (hfin : ((zcl ci).2.1 q).2.2.2 = false) (hty : zrt (zty ci q) = true) (hk : zk M a = ci) (k : zV tx l own cc nL ret ini K mc ms D T ev b gr n0 o cells slots (pc + 3) lv st (zsR M a q r)) : zV tx l own cc nL ret ini K mc ms D T ev b gr n0 o cells slots pc lv (zr b r :: zr b a :: st) M := by
  intro p e R s m args below meth c H locs A ls hX hY hc hl
  obtain ⟨h1, h2, h3⟩ := zk_1 hk (by have := hF.2.1; omega)
  rw [zr_pos h1]
  refine zW_put hX.1 hX.2.1 hF hX.2.2.2.2.1 hY.2.2.2.2.1.2.2 hX.2.2.2.1 hX.2.2.2.2.2.2.2.2.2.2.1 hY.1 hY.2.1 hY.2.2.1 (a - 1) (by rw [zw_get h1 h2, zc_obj h3 hF.2.1]) (Or.inl hfin) (zr_narrow hty) (zr_fits hty) (by rw [zfs_len]; exact hF.2.2.1) hdg (fun H1 locs1 hP hD hS hsz => ?_)
  rw [zset_f (M' := zsR M a q r) h1 h2 h3 hF.2.1 hF.2.2.1 rfl (fun y hy => zsR_off hy) (fun y hy => by unfold zv; simp [zI, zR, zsI, zsR, hy]) (by unfold zv; rw [if_pos hty]; simp [zR, zsR])] at hP hD
  exact k p e R s m args below meth c H1 locs1 A ls hX ⟨hP, hD, hS, fun hg => by rw [hsz]; exact hY.2.2.2.1 hg, hY.2.2.2.2⟩ hc hl
theorem zV_putRF {a index ci q : Nat} {r : Nat} (hF : zFl own index ci q) (hdg : decode cc pc = .ok (.putfield index, 3)) (hini : ini = true) (hfin : ((zcl ci).2.1 q).2.2.2 = true) (hdecl : ((zcl ci).2.1 q).1 = own) (hlk : (Cond.fieldLink own index ((zcl ci).2.1 q).1 ((zcl ci).2.1 q).2.1 ((zcl ci).2.1 q).2.2.1) ∈ gtb) (hty : zrt (zty ci q) = true) (hk : zk M a = ci) (k : zV tx l own cc nL ret ini K mc ms D T ev b gr n0 o cells slots (pc + 3) lv st (zsR M a q r)) : zV tx l own cc nL ret ini K mc ms D T ev b gr n0 o cells slots pc lv (zr b r :: zr b a :: st) M := by
  intro p e R s m args below meth c H locs A ls hX hY hc hl
  obtain ⟨h1, h2, h3⟩ := zk_1 hk (by have := hF.2.1; omega)
  rw [zr_pos h1]
  refine zW_put hX.1 hX.2.1 hF hX.2.2.2.2.1 hY.2.2.2.2.1.2.2 hX.2.2.2.1 hX.2.2.2.2.2.2.2.2.2.2.1 hY.1 hY.2.1 hY.2.2.1 (a - 1) (by rw [zw_get h1 h2, zc_obj h3 hF.2.1]) (Or.inr ⟨hfin, hX.2.2.2.2.2.2.2.1 hini, hdecl, hlk⟩) (zr_narrow hty) (zr_fits hty) (by rw [zfs_len]; exact hF.2.2.1) hdg (fun H1 locs1 hP hD hS hsz => ?_)
  rw [zset_f (M' := zsR M a q r) h1 h2 h3 hF.2.1 hF.2.2.1 rfl (fun y hy => zsR_off hy) (fun y hy => by unfold zv; simp [zI, zR, zsI, zsR, hy]) (by unfold zv; rw [if_pos hty]; simp [zR, zsR])] at hP hD
  exact k p e R s m args below meth c H1 locs1 A ls hX ⟨hP, hD, hS, fun hg => by rw [hsz]; exact hY.2.2.2.1 hg, hY.2.2.2.2⟩ hc hl
theorem zV_iret {x : Int32} (hret : ret = some .int) (hdg : decode cc pc = .ok (.ireturn, 1)) (hcm : cells ≤ mc) (hsm : slots ≤ ms) (ho : o = (0, x, M)) : zV tx l own cc nL ret ini K mc ms D T ev b gr n0 o cells slots pc lv [.int x] M := by
  subst hret
  subst ho
  intro p e R s m args below meth c H locs A ls hX hY hc hl
  have hq : ∀ t : State, t.heap = H → s.WarmedH t.vm → zQ (some .int) D T b gr n0 (0, x, M) A args s (.returned (some (.int x))) t := fun t ht hW => ⟨⟨x, (), rfl, ⟨rfl, rfl⟩, by rw [ht]; exact hY.1, va_K.moved hW.alike hX.2.2.2.2.2.2.2.2.2.2.1, fun hg => by rw [ht]; exact hY.2.2.2.1 hg, hY.2.2.2.2.2⟩, hY.2.2.1.F ht⟩
  refine W.widen hcm hsm ?_
  cases tx
  · exact W.iret hX.1 hX.2.1 hX.2.2.2.2.2.2.1 hq hY.2.2.1.2.2 hdg hX.2.2.2.2.2.1
  · exact vx_ret (W.iret hX.1 hX.2.1 hX.2.2.2.2.2.2.1 hq hY.2.2.1.2.2 hdg hX.2.2.2.2.2.1)
theorem zV_zret {x : Int32} (hret : ret = some .boolean) (hdg : decode cc pc = .ok (.ireturn, 1)) (hcm : cells ≤ mc) (hsm : slots ≤ ms) (hx : x = 0 ∨ x = 1) (ho : o = (0, x, M)) : zV tx l own cc nL ret ini K mc ms D T ev b gr n0 o cells slots pc lv [.int x] M := by
  subst hret
  subst ho
  intro p e R s m args below meth c H locs A ls hX hY hc hl
  have hq : ∀ t : State, t.heap = H → s.WarmedH t.vm → zQ (some .boolean) D T b gr n0 (0, x, M) A args s (.returned (some (.int x))) t := fun t ht hW => ⟨⟨x, (), rfl, ⟨rfl, rfl⟩, by rw [ht]; exact hY.1, va_K.moved hW.alike hX.2.2.2.2.2.2.2.2.2.2.1, fun hg => by rw [ht]; exact hY.2.2.2.1 hg, hY.2.2.2.2.2⟩, hY.2.2.1.F ht⟩
  refine W.widen hcm hsm ?_
  cases tx
  · exact W.zret hX.1 hX.2.1 hX.2.2.2.2.2.2.1 (by rcases hx with h | h <;> subst h <;> rfl) hq hY.2.2.1.2.2 hdg hX.2.2.2.2.2.1
  · exact vx_ret (W.zret hX.1 hX.2.1 hX.2.2.2.2.2.2.1 (by rcases hx with h | h <;> subst h <;> rfl) hq hY.2.2.1.2.2 hdg hX.2.2.2.2.2.1)
theorem zV_cret {x : Int32} (hret : ret = some .char) (hdg : decode cc pc = .ok (.ireturn, 1)) (hcm : cells ≤ mc) (hsm : slots ≤ ms) (hx : x.toUInt32.toUInt16.toUInt32.toInt32 = x) (ho : o = (0, x, M)) : zV tx l own cc nL ret ini K mc ms D T ev b gr n0 o cells slots pc lv [.int x] M := by
  subst hret
  subst ho
  intro p e R s m args below meth c H locs A ls hX hY hc hl
  have hq : ∀ t : State, t.heap = H → s.WarmedH t.vm → zQ (some .char) D T b gr n0 (0, x, M) A args s (.returned (some (.int x))) t := fun t ht hW => ⟨⟨x, (), rfl, ⟨rfl, rfl⟩, by rw [ht]; exact hY.1, va_K.moved hW.alike hX.2.2.2.2.2.2.2.2.2.2.1, fun hg => by rw [ht]; exact hY.2.2.2.1 hg, hY.2.2.2.2.2⟩, hY.2.2.1.F ht⟩
  refine W.widen hcm hsm ?_
  cases tx
  · exact W.zret hX.1 hX.2.1 hX.2.2.2.2.2.2.1 (congrArg Value.int hx) hq hY.2.2.1.2.2 hdg hX.2.2.2.2.2.1
  · exact vx_ret (W.zret hX.1 hX.2.1 hX.2.2.2.2.2.2.1 (congrArg Value.int hx) hq hY.2.2.1.2.2 hdg hX.2.2.2.2.2.1)
theorem zV_vret {x : Int32} (hret : ret = none) (hdg : decode cc pc = .ok (.return_, 1)) (hcm : cells ≤ mc) (hsm : slots ≤ ms) (ho : o = (0, x, M)) : zV tx l own cc nL ret ini K mc ms D T ev b gr n0 o cells slots pc lv [] M := by
  subst hret
  subst ho
  intro p e R s m args below meth c H locs A ls hX hY hc hl
  have hq : ∀ t : State, t.heap = H → s.WarmedH t.vm → zQ none D T b gr n0 (0, x, M) A args s (.returned none) t := fun t ht hW => ⟨⟨(), rfl, rfl, by rw [ht]; exact hY.1, va_K.moved hW.alike hX.2.2.2.2.2.2.2.2.2.2.1, fun hg => by rw [ht]; exact hY.2.2.2.1 hg, hY.2.2.2.2.2⟩, hY.2.2.1.F ht⟩
  refine W.widen hcm hsm ?_
  cases tx
  · exact W.vret hX.1 hX.2.1 hX.2.2.2.2.2.2.1 hq hY.2.2.1.2.2 hdg hX.2.2.2.2.2.1
  · exact vx_ret (W.vret hX.1 hX.2.1 hX.2.2.2.2.2.2.1 hq hY.2.2.1.2.2 hdg hX.2.2.2.2.2.1)
end ZRows
