/-! THE CLAIM OUT OF ONE WALK OF THE LAW'S BODY. Your part is whole_start (and what it stands on); all else here is the same for every law, but numbers. -/
def R_law : String := "OmitMarkupLaw"
def lw_P (b : Addr) (xs : List Int32) (args : Array Value) (s : State) : Prop := args = #[.ref b] ∧ s.IntsAt b xs ∧ xs.length ≤ 2560 ∧ (Jvm.Cond.and given_1 narrow_1).before args s = true
def lw_Q (_ : Array Value) (s : State) (o : Outcome) (t : State) : Prop := o = .returned (some (.int 1)) ∧ Framed s o t [] 601024 7293033
def lw_Z (below : List Frame) (a : Array Value) (s : State) : State → Prop := fun t => ∃ o, t.status = .running ∧ Ended t below o ∧ lw_Q a s o t
/-- the law's own end, with 1 on the stack, nothing written that was there before, its room as the claim has it -/
theorem lw_ret {p : Program} {l : Launch} {e : Env} {s : State} {m : MethodId} {below : List Frame} {meth : Method} {c : Code} {b : Nat} (hx : p.tables.exec = Jvm.exec) (hb : c.code = code) (hr : meth.sig.returnType = ret) (hlocks : meth.locks = false) {pc : Nat} {H : Heap} {ls : Array Slot} (hdg : decode code pc = .ok (.ireturn, 1)) : W p l e room_1 s m #[Value.ref b] below meth c H [] 601024 7293033 (lw_Z below #[Value.ref b] s) (F0 m pc ls [.int 1]) := by
  intro T hT X
  obtain ⟨fs, hret, hrun, hended, hW, hframe⟩ := X.leave (v := some (.int 1)) (hlocks := hlocks) (fun h => by rw [hr] at h; cases h)
  have hmeth' : T.vm.method? m = some meth := X.method'
  refine ⟨T.setFrames fs, ?_, .returned (some (.int 1)), hrun, hended, rfl, ⟨_, rfl⟩, hW, hframe⟩
  jvm_step X.here [X.here.top, hx, hb, hdg, hmeth', hr, ret, narrow_b1]
  (try refine ⟨rfl, ?_⟩); (try refine ⟨rfl, ?_⟩)
  first | (intro acts; rw [hret _ acts rfl rfl rfl]) | rw [hret _ _ rfl rfl rfl]
  exact Steps.refl _
/-- what holds at the law's entry: the machine, the code, the tables' words (any of lw_tbl by 'hts w (by decide +kernel)'), the script of L ints xs at the cell b, what the Statement gives of the start (any of its parts by flat_of_before) -/
def lw_At (p : Program) (s : State) (m : MethodId) (meth : Method) (c : Code) (b L : Nat) (xs : Nat → Int32) : Prop :=
  p.tables.exec = Jvm.exec ∧ c.code = code ∧ meth.sig.returnType = ret ∧ c.maxLocals = 7 ∧ s.vm.findClass R_law = some m.cls ∧ (∀ w ∈ lw_tbl, w.before #[Value.ref b] s = true) ∧ va_X b L xs s s.heap ∧ b < s.heap.size ∧ meth.locks = false ∧ (Jvm.Cond.and given_1 narrow_1).before #[Value.ref b] s = true
def zLY (D : va_G) (T : Nat → ClassId) (b1 b2 ao : Nat) (M1 M2 : zM) (w : Nat → Int64) (s : State) (H : Heap) (locs : List Loc) : Prop :=
  va_P D vwCl (zw T b1 M1) H ∧ va_P D vwCl (zw T b2 M2) H ∧ va_at D vwCl (ao, zoE T w) H ∧ va_S (fun q : Nat => s.heap.size ≤ q) s.heap H locs ∧ (s.heap.size ≤ b1 + 1 ∧ b1 + M1.2.2.2 ≤ b2 ∧ b2 + M2.2.2.2 < ao) ∧ va_K D vwCl (ztys T) s ∧ zU (fun q : Nat => s.heap.size ≤ q) s s.heap ∧ zN s ∧ zNC s
def zL (l : Launch) (D : va_G) (T : Nat → ClassId) (b0 L : Nat) (xs : Nat → Int32) (b1 b2 ao cells slots pc : Nat) (lv : List (Nat × Value)) (st : List Value) (M1 M2 : zM) (w : Nat → Int64) : Prop :=
  ∀ (p : Program) (e : Env) (s : State) (m : MethodId) (below : List Frame) (meth : Method) (c : Code) (H : Heap) (locs : List Loc) (ls : Array Slot),
    lw_At p s m meth c b0 L xs → zLY D T b1 b2 ao M1 M2 w s H locs → (∀ q ∈ lv, q.2.category = 1) → lv_has ls 7 lv →
      W p l e room_1 s m #[Value.ref b0] below meth c H locs cells slots (lw_Z below #[Value.ref b0] s) (F0 m pc ls st)
theorem lw_own {p : Program} {s : State} {m : MethodId} {meth : Method} {c : Code} {b L : Nat} {xs : Nat → Int32} (h : lw_At p s m meth c b L xs) : s.vm.findClass RL = some m.cls := h.2.2.2.2.1
theorem lw_gtb {p : Program} {s : State} {m : MethodId} {meth : Method} {c : Code} {b L : Nat} {xs : Nat → Int32} (h : lw_At p s m meth c b L xs) : ∀ w ∈ gtb, w.before #[Value.ref b] s = true := fun w hw => h.2.2.2.2.2.1 w (List.mem_filter.mp hw).1
theorem zcl_cat {lv : List (Nat × Value)} (h : zc1 (lv.map (·.2))) : ∀ q ∈ lv, q.2.category = 1 := by
  induction lv with
  | nil => intro q hq; cases hq
  | cons a l ih =>
    intro q hq
    rcases List.mem_cons.mp hq with e | e
    · rw [e]; exact h.1
    · exact ih h.2 q e
section ZLaw
variable {l : Launch} {D : va_G} {T : Nat → ClassId} {b0 L : Nat} {xs : Nat → Int32} {b1 b2 ao cells slots pc : Nat} {lv : List (Nat × Value)} {st : List Value} {M1 M2 : zM} {w : Nat → Int64}
theorem zL_pk (is : List Nat) {lv' : List (Nat × Value)} (hs : is.filterMap (fun k => lv[k]?) = lv') (k : zL l D T b0 L xs b1 b2 ao cells slots pc lv' st M1 M2 w) : zL l D T b0 L xs b1 b2 ao cells slots pc lv st M1 M2 w := by
  subst hs
  have h : ∀ q ∈ is.filterMap (fun k => lv[k]?), q ∈ lv := fun q hq => by
    obtain ⟨i, -, hi⟩ := List.mem_filterMap.mp hq
    exact List.mem_of_getElem? hi
  exact fun p e s m below meth c H locs ls C hY hc hl => k p e s m below meth c H locs ls C hY (fun q hq => hc q (h q hq)) ⟨hl.1, hl.2.1, fun q hq => hl.2.2 q (h q hq)⟩
theorem zL_wd (c9 s9 : Nat) (h1 : cells ≤ c9) (h2 : slots ≤ s9) (k : zL l D T b0 L xs b1 b2 ao c9 s9 pc lv st M1 M2 w) : zL l D T b0 L xs b1 b2 ao cells slots pc lv st M1 M2 w :=
  fun p e s m below meth c H locs ls C hY hc hl => W.widen h1 h2 (k p e s m below meth c H locs ls C hY hc hl)
theorem zL_top {x : Int32} (k : ∀ y : Int32, y = x → zL l D T b0 L xs b1 b2 ao cells slots pc lv (.int y :: st) M1 M2 w) : zL l D T b0 L xs b1 b2 ao cells slots pc lv (.int x :: st) M1 M2 w := k x rfl
theorem zL_iconst {n : Int} {v : Int32} (hdg : decode cL_law pc = .ok (.iconst n, 1)) (hv : Int32.ofInt n = v) (k : zL l D T b0 L xs b1 b2 ao cells slots (pc + 1) lv (.int v :: st) M1 M2 w) : zL l D T b0 L xs b1 b2 ao cells slots pc lv (st) M1 M2 w :=
  fun p e s m below meth c H locs ls C hY hc hl => lv_iconst C.1 C.2.1 hdg hv (k p e s m below meth c H locs ls C hY hc hl)
theorem zL_bipush {n : Int} {v : Int32} (hdg : decode cL_law pc = .ok (.bipush n, 2)) (hv : (Int8.ofInt n).toInt32 = v) (k : zL l D T b0 L xs b1 b2 ao cells slots (pc + 2) lv (.int v :: st) M1 M2 w) : zL l D T b0 L xs b1 b2 ao cells slots pc lv (st) M1 M2 w :=
  fun p e s m below meth c H locs ls C hY hc hl => lv_bipush C.1 C.2.1 hdg hv (k p e s m below meth c H locs ls C hY hc hl)
theorem zL_iload {i j : Nat} {x : Int32} (hdg : decode cL_law pc = .ok (.iload i, 2)) (hk : lv[j]? = some (i, .int x)) (k : zL l D T b0 L xs b1 b2 ao cells slots (pc + 2) lv (.int x :: st) M1 M2 w) : zL l D T b0 L xs b1 b2 ao cells slots pc lv (st) M1 M2 w :=
  fun p e s m below meth c H locs ls C hY hc hl => lv_iload C.1 C.2.1 hdg (lv_at hl j hk) (k p e s m below meth c H locs ls C hY hc hl)
theorem zL_aload_n {q : Fin 4} {i j a : Nat} (hdg : decode cL_law pc = .ok (.aload_n q, 1)) (hi : (q : Nat) = i) (hk : lv[j]? = some (i, .ref a)) (k : zL l D T b0 L xs b1 b2 ao cells slots (pc + 1) lv (.ref a :: st) M1 M2 w) : zL l D T b0 L xs b1 b2 ao cells slots pc lv (st) M1 M2 w :=
  fun p e s m below meth c H locs ls C hY hc hl => lv_aload_n C.1 C.2.1 hdg hi (lv_at hl j hk) (k p e s m below meth c H locs ls C hY hc hl)
theorem zL_iadd {x y : Int32} (hdg : decode cL_law pc = .ok (.iadd, 1)) (k : zL l D T b0 L xs b1 b2 ao cells slots (pc + 1) lv (.int (x + y) :: st) M1 M2 w) : zL l D T b0 L xs b1 b2 ao cells slots pc lv (.int y :: .int x :: st) M1 M2 w :=
  fun p e s m below meth c H locs ls C hY hc hl => lv_iadd C.1 C.2.1 hdg (k p e s m below meth c H locs ls C hY hc hl)
theorem zL_isub {x y : Int32} (hdg : decode cL_law pc = .ok (.isub, 1)) (k : zL l D T b0 L xs b1 b2 ao cells slots (pc + 1) lv (.int (x - y) :: st) M1 M2 w) : zL l D T b0 L xs b1 b2 ao cells slots pc lv (.int y :: .int x :: st) M1 M2 w :=
  fun p e s m below meth c H locs ls C hY hc hl => lv_isub C.1 C.2.1 hdg (k p e s m below meth c H locs ls C hY hc hl)
theorem zL_iand {x y : Int32} (hdg : decode cL_law pc = .ok (.iand, 1)) (k : zL l D T b0 L xs b1 b2 ao cells slots (pc + 1) lv (.int (x &&& y) :: st) M1 M2 w) : zL l D T b0 L xs b1 b2 ao cells slots pc lv (.int y :: .int x :: st) M1 M2 w :=
  fun p e s m below meth c H locs ls C hY hc hl => lv_iand C.1 C.2.1 hdg (k p e s m below meth c H locs ls C hY hc hl)
theorem zL_i2l {x : Int32} (hdg : decode cL_law pc = .ok (.i2l, 1)) (k : zL l D T b0 L xs b1 b2 ao cells slots (pc + 1) lv (.long x.toInt64 :: st) M1 M2 w) : zL l D T b0 L xs b1 b2 ao cells slots pc lv (.int x :: st) M1 M2 w :=
  fun p e s m below meth c H locs ls C hY hc hl => lv_i2l C.1 C.2.1 hdg rfl (k p e s m below meth c H locs ls C hY hc hl)
theorem zL_lconst {n : Fin 2} {v : Int64} (hdg : decode cL_law pc = .ok (.lconst n, 1)) (hv : Int64.ofNat (n : Nat) = v) (k : zL l D T b0 L xs b1 b2 ao cells slots (pc + 1) lv (.long v :: st) M1 M2 w) : zL l D T b0 L xs b1 b2 ao cells slots pc lv (st) M1 M2 w :=
  fun p e s m below meth c H locs ls C hY hc hl => lv_lconst C.1 C.2.1 hdg hv (k p e s m below meth c H locs ls C hY hc hl)
theorem zL_goto {off : Int} {tgt : Nat} (hdg : decode cL_law pc = .ok (.goto off, 3)) (ht : (pc : Int) + off = (tgt : Int)) (k : zL l D T b0 L xs b1 b2 ao cells slots tgt lv (st) M1 M2 w) : zL l D T b0 L xs b1 b2 ao cells slots pc lv (st) M1 M2 w :=
  fun p e s m below meth c H locs ls C hY hc hl => lv_goto C.1 C.2.1 hdg ht (k p e s m below meth c H locs ls C hY hc hl)
theorem zL_lcmp {x y : Int64} (hdg : decode cL_law pc = .ok (.lcmp, 1)) (k : zL l D T b0 L xs b1 b2 ao cells slots (pc + 1) lv (.int (lg_cmp x y) :: st) M1 M2 w) : zL l D T b0 L xs b1 b2 ao cells slots pc lv (.long y :: .long x :: st) M1 M2 w :=
  fun p e s m below meth c H locs ls C hY hc hl => W.lcmp C.1 C.2.1 hdg (k p e s m below meth c H locs ls C hY hc hl)
theorem zL_if_eq {x : Int32} {off : Int} {tgt : Nat} (hdg : decode cL_law pc = .ok (.ifCond .eq off, 3)) (ht : (pc : Int) + off = (tgt : Int)) (kt : x = 0 → zL l D T b0 L xs b1 b2 ao cells slots tgt lv st M1 M2 w) (kf : ¬ x = 0 → zL l D T b0 L xs b1 b2 ao cells slots (pc + 3) lv st M1 M2 w) : zL l D T b0 L xs b1 b2 ao cells slots pc lv (.int x :: st) M1 M2 w :=
  fun p e s m below meth c H locs ls C hY hc hl => lv_if_eq C.1 C.2.1 hdg ht (fun h => kt h p e s m below meth c H locs ls C hY hc hl) (fun h => kf h p e s m below meth c H locs ls C hY hc hl)
theorem zL_if_ne {x : Int32} {off : Int} {tgt : Nat} (hdg : decode cL_law pc = .ok (.ifCond .ne off, 3)) (ht : (pc : Int) + off = (tgt : Int)) (kt : ¬ x = 0 → zL l D T b0 L xs b1 b2 ao cells slots tgt lv st M1 M2 w) (kf : x = 0 → zL l D T b0 L xs b1 b2 ao cells slots (pc + 3) lv st M1 M2 w) : zL l D T b0 L xs b1 b2 ao cells slots pc lv (.int x :: st) M1 M2 w :=
  fun p e s m below meth c H locs ls C hY hc hl => lv_if_ne C.1 C.2.1 hdg ht (fun h => kt h p e s m below meth c H locs ls C hY hc hl) (fun h => kf h p e s m below meth c H locs ls C hY hc hl)
theorem zL_icmp_eq {x y : Int32} {off : Int} {tgt : Nat} (hdg : decode cL_law pc = .ok (.if_icmp .eq off, 3)) (ht : (pc : Int) + off = (tgt : Int)) (kt : x = y → zL l D T b0 L xs b1 b2 ao cells slots tgt lv st M1 M2 w) (kf : ¬ x = y → zL l D T b0 L xs b1 b2 ao cells slots (pc + 3) lv st M1 M2 w) : zL l D T b0 L xs b1 b2 ao cells slots pc lv (.int y :: .int x :: st) M1 M2 w :=
  fun p e s m below meth c H locs ls C hY hc hl => lv_icmp_eq C.1 C.2.1 hdg ht (fun h => kt h p e s m below meth c H locs ls C hY hc hl) (fun h => kf h p e s m below meth c H locs ls C hY hc hl)
theorem zL_icmp_gt {x y : Int32} {off : Int} {tgt : Nat} (hdg : decode cL_law pc = .ok (.if_icmp .gt off, 3)) (ht : (pc : Int) + off = (tgt : Int)) (kt : y < x → zL l D T b0 L xs b1 b2 ao cells slots tgt lv st M1 M2 w) (kf : ¬ y < x → zL l D T b0 L xs b1 b2 ao cells slots (pc + 3) lv st M1 M2 w) : zL l D T b0 L xs b1 b2 ao cells slots pc lv (.int y :: .int x :: st) M1 M2 w :=
  fun p e s m below meth c H locs ls C hY hc hl => lv_icmp_gt C.1 C.2.1 hdg ht (fun h => kt h p e s m below meth c H locs ls C hY hc hl) (fun h => kf h p e s m below meth c H locs ls C hY hc hl)
theorem zL_istore {i : Nat} {x : Int32} (lv' : List (Nat × Value)) (hdg : decode cL_law pc = .ok (.istore i, 2)) (hn : i < 7) (hs : zset lv i (.int x) = lv') (k : zL l D T b0 L xs b1 b2 ao cells slots (pc + 2) lv' st M1 M2 w) : zL l D T b0 L xs b1 b2 ao cells slots pc lv (.int x :: st) M1 M2 w := by
  subst hs
  intro p e s m below meth c H locs ls C hY hc hl
  exact lv_istore C.1 C.2.1 hdg hl hn rfl (fun ls' hl' => k p e s m below meth c H locs ls' C hY (zset_cat hc rfl) (zset_has hc hl'))
theorem zL_iinc {i j : Nat} {n : Int} {x v : Int32} (lv' : List (Nat × Value)) (hdg : decode cL_law pc = .ok (.iinc i n, 3)) (hk : lv[j]? = some (i, .int x)) (hv : x + Int32.ofInt n = v) (hn : i < 7) (hs : zset lv i (.int v) = lv') (k : zL l D T b0 L xs b1 b2 ao cells slots (pc + 3) lv' st M1 M2 w) : zL l D T b0 L xs b1 b2 ao cells slots pc lv st M1 M2 w := by
  subst hs
  intro p e s m below meth c H locs ls C hY hc hl
  exact lv_iinc C.1 C.2.1 hdg hl hk hv hn rfl (fun ls' hl' => k p e s m below meth c H locs ls' C hY (zset_cat hc rfl) (zset_has hc hl'))
theorem zL_tin {dflt lo hi : Int} {offs : Array Int} {len : Nat} {x v : Int32} {off : Int} {tgt : Nat} (hdg : decode cL_law pc = .ok (.tableswitch dflt lo hi offs, len)) (hx : x = v) (h1 : ¬ v.toInt < lo) (h2 : ¬ hi < v.toInt) (ho : offs[(v.toInt - lo).toNat]? = some off) (ht : (pc : Int) + off = (tgt : Int)) (k : zL l D T b0 L xs b1 b2 ao cells slots tgt lv st M1 M2 w) : zL l D T b0 L xs b1 b2 ao cells slots pc lv (.int x :: st) M1 M2 w := by
  subst hx
  intro p e s m below meth c H locs ls C hY hc hl
  exact lv_tableIn C.1 C.2.1 hdg h1 h2 ho ht (k p e s m below meth c H locs ls C hY hc hl)
theorem zL_tout {dflt lo hi : Int} {offs : Array Int} {len : Nat} {x : Int32} {tgt : Nat} (hdg : decode cL_law pc = .ok (.tableswitch dflt lo hi offs, len)) (h : x.toInt < lo ∨ hi < x.toInt) (ht : (pc : Int) + dflt = (tgt : Int)) (k : zL l D T b0 L xs b1 b2 ao cells slots tgt lv st M1 M2 w) : zL l D T b0 L xs b1 b2 ao cells slots pc lv (.int x :: st) M1 M2 w :=
  fun p e s m below meth c H locs ls C hY hc hl => lv_tableOut C.1 C.2.1 hdg h ht (k p e s m below meth c H locs ls C hY hc hl)
/-- the script -/
theorem zL_iald {i : Int32} (hdg : decode cL_law pc = .ok (.iaload, 1)) (hi : vp_in i L) (k : zL l D T b0 L xs b1 b2 ao cells slots (pc + 1) lv (.int (xs i.toNatClampNeg) :: st) M1 M2 w) : zL l D T b0 L xs b1 b2 ao cells slots pc lv (.int i :: .ref b0 :: st) M1 M2 w :=
  fun p e s m below meth c H locs ls C hY hc hl => va_sld C.1 C.2.1 C.2.2.2.2.2.2.1 C.2.2.2.2.2.2.2.1 (Nat.not_le.mpr C.2.2.2.2.2.2.2.1) hY.2.2.2.1 hi hdg (k p e s m below meth c H locs ls C hY hc hl)
theorem zL_alen (hdg : decode cL_law pc = .ok (.arraylength, 1)) (k : zL l D T b0 L xs b1 b2 ao cells slots (pc + 1) lv (.int (Int32.ofNat L) :: st) M1 M2 w) : zL l D T b0 L xs b1 b2 ao cells slots pc lv (.ref b0 :: st) M1 M2 w :=
  fun p e s m below meth c H locs ls C hY hc hl => va_slen C.1 C.2.1 C.2.2.2.2.2.2.1 C.2.2.2.2.2.2.2.1 (Nat.not_le.mpr C.2.2.2.2.2.2.2.1) hY.2.2.2.1 hdg (k p e s m below meth c H locs ls C hY hc hl)
/-- the row 'out' -/
theorem zL_lald (hdg : decode cL_law pc = .ok (.laload, 1)) (k : zL l D T b0 L xs b1 b2 ao cells slots (pc + 1) lv (.long (w 0) :: st) M1 M2 w) : zL l D T b0 L xs b1 b2 ao cells slots pc lv (.int 0 :: .ref ao :: st) M1 M2 w := by
  intro p e s m below meth c H locs ls C hY hc hl
  have hO1 : va_P D vwCl [(ao, zoE T w)] H := by
    intro k q hk
    have hz : k < 1 := (List.getElem?_eq_some_iff.mp hk).1
    rw [show k = 0 by omega] at hk
    cases hk
    exact hY.2.2.1
  exact va_lald C.1 C.2.1 hY.2.2.2.2.2.1 hO1 0 3 rfl rfl (i := 0) (by unfold vp_in; decide) hdg (k p e s m below meth c H locs ls C hY hc hl)
/-- the end -/
theorem zL_end (hdg : decode cL_law pc = .ok (.ireturn, 1)) (h1 : cells ≤ 601024) (h2 : slots ≤ 7293033) : zL l D T b0 L xs b1 b2 ao cells slots pc lv [.int 1] M1 M2 w := by
  intro p e s m below meth c H locs ls C hY hc hl
  refine va_forget (fun q hq => hY.2.2.2.1.2.2 q hq) ?_
  refine W.widen h1 h2 ?_
  exact lw_ret C.1 C.2.1 C.2.2.1 C.2.2.2.2.2.2.2.2.1 hdg
theorem zL_callM1i {index n K' maxL' r : Nat} {y : MethodName} {bytes' : ByteArray} {As rest : List Value} {ty : FieldType} {x : Int32} {N : zM} (hM : zMet l D T b1 false y bytes' maxL' (some ty) K' 0 0 (zr b1 r :: As) M1 (0, x, N)) (hm : zMd y bytes' maxL' (some ty) n) (hl : (Cond.methodLink RL index y) ∈ gtb) {ci : Nat} (hi : (Cond.instanceMethod y) ∈ gtb) (hse : (Cond.selects (zcl ci).1 y y) ∈ gtb) (hci : vwCl[ci]? = some (zcl ci) ∧ ci < 100) (hk : zk M1 r = ci) (hst : st = As.reverse ++ .ref (b1 + r) :: rest) (hn : As.length = n) (hcat : (rest.map fun v => v.category).sum ≤ 8) (hK : K' ≤ 1000) (hcc : cells ≤ 601024) (hss : slots ≤ 7293033) (hdg : decode cL_law pc = .ok (.invokevirtual index, 3)) (k : zL l D T b0 L xs b1 b2 ao cells slots (pc + 3) lv (.int x :: rest) N M2 w) : zL l D T b0 L xs b1 b2 ao cells slots pc lv st M1 M2 w := by
  subst hst
  intro p e s m below meth c H locs ls C hY hc hl9
  have hK9 := hY.2.2.2.2.2.1
  obtain ⟨h1, h2, h3⟩ := zk_1 hk (by omega)
  obtain ⟨ha, hb9, hc9⟩ := hY.2.2.2.2.1
  have hY1 : zY D T b1 false false M1.2.2.2 M1 s H (fun q : Nat => s.heap.size ≤ q) locs := ⟨hY.1, zD_of (fun r h1 h2 => by show s.heap.size ≤ b1 + r; omega), hY.2.2.2.1, fun hg => absurd hg Bool.false_ne_true, ⟨fun hg => absurd hg Bool.false_ne_true, fun hg => absurd hg Bool.false_ne_true, hY.2.2.2.2.2.2.2.1⟩, fun _ => rfl⟩
  have hA : ∀ q : Nat, s.heap.size ≤ q → (fun q : Nat => s.heap.size ≤ q) q := fun _ h => h
  have hsub := zA_sub hY1.2.1 hY1.2.2.1 hA rfl
  rw [zr_pos h1] at hM
  have hts := lw_gtb C
  have hcw : CallB room_1 s #[Value.ref b0] RL index y bytes' maxL' (some ty) (zWs y bytes' maxL' (some ty)) (zRm K' 0 0) 0 0 n :=
    callB_of n hts (gtb_good (zWs_in hm)) rfl rfl rfl (hts _ hm.2.1) (hts _ hl) hm.2.2.1 ⟨by show K' + 1 ≤ 2048; omega, by have := hm.2.2.2; show 8 + (maxL' + 11) + 64 * K' ≤ 84000; omega⟩
  refine va_calli (va_runV (As := As) (rest := rest) (n := n) ⟨C.1, C.2.1, C.2.2.2.1, lw_own C, hts⟩ (hM H.size) ⟨hcw, hts _ hi, hts _ hse⟩ ⟨zPc_blind, va_recv hK9 hY1.1 (q0 := r - 1) hci.1 (by rw [zw_get h1 h2, zc_obj h3 hci.2]), by rw [← zr_pos h1]; exact zPc_at hY1 hK9 hA (fun h => nomatch h)⟩ rfl hn hl9.1 rfl (lv_room hcat) hdg ⟨by show cells + 0 ≤ 601024; omega, by show slots + 0 ≤ 7293033; omega⟩) hY.2.2.2.1 (fun q _ h => hsub q h) hsub (fun x9 u t H1 locs1 ht hvm hw hB hz1 hk1 hS => ?_)
  obtain ⟨hw, -⟩ := hw
  have hw : x9 = x := hw
  subst hw
  obtain ⟨hB1, -, -, hBn⟩ := hB
  have hBn : N.2.2.2 = M1.2.2.2 := hBn rfl
  have hP2 : va_P D vwCl (zw T b2 M2) H1 := hY.2.1.kept fun k q hk => by
    have hlt := (hY.2.1 k q hk).lt
    obtain ⟨g1, rfl⟩ := zw_at hk
    refine hk1 _ hlt (fun h => ?_)
    rcases h with ⟨_, h⟩ | h
    · have h : b2 + (k + 1) ≤ b1 + M1.2.2.2 := h
      omega
    · have h : H.size ≤ b2 + (k + 1) := h
      have hlt : b2 + (k + 1) < H.size := hlt
      omega
  have hO : va_at D vwCl (ao, zoE T w) H1 := by
    have hlt := hY.2.2.1.lt
    refine hY.2.2.1.kept (hk1 _ hlt (fun h => ?_))
    rcases h with ⟨_, h⟩ | h
    · have h : ao ≤ b1 + M1.2.2.2 := h
      omega
    · have h : H.size ≤ ao := h
      have hlt : ao < H.size := hlt
      omega
  exact k p e s m below meth c H1 locs1 ls C ⟨by rw [ht] at hB1; exact hB1, hP2, hO, hS, by rw [hBn]; exact hY.2.2.2.2.1, hY.2.2.2.2.2⟩ hc hl9
theorem zL_callM1v {index n K' maxL' r : Nat} {y : MethodName} {bytes' : ByteArray} {As rest : List Value} {x : Int32} {N : zM} (hM : zMet l D T b1 false y bytes' maxL' none K' 0 0 (zr b1 r :: As) M1 (0, x, N)) (hm : zMd y bytes' maxL' none n) (hl : (Cond.methodLink RL index y) ∈ gtb) {ci : Nat} (hi : (Cond.instanceMethod y) ∈ gtb) (hse : (Cond.selects (zcl ci).1 y y) ∈ gtb) (hci : vwCl[ci]? = some (zcl ci) ∧ ci < 100) (hk : zk M1 r = ci) (hst : st = As.reverse ++ .ref (b1 + r) :: rest) (hn : As.length = n) (hcat : (rest.map fun v => v.category).sum ≤ 8) (hK : K' ≤ 1000) (hcc : cells ≤ 601024) (hss : slots ≤ 7293033) (hdg : decode cL_law pc = .ok (.invokevirtual index, 3)) (k : zL l D T b0 L xs b1 b2 ao cells slots (pc + 3) lv rest N M2 w) : zL l D T b0 L xs b1 b2 ao cells slots pc lv st M1 M2 w := by
  subst hst
  intro p e s m below meth c H locs ls C hY hc hl9
  have hK9 := hY.2.2.2.2.2.1
  obtain ⟨h1, h2, h3⟩ := zk_1 hk (by omega)
  obtain ⟨ha, hb9, hc9⟩ := hY.2.2.2.2.1
  have hY1 : zY D T b1 false false M1.2.2.2 M1 s H (fun q : Nat => s.heap.size ≤ q) locs := ⟨hY.1, zD_of (fun r h1 h2 => by show s.heap.size ≤ b1 + r; omega), hY.2.2.2.1, fun hg => absurd hg Bool.false_ne_true, ⟨fun hg => absurd hg Bool.false_ne_true, fun hg => absurd hg Bool.false_ne_true, hY.2.2.2.2.2.2.2.1⟩, fun _ => rfl⟩
  have hA : ∀ q : Nat, s.heap.size ≤ q → (fun q : Nat => s.heap.size ≤ q) q := fun _ h => h
  have hsub := zA_sub hY1.2.1 hY1.2.2.1 hA rfl
  rw [zr_pos h1] at hM
  have hts := lw_gtb C
  have hcw : CallB room_1 s #[Value.ref b0] RL index y bytes' maxL' none (zWs y bytes' maxL' none) (zRm K' 0 0) 0 0 n :=
    callB_of n hts (gtb_good (zWs_in hm)) rfl rfl rfl (hts _ hm.2.1) (hts _ hl) hm.2.2.1 ⟨by show K' + 1 ≤ 2048; omega, by have := hm.2.2.2; show 8 + (maxL' + 11) + 64 * K' ≤ 84000; omega⟩
  refine va_callv (va_runV (As := As) (rest := rest) (n := n) ⟨C.1, C.2.1, C.2.2.2.1, lw_own C, hts⟩ (hM H.size) ⟨hcw, hts _ hi, hts _ hse⟩ ⟨zPc_blind, va_recv hK9 hY1.1 (q0 := r - 1) hci.1 (by rw [zw_get h1 h2, zc_obj h3 hci.2]), by rw [← zr_pos h1]; exact zPc_at hY1 hK9 hA (fun h => nomatch h)⟩ rfl hn hl9.1 rfl (lv_room hcat) hdg ⟨by show cells + 0 ≤ 601024; omega, by show slots + 0 ≤ 7293033; omega⟩) hY.2.2.2.1 (fun q _ h => hsub q h) hsub (fun u t H1 locs1 ht hvm hw hB hz1 hk1 hS => ?_)
  obtain ⟨hB1, -, -, hBn⟩ := hB
  have hBn : N.2.2.2 = M1.2.2.2 := hBn rfl
  have hP2 : va_P D vwCl (zw T b2 M2) H1 := hY.2.1.kept fun k q hk => by
    have hlt := (hY.2.1 k q hk).lt
    obtain ⟨g1, rfl⟩ := zw_at hk
    refine hk1 _ hlt (fun h => ?_)
    rcases h with ⟨_, h⟩ | h
    · have h : b2 + (k + 1) ≤ b1 + M1.2.2.2 := h
      omega
    · have h : H.size ≤ b2 + (k + 1) := h
      have hlt : b2 + (k + 1) < H.size := hlt
      omega
  have hO : va_at D vwCl (ao, zoE T w) H1 := by
    have hlt := hY.2.2.1.lt
    refine hY.2.2.1.kept (hk1 _ hlt (fun h => ?_))
    rcases h with ⟨_, h⟩ | h
    · have h : ao ≤ b1 + M1.2.2.2 := h
      omega
    · have h : H.size ≤ ao := h
      have hlt : ao < H.size := hlt
      omega
  exact k p e s m below meth c H1 locs1 ls C ⟨by rw [ht] at hB1; exact hB1, hP2, hO, hS, by rw [hBn]; exact hY.2.2.2.2.1, hY.2.2.2.2.2⟩ hc hl9
theorem zL_callM2i {index n K' maxL' r : Nat} {y : MethodName} {bytes' : ByteArray} {As rest : List Value} {ty : FieldType} {x : Int32} {N : zM} (hM : zMet l D T b2 false y bytes' maxL' (some ty) K' 0 0 (zr b2 r :: As) M2 (0, x, N)) (hm : zMd y bytes' maxL' (some ty) n) (hl : (Cond.methodLink RL index y) ∈ gtb) {ci : Nat} (hi : (Cond.instanceMethod y) ∈ gtb) (hse : (Cond.selects (zcl ci).1 y y) ∈ gtb) (hci : vwCl[ci]? = some (zcl ci) ∧ ci < 100) (hk : zk M2 r = ci) (hst : st = As.reverse ++ .ref (b2 + r) :: rest) (hn : As.length = n) (hcat : (rest.map fun v => v.category).sum ≤ 8) (hK : K' ≤ 1000) (hcc : cells ≤ 601024) (hss : slots ≤ 7293033) (hdg : decode cL_law pc = .ok (.invokevirtual index, 3)) (k : zL l D T b0 L xs b1 b2 ao cells slots (pc + 3) lv (.int x :: rest) M1 N w) : zL l D T b0 L xs b1 b2 ao cells slots pc lv st M1 M2 w := by
  subst hst
  intro p e s m below meth c H locs ls C hY hc hl9
  have hK9 := hY.2.2.2.2.2.1
  obtain ⟨h1, h2, h3⟩ := zk_1 hk (by omega)
  obtain ⟨ha, hb9, hc9⟩ := hY.2.2.2.2.1
  have hY1 : zY D T b2 false false M2.2.2.2 M2 s H (fun q : Nat => s.heap.size ≤ q) locs := ⟨hY.2.1, zD_of (fun r h1 h2 => by show s.heap.size ≤ b2 + r; omega), hY.2.2.2.1, fun hg => absurd hg Bool.false_ne_true, ⟨fun hg => absurd hg Bool.false_ne_true, fun hg => absurd hg Bool.false_ne_true, hY.2.2.2.2.2.2.2.1⟩, fun _ => rfl⟩
  have hA : ∀ q : Nat, s.heap.size ≤ q → (fun q : Nat => s.heap.size ≤ q) q := fun _ h => h
  have hsub := zA_sub hY1.2.1 hY1.2.2.1 hA rfl
  rw [zr_pos h1] at hM
  have hts := lw_gtb C
  have hcw : CallB room_1 s #[Value.ref b0] RL index y bytes' maxL' (some ty) (zWs y bytes' maxL' (some ty)) (zRm K' 0 0) 0 0 n :=
    callB_of n hts (gtb_good (zWs_in hm)) rfl rfl rfl (hts _ hm.2.1) (hts _ hl) hm.2.2.1 ⟨by show K' + 1 ≤ 2048; omega, by have := hm.2.2.2; show 8 + (maxL' + 11) + 64 * K' ≤ 84000; omega⟩
  refine va_calli (va_runV (As := As) (rest := rest) (n := n) ⟨C.1, C.2.1, C.2.2.2.1, lw_own C, hts⟩ (hM H.size) ⟨hcw, hts _ hi, hts _ hse⟩ ⟨zPc_blind, va_recv hK9 hY1.1 (q0 := r - 1) hci.1 (by rw [zw_get h1 h2, zc_obj h3 hci.2]), by rw [← zr_pos h1]; exact zPc_at hY1 hK9 hA (fun h => nomatch h)⟩ rfl hn hl9.1 rfl (lv_room hcat) hdg ⟨by show cells + 0 ≤ 601024; omega, by show slots + 0 ≤ 7293033; omega⟩) hY.2.2.2.1 (fun q _ h => hsub q h) hsub (fun x9 u t H1 locs1 ht hvm hw hB hz1 hk1 hS => ?_)
  obtain ⟨hw, -⟩ := hw
  have hw : x9 = x := hw
  subst hw
  obtain ⟨hB1, -, -, hBn⟩ := hB
  have hBn : N.2.2.2 = M2.2.2.2 := hBn rfl
  have hP1 : va_P D vwCl (zw T b1 M1) H1 := hY.1.kept fun k q hk => by
    have hlt := (hY.1 k q hk).lt
    obtain ⟨g1, rfl⟩ := zw_at hk
    refine hk1 _ hlt (fun h => ?_)
    rcases h with ⟨h, _⟩ | h
    · have h : b2 < b1 + (k + 1) := h
      omega
    · have h : H.size ≤ b1 + (k + 1) := h
      have hlt : b1 + (k + 1) < H.size := hlt
      omega
  have hO : va_at D vwCl (ao, zoE T w) H1 := by
    have hlt := hY.2.2.1.lt
    refine hY.2.2.1.kept (hk1 _ hlt (fun h => ?_))
    rcases h with ⟨_, h⟩ | h
    · have h : ao ≤ b2 + M2.2.2.2 := h
      omega
    · have h : H.size ≤ ao := h
      have hlt : ao < H.size := hlt
      omega
  exact k p e s m below meth c H1 locs1 ls C ⟨hP1, by rw [ht] at hB1; exact hB1, hO, hS, by rw [hBn]; exact hY.2.2.2.2.1, hY.2.2.2.2.2⟩ hc hl9
theorem zL_callM2v {index n K' maxL' r : Nat} {y : MethodName} {bytes' : ByteArray} {As rest : List Value} {x : Int32} {N : zM} (hM : zMet l D T b2 false y bytes' maxL' none K' 0 0 (zr b2 r :: As) M2 (0, x, N)) (hm : zMd y bytes' maxL' none n) (hl : (Cond.methodLink RL index y) ∈ gtb) {ci : Nat} (hi : (Cond.instanceMethod y) ∈ gtb) (hse : (Cond.selects (zcl ci).1 y y) ∈ gtb) (hci : vwCl[ci]? = some (zcl ci) ∧ ci < 100) (hk : zk M2 r = ci) (hst : st = As.reverse ++ .ref (b2 + r) :: rest) (hn : As.length = n) (hcat : (rest.map fun v => v.category).sum ≤ 8) (hK : K' ≤ 1000) (hcc : cells ≤ 601024) (hss : slots ≤ 7293033) (hdg : decode cL_law pc = .ok (.invokevirtual index, 3)) (k : zL l D T b0 L xs b1 b2 ao cells slots (pc + 3) lv rest M1 N w) : zL l D T b0 L xs b1 b2 ao cells slots pc lv st M1 M2 w := by
  subst hst
  intro p e s m below meth c H locs ls C hY hc hl9
  have hK9 := hY.2.2.2.2.2.1
  obtain ⟨h1, h2, h3⟩ := zk_1 hk (by omega)
  obtain ⟨ha, hb9, hc9⟩ := hY.2.2.2.2.1
  have hY1 : zY D T b2 false false M2.2.2.2 M2 s H (fun q : Nat => s.heap.size ≤ q) locs := ⟨hY.2.1, zD_of (fun r h1 h2 => by show s.heap.size ≤ b2 + r; omega), hY.2.2.2.1, fun hg => absurd hg Bool.false_ne_true, ⟨fun hg => absurd hg Bool.false_ne_true, fun hg => absurd hg Bool.false_ne_true, hY.2.2.2.2.2.2.2.1⟩, fun _ => rfl⟩
  have hA : ∀ q : Nat, s.heap.size ≤ q → (fun q : Nat => s.heap.size ≤ q) q := fun _ h => h
  have hsub := zA_sub hY1.2.1 hY1.2.2.1 hA rfl
  rw [zr_pos h1] at hM
  have hts := lw_gtb C
  have hcw : CallB room_1 s #[Value.ref b0] RL index y bytes' maxL' none (zWs y bytes' maxL' none) (zRm K' 0 0) 0 0 n :=
    callB_of n hts (gtb_good (zWs_in hm)) rfl rfl rfl (hts _ hm.2.1) (hts _ hl) hm.2.2.1 ⟨by show K' + 1 ≤ 2048; omega, by have := hm.2.2.2; show 8 + (maxL' + 11) + 64 * K' ≤ 84000; omega⟩
  refine va_callv (va_runV (As := As) (rest := rest) (n := n) ⟨C.1, C.2.1, C.2.2.2.1, lw_own C, hts⟩ (hM H.size) ⟨hcw, hts _ hi, hts _ hse⟩ ⟨zPc_blind, va_recv hK9 hY1.1 (q0 := r - 1) hci.1 (by rw [zw_get h1 h2, zc_obj h3 hci.2]), by rw [← zr_pos h1]; exact zPc_at hY1 hK9 hA (fun h => nomatch h)⟩ rfl hn hl9.1 rfl (lv_room hcat) hdg ⟨by show cells + 0 ≤ 601024; omega, by show slots + 0 ≤ 7293033; omega⟩) hY.2.2.2.1 (fun q _ h => hsub q h) hsub (fun u t H1 locs1 ht hvm hw hB hz1 hk1 hS => ?_)
  obtain ⟨hB1, -, -, hBn⟩ := hB
  have hBn : N.2.2.2 = M2.2.2.2 := hBn rfl
  have hP1 : va_P D vwCl (zw T b1 M1) H1 := hY.1.kept fun k q hk => by
    have hlt := (hY.1 k q hk).lt
    obtain ⟨g1, rfl⟩ := zw_at hk
    refine hk1 _ hlt (fun h => ?_)
    rcases h with ⟨h, _⟩ | h
    · have h : b2 < b1 + (k + 1) := h
      omega
    · have h : H.size ≤ b1 + (k + 1) := h
      have hlt : b1 + (k + 1) < H.size := hlt
      omega
  have hO : va_at D vwCl (ao, zoE T w) H1 := by
    have hlt := hY.2.2.1.lt
    refine hY.2.2.1.kept (hk1 _ hlt (fun h => ?_))
    rcases h with ⟨_, h⟩ | h
    · have h : ao ≤ b2 + M2.2.2.2 := h
      omega
    · have h : H.size ≤ ao := h
      have hlt : ao < H.size := hlt
      omega
  exact k p e s m below meth c H1 locs1 ls C ⟨hP1, by rw [ht] at hB1; exact hB1, hO, hS, by rw [hBn]; exact hY.2.2.2.2.1, hY.2.2.2.2.2⟩ hc hl9
theorem zL_callH {index n K' mc' ms' maxL' : Nat} {y : MethodName} {bytes' : ByteArray} {hh : List (Nat × Nat × Nat × Nat)} {As rest : List Value} {x : Int32} {N : zM} {w' : Nat → Int64} (hM : b1 + M1.2.2.2 < ao → zhMet l D T b1 ao y bytes' maxL' hh K' mc' ms' As M1 w x N w') (hm : (Cond.codeWith y bytes' maxL' (some .int) hh) ∈ gtb) (hcl : y.cls = RL) (hd : y.cls ≠ "java/lang/invoke/MethodHandle" ∧ y.cls ≠ "java/lang/invoke/VarHandle" ∧ (parseMethodDescriptor y.desc).map (fun d => d.parameters.length) = some n) (hl : (Cond.methodLink RL index y) ∈ gtb) (hst9 : (Cond.static y) ∈ gtb) (hin : (Cond.initialized RL) ∈ gtb) (hst : st = As.reverse ++ rest) (hn : As.length = n) (hcat : (rest.map fun v => v.category).sum ≤ 8) (hK : K' ≤ 1000 ∧ maxL' ≤ 45) (hcc : cells + mc' ≤ 601024) (hss : slots + ms' ≤ 7293033) (hdg : decode cL_law pc = .ok (.invokestatic index, 3)) (k : zL l D T b0 L xs b1 b2 ao (cells + mc') (slots + ms') (pc + 3) lv (.int x :: rest) N M2 w') : zL l D T b0 L xs b1 b2 ao cells slots pc lv st M1 M2 w := by
  subst hst
  intro p e s m below meth c H locs ls C hY hc hl9
  have hK9 := hY.2.2.2.2.2.1
  obtain ⟨ha, hb9, hc9⟩ := hY.2.2.2.2.1
  have hao : b1 + M1.2.2.2 < ao := by omega
  have hts := lw_gtb C
  have hA : ∀ q : Nat, s.heap.size ≤ q → (fun q : Nat => s.heap.size ≤ q) q := fun _ h => h
  have hsub : ∀ q, zAo b1 M1.2.2.2 ao H.size q → s.heap.size ≤ q := by
    intro q h
    rcases h with ⟨h, _⟩ | h | h
    · omega
    · omega
    · exact Nat.le_trans hY.2.2.2.1.1 h
  have hcw : vx_CSW room_1 s #[Value.ref b0] RL index y bytes' maxL' (some .int) hh (Cond.codeWith y bytes' maxL' (some .int) hh :: gtb) (zRm K' mc' ms') mc' ms' n := by
    refine vx_cwSW n hts (gtb_good fun w hw => ?_) rfl rfl rfl hd ⟨by show K' + 1 ≤ 2048; omega, by show 8 + (maxL' + 11) + 64 * K' ≤ 84000; omega⟩
    rcases List.mem_append.mp hw with h | h
    · rcases List.mem_cons.mp h with e1 | h
      · rw [e1]; exact hl
      · rcases List.mem_cons.mp h with e1 | h
        · rw [e1]; exact hst9
        · rcases List.mem_cons.mp h with e1 | h
          · rw [e1, hcl]; exact hin
          · cases h
    · rcases List.mem_cons.mp h with e1 | h
      · rw [e1]; exact hm
      · exact h
  have hpre : ∀ U : State, U.heap = H → s.WarmedH U.vm → zhPc D T b1 ao As M1 w H.size As.toArray U := by
    intro U hU hW
    refine ⟨rfl, by rw [hU], by rw [hU]; exact hY.1, by rw [hU]; exact hY.2.2.1, va_K.moved hW.alike hK9, ?_, zN_warm hW hY.2.2.2.2.2.2.2.1, zNC_moved hW.alike hY.2.2.2.2.2.2.2.2⟩
    rw [hU]
    obtain ⟨u1, u2, u3, u4⟩ := hY.2.2.2.2.2.2.1
    exact zU_warm hW ⟨(u1.kept hY.2.2.2.1.2.1).narrow hsub, (u2.kept hY.2.2.2.1.2.1).narrow hsub, u3, u4⟩
  refine va_calli (vx_runSW (As := As) (rest := rest) (n := n) ⟨C.1, C.2.1, C.2.2.2.1, lw_own C, hts⟩ (hM hao H.size) hcw ⟨zhPc_blind, hpre⟩ rfl hn hl9.1 rfl (lv_room hcat) hdg ⟨hcc, hss⟩) hY.2.2.2.1 (fun q _ h => hsub q h) hsub (fun x9 u t H1 locs1 ht hvm hw hB hz1 hk1 hS => ?_)
  have hw : x9 = x := hw
  subst hw
  obtain ⟨hB1, hB2, -, hBn⟩ := hB
  rw [ht] at hB1 hB2
  have hP2 : va_P D vwCl (zw T b2 M2) H1 := hY.2.1.kept fun k q hk => by
    have hlt := (hY.2.1 k q hk).lt
    obtain ⟨g1, rfl⟩ := zw_at hk
    refine hk1 _ hlt (fun h => ?_)
    rcases h with ⟨_, h⟩ | h | h
    · have h : b2 + (k + 1) ≤ b1 + M1.2.2.2 := h
      omega
    · have h : b2 + (k + 1) = ao := h
      omega
    · have h : H.size ≤ b2 + (k + 1) := h
      have hlt : b2 + (k + 1) < H.size := hlt
      omega
  exact k p e s m below meth c H1 locs1 ls C ⟨hB1, hP2, hB2, hS, by rw [hBn]; exact hY.2.2.2.2.1, hY.2.2.2.2.2⟩ hc hl9
end ZLaw
theorem zK_RL : (Cond.initialized RL) ∈ gtb := gi 61 (by decide +kernel) rfl
