def zWs (y : MethodName) (cc : ByteArray) (nL : Nat) (ret : Option FieldType) : List Cond := Cond.code y cc nL ret :: gtb
def zRm (K mc ms : Nat) : Room := { frames := K, cells := mc, slots := ms, locals := 64 * K }
/-- the words of a throw that a change of the tables keeps for another reason -/
def zFw : List Cond := (vx_atS RX7 (zIc 1) (zEx 1) zNm ++ (vx_atS RX7 (zIc 2) (zEx 2) zNm ++ vx_atS RX7 (zIc 3) (zEx 3) zNm)).filter fun w => !goodWord w
theorem zFw_ok : (zFw.all fun w => w.onTables && w.keepsFace) = true := by decide +kernel
def zStr : List (Nat × String) := [(57, "no such slot"), (74, "the model has all its slots"), (96, "no such set of elements"), (117, "the entity has all its tokens"), (123, "a switch cannot be that"), (125, "the text has all its tokens"), (136, "the normal form is too long for a text"), (206, "the text is too long for its ways"), (208, "the text has a token that ways cannot have"), (215, "there is none of that number"), (222, "no such token")]
def zU (A : Nat → Prop) (U : State) (H : Heap) : Prop := vx_Zq Bundle.tN "UNASSIGNED_STACK" Bundle.steD A U H ∧ vx_Zq Bundle.tN "SUPPRESSED_SENTINEL" Bundle.listD A U H ∧ (∀ w ∈ zFw, w.before #[] U = true) ∧ ∀ q ∈ zStr, ∃ sa : Nat, vk_R RX7 q.1 q.2 sa U
theorem zU_warm {A : Nat → Prop} {s U : State} {H : Heap} (hW : s.WarmedH U.vm) (h : zU A s H) : zU A U H := by
  refine ⟨vx_Zq.moved hW.alike h.1, vx_Zq.moved hW.alike h.2.1, fun w hw => ?_, fun q hq => ?_⟩
  · have h1 := List.all_eq_true.mp zFw_ok w hw
    simp only [Bool.and_eq_true] at h1
    have h2 := Cond.before_shiftedFace (State.Shifted.of_warmed hW) w h1.2 (h.2.2.1 w hw)
    exact vx_ot_at (s := s.setVm U.vm) (U := U) (State.WarmedH.refl (s.setVm U.vm)) rfl (by unfold vx_ot; rw [h1.1]; rfl) h2
  · obtain ⟨sa, h1⟩ := h.2.2.2 q hq
    exact ⟨sa, vk_R.warm hW h1⟩
def zN (U : State) : Prop := ∀ w ∈ znw, va_Nw w U
theorem zN_warm {s U : State} (hW : s.WarmedH U.vm) (h : zN s) : zN U := by
  intro w hw
  have h1 := (List.mem_filter.mp hw).2
  have h2 := h w hw
  cases w <;> first | exact va_Nw.warmF hW h2 | exact va_Nw.warmM hW h2 | (simp [znest] at h1)
def zAO (U : State) : Prop := va_AO RX1 U ∧ va_AO RX3 U ∧ va_AO RX4 U
theorem zAO_moved {u U : State} (hvm : u.vm.Alike U.vm) (h : zAO u) : zAO U := ⟨h.1.moved hvm, h.2.1.moved hvm, h.2.2.moved hvm⟩
def zA (b n sz : Nat) : Nat → Prop := fun q => (b < q ∧ q ≤ b + n) ∨ sz ≤ q
/-- the world of a region -/
def zB (D : va_G) (T : Nat → ClassId) (b : Nat) (gr : Bool) (n0 : Nat) (M : zM) (t : State) : Prop := va_P D vwCl (zw T b M) t.heap ∧ va_K D vwCl (ztys T) t ∧ (gr = true → t.heap.size = b + M.2.2.2 + 1) ∧ (gr = false → M.2.2.2 = n0)
def zQ (ret : Option FieldType) (D : va_G) (T : Nat → ClassId) (b : Nat) (gr : Bool) (n0 : Nat) (o : Nat × Int32 × zM) (A : Nat → Prop) : Array Value → State → Outcome → State → Prop := match ret with
  | none => va_Qv (S := Unit) (fun _ => o.1 = 0) (fun _ t => zB D T b gr n0 o.2.2 t) A
  | some _ => va_Qi (S := Unit) (fun r _ => r = o.2.1 ∧ o.1 = 0) (fun _ t => zB D T b gr n0 o.2.2 t) A
def zQx (D : va_G) (T : Nat → ClassId) (b : Nat) (gr : Bool) (n0 : Nat) (o : Nat × Int32 × zM) (A : Nat → Prop) : String → State → State → Prop := vx_X (S := Unit) (fun _ => ¬ o.1 = 0) (fun E _ t => E = zEx o.1 ∧ zB D T b gr n0 o.2.2 t) A
def zPc (D : va_G) (T : Nat → ClassId) (b : Nat) (gr tz : Bool) (as : List Value) (M : zM) (sz : Nat) : Array Value → State → Prop := va_Pc as fun U => U.heap.size = sz ∧ (gr = true → sz = b + M.2.2.2 + 1) ∧ va_P D vwCl (zw T b M) U.heap ∧ va_K D vwCl (ztys T) U ∧ (tz = true → zU (zA b M.2.2.2 sz) U U.heap) ∧ (gr = true → zAO U) ∧ zN U
/-- what a method does: to the arguments as and the memory M it answers o -/
def zMet (l : Launch) (D : va_G) (T : Nat → ClassId) (b : Nat) (gr : Bool) (y : MethodName) (cc : ByteArray) (nL : Nat) (ret : Option FieldType) (K mc ms : Nat) (as : List Value) (M : zM) (o : Nat × Int32 × zM) : Prop :=
  ∀ sz, Met l y (zWs y cc nL ret) (zRm K mc ms) (zPc D T b gr false as M sz) (zQ ret D T b gr M.2.2.2 o (zA b M.2.2.2 sz)) mc ms (zA b M.2.2.2 sz)
def zMeX (l : Launch) (D : va_G) (T : Nat → ClassId) (b : Nat) (y : MethodName) (cc : ByteArray) (nL : Nat) (ret : Option FieldType) (K mc ms : Nat) (as : List Value) (M : zM) (o : Nat × Int32 × zM) : Prop :=
  ∀ sz, vx_Met l y (zWs y cc nL ret) (zRm K mc ms) (zPc D T b false true as M sz) (zQ ret D T b false M.2.2.2 o (zA b M.2.2.2 sz)) (zQx D T b false M.2.2.2 o (zA b M.2.2.2 sz)) mc ms (zA b M.2.2.2 sz)
def zX (own : String) (cc : ByteArray) (nL : Nat) (ret : Option FieldType) (ini : Bool) (K mc ms : Nat) (D : va_G) (T : Nat → ClassId) (p : Program) (R : Room) (s : State) (m : MethodId) (args : Array Value) (meth : Method) (c : Code) (A : Nat → Prop) : Prop :=
  p.tables.exec = Jvm.exec ∧ c.code = cc ∧ c.maxLocals = nL ∧ s.vm.findClass own = some m.cls ∧ (∀ w ∈ gtb, w.before args s = true) ∧ meth.locks = false ∧ meth.sig.returnType = ret ∧ (ini = true → meth.name = "<init>") ∧ True ∧ R = zRm K mc ms ∧ va_K D vwCl (ztys T) s ∧ (∀ q : Nat, s.heap.size ≤ q → A q)
def zY (D : va_G) (T : Nat → ClassId) (b : Nat) (gr tz : Bool) (n0 : Nat) (M : zM) (s : State) (H : Heap) (A : Nat → Prop) (locs : List Loc) : Prop :=
  va_P D vwCl (zw T b M) H ∧ va_D A (zw T b M) ∧ va_S A s.heap H locs ∧ (gr = true → H.size = b + M.2.2.2 + 1) ∧ ((tz = true → zU A s s.heap) ∧ (gr = true → zAO s) ∧ zN s) ∧ (gr = false → M.2.2.2 = n0)
def zQM (tx : Bool) (below : List Frame) (Qc : Array Value → State → Outcome → State → Prop) (XC : String → State → State → Prop) (a : Array Value) (s : State) (mc ms : Nat) (A : Nat → Prop) : State → Prop := match tx with
  | true => vx_MQ below Qc XC a s mc ms A
  | false => MQ below Qc a s mc ms A
/-- whether there is a script, its address, its length, its ints; the place of a long local -/
abbrev zE : Type := Bool × Nat × Nat × (Nat → Int32) × Nat
def zE0 : zE := (false, 0, 0, fun _ => 0, 1000000)
def zEj (j : Nat) : zE := (false, 0, 0, fun _ => 0, j)
def zEs (b0 L : Nat) (xs : Nat → Int32) : zE := (true, b0, L, xs, 1000000)
def zJ (ev : zE) : Nat := ev.2.2.2.2
def zSc (ev : zE) (s : State) (A : Nat → Prop) : Prop := va_X ev.2.1 ev.2.2.1 ev.2.2.2.1 s s.heap ∧ ev.2.1 < s.heap.size ∧ ¬ A ev.2.1
def zHc (ev : zE) (lv : List (Nat × Value)) (s : State) (A : Nat → Prop) : Prop := (∀ q ∈ lv, q.2.category = 1 ∨ q.1 = zJ ev) ∧ (ev.1 = true → zSc ev s A)
/-- THE JUDGEMENT: a method (own, its bytes ..) stands at pc, with the locals lv, the stack st, the memory M: it will answer o -/
def zV (tx : Bool) (l : Launch) (own : String) (cc : ByteArray) (nL : Nat) (ret : Option FieldType) (ini : Bool) (K mc ms : Nat) (D : va_G) (T : Nat → ClassId) (ev : zE) (b : Nat) (gr : Bool) (n0 : Nat) (o : Nat × Int32 × zM) (cells slots pc : Nat) (lv : List (Nat × Value)) (st : List Value) (M : zM) : Prop :=
  ∀ (p : Program) (e : Env) (R : Room) (s : State) (m : MethodId) (args : Array Value) (below : List Frame) (meth : Method) (c : Code) (H : Heap) (locs : List Loc) (A : Nat → Prop) (ls : Array Slot),
    zX own cc nL ret ini K mc ms D T p R s m args meth c A → zY D T b gr tx n0 M s H A locs → zHc ev lv s A → lv_has ls nL lv →
      W p l e R s m args below meth c H locs cells slots (zQM tx below (zQ ret D T b gr n0 o A) (zQx D T b gr n0 o A) args s mc ms A) (F0 m pc ls st)
def zset (lv : List (Nat × Value)) (i : Nat) (v : Value) : List (Nat × Value) := (i, v) :: lv.filter fun q => !(q.1 == i)
theorem zset_cat {ev : zE} {s : State} {A : Nat → Prop} {lv : List (Nat × Value)} {i : Nat} {v : Value} (h : zHc ev lv s A) (hv : v.category = 1 ∨ i = zJ ev) : zHc ev (zset lv i v) s A := by
  refine ⟨fun q hq => ?_, h.2⟩
  rcases List.mem_cons.mp hq with e | e
  · rw [e]; exact hv
  · exact h.1 q (List.mem_filter.mp e).1
theorem zset_has {ev : zE} {s : State} {A : Nat → Prop} {ls : Array Slot} {nL : Nat} {lv : List (Nat × Value)} {i : Nat} {v : Value} (hc : zHc ev lv s A) (hj : Nat.beq i (zJ ev + 1) = false) (h : lv_has ls nL ((i, v) :: lv.filter (fun q => !(q.1 == i) && !(q.1 + 1 == i && q.2.category == 2)))) : lv_has ls nL (zset lv i v) := by
  refine ⟨h.1, h.2.1, fun q hq => h.2.2 q ?_⟩
  rcases List.mem_cons.mp hq with e | e
  · exact List.mem_cons.mpr (Or.inl e)
  · refine List.mem_cons.mpr (Or.inr (List.mem_filter.mpr ⟨(List.mem_filter.mp e).1, ?_⟩))
    have h1 := (List.mem_filter.mp e).2
    rcases hc.1 q (List.mem_filter.mp e).1 with h2 | h2
    · simp [h2]
      simpa using h1
    · have h3 : ¬ i = zJ ev + 1 := Nat.ne_of_beq_eq_false hj
      have h4 : (q.1 + 1 == i) = false := by simp; omega
      rw [h4]
      simpa using h1
def zsetl (lv : List (Nat × Value)) (i : Nat) (v : Value) : List (Nat × Value) := (i, v) :: lv.filter fun q => !(q.1 == i) && !(q.1 == i + 1)
theorem zsetl_cat {ev : zE} {s : State} {A : Nat → Prop} {lv : List (Nat × Value)} {i : Nat} {v : Value} (h : zHc ev lv s A) (hi : i = zJ ev) : zHc ev (zsetl lv i v) s A := by
  refine ⟨fun q hq => ?_, h.2⟩
  rcases List.mem_cons.mp hq with e | e
  · rw [e]; exact Or.inr hi
  · exact h.1 q (List.mem_filter.mp e).1
theorem zsetl_has {ev : zE} {s : State} {A : Nat → Prop} {ls : Array Slot} {nL : Nat} {lv : List (Nat × Value)} {i : Nat} {v : Value} (hc : zHc ev lv s A) (hi : i = zJ ev) (h : lv_has ls nL ((i, v) :: lv.filter (fun q => !(q.1 == i) && (!(q.1 == i + 1) && !(q.1 + 1 == i && q.2.category == 2))))) : lv_has ls nL (zsetl lv i v) := by
  refine ⟨h.1, h.2.1, fun q hq => h.2.2 q ?_⟩
  rcases List.mem_cons.mp hq with e | e
  · exact List.mem_cons.mpr (Or.inl e)
  · refine List.mem_cons.mpr (Or.inr (List.mem_filter.mpr ⟨(List.mem_filter.mp e).1, ?_⟩))
    have h1 := (List.mem_filter.mp e).2
    have h5 : ¬ q.1 = i := by
      intro h; rw [h] at h1; simp at h1
    have h6 : ¬ q.1 = i + 1 := by
      intro h; rw [h] at h1; simp at h1
    rcases hc.1 q (List.mem_filter.mp e).1 with h2 | h2
    · simp [h2, h5, h6]
    · exact absurd (h2.trans hi.symm) h5
section ZRows
variable {tx : Bool} {l : Launch} {own : String} {cc : ByteArray} {nL : Nat} {ret : Option FieldType} {ini : Bool} {K mc ms : Nat} {D : va_G} {T : Nat → ClassId} {ev : zE} {b : Nat} {gr : Bool} {n0 : Nat} {o : Nat × Int32 × zM} {cells slots pc : Nat} {lv : List (Nat × Value)} {st : List Value} {M : zM}
theorem zV_lv (lv' : List (Nat × Value)) (h : ∀ q ∈ lv', q ∈ lv) (k : zV tx l own cc nL ret ini K mc ms D T ev b gr n0 o cells slots pc lv' st M) : zV tx l own cc nL ret ini K mc ms D T ev b gr n0 o cells slots pc lv st M :=
  fun p e R s m args below meth c H locs A ls hX hY hc hl => k p e R s m args below meth c H locs A ls hX hY ⟨fun q hq => hc.1 q (h q hq), hc.2⟩ ⟨hl.1, hl.2.1, fun q hq => hl.2.2 q (h q hq)⟩
theorem zV_top {x : Int32} (k : ∀ y : Int32, y = x → zV tx l own cc nL ret ini K mc ms D T ev b gr n0 o cells slots pc lv (.int y :: st) M) : zV tx l own cc nL ret ini K mc ms D T ev b gr n0 o cells slots pc lv (.int x :: st) M := k x rfl
theorem zV_mem {M : zM} (k : ∀ N : zM, N = M → zV tx l own cc nL ret ini K mc ms D T ev b gr n0 o cells slots pc lv st N) : zV tx l own cc nL ret ini K mc ms D T ev b gr n0 o cells slots pc lv st M := k M rfl
theorem zV_iconst {n : Int} {v : Int32} (hdg : decode cc pc = .ok (.iconst n, 1)) (hv : Int32.ofInt n = v) (k : zV tx l own cc nL ret ini K mc ms D T ev b gr n0 o cells slots (pc + 1) lv (.int v :: st) M) : zV tx l own cc nL ret ini K mc ms D T ev b gr n0 o cells slots pc lv (st) M :=
  fun p e R s m args below meth c H locs A ls hX hY hc hl => lv_iconst hX.1 hX.2.1 hdg hv (k p e R s m args below meth c H locs A ls hX hY hc hl)
theorem zV_bipush {n : Int} {v : Int32} (hdg : decode cc pc = .ok (.bipush n, 2)) (hv : (Int8.ofInt n).toInt32 = v) (k : zV tx l own cc nL ret ini K mc ms D T ev b gr n0 o cells slots (pc + 2) lv (.int v :: st) M) : zV tx l own cc nL ret ini K mc ms D T ev b gr n0 o cells slots pc lv (st) M :=
  fun p e R s m args below meth c H locs A ls hX hY hc hl => lv_bipush hX.1 hX.2.1 hdg hv (k p e R s m args below meth c H locs A ls hX hY hc hl)
theorem zV_sipush {n : Int} {v : Int32} (hdg : decode cc pc = .ok (.sipush n, 3)) (hv : (Int16.ofInt n).toInt32 = v) (k : zV tx l own cc nL ret ini K mc ms D T ev b gr n0 o cells slots (pc + 3) lv (.int v :: st) M) : zV tx l own cc nL ret ini K mc ms D T ev b gr n0 o cells slots pc lv (st) M :=
  fun p e R s m args below meth c H locs A ls hX hY hc hl => lv_sipush hX.1 hX.2.1 hdg hv (k p e R s m args below meth c H locs A ls hX hY hc hl)
theorem zV_ldc {index : Nat} {v : Int32} (hdg : decode cc pc = .ok (.ldc index, 2)) (hw : Cond.constant own index v ∈ gtb) (k : zV tx l own cc nL ret ini K mc ms D T ev b gr n0 o cells slots (pc + 2) lv (.int v :: st) M) : zV tx l own cc nL ret ini K mc ms D T ev b gr n0 o cells slots pc lv (st) M :=
  fun p e R s m args below meth c H locs A ls hX hY hc hl => lv_ldc hX.1 hX.2.1 hX.2.2.2.1 (hX.2.2.2.2.1 _ hw) hdg (k p e R s m args below meth c H locs A ls hX hY hc hl)
theorem zV_ldc_w {index : Nat} {v : Int32} (hdg : decode cc pc = .ok (.ldc_w index, 3)) (hw : Cond.constant own index v ∈ gtb) (k : zV tx l own cc nL ret ini K mc ms D T ev b gr n0 o cells slots (pc + 3) lv (.int v :: st) M) : zV tx l own cc nL ret ini K mc ms D T ev b gr n0 o cells slots pc lv (st) M :=
  fun p e R s m args below meth c H locs A ls hX hY hc hl => lv_ldcw hX.1 hX.2.1 hX.2.2.2.1 (hX.2.2.2.2.1 _ hw) hdg (k p e R s m args below meth c H locs A ls hX hY hc hl)
theorem zV_iload_n {q : Fin 4} {i j : Nat} {x : Int32} (hdg : decode cc pc = .ok (.iload_n q, 1)) (hi : (q : Nat) = i) (hk : lv[j]? = some (i, .int x)) (k : zV tx l own cc nL ret ini K mc ms D T ev b gr n0 o cells slots (pc + 1) lv (.int x :: st) M) : zV tx l own cc nL ret ini K mc ms D T ev b gr n0 o cells slots pc lv (st) M :=
  fun p e R s m args below meth c H locs A ls hX hY hc hl => lv_iload_n hX.1 hX.2.1 hdg hi (lv_at hl j hk) (k p e R s m args below meth c H locs A ls hX hY hc hl)
theorem zV_iload {i j : Nat} {x : Int32} (hdg : decode cc pc = .ok (.iload i, 2)) (hk : lv[j]? = some (i, .int x)) (k : zV tx l own cc nL ret ini K mc ms D T ev b gr n0 o cells slots (pc + 2) lv (.int x :: st) M) : zV tx l own cc nL ret ini K mc ms D T ev b gr n0 o cells slots pc lv (st) M :=
  fun p e R s m args below meth c H locs A ls hX hY hc hl => lv_iload hX.1 hX.2.1 hdg (lv_at hl j hk) (k p e R s m args below meth c H locs A ls hX hY hc hl)
theorem zV_iadd {x y : Int32} (hdg : decode cc pc = .ok (.iadd, 1)) (k : zV tx l own cc nL ret ini K mc ms D T ev b gr n0 o cells slots (pc + 1) lv (.int (x + y) :: st) M) : zV tx l own cc nL ret ini K mc ms D T ev b gr n0 o cells slots pc lv (.int y :: .int x :: st) M :=
  fun p e R s m args below meth c H locs A ls hX hY hc hl => lv_iadd hX.1 hX.2.1 hdg (k p e R s m args below meth c H locs A ls hX hY hc hl)
theorem zV_isub {x y : Int32} (hdg : decode cc pc = .ok (.isub, 1)) (k : zV tx l own cc nL ret ini K mc ms D T ev b gr n0 o cells slots (pc + 1) lv (.int (x - y) :: st) M) : zV tx l own cc nL ret ini K mc ms D T ev b gr n0 o cells slots pc lv (.int y :: .int x :: st) M :=
  fun p e R s m args below meth c H locs A ls hX hY hc hl => lv_isub hX.1 hX.2.1 hdg (k p e R s m args below meth c H locs A ls hX hY hc hl)
theorem zV_imul {x y : Int32} (hdg : decode cc pc = .ok (.imul, 1)) (k : zV tx l own cc nL ret ini K mc ms D T ev b gr n0 o cells slots (pc + 1) lv (.int (x * y) :: st) M) : zV tx l own cc nL ret ini K mc ms D T ev b gr n0 o cells slots pc lv (.int y :: .int x :: st) M :=
  fun p e R s m args below meth c H locs A ls hX hY hc hl => lv_imul hX.1 hX.2.1 hdg (k p e R s m args below meth c H locs A ls hX hY hc hl)
theorem zV_iand {x y : Int32} (hdg : decode cc pc = .ok (.iand, 1)) (k : zV tx l own cc nL ret ini K mc ms D T ev b gr n0 o cells slots (pc + 1) lv (.int (x &&& y) :: st) M) : zV tx l own cc nL ret ini K mc ms D T ev b gr n0 o cells slots pc lv (.int y :: .int x :: st) M :=
  fun p e R s m args below meth c H locs A ls hX hY hc hl => lv_iand hX.1 hX.2.1 hdg (k p e R s m args below meth c H locs A ls hX hY hc hl)
theorem zV_ior {x y : Int32} (hdg : decode cc pc = .ok (.ior, 1)) (k : zV tx l own cc nL ret ini K mc ms D T ev b gr n0 o cells slots (pc + 1) lv (.int (x ||| y) :: st) M) : zV tx l own cc nL ret ini K mc ms D T ev b gr n0 o cells slots pc lv (.int y :: .int x :: st) M :=
  fun p e R s m args below meth c H locs A ls hX hY hc hl => lv_ior hX.1 hX.2.1 hdg (k p e R s m args below meth c H locs A ls hX hY hc hl)
theorem zV_ishl {x y : Int32} (hdg : decode cc pc = .ok (.ishl, 1)) (k : zV tx l own cc nL ret ini K mc ms D T ev b gr n0 o cells slots (pc + 1) lv (.int (x <<< (y &&& 31)) :: st) M) : zV tx l own cc nL ret ini K mc ms D T ev b gr n0 o cells slots pc lv (.int y :: .int x :: st) M :=
  fun p e R s m args below meth c H locs A ls hX hY hc hl => lv_ishl hX.1 hX.2.1 hdg (k p e R s m args below meth c H locs A ls hX hY hc hl)
theorem zV_ishr {x y : Int32} (hdg : decode cc pc = .ok (.ishr, 1)) (k : zV tx l own cc nL ret ini K mc ms D T ev b gr n0 o cells slots (pc + 1) lv (.int (x >>> (y &&& 31)) :: st) M) : zV tx l own cc nL ret ini K mc ms D T ev b gr n0 o cells slots pc lv (.int y :: .int x :: st) M :=
  fun p e R s m args below meth c H locs A ls hX hY hc hl => lv_ishr hX.1 hX.2.1 hdg (k p e R s m args below meth c H locs A ls hX hY hc hl)
theorem zV_iushr {x y v : Int32} (hdg : decode cc pc = .ok (.iushr, 1)) (hv : (x.toUInt32 >>> (y.toUInt32 &&& Int32.toUInt32 31)).toInt32 = v) (k : zV tx l own cc nL ret ini K mc ms D T ev b gr n0 o cells slots (pc + 1) lv (.int v :: st) M) : zV tx l own cc nL ret ini K mc ms D T ev b gr n0 o cells slots pc lv (.int y :: .int x :: st) M :=
  fun p e R s m args below meth c H locs A ls hX hY hc hl => lv_iushr hX.1 hX.2.1 hdg hv (k p e R s m args below meth c H locs A ls hX hY hc hl)
theorem zV_idiv {x y : Int32} (hdg : decode cc pc = .ok (.idiv, 1)) (hne : ¬ y = 0) (k : zV tx l own cc nL ret ini K mc ms D T ev b gr n0 o cells slots (pc + 1) lv (.int (x / y) :: st) M) : zV tx l own cc nL ret ini K mc ms D T ev b gr n0 o cells slots pc lv (.int y :: .int x :: st) M :=
  fun p e R s m args below meth c H locs A ls hX hY hc hl => lv_idiv hX.1 hX.2.1 hdg hne (k p e R s m args below meth c H locs A ls hX hY hc hl)
theorem zV_irem {x y : Int32} (hdg : decode cc pc = .ok (.irem, 1)) (hne : ¬ y = 0) (k : zV tx l own cc nL ret ini K mc ms D T ev b gr n0 o cells slots (pc + 1) lv (.int (x - x / y * y) :: st) M) : zV tx l own cc nL ret ini K mc ms D T ev b gr n0 o cells slots pc lv (.int y :: .int x :: st) M :=
  fun p e R s m args below meth c H locs A ls hX hY hc hl => lv_irem hX.1 hX.2.1 hdg hne (k p e R s m args below meth c H locs A ls hX hY hc hl)
theorem zV_ineg {x : Int32} (hdg : decode cc pc = .ok (.ineg, 1)) (k : zV tx l own cc nL ret ini K mc ms D T ev b gr n0 o cells slots (pc + 1) lv (.int (-x) :: st) M) : zV tx l own cc nL ret ini K mc ms D T ev b gr n0 o cells slots pc lv (.int x :: st) M :=
  fun p e R s m args below meth c H locs A ls hX hY hc hl => lv_ineg hX.1 hX.2.1 hdg (k p e R s m args below meth c H locs A ls hX hY hc hl)
theorem zV_i2c {x : Int32} (hdg : decode cc pc = .ok (.i2c, 1)) (k : zV tx l own cc nL ret ini K mc ms D T ev b gr n0 o cells slots (pc + 1) lv (.int (x.toUInt32 % 65536).toInt32 :: st) M) : zV tx l own cc nL ret ini K mc ms D T ev b gr n0 o cells slots pc lv (.int x :: st) M :=
  fun p e R s m args below meth c H locs A ls hX hY hc hl => lv_i2c hX.1 hX.2.1 hdg rfl (k p e R s m args below meth c H locs A ls hX hY hc hl)
theorem zV_dup {v : Value} (hdg : decode cc pc = .ok (.dup, 1)) (hv : v.category = 1) (k : zV tx l own cc nL ret ini K mc ms D T ev b gr n0 o cells slots (pc + 1) lv (v :: v :: st) M) : zV tx l own cc nL ret ini K mc ms D T ev b gr n0 o cells slots pc lv (v :: st) M :=
  fun p e R s m args below meth c H locs A ls hX hY hc hl => lv_dup hX.1 hX.2.1 hdg hv (k p e R s m args below meth c H locs A ls hX hY hc hl)
theorem zV_pop {v : Value} (hdg : decode cc pc = .ok (.pop, 1)) (hv : v.category = 1) (k : zV tx l own cc nL ret ini K mc ms D T ev b gr n0 o cells slots (pc + 1) lv (st) M) : zV tx l own cc nL ret ini K mc ms D T ev b gr n0 o cells slots pc lv (v :: st) M :=
  fun p e R s m args below meth c H locs A ls hX hY hc hl => lv_pop hX.1 hX.2.1 hdg hv (k p e R s m args below meth c H locs A ls hX hY hc hl)
theorem zV_dup2 {v w : Value} (hdg : decode cc pc = .ok (.dup2, 1)) (hv : v.category = 1) (hw : w.category = 1) (k : zV tx l own cc nL ret ini K mc ms D T ev b gr n0 o cells slots (pc + 1) lv (v :: w :: v :: w :: st) M) : zV tx l own cc nL ret ini K mc ms D T ev b gr n0 o cells slots pc lv (v :: w :: st) M :=
  fun p e R s m args below meth c H locs A ls hX hY hc hl => lv_dup2_11 hX.1 hX.2.1 hdg hv hw (k p e R s m args below meth c H locs A ls hX hY hc hl)
theorem zV_goto {off : Int} {tgt : Nat} (hdg : decode cc pc = .ok (.goto off, 3)) (ht : (pc : Int) + off = (tgt : Int)) (k : zV tx l own cc nL ret ini K mc ms D T ev b gr n0 o cells slots tgt lv (st) M) : zV tx l own cc nL ret ini K mc ms D T ev b gr n0 o cells slots pc lv (st) M :=
  fun p e R s m args below meth c H locs A ls hX hY hc hl => lv_goto hX.1 hX.2.1 hdg ht (k p e R s m args below meth c H locs A ls hX hY hc hl)
theorem zV_if_eq {x : Int32} {off : Int} {tgt : Nat} (hdg : decode cc pc = .ok (.ifCond .eq off, 3)) (ht : (pc : Int) + off = (tgt : Int)) (kt : x = 0 → zV tx l own cc nL ret ini K mc ms D T ev b gr n0 o cells slots tgt lv st M) (kf : ¬ x = 0 → zV tx l own cc nL ret ini K mc ms D T ev b gr n0 o cells slots (pc + 3) lv st M) : zV tx l own cc nL ret ini K mc ms D T ev b gr n0 o cells slots pc lv (.int x :: st) M :=
  fun p e R s m args below meth c H locs A ls hX hY hc hl => lv_if_eq hX.1 hX.2.1 hdg ht (fun h => kt h p e R s m args below meth c H locs A ls hX hY hc hl) (fun h => kf h p e R s m args below meth c H locs A ls hX hY hc hl)
theorem zV_if_ne {x : Int32} {off : Int} {tgt : Nat} (hdg : decode cc pc = .ok (.ifCond .ne off, 3)) (ht : (pc : Int) + off = (tgt : Int)) (kt : ¬ x = 0 → zV tx l own cc nL ret ini K mc ms D T ev b gr n0 o cells slots tgt lv st M) (kf : x = 0 → zV tx l own cc nL ret ini K mc ms D T ev b gr n0 o cells slots (pc + 3) lv st M) : zV tx l own cc nL ret ini K mc ms D T ev b gr n0 o cells slots pc lv (.int x :: st) M :=
  fun p e R s m args below meth c H locs A ls hX hY hc hl => lv_if_ne hX.1 hX.2.1 hdg ht (fun h => kt h p e R s m args below meth c H locs A ls hX hY hc hl) (fun h => kf h p e R s m args below meth c H locs A ls hX hY hc hl)
theorem zV_if_lt {x : Int32} {off : Int} {tgt : Nat} (hdg : decode cc pc = .ok (.ifCond .lt off, 3)) (ht : (pc : Int) + off = (tgt : Int)) (kt : x < 0 → zV tx l own cc nL ret ini K mc ms D T ev b gr n0 o cells slots tgt lv st M) (kf : ¬ x < 0 → zV tx l own cc nL ret ini K mc ms D T ev b gr n0 o cells slots (pc + 3) lv st M) : zV tx l own cc nL ret ini K mc ms D T ev b gr n0 o cells slots pc lv (.int x :: st) M :=
  fun p e R s m args below meth c H locs A ls hX hY hc hl => lv_if_lt hX.1 hX.2.1 hdg ht (fun h => kt h p e R s m args below meth c H locs A ls hX hY hc hl) (fun h => kf h p e R s m args below meth c H locs A ls hX hY hc hl)
theorem zV_if_ge {x : Int32} {off : Int} {tgt : Nat} (hdg : decode cc pc = .ok (.ifCond .ge off, 3)) (ht : (pc : Int) + off = (tgt : Int)) (kt : 0 ≤ x → zV tx l own cc nL ret ini K mc ms D T ev b gr n0 o cells slots tgt lv st M) (kf : ¬ 0 ≤ x → zV tx l own cc nL ret ini K mc ms D T ev b gr n0 o cells slots (pc + 3) lv st M) : zV tx l own cc nL ret ini K mc ms D T ev b gr n0 o cells slots pc lv (.int x :: st) M :=
  fun p e R s m args below meth c H locs A ls hX hY hc hl => lv_if_ge hX.1 hX.2.1 hdg ht (fun h => kt h p e R s m args below meth c H locs A ls hX hY hc hl) (fun h => kf h p e R s m args below meth c H locs A ls hX hY hc hl)
theorem zV_if_gt {x : Int32} {off : Int} {tgt : Nat} (hdg : decode cc pc = .ok (.ifCond .gt off, 3)) (ht : (pc : Int) + off = (tgt : Int)) (kt : 0 < x → zV tx l own cc nL ret ini K mc ms D T ev b gr n0 o cells slots tgt lv st M) (kf : ¬ 0 < x → zV tx l own cc nL ret ini K mc ms D T ev b gr n0 o cells slots (pc + 3) lv st M) : zV tx l own cc nL ret ini K mc ms D T ev b gr n0 o cells slots pc lv (.int x :: st) M :=
  fun p e R s m args below meth c H locs A ls hX hY hc hl => lv_if_gt hX.1 hX.2.1 hdg ht (fun h => kt h p e R s m args below meth c H locs A ls hX hY hc hl) (fun h => kf h p e R s m args below meth c H locs A ls hX hY hc hl)
theorem zV_if_le {x : Int32} {off : Int} {tgt : Nat} (hdg : decode cc pc = .ok (.ifCond .le off, 3)) (ht : (pc : Int) + off = (tgt : Int)) (kt : x ≤ 0 → zV tx l own cc nL ret ini K mc ms D T ev b gr n0 o cells slots tgt lv st M) (kf : ¬ x ≤ 0 → zV tx l own cc nL ret ini K mc ms D T ev b gr n0 o cells slots (pc + 3) lv st M) : zV tx l own cc nL ret ini K mc ms D T ev b gr n0 o cells slots pc lv (.int x :: st) M :=
  fun p e R s m args below meth c H locs A ls hX hY hc hl => lv_if_le hX.1 hX.2.1 hdg ht (fun h => kt h p e R s m args below meth c H locs A ls hX hY hc hl) (fun h => kf h p e R s m args below meth c H locs A ls hX hY hc hl)
theorem zV_icmp_eq {x y : Int32} {off : Int} {tgt : Nat} (hdg : decode cc pc = .ok (.if_icmp .eq off, 3)) (ht : (pc : Int) + off = (tgt : Int)) (kt : x = y → zV tx l own cc nL ret ini K mc ms D T ev b gr n0 o cells slots tgt lv st M) (kf : ¬ x = y → zV tx l own cc nL ret ini K mc ms D T ev b gr n0 o cells slots (pc + 3) lv st M) : zV tx l own cc nL ret ini K mc ms D T ev b gr n0 o cells slots pc lv (.int y :: .int x :: st) M :=
  fun p e R s m args below meth c H locs A ls hX hY hc hl => lv_icmp_eq hX.1 hX.2.1 hdg ht (fun h => kt h p e R s m args below meth c H locs A ls hX hY hc hl) (fun h => kf h p e R s m args below meth c H locs A ls hX hY hc hl)
theorem zV_icmp_ne {x y : Int32} {off : Int} {tgt : Nat} (hdg : decode cc pc = .ok (.if_icmp .ne off, 3)) (ht : (pc : Int) + off = (tgt : Int)) (kt : ¬ x = y → zV tx l own cc nL ret ini K mc ms D T ev b gr n0 o cells slots tgt lv st M) (kf : x = y → zV tx l own cc nL ret ini K mc ms D T ev b gr n0 o cells slots (pc + 3) lv st M) : zV tx l own cc nL ret ini K mc ms D T ev b gr n0 o cells slots pc lv (.int y :: .int x :: st) M :=
  fun p e R s m args below meth c H locs A ls hX hY hc hl => lv_icmp_ne hX.1 hX.2.1 hdg ht (fun h => kt h p e R s m args below meth c H locs A ls hX hY hc hl) (fun h => kf h p e R s m args below meth c H locs A ls hX hY hc hl)
theorem zV_icmp_lt {x y : Int32} {off : Int} {tgt : Nat} (hdg : decode cc pc = .ok (.if_icmp .lt off, 3)) (ht : (pc : Int) + off = (tgt : Int)) (kt : x < y → zV tx l own cc nL ret ini K mc ms D T ev b gr n0 o cells slots tgt lv st M) (kf : ¬ x < y → zV tx l own cc nL ret ini K mc ms D T ev b gr n0 o cells slots (pc + 3) lv st M) : zV tx l own cc nL ret ini K mc ms D T ev b gr n0 o cells slots pc lv (.int y :: .int x :: st) M :=
  fun p e R s m args below meth c H locs A ls hX hY hc hl => lv_icmp_lt hX.1 hX.2.1 hdg ht (fun h => kt h p e R s m args below meth c H locs A ls hX hY hc hl) (fun h => kf h p e R s m args below meth c H locs A ls hX hY hc hl)
theorem zV_icmp_ge {x y : Int32} {off : Int} {tgt : Nat} (hdg : decode cc pc = .ok (.if_icmp .ge off, 3)) (ht : (pc : Int) + off = (tgt : Int)) (kt : y ≤ x → zV tx l own cc nL ret ini K mc ms D T ev b gr n0 o cells slots tgt lv st M) (kf : ¬ y ≤ x → zV tx l own cc nL ret ini K mc ms D T ev b gr n0 o cells slots (pc + 3) lv st M) : zV tx l own cc nL ret ini K mc ms D T ev b gr n0 o cells slots pc lv (.int y :: .int x :: st) M :=
  fun p e R s m args below meth c H locs A ls hX hY hc hl => lv_icmp_ge hX.1 hX.2.1 hdg ht (fun h => kt h p e R s m args below meth c H locs A ls hX hY hc hl) (fun h => kf h p e R s m args below meth c H locs A ls hX hY hc hl)
theorem zV_icmp_gt {x y : Int32} {off : Int} {tgt : Nat} (hdg : decode cc pc = .ok (.if_icmp .gt off, 3)) (ht : (pc : Int) + off = (tgt : Int)) (kt : y < x → zV tx l own cc nL ret ini K mc ms D T ev b gr n0 o cells slots tgt lv st M) (kf : ¬ y < x → zV tx l own cc nL ret ini K mc ms D T ev b gr n0 o cells slots (pc + 3) lv st M) : zV tx l own cc nL ret ini K mc ms D T ev b gr n0 o cells slots pc lv (.int y :: .int x :: st) M :=
  fun p e R s m args below meth c H locs A ls hX hY hc hl => lv_icmp_gt hX.1 hX.2.1 hdg ht (fun h => kt h p e R s m args below meth c H locs A ls hX hY hc hl) (fun h => kf h p e R s m args below meth c H locs A ls hX hY hc hl)
theorem zV_icmp_le {x y : Int32} {off : Int} {tgt : Nat} (hdg : decode cc pc = .ok (.if_icmp .le off, 3)) (ht : (pc : Int) + off = (tgt : Int)) (kt : x ≤ y → zV tx l own cc nL ret ini K mc ms D T ev b gr n0 o cells slots tgt lv st M) (kf : ¬ x ≤ y → zV tx l own cc nL ret ini K mc ms D T ev b gr n0 o cells slots (pc + 3) lv st M) : zV tx l own cc nL ret ini K mc ms D T ev b gr n0 o cells slots pc lv (.int y :: .int x :: st) M :=
  fun p e R s m args below meth c H locs A ls hX hY hc hl => lv_icmp_le hX.1 hX.2.1 hdg ht (fun h => kt h p e R s m args below meth c H locs A ls hX hY hc hl) (fun h => kf h p e R s m args below meth c H locs A ls hX hY hc hl)
theorem zV_aload_n {q : Fin 4} {i j r : Nat} (hdg : decode cc pc = .ok (.aload_n q, 1)) (hi : (q : Nat) = i) (hk : lv[j]? = some (i, zr b r)) (k : zV tx l own cc nL ret ini K mc ms D T ev b gr n0 o cells slots (pc + 1) lv (zr b r :: st) M) : zV tx l own cc nL ret ini K mc ms D T ev b gr n0 o cells slots pc lv st M := by
  intro p e R s m args below meth c H locs A ls hX hY hc hl
  have h := k p e R s m args below meth c H locs A ls hX hY hc hl
  have h2 := lv_at hl j hk
  rcases Nat.eq_zero_or_pos r with e | e
  · subst e
    exact lv_aload_nN hX.1 hX.2.1 hdg hi h2 h
  · rw [zr_pos e] at h h2
    exact lv_aload_n hX.1 hX.2.1 hdg hi h2 h
theorem zV_aload {i j r : Nat} (hdg : decode cc pc = .ok (.aload i, 2)) (hk : lv[j]? = some (i, zr b r)) (k : zV tx l own cc nL ret ini K mc ms D T ev b gr n0 o cells slots (pc + 2) lv (zr b r :: st) M) : zV tx l own cc nL ret ini K mc ms D T ev b gr n0 o cells slots pc lv st M := by
  intro p e R s m args below meth c H locs A ls hX hY hc hl
  have h := k p e R s m args below meth c H locs A ls hX hY hc hl
  have h2 := lv_at hl j hk
  rcases Nat.eq_zero_or_pos r with e | e
  · subst e
    exact lv_aloadN hX.1 hX.2.1 hdg h2 h
  · rw [zr_pos e] at h h2
    exact lv_aload hX.1 hX.2.1 hdg h2 h
theorem zV_istore_n {q : Fin 4} {i : Nat} {x : Int32} (lv' : List (Nat × Value)) (hdg : decode cc pc = .ok (.istore_n q, 1)) (hi : (q : Nat) = i) (hn : i < nL) (hj : Nat.beq i (zJ ev + 1) = false) (hs : zset lv i (.int x) = lv') (k : zV tx l own cc nL ret ini K mc ms D T ev b gr n0 o cells slots (pc + 1) lv' st M) : zV tx l own cc nL ret ini K mc ms D T ev b gr n0 o cells slots pc lv (.int x :: st) M := by
  subst hs
  intro p e R s m args below meth c H locs A ls hX hY hc hl
  exact lv_istore_n hX.1 hX.2.1 hdg hi hl hn rfl (fun ls' hl' => k p e R s m args below meth c H locs A ls' hX hY (zset_cat hc (Or.inl rfl)) (zset_has hc hj hl'))
theorem zV_istore {i : Nat} {x : Int32} (lv' : List (Nat × Value)) (hdg : decode cc pc = .ok (.istore i, 2)) (hn : i < nL) (hj : Nat.beq i (zJ ev + 1) = false) (hs : zset lv i (.int x) = lv') (k : zV tx l own cc nL ret ini K mc ms D T ev b gr n0 o cells slots (pc + 2) lv' st M) : zV tx l own cc nL ret ini K mc ms D T ev b gr n0 o cells slots pc lv (.int x :: st) M := by
  subst hs
  intro p e R s m args below meth c H locs A ls hX hY hc hl
  exact lv_istore hX.1 hX.2.1 hdg hl hn rfl (fun ls' hl' => k p e R s m args below meth c H locs A ls' hX hY (zset_cat hc (Or.inl rfl)) (zset_has hc hj hl'))
theorem zV_astore_n {q : Fin 4} {i r : Nat} (lv' : List (Nat × Value)) (hdg : decode cc pc = .ok (.astore_n q, 1)) (hi : (q : Nat) = i) (hn : i < nL) (hj : Nat.beq i (zJ ev + 1) = false) (hs : zset lv i (zr b r) = lv') (k : zV tx l own cc nL ret ini K mc ms D T ev b gr n0 o cells slots (pc + 1) lv' st M) : zV tx l own cc nL ret ini K mc ms D T ev b gr n0 o cells slots pc lv (zr b r :: st) M := by
  subst hs
  intro p e R s m args below meth c H locs A ls hX hY hc hl
  rcases Nat.eq_zero_or_pos r with h | h
  · subst h
    exact lv_astore_nN hX.1 hX.2.1 hdg hi hl hn rfl (fun ls' hl' => k p e R s m args below meth c H locs A ls' hX hY (zset_cat hc (Or.inl rfl)) (zset_has hc hj hl'))
  · rw [zr_pos h] at k ⊢
    exact lv_astore_n hX.1 hX.2.1 hdg hi hl hn rfl (fun ls' hl' => k p e R s m args below meth c H locs A ls' hX hY (zset_cat hc (Or.inl rfl)) (zset_has hc hj hl'))
theorem zV_astore {i r : Nat} (lv' : List (Nat × Value)) (hdg : decode cc pc = .ok (.astore i, 2)) (hn : i < nL) (hj : Nat.beq i (zJ ev + 1) = false) (hs : zset lv i (zr b r) = lv') (k : zV tx l own cc nL ret ini K mc ms D T ev b gr n0 o cells slots (pc + 2) lv' st M) : zV tx l own cc nL ret ini K mc ms D T ev b gr n0 o cells slots pc lv (zr b r :: st) M := by
  subst hs
  intro p e R s m args below meth c H locs A ls hX hY hc hl
  rcases Nat.eq_zero_or_pos r with h | h
  · subst h
    exact lv_astoreN hX.1 hX.2.1 hdg hl hn rfl (fun ls' hl' => k p e R s m args below meth c H locs A ls' hX hY (zset_cat hc (Or.inl rfl)) (zset_has hc hj hl'))
  · rw [zr_pos h] at k ⊢
    exact lv_astore hX.1 hX.2.1 hdg hl hn rfl (fun ls' hl' => k p e R s m args below meth c H locs A ls' hX hY (zset_cat hc (Or.inl rfl)) (zset_has hc hj hl'))
theorem zV_iinc {i j : Nat} {n : Int} {x v : Int32} (lv' : List (Nat × Value)) (hdg : decode cc pc = .ok (.iinc i n, 3)) (hk : lv[j]? = some (i, .int x)) (hv : x + Int32.ofInt n = v) (hn : i < nL) (hj : Nat.beq i (zJ ev + 1) = false) (hs : zset lv i (.int v) = lv') (k : zV tx l own cc nL ret ini K mc ms D T ev b gr n0 o cells slots (pc + 3) lv' st M) : zV tx l own cc nL ret ini K mc ms D T ev b gr n0 o cells slots pc lv st M := by
  subst hs
  intro p e R s m args below meth c H locs A ls hX hY hc hl
  exact lv_iinc hX.1 hX.2.1 hdg hl hk hv hn rfl (fun ls' hl' => k p e R s m args below meth c H locs A ls' hX hY (zset_cat hc (Or.inl rfl)) (zset_has hc hj hl'))
theorem zV_tin {dflt lo hi : Int} {offs : Array Int} {len : Nat} {x v : Int32} {off : Int} {tgt : Nat} (hdg : decode cc pc = .ok (.tableswitch dflt lo hi offs, len)) (hx : x = v) (h1 : ¬ v.toInt < lo) (h2 : ¬ hi < v.toInt) (ho : offs[(v.toInt - lo).toNat]? = some off) (ht : (pc : Int) + off = (tgt : Int)) (k : zV tx l own cc nL ret ini K mc ms D T ev b gr n0 o cells slots tgt lv st M) : zV tx l own cc nL ret ini K mc ms D T ev b gr n0 o cells slots pc lv (.int x :: st) M := by
  subst hx
  intro p e R s m args below meth c H locs A ls hX hY hc hl
  exact lv_tableIn hX.1 hX.2.1 hdg h1 h2 ho ht (k p e R s m args below meth c H locs A ls hX hY hc hl)
theorem zV_tout {dflt lo hi : Int} {offs : Array Int} {len : Nat} {x : Int32} {tgt : Nat} (hdg : decode cc pc = .ok (.tableswitch dflt lo hi offs, len)) (h : x.toInt < lo ∨ hi < x.toInt) (ht : (pc : Int) + dflt = (tgt : Int)) (k : zV tx l own cc nL ret ini K mc ms D T ev b gr n0 o cells slots tgt lv st M) : zV tx l own cc nL ret ini K mc ms D T ev b gr n0 o cells slots pc lv (.int x :: st) M :=
  fun p e R s m args below meth c H locs A ls hX hY hc hl => lv_tableOut hX.1 hX.2.1 hdg h ht (k p e R s m args below meth c H locs A ls hX hY hc hl)
theorem zV_iald {a : Nat} {i : Int32} (hdg : decode cc pc = .ok (.iaload, 1)) (hk : zk M a = 100) (hi : vp_in i (zl M a)) (k : zV tx l own cc nL ret ini K mc ms D T ev b gr n0 o cells slots (pc + 1) lv (.int (zI M a i.toNatClampNeg) :: st) M) : zV tx l own cc nL ret ini K mc ms D T ev b gr n0 o cells slots pc lv (.int i :: zr b a :: st) M := by
  intro p e R s m args below meth c H locs A ls hX hY hc hl
  obtain ⟨h1, h2, h3⟩ := zk_1 hk (by decide)
  rw [zr_pos h1]
  exact va_iald hX.1 hX.2.1 hX.2.2.2.2.2.2.2.2.2.2.1 hY.1 (a - 1) 0 (by rw [zw_get h1 h2, zc_int h3 (by decide) (by decide)]) rfl hi hdg (k p e R s m args below meth c H locs A ls hX hY hc hl)
theorem zV_zald {a : Nat} {i : Int32} (hdg : decode cc pc = .ok (.baload, 1)) (hk : zk M a = 101) (hi : vp_in i (zl M a)) (k : zV tx l own cc nL ret ini K mc ms D T ev b gr n0 o cells slots (pc + 1) lv (.int (zI M a i.toNatClampNeg) :: st) M) : zV tx l own cc nL ret ini K mc ms D T ev b gr n0 o cells slots pc lv (.int i :: zr b a :: st) M := by
  intro p e R s m args below meth c H locs A ls hX hY hc hl
  obtain ⟨h1, h2, h3⟩ := zk_1 hk (by decide)
  rw [zr_pos h1]
  exact va_zald hX.1 hX.2.1 hX.2.2.2.2.2.2.2.2.2.2.1 hY.1 (a - 1) 1 (by rw [zw_get h1 h2, zc_int h3 (by decide) (by decide)]) rfl hi hdg (k p e R s m args below meth c H locs A ls hX hY hc hl)
theorem zV_cald {a : Nat} {i : Int32} (hdg : decode cc pc = .ok (.caload, 1)) (hk : zk M a = 102) (hi : vp_in i (zl M a)) (k : zV tx l own cc nL ret ini K mc ms D T ev b gr n0 o cells slots (pc + 1) lv (.int (zI M a i.toNatClampNeg) :: st) M) : zV tx l own cc nL ret ini K mc ms D T ev b gr n0 o cells slots pc lv (.int i :: zr b a :: st) M := by
  intro p e R s m args below meth c H locs A ls hX hY hc hl
  obtain ⟨h1, h2, h3⟩ := zk_1 hk (by decide)
  rw [zr_pos h1]
  exact va_cald hX.1 hX.2.1 hX.2.2.2.2.2.2.2.2.2.2.1 hY.1 (a - 1) 2 (by rw [zw_get h1 h2, zc_int h3 (by decide) (by decide)]) rfl hi hdg (k p e R s m args below meth c H locs A ls hX hY hc hl)
theorem zset_iast {T : Nat → ClassId} {b : Nat} {M : zM} {a : Nat} {j : Nat} {x : Int32} (h1 : 1 ≤ a) (h2 : a ≤ M.2.2.2) (h3 : (M.2.2.1 a).1 = 100) : (zw T b M).set (a - 1) (b + a, .inl (T 100, (zl M a, .inl (upd (zI M a) j x)))) = zw T b (zsI M a j x) := by
  rw [← zw_set (M := M) (M' := zsI M a j x) h1 h2 rfl (fun y hy => zsI_off hy), zc_int (M := zsI M a j x) (c := 100) h3 (by decide) (by decide)]
  have e1 : upd (zI M a) j x = zI (zsI M a j x) a := by
    funext y
    simp [upd, zI, zsI]
  rw [e1]
  rfl
theorem zset_zast {T : Nat → ClassId} {b : Nat} {M : zM} {a : Nat} {j : Nat} {x : Int32} (h1 : 1 ≤ a) (h2 : a ≤ M.2.2.2) (h3 : (M.2.2.1 a).1 = 101) : (zw T b M).set (a - 1) (b + a, .inl (T 101, (zl M a, .inl (upd (zI M a) j x)))) = zw T b (zsI M a j x) := by
  rw [← zw_set (M := M) (M' := zsI M a j x) h1 h2 rfl (fun y hy => zsI_off hy), zc_int (M := zsI M a j x) (c := 101) h3 (by decide) (by decide)]
  have e1 : upd (zI M a) j x = zI (zsI M a j x) a := by
    funext y
    simp [upd, zI, zsI]
  rw [e1]
  rfl
theorem zset_cast {T : Nat → ClassId} {b : Nat} {M : zM} {a : Nat} {j : Nat} {x : Int32} (h1 : 1 ≤ a) (h2 : a ≤ M.2.2.2) (h3 : (M.2.2.1 a).1 = 102) : (zw T b M).set (a - 1) (b + a, .inl (T 102, (zl M a, .inl (upd (zI M a) j x)))) = zw T b (zsI M a j x) := by
  rw [← zw_set (M := M) (M' := zsI M a j x) h1 h2 rfl (fun y hy => zsI_off hy), zc_int (M := zsI M a j x) (c := 102) h3 (by decide) (by decide)]
  have e1 : upd (zI M a) j x = zI (zsI M a j x) a := by
    funext y
    simp [upd, zI, zsI]
  rw [e1]
  rfl
end ZRows
