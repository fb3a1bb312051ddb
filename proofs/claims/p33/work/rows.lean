section
-- ===== PART A: goes FIRST, ahead of the names: the tables' words, and 'selects' of the private methods out of them =====
/-- a private method of a class that the tables say can be made, by its rows of tables_1 -/
def lw_okq (q : MethodName × Nat) : Prop := (q.1.cls ≠ "java/lang/invoke/MethodHandle" ∧ q.1.cls ≠ "java/lang/invoke/VarHandle") ∧ Cond.instantiable q.1.cls q.2 ∈ tables_1 ∧ Cond.privateMethod q.1 ∈ tables_1 ∧ Cond.instanceMethod q.1 ∈ tables_1
theorem lw_p0 : lw_okq (⟨"OmitMarkup$State", "isExcluded", "(I)Z"⟩, 6) := ⟨⟨by decide +kernel, by decide +kernel⟩, List.mem_of_getElem? (i := 172) (by decide +kernel), List.mem_of_getElem? (i := 341) (by decide +kernel), List.mem_of_getElem? (i := 342) (by decide +kernel)⟩
theorem lw_p1 : lw_okq (⟨"OmitMarkup$State", "isIncluded", "(I)Z"⟩, 6) := ⟨⟨by decide +kernel, by decide +kernel⟩, List.mem_of_getElem? (i := 172) (by decide +kernel), List.mem_of_getElem? (i := 349) (by decide +kernel), List.mem_of_getElem? (i := 350) (by decide +kernel)⟩
theorem lw_p2 : lw_okq (⟨"java/lang/Throwable", "fillInStackTrace", "(I)Ljava/lang/Throwable;"⟩, 6) := ⟨⟨by decide +kernel, by decide +kernel⟩, List.mem_of_getElem? (i := 468) (by decide +kernel), List.mem_of_getElem? (i := 466) (by decide +kernel), List.mem_of_getElem? (i := 467) (by decide +kernel)⟩
theorem lw_p3 : lw_okq (⟨"OmitMarkup$Reader", "goThrough", "(LOmitMarkup$Row;I)V"⟩, 17) := ⟨⟨by decide +kernel, by decide +kernel⟩, List.mem_of_getElem? (i := 127) (by decide +kernel), List.mem_of_getElem? (i := 549) (by decide +kernel), List.mem_of_getElem? (i := 550) (by decide +kernel)⟩
theorem lw_p4 : lw_okq (⟨"OmitMarkup$Reader", "readThing", "(IC)V"⟩, 17) := ⟨⟨by decide +kernel, by decide +kernel⟩, List.mem_of_getElem? (i := 127) (by decide +kernel), List.mem_of_getElem? (i := 556) (by decide +kernel), List.mem_of_getElem? (i := 557) (by decide +kernel)⟩
theorem lw_p5 : lw_okq (⟨"OmitMarkup$Reader", "addError", "(I)V"⟩, 17) := ⟨⟨by decide +kernel, by decide +kernel⟩, List.mem_of_getElem? (i := 127) (by decide +kernel), List.mem_of_getElem? (i := 560) (by decide +kernel), List.mem_of_getElem? (i := 561) (by decide +kernel)⟩
theorem lw_p6 : lw_okq (⟨"OmitMarkup$Reader", "addThing", "(ICZ)V"⟩, 17) := ⟨⟨by decide +kernel, by decide +kernel⟩, List.mem_of_getElem? (i := 127) (by decide +kernel), List.mem_of_getElem? (i := 565) (by decide +kernel), List.mem_of_getElem? (i := 566) (by decide +kernel)⟩
theorem lw_p7 : lw_okq (⟨"OmitMarkup$Reader", "readToken", "(LOmitMarkup$Row;II)V"⟩, 17) := ⟨⟨by decide +kernel, by decide +kernel⟩, List.mem_of_getElem? (i := 127) (by decide +kernel), List.mem_of_getElem? (i := 597) (by decide +kernel), List.mem_of_getElem? (i := 598) (by decide +kernel)⟩
theorem lw_p8 : lw_okq (⟨"OmitMarkup$Reader", "closeByTag", "(I)V"⟩, 17) := ⟨⟨by decide +kernel, by decide +kernel⟩, List.mem_of_getElem? (i := 127) (by decide +kernel), List.mem_of_getElem? (i := 605) (by decide +kernel), List.mem_of_getElem? (i := 606) (by decide +kernel)⟩
theorem lw_p9 : lw_okq (⟨"OmitMarkup$Reader", "closeUpTo", "(IZ)V"⟩, 17) := ⟨⟨by decide +kernel, by decide +kernel⟩, List.mem_of_getElem? (i := 127) (by decide +kernel), List.mem_of_getElem? (i := 609) (by decide +kernel), List.mem_of_getElem? (i := 610) (by decide +kernel)⟩
theorem lw_p10 : lw_okq (⟨"OmitMarkup$Reader", "goThroughEntity", "(II)V"⟩, 17) := ⟨⟨by decide +kernel, by decide +kernel⟩, List.mem_of_getElem? (i := 127) (by decide +kernel), List.mem_of_getElem? (i := 622) (by decide +kernel), List.mem_of_getElem? (i := 623) (by decide +kernel)⟩
theorem lw_p11 : lw_okq (⟨"OmitMarkup$Reader", "keepState", "(II)V"⟩, 17) := ⟨⟨by decide +kernel, by decide +kernel⟩, List.mem_of_getElem? (i := 127) (by decide +kernel), List.mem_of_getElem? (i := 626) (by decide +kernel), List.mem_of_getElem? (i := 627) (by decide +kernel)⟩
theorem lw_p12 : lw_okq (⟨"OmitMarkup$Reader", "writeNormalForm", "()V"⟩, 17) := ⟨⟨by decide +kernel, by decide +kernel⟩, List.mem_of_getElem? (i := 127) (by decide +kernel), List.mem_of_getElem? (i := 630) (by decide +kernel), List.mem_of_getElem? (i := 631) (by decide +kernel)⟩
theorem lw_p13 : lw_okq (⟨"OmitMarkup$Reader", "writeEnds", "(II)I"⟩, 17) := ⟨⟨by decide +kernel, by decide +kernel⟩, List.mem_of_getElem? (i := 127) (by decide +kernel), List.mem_of_getElem? (i := 634) (by decide +kernel), List.mem_of_getElem? (i := 635) (by decide +kernel)⟩
theorem lw_p14 : lw_okq (⟨"OmitMarkup$Reader", "isAsBefore", "(II)Z"⟩, 17) := ⟨⟨by decide +kernel, by decide +kernel⟩, List.mem_of_getElem? (i := 127) (by decide +kernel), List.mem_of_getElem? (i := 643) (by decide +kernel), List.mem_of_getElem? (i := 644) (by decide +kernel)⟩
theorem lw_p15 : lw_okq (⟨"OmitMarkup$Model", "workOut", "()V"⟩, 7) := ⟨⟨by decide +kernel, by decide +kernel⟩, List.mem_of_getElem? (i := 41) (by decide +kernel), List.mem_of_getElem? (i := 714) (by decide +kernel), List.mem_of_getElem? (i := 715) (by decide +kernel)⟩
def lw_privs_1 : List (MethodName × Nat) := [(⟨"OmitMarkup$State", "isExcluded", "(I)Z"⟩, 6), (⟨"OmitMarkup$State", "isIncluded", "(I)Z"⟩, 6), (⟨"java/lang/Throwable", "fillInStackTrace", "(I)Ljava/lang/Throwable;"⟩, 6), (⟨"OmitMarkup$Reader", "goThrough", "(LOmitMarkup$Row;I)V"⟩, 17), (⟨"OmitMarkup$Reader", "readThing", "(IC)V"⟩, 17), (⟨"OmitMarkup$Reader", "addError", "(I)V"⟩, 17), (⟨"OmitMarkup$Reader", "addThing", "(ICZ)V"⟩, 17), (⟨"OmitMarkup$Reader", "readToken", "(LOmitMarkup$Row;II)V"⟩, 17), (⟨"OmitMarkup$Reader", "closeByTag", "(I)V"⟩, 17), (⟨"OmitMarkup$Reader", "closeUpTo", "(IZ)V"⟩, 17), (⟨"OmitMarkup$Reader", "goThroughEntity", "(II)V"⟩, 17), (⟨"OmitMarkup$Reader", "keepState", "(II)V"⟩, 17), (⟨"OmitMarkup$Reader", "writeNormalForm", "()V"⟩, 17), (⟨"OmitMarkup$Reader", "writeEnds", "(II)I"⟩, 17), (⟨"OmitMarkup$Reader", "isAsBefore", "(II)Z"⟩, 17), (⟨"OmitMarkup$Model", "workOut", "()V"⟩, 7)]
theorem lw_r1 : ∀ q ∈ lw_privs_1, lw_okq q := List.forall_mem_cons.mpr ⟨lw_p0, List.forall_mem_cons.mpr ⟨lw_p1, List.forall_mem_cons.mpr ⟨lw_p2, List.forall_mem_cons.mpr ⟨lw_p3, List.forall_mem_cons.mpr ⟨lw_p4, List.forall_mem_cons.mpr ⟨lw_p5, List.forall_mem_cons.mpr ⟨lw_p6, List.forall_mem_cons.mpr ⟨lw_p7, List.forall_mem_cons.mpr ⟨lw_p8, List.forall_mem_cons.mpr ⟨lw_p9, List.forall_mem_cons.mpr ⟨lw_p10, List.forall_mem_cons.mpr ⟨lw_p11, List.forall_mem_cons.mpr ⟨lw_p12, List.forall_mem_cons.mpr ⟨lw_p13, List.forall_mem_cons.mpr ⟨lw_p14, List.forall_mem_cons.mpr ⟨lw_p15, fun _ h => absurd h List.not_mem_nil⟩⟩⟩⟩⟩⟩⟩⟩⟩⟩⟩⟩⟩⟩⟩⟩
theorem lw_p16 : lw_okq (⟨"OmitMarkup$Model", "workOutReach", "(I)V"⟩, 7) := ⟨⟨by decide +kernel, by decide +kernel⟩, List.mem_of_getElem? (i := 41) (by decide +kernel), List.mem_of_getElem? (i := 718) (by decide +kernel), List.mem_of_getElem? (i := 719) (by decide +kernel)⟩
def lw_privs_2 : List (MethodName × Nat) := [(⟨"OmitMarkup$Model", "workOutReach", "(I)V"⟩, 7)]
theorem lw_r2 : ∀ q ∈ lw_privs_2, lw_okq q := List.forall_mem_cons.mpr ⟨lw_p16, fun _ h => absurd h List.not_mem_nil⟩
def lw_privs : List (MethodName × Nat) := lw_privs_1 ++ (lw_privs_2)
def lw_tbl : List Cond := k2_sels lw_privs ++ tables_1
theorem lw_privs_ok : ∀ q ∈ lw_privs, lw_okq q := by
  show ∀ q ∈ lw_privs_1 ++ (lw_privs_2), lw_okq q
  exact List.forall_mem_append.mpr ⟨lw_r1, lw_r2⟩
-- ===== end of PART A; then your names; then what follows =====
end
section
/-! ===== BEGIN words of one list among another's, by their places ===== -/
theorem goodIn_r {big : List Cond} (ws : List Cond) (ps : List Nat) (hp : ws = ps.filterMap (fun i => big[i]?)) (h : ws.all goodWord = true) : GoodIn big ws := by
  intro w hw
  have h1 := List.all_eq_true.mp h w hw
  rw [hp] at hw
  obtain ⟨i, -, hi⟩ := List.mem_filterMap.mp hw
  have hm : w ∈ big := by first | exact List.mem_of_getElem? hi | exact List.getElem?_mem hi
  exact ⟨hm, good_of_word h1⟩
theorem goodIn_app {big a b : List Cond} (ha : GoodIn big a) (hb : GoodIn big b) : GoodIn big (a ++ b) := fun w h => (List.mem_append.mp h).elim (ha w) (hb w)
theorem goodIn_ca {big a b : List Cond} {c : Cond} (ha : GoodIn big (c :: a)) (hb : GoodIn big b) : GoodIn big (c :: (a ++ b)) := fun w h => (List.mem_cons.mp h).elim (fun e => ha w (List.mem_cons.mpr (Or.inl e))) (fun h => (List.mem_append.mp h).elim (fun h => ha w (List.mem_cons.mpr (Or.inr h))) (hb w))
theorem goodIn_sub {big ws : List Cond} (hm : ∀ w ∈ ws, w ∈ big) (h : ws.all goodWord = true) : GoodIn big ws := fun w hw => ⟨hm w hw, good_of_word (List.all_eq_true.mp h w hw)⟩
/-! ===== END ===== -/

/-! ===== BEGIN exceptions that leave a method, and their catching by the caller (launches without stack traces) ===== -/
section VXA
/-! The laws vx_back, vx_callV, vx_callS, vx_callSW, vx_throw0, vx_throwS follow proofs of the library, with one case more: JvmDerived/Free/Laws.lean (Back.of_free), Shelf42/LK1.lean (callV, callS), Shelf/KitTraced.lean (throwNew0V, throwNewS). -/
/-- where a method has thrown q: the class by its name, the cell, what was written, the world -/
def vx_T (XC : String → State → State → Prop) (st : State) (q : Addr) (t : State) (mc ms : Nat) (free : Addr → Prop) : Prop :=
  ∃ (E : String) (ce : Cell) (L : List Loc), XC E st t ∧ t.heap[q]? = some ce ∧ ce.vm = .none ∧ st.vm.findClass E = some ce.cls ∧ st.WarmedH t.vm ∧ st.sameButNew ({ t with vm := st.vm } : State) L mc ms ∧ ∀ z ∈ L, free z.base
def vx_Q (Qc : Array Value → State → Outcome → State → Prop) (XC : String → State → State → Prop) (mc ms : Nat) (free : Addr → Prop) : Array Value → State → Outcome → State → Prop := fun a st o t =>
  (Qc a st o t ∧ ∃ L, FrameEnd st o t L mc ms ∧ ∀ q ∈ L, free q.base) ∨ ∃ q, o = .threw q ∧ vx_T XC st q t mc ms free
/-- a callee that returns or throws -/
def vx_Met (l : Launch) (y : MethodName) (ws : List Cond) (rm : Room) (Pc : Array Value → State → Prop) (Qc : Array Value → State → Outcome → State → Prop) (XC : String → State → State → Prop) (mc ms : Nat) (free : Addr → Prop) : Prop :=
  MetFree l y (headSpec ws rm) Pc (fun _ _ _ _ _ => True) (vx_Q Qc XC mc ms free)
def vx_Post (XC : String → State → State → Prop) (mc ms : Nat) (free : Addr → Prop) : Pt → Array Value → Addr → Pt → Prop := fun A a q B =>
  ∃ (g : JFrame) (mk : MethodId) (t : State) (L : List Loc) (E : String) (ce : Cell), B.U.heap = t.heap ∧ B.U.vm = t.vm ∧ XC E (A.U.calling g mk a) t ∧ t.heap[q]? = some ce ∧ ce.vm = .none ∧ A.U.vm.findClass E = some ce.cls ∧ B.locs = A.locs ++ L ∧ (∀ z ∈ L, free z.base) ∧ B.cells = A.cells + mc ∧ B.slots = A.slots + ms
def vx_Back (l : Launch) (R : Room) (p : Program) (e : Env) (below : List Frame) (s : State) (sargs : Array Value) (y : MethodName) (len W9 : Nat)
    (Pre : Pt → Array Value → Prop) (Post : Pt → Array Value → Option Value → Pt → Prop) (PostX : Pt → Array Value → Addr → Pt → Prop) : Prop :=
  ∀ (m : MethodId) (meth : Method) (c : Code) (A : Pt) (g : JFrame) (ig : Instr) (mk : MethodId) (a : Array Value),
    Stand p l e R s m sargs below meth c A.U A.locs A.cells A.slots → g.method = m → g.locals.size = c.maxLocals → decode c.code g.pc = .ok (ig, len) →
    2 * g.monitorRoom + (g.stack.map fun v => v.category).sum ≤ W9 → A.U.methodNamed? y = some mk → Pre A a →
    (∃ (v : Option Value) (B : Pt), Stand p l e R s m sargs below meth c B.U B.locs B.cells B.slots ∧ Post A a v B ∧
      Steps p.tables e below (doInvoke e (A.U.setTop g) [] mk a).1 (B.U.setTop { g with pc := g.pc + len, stack := v.toList ++ g.stack })) ∨
    (∃ (q : Addr) (B : Pt), Stand p l e R s m sargs below meth c B.U B.locs B.cells B.slots ∧ PostX A a q B ∧
      Steps p.tables e below (doInvoke e (A.U.setTop g) [] mk a).1 ((B.U.setTop g).pushFrame (.throwing q)))
section Payer
variable {l : Launch} {R : Room} {p : Program} {e : Env} {below : List Frame} {s : State} {sargs : Array Value} {y : MethodName} {len W9 : Nat}
theorem vx_back {ws : List Cond} {rm : Room} {Pc : Array Value → State → Prop} {Qc : Array Value → State → Outcome → State → Prop} {XC : String → State → State → Prop} {mc ms : Nat} {free : Addr → Prop} {bytes : ByteArray} {maxL : Nat} {ret : Option FieldType}
    (hM : vx_Met l y ws rm Pc Qc XC mc ms free) (hblind : FrameBlind Pc) (hrc : rm.cells = mc) (hrs : rm.slots = ms)
    (hframes : rm.frames + 1 ≤ R.frames) (hlocals : W9 + (maxL + 11) + rm.locals ≤ R.locals)
    (hws : ∀ w ∈ ws, ∀ a' U, s.WarmedH U.vm → w.before a' U = true) (hcode : Cond.code y bytes maxL ret ∈ ws) (hinit : ∀ a' U, s.WarmedH U.vm → (Cond.initialized y.cls).before a' U = true) :
    vx_Back l R p e below s sargs y len W9 (PreOf R mc ms Pc) (PostOf Qc mc ms free) (vx_Post XC mc ms free) := by
  intro m meth c A g ig mk a X hg hsize hdg hW hn hp
  have h1 : (headSpec ws rm).pre.before a A.U = true := atoms_intro fun w hw => hws w hw _ _ X.warmed
  have h2 : (Cond.code y bytes maxL ret).before a A.U = true := hws _ hcode _ _ X.warmed
  have h3 : (Cond.initialized y.cls).before a A.U = true := hinit _ _ X.warmed
  have h4 : A.cells + (headSpec ws rm).room.cells ≤ R.cells := by rw [show (headSpec ws rm).room.cells = mc from hrc]; exact hp.1
  have h5 : A.slots + (headSpec ws rm).room.slots ≤ R.slots := by rw [show (headSpec ws rm).room.slots = ms from hrs]; exact hp.2.1
  have hPc : Pc a (A.U.calling g mk a) := hblind _ _ _ _ hp.2.2
  obtain ⟨U, Ls, c0, s0⟩ := A
  dsimp only [Pt.U, Pt.locs, Pt.cells, Pt.slots] at h1 h2 h3 h4 h5 X hn hPc ⊢
  obtain ⟨methY, cY, hmY, hcY, -, hlY, -, -, -, -⟩ := Cond.code_spec hn h2
  obtain ⟨kY, hkY, -⟩ := className_of_methodNamed hn
  have hinitY : kY.init = .initialized := Cond.initialized_spec (findClass_of_methodNamed hn) hkY h3
  have h : At U g.method c below := by rw [hg]; exact X.here
  have hlocals9 : W9 + (maxL + 11) + (headSpec ws rm).room.locals ≤ R.locals := hlocals
  have happ : (headSpec ws rm).appliesLoose y e.platform (U.calling g mk a) = true :=
    Spec.appliesLoose_calling (g := g) h hdg hn hkY hinitY
      (X.room_calling (g := g) (R' := (headSpec ws rm).room) hsize hmY hcY hframes (by rw [hlY]; omega) h4 h5) h1
  obtain ⟨mid, hmid⟩ := h.above
  have hfr : (U.setTop g).frames = (.java g :: mid) ++ below := by rw [State.frames_setTop' g h.top, hmid]; rfl
  obtain ⟨o, s₂, hsteps, -, hend, hq⟩ := Steps.callFree hM p X.admits X.cas X.clock (acts := []) hfr happ hPc trivial
  have hq' : vx_Q Qc XC mc ms free a (U.calling g mk a) o s₂ := hq
  rw [State.frames_setTop' g h.top] at hend
  obtain ⟨g₀, hg0⟩ := Option.isSome_iff_exists.mp h.top
  obtain ⟨r, hr⟩ := State.topJava?_eq_some.mp hg0
  have hr' : (({ U with heap := s₂.heap, slotsUsed := s₂.slotsUsed } : State).setVm s₂.vm).frames = .java g₀ :: r := hr
  rcases hq' with ⟨hqc, L, hfe, hL⟩ | ⟨q, rfl, E, ce, L, hx, hce, hcv, hcl, hW₂, hsm, hL⟩
  · obtain ⟨⟨v, rfl⟩, hW₂, e2, q2, q3, q4, q5, q6⟩ := id hfe
    have e3 : s₂ = ({ (U.calling g mk a).setFrames s₂.frames with heap := s₂.heap, slotsUsed := s₂.slotsUsed } : State).setVm s₂.vm := by
      have : s₂ = ({ s₂ with vm := (U.calling g mk a).vm } : State).setVm s₂.vm := rfl
      rw [e2] at this
      exact this
    obtain ⟨c₂, i₂, len₂, hc₂, hd₂, hf₂⟩ := hend
    have hW' : U.WarmedH s₂.vm := hW₂
    have hcc : c₂ = c := by
      have h1 : s₂.code? g.method = U.code? g.method := by
        rw [State.code?_eq, State.code?_eq, hW'.alike.method?]
      exact Option.some.inj (hc₂.symm.trans (h1.trans h.code))
    subst hcc
    have hlen : len₂ = len := by rw [hdg] at hd₂; cases hd₂; rfl
    subst hlen
    have hs₂ : s₂ = (({ U with heap := s₂.heap, slotsUsed := s₂.slotsUsed } : State).setVm s₂.vm).setTop { g with pc := g.pc + len₂, stack := v.toList ++ g.stack } := by
      refine e3.trans ?_
      rw [hf₂, State.calling_eq h.top, State.setFrames_setFrames, State.setTop_of_frames _ hr', hr]
      rfl
    have hsame : U.sameButNew ({ U with heap := s₂.heap, slotsUsed := s₂.slotsUsed } : State) L mc ms := by
      refine ⟨?_, q2, q3, q4, q5, q6⟩
      obtain ⟨t, ht, -⟩ := State.frames_cons hr
      show ({ U with heap := s₂.heap, slotsUsed := s₂.slotsUsed } : State) = { U.setFrames U.frames with heap := s₂.heap, slotsUsed := s₂.slotsUsed }
      rw [State.setFrames_self ht]
    subst hg
    refine Or.inl ⟨v, ⟨(({ U with heap := s₂.heap, slotsUsed := s₂.slotsUsed } : State).setVm s₂.vm), Ls ++ L, c0 + mc, s0 + ms⟩,
      ⟨X.admits, X.cas, X.clock, X.frames, X.room, X.hears, X.method, X.code, (X.here.setHeapUsed s₂.heap s₂.slotsUsed).setVm hW'.alike, X.tail, State.WarmedH.trans X.warmed hW', X.limits, X.bytes, X.same.trans (hsame.setVm s.vm)⟩,
      ⟨g, mk, s₂, L, rfl, rfl, hqc, rfl, hL, rfl, rfl⟩, ?_⟩
    show Steps p.tables e below _ ((({ U with heap := s₂.heap, slotsUsed := s₂.slotsUsed } : State).setVm s₂.vm).setTop { g with pc := g.pc + len₂, stack := v.toList ++ g.stack })
    rw [← hs₂]
    exact hsteps
  · obtain ⟨e2, q2, q3, q4, q5, q6⟩ := id hsm
    have e3 : s₂ = ({ (U.calling g mk a).setFrames s₂.frames with heap := s₂.heap, slotsUsed := s₂.slotsUsed } : State).setVm s₂.vm := by
      have : s₂ = ({ s₂ with vm := (U.calling g mk a).vm } : State).setVm s₂.vm := rfl
      rw [e2] at this
      exact this
    have hf₂ : s₂.frames = .throwing q :: .java g :: U.frames.tail := hend
    have hW' : U.WarmedH s₂.vm := hW₂
    have hs₂ : s₂ = ((({ U with heap := s₂.heap, slotsUsed := s₂.slotsUsed } : State).setVm s₂.vm).setTop g).pushFrame (.throwing q) := by
      refine e3.trans ?_
      rw [hf₂, State.calling_eq h.top, State.setFrames_setFrames, State.pushFrame, State.frames_setTop _ hr', State.setTop_of_frames _ hr', State.setFrames_setFrames, hr]
      rfl
    have hsame : U.sameButNew ({ U with heap := s₂.heap, slotsUsed := s₂.slotsUsed } : State) L mc ms := by
      refine ⟨?_, q2, q3, q4, q5, q6⟩
      obtain ⟨t, ht, -⟩ := State.frames_cons hr
      show ({ U with heap := s₂.heap, slotsUsed := s₂.slotsUsed } : State) = { U.setFrames U.frames with heap := s₂.heap, slotsUsed := s₂.slotsUsed }
      rw [State.setFrames_self ht]
    subst hg
    refine Or.inr ⟨q, ⟨(({ U with heap := s₂.heap, slotsUsed := s₂.slotsUsed } : State).setVm s₂.vm), Ls ++ L, c0 + mc, s0 + ms⟩,
      ⟨X.admits, X.cas, X.clock, X.frames, X.room, X.hears, X.method, X.code, (X.here.setHeapUsed s₂.heap s₂.slotsUsed).setVm hW'.alike, X.tail, State.WarmedH.trans X.warmed hW', X.limits, X.bytes, X.same.trans (hsame.setVm s.vm)⟩,
      ⟨g, mk, s₂, L, E, ce, rfl, rfl, hx, hce, hcv, hcl, rfl, hL, rfl, rfl⟩, ?_⟩
    show Steps p.tables e below _ (((({ U with heap := s₂.heap, slotsUsed := s₂.slotsUsed } : State).setVm s₂.vm).setTop g).pushFrame (.throwing q))
    rw [← hs₂]
    exact hsteps
end Payer
section Calls
variable {p : Program} {l : Launch} {e : Env} {R : Room} {s : State} {m : MethodId} {args : Array Value} {below : List Frame} {meth : Method} {c : Code} {T : State} {locs : List Loc} {cells slots : Nat}
theorem vx_callV (X : Stand p l e R s m args below meth c T locs cells slots) (hexec : p.tables.exec = Jvm.exec) {own C : String} {index : Nat} {y : MethodName} {bytes : ByteArray} {maxL : Nat} {ret : Option FieldType}
    (hown : s.vm.findClass own = some m.cls) (hlink : (Cond.methodLink own index y).before args s = true) (hinst : (Cond.instanceMethod y).before args s = true) (hsel : (Cond.selects C y y).before args s = true)
    (hcode : (Cond.code y bytes maxL ret).before args s = true) (hy : y.cls ≠ "java/lang/invoke/MethodHandle" ∧ y.cls ≠ "java/lang/invoke/VarHandle")
    {W9 : Nat} {Pre : Pt → Array Value → Prop} {Post : Pt → Array Value → Option Value → Pt → Prop} {PostX : Pt → Array Value → Addr → Pt → Prop} (hK : vx_Back l R p e below s args y 3 W9 Pre Post PostX)
    {b : Addr} {cellB : Cell} (hcell : T.heap[b]? = some cellB) (hobj : cellB.vm.isStatics = false) (hcls : s.vm.findClass C = some cellB.cls)
    {g : JFrame} (hg : g.method = m) (hsize : g.locals.size = c.maxLocals) {argsL rest : List Value} (hlen : ∀ sig, parseMethodDescriptor y.desc = some sig → argsL.length = sig.parameters.length)
    (hstack : g.stack = argsL.reverse ++ .ref b :: rest) (hW : 2 * g.monitorRoom + (rest.map fun v => v.category).sum ≤ W9) (hdg : decode c.code g.pc = .ok (.invokevirtual index, 3))
    (hpre : ∀ vm₁, s.WarmedH vm₁ → Pre ⟨T.setVm vm₁, locs, cells, slots⟩ (Value.ref b :: argsL).toArray) :
    (∃ (v : Option Value) (vm₁ : Vm) (B : Pt), s.WarmedH vm₁ ∧ Stand p l e R s m args below meth c B.U B.locs B.cells B.slots ∧ Post ⟨T.setVm vm₁, locs, cells, slots⟩ (Value.ref b :: argsL).toArray v B ∧
      ∀ target, Steps p.tables e below (B.U.setTop { g with pc := g.pc + 3, stack := v.toList ++ rest }) target → Steps p.tables e below (T.setTop g) target) ∨
    (∃ (q : Addr) (vm₁ : Vm) (B : Pt), s.WarmedH vm₁ ∧ Stand p l e R s m args below meth c B.U B.locs B.cells B.slots ∧ PostX ⟨T.setVm vm₁, locs, cells, slots⟩ (Value.ref b :: argsL).toArray q B ∧
      Steps p.tables e below (T.setTop g) ((B.U.setTop { g with stack := rest }).pushFrame (.throwing q))) := by
  obtain ⟨mk, methM, hnamed, hmethM, hstM, habM⟩ := Cond.instanceMethod_spec hinst
  obtain ⟨methM', cM, hmethM', -, -, -, -, -, -, hsigM⟩ := Cond.code_spec hnamed hcode
  cases hmethM.symm.trans hmethM'
  obtain ⟨c2, r2, m2, q1, q2, q3, q4, kP, hkP, hkPi⟩ := Cond.selects_spec hsel
  cases hcls.symm.trans q1
  cases (State.methodFound?_of_named hnamed hy).symm.trans q2
  cases hnamed.symm.trans q3
  have hselP : selectMethod e.platform s.vm cellB.cls mk = .method mk := by rw [Launch.admits_selectMethod X.admits]; exact q4
  obtain ⟨vm₁, X₁, hstep₁⟩ := X.invokevirtual hexec hown hlink hnamed hmethM hstM hkP hkPi hy (a := b) (cell := cellB) hcell
    (fun z h => by rw [h] at hobj; cases hobj) hselP hmethM habM hkP hkPi (g := g) hg (argsL := argsL) (rest := rest) (hlen _ hsigM) hstack hdg
  rcases hK m meth c ⟨T.setVm vm₁, locs, cells, slots⟩ { g with stack := rest } (.invokevirtual index) mk (Value.ref b :: argsL).toArray X₁ hg hsize hdg hW (X₁.named hnamed) (hpre vm₁ X₁.warmed) with ⟨v, B, X', hpost, hsteps⟩ | ⟨q, B, X', hpost, hsteps⟩
  · exact Or.inl ⟨v, vm₁, B, X₁.warmed, X', hpost, fun target h => hstep₁ _ fun acts => by rw [doInvoke_state]; exact hsteps.trans h⟩
  · exact Or.inr ⟨q, vm₁, B, X₁.warmed, X', hpost, hstep₁ _ fun acts => by rw [doInvoke_state]; exact hsteps⟩
theorem vx_callS (X : Stand p l e R s m args below meth c T locs cells slots) (hexec : p.tables.exec = Jvm.exec) {own : String} {index : Nat} {y : MethodName} {bytes : ByteArray} {maxL : Nat} {ret : Option FieldType}
    (hown : s.vm.findClass own = some m.cls) (hlink : (Cond.methodLink own index y).before args s = true) (hstat : (Cond.static y).before args s = true) (hinit : (Cond.initialized y.cls).before args s = true)
    (hcode : (Cond.code y bytes maxL ret).before args s = true) (hy : y.cls ≠ "java/lang/invoke/MethodHandle" ∧ y.cls ≠ "java/lang/invoke/VarHandle")
    {W9 : Nat} {Pre : Pt → Array Value → Prop} {Post : Pt → Array Value → Option Value → Pt → Prop} {PostX : Pt → Array Value → Addr → Pt → Prop} (hK : vx_Back l R p e below s args y 3 W9 Pre Post PostX)
    {g : JFrame} (hg : g.method = m) (hsize : g.locals.size = c.maxLocals) {argsL rest : List Value} (hlen : ∀ sig, parseMethodDescriptor y.desc = some sig → argsL.length = sig.parameters.length)
    (hstack : g.stack = argsL.reverse ++ rest) (hW : 2 * g.monitorRoom + (rest.map fun v => v.category).sum ≤ W9) (hdg : decode c.code g.pc = .ok (.invokestatic index, 3))
    (hpre : ∀ vm₁, s.WarmedH vm₁ → Pre ⟨T.setVm vm₁, locs, cells, slots⟩ argsL.toArray) :
    (∃ (v : Option Value) (vm₁ : Vm) (B : Pt), s.WarmedH vm₁ ∧ Stand p l e R s m args below meth c B.U B.locs B.cells B.slots ∧ Post ⟨T.setVm vm₁, locs, cells, slots⟩ argsL.toArray v B ∧
      ∀ target, Steps p.tables e below (B.U.setTop { g with pc := g.pc + 3, stack := v.toList ++ rest }) target → Steps p.tables e below (T.setTop g) target) ∨
    (∃ (q : Addr) (vm₁ : Vm) (B : Pt), s.WarmedH vm₁ ∧ Stand p l e R s m args below meth c B.U B.locs B.cells B.slots ∧ PostX ⟨T.setVm vm₁, locs, cells, slots⟩ argsL.toArray q B ∧
      Steps p.tables e below (T.setTop g) ((B.U.setTop { g with stack := rest }).pushFrame (.throwing q))) := by
  obtain ⟨mk, hnamed⟩ := Cond.code_named hcode
  obtain ⟨methM, cM, hmethM, -, -, -, -, -, -, hsigM⟩ := Cond.code_spec hnamed hcode
  have hstatic : methM.isStatic = true := Cond.static_spec hnamed hmethM hstat
  obtain ⟨kP, hkP, -⟩ := className_of_methodNamed hnamed
  have hinitP : kP.init = .initialized := Cond.initialized_spec (findClass_of_methodNamed hnamed) hkP hinit
  obtain ⟨vm₁, X₁, hstep₁⟩ := X.invokestatic hexec hown hlink hnamed hmethM hstatic hkP hinitP hy (g := g) hg (argsL := argsL) (rest := rest) (hlen _ hsigM) hstack hdg
  rcases hK m meth c ⟨T.setVm vm₁, locs, cells, slots⟩ { g with stack := rest } (.invokestatic index) mk argsL.toArray X₁ hg hsize hdg hW (X₁.named hnamed) (hpre vm₁ X₁.warmed) with ⟨v, B, X', hpost, hsteps⟩ | ⟨q, B, X', hpost, hsteps⟩
  · exact Or.inl ⟨v, vm₁, B, X₁.warmed, X', hpost, fun target h => hstep₁ _ fun acts => by rw [doInvoke_state]; exact hsteps.trans h⟩
  · exact Or.inr ⟨q, vm₁, B, X₁.warmed, X', hpost, hstep₁ _ fun acts => by rw [doInvoke_state]; exact hsteps⟩
end Calls
theorem vx_cls {s : State} {T : State} {vm₁ : Vm} {E : String} {k : ClassId} (hW : s.WarmedH vm₁) (h : (T.setVm vm₁).vm.findClass E = some k) : s.vm.findClass E = some k := by
  have h1 : vm₁.findClass E = some k := h
  rw [hW.alike.findClass] at h1
  exact h1
/-- the method's frame g, with q thrown over it -/
def vx_W (p : Program) (l : Launch) (e : Env) (R : Room) (s : State) (m : MethodId) (args : Array Value) (below : List Frame) (meth : Method) (c : Code) (H : Heap) (locs : List Loc) (cells slots : Nat) (Q : State → Prop) (g : JFrame) (q : Addr) : Prop :=
  ∀ T : State, T.heap = H → Stand p l e R s m args below meth c T locs cells slots → ∃ t, Steps p.tables e below ((T.setTop g).pushFrame (.throwing q)) t ∧ Q t
def vx_Run (p : Program) (l : Launch) (e : Env) (R : Room) (s : State) (m : MethodId) (args : Array Value) (below : List Frame) (meth : Method) (c : Code) (H : Heap) (locs : List Loc) (cells slots mc ms : Nat) (g : JFrame) (rest : List Value) (Qa : State → Outcome → State → Prop) (XC : String → State → State → Prop) (free : Addr → Prop) : Prop :=
  ∀ T : State, T.heap = H → Stand p l e R s m args below meth c T locs cells slots →
    (∃ (v : Option Value) (st₀ t T' : State) (L : List Loc), st₀.heap = H ∧ Stand p l e R s m args below meth c T' (locs ++ L) (cells + mc) (slots + ms) ∧ (∀ q ∈ L, free q.base) ∧ T'.heap = t.heap ∧ T'.vm = t.vm ∧ Qa st₀ (.returned v) t ∧
      Goes p e below T g T' { g with pc := g.pc + 3, stack := v.toList ++ rest }) ∨
    (∃ (q : Addr) (st₀ t T' : State) (L : List Loc) (E : String) (ce : Cell), st₀.heap = H ∧ Stand p l e R s m args below meth c T' (locs ++ L) (cells + mc) (slots + ms) ∧ (∀ z ∈ L, free z.base) ∧ T'.heap = t.heap ∧ T'.vm = t.vm ∧ XC E st₀ t ∧ t.heap[q]? = some ce ∧ ce.vm = .none ∧ s.vm.findClass E = some ce.cls ∧
      Steps p.tables e below (T.setTop g) ((T'.setTop { g with stack := rest }).pushFrame (.throwing q)))
def vx_X {S : Type} (px : S → Prop) (B : String → S → State → Prop) (A : Nat → Prop) : String → State → State → Prop := fun E st t => ∃ u : S, px u ∧ B E u t ∧ va_F A st t
section Runs
variable {p : Program} {l : Launch} {e : Env} {R : Room} {s : State} {m : MethodId} {args : Array Value} {below : List Frame} {meth : Method} {c : Code} {H : Heap} {locs : List Loc} {cells slots : Nat}
variable {y : MethodName} {bytes cc : ByteArray} {maxL nL mc ms n index : Nat} {ret : Option FieldType} {ws : List Cond} {rm : Room} {Pc : Array Value → State → Prop} {Qc : Array Value → State → Outcome → State → Prop} {XC : String → State → State → Prop} {free : Addr → Prop} {Ts : List Cond} {own C : String} {b : Addr} {As rest : List Value} {g : JFrame}
theorem vx_callBack (cb : CallB R s args own index y bytes maxL ret ws rm mc ms n) (hM : vx_Met l y ws rm Pc Qc XC mc ms free) (hbl : FrameBlind Pc) : vx_Back l R p e below s args y 3 8 (PreOf R mc ms Pc) (PostOf Qc mc ms free) (vx_Post XC mc ms free) := by
  obtain ⟨hrc, hrs, hfr, hlo, hws, hcw, -, hini, -⟩ := cb
  exact vx_back (bytes := bytes) (maxL := maxL) (ret := ret) hM hbl hrc hrs hfr hlo hws hcw (fun a' U hW => word_at hW (Or.inl (by first | rfl | simp [Cond.onTables, Cond.keeps, Cond.steady])) hini)
theorem vx_runV (S : CallFix p m c cc nL s args Ts own) (hM : vx_Met l y ws rm Pc Qc XC mc ms free) (cw : CallW R s args own C index y bytes maxL ret ws rm mc ms n) (hp : PreV s H C b Pc As)
    (hg : g.method = m) (hn : As.length = n) (hsize : g.locals.size = nL) (hstack : g.stack = As.reverse ++ .ref b :: rest) (hW : 2 * g.monitorRoom + (rest.map fun v => v.category).sum ≤ 8) (hdg : decode cc g.pc = .ok (.invokevirtual index, 3)) (hf : cells + mc ≤ R.cells ∧ slots + ms ≤ R.slots) :
    vx_Run p l e R s m args below meth c H locs cells slots mc ms g rest (Qc (Value.ref b :: As).toArray) XC free := by
  have hK : vx_Back l R p e below s args y 3 8 (PreOf R mc ms Pc) (PostOf Qc mc ms free) (vx_Post XC mc ms free) := vx_callBack cw.1 hM hp.1
  obtain ⟨⟨-, -, -, -, -, -, hcode, -, hy, hlen, hl⟩, hin, hse⟩ := cw
  obtain ⟨hx, hb, hml, ho, -⟩ := S
  obtain ⟨-, ⟨cellB, hcB, hoB, hclB⟩, hPc⟩ := hp
  intro T hT X
  rcases vx_callV X hx (C := C) (bytes := bytes) (maxL := maxL) (ret := ret) ho hl hin hse hcode hy hK (by rw [hT]; exact hcB) hoB hclB hg (hsize.trans hml.symm) (argsL := As) (rest := rest) (fun sig h => hn.trans (hlen sig h)) hstack hW (by rw [hb]; exact hdg)
    (fun vm₁ hW₁ => ⟨hf.1, hf.2, hPc (T.setVm vm₁) hT hW₁⟩) with ⟨v, vm₁, ⟨U', l2, c2, s2⟩, hW₁, X', ⟨g', mk, t, L, e1, e2, hq, h1, hL, h2, h3⟩, st⟩ | ⟨q, vm₁, ⟨U', l2, c2, s2⟩, hW₁, X', ⟨g', mk, t, L, E, ce, e1, e2, hq, hce, hcv, hcl, h1, hL, h2, h3⟩, st⟩
  · dsimp only [Pt.U, Pt.locs, Pt.cells, Pt.slots] at X' e1 e2 h1 h2 h3 st
    subst h1; subst h2; subst h3
    exact Or.inl ⟨v, (T.setVm vm₁).calling g' mk (Value.ref b :: As).toArray, t, U', L, hT, X', hL, e1, e2, hq, st⟩
  · dsimp only [Pt.U, Pt.locs, Pt.cells, Pt.slots] at X' e1 e2 h1 h2 h3 st hcl
    subst h1; subst h2; subst h3
    exact Or.inr ⟨q, (T.setVm vm₁).calling g' mk (Value.ref b :: As).toArray, t, U', L, E, ce, hT, X', hL, e1, e2, hq, hce, hcv, vx_cls hW₁ hcl, st⟩
theorem vx_runS (S : CallFix p m c cc nL s args Ts own) (hM : vx_Met l y ws rm Pc Qc XC mc ms free) (cw : CallB R s args own index y bytes maxL ret ws rm mc ms n ∧ (Cond.static y).before args s = true) (hp : PreS s H Pc As)
    (hg : g.method = m) (hn : As.length = n) (hsize : g.locals.size = nL) (hstack : g.stack = As.reverse ++ rest) (hW : 2 * g.monitorRoom + (rest.map fun v => v.category).sum ≤ 8) (hdg : decode cc g.pc = .ok (.invokestatic index, 3)) (hf : cells + mc ≤ R.cells ∧ slots + ms ≤ R.slots) :
    vx_Run p l e R s m args below meth c H locs cells slots mc ms g rest (Qc As.toArray) XC free := by
  have hK : vx_Back l R p e below s args y 3 8 (PreOf R mc ms Pc) (PostOf Qc mc ms free) (vx_Post XC mc ms free) := vx_callBack cw.1 hM hp.1
  obtain ⟨⟨-, -, -, -, -, -, hcode, hini, hy, hlen, hl⟩, hstt⟩ := cw
  obtain ⟨hx, hb, hml, ho, -⟩ := S
  intro T hT X
  rcases vx_callS X hx (bytes := bytes) (maxL := maxL) (ret := ret) ho hl hstt hini hcode hy hK hg (hsize.trans hml.symm) (argsL := As) (rest := rest) (fun sig h => hn.trans (hlen sig h)) hstack hW (by rw [hb]; exact hdg)
    (fun vm₁ hW₁ => ⟨hf.1, hf.2, hp.2 (T.setVm vm₁) hT hW₁⟩) with ⟨v, vm₁, ⟨U', l2, c2, s2⟩, hW₁, X', ⟨g', mk, t, L, e1, e2, hq, h1, hL, h2, h3⟩, st⟩ | ⟨q, vm₁, ⟨U', l2, c2, s2⟩, hW₁, X', ⟨g', mk, t, L, E, ce, e1, e2, hq, hce, hcv, hcl, h1, hL, h2, h3⟩, st⟩
  · dsimp only [Pt.U, Pt.locs, Pt.cells, Pt.slots] at X' e1 e2 h1 h2 h3 st
    subst h1; subst h2; subst h3
    exact Or.inl ⟨v, (T.setVm vm₁).calling g' mk As.toArray, t, U', L, hT, X', hL, e1, e2, hq, st⟩
  · dsimp only [Pt.U, Pt.locs, Pt.cells, Pt.slots] at X' e1 e2 h1 h2 h3 st hcl
    subst h1; subst h2; subst h3
    exact Or.inr ⟨q, (T.setVm vm₁).calling g' mk As.toArray, t, U', L, E, ce, hT, X', hL, e1, e2, hq, hce, hcv, vx_cls hW₁ hcl, st⟩
end Runs
section Rows
variable {p : Program} {l : Launch} {e : Env} {R : Room} {s : State} {m : MethodId} {args : Array Value} {below : List Frame} {meth : Method} {c : Code} {H : Heap} {locs : List Loc} {cells slots : Nat} {Q : State → Prop}
variable {mc ms : Nat} {free : Addr → Prop} {A0 A1 : Nat → Prop} {H0 : Heap} {a : Array Value} {pc : Nat} {ls : Array Slot} {st0 rest : List Value}
theorem vx_keep {st₀ t T' : State} {L : List Loc} (h0 : st₀.heap = H) (e1 : T'.heap = t.heap) (hS : va_S A0 H0 H locs) (hA : ∀ q, q < H.size → A1 q → A0 q) (hf : ∀ q, free q → A0 q) (hL : ∀ q ∈ L, free q.base) (hF : va_F A1 st₀ t) :
    H.size ≤ T'.heap.size ∧ (∀ q : Nat, q < H.size → ¬ A1 q → T'.heap[q]? = H[q]?) ∧ va_S A0 H0 T'.heap (locs ++ L) := by
  obtain ⟨hz, hk⟩ := hF
  rw [h0] at hz hk
  exact ⟨by rw [e1]; exact hz, fun q h1 h2 => by rw [e1]; exact hk q h1 h2,
    ⟨Nat.le_trans hS.1 (by rw [e1]; exact hz), fun q h1 h2 => by rw [e1, hk q (Nat.lt_of_lt_of_le h1 hS.1) (fun z => h2 (hA q (Nat.lt_of_lt_of_le h1 hS.1) z))]; exact hS.2.1 q h1 h2, fun q hq => by
      rcases List.mem_append.mp hq with h | h
      · exact hS.2.2 q h
      · exact hf _ (hL q h)⟩⟩
theorem vx_calli {S SX : Type} {post : Int32 → S → Prop} {px : SX → Prop} {B : S → State → Prop} {BX : String → SX → State → Prop} {AX : Nat → Prop} (hr : vx_Run p l e R s m args below meth c H locs cells slots mc ms (F0 m pc ls st0) rest (va_Qi post B A1 a) (vx_X px BX AX) free) (hS : va_S A0 H0 H locs) (hA : ∀ q, q < H.size → A1 q → A0 q) (hf : ∀ q, free q → A0 q) (hAX : ∀ q, q < H.size → AX q → A0 q)
    (kx : ∀ (E : String) (ce : Cell) (q9 : Addr) (u : SX) (t : State) (H1 : Heap) (locs1 : List Loc), t.heap = H1 → s.vm.Alike t.vm → px u → BX E u t → H.size ≤ H1.size → (∀ q : Nat, q < H.size → ¬ AX q → H1[q]? = H[q]?) → va_S A0 H0 H1 locs1 → H1[q9]? = some ce → ce.vm = .none → s.vm.findClass E = some ce.cls → vx_W p l e R s m args below meth c H1 locs1 (cells + mc) (slots + ms) Q (F0 m pc ls rest) q9)
    (kk : ∀ (r : Int32) (u : S) (t : State) (H1 : Heap) (locs1 : List Loc), t.heap = H1 → s.vm.Alike t.vm → post r u → B u t → H.size ≤ H1.size → (∀ q : Nat, q < H.size → ¬ A1 q → H1[q]? = H[q]?) → va_S A0 H0 H1 locs1 → W p l e R s m args below meth c H1 locs1 (cells + mc) (slots + ms) Q (F0 m (pc + 3) ls (.int r :: rest))) : W p l e R s m args below meth c H locs cells slots Q (F0 m pc ls st0) := by
  intro T hT X
  rcases hr T hT X with ⟨v, st₀, t, T', L, h0, X', hL, e1, e2, ⟨⟨r, u, hv, hp, hb⟩, hF⟩, st⟩ | ⟨q, st₀, t, T', L, E, ce, h0, X', hL, e1, e2, ⟨u, hp, hb, hF⟩, hce, hcv, hcl, st⟩
  · cases hv
    obtain ⟨k1, k2, k3⟩ := vx_keep h0 e1 hS hA hf hL hF
    obtain ⟨t2, a1, b1⟩ := kk r u t T'.heap (locs ++ L) e1.symm (by rw [← e2]; exact X'.warmed.alike) hp hb k1 k2 k3 T' rfl X'
    exact ⟨t2, st t2 a1, b1⟩
  · obtain ⟨k1, k2, k3⟩ := vx_keep h0 e1 hS hAX hf hL hF
    obtain ⟨t2, a1, b1⟩ := kx E ce q u t T'.heap (locs ++ L) e1.symm (by rw [← e2]; exact X'.warmed.alike) hp hb k1 k2 k3 (by rw [e1]; exact hce) hcv hcl T' rfl X'
    exact ⟨t2, st.trans a1, b1⟩
theorem vx_calll {S SX : Type} {post : Int64 → S → Prop} {px : SX → Prop} {B : S → State → Prop} {BX : String → SX → State → Prop} {AX : Nat → Prop} (hr : vx_Run p l e R s m args below meth c H locs cells slots mc ms (F0 m pc ls st0) rest (va_Ql post B A1 a) (vx_X px BX AX) free) (hS : va_S A0 H0 H locs) (hA : ∀ q, q < H.size → A1 q → A0 q) (hf : ∀ q, free q → A0 q) (hAX : ∀ q, q < H.size → AX q → A0 q)
    (kx : ∀ (E : String) (ce : Cell) (q9 : Addr) (u : SX) (t : State) (H1 : Heap) (locs1 : List Loc), t.heap = H1 → s.vm.Alike t.vm → px u → BX E u t → H.size ≤ H1.size → (∀ q : Nat, q < H.size → ¬ AX q → H1[q]? = H[q]?) → va_S A0 H0 H1 locs1 → H1[q9]? = some ce → ce.vm = .none → s.vm.findClass E = some ce.cls → vx_W p l e R s m args below meth c H1 locs1 (cells + mc) (slots + ms) Q (F0 m pc ls rest) q9)
    (kk : ∀ (r : Int64) (u : S) (t : State) (H1 : Heap) (locs1 : List Loc), t.heap = H1 → s.vm.Alike t.vm → post r u → B u t → H.size ≤ H1.size → (∀ q : Nat, q < H.size → ¬ A1 q → H1[q]? = H[q]?) → va_S A0 H0 H1 locs1 → W p l e R s m args below meth c H1 locs1 (cells + mc) (slots + ms) Q (F0 m (pc + 3) ls (.long r :: rest))) : W p l e R s m args below meth c H locs cells slots Q (F0 m pc ls st0) := by
  intro T hT X
  rcases hr T hT X with ⟨v, st₀, t, T', L, h0, X', hL, e1, e2, ⟨⟨r, u, hv, hp, hb⟩, hF⟩, st⟩ | ⟨q, st₀, t, T', L, E, ce, h0, X', hL, e1, e2, ⟨u, hp, hb, hF⟩, hce, hcv, hcl, st⟩
  · cases hv
    obtain ⟨k1, k2, k3⟩ := vx_keep h0 e1 hS hA hf hL hF
    obtain ⟨t2, a1, b1⟩ := kk r u t T'.heap (locs ++ L) e1.symm (by rw [← e2]; exact X'.warmed.alike) hp hb k1 k2 k3 T' rfl X'
    exact ⟨t2, st t2 a1, b1⟩
  · obtain ⟨k1, k2, k3⟩ := vx_keep h0 e1 hS hAX hf hL hF
    obtain ⟨t2, a1, b1⟩ := kx E ce q u t T'.heap (locs ++ L) e1.symm (by rw [← e2]; exact X'.warmed.alike) hp hb k1 k2 k3 (by rw [e1]; exact hce) hcv hcl T' rfl X'
    exact ⟨t2, st.trans a1, b1⟩
theorem vx_callf {S SX : Type} {post : UInt32 → S → Prop} {px : SX → Prop} {B : S → State → Prop} {BX : String → SX → State → Prop} {AX : Nat → Prop} (hr : vx_Run p l e R s m args below meth c H locs cells slots mc ms (F0 m pc ls st0) rest (va_Qf post B A1 a) (vx_X px BX AX) free) (hS : va_S A0 H0 H locs) (hA : ∀ q, q < H.size → A1 q → A0 q) (hf : ∀ q, free q → A0 q) (hAX : ∀ q, q < H.size → AX q → A0 q)
    (kx : ∀ (E : String) (ce : Cell) (q9 : Addr) (u : SX) (t : State) (H1 : Heap) (locs1 : List Loc), t.heap = H1 → s.vm.Alike t.vm → px u → BX E u t → H.size ≤ H1.size → (∀ q : Nat, q < H.size → ¬ AX q → H1[q]? = H[q]?) → va_S A0 H0 H1 locs1 → H1[q9]? = some ce → ce.vm = .none → s.vm.findClass E = some ce.cls → vx_W p l e R s m args below meth c H1 locs1 (cells + mc) (slots + ms) Q (F0 m pc ls rest) q9)
    (kk : ∀ (r : UInt32) (u : S) (t : State) (H1 : Heap) (locs1 : List Loc), t.heap = H1 → s.vm.Alike t.vm → post r u → B u t → H.size ≤ H1.size → (∀ q : Nat, q < H.size → ¬ A1 q → H1[q]? = H[q]?) → va_S A0 H0 H1 locs1 → W p l e R s m args below meth c H1 locs1 (cells + mc) (slots + ms) Q (F0 m (pc + 3) ls (.float r :: rest))) : W p l e R s m args below meth c H locs cells slots Q (F0 m pc ls st0) := by
  intro T hT X
  rcases hr T hT X with ⟨v, st₀, t, T', L, h0, X', hL, e1, e2, ⟨⟨r, u, hv, hp, hb⟩, hF⟩, st⟩ | ⟨q, st₀, t, T', L, E, ce, h0, X', hL, e1, e2, ⟨u, hp, hb, hF⟩, hce, hcv, hcl, st⟩
  · cases hv
    obtain ⟨k1, k2, k3⟩ := vx_keep h0 e1 hS hA hf hL hF
    obtain ⟨t2, a1, b1⟩ := kk r u t T'.heap (locs ++ L) e1.symm (by rw [← e2]; exact X'.warmed.alike) hp hb k1 k2 k3 T' rfl X'
    exact ⟨t2, st t2 a1, b1⟩
  · obtain ⟨k1, k2, k3⟩ := vx_keep h0 e1 hS hAX hf hL hF
    obtain ⟨t2, a1, b1⟩ := kx E ce q u t T'.heap (locs ++ L) e1.symm (by rw [← e2]; exact X'.warmed.alike) hp hb k1 k2 k3 (by rw [e1]; exact hce) hcv hcl T' rfl X'
    exact ⟨t2, st.trans a1, b1⟩
theorem vx_calld {S SX : Type} {post : UInt64 → S → Prop} {px : SX → Prop} {B : S → State → Prop} {BX : String → SX → State → Prop} {AX : Nat → Prop} (hr : vx_Run p l e R s m args below meth c H locs cells slots mc ms (F0 m pc ls st0) rest (va_Qd post B A1 a) (vx_X px BX AX) free) (hS : va_S A0 H0 H locs) (hA : ∀ q, q < H.size → A1 q → A0 q) (hf : ∀ q, free q → A0 q) (hAX : ∀ q, q < H.size → AX q → A0 q)
    (kx : ∀ (E : String) (ce : Cell) (q9 : Addr) (u : SX) (t : State) (H1 : Heap) (locs1 : List Loc), t.heap = H1 → s.vm.Alike t.vm → px u → BX E u t → H.size ≤ H1.size → (∀ q : Nat, q < H.size → ¬ AX q → H1[q]? = H[q]?) → va_S A0 H0 H1 locs1 → H1[q9]? = some ce → ce.vm = .none → s.vm.findClass E = some ce.cls → vx_W p l e R s m args below meth c H1 locs1 (cells + mc) (slots + ms) Q (F0 m pc ls rest) q9)
    (kk : ∀ (r : UInt64) (u : S) (t : State) (H1 : Heap) (locs1 : List Loc), t.heap = H1 → s.vm.Alike t.vm → post r u → B u t → H.size ≤ H1.size → (∀ q : Nat, q < H.size → ¬ A1 q → H1[q]? = H[q]?) → va_S A0 H0 H1 locs1 → W p l e R s m args below meth c H1 locs1 (cells + mc) (slots + ms) Q (F0 m (pc + 3) ls (.double r :: rest))) : W p l e R s m args below meth c H locs cells slots Q (F0 m pc ls st0) := by
  intro T hT X
  rcases hr T hT X with ⟨v, st₀, t, T', L, h0, X', hL, e1, e2, ⟨⟨r, u, hv, hp, hb⟩, hF⟩, st⟩ | ⟨q, st₀, t, T', L, E, ce, h0, X', hL, e1, e2, ⟨u, hp, hb, hF⟩, hce, hcv, hcl, st⟩
  · cases hv
    obtain ⟨k1, k2, k3⟩ := vx_keep h0 e1 hS hA hf hL hF
    obtain ⟨t2, a1, b1⟩ := kk r u t T'.heap (locs ++ L) e1.symm (by rw [← e2]; exact X'.warmed.alike) hp hb k1 k2 k3 T' rfl X'
    exact ⟨t2, st t2 a1, b1⟩
  · obtain ⟨k1, k2, k3⟩ := vx_keep h0 e1 hS hAX hf hL hF
    obtain ⟨t2, a1, b1⟩ := kx E ce q u t T'.heap (locs ++ L) e1.symm (by rw [← e2]; exact X'.warmed.alike) hp hb k1 k2 k3 (by rw [e1]; exact hce) hcv hcl T' rfl X'
    exact ⟨t2, st.trans a1, b1⟩
theorem vx_callv {S SX : Type} {post : S → Prop} {px : SX → Prop} {B : S → State → Prop} {BX : String → SX → State → Prop} {AX : Nat → Prop} (hr : vx_Run p l e R s m args below meth c H locs cells slots mc ms (F0 m pc ls st0) rest (va_Qv post B A1 a) (vx_X px BX AX) free) (hS : va_S A0 H0 H locs) (hA : ∀ q, q < H.size → A1 q → A0 q) (hf : ∀ q, free q → A0 q) (hAX : ∀ q, q < H.size → AX q → A0 q)
    (kx : ∀ (E : String) (ce : Cell) (q9 : Addr) (u : SX) (t : State) (H1 : Heap) (locs1 : List Loc), t.heap = H1 → s.vm.Alike t.vm → px u → BX E u t → H.size ≤ H1.size → (∀ q : Nat, q < H.size → ¬ AX q → H1[q]? = H[q]?) → va_S A0 H0 H1 locs1 → H1[q9]? = some ce → ce.vm = .none → s.vm.findClass E = some ce.cls → vx_W p l e R s m args below meth c H1 locs1 (cells + mc) (slots + ms) Q (F0 m pc ls rest) q9)
    (kk : ∀ (u : S) (t : State) (H1 : Heap) (locs1 : List Loc), t.heap = H1 → s.vm.Alike t.vm → post u → B u t → H.size ≤ H1.size → (∀ q : Nat, q < H.size → ¬ A1 q → H1[q]? = H[q]?) → va_S A0 H0 H1 locs1 → W p l e R s m args below meth c H1 locs1 (cells + mc) (slots + ms) Q (F0 m (pc + 3) ls (rest))) : W p l e R s m args below meth c H locs cells slots Q (F0 m pc ls st0) := by
  intro T hT X
  rcases hr T hT X with ⟨v, st₀, t, T', L, h0, X', hL, e1, e2, ⟨⟨u, hv, hp, hb⟩, hF⟩, st⟩ | ⟨q, st₀, t, T', L, E, ce, h0, X', hL, e1, e2, ⟨u, hp, hb, hF⟩, hce, hcv, hcl, st⟩
  · cases hv
    obtain ⟨k1, k2, k3⟩ := vx_keep h0 e1 hS hA hf hL hF
    obtain ⟨t2, a1, b1⟩ := kk u t T'.heap (locs ++ L) e1.symm (by rw [← e2]; exact X'.warmed.alike) hp hb k1 k2 k3 T' rfl X'
    exact ⟨t2, st t2 a1, b1⟩
  · obtain ⟨k1, k2, k3⟩ := vx_keep h0 e1 hS hAX hf hL hF
    obtain ⟨t2, a1, b1⟩ := kx E ce q u t T'.heap (locs ++ L) e1.symm (by rw [← e2]; exact X'.warmed.alike) hp hb k1 k2 k3 (by rw [e1]; exact hce) hcv hcl T' rfl X'
    exact ⟨t2, st.trans a1, b1⟩
/-- caught by the row x of this method's table; the rows ahead don't take it -/
theorem vx_catch {own name : String} {E : String} {ce : Cell} {q : Addr} (hown : s.vm.findClass own = some m.cls) (pre : List ExceptionTableEntry) (x : ExceptionTableEntry) (suf : List ExceptionTableEntry) (hsplit : c.exceptionTable.toList = pre ++ x :: suf)
    (hpass : ∀ z ∈ pre, covers z pc = false ∨ (z.catchType ≠ 0 ∧ ∃ nm : String, (Cond.classLink own z.catchType nm).before args s = true ∧ va_Nc E nm s)) (hx : covers x pc = true) (h0 : x.catchType ≠ 0)
    (hlink : (Cond.classLink own x.catchType name).before args s = true) (hcast : (Cond.castable E name).before args s = true) (hcell : H[q]? = some ce) (hv : ce.vm = .none) (hcl : s.vm.findClass E = some ce.cls)
    (kk : W p l e R s m args below meth c H locs cells slots Q (F0 m x.handlerPc ls [.ref q])) : vx_W p l e R s m args below meth c H locs cells slots Q (F0 m pc ls rest) q := by
  intro T hT X
  have hpl : e.platform.magicAccessors = ({} : Platform).magicAccessors := by rw [X.admits.platform]
  obtain ⟨c3, c4, hc3, hc4, hasg⟩ := Cond.castable_spec hcast
  cases Option.some.inj (hc3.symm.trans hcl)
  obtain ⟨c5, hc5, hcl5⟩ := Cond.classLink_spec hown hlink e.platform hpl
  cases Option.some.inj (hc4.symm.trans hc5)
  obtain ⟨vm', X', st⟩ := X.thenCaughtThrough q (g := F0 m pc ls rest) rfl (Steps.refl _) (by rw [hT]; exact hcell) (by rw [hv]; rfl) (by obtain ⟨k9, h9, -⟩ := Vm.findClass_spec hcl; exact ⟨k9, h9⟩) pre x suf hsplit
    (fun z hz => by
      rcases hpass z hz with h | ⟨hz0, nm, hl1, hn1⟩
      · exact Or.inl h
      · obtain ⟨c6, hc6, hcl6⟩ := Cond.classLink_spec hown hl1 e.platform hpl
        obtain ⟨a8, b8, h1, h2, h3⟩ := hn1
        cases Option.some.inj (h1.symm.trans hcl)
        cases Option.some.inj (h2.symm.trans hc6)
        exact Or.inr ⟨hz0, _, hcl6, h3⟩) hx (Or.inr ⟨h0, c4, hcl5, hasg⟩)
  obtain ⟨t, a1, b1⟩ := kk (T.setVm vm') hT X'
  exact ⟨t, st.trans a1, b1⟩
end Rows
section Ends
variable {p : Program} {l : Launch} {e : Env} {R : Room} {s : State} {m : MethodId} {args : Array Value} {below : List Frame} {meth : Method} {c : Code} {H : Heap} {locs : List Loc} {cells slots : Nat} {Q : State → Prop}
variable {mc ms : Nat} {free : Addr → Prop} {A0 A1 : Nat → Prop} {H0 : Heap} {a : Array Value} {ls : Array Slot} {st0 rest : List Value}
variable {Qc : Array Value → State → Outcome → State → Prop} {XC : String → State → State → Prop}
/-- what a body that may throw owes at its end -/
def vx_MQ (below : List Frame) (Qc : Array Value → State → Outcome → State → Prop) (XC : String → State → State → Prop) (a : Array Value) (s : State) (mc ms : Nat) (free : Addr → Prop) : State → Prop := fun t =>
  ∃ o, t.status = .running ∧ Ended t below o ∧ vx_Q Qc XC mc ms free a s o t
theorem vx_ret {g : JFrame} {mc ms : Nat} (k : W p l e R s m args below meth c H locs cells slots (MQ below Qc args s mc ms free) g) : W p l e R s m args below meth c H locs cells slots (vx_MQ below Qc XC args s mc ms free) g := by
  intro T hT X
  obtain ⟨t, a1, o, b1, b2, b3, b4⟩ := k T hT X
  exact ⟨t, a1, o, b1, b2, Or.inl ⟨b3, b4⟩⟩
/-- not caught here: it goes on to the caller -/
theorem vx_widen {g : JFrame} {q : Addr} {k n : Nat} (h1 : cells ≤ k) (h2 : slots ≤ n) (kk : vx_W p l e R s m args below meth c H locs k n Q g q) : vx_W p l e R s m args below meth c H locs cells slots Q g q := fun T hT X => kk T hT (stand_widen X h1 h2)
theorem vx_out {pc : Nat} {E : String} {ce : Cell} {q : Addr} {mc ms : Nat} (hout : ∀ x ∈ c.exceptionTable.toList, covers x pc = false) (hlocks : meth.locks = false) (hcell : H[q]? = some ce) (hv : ce.vm = .none) (hcl : s.vm.findClass E = some ce.cls)
    (hx : ∀ t : State, t.heap = H → s.vm.Alike t.vm → XC E s t) (hf : ∀ z ∈ locs, free z.base) (hc : cells ≤ mc) (hs : slots ≤ ms) :
    vx_W p l e R s m args below meth c H locs cells slots (vx_MQ below Qc XC args s mc ms free) (F0 m pc ls rest) q := by
  intro T hT X
  obtain ⟨st1, hrun, hend, hW, hsm⟩ := X.leaveThrown q (g := F0 m pc ls rest) rfl rfl rfl hout hlocks
  have hcell9 : (T.setFrames (.throwing q :: below)).heap[q]? = some ce := by
    show T.heap[q]? = some ce
    rw [hT]; exact hcell
  exact ⟨_, st1, .threw q, hrun, hend, Or.inr ⟨q, rfl, E, ce, locs, hx _ hT hW.alike, hcell9, hv, hcl, hW, hsm.mono hc hs, hf⟩⟩
theorem vx_frame {U : State} {k n : Nat} (h : s.sameButNew ({ U with vm := s.vm } : State) locs k n) : s.heap.size ≤ U.heap.size ∧ ∀ q : Nat, q < s.heap.size → (∀ z ∈ locs, z.base ≠ q) → U.heap[q]? = s.heap[q]? := by
  obtain ⟨-, h2, -, -, -, h6⟩ := h
  refine ⟨h2, fun q hq hz => ?_⟩
  obtain ⟨c9, e1, e2, e3, e4⟩ := h6 q _ (Array.getElem?_eq_getElem hq)
  have hs : c9.slots = (s.heap[q]).slots := Array.ext_getElem? fun i => e4 i fun hm => hz _ hm rfl
  have h9 : c9 = s.heap[q] := by
    rw [hs] at e2
    exact e2
  have e5 : U.heap[q]? = some c9 := e1
  rw [e5, h9, Array.getElem?_eq_getElem hq]
/-- the words of a throw but the four that speak of the heap -/
def vx_no (w : Cond) : Bool := decide (w ≠ .isRef (.static Bundle.tN "UNASSIGNED_STACK" Bundle.steD)) && decide (w ≠ .isRef (.static Bundle.tN "SUPPRESSED_SENTINEL" Bundle.listD)) && decide (w ≠ .laysStatic Bundle.tN "UNASSIGNED_STACK" Bundle.steD) && decide (w ≠ .laysStatic Bundle.tN "SUPPRESSED_SENTINEL" Bundle.listD)
def vx_at0 (own : String) (ic : Nat) (X : String) (names : List String) : List Cond := (Bundle.ownAtoms0 own ic X names).filter vx_no
def vx_atS (own : String) (ic : Nat) (X : String) (names : List String) : List Cond := (Bundle.ownAtoms own ic X names).filter vx_no
/-- a word that the tables alone decide, or a good one -/
def vx_ot (w : Cond) : Bool := w.onTables || goodWord w
theorem vx_ot_at {args a' : Array Value} {s U : State} {w : Cond} (hW : s.WarmedH U.vm) (hvm : s.vm = U.vm) (hg : vx_ot w = true) (h : w.before args s = true) : w.before a' U = true := by
  simp only [vx_ot, Bool.or_eq_true] at hg
  rcases hg with hg | hg
  · exact va_tabs hg hvm h
  · exact word_at hW (good_of_word hg) h
/-- a list's words: the good ones out of the method's own list, the others by premises of their own -/
theorem vx_hat {args : Array Value} {s : State} {L B : List Cond} (h1 : ∀ w ∈ L.filter goodWord, w.before args s = true) (h2 : ∀ w ∈ L.filter (fun w => !goodWord w), w ∈ B) (h3 : ∀ w ∈ B, w.before args s = true) : ∀ w ∈ L, w.before args s = true := by
  intro w hw
  by_cases g : goodWord w = true
  · exact h1 w (List.mem_filter.mpr ⟨hw, g⟩)
  · refine h3 w (h2 w (List.mem_filter.mpr ⟨hw, ?_⟩))
    show (!goodWord w) = true
    cases hgw : goodWord w
    · rfl
    · exact absurd hgw g
theorem vx_c {args : Array Value} {s : State} {w : Cond} {B : List Cond} (h : w.before args s = true) (t : ∀ w ∈ B, w.before args s = true) : ∀ w' ∈ w :: B, w'.before args s = true := fun w' h' => (List.mem_cons.mp h').elim (fun e => by rw [e]; exact h) (t w')
theorem vx_n {args : Array Value} {s : State} : ∀ w ∈ ([] : List Cond), w.before args s = true := fun _ h => nomatch h
theorem vx_own {args : Array Value} {s : State} {L : List Cond} (h1 : ∀ w ∈ L.filter vx_no, w.before args s = true)
    (hU : (Cond.isRef (.static Bundle.tN "UNASSIGNED_STACK" Bundle.steD)).before args s = true) (hN : (Cond.isRef (.static Bundle.tN "SUPPRESSED_SENTINEL" Bundle.listD)).before args s = true)
    (lU : (Cond.laysStatic Bundle.tN "UNASSIGNED_STACK" Bundle.steD).before args s = true) (lN : (Cond.laysStatic Bundle.tN "SUPPRESSED_SENTINEL" Bundle.listD).before args s = true) : ∀ w ∈ L, w.before args s = true := by
  intro w hw
  by_cases e1 : w = .isRef (.static Bundle.tN "UNASSIGNED_STACK" Bundle.steD)
  · rw [e1]; exact hU
  · by_cases e2 : w = .isRef (.static Bundle.tN "SUPPRESSED_SENTINEL" Bundle.listD)
    · rw [e2]; exact hN
    · by_cases e3 : w = .laysStatic Bundle.tN "UNASSIGNED_STACK" Bundle.steD
      · rw [e3]; exact lU
      · by_cases e4 : w = .laysStatic Bundle.tN "SUPPRESSED_SENTINEL" Bundle.listD
        · rw [e4]; exact lN
        · exact h1 w (List.mem_filter.mpr ⟨hw, by unfold vx_no; rw [decide_eq_true e1, decide_eq_true e2, decide_eq_true e3, decide_eq_true e4]; rfl⟩)
/-- where a static field lies, its class's statics cell in H -/
def vx_L (C n d : String) (A : Nat → Prop) (U : State) (H : Heap) : Prop := ∃ (c : ClassId) (k : Class) (i : Nat) (f : Field) (a : Nat) (cell : Cell), U.vm.findClass C = some c ∧ U.fieldFound? C n d = some (c, k, i, f) ∧ f.isStatic = true ∧ k.statics = some a ∧ H[a]? = some cell ∧ cell.vm.isStatics = true ∧ cell.cls = c ∧ f.slot < cell.slots.size ∧ k.staticTypes[f.slot]? = some f.type ∧ ¬ A a
theorem vx_L.moved {C n d : String} {A : Nat → Prop} {u U : State} {H : Heap} (hvm : u.vm.Alike U.vm) (h : vx_L C n d A u H) : vx_L C n d A U H := by
  obtain ⟨c, k, i, f, a, cell, h1, h2, h3, h4, h5, h6, h7, h8, h9, h10⟩ := h
  obtain ⟨k', hi', he⟩ := State.fieldFound?_setVm hvm h2
  exact ⟨c, k', i, f, a, cell, by rw [hvm.findClass]; exact h1, hi', h3, by rw [he]; exact h4, h5, h6, h7, h8, by rw [he]; exact h9, h10⟩
theorem vx_L.kept {C n d : String} {A : Nat → Prop} {U : State} {H H1 : Heap} (h : vx_L C n d A U H) (hq : ∀ a : Nat, a < H.size → ¬ A a → H1[a]? = H[a]?) : vx_L C n d A U H1 := by
  obtain ⟨c, k, i, f, a, cell, h1, h2, h3, h4, h5, h6, h7, h8, h9, h10⟩ := h
  exact ⟨c, k, i, f, a, cell, h1, h2, h3, h4, by rw [hq a (Array.getElem?_eq_some_iff.mp h5).1 h10]; exact h5, h6, h7, h8, h9, h10⟩
theorem vx_L.narrow {C n d : String} {A B : Nat → Prop} {U : State} {H : Heap} (h : vx_L C n d A U H) (hAB : ∀ q, B q → A q) : vx_L C n d B U H := by
  obtain ⟨c, k, i, f, a, cell, h1, h2, h3, h4, h5, h6, h7, h8, h9, h10⟩ := h
  exact ⟨c, k, i, f, a, cell, h1, h2, h3, h4, h5, h6, h7, h8, h9, fun z => h10 (hAB _ z)⟩
theorem vx_L.word {C n d : String} {A : Nat → Prop} {s : State} {args : Array Value} (h : vx_L C n d A s s.heap) : (Cond.laysStatic C n d).before args s = true := by
  obtain ⟨c, k, i, f, a, cell, h1, h2, h3, h4, h5, h6, h7, h8, h9, -⟩ := h
  show (Cond.laysStatic C n d).holds args s none s [] = true
  exact Cond.laysStatic_of h1 h2 h3 h4 h5 h6 h7 h8 h9
/-- .. and what it holds: null or some reference -/
def vx_Zq (C n d : String) (A : Nat → Prop) (U : State) (H : Heap) : Prop := va_Zq C n d A U H ∧ vx_L C n d A U H
theorem vx_Zq.moved {C n d : String} {A : Nat → Prop} {u U : State} {H : Heap} (hvm : u.vm.Alike U.vm) (h : vx_Zq C n d A u H) : vx_Zq C n d A U H := ⟨va_Zq.moved hvm h.1, vx_L.moved hvm h.2⟩
theorem vx_Zq.kept {C n d : String} {A : Nat → Prop} {U : State} {H H1 : Heap} (h : vx_Zq C n d A U H) (hq : ∀ a : Nat, a < H.size → ¬ A a → H1[a]? = H[a]?) : vx_Zq C n d A U H1 := ⟨va_Zq.kept h.1 hq, vx_L.kept h.2 hq⟩
theorem vx_Zq.narrow {C n d : String} {A B : Nat → Prop} {U : State} {H : Heap} (h : vx_Zq C n d A U H) (hAB : ∀ q, B q → A q) : vx_Zq C n d B U H := ⟨va_Zq.narrow h.1 hAB, vx_L.narrow h.2 hAB⟩
theorem vx_Zqof {args : Array Value} {s : State} {C n d : String} {A : Nat → Prop} (hl : (Cond.laysStatic C n d).before args s = true) (hini : (Cond.initialized C).before args s = true) (h : (Cond.isRef (.static C n d)).before args s = true) (hA : ∀ a : Nat, a < s.heap.size → ¬ A a) : vx_Zq C n d A s s.heap := by
  refine ⟨va_Zqof hl hini h hA, ?_⟩
  obtain ⟨c, k, i, f, a, cell, h1, h2, h3, h4, h5, h6, h7, h8, h9⟩ := Cond.laysStatic_spec hl
  exact ⟨c, k, i, f, a, cell, h1, h2, h3, h4, h5, h6, h7, h8, h9, hA a (Array.getElem?_eq_some_iff.mp h5).1⟩
theorem vx_isRef {C n d : String} {v : Value} {A : Nat → Prop} {s : State} {args : Array Value} (h : va_Z C n d v A s s.heap) (hv : v.isRef = true) : (Cond.isRef (.static C n d)).before args s = true := by
  obtain ⟨cf, kf, fi, f, a, cell, h1, h2, h3, h4, h5, h6, h7, -⟩ := h
  have he : (Term.static C n d).eval args s none [] s = some v := by
    simp [Term.eval, State.fieldNamed?, h1, h2, h4, h5, h6, h7]
  simp only [Cond.before, Cond.holds, Cond.value, he]
  cases v <;> simp_all [Value.isRef]
theorem vx_isRefq {C n d : String} {A : Nat → Prop} {s : State} {args : Array Value} (h : va_Zq C n d A s s.heap) : (Cond.isRef (.static C n d)).before args s = true := by
  rcases h with h | ⟨t, h⟩
  · exact vx_isRef h rfl
  · exact vx_isRef h rfl
/-- the same frame, seen from here: as if the method were called anew in this heap -/
theorem vx_rebase {T : State} (X : Stand p l e R s m args below meth c T locs cells slots) {R' : Room} (hf : R'.frames ≤ R.frames) (hl : R'.locals ≤ R.locals) (hc : cells + R'.cells ≤ R.cells) (hs : slots + R'.slots ≤ R.slots) :
    Stand p l e R' ((T.setVm s.vm).setFrames (.invoking m args :: below)) m args below meth c T [] 0 0 := by
  have htop : (T.setVm s.vm).topJava?.isSome := X.here.top
  have hF : ((T.setVm s.vm).setFrames (.invoking m args :: below)).frames = .invoking m args :: below := State.frames_setFrames _ (State.cur_lt_of_top htop)
  obtain ⟨g₀, hg0⟩ := Option.isSome_iff_exists.mp htop
  obtain ⟨r, hr⟩ := State.topJava?_eq_some.mp hg0
  have hl9 : e.platform.stackLimits (T.setVm s.vm).me = e.platform.stackLimits s.me := X.limits
  have hb9 : (T.setVm s.vm).me.stackBytes = s.me.stackBytes := X.bytes
  refine ⟨X.admits, X.cas, X.clock, hF, ?_, X.hears, X.method, X.code, X.here, X.tail, X.warmed, ?_, ?_, ?_⟩
  · have h := X.room
    have hU : ((T.setVm s.vm).setFrames (.invoking m args :: below)).localsInUse = s.localsInUse := by
      rw [State.localsInUse_invoking hF (meth := meth) (c := c) X.method X.code, State.localsInUse_invoking X.frames X.method X.code]
    simp only [State.hasRoom, Bool.and_eq_true, decide_eq_true_eq] at h ⊢
    obtain ⟨⟨⟨⟨h1, h2, h3, h4, h5, h6⟩, h7⟩, h8⟩, h9⟩ := h
    rw [X.frames, List.length_cons] at h2 h3
    have q1 := X.heapSize
    have q2 := X.used
    simp only [hF, hU, List.length_cons, State.stackLimits_setFrames, State.stackBytes_setFrames, hl9, hb9]
    refine ⟨⟨⟨⟨by omega, by omega, by omega, by omega, by omega, h6⟩, ?_⟩, ?_⟩, X.book⟩
    · show T.heap.size + R'.cells ≤ e.platform.maxCells
      omega
    · show T.slotsUsed + R'.slots ≤ e.platform.maxSlots
      omega
  · rw [State.stackLimits_setFrames]; rfl
  · rw [State.stackBytes_setFrames]; rfl
  · refine ⟨?_, Nat.le_refl _, Nat.le_refl _, ?_, ?_, fun a c9 h9 => ⟨c9, h9, rfl, rfl, fun _ _ => rfl⟩⟩
    · obtain ⟨t, ht, -⟩ := State.frames_cons hr
      show T.setVm s.vm = { ((T.setVm s.vm).setFrames (.invoking m args :: below)).setFrames (T.setVm s.vm).frames with heap := T.heap, slotsUsed := T.slotsUsed }
      rw [State.setFrames_setFrames, State.setFrames_self ht]
      rfl
    · show T.slotsUsed = T.slotsUsed + ((T.heap.toList.drop T.heap.size).map (·.slots.size)).sum
      rw [List.drop_eq_nil_of_le (Nat.le_of_eq Array.length_toList)]
      rfl
    · show ((T.heap.toList.drop T.heap.size).map (·.slots.size)).sum ≤ 0
      rw [List.drop_eq_nil_of_le (Nat.le_of_eq Array.length_toList)]
      exact Nat.le_refl _
/-- 'throw new E()': new; dup; invokespecial; athrow -/
theorem vx_throw0 {cc : ByteArray} {pc : Nat} (hexec : p.tables.exec = Jvm.exec) (hb : c.code = cc) (hl : l.stackTraces = false) {own cls : String} {names : List String} {ik ic mc ms : Nat} {A : Nat → Prop}
    (hown : s.vm.findClass own = some m.cls) (hcls : Bundle.fit cls = true) (hnames : ∀ n ∈ names, Bundle.fit n = true)
    (hk : (Cond.classLink own ik cls).before args s = true) (hini : (Cond.initialized cls).before args s = true) (hat : ∀ w ∈ vx_at0 own ic cls names, w.before args s = true)
    (hgood : ∀ w ∈ Cond.classLink own ik cls :: Cond.initialized cls :: vx_at0 own ic cls names, vx_ot w = true)
    (hU : vx_Zq Bundle.tN "UNASSIGNED_STACK" Bundle.steD A s s.heap) (hN : vx_Zq Bundle.tN "SUPPRESSED_SENTINEL" Bundle.listD A s s.heap) (hS : va_S A s.heap H locs) (hsize : ls.size = c.maxLocals)
    (d0 : decode cc pc = .ok (.new ik, 3)) (d3 : decode cc (pc + 3) = .ok (.dup, 1)) (d4 : decode cc (pc + 4) = .ok (.invokespecial ic, 3)) (d7 : decode cc (pc + 7) = .ok (.athrow, 1))
    (hout : ∀ x ∈ c.exceptionTable.toList, covers x (pc + 7) = false)
    (hRframes : names.length + 3 < R.frames) (hRlocals : (rest.map fun v => v.category).sum + (13 * (names.length + 1) + 42) ≤ R.locals) (hRcells : cells + 1 ≤ R.cells) (hRslots : slots + 6 ≤ R.slots) (hlocks : meth.locks = false)
    (hx : ∀ t : State, s.vm.Alike t.vm → H.size ≤ t.heap.size → (∀ q : Nat, q < H.size → t.heap[q]? = H[q]?) → XC cls s t)
    (hf : ∀ z ∈ locs, free z.base) (hc : cells + 1 ≤ mc) (hs : slots + 6 ≤ ms) :
    W p l e R s m args below meth c H locs cells slots (vx_MQ below Qc XC args s mc ms free) (F0 m pc ls rest) := by
  intro T hT X
  have htr : e.platform.stackTraces = false := (show e.platform.stackTraces = l.stackTraces by rw [X.admits.platform]).trans hl
  have Y := vx_rebase X (R' := { frames := R.frames, locals := R.locals, cells := 1, slots := 6 }) (Nat.le_refl _) (Nat.le_refl _) hRcells hRslots
  obtain ⟨s', hA⟩ : ∃ z, z = (T.setVm s.vm).setFrames (.invoking m args :: below) := ⟨_, rfl⟩
  rw [← hA] at Y
  have hvm : s'.vm = s.vm := by rw [hA]; rfl
  have hhp : s'.heap = H := by rw [hA]; exact hT
  have hW0 : s.WarmedH s'.vm := by rw [hvm]; exact State.WarmedH.refl s
  have hat' : ∀ w ∈ vx_at0 own ic cls names, w.before args s' = true := fun w hw => vx_ot_at hW0 hvm.symm (hgood w (List.mem_cons_of_mem _ (List.mem_cons_of_mem _ hw))) (hat w hw)
  have hk' : (Cond.classLink own ik cls).before args s' = true := vx_ot_at hW0 hvm.symm (hgood _ List.mem_cons_self) hk
  have hini' : (Cond.initialized cls).before args s' = true := vx_ot_at hW0 hvm.symm (hgood _ (List.mem_cons_of_mem _ List.mem_cons_self)) hini
  have hU' : vx_Zq Bundle.tN "UNASSIGNED_STACK" Bundle.steD A s' s'.heap := by rw [hhp]; exact vx_Zq.moved hW0.alike (hU.kept hS.2.1)
  have hN' : vx_Zq Bundle.tN "SUPPRESSED_SENTINEL" Bundle.listD A s' s'.heap := by rw [hhp]; exact vx_Zq.moved hW0.alike (hN.kept hS.2.1)
  have h : ∀ w ∈ Bundle.ownAtoms0 own ic cls names, w.before args s' = true := vx_own hat' (vx_isRefq hU'.1) (vx_isRefq hN'.1) hU'.2.word hN'.2.word
  have hown' : s'.vm.findClass own = some m.cls := by rw [hvm]; exact hown
  have hins : (Cond.instantiable cls 6).before args s' = true := h _ (by simp [Bundle.ownAtoms0])
  obtain ⟨vm₁, cX, kX, hfX, hkX, -, -, X₁, st1⟩ := Y.newCold hexec (own := own) (C := cls) (index := ik) (n := 6) hown' hk' hins hini'
    (g := F0 m pc ls rest) rfl (by rw [hb]; exact d0) (Nat.le_refl _) (Nat.le_refl _)
  generalize hT1 : (T.setVm vm₁).pushCell { cls := cX, slots := kX.instanceTypes.map defaultValue, vm := .none } = T1 at X₁ st1
  have hcat : (Value.ref T.heap.size).category = 1 := rfl
  have hcellA : T1.heap[T.heap.size]? = some (freshCell cX kX) := by rw [← hT1]; exact State.heap_pushCell_size _ _
  have d3' : decode c.code (pc + 3) = .ok (.dup, 1) := by rw [hb]; exact d3
  obtain ⟨U, hsteps, hrun, hend, hW, hsame, ce, hce, hO⟩ := X₁.ctorThrow0 hexec htr (own := own) (cls := cls) (names := names) (ic := ic) hown' hcls hnames h (fun x hx => nomatch hx) hfX hkX hcellA (by rw [hhp, hT]; exact Nat.le_refl _)
    (g := { method := m, pc := pc + 4, locals := ls, stack := .ref T.heap.size :: .ref T.heap.size :: rest, locked := none }) rfl hsize rfl rfl (rest := rest) rfl
    (by rw [hb]; exact d4) (by rw [hb]; exact d7) hout hRframes (by simp only [List.map_cons, List.sum_cons, hcat]; omega) hlocks
  obtain ⟨f1, f2⟩ := vx_frame hsame
  rw [hhp] at f1 f2
  have hWs : s.WarmedH U.vm := State.WarmedH.trans hW0 hW
  have hcl : s.vm.findClass cls = some ce.cls := by
    have h9 := hO.cls
    rw [hvm] at h9
    exact h9
  have hall : s.sameButNew ({ U with vm := s.vm } : State) locs mc ms := by
    subst hA
    obtain ⟨e1, e2⟩ := hsame
    rw [State.setFrames_setFrames] at e1
    have h2 : (T.setVm s.vm).sameButNew ({ U with vm := s.vm } : State) [] (0 + 1) (0 + 6) := ⟨e1, e2⟩
    have h3 := X.same.trans h2
    rw [List.append_nil] at h3
    exact h3.mono hc hs
  refine ⟨U, ?_, .threw T.heap.size, hrun, hend, Or.inr ⟨T.heap.size, rfl, cls, ce, locs, hx U hWs.alike f1 (fun q hq => f2 q hq (fun z hz => nomatch hz)), hce, hO.vm, hcl, hWs, hall, hf⟩⟩
  refine st1 _ ?_
  show Steps p.tables e below (T1.setTop { method := m, pc := pc + 3, locals := ls, stack := .ref T.heap.size :: rest, locked := none }) _
  jvm_step X₁.here [X₁.here.top, hexec, d3', Value.category]
  exact hsteps
/-- 'throw new E("text")': new; dup; ldc; invokespecial; athrow -/
theorem vx_throwS {cc : ByteArray} {pc : Nat} (hexec : p.tables.exec = Jvm.exec) (hb : c.code = cc) (hl : l.stackTraces = false) {own cls text : String} {names : List String} {ik is ic mc ms sa : Nat} {A : Nat → Prop}
    (hown : s.vm.findClass own = some m.cls) (hcls : Bundle.fit cls = true) (hnames : ∀ n ∈ names, Bundle.fit n = true)
    (hk : (Cond.classLink own ik cls).before args s = true) (hini : (Cond.initialized cls).before args s = true) (hstr : vk_R own is text sa s) (hat : ∀ w ∈ vx_atS own ic cls names, w.before args s = true)
    (hgood : ∀ w ∈ Cond.classLink own ik cls :: Cond.initialized cls :: vx_atS own ic cls names, vx_ot w = true)
    (hU : vx_Zq Bundle.tN "UNASSIGNED_STACK" Bundle.steD A s s.heap) (hN : vx_Zq Bundle.tN "SUPPRESSED_SENTINEL" Bundle.listD A s s.heap) (hS : va_S A s.heap H locs) (hsize : ls.size = c.maxLocals)
    (d0 : decode cc pc = .ok (.new ik, 3)) (d3 : decode cc (pc + 3) = .ok (.dup, 1)) (d4 : decode cc (pc + 4) = .ok (.ldc is, 2)) (d6 : decode cc (pc + 6) = .ok (.invokespecial ic, 3)) (d9 : decode cc (pc + 9) = .ok (.athrow, 1))
    (hout : ∀ x ∈ c.exceptionTable.toList, covers x (pc + 9) = false)
    (hRframes : names.length + 3 < R.frames) (hRlocals : (rest.map fun v => v.category).sum + (13 * (names.length + 1) + 43) ≤ R.locals) (hRcells : cells + 1 ≤ R.cells) (hRslots : slots + 6 ≤ R.slots) (hlocks : meth.locks = false)
    (hx : ∀ t : State, s.vm.Alike t.vm → H.size ≤ t.heap.size → (∀ q : Nat, q < H.size → t.heap[q]? = H[q]?) → XC cls s t)
    (hf : ∀ z ∈ locs, free z.base) (hc : cells + 1 ≤ mc) (hs : slots + 6 ≤ ms) :
    W p l e R s m args below meth c H locs cells slots (vx_MQ below Qc XC args s mc ms free) (F0 m pc ls rest) := by
  intro T hT X
  have htr : e.platform.stackTraces = false := (show e.platform.stackTraces = l.stackTraces by rw [X.admits.platform]).trans hl
  have Y := vx_rebase X (R' := { frames := R.frames, locals := R.locals, cells := 1, slots := 6 }) (Nat.le_refl _) (Nat.le_refl _) hRcells hRslots
  obtain ⟨s', hA⟩ : ∃ z, z = (T.setVm s.vm).setFrames (.invoking m args :: below) := ⟨_, rfl⟩
  rw [← hA] at Y
  have hvm : s'.vm = s.vm := by rw [hA]; rfl
  have hhp : s'.heap = H := by rw [hA]; exact hT
  have hW0 : s.WarmedH s'.vm := by rw [hvm]; exact State.WarmedH.refl s
  have hat' : ∀ w ∈ vx_atS own ic cls names, w.before args s' = true := fun w hw => vx_ot_at hW0 hvm.symm (hgood w (List.mem_cons_of_mem _ (List.mem_cons_of_mem _ hw))) (hat w hw)
  have hk' : (Cond.classLink own ik cls).before args s' = true := vx_ot_at hW0 hvm.symm (hgood _ List.mem_cons_self) hk
  have hini' : (Cond.initialized cls).before args s' = true := vx_ot_at hW0 hvm.symm (hgood _ (List.mem_cons_of_mem _ List.mem_cons_self)) hini
  have hU' : vx_Zq Bundle.tN "UNASSIGNED_STACK" Bundle.steD A s' s'.heap := by rw [hhp]; exact vx_Zq.moved hW0.alike (hU.kept hS.2.1)
  have hN' : vx_Zq Bundle.tN "SUPPRESSED_SENTINEL" Bundle.listD A s' s'.heap := by rw [hhp]; exact vx_Zq.moved hW0.alike (hN.kept hS.2.1)
  have h : ∀ w ∈ Bundle.ownAtoms own ic cls names, w.before args s' = true := vx_own hat' (vx_isRefq hU'.1) (vx_isRefq hN'.1) hU'.2.word hN'.2.word
  have hown' : s'.vm.findClass own = some m.cls := by rw [hvm]; exact hown
  have hins : (Cond.instantiable cls 6).before args s' = true := h _ (by simp [Bundle.ownAtoms])
  obtain ⟨vm₁, cX, kX, hfX, hkX, -, -, X₁, st1⟩ := Y.newCold hexec (own := own) (C := cls) (index := ik) (n := 6) hown' hk' hins hini'
    (g := F0 m pc ls rest) rfl (by rw [hb]; exact d0) (Nat.le_refl _) (Nat.le_refl _)
  generalize hT1 : (T.setVm vm₁).pushCell { cls := cX, slots := kX.instanceTypes.map defaultValue, vm := .none } = T1 at X₁ st1
  have hcat : (Value.ref T.heap.size).category = 1 := rfl
  have hcellA : T1.heap[T.heap.size]? = some (freshCell cX kX) := by rw [← hT1]; exact State.heap_pushCell_size _ _
  have d3' : decode c.code (pc + 3) = .ok (.dup, 1) := by rw [hb]; exact d3
  have d4' : decode c.code (pc + 4) = .ok (.ldc is, 2) := by rw [hb]; exact d4
  have hstr' : vk_R own is text sa s' := vk_R.warm hW0 hstr
  obtain ⟨U, hsteps, hrun, hend, hW, hsame, ce, hce, hO⟩ := X₁.ctorThrowS hexec htr (own := own) (cls := cls) (names := names) (ic := ic) hown' hcls hnames h (fun x hx => nomatch hx) hfX hkX hcellA (by rw [hhp, hT]; exact Nat.le_refl _) (msg := .ref sa) rfl
    (g := { method := m, pc := pc + 6, locals := ls, stack := .ref sa :: .ref T.heap.size :: .ref T.heap.size :: rest, locked := none }) rfl hsize rfl rfl (rest := rest) rfl
    (by rw [hb]; exact d6) (by rw [hb]; exact d9) hout hRframes (by simp only [List.map_cons, List.sum_cons, hcat]; omega) hlocks
  obtain ⟨f1, f2⟩ := vx_frame hsame
  rw [hhp] at f1 f2
  have hWs : s.WarmedH U.vm := State.WarmedH.trans hW0 hW
  have hcl : s.vm.findClass cls = some ce.cls := by
    have h9 := hO.cls
    rw [hvm] at h9
    exact h9
  have hall : s.sameButNew ({ U with vm := s.vm } : State) locs mc ms := by
    subst hA
    obtain ⟨e1, e2⟩ := hsame
    rw [State.setFrames_setFrames] at e1
    have h2 : (T.setVm s.vm).sameButNew ({ U with vm := s.vm } : State) [] (0 + 1) (0 + 6) := ⟨e1, e2⟩
    have h3 := X.same.trans h2
    rw [List.append_nil] at h3
    exact h3.mono hc hs
  refine ⟨U, ?_, .threw T.heap.size, hrun, hend, Or.inr ⟨T.heap.size, rfl, cls, ce, locs, hx U hWs.alike f1 (fun q hq => f2 q hq (fun z hz => nomatch hz)), hce, hO.vm, hcl, hWs, hall, hf⟩⟩
  refine st1 _ ?_
  show Steps p.tables e below (T1.setTop { method := m, pc := pc + 3, locals := ls, stack := .ref T.heap.size :: rest, locked := none }) _
  jvm_step X₁.here [X₁.here.top, hexec, d3', Value.category]
  exact X₁.ldcString hexec (own := own) (text := text) (index := is) (a := sa) hown' hstr'.1 hstr'.2
    (g := { method := m, pc := pc + 4, locals := ls, stack := .ref T.heap.size :: .ref T.heap.size :: rest, locked := none }) rfl d4' _ hsteps
/-- 'throw new E("text")', the text by a wide index -/
theorem vx_throwSW {cc : ByteArray} {pc : Nat} (hexec : p.tables.exec = Jvm.exec) (hb : c.code = cc) (hl : l.stackTraces = false) {own cls text : String} {names : List String} {ik is ic mc ms sa : Nat} {A : Nat → Prop}
    (hown : s.vm.findClass own = some m.cls) (hcls : Bundle.fit cls = true) (hnames : ∀ n ∈ names, Bundle.fit n = true)
    (hk : (Cond.classLink own ik cls).before args s = true) (hini : (Cond.initialized cls).before args s = true) (hstr : vk_R own is text sa s) (hat : ∀ w ∈ vx_atS own ic cls names, w.before args s = true)
    (hgood : ∀ w ∈ Cond.classLink own ik cls :: Cond.initialized cls :: vx_atS own ic cls names, vx_ot w = true)
    (hU : vx_Zq Bundle.tN "UNASSIGNED_STACK" Bundle.steD A s s.heap) (hN : vx_Zq Bundle.tN "SUPPRESSED_SENTINEL" Bundle.listD A s s.heap) (hS : va_S A s.heap H locs) (hsize : ls.size = c.maxLocals)
    (d0 : decode cc pc = .ok (.new ik, 3)) (d3 : decode cc (pc + 3) = .ok (.dup, 1)) (d4 : decode cc (pc + 4) = .ok (.ldc_w is, 3)) (d7 : decode cc (pc + 7) = .ok (.invokespecial ic, 3)) (d10 : decode cc (pc + 10) = .ok (.athrow, 1))
    (hout : ∀ x ∈ c.exceptionTable.toList, covers x (pc + 10) = false)
    (hRframes : names.length + 3 < R.frames) (hRlocals : (rest.map fun v => v.category).sum + (13 * (names.length + 1) + 43) ≤ R.locals) (hRcells : cells + 1 ≤ R.cells) (hRslots : slots + 6 ≤ R.slots) (hlocks : meth.locks = false)
    (hx : ∀ t : State, s.vm.Alike t.vm → H.size ≤ t.heap.size → (∀ q : Nat, q < H.size → t.heap[q]? = H[q]?) → XC cls s t)
    (hf : ∀ z ∈ locs, free z.base) (hc : cells + 1 ≤ mc) (hs : slots + 6 ≤ ms) :
    W p l e R s m args below meth c H locs cells slots (vx_MQ below Qc XC args s mc ms free) (F0 m pc ls rest) := by
  intro T hT X
  have htr : e.platform.stackTraces = false := (show e.platform.stackTraces = l.stackTraces by rw [X.admits.platform]).trans hl
  have Y := vx_rebase X (R' := { frames := R.frames, locals := R.locals, cells := 1, slots := 6 }) (Nat.le_refl _) (Nat.le_refl _) hRcells hRslots
  obtain ⟨s', hA⟩ : ∃ z, z = (T.setVm s.vm).setFrames (.invoking m args :: below) := ⟨_, rfl⟩
  rw [← hA] at Y
  have hvm : s'.vm = s.vm := by rw [hA]; rfl
  have hhp : s'.heap = H := by rw [hA]; exact hT
  have hW0 : s.WarmedH s'.vm := by rw [hvm]; exact State.WarmedH.refl s
  have hat' : ∀ w ∈ vx_atS own ic cls names, w.before args s' = true := fun w hw => vx_ot_at hW0 hvm.symm (hgood w (List.mem_cons_of_mem _ (List.mem_cons_of_mem _ hw))) (hat w hw)
  have hk' : (Cond.classLink own ik cls).before args s' = true := vx_ot_at hW0 hvm.symm (hgood _ List.mem_cons_self) hk
  have hini' : (Cond.initialized cls).before args s' = true := vx_ot_at hW0 hvm.symm (hgood _ (List.mem_cons_of_mem _ List.mem_cons_self)) hini
  have hU' : vx_Zq Bundle.tN "UNASSIGNED_STACK" Bundle.steD A s' s'.heap := by rw [hhp]; exact vx_Zq.moved hW0.alike (hU.kept hS.2.1)
  have hN' : vx_Zq Bundle.tN "SUPPRESSED_SENTINEL" Bundle.listD A s' s'.heap := by rw [hhp]; exact vx_Zq.moved hW0.alike (hN.kept hS.2.1)
  have h : ∀ w ∈ Bundle.ownAtoms own ic cls names, w.before args s' = true := vx_own hat' (vx_isRefq hU'.1) (vx_isRefq hN'.1) hU'.2.word hN'.2.word
  have hown' : s'.vm.findClass own = some m.cls := by rw [hvm]; exact hown
  have hins : (Cond.instantiable cls 6).before args s' = true := h _ (by simp [Bundle.ownAtoms])
  obtain ⟨vm₁, cX, kX, hfX, hkX, -, -, X₁, st1⟩ := Y.newCold hexec (own := own) (C := cls) (index := ik) (n := 6) hown' hk' hins hini'
    (g := F0 m pc ls rest) rfl (by rw [hb]; exact d0) (Nat.le_refl _) (Nat.le_refl _)
  generalize hT1 : (T.setVm vm₁).pushCell { cls := cX, slots := kX.instanceTypes.map defaultValue, vm := .none } = T1 at X₁ st1
  have hcat : (Value.ref T.heap.size).category = 1 := rfl
  have hcellA : T1.heap[T.heap.size]? = some (freshCell cX kX) := by rw [← hT1]; exact State.heap_pushCell_size _ _
  have d3' : decode c.code (pc + 3) = .ok (.dup, 1) := by rw [hb]; exact d3
  have d4' : decode c.code (pc + 4) = .ok (.ldc_w is, 3) := by rw [hb]; exact d4
  have hstr' : vk_R own is text sa s' := vk_R.warm hW0 hstr
  obtain ⟨U, hsteps, hrun, hend, hW, hsame, ce, hce, hO⟩ := X₁.ctorThrowS hexec htr (own := own) (cls := cls) (names := names) (ic := ic) hown' hcls hnames h (fun x hx => nomatch hx) hfX hkX hcellA (by rw [hhp, hT]; exact Nat.le_refl _) (msg := .ref sa) rfl
    (g := { method := m, pc := pc + 7, locals := ls, stack := .ref sa :: .ref T.heap.size :: .ref T.heap.size :: rest, locked := none }) rfl hsize rfl rfl (rest := rest) rfl
    (by rw [hb]; exact d7) (by rw [hb]; exact d10) hout hRframes (by simp only [List.map_cons, List.sum_cons, hcat]; omega) hlocks
  obtain ⟨f1, f2⟩ := vx_frame hsame
  rw [hhp] at f1 f2
  have hWs : s.WarmedH U.vm := State.WarmedH.trans hW0 hW
  have hcl : s.vm.findClass cls = some ce.cls := by
    have h9 := hO.cls
    rw [hvm] at h9
    exact h9
  have hall : s.sameButNew ({ U with vm := s.vm } : State) locs mc ms := by
    subst hA
    obtain ⟨e1, e2⟩ := hsame
    rw [State.setFrames_setFrames] at e1
    have h2 : (T.setVm s.vm).sameButNew ({ U with vm := s.vm } : State) [] (0 + 1) (0 + 6) := ⟨e1, e2⟩
    have h3 := X.same.trans h2
    rw [List.append_nil] at h3
    exact h3.mono hc hs
  refine ⟨U, ?_, .threw T.heap.size, hrun, hend, Or.inr ⟨T.heap.size, rfl, cls, ce, locs, hx U hWs.alike f1 (fun q hq => f2 q hq (fun z hz => nomatch hz)), hce, hO.vm, hcl, hWs, hall, hf⟩⟩
  refine st1 _ ?_
  show Steps p.tables e below (T1.setTop { method := m, pc := pc + 3, locals := ls, stack := .ref T.heap.size :: rest, locked := none }) _
  jvm_step X₁.here [X₁.here.top, hexec, d3', Value.category]
  exact X₁.ldcStringW hexec (own := own) (text := text) (index := is) (a := sa) hown' hstr'.1 hstr'.2
    (g := { method := m, pc := pc + 4, locals := ls, stack := .ref T.heap.size :: .ref T.heap.size :: rest, locked := none }) rfl d4' _ hsteps
end Ends
section Bodies
variable {l : Launch}
theorem vx_ofW {y : MethodName} {ws ws' : List Cond} {rm : Room} {Pc : Array Value → State → Prop} {Qc : Array Value → State → Outcome → State → Prop} {XC : String → State → State → Prop} {mc ms : Nat} {free : Addr → Prop} {cc : ByteArray} {maxL : Nat} {ret : Option FieldType}
    (hy : plainName y.cls = true) (hw : ws = Cond.code y cc maxL ret :: ws')
    (body : ∀ p e s m args below meth c s₁, BodyLoose p l y (headSpec ws rm) cc maxL ret e s m args below meth c s₁ → c.maxLocals = maxL → (∀ x ∈ c.exceptionTable.toList, False) → Pc args s →
      W p l e (headSpec ws rm).room s m args below meth c s.heap [] 0 0 (vx_MQ below Qc XC args s mc ms free) (entryFrame m args maxL)) : vx_Met l y ws rm Pc Qc XC mc ms free := by
  refine MetFree.of_bodyS (code := cc) (maxLocals := maxL) (ret := ret) hy ?_ ?_
  · intro args s m h hn
    obtain ⟨meth, c, h1, h2, h3, h4, h5, h6, -, -⟩ := Cond.code_spec hn (atoms_spec (ws := ws) h _ (by rw [hw]; exact List.mem_cons_self))
    exact ⟨meth, c, h1, h2, h3, h4, h5, h6⟩
  · intro p e s m args below meth c s₁ B hml hP _
    have hh0 : s₁.heap = s.heap := by rw [B.state]; rfl
    have ht : ∀ x ∈ c.exceptionTable.toList, False := by
      obtain ⟨meth9, c9, h1, h2, -, -, -, -, h7, -⟩ := Cond.code_spec B.named (atoms_spec (ws := ws) B.pre _ (by rw [hw]; exact List.mem_cons_self))
      cases Option.some.inj (h1.symm.trans B.method)
      cases Option.some.inj (h2.symm.trans (Stand.of_body B).code)
      intro x hx
      rw [Array.isEmpty_iff.mp h7] at hx
      cases hx
    obtain ⟨t, a1, o, b1, b2, b3⟩ := body p e s m args below meth c s₁ B hml ht hP s₁ hh0 (Stand.of_body B)
    exact ⟨t, o, a1, b1, b2, b3⟩
/-- the table of a body with handlers -/
theorem vx_table {p : Program} {x y : MethodName} {S : Spec} {cc bytes : ByteArray} {maxL maxL' : Nat} {ret ret' : Option FieldType} {e : Env} {s s₁ : State} {m : MethodId} {args : Array Value} {below : List Frame} {meth : Method} {c : Code} {hh : List (Nat × Nat × Nat × Nat)}
    (B : BodyLoose p l y S cc maxL ret e s m args below meth c s₁) (h : (Cond.codeWith y bytes maxL' ret' hh).before args s = true) : c.exceptionTable.toList = tableOf hh := by
  obtain ⟨m9, meth9, c9, hn9, h1, h2, -, -, h6, -⟩ := Cond.codeWith_spec h
  cases Option.some.inj (hn9.symm.trans B.named)
  cases Option.some.inj (h1.symm.trans B.method)
  cases Option.some.inj (h2.symm.trans (Stand.of_body B).code)
  rw [← h6, table_eq]
end Bodies
end VXA
/-! ===== END ===== -/
/-! ===== BEGIN a static call of a method with an exception table ===== -/
section VXS
variable {p : Program} {l : Launch} {e : Env} {R : Room} {s : State} {m : MethodId} {args : Array Value} {below : List Frame} {meth : Method} {c : Code} {T : State} {H : Heap} {locs : List Loc} {cells slots : Nat}
abbrev vx_CSW (R : Room) (s : State) (args : Array Value) (own : String) (index : Nat) (y : MethodName) (bytes : ByteArray) (maxL : Nat) (ret : Option FieldType) (hh : List (Nat × Nat × Nat × Nat)) (ws : List Cond) (rm : Room) (mc ms n : Nat) : Prop :=
  (rm.cells = mc ∧ rm.slots = ms ∧ rm.frames + 1 ≤ R.frames ∧ 8 + (maxL + 11) + rm.locals ≤ R.locals ∧ (∀ w ∈ ws, ∀ (a' : Array Value) (U : State), s.WarmedH U.vm → w.before a' U = true) ∧ Cond.codeWith y bytes maxL ret hh ∈ ws) ∧
  (Cond.codeWith y bytes maxL ret hh).before args s = true ∧ (Cond.initialized y.cls).before args s = true ∧ (y.cls ≠ "java/lang/invoke/MethodHandle" ∧ y.cls ≠ "java/lang/invoke/VarHandle") ∧
  (∀ sig, parseMethodDescriptor y.desc = some sig → n = sig.parameters.length) ∧ (Cond.methodLink own index y).before args s = true ∧ (Cond.static y).before args s = true
theorem vx_cwSW {own : String} {index maxL mc ms : Nat} {y : MethodName} {bytes : ByteArray} {ret : Option FieldType} {hh : List (Nat × Nat × Nat × Nat)} {Ts ws ws' : List Cond} {rm : Room} (n : Nat) (ht : ∀ w ∈ Ts, w.before args s = true) (hT : GoodIn Ts (va_wsS own index y ws)) (hw : ws = Cond.codeWith y bytes maxL ret hh :: ws') (hrc : rm.cells = mc) (hrs : rm.slots = ms)
    (hd : y.cls ≠ "java/lang/invoke/MethodHandle" ∧ y.cls ≠ "java/lang/invoke/VarHandle" ∧ (parseMethodDescriptor y.desc).map (fun d => d.parameters.length) = some n) (hR : rm.frames + 1 ≤ R.frames ∧ 8 + (maxL + 11) + rm.locals ≤ R.locals) :
    vx_CSW R s args own index y bytes maxL ret hh ws rm mc ms n := by
  have ok : ∀ w ∈ va_wsS own index y ws, w.before args s = true := fun w h => ht w (hT w h).1
  have hG : GoodIn Ts ws := fun w h => hT w (by unfold va_wsS; exact List.mem_append_right _ h)
  have hc : Cond.codeWith y bytes maxL ret hh ∈ ws := by rw [hw]; exact List.mem_cons_self
  refine ⟨⟨hrc, hrs, hR.1, hR.2, pay_in ht hG, hc⟩, ht _ (hG _ hc).1, ok _ (by simp [va_wsS]), ⟨hd.1, hd.2.1⟩, fun sig h => ?_, ok _ (by simp [va_wsS]), ok _ (by simp [va_wsS])⟩
  have h2 := hd.2.2
  rw [h] at h2
  exact (Option.some.inj h2).symm
theorem vx_callSW (X : Stand p l e R s m args below meth c T locs cells slots) (hexec : p.tables.exec = Jvm.exec) {own : String} {index : Nat} {y : MethodName} {bytes : ByteArray} {maxL : Nat} {ret : Option FieldType} {hh : List (Nat × Nat × Nat × Nat)}
    (hown : s.vm.findClass own = some m.cls) (hlink : (Cond.methodLink own index y).before args s = true) (hstat : (Cond.static y).before args s = true) (hinit : (Cond.initialized y.cls).before args s = true)
    (hcode : (Cond.codeWith y bytes maxL ret hh).before args s = true) (hy : y.cls ≠ "java/lang/invoke/MethodHandle" ∧ y.cls ≠ "java/lang/invoke/VarHandle")
    {W9 : Nat} {Pre : Pt → Array Value → Prop} {Post : Pt → Array Value → Option Value → Pt → Prop} (hK : Back l R p e below s args y 3 W9 Pre Post)
    {g : JFrame} (hg : g.method = m) (hsize : g.locals.size = c.maxLocals) {argsL rest : List Value} (hlen : ∀ sig, parseMethodDescriptor y.desc = some sig → argsL.length = sig.parameters.length)
    (hstack : g.stack = argsL.reverse ++ rest) (hW : 2 * g.monitorRoom + (rest.map fun v => v.category).sum ≤ W9) (hdg : decode c.code g.pc = .ok (.invokestatic index, 3))
    (hpre : ∀ vm₁, s.WarmedH vm₁ → Pre ⟨T.setVm vm₁, locs, cells, slots⟩ argsL.toArray) :
    ∃ (v : Option Value) (vm₁ : Vm) (B : Pt), s.WarmedH vm₁ ∧ Stand p l e R s m args below meth c B.U B.locs B.cells B.slots ∧ Post ⟨T.setVm vm₁, locs, cells, slots⟩ argsL.toArray v B ∧
      ∀ target, Steps p.tables e below (B.U.setTop { g with pc := g.pc + 3, stack := v.toList ++ rest }) target → Steps p.tables e below (T.setTop g) target := by
  obtain ⟨mk, methM, cM, hnamed, hmethM, -, -, -, -, -, -, hsigM⟩ := Cond.codeWith_spec hcode
  have hstatic : methM.isStatic = true := Cond.static_spec hnamed hmethM hstat
  obtain ⟨kP, hkP, -⟩ := className_of_methodNamed hnamed
  have hinitP : kP.init = .initialized := Cond.initialized_spec (findClass_of_methodNamed hnamed) hkP hinit
  obtain ⟨vm₁, X₁, hstep₁⟩ := X.invokestatic hexec hown hlink hnamed hmethM hstatic hkP hinitP hy (g := g) hg (argsL := argsL) (rest := rest) (hlen _ hsigM) hstack hdg
  obtain ⟨v, B, X', hpost, hsteps⟩ := hK m meth c ⟨T.setVm vm₁, locs, cells, slots⟩ { g with stack := rest } (.invokestatic index) mk argsL.toArray X₁ hg hsize hdg hW (X₁.named hnamed) (hpre vm₁ X₁.warmed)
  exact ⟨v, vm₁, B, X₁.warmed, X', hpost, fun target h => hstep₁ _ fun acts => by rw [doInvoke_state]; exact hsteps.trans h⟩
theorem vx_runSW {y : MethodName} {bytes cc : ByteArray} {maxL nL mc ms n index : Nat} {ret : Option FieldType} {hh : List (Nat × Nat × Nat × Nat)} {ws : List Cond} {rm : Room} {Pc : Array Value → State → Prop} {Qc : Array Value → State → Outcome → State → Prop} {free : Addr → Prop} {Ts : List Cond} {own : String} {As rest : List Value} {g : JFrame}
    (S : CallFix p m c cc nL s args Ts own) (hM : Met l y ws rm Pc Qc mc ms free) (cw : vx_CSW R s args own index y bytes maxL ret hh ws rm mc ms n) (hp : PreS s H Pc As)
    (hg : g.method = m) (hn : As.length = n) (hsize : g.locals.size = nL) (hstack : g.stack = As.reverse ++ rest) (hW : 2 * g.monitorRoom + (rest.map fun v => v.category).sum ≤ 8) (hdg : decode cc g.pc = .ok (.invokestatic index, 3)) (hf : cells + mc ≤ R.cells ∧ slots + ms ≤ R.slots) :
    va_Run p l e R s m args below meth c H locs cells slots mc ms g rest (Qc As.toArray) (free) := by
  obtain ⟨⟨hrc, hrs, hfr, hlo, hws, hcw⟩, hcode, hini, hy, hlen, hl, hstt⟩ := cw
  have hK : Back l R p e below s args y 3 8 (PreOf R mc ms Pc) (PostOf Qc mc ms free) := va_backW (hh := hh) (bytes := bytes) (maxL := maxL) (ret := ret) hM hp.1 hrc hrs hfr hlo hws hcw (fun a' U hW => word_at hW (Or.inl (by first | rfl | simp [Cond.onTables, Cond.keeps, Cond.steady])) hini)
  obtain ⟨hx, hb, hml, ho, -⟩ := S
  intro T hT X
  obtain ⟨v, vm₁, ⟨U', l2, c2, s2⟩, hW₁, X', ⟨g', mk, t, L, e1, e2, hq, h1, hL, h2, h3⟩, st⟩ := vx_callSW X hx (hh := hh) (bytes := bytes) (maxL := maxL) (ret := ret) ho hl hstt hini hcode hy hK hg (hsize.trans hml.symm) (argsL := As) (rest := rest) (fun sig h => hn.trans (hlen sig h)) hstack hW (by rw [hb]; exact hdg)
    (fun vm₁ hW₁ => ⟨hf.1, hf.2, hp.2 (T.setVm vm₁) hT hW₁⟩)
  dsimp only [Pt.U, Pt.locs, Pt.cells, Pt.slots] at X' e1 e2 h1 h2 h3 st
  subst h1; subst h2; subst h3
  exact ⟨v, (T.setVm vm₁).calling g' mk As.toArray, t, U', L, hT, X', hL, e1, e2, hq, st⟩
/-- not caught here, past rows that name other classes: it goes on to the caller -/
theorem vx_outP {p : Program} {l : Launch} {e : Env} {R : Room} {s : State} {m : MethodId} {args : Array Value} {below : List Frame} {meth : Method} {c : Code} {H : Heap} {locs : List Loc} {cells slots : Nat} {free : Addr → Prop} {ls : Array Slot} {rest : List Value} {Qc : Array Value → State → Outcome → State → Prop} {XC : String → State → State → Prop}
    {pc : Nat} {own E : String} {ce : Cell} {q : Addr} {mc ms : Nat} (hown : s.vm.findClass own = some m.cls) (hlocks : meth.locks = false)
    (hpass : ∀ z ∈ c.exceptionTable.toList, covers z pc = false ∨ (z.catchType ≠ 0 ∧ ∃ nm : String, (Cond.classLink own z.catchType nm).before args s = true ∧ va_Nc E nm s)) (hcell : H[q]? = some ce) (hv : ce.vm = .none) (hcl : s.vm.findClass E = some ce.cls)
    (hx : ∀ t : State, t.heap = H → s.vm.Alike t.vm → XC E s t) (hf : ∀ z ∈ locs, free z.base) (hc : cells ≤ mc) (hs : slots ≤ ms) :
    vx_W p l e R s m args below meth c H locs cells slots (vx_MQ below Qc XC args s mc ms free) (F0 m pc ls rest) q := by
  intro T hT X
  have hpl : e.platform.magicAccessors = ({} : Platform).magicAccessors := by rw [X.admits.platform]
  obtain ⟨vm', hW', X', st⟩ := X.outThrough hlocks q (g := F0 m pc ls rest) rfl rfl rfl (cell := ce) (by rw [hT]; exact hcell) (by rw [hv]; rfl)
    (by obtain ⟨k9, h9, -⟩ := Vm.findClass_spec hcl; exact ⟨k9, h9⟩) (fun z hz => by
      rcases hpass z hz with h | ⟨hz0, nm, hl1, hn1⟩
      · exact Or.inl h
      · obtain ⟨c6, hc6, hcl6⟩ := Cond.classLink_spec hown hl1 e.platform hpl
        obtain ⟨a8, b8, h1, h2, h3⟩ := hn1
        cases Option.some.inj (h1.symm.trans hcl)
        cases Option.some.inj (h2.symm.trans hc6)
        exact Or.inr ⟨hz0, _, hcl6, h3⟩)
  obtain ⟨g₀, hfr⟩ := X'.frames_eq
  have hcell9 : ((T.setVm vm').setFrames (.throwing q :: below)).heap[q]? = some ce := by
    show T.heap[q]? = some ce
    rw [hT]; exact hcell
  have hend : Ended ((T.setVm vm').setFrames (.throwing q :: below)) below (.threw q) := State.frames_setFrames _ (State.cur_lt_of_frames hfr)
  refine ⟨(T.setVm vm').setFrames (.throwing q :: below), ?_, .threw q, X'.here.running, hend, Or.inr ⟨q, rfl, E, ce, locs, hx _ hT (X'.ends _).1.alike, hcell9, hv, hcl, (X'.ends _).1, (X'.ends _).2.mono hc hs, hf⟩⟩
  rw [X.pushThrowing_eq]
  exact st
/-- a thing of a world lies in the heap -/
theorem vx_lt {D : va_G} {cl : List vw_C} {ws : va_W} {H1 : Heap} (h : va_P D cl ws H1) {k : Nat} {q : Nat × va_E} (hk : ws[k]? = some q) : q.1 < H1.size := (h k q hk).lt
end VXS
/-! ===== END ===== -/
/-! ===== BEGIN methods with a table of their own: called by a name, returning or throwing ===== -/
section VXH
/-! vx_backW, vx_callVX, vx_callSX, vx_callVW, vx_runVW, vx_runVX, vx_runSX, vx_ofWH follow the same proofs as their sisters above (Free/Laws.lean, Shelf42/LK1.lean); vx_outP calls Shelf42/NT130.lean (outThrough). -/
section
variable {l : Launch} {R : Room} {p : Program} {e : Env} {below : List Frame} {s : State} {sargs : Array Value} {y : MethodName} {len W9 : Nat}
theorem vx_backW {ws : List Cond} {rm : Room} {Pc : Array Value → State → Prop} {Qc : Array Value → State → Outcome → State → Prop} {XC : String → State → State → Prop} {mc ms : Nat} {free : Addr → Prop} {bytes : ByteArray} {maxL : Nat} {ret : Option FieldType} {hh : List (Nat × Nat × Nat × Nat)}
    (hM : vx_Met l y ws rm Pc Qc XC mc ms free) (hblind : FrameBlind Pc) (hrc : rm.cells = mc) (hrs : rm.slots = ms)
    (hframes : rm.frames + 1 ≤ R.frames) (hlocals : W9 + (maxL + 11) + rm.locals ≤ R.locals)
    (hws : ∀ w ∈ ws, ∀ a' U, s.WarmedH U.vm → w.before a' U = true) (hcode : Cond.codeWith y bytes maxL ret hh ∈ ws) (hinit : ∀ a' U, s.WarmedH U.vm → (Cond.initialized y.cls).before a' U = true) :
    vx_Back l R p e below s sargs y len W9 (PreOf R mc ms Pc) (PostOf Qc mc ms free) (vx_Post XC mc ms free) := by
  intro m meth c A g ig mk a X hg hsize hdg hW hn hp
  have h1 : (headSpec ws rm).pre.before a A.U = true := atoms_intro fun w hw => hws w hw _ _ X.warmed
  have h2 : (Cond.codeWith y bytes maxL ret hh).before a A.U = true := hws _ hcode _ _ X.warmed
  have h3 : (Cond.initialized y.cls).before a A.U = true := hinit _ _ X.warmed
  have h4 : A.cells + (headSpec ws rm).room.cells ≤ R.cells := by rw [show (headSpec ws rm).room.cells = mc from hrc]; exact hp.1
  have h5 : A.slots + (headSpec ws rm).room.slots ≤ R.slots := by rw [show (headSpec ws rm).room.slots = ms from hrs]; exact hp.2.1
  have hPc : Pc a (A.U.calling g mk a) := hblind _ _ _ _ hp.2.2
  obtain ⟨U, Ls, c0, s0⟩ := A
  dsimp only [Pt.U, Pt.locs, Pt.cells, Pt.slots] at h1 h2 h3 h4 h5 X hn hPc ⊢
  obtain ⟨m9, methY, cY, hn9, hmY, hcY, -, hlY, -⟩ := Cond.codeWith_spec h2
  cases Option.some.inj (hn9.symm.trans hn)
  obtain ⟨kY, hkY, -⟩ := className_of_methodNamed hn
  have hinitY : kY.init = .initialized := Cond.initialized_spec (findClass_of_methodNamed hn) hkY h3
  have h : At U g.method c below := by rw [hg]; exact X.here
  have hlocals9 : W9 + (maxL + 11) + (headSpec ws rm).room.locals ≤ R.locals := hlocals
  have happ : (headSpec ws rm).appliesLoose y e.platform (U.calling g mk a) = true :=
    Spec.appliesLoose_calling (g := g) h hdg hn hkY hinitY
      (X.room_calling (g := g) (R' := (headSpec ws rm).room) hsize hmY hcY hframes (by rw [hlY]; omega) h4 h5) h1
  obtain ⟨mid, hmid⟩ := h.above
  have hfr : (U.setTop g).frames = (.java g :: mid) ++ below := by rw [State.frames_setTop' g h.top, hmid]; rfl
  obtain ⟨o, s₂, hsteps, -, hend, hq⟩ := Steps.callFree hM p X.admits X.cas X.clock (acts := []) hfr happ hPc trivial
  have hq' : vx_Q Qc XC mc ms free a (U.calling g mk a) o s₂ := hq
  rw [State.frames_setTop' g h.top] at hend
  obtain ⟨g₀, hg0⟩ := Option.isSome_iff_exists.mp h.top
  obtain ⟨r, hr⟩ := State.topJava?_eq_some.mp hg0
  have hr' : (({ U with heap := s₂.heap, slotsUsed := s₂.slotsUsed } : State).setVm s₂.vm).frames = .java g₀ :: r := hr
  rcases hq' with ⟨hqc, L, hfe, hL⟩ | ⟨q, rfl, E, ce, L, hx, hce, hcv, hcl, hW₂, hsm, hL⟩
  · obtain ⟨⟨v, rfl⟩, hW₂, e2, q2, q3, q4, q5, q6⟩ := id hfe
    have e3 : s₂ = ({ (U.calling g mk a).setFrames s₂.frames with heap := s₂.heap, slotsUsed := s₂.slotsUsed } : State).setVm s₂.vm := by
      have : s₂ = ({ s₂ with vm := (U.calling g mk a).vm } : State).setVm s₂.vm := rfl
      rw [e2] at this
      exact this
    obtain ⟨c₂, i₂, len₂, hc₂, hd₂, hf₂⟩ := hend
    have hW' : U.WarmedH s₂.vm := hW₂
    have hcc : c₂ = c := by
      have h1 : s₂.code? g.method = U.code? g.method := by
        rw [State.code?_eq, State.code?_eq, hW'.alike.method?]
      exact Option.some.inj (hc₂.symm.trans (h1.trans h.code))
    subst hcc
    have hlen : len₂ = len := by rw [hdg] at hd₂; cases hd₂; rfl
    subst hlen
    have hs₂ : s₂ = (({ U with heap := s₂.heap, slotsUsed := s₂.slotsUsed } : State).setVm s₂.vm).setTop { g with pc := g.pc + len₂, stack := v.toList ++ g.stack } := by
      refine e3.trans ?_
      rw [hf₂, State.calling_eq h.top, State.setFrames_setFrames, State.setTop_of_frames _ hr', hr]
      rfl
    have hsame : U.sameButNew ({ U with heap := s₂.heap, slotsUsed := s₂.slotsUsed } : State) L mc ms := by
      refine ⟨?_, q2, q3, q4, q5, q6⟩
      obtain ⟨t, ht, -⟩ := State.frames_cons hr
      show ({ U with heap := s₂.heap, slotsUsed := s₂.slotsUsed } : State) = { U.setFrames U.frames with heap := s₂.heap, slotsUsed := s₂.slotsUsed }
      rw [State.setFrames_self ht]
    subst hg
    refine Or.inl ⟨v, ⟨(({ U with heap := s₂.heap, slotsUsed := s₂.slotsUsed } : State).setVm s₂.vm), Ls ++ L, c0 + mc, s0 + ms⟩,
      ⟨X.admits, X.cas, X.clock, X.frames, X.room, X.hears, X.method, X.code, (X.here.setHeapUsed s₂.heap s₂.slotsUsed).setVm hW'.alike, X.tail, State.WarmedH.trans X.warmed hW', X.limits, X.bytes, X.same.trans (hsame.setVm s.vm)⟩,
      ⟨g, mk, s₂, L, rfl, rfl, hqc, rfl, hL, rfl, rfl⟩, ?_⟩
    show Steps p.tables e below _ ((({ U with heap := s₂.heap, slotsUsed := s₂.slotsUsed } : State).setVm s₂.vm).setTop { g with pc := g.pc + len₂, stack := v.toList ++ g.stack })
    rw [← hs₂]
    exact hsteps
  · obtain ⟨e2, q2, q3, q4, q5, q6⟩ := id hsm
    have e3 : s₂ = ({ (U.calling g mk a).setFrames s₂.frames with heap := s₂.heap, slotsUsed := s₂.slotsUsed } : State).setVm s₂.vm := by
      have : s₂ = ({ s₂ with vm := (U.calling g mk a).vm } : State).setVm s₂.vm := rfl
      rw [e2] at this
      exact this
    have hf₂ : s₂.frames = .throwing q :: .java g :: U.frames.tail := hend
    have hW' : U.WarmedH s₂.vm := hW₂
    have hs₂ : s₂ = ((({ U with heap := s₂.heap, slotsUsed := s₂.slotsUsed } : State).setVm s₂.vm).setTop g).pushFrame (.throwing q) := by
      refine e3.trans ?_
      rw [hf₂, State.calling_eq h.top, State.setFrames_setFrames, State.pushFrame, State.frames_setTop _ hr', State.setTop_of_frames _ hr', State.setFrames_setFrames, hr]
      rfl
    have hsame : U.sameButNew ({ U with heap := s₂.heap, slotsUsed := s₂.slotsUsed } : State) L mc ms := by
      refine ⟨?_, q2, q3, q4, q5, q6⟩
      obtain ⟨t, ht, -⟩ := State.frames_cons hr
      show ({ U with heap := s₂.heap, slotsUsed := s₂.slotsUsed } : State) = { U.setFrames U.frames with heap := s₂.heap, slotsUsed := s₂.slotsUsed }
      rw [State.setFrames_self ht]
    subst hg
    refine Or.inr ⟨q, ⟨(({ U with heap := s₂.heap, slotsUsed := s₂.slotsUsed } : State).setVm s₂.vm), Ls ++ L, c0 + mc, s0 + ms⟩,
      ⟨X.admits, X.cas, X.clock, X.frames, X.room, X.hears, X.method, X.code, (X.here.setHeapUsed s₂.heap s₂.slotsUsed).setVm hW'.alike, X.tail, State.WarmedH.trans X.warmed hW', X.limits, X.bytes, X.same.trans (hsame.setVm s.vm)⟩,
      ⟨g, mk, s₂, L, E, ce, rfl, rfl, hx, hce, hcv, hcl, rfl, hL, rfl, rfl⟩, ?_⟩
    show Steps p.tables e below _ (((({ U with heap := s₂.heap, slotsUsed := s₂.slotsUsed } : State).setVm s₂.vm).setTop g).pushFrame (.throwing q))
    rw [← hs₂]
    exact hsteps
end
variable {p : Program} {l : Launch} {e : Env} {R : Room} {s : State} {m : MethodId} {args : Array Value} {below : List Frame} {meth : Method} {c : Code} {T : State} {H : Heap} {locs : List Loc} {cells slots : Nat}
theorem vx_callVX (X : Stand p l e R s m args below meth c T locs cells slots) (hexec : p.tables.exec = Jvm.exec) {own C : String} {index : Nat} {y : MethodName} {bytes : ByteArray} {maxL : Nat} {ret : Option FieldType} {hh : List (Nat × Nat × Nat × Nat)}
    (hown : s.vm.findClass own = some m.cls) (hlink : (Cond.methodLink own index y).before args s = true) (hinst : (Cond.instanceMethod y).before args s = true) (hsel : (Cond.selects C y y).before args s = true)
    (hcode : (Cond.codeWith y bytes maxL ret hh).before args s = true) (hy : y.cls ≠ "java/lang/invoke/MethodHandle" ∧ y.cls ≠ "java/lang/invoke/VarHandle")
    {W9 : Nat} {Pre : Pt → Array Value → Prop} {Post : Pt → Array Value → Option Value → Pt → Prop} {PostX : Pt → Array Value → Addr → Pt → Prop} (hK : vx_Back l R p e below s args y 3 W9 Pre Post PostX)
    {b : Addr} {cellB : Cell} (hcell : T.heap[b]? = some cellB) (hobj : cellB.vm.isStatics = false) (hcls : s.vm.findClass C = some cellB.cls)
    {g : JFrame} (hg : g.method = m) (hsize : g.locals.size = c.maxLocals) {argsL rest : List Value} (hlen : ∀ sig, parseMethodDescriptor y.desc = some sig → argsL.length = sig.parameters.length)
    (hstack : g.stack = argsL.reverse ++ .ref b :: rest) (hW : 2 * g.monitorRoom + (rest.map fun v => v.category).sum ≤ W9) (hdg : decode c.code g.pc = .ok (.invokevirtual index, 3))
    (hpre : ∀ vm₁, s.WarmedH vm₁ → Pre ⟨T.setVm vm₁, locs, cells, slots⟩ (Value.ref b :: argsL).toArray) :
    (∃ (v : Option Value) (vm₁ : Vm) (B : Pt), s.WarmedH vm₁ ∧ Stand p l e R s m args below meth c B.U B.locs B.cells B.slots ∧ Post ⟨T.setVm vm₁, locs, cells, slots⟩ (Value.ref b :: argsL).toArray v B ∧
      ∀ target, Steps p.tables e below (B.U.setTop { g with pc := g.pc + 3, stack := v.toList ++ rest }) target → Steps p.tables e below (T.setTop g) target) ∨
    (∃ (q : Addr) (vm₁ : Vm) (B : Pt), s.WarmedH vm₁ ∧ Stand p l e R s m args below meth c B.U B.locs B.cells B.slots ∧ PostX ⟨T.setVm vm₁, locs, cells, slots⟩ (Value.ref b :: argsL).toArray q B ∧
      Steps p.tables e below (T.setTop g) ((B.U.setTop { g with stack := rest }).pushFrame (.throwing q))) := by
  obtain ⟨mk, methM, hnamed, hmethM, hstM, habM⟩ := Cond.instanceMethod_spec hinst
  obtain ⟨m8, methM', cM, hn8, hmethM', -, -, -, -, -, -, hsigM⟩ := Cond.codeWith_spec hcode
  cases Option.some.inj (hn8.symm.trans hnamed)
  cases hmethM.symm.trans hmethM'
  obtain ⟨c2, r2, m2, q1, q2, q3, q4, kP, hkP, hkPi⟩ := Cond.selects_spec hsel
  cases hcls.symm.trans q1
  cases (State.methodFound?_of_named hnamed hy).symm.trans q2
  cases hnamed.symm.trans q3
  have hselP : selectMethod e.platform s.vm cellB.cls mk = .method mk := by rw [Launch.admits_selectMethod X.admits]; exact q4
  obtain ⟨vm₁, X₁, hstep₁⟩ := X.invokevirtual hexec hown hlink hnamed hmethM hstM hkP hkPi hy (a := b) (cell := cellB) hcell
    (fun z h => by rw [h] at hobj; cases hobj) hselP hmethM habM hkP hkPi (g := g) hg (argsL := argsL) (rest := rest) (hlen _ hsigM) hstack hdg
  rcases hK m meth c ⟨T.setVm vm₁, locs, cells, slots⟩ { g with stack := rest } (.invokevirtual index) mk (Value.ref b :: argsL).toArray X₁ hg hsize hdg hW (X₁.named hnamed) (hpre vm₁ X₁.warmed) with ⟨v, B, X', hpost, hsteps⟩ | ⟨q, B, X', hpost, hsteps⟩
  · exact Or.inl ⟨v, vm₁, B, X₁.warmed, X', hpost, fun target h => hstep₁ _ fun acts => by rw [doInvoke_state]; exact hsteps.trans h⟩
  · exact Or.inr ⟨q, vm₁, B, X₁.warmed, X', hpost, hstep₁ _ fun acts => by rw [doInvoke_state]; exact hsteps⟩
theorem vx_callSX (X : Stand p l e R s m args below meth c T locs cells slots) (hexec : p.tables.exec = Jvm.exec) {own : String} {index : Nat} {y : MethodName} {bytes : ByteArray} {maxL : Nat} {ret : Option FieldType} {hh : List (Nat × Nat × Nat × Nat)}
    (hown : s.vm.findClass own = some m.cls) (hlink : (Cond.methodLink own index y).before args s = true) (hstat : (Cond.static y).before args s = true) (hinit : (Cond.initialized y.cls).before args s = true)
    (hcode : (Cond.codeWith y bytes maxL ret hh).before args s = true) (hy : y.cls ≠ "java/lang/invoke/MethodHandle" ∧ y.cls ≠ "java/lang/invoke/VarHandle")
    {W9 : Nat} {Pre : Pt → Array Value → Prop} {Post : Pt → Array Value → Option Value → Pt → Prop} {PostX : Pt → Array Value → Addr → Pt → Prop} (hK : vx_Back l R p e below s args y 3 W9 Pre Post PostX)
    {g : JFrame} (hg : g.method = m) (hsize : g.locals.size = c.maxLocals) {argsL rest : List Value} (hlen : ∀ sig, parseMethodDescriptor y.desc = some sig → argsL.length = sig.parameters.length)
    (hstack : g.stack = argsL.reverse ++ rest) (hW : 2 * g.monitorRoom + (rest.map fun v => v.category).sum ≤ W9) (hdg : decode c.code g.pc = .ok (.invokestatic index, 3))
    (hpre : ∀ vm₁, s.WarmedH vm₁ → Pre ⟨T.setVm vm₁, locs, cells, slots⟩ argsL.toArray) :
    (∃ (v : Option Value) (vm₁ : Vm) (B : Pt), s.WarmedH vm₁ ∧ Stand p l e R s m args below meth c B.U B.locs B.cells B.slots ∧ Post ⟨T.setVm vm₁, locs, cells, slots⟩ argsL.toArray v B ∧
      ∀ target, Steps p.tables e below (B.U.setTop { g with pc := g.pc + 3, stack := v.toList ++ rest }) target → Steps p.tables e below (T.setTop g) target) ∨
    (∃ (q : Addr) (vm₁ : Vm) (B : Pt), s.WarmedH vm₁ ∧ Stand p l e R s m args below meth c B.U B.locs B.cells B.slots ∧ PostX ⟨T.setVm vm₁, locs, cells, slots⟩ argsL.toArray q B ∧
      Steps p.tables e below (T.setTop g) ((B.U.setTop { g with stack := rest }).pushFrame (.throwing q))) := by
  obtain ⟨mk, methM, cM, hnamed, hmethM, -, -, -, -, -, -, hsigM⟩ := Cond.codeWith_spec hcode
  have hstatic : methM.isStatic = true := Cond.static_spec hnamed hmethM hstat
  obtain ⟨kP, hkP, -⟩ := className_of_methodNamed hnamed
  have hinitP : kP.init = .initialized := Cond.initialized_spec (findClass_of_methodNamed hnamed) hkP hinit
  obtain ⟨vm₁, X₁, hstep₁⟩ := X.invokestatic hexec hown hlink hnamed hmethM hstatic hkP hinitP hy (g := g) hg (argsL := argsL) (rest := rest) (hlen _ hsigM) hstack hdg
  rcases hK m meth c ⟨T.setVm vm₁, locs, cells, slots⟩ { g with stack := rest } (.invokestatic index) mk argsL.toArray X₁ hg hsize hdg hW (X₁.named hnamed) (hpre vm₁ X₁.warmed) with ⟨v, B, X', hpost, hsteps⟩ | ⟨q, B, X', hpost, hsteps⟩
  · exact Or.inl ⟨v, vm₁, B, X₁.warmed, X', hpost, fun target h => hstep₁ _ fun acts => by rw [doInvoke_state]; exact hsteps.trans h⟩
  · exact Or.inr ⟨q, vm₁, B, X₁.warmed, X', hpost, hstep₁ _ fun acts => by rw [doInvoke_state]; exact hsteps⟩
theorem vx_callVW (X : Stand p l e R s m args below meth c T locs cells slots) (hexec : p.tables.exec = Jvm.exec) {own C : String} {index : Nat} {y : MethodName} {bytes : ByteArray} {maxL : Nat} {ret : Option FieldType} {hh : List (Nat × Nat × Nat × Nat)}
    (hown : s.vm.findClass own = some m.cls) (hlink : (Cond.methodLink own index y).before args s = true) (hinst : (Cond.instanceMethod y).before args s = true) (hsel : (Cond.selects C y y).before args s = true)
    (hcode : (Cond.codeWith y bytes maxL ret hh).before args s = true) (hy : y.cls ≠ "java/lang/invoke/MethodHandle" ∧ y.cls ≠ "java/lang/invoke/VarHandle")
    {W9 : Nat} {Pre : Pt → Array Value → Prop} {Post : Pt → Array Value → Option Value → Pt → Prop} (hK : Back l R p e below s args y 3 W9 Pre Post)
    {b : Addr} {cellB : Cell} (hcell : T.heap[b]? = some cellB) (hobj : cellB.vm.isStatics = false) (hcls : s.vm.findClass C = some cellB.cls)
    {g : JFrame} (hg : g.method = m) (hsize : g.locals.size = c.maxLocals) {argsL rest : List Value} (hlen : ∀ sig, parseMethodDescriptor y.desc = some sig → argsL.length = sig.parameters.length)
    (hstack : g.stack = argsL.reverse ++ .ref b :: rest) (hW : 2 * g.monitorRoom + (rest.map fun v => v.category).sum ≤ W9) (hdg : decode c.code g.pc = .ok (.invokevirtual index, 3))
    (hpre : ∀ vm₁, s.WarmedH vm₁ → Pre ⟨T.setVm vm₁, locs, cells, slots⟩ (Value.ref b :: argsL).toArray) :
    ∃ (v : Option Value) (vm₁ : Vm) (B : Pt), s.WarmedH vm₁ ∧ Stand p l e R s m args below meth c B.U B.locs B.cells B.slots ∧ Post ⟨T.setVm vm₁, locs, cells, slots⟩ (Value.ref b :: argsL).toArray v B ∧
      ∀ target, Steps p.tables e below (B.U.setTop { g with pc := g.pc + 3, stack := v.toList ++ rest }) target → Steps p.tables e below (T.setTop g) target := by
  obtain ⟨mk, methM, hnamed, hmethM, hstM, habM⟩ := Cond.instanceMethod_spec hinst
  obtain ⟨m8, methM', cM, hn8, hmethM', -, -, -, -, -, -, hsigM⟩ := Cond.codeWith_spec hcode
  cases Option.some.inj (hn8.symm.trans hnamed)
  cases hmethM.symm.trans hmethM'
  obtain ⟨c2, r2, m2, q1, q2, q3, q4, kP, hkP, hkPi⟩ := Cond.selects_spec hsel
  cases hcls.symm.trans q1
  cases (State.methodFound?_of_named hnamed hy).symm.trans q2
  cases hnamed.symm.trans q3
  have hselP : selectMethod e.platform s.vm cellB.cls mk = .method mk := by rw [Launch.admits_selectMethod X.admits]; exact q4
  obtain ⟨vm₁, X₁, hstep₁⟩ := X.invokevirtual hexec hown hlink hnamed hmethM hstM hkP hkPi hy (a := b) (cell := cellB) hcell
    (fun z h => by rw [h] at hobj; cases hobj) hselP hmethM habM hkP hkPi (g := g) hg (argsL := argsL) (rest := rest) (hlen _ hsigM) hstack hdg
  obtain ⟨v, B, X', hpost, hsteps⟩ := hK m meth c ⟨T.setVm vm₁, locs, cells, slots⟩ { g with stack := rest } (.invokevirtual index) mk (Value.ref b :: argsL).toArray X₁ hg hsize hdg hW (X₁.named hnamed) (hpre vm₁ X₁.warmed)
  exact ⟨v, vm₁, B, X₁.warmed, X', hpost, fun target h => hstep₁ _ fun acts => by rw [doInvoke_state]; exact hsteps.trans h⟩
abbrev vx_CVW (R : Room) (s : State) (args : Array Value) (own C : String) (index : Nat) (y : MethodName) (bytes : ByteArray) (maxL : Nat) (ret : Option FieldType) (hh : List (Nat × Nat × Nat × Nat)) (ws : List Cond) (rm : Room) (mc ms n : Nat) : Prop :=
  (rm.cells = mc ∧ rm.slots = ms ∧ rm.frames + 1 ≤ R.frames ∧ 8 + (maxL + 11) + rm.locals ≤ R.locals ∧ (∀ w ∈ ws, ∀ (a' : Array Value) (U : State), s.WarmedH U.vm → w.before a' U = true) ∧ Cond.codeWith y bytes maxL ret hh ∈ ws) ∧
  (Cond.codeWith y bytes maxL ret hh).before args s = true ∧ (Cond.initialized y.cls).before args s = true ∧ (y.cls ≠ "java/lang/invoke/MethodHandle" ∧ y.cls ≠ "java/lang/invoke/VarHandle") ∧
  (∀ sig, parseMethodDescriptor y.desc = some sig → n = sig.parameters.length) ∧ (Cond.methodLink own index y).before args s = true ∧ (Cond.instanceMethod y).before args s = true ∧ (Cond.selects C y y).before args s = true
theorem vx_cwVW {own C : String} {index maxL mc ms : Nat} {y : MethodName} {bytes : ByteArray} {ret : Option FieldType} {hh : List (Nat × Nat × Nat × Nat)} {Ts ws ws' : List Cond} {rm : Room} (n : Nat) (ht : ∀ w ∈ Ts, w.before args s = true) (hT : GoodIn Ts (wsV own index C y ws)) (hw : ws = Cond.codeWith y bytes maxL ret hh :: ws') (hrc : rm.cells = mc) (hrs : rm.slots = ms)
    (hd : y.cls = C ∧ y.cls ≠ "java/lang/invoke/MethodHandle" ∧ y.cls ≠ "java/lang/invoke/VarHandle" ∧ (parseMethodDescriptor y.desc).map (fun d => d.parameters.length) = some n) (hR : rm.frames + 1 ≤ R.frames ∧ 8 + (maxL + 11) + rm.locals ≤ R.locals) :
    vx_CVW R s args own C index y bytes maxL ret hh ws rm mc ms n := by
  obtain ⟨hC, hd⟩ := hd
  subst hC
  have ok : ∀ w ∈ wsV own index y.cls y ws, w.before args s = true := fun w h => ht w (hT w h).1
  have hG : GoodIn Ts ws := fun w h => hT w (by unfold wsV; exact List.mem_append_right _ h)
  have hc : Cond.codeWith y bytes maxL ret hh ∈ ws := by rw [hw]; exact List.mem_cons_self
  refine ⟨⟨hrc, hrs, hR.1, hR.2, pay_in ht hG, hc⟩, ht _ (hG _ hc).1, ok _ (by simp [wsV]), ⟨hd.1, hd.2.1⟩, fun sig h => ?_, ok _ (by simp [wsV]), ok _ (by simp [wsV]), ok _ (by simp [wsV])⟩
  have h2 := hd.2.2
  rw [h] at h2
  exact (Option.some.inj h2).symm
theorem vx_runVW {y : MethodName} {bytes cc : ByteArray} {maxL nL mc ms n index : Nat} {ret : Option FieldType} {hh : List (Nat × Nat × Nat × Nat)} {ws : List Cond} {rm : Room} {Pc : Array Value → State → Prop} {Qc : Array Value → State → Outcome → State → Prop} {free : Addr → Prop} {Ts : List Cond} {own C : String} {b : Addr} {As rest : List Value} {g : JFrame}
    (S : CallFix p m c cc nL s args Ts own) (hM : Met l y ws rm Pc Qc mc ms free) (cw : vx_CVW R s args own C index y bytes maxL ret hh ws rm mc ms n) (hp : PreV s H C b Pc As)
    (hg : g.method = m) (hn : As.length = n) (hsize : g.locals.size = nL) (hstack : g.stack = As.reverse ++ .ref b :: rest) (hW : 2 * g.monitorRoom + (rest.map fun v => v.category).sum ≤ 8) (hdg : decode cc g.pc = .ok (.invokevirtual index, 3)) (hf : cells + mc ≤ R.cells ∧ slots + ms ≤ R.slots) :
    va_Run p l e R s m args below meth c H locs cells slots mc ms g rest (Qc (Value.ref b :: As).toArray) free := by
  obtain ⟨⟨hrc, hrs, hfr, hlo, hws, hcw⟩, hcode, hini, hy, hlen, hl, hin, hse⟩ := cw
  have hK : Back l R p e below s args y 3 8 (PreOf R mc ms Pc) (PostOf Qc mc ms free) := va_backW (hh := hh) (bytes := bytes) (maxL := maxL) (ret := ret) hM hp.1 hrc hrs hfr hlo hws hcw (fun a' U hW => word_at hW (Or.inl (by first | rfl | simp [Cond.onTables, Cond.keeps, Cond.steady])) hini)
  obtain ⟨hx, hb, hml, ho, -⟩ := S
  obtain ⟨-, ⟨cellB, hcB, hoB, hclB⟩, hPc⟩ := hp
  intro T hT X
  obtain ⟨v, vm₁, ⟨U', l2, c2, s2⟩, hW₁, X', ⟨g', mk, t, L, e1, e2, hq, h1, hL, h2, h3⟩, st⟩ := vx_callVW X hx (C := C) (hh := hh) (bytes := bytes) (maxL := maxL) (ret := ret) ho hl hin hse hcode hy hK (by rw [hT]; exact hcB) hoB hclB hg (hsize.trans hml.symm) (argsL := As) (rest := rest) (fun sig h => hn.trans (hlen sig h)) hstack hW (by rw [hb]; exact hdg)
    (fun vm₁ hW₁ => ⟨hf.1, hf.2, hPc (T.setVm vm₁) hT hW₁⟩)
  dsimp only [Pt.U, Pt.locs, Pt.cells, Pt.slots] at X' e1 e2 h1 h2 h3 st
  subst h1; subst h2; subst h3
  exact ⟨v, (T.setVm vm₁).calling g' mk (Value.ref b :: As).toArray, t, U', L, hT, X', hL, e1, e2, hq, st⟩
section
variable {y : MethodName} {bytes cc : ByteArray} {maxL nL mc ms n index : Nat} {ret : Option FieldType} {ws : List Cond} {rm : Room} {Pc : Array Value → State → Prop} {Qc : Array Value → State → Outcome → State → Prop} {XC : String → State → State → Prop} {free : Addr → Prop} {Ts : List Cond} {own C : String} {b : Addr} {As rest : List Value} {g : JFrame}
theorem vx_runVX {hh : List (Nat × Nat × Nat × Nat)} (S : CallFix p m c cc nL s args Ts own) (hM : vx_Met l y ws rm Pc Qc XC mc ms free) (cw : vx_CVW R s args own C index y bytes maxL ret hh ws rm mc ms n) (hp : PreV s H C b Pc As)
    (hg : g.method = m) (hn : As.length = n) (hsize : g.locals.size = nL) (hstack : g.stack = As.reverse ++ .ref b :: rest) (hW : 2 * g.monitorRoom + (rest.map fun v => v.category).sum ≤ 8) (hdg : decode cc g.pc = .ok (.invokevirtual index, 3)) (hf : cells + mc ≤ R.cells ∧ slots + ms ≤ R.slots) :
    vx_Run p l e R s m args below meth c H locs cells slots mc ms g rest (Qc (Value.ref b :: As).toArray) XC free := by
  obtain ⟨⟨hrc, hrs, hfr, hlo, hws, hcw⟩, hcode, hini, hy, hlen, hl, hin, hse⟩ := cw
  have hK : vx_Back l R p e below s args y 3 8 (PreOf R mc ms Pc) (PostOf Qc mc ms free) (vx_Post XC mc ms free) := vx_backW (hh := hh) (bytes := bytes) (maxL := maxL) (ret := ret) hM hp.1 hrc hrs hfr hlo hws hcw (fun a' U hW => word_at hW (Or.inl (by first | rfl | simp [Cond.onTables, Cond.keeps, Cond.steady])) hini)
  obtain ⟨hx, hb, hml, ho, -⟩ := S
  obtain ⟨-, ⟨cellB, hcB, hoB, hclB⟩, hPc⟩ := hp
  intro T hT X
  rcases vx_callVX X hx (C := C) (hh := hh) (bytes := bytes) (maxL := maxL) (ret := ret) ho hl hin hse hcode hy hK (by rw [hT]; exact hcB) hoB hclB hg (hsize.trans hml.symm) (argsL := As) (rest := rest) (fun sig h => hn.trans (hlen sig h)) hstack hW (by rw [hb]; exact hdg)
    (fun vm₁ hW₁ => ⟨hf.1, hf.2, hPc (T.setVm vm₁) hT hW₁⟩) with ⟨v, vm₁, ⟨U', l2, c2, s2⟩, hW₁, X', ⟨g', mk, t, L, e1, e2, hq, h1, hL, h2, h3⟩, st⟩ | ⟨q, vm₁, ⟨U', l2, c2, s2⟩, hW₁, X', ⟨g', mk, t, L, E, ce, e1, e2, hq, hce, hcv, hcl, h1, hL, h2, h3⟩, st⟩
  · dsimp only [Pt.U, Pt.locs, Pt.cells, Pt.slots] at X' e1 e2 h1 h2 h3 st
    subst h1; subst h2; subst h3
    exact Or.inl ⟨v, (T.setVm vm₁).calling g' mk (Value.ref b :: As).toArray, t, U', L, hT, X', hL, e1, e2, hq, st⟩
  · dsimp only [Pt.U, Pt.locs, Pt.cells, Pt.slots] at X' e1 e2 h1 h2 h3 st hcl
    subst h1; subst h2; subst h3
    exact Or.inr ⟨q, (T.setVm vm₁).calling g' mk (Value.ref b :: As).toArray, t, U', L, E, ce, hT, X', hL, e1, e2, hq, hce, hcv, vx_cls hW₁ hcl, st⟩
theorem vx_runSX {hh : List (Nat × Nat × Nat × Nat)} (S : CallFix p m c cc nL s args Ts own) (hM : vx_Met l y ws rm Pc Qc XC mc ms free) (cw : vx_CSW R s args own index y bytes maxL ret hh ws rm mc ms n) (hp : PreS s H Pc As)
    (hg : g.method = m) (hn : As.length = n) (hsize : g.locals.size = nL) (hstack : g.stack = As.reverse ++ rest) (hW : 2 * g.monitorRoom + (rest.map fun v => v.category).sum ≤ 8) (hdg : decode cc g.pc = .ok (.invokestatic index, 3)) (hf : cells + mc ≤ R.cells ∧ slots + ms ≤ R.slots) :
    vx_Run p l e R s m args below meth c H locs cells slots mc ms g rest (Qc As.toArray) XC free := by
  obtain ⟨⟨hrc, hrs, hfr, hlo, hws, hcw⟩, hcode, hini, hy, hlen, hl, hstt⟩ := cw
  have hK : vx_Back l R p e below s args y 3 8 (PreOf R mc ms Pc) (PostOf Qc mc ms free) (vx_Post XC mc ms free) := vx_backW (hh := hh) (bytes := bytes) (maxL := maxL) (ret := ret) hM hp.1 hrc hrs hfr hlo hws hcw (fun a' U hW => word_at hW (Or.inl (by first | rfl | simp [Cond.onTables, Cond.keeps, Cond.steady])) hini)
  obtain ⟨hx, hb, hml, ho, -⟩ := S
  intro T hT X
  rcases vx_callSX X hx (hh := hh) (bytes := bytes) (maxL := maxL) (ret := ret) ho hl hstt hini hcode hy hK hg (hsize.trans hml.symm) (argsL := As) (rest := rest) (fun sig h => hn.trans (hlen sig h)) hstack hW (by rw [hb]; exact hdg)
    (fun vm₁ hW₁ => ⟨hf.1, hf.2, hp.2 (T.setVm vm₁) hT hW₁⟩) with ⟨v, vm₁, ⟨U', l2, c2, s2⟩, hW₁, X', ⟨g', mk, t, L, e1, e2, hq, h1, hL, h2, h3⟩, st⟩ | ⟨q, vm₁, ⟨U', l2, c2, s2⟩, hW₁, X', ⟨g', mk, t, L, E, ce, e1, e2, hq, hce, hcv, hcl, h1, hL, h2, h3⟩, st⟩
  · dsimp only [Pt.U, Pt.locs, Pt.cells, Pt.slots] at X' e1 e2 h1 h2 h3 st
    subst h1; subst h2; subst h3
    exact Or.inl ⟨v, (T.setVm vm₁).calling g' mk As.toArray, t, U', L, hT, X', hL, e1, e2, hq, st⟩
  · dsimp only [Pt.U, Pt.locs, Pt.cells, Pt.slots] at X' e1 e2 h1 h2 h3 st hcl
    subst h1; subst h2; subst h3
    exact Or.inr ⟨q, (T.setVm vm₁).calling g' mk As.toArray, t, U', L, E, ce, hT, X', hL, e1, e2, hq, hce, hcv, vx_cls hW₁ hcl, st⟩
end
end VXH
theorem vx_ofWH {l : Launch} {y : MethodName} {ws ws' : List Cond} {rm : Room} {Pc : Array Value → State → Prop} {Qc : Array Value → State → Outcome → State → Prop} {XC : String → State → State → Prop} {mc ms : Nat} {free : Addr → Prop} {cc : ByteArray} {maxL : Nat} {ret : Option FieldType} {hh : List (Nat × Nat × Nat × Nat)}
    (hy : plainName y.cls = true) (hw : ws = Cond.codeWith y cc maxL ret hh :: ws')
    (body : ∀ p e s m args below meth c s₁, BodyLoose p l y (headSpec ws rm) cc maxL ret e s m args below meth c s₁ → c.maxLocals = maxL → Pc args s →
      W p l e (headSpec ws rm).room s m args below meth c s.heap [] 0 0 (vx_MQ below Qc XC args s mc ms free) (entryFrame m args maxL)) : vx_Met l y ws rm Pc Qc XC mc ms free := by
  refine MetFree.of_bodyS (code := cc) (maxLocals := maxL) (ret := ret) hy ?_ ?_
  · intro args s m h hn
    obtain ⟨m9, meth, c, hn9, h1, h2, h3, h4, -, h5, h6, -⟩ := Cond.codeWith_spec (atoms_spec (ws := ws) h _ (by rw [hw]; exact List.mem_cons_self))
    cases hn.symm.trans hn9
    exact ⟨meth, c, h1, h2, h3, h4, h5, h6⟩
  · intro p e s m args below meth c s₁ B hml hP _
    have hh0 : s₁.heap = s.heap := by rw [B.state]; rfl
    obtain ⟨t, a1, o, b1, b2, b3⟩ := body p e s m args below meth c s₁ B hml hP s₁ hh0 (Stand.of_body B)
    exact ⟨t, o, a1, b1, b2, b3⟩
/-! ===== END ===== -/
end
section
def RX0 : String := "OmitMarkup$Grammar"
def TX0 : u_T := fun k => match k with
  | 0 => ("OmitMarkup$Grammar", "models", "[LOmitMarkup$Model;", true)
  | 1 => ("OmitMarkup$Grammar", "includes", "[I", true)
  | 2 => ("OmitMarkup$Grammar", "excludes", "[I", true)
  | 3 => ("OmitMarkup$Grammar", "startMayLack", "[Z", true)
  | _ => ("OmitMarkup$Grammar", "endMayLack", "[Z", true)
def tyX0 : Nat → FieldType := fun k => match k with
  | 0 => .array (.object "OmitMarkup$Model")
  | 1 => .array .int
  | 2 => .array .int
  | 3 => .array .boolean
  | _ => .array .boolean
abbrev wsX00 : List Cond := u_ws RX0 TX0 5
theorem nmX0 : ∀ a, a < 5 → ∀ b, b < 5 → a ≠ b → (TX0 a).2.1 ≠ (TX0 b).2.1 := by decide +kernel
theorem tyX0_ok : ∀ k, k < 5 → parseFieldDescriptor (TX0 k).2.2.1 = some (tyX0 k) := by decide +kernel
abbrev cX0_init : ByteArray := prog_2_method_1_code
def yX0_init : MethodName := ⟨RX0, "<init>", "()V"⟩
def RX1 : String := "OmitMarkup$Model"
def TX1 : u_T := fun k => match k with
  | 0 => ("OmitMarkup$Model", "sets", "[I", true)
  | 1 => ("OmitMarkup$Model", "takeMany", "[Z", true)
  | 2 => ("OmitMarkup$Model", "mayLack", "[Z", true)
  | 3 => ("OmitMarkup$Model", "slots", "I", false)
  | 4 => ("OmitMarkup$Model", "onward", "[I", true)
  | 5 => ("OmitMarkup$Model", "ends", "[Z", true)
  | _ => ("OmitMarkup$Model", "clashing", "I", false)
def tyX1 : Nat → FieldType := fun k => match k with
  | 0 => .array .int
  | 1 => .array .boolean
  | 2 => .array .boolean
  | 3 => .int
  | 4 => .array .int
  | 5 => .array .boolean
  | _ => .int
abbrev wsX10 : List Cond := u_ws RX1 TX1 7
theorem nmX1 : ∀ a, a < 7 → ∀ b, b < 7 → a ≠ b → (TX1 a).2.1 ≠ (TX1 b).2.1 := by decide +kernel
theorem tyX1_ok : ∀ k, k < 7 → parseFieldDescriptor (TX1 k).2.2.1 = some (tyX1 k) := by decide +kernel
abbrev cX1_init : ByteArray := prog_3_method_1_code
def yX1_init : MethodName := ⟨RX1, "<init>", "()V"⟩
abbrev cX1_addSlot : ByteArray := prog_3_method_2_code
def yX1_addSlot : MethodName := ⟨RX1, "addSlot", "(II)V"⟩
abbrev cX1_dropLastSlot : ByteArray := prog_3_method_3_code
def yX1_dropLastSlot : MethodName := ⟨RX1, "dropLastSlot", "()V"⟩
abbrev cX1_dropSlots : ByteArray := prog_3_method_4_code
def yX1_dropSlots : MethodName := ⟨RX1, "dropSlots", "()V"⟩
abbrev cX1_slotFor : ByteArray := prog_3_method_5_code
def yX1_slotFor : MethodName := ⟨RX1, "slotFor", "(II)I"⟩
abbrev cX1_workOut : ByteArray := prog_3_method_6_code
def yX1_workOut : MethodName := ⟨RX1, "workOut", "()V"⟩
abbrev cX1_workOutReach : ByteArray := prog_3_method_7_code
def yX1_workOutReach : MethodName := ⟨RX1, "workOutReach", "(I)V"⟩
def RX2 : String := "OmitMarkup$Reader"
def TX2 : u_T := fun k => match k with
  | 0 => ("OmitMarkup$Reader", "grammar", "LOmitMarkup$Grammar;", true)
  | 1 => ("OmitMarkup$Reader", "text", "LOmitMarkup$Row;", true)
  | 2 => ("OmitMarkup$Reader", "entities", "[LOmitMarkup$Row;", true)
  | 3 => ("OmitMarkup$Reader", "switches", "[I", true)
  | 4 => ("OmitMarkup$Reader", "tree", "LOmitMarkup$Tree;", true)
  | 5 => ("OmitMarkup$Reader", "normalForm", "LOmitMarkup$Row;", true)
  | 6 => ("OmitMarkup$Reader", "errorKinds", "[I", true)
  | 7 => ("OmitMarkup$Reader", "errorPlaces", "[I", true)
  | 8 => ("OmitMarkup$Reader", "errorCount", "I", false)
  | 9 => ("OmitMarkup$Reader", "endTagsPutIn", "I", false)
  | 10 => ("OmitMarkup$Reader", "state", "LOmitMarkup$State;", true)
  | 11 => ("OmitMarkup$Reader", "openThings", "[I", true)
  | 12 => ("OmitMarkup$Reader", "states", "[LOmitMarkup$State;", false)
  | 13 => ("OmitMarkup$Reader", "statesBefore", "[LOmitMarkup$State;", false)
  | 14 => ("OmitMarkup$Reader", "within", "[I", true)
  | 15 => ("OmitMarkup$Reader", "textPlace", "I", false)
  | _ => ("OmitMarkup$Reader", "readAnew", "I", false)
def tyX2 : Nat → FieldType := fun k => match k with
  | 0 => .object "OmitMarkup$Grammar"
  | 1 => .object "OmitMarkup$Row"
  | 2 => .array (.object "OmitMarkup$Row")
  | 3 => .array .int
  | 4 => .object "OmitMarkup$Tree"
  | 5 => .object "OmitMarkup$Row"
  | 6 => .array .int
  | 7 => .array .int
  | 8 => .int
  | 9 => .int
  | 10 => .object "OmitMarkup$State"
  | 11 => .array .int
  | 12 => .array (.object "OmitMarkup$State")
  | 13 => .array (.object "OmitMarkup$State")
  | 14 => .array .int
  | 15 => .int
  | _ => .int
abbrev wsX20 : List Cond := u_ws RX2 TX2 17
theorem nmX2 : ∀ a, a < 17 → ∀ b, b < 17 → a ≠ b → (TX2 a).2.1 ≠ (TX2 b).2.1 := by decide +kernel
theorem tyX2_ok : ∀ k, k < 17 → parseFieldDescriptor (TX2 k).2.2.1 = some (tyX2 k) := by decide +kernel
abbrev cX2_init : ByteArray := prog_4_method_1_code
def yX2_init : MethodName := ⟨RX2, "<init>", "(LOmitMarkup$Grammar;LOmitMarkup$Row;[LOmitMarkup$Row;[I)V"⟩
abbrev cX2_readText : ByteArray := prog_4_method_2_code
def yX2_readText : MethodName := ⟨RX2, "readText", "()V"⟩
abbrev cX2_countReadAnew : ByteArray := prog_4_method_3_code
def yX2_countReadAnew : MethodName := ⟨RX2, "countReadAnew", "(III)V"⟩
abbrev cX2_isAsBefore : ByteArray := prog_4_method_4_code
def yX2_isAsBefore : MethodName := ⟨RX2, "isAsBefore", "(II)Z"⟩
abbrev cX2_goThrough : ByteArray := prog_4_method_5_code
def yX2_goThrough : MethodName := ⟨RX2, "goThrough", "(LOmitMarkup$Row;I)V"⟩
abbrev cX2_plainLetter : ByteArray := prog_4_method_6_code
def yX2_plainLetter : MethodName := ⟨RX2, "plainLetter", "(II)C"⟩
abbrev cX2_keepState : ByteArray := prog_4_method_7_code
def yX2_keepState : MethodName := ⟨RX2, "keepState", "(II)V"⟩
abbrev cX2_readToken : ByteArray := prog_4_method_8_code
def yX2_readToken : MethodName := ⟨RX2, "readToken", "(LOmitMarkup$Row;II)V"⟩
abbrev cX2_isLineLeftOut : ByteArray := prog_4_method_9_code
def yX2_isLineLeftOut : MethodName := ⟨RX2, "isLineLeftOut", "(LOmitMarkup$Row;I)Z"⟩
abbrev cX2_goThroughEntity : ByteArray := prog_4_method_10_code
def yX2_goThroughEntity : MethodName := ⟨RX2, "goThroughEntity", "(II)V"⟩
abbrev cX2_readThing : ByteArray := prog_4_method_11_code
def yX2_readThing : MethodName := ⟨RX2, "readThing", "(IC)V"⟩
abbrev cX2_addThing : ByteArray := prog_4_method_12_code
def yX2_addThing : MethodName := ⟨RX2, "addThing", "(ICZ)V"⟩
abbrev cX2_closeByTag : ByteArray := prog_4_method_13_code
def yX2_closeByTag : MethodName := ⟨RX2, "closeByTag", "(I)V"⟩
abbrev cX2_closeUpTo : ByteArray := prog_4_method_14_code
def yX2_closeUpTo : MethodName := ⟨RX2, "closeUpTo", "(IZ)V"⟩
abbrev cX2_addError : ByteArray := prog_4_method_15_code
def yX2_addError : MethodName := ⟨RX2, "addError", "(I)V"⟩
abbrev cX2_writeNormalForm : ByteArray := prog_4_method_16_code
def yX2_writeNormalForm : MethodName := ⟨RX2, "writeNormalForm", "()V"⟩
abbrev cX2_writeEnds : ByteArray := prog_4_method_17_code
def yX2_writeEnds : MethodName := ⟨RX2, "writeEnds", "(II)I"⟩
abbrev cX2_isNormalFormReadAsWritten : ByteArray := prog_4_method_18_code
def yX2_isNormalFormReadAsWritten : MethodName := ⟨RX2, "isNormalFormReadAsWritten", "()Z"⟩
def RX3 : String := "OmitMarkup$Row"
def TX3 : u_T := fun k => match k with
  | 0 => ("OmitMarkup$Row", "sorts", "[I", true)
  | 1 => ("OmitMarkup$Row", "values", "[I", true)
  | _ => ("OmitMarkup$Row", "count", "I", false)
def tyX3 : Nat → FieldType := fun k => match k with
  | 0 => .array .int
  | 1 => .array .int
  | _ => .int
abbrev wsX30 : List Cond := u_ws RX3 TX3 3
theorem nmX3 : ∀ a, a < 3 → ∀ b, b < 3 → a ≠ b → (TX3 a).2.1 ≠ (TX3 b).2.1 := by decide +kernel
theorem tyX3_ok : ∀ k, k < 3 → parseFieldDescriptor (TX3 k).2.2.1 = some (tyX3 k) := by decide +kernel
abbrev cX3_init : ByteArray := prog_5_method_1_code
def yX3_init : MethodName := ⟨RX3, "<init>", "(I)V"⟩
abbrev cX3_sortAt : ByteArray := prog_5_method_2_code
def yX3_sortAt : MethodName := ⟨RX3, "sortAt", "(I)I"⟩
abbrev cX3_putToken : ByteArray := prog_5_method_3_code
def yX3_putToken : MethodName := ⟨RX3, "putToken", "(III)V"⟩
abbrev cX3_dropToken : ByteArray := prog_5_method_4_code
def yX3_dropToken : MethodName := ⟨RX3, "dropToken", "(I)V"⟩
def RX4 : String := "OmitMarkup$State"
def TX4 : u_T := fun k => match k with
  | 0 => ("OmitMarkup$State", "grammar", "LOmitMarkup$Grammar;", true)
  | 1 => ("OmitMarkup$State", "elements", "[I", true)
  | 2 => ("OmitMarkup$State", "reaches", "[I", true)
  | 3 => ("OmitMarkup$State", "depth", "I", false)
  | 4 => ("OmitMarkup$State", "last", "I", false)
  | _ => ("OmitMarkup$State", "marks", "I", false)
def tyX4 : Nat → FieldType := fun k => match k with
  | 0 => .object "OmitMarkup$Grammar"
  | 1 => .array .int
  | 2 => .array .int
  | 3 => .int
  | 4 => .int
  | _ => .int
abbrev wsX40 : List Cond := u_ws RX4 TX4 6
theorem nmX4 : ∀ a, a < 6 → ∀ b, b < 6 → a ≠ b → (TX4 a).2.1 ≠ (TX4 b).2.1 := by decide +kernel
theorem tyX4_ok : ∀ k, k < 6 → parseFieldDescriptor (TX4 k).2.2.1 = some (tyX4 k) := by decide +kernel
abbrev cX4_init : ByteArray := prog_6_method_1_code
def yX4_init : MethodName := ⟨RX4, "<init>", "(LOmitMarkup$Grammar;)V"⟩
abbrev cX4_restart : ByteArray := prog_6_method_2_code
def yX4_restart : MethodName := ⟨RX4, "restart", "()V"⟩
abbrev cX4_copyFrom : ByteArray := prog_6_method_3_code
def yX4_copyFrom : MethodName := ⟨RX4, "copyFrom", "(LOmitMarkup$State;)V"⟩
abbrev cX4_isLike : ByteArray := prog_6_method_4_code
def yX4_isLike : MethodName := ⟨RX4, "isLike", "(LOmitMarkup$State;)Z"⟩
abbrev cX4_currentElement : ByteArray := prog_6_method_5_code
def yX4_currentElement : MethodName := ⟨RX4, "currentElement", "()I"⟩
abbrev cX4_lastOpenOf : ByteArray := prog_6_method_6_code
def yX4_lastOpenOf : MethodName := ⟨RX4, "lastOpenOf", "(I)I"⟩
abbrev cX4_canEnd : ByteArray := prog_6_method_7_code
def yX4_canEnd : MethodName := ⟨RX4, "canEnd", "()Z"⟩
abbrev cX4_goesOnWith : ByteArray := prog_6_method_8_code
def yX4_goesOnWith : MethodName := ⟨RX4, "goesOnWith", "()I"⟩
abbrev cX4_accept : ByteArray := prog_6_method_9_code
def yX4_accept : MethodName := ⟨RX4, "accept", "(I)Z"⟩
abbrev cX4_isExcluded : ByteArray := prog_6_method_10_code
def yX4_isExcluded : MethodName := ⟨RX4, "isExcluded", "(I)Z"⟩
abbrev cX4_isIncluded : ByteArray := prog_6_method_11_code
def yX4_isIncluded : MethodName := ⟨RX4, "isIncluded", "(I)Z"⟩
abbrev cX4_elementToPutIn : ByteArray := prog_6_method_12_code
def yX4_elementToPutIn : MethodName := ⟨RX4, "elementToPutIn", "()I"⟩
abbrev cX4_mayCloseUnasked : ByteArray := prog_6_method_13_code
def yX4_mayCloseUnasked : MethodName := ⟨RX4, "mayCloseUnasked", "()Z"⟩
abbrev cX4_enter : ByteArray := prog_6_method_14_code
def yX4_enter : MethodName := ⟨RX4, "enter", "(I)V"⟩
abbrev cX4_leave : ByteArray := prog_6_method_15_code
def yX4_leave : MethodName := ⟨RX4, "leave", "()V"⟩
abbrev cX4_readAsWritten : ByteArray := prog_6_method_16_code
def yX4_readAsWritten : MethodName := ⟨RX4, "readAsWritten", "(II)Z"⟩
def RX5 : String := "OmitMarkup$Tree"
def TX5 : u_T := fun k => match k with
  | 0 => ("OmitMarkup$Tree", "kinds", "[I", true)
  | 1 => ("OmitMarkup$Tree", "parents", "[I", true)
  | 2 => ("OmitMarkup$Tree", "letters", "[C", true)
  | 3 => ("OmitMarkup$Tree", "places", "[I", true)
  | 4 => ("OmitMarkup$Tree", "putIns", "[Z", true)
  | _ => ("OmitMarkup$Tree", "count", "I", false)
def tyX5 : Nat → FieldType := fun k => match k with
  | 0 => .array .int
  | 1 => .array .int
  | 2 => .array .char
  | 3 => .array .int
  | 4 => .array .boolean
  | _ => .int
abbrev wsX50 : List Cond := u_ws RX5 TX5 6
theorem nmX5 : ∀ a, a < 6 → ∀ b, b < 6 → a ≠ b → (TX5 a).2.1 ≠ (TX5 b).2.1 := by decide +kernel
theorem tyX5_ok : ∀ k, k < 6 → parseFieldDescriptor (TX5 k).2.2.1 = some (tyX5 k) := by decide +kernel
abbrev cX5_init : ByteArray := prog_7_method_1_code
def yX5_init : MethodName := ⟨RX5, "<init>", "()V"⟩
abbrev cX5_addThing : ByteArray := prog_7_method_2_code
def yX5_addThing : MethodName := ⟨RX5, "addThing", "(IICIZ)V"⟩
def RX6 : String := "OmitMarkup$WayCounter"
def TX6 : u_T := fun k => match k with
  | 0 => ("OmitMarkup$WayCounter", "grammar", "LOmitMarkup$Grammar;", true)
  | 1 => ("OmitMarkup$WayCounter", "text", "LOmitMarkup$Row;", true)
  | 2 => ("OmitMarkup$WayCounter", "trail", "[LOmitMarkup$State;", true)
  | _ => ("OmitMarkup$WayCounter", "found", "I", false)
def tyX6 : Nat → FieldType := fun k => match k with
  | 0 => .object "OmitMarkup$Grammar"
  | 1 => .object "OmitMarkup$Row"
  | 2 => .array (.object "OmitMarkup$State")
  | _ => .int
abbrev wsX60 : List Cond := u_ws RX6 TX6 4
theorem nmX6 : ∀ a, a < 4 → ∀ b, b < 4 → a ≠ b → (TX6 a).2.1 ≠ (TX6 b).2.1 := by decide +kernel
theorem tyX6_ok : ∀ k, k < 4 → parseFieldDescriptor (TX6 k).2.2.1 = some (tyX6 k) := by decide +kernel
abbrev cX6_init : ByteArray := prog_8_method_1_code
def yX6_init : MethodName := ⟨RX6, "<init>", "(LOmitMarkup$Grammar;LOmitMarkup$Row;)V"⟩
def RX7 : String := "OmitMarkup"
def TX7 : u_T := fun k => match k with
  | 0 => ("OmitMarkup", "grammar", "LOmitMarkup$Grammar;", true)
  | 1 => ("OmitMarkup", "text", "LOmitMarkup$Row;", true)
  | 2 => ("OmitMarkup", "entities", "[LOmitMarkup$Row;", true)
  | 3 => ("OmitMarkup", "switches", "[I", true)
  | 4 => ("OmitMarkup", "reader", "LOmitMarkup$Reader;", true)
  | _ => ("OmitMarkup", "wayCounter", "LOmitMarkup$WayCounter;", true)
def tyX7 : Nat → FieldType := fun k => match k with
  | 0 => .object "OmitMarkup$Grammar"
  | 1 => .object "OmitMarkup$Row"
  | 2 => .array (.object "OmitMarkup$Row")
  | 3 => .array .int
  | 4 => .object "OmitMarkup$Reader"
  | _ => .object "OmitMarkup$WayCounter"
abbrev wsX70 : List Cond := u_ws RX7 TX7 6
theorem nmX7 : ∀ a, a < 6 → ∀ b, b < 6 → a ≠ b → (TX7 a).2.1 ≠ (TX7 b).2.1 := by decide +kernel
theorem tyX7_ok : ∀ k, k < 6 → parseFieldDescriptor (TX7 k).2.2.1 = some (tyX7 k) := by decide +kernel
abbrev cX7_init : ByteArray := prog_1_method_1_code
def yX7_init : MethodName := ⟨RX7, "<init>", "()V"⟩
abbrev cX7_slot : ByteArray := prog_1_method_2_code
def yX7_slot : MethodName := ⟨RX7, "slot", "(IIZI)I"⟩
abbrev cX7_empty : ByteArray := prog_1_method_3_code
def yX7_empty : MethodName := ⟨RX7, "empty", "(I)I"⟩
abbrev cX7_except : ByteArray := prog_1_method_4_code
def yX7_except : MethodName := ⟨RX7, "except", "(III)V"⟩
abbrev cX7_omit : ByteArray := prog_1_method_5_code
def yX7_omit : MethodName := ⟨RX7, "omit", "(IZZ)V"⟩
abbrev cX7_entity : ByteArray := prog_1_method_6_code
def yX7_entity : MethodName := ⟨RX7, "entity", "(III)I"⟩
abbrev cX7_clear : ByteArray := prog_1_method_7_code
def yX7_clear : MethodName := ⟨RX7, "clear", "(I)I"⟩
abbrev cX7_flip : ByteArray := prog_1_method_8_code
def yX7_flip : MethodName := ⟨RX7, "flip", "(II)I"⟩
abbrev cX7_insert : ByteArray := prog_1_method_9_code
def yX7_insert : MethodName := ⟨RX7, "insert", "(III)I"⟩
abbrev cX7_erase : ByteArray := prog_1_method_10_code
def yX7_erase : MethodName := ⟨RX7, "erase", "(I)I"⟩
abbrev cX7_length : ByteArray := prog_1_method_12_code
def yX7_length : MethodName := ⟨RX7, "length", "()I"⟩
abbrev cX7_anew : ByteArray := prog_1_method_13_code
def yX7_anew : MethodName := ⟨RX7, "anew", "()I"⟩
abbrev cX7_open : ByteArray := prog_1_method_14_code
def yX7_open : MethodName := ⟨RX7, "open", "(I)I"⟩
abbrev cX7_current : ByteArray := prog_1_method_15_code
def yX7_current : MethodName := ⟨RX7, "current", "(I)I"⟩
abbrev cX7_next : ByteArray := prog_1_method_16_code
def yX7_next : MethodName := ⟨RX7, "next", "(I)I"⟩
abbrev cX7_things : ByteArray := prog_1_method_17_code
def yX7_things : MethodName := ⟨RX7, "things", "()I"⟩
abbrev cX7_kind : ByteArray := prog_1_method_18_code
def yX7_kind : MethodName := ⟨RX7, "kind", "(I)I"⟩
abbrev cX7_parent : ByteArray := prog_1_method_19_code
def yX7_parent : MethodName := ⟨RX7, "parent", "(I)I"⟩
abbrev cX7_letter : ByteArray := prog_1_method_20_code
def yX7_letter : MethodName := ⟨RX7, "letter", "(I)C"⟩
abbrev cX7_placeOf : ByteArray := prog_1_method_21_code
def yX7_placeOf : MethodName := ⟨RX7, "placeOf", "(I)I"⟩
abbrev cX7_isPutIn : ByteArray := prog_1_method_22_code
def yX7_isPutIn : MethodName := ⟨RX7, "isPutIn", "(I)Z"⟩
abbrev cX7_endsPutIn : ByteArray := prog_1_method_23_code
def yX7_endsPutIn : MethodName := ⟨RX7, "endsPutIn", "()I"⟩
abbrev cX7_errors : ByteArray := prog_1_method_24_code
def yX7_errors : MethodName := ⟨RX7, "errors", "()I"⟩
abbrev cX7_errorKind : ByteArray := prog_1_method_25_code
def yX7_errorKind : MethodName := ⟨RX7, "errorKind", "(I)I"⟩
abbrev cX7_errorAt : ByteArray := prog_1_method_26_code
def yX7_errorAt : MethodName := ⟨RX7, "errorAt", "(I)I"⟩
abbrev cX7_normal : ByteArray := prog_1_method_27_code
def yX7_normal : MethodName := ⟨RX7, "normal", "()I"⟩
abbrev cX7_isSame : ByteArray := prog_1_method_30_code
def yX7_isSame : MethodName := ⟨RX7, "isSame", "()Z"⟩
abbrev cX7_checkIndex : ByteArray := prog_1_method_32_code
def yX7_checkIndex : MethodName := ⟨RX7, "checkIndex", "(II)V"⟩
abbrev cX7_checkToken : ByteArray := prog_1_method_33_code
def yX7_checkToken : MethodName := ⟨RX7, "checkToken", "(II)V"⟩
abbrev cX7_isValueOf : ByteArray := prog_1_method_34_code
def yX7_isValueOf : MethodName := ⟨RX7, "isValueOf", "(II)Z"⟩
abbrev cX7_lowestOf : ByteArray := prog_1_method_35_code
def yX7_lowestOf : MethodName := ⟨RX7, "lowestOf", "(I)I"⟩
def RX8 : String := "OmitMarkupModel"
def TX8 : u_T := fun k => match k with
  | _ => ("", "", "", false)
def tyX8 : Nat → FieldType := fun k => match k with
  | _ => .int
abbrev wsX80 : List Cond := u_ws RX8 TX8 0
theorem nmX8 : ∀ a, a < 0 → ∀ b, b < 0 → a ≠ b → (TX8 a).2.1 ≠ (TX8 b).2.1 := by decide +kernel
theorem tyX8_ok : ∀ k, k < 0 → parseFieldDescriptor (TX8 k).2.2.1 = some (tyX8 k) := by decide +kernel
def RJ6 : String := "java/lang/Integer"
def TJ6 : u_T := fun k => match k with
  | _ => ("", "", "", false)
abbrev cJ6_bitCount_0f7a4 : ByteArray := prog_15_method_49_code
def yJ6_bitCount_0f7a4 : MethodName := ⟨RJ6, "bitCount", "(I)I"⟩
def RJ0 : String := "java/lang/String"
def TJ0 : u_T := fun k => match k with
  | _ => ("", "", "", false)
def RL : String := "OmitMarkupLaw"
abbrev cL_from : ByteArray := method_2_code
def yL_from : MethodName := ⟨RL, "from", "([III)I"⟩
abbrev cL_enough : ByteArray := method_3_code
def yL_enough : MethodName := ⟨RL, "enough", "([III)Z"⟩
abbrev cL_step : ByteArray := method_4_code
def yL_step : MethodName := ⟨RL, "step", "([I[III)I"⟩
abbrev cL_ends : ByteArray := method_5_code
def yL_ends : MethodName := ⟨RL, "ends", "([I[II)Z"⟩
abbrev cL_next : ByteArray := method_6_code
def yL_next : MethodName := ⟨RL, "next", "([I[II)I"⟩
abbrev cL_fails : ByteArray := method_7_code
def yL_fails : MethodName := ⟨RL, "fails", "([I[II)V"⟩
abbrev cL_put : ByteArray := method_8_code
def yL_put : MethodName := ⟨RL, "put", "([I[I[I[I[I[III)V"⟩
abbrev cL_open : ByteArray := method_9_code
def yL_open : MethodName := ⟨RL, "open", "([I[I[I[I[I[I[IIZ)V"⟩
abbrev cL_has : ByteArray := method_10_code
def yL_has : MethodName := ⟨RL, "has", "([I[I[III)Z"⟩
abbrev cL_takes : ByteArray := method_11_code
def yL_takes : MethodName := ⟨RL, "takes", "([I[I[I[I[II)Z"⟩
abbrev cL_wanted : ByteArray := method_12_code
def yL_wanted : MethodName := ⟨RL, "wanted", "([I[I[I[I[I)I"⟩
abbrev cL_thing : ByteArray := method_13_code
def yL_thing : MethodName := ⟨RL, "thing", "([I[I[I[I[I[I[I[I[I[III)V"⟩
abbrev cL_close : ByteArray := method_14_code
def yL_close : MethodName := ⟨RL, "close", "([I[I[I[I[I[IIZ)V"⟩
abbrev cL_token : ByteArray := method_15_code
def yL_token : MethodName := ⟨RL, "token", "([I[I[II)I"⟩
abbrev cL_one : ByteArray := method_16_code
def yL_one : MethodName := ⟨RL, "one", "([I[I[I[I[I[I[I[I[I[I[I[I[I)V"⟩
abbrev cL_keep : ByteArray := method_17_code
def yL_keep : MethodName := ⟨RL, "keep", "([I[I[J)V"⟩
abbrev cL_reads : ByteArray := method_18_code
def yL_reads : MethodName := ⟨RL, "reads", "([I[I[I[I[I[I[I[I[I[I[I[I[I[J)V"⟩
abbrev cL_isTree : ByteArray := method_19_code
def yL_isTree : MethodName := ⟨RL, "isTree", "(LOmitMarkup;[I[I[I[I[I[I)Z"⟩
abbrev cL_areStates : ByteArray := method_20_code
def yL_areStates : MethodName := ⟨RL, "areStates", "(LOmitMarkup;[I[I[I[JI)Z"⟩
abbrev cL_slot : ByteArray := method_21_code
def yL_slot : MethodName := ⟨RL, "slot", "(LOmitMarkup;IIZI)I"⟩
abbrev cL_twice : ByteArray := method_22_code
def yL_twice : MethodName := ⟨RL, "twice", "([III)I"⟩
abbrev cL_isGrammar : ByteArray := method_23_code
def yL_isGrammar : MethodName := ⟨RL, "isGrammar", "(LOmitMarkup;[I[I[III)Z"⟩
abbrev cL_drawn : ByteArray := method_24_code
def yL_drawn : MethodName := ⟨RL, "drawn", "(I)I"⟩
abbrev cL_isEdited : ByteArray := method_25_code
def yL_isEdited : MethodName := ⟨RL, "isEdited", "(LOmitMarkup;[IZI)Z"⟩
abbrev cL_anew : ByteArray := method_26_code
def yL_anew : MethodName := ⟨RL, "anew", "([I[J[JII)I"⟩
abbrev cL_isTurned : ByteArray := method_27_code
def yL_isTurned : MethodName := ⟨RL, "isTurned", "(LOmitMarkup;[I[III)Z"⟩
abbrev cL_holds : ByteArray := method_28_code
def yL_holds : MethodName := ⟨RL, "holds", "([I)Z"⟩
abbrev cL_isHeld : ByteArray := method_29_code
def yL_isHeld : MethodName := ⟨RL, "isHeld", "([I)Z"⟩
abbrev cL_law : ByteArray := code
def yL_law : MethodName := ⟨RL, "law", "([I)Z"⟩
abbrev vwCl : List vw_C := [(RX0, TX0, 5), (RX1, TX1, 7), (RX2, TX2, 17), (RX3, TX3, 3), (RX4, TX4, 6), (RX5, TX5, 6), (RX6, TX6, 4), (RX7, TX7, 6)]
end
section
theorem dX0_init_0 : decode cX0_init 0 = .ok (.aload_n 0, 1) := by decide +kernel
theorem dX0_init_1 : decode cX0_init 1 = .ok (.invokespecial 3, 3) := by decide +kernel
theorem dX0_init_4 : decode cX0_init 4 = .ok (.aload_n 0, 1) := by decide +kernel
theorem dX0_init_5 : decode cX0_init 5 = .ok (.bipush 10, 2) := by decide +kernel
theorem dX0_init_7 : decode cX0_init 7 = .ok (.anewarray 9, 3) := by decide +kernel
theorem dX0_init_10 : decode cX0_init 10 = .ok (.putfield 11, 3) := by decide +kernel
theorem dX0_init_13 : decode cX0_init 13 = .ok (.aload_n 0, 1) := by decide +kernel
theorem dX0_init_14 : decode cX0_init 14 = .ok (.bipush 10, 2) := by decide +kernel
theorem dX0_init_16 : decode cX0_init 16 = .ok (.newarray .int, 2) := by decide +kernel
theorem dX0_init_18 : decode cX0_init 18 = .ok (.putfield 17, 3) := by decide +kernel
theorem dX0_init_21 : decode cX0_init 21 = .ok (.aload_n 0, 1) := by decide +kernel
theorem dX0_init_22 : decode cX0_init 22 = .ok (.bipush 10, 2) := by decide +kernel
theorem dX0_init_24 : decode cX0_init 24 = .ok (.newarray .int, 2) := by decide +kernel
theorem dX0_init_26 : decode cX0_init 26 = .ok (.putfield 21, 3) := by decide +kernel
theorem dX0_init_29 : decode cX0_init 29 = .ok (.aload_n 0, 1) := by decide +kernel
theorem dX0_init_30 : decode cX0_init 30 = .ok (.bipush 10, 2) := by decide +kernel
theorem dX0_init_32 : decode cX0_init 32 = .ok (.newarray .boolean, 2) := by decide +kernel
theorem dX0_init_34 : decode cX0_init 34 = .ok (.putfield 24, 3) := by decide +kernel
theorem dX0_init_37 : decode cX0_init 37 = .ok (.aload_n 0, 1) := by decide +kernel
theorem dX0_init_38 : decode cX0_init 38 = .ok (.bipush 10, 2) := by decide +kernel
theorem dX0_init_40 : decode cX0_init 40 = .ok (.newarray .boolean, 2) := by decide +kernel
theorem dX0_init_42 : decode cX0_init 42 = .ok (.putfield 28, 3) := by decide +kernel
theorem dX0_init_45 : decode cX0_init 45 = .ok (.iconst 0, 1) := by decide +kernel
theorem dX0_init_46 : decode cX0_init 46 = .ok (.istore_n 1, 1) := by decide +kernel
theorem dX0_init_47 : decode cX0_init 47 = .ok (.iload_n 1, 1) := by decide +kernel
theorem dX0_init_48 : decode cX0_init 48 = .ok (.bipush 10, 2) := by decide +kernel
theorem dX0_init_50 : decode cX0_init 50 = .ok (.if_icmp .ge 22, 3) := by decide +kernel
theorem dX0_init_53 : decode cX0_init 53 = .ok (.aload_n 0, 1) := by decide +kernel
theorem dX0_init_54 : decode cX0_init 54 = .ok (.getfield 11, 3) := by decide +kernel
theorem dX0_init_57 : decode cX0_init 57 = .ok (.iload_n 1, 1) := by decide +kernel
theorem dX0_init_58 : decode cX0_init 58 = .ok (.new 9, 3) := by decide +kernel
theorem dX0_init_61 : decode cX0_init 61 = .ok (.dup, 1) := by decide +kernel
theorem dX0_init_62 : decode cX0_init 62 = .ok (.invokespecial 31, 3) := by decide +kernel
theorem dX0_init_65 : decode cX0_init 65 = .ok (.aastore, 1) := by decide +kernel
theorem dX0_init_66 : decode cX0_init 66 = .ok (.iinc 1 1, 3) := by decide +kernel
theorem dX0_init_69 : decode cX0_init 69 = .ok (.goto (-22), 3) := by decide +kernel
theorem dX0_init_72 : decode cX0_init 72 = .ok (.return_, 1) := by decide +kernel
theorem dX1_init_0 : decode cX1_init 0 = .ok (.aload_n 0, 1) := by decide +kernel
theorem dX1_init_1 : decode cX1_init 1 = .ok (.invokespecial 3, 3) := by decide +kernel
theorem dX1_init_4 : decode cX1_init 4 = .ok (.aload_n 0, 1) := by decide +kernel
theorem dX1_init_5 : decode cX1_init 5 = .ok (.bipush 6, 2) := by decide +kernel
theorem dX1_init_7 : decode cX1_init 7 = .ok (.newarray .int, 2) := by decide +kernel
theorem dX1_init_9 : decode cX1_init 9 = .ok (.putfield 9, 3) := by decide +kernel
theorem dX1_init_12 : decode cX1_init 12 = .ok (.aload_n 0, 1) := by decide +kernel
theorem dX1_init_13 : decode cX1_init 13 = .ok (.bipush 6, 2) := by decide +kernel
theorem dX1_init_15 : decode cX1_init 15 = .ok (.newarray .boolean, 2) := by decide +kernel
theorem dX1_init_17 : decode cX1_init 17 = .ok (.putfield 15, 3) := by decide +kernel
theorem dX1_init_20 : decode cX1_init 20 = .ok (.aload_n 0, 1) := by decide +kernel
theorem dX1_init_21 : decode cX1_init 21 = .ok (.bipush 6, 2) := by decide +kernel
theorem dX1_init_23 : decode cX1_init 23 = .ok (.newarray .boolean, 2) := by decide +kernel
theorem dX1_init_25 : decode cX1_init 25 = .ok (.putfield 19, 3) := by decide +kernel
theorem dX1_init_28 : decode cX1_init 28 = .ok (.aload_n 0, 1) := by decide +kernel
theorem dX1_init_29 : decode cX1_init 29 = .ok (.bipush 12, 2) := by decide +kernel
theorem dX1_init_31 : decode cX1_init 31 = .ok (.newarray .int, 2) := by decide +kernel
theorem dX1_init_33 : decode cX1_init 33 = .ok (.putfield 22, 3) := by decide +kernel
theorem dX1_init_36 : decode cX1_init 36 = .ok (.aload_n 0, 1) := by decide +kernel
theorem dX1_init_37 : decode cX1_init 37 = .ok (.bipush 12, 2) := by decide +kernel
theorem dX1_init_39 : decode cX1_init 39 = .ok (.newarray .boolean, 2) := by decide +kernel
theorem dX1_init_41 : decode cX1_init 41 = .ok (.putfield 25, 3) := by decide +kernel
theorem dX1_init_44 : decode cX1_init 44 = .ok (.return_, 1) := by decide +kernel
theorem dX1_addSlot_0 : decode cX1_addSlot 0 = .ok (.aload_n 0, 1) := by decide +kernel
theorem dX1_addSlot_1 : decode cX1_addSlot 1 = .ok (.getfield 28, 3) := by decide +kernel
theorem dX1_addSlot_4 : decode cX1_addSlot 4 = .ok (.bipush 6, 2) := by decide +kernel
theorem dX1_addSlot_6 : decode cX1_addSlot 6 = .ok (.if_icmp .ge 75, 3) := by decide +kernel
theorem dX1_addSlot_9 : decode cX1_addSlot 9 = .ok (.aload_n 0, 1) := by decide +kernel
theorem dX1_addSlot_10 : decode cX1_addSlot 10 = .ok (.getfield 9, 3) := by decide +kernel
theorem dX1_addSlot_13 : decode cX1_addSlot 13 = .ok (.aload_n 0, 1) := by decide +kernel
theorem dX1_addSlot_14 : decode cX1_addSlot 14 = .ok (.getfield 28, 3) := by decide +kernel
theorem dX1_addSlot_17 : decode cX1_addSlot 17 = .ok (.iload_n 1, 1) := by decide +kernel
theorem dX1_addSlot_18 : decode cX1_addSlot 18 = .ok (.iastore, 1) := by decide +kernel
theorem dX1_addSlot_19 : decode cX1_addSlot 19 = .ok (.aload_n 0, 1) := by decide +kernel
theorem dX1_addSlot_20 : decode cX1_addSlot 20 = .ok (.getfield 15, 3) := by decide +kernel
theorem dX1_addSlot_23 : decode cX1_addSlot 23 = .ok (.aload_n 0, 1) := by decide +kernel
theorem dX1_addSlot_24 : decode cX1_addSlot 24 = .ok (.getfield 28, 3) := by decide +kernel
theorem dX1_addSlot_27 : decode cX1_addSlot 27 = .ok (.iload_n 2, 1) := by decide +kernel
theorem dX1_addSlot_28 : decode cX1_addSlot 28 = .ok (.iconst 2, 1) := by decide +kernel
theorem dX1_addSlot_29 : decode cX1_addSlot 29 = .ok (.if_icmp .eq 8, 3) := by decide +kernel
theorem dX1_addSlot_32 : decode cX1_addSlot 32 = .ok (.iload_n 2, 1) := by decide +kernel
theorem dX1_addSlot_33 : decode cX1_addSlot 33 = .ok (.iconst 3, 1) := by decide +kernel
theorem dX1_addSlot_34 : decode cX1_addSlot 34 = .ok (.if_icmp .ne 7, 3) := by decide +kernel
theorem dX1_addSlot_37 : decode cX1_addSlot 37 = .ok (.iconst 1, 1) := by decide +kernel
theorem dX1_addSlot_38 : decode cX1_addSlot 38 = .ok (.goto 4, 3) := by decide +kernel
theorem dX1_addSlot_41 : decode cX1_addSlot 41 = .ok (.iconst 0, 1) := by decide +kernel
theorem dX1_addSlot_42 : decode cX1_addSlot 42 = .ok (.bastore, 1) := by decide +kernel
theorem dX1_addSlot_43 : decode cX1_addSlot 43 = .ok (.aload_n 0, 1) := by decide +kernel
theorem dX1_addSlot_44 : decode cX1_addSlot 44 = .ok (.getfield 19, 3) := by decide +kernel
theorem dX1_addSlot_47 : decode cX1_addSlot 47 = .ok (.aload_n 0, 1) := by decide +kernel
theorem dX1_addSlot_48 : decode cX1_addSlot 48 = .ok (.getfield 28, 3) := by decide +kernel
theorem dX1_addSlot_51 : decode cX1_addSlot 51 = .ok (.iload_n 2, 1) := by decide +kernel
theorem dX1_addSlot_52 : decode cX1_addSlot 52 = .ok (.iconst 1, 1) := by decide +kernel
theorem dX1_addSlot_53 : decode cX1_addSlot 53 = .ok (.if_icmp .eq 8, 3) := by decide +kernel
theorem dX1_addSlot_56 : decode cX1_addSlot 56 = .ok (.iload_n 2, 1) := by decide +kernel
theorem dX1_addSlot_57 : decode cX1_addSlot 57 = .ok (.iconst 2, 1) := by decide +kernel
theorem dX1_addSlot_58 : decode cX1_addSlot 58 = .ok (.if_icmp .ne 7, 3) := by decide +kernel
theorem dX1_addSlot_61 : decode cX1_addSlot 61 = .ok (.iconst 1, 1) := by decide +kernel
theorem dX1_addSlot_62 : decode cX1_addSlot 62 = .ok (.goto 4, 3) := by decide +kernel
theorem dX1_addSlot_65 : decode cX1_addSlot 65 = .ok (.iconst 0, 1) := by decide +kernel
theorem dX1_addSlot_66 : decode cX1_addSlot 66 = .ok (.bastore, 1) := by decide +kernel
theorem dX1_addSlot_67 : decode cX1_addSlot 67 = .ok (.aload_n 0, 1) := by decide +kernel
theorem dX1_addSlot_68 : decode cX1_addSlot 68 = .ok (.dup, 1) := by decide +kernel
theorem dX1_addSlot_69 : decode cX1_addSlot 69 = .ok (.getfield 28, 3) := by decide +kernel
theorem dX1_addSlot_72 : decode cX1_addSlot 72 = .ok (.iconst 1, 1) := by decide +kernel
theorem dX1_addSlot_73 : decode cX1_addSlot 73 = .ok (.iadd, 1) := by decide +kernel
theorem dX1_addSlot_74 : decode cX1_addSlot 74 = .ok (.putfield 28, 3) := by decide +kernel
theorem dX1_addSlot_77 : decode cX1_addSlot 77 = .ok (.aload_n 0, 1) := by decide +kernel
theorem dX1_addSlot_78 : decode cX1_addSlot 78 = .ok (.invokevirtual 32, 3) := by decide +kernel
theorem dX1_addSlot_81 : decode cX1_addSlot 81 = .ok (.return_, 1) := by decide +kernel
theorem dX1_dropLastSlot_0 : decode cX1_dropLastSlot 0 = .ok (.aload_n 0, 1) := by decide +kernel
theorem dX1_dropLastSlot_1 : decode cX1_dropLastSlot 1 = .ok (.getfield 28, 3) := by decide +kernel
theorem dX1_dropLastSlot_4 : decode cX1_dropLastSlot 4 = .ok (.ifCond .le 17, 3) := by decide +kernel
theorem dX1_dropLastSlot_7 : decode cX1_dropLastSlot 7 = .ok (.aload_n 0, 1) := by decide +kernel
theorem dX1_dropLastSlot_8 : decode cX1_dropLastSlot 8 = .ok (.dup, 1) := by decide +kernel
theorem dX1_dropLastSlot_9 : decode cX1_dropLastSlot 9 = .ok (.getfield 28, 3) := by decide +kernel
theorem dX1_dropLastSlot_12 : decode cX1_dropLastSlot 12 = .ok (.iconst 1, 1) := by decide +kernel
theorem dX1_dropLastSlot_13 : decode cX1_dropLastSlot 13 = .ok (.isub, 1) := by decide +kernel
theorem dX1_dropLastSlot_14 : decode cX1_dropLastSlot 14 = .ok (.putfield 28, 3) := by decide +kernel
theorem dX1_dropLastSlot_17 : decode cX1_dropLastSlot 17 = .ok (.aload_n 0, 1) := by decide +kernel
theorem dX1_dropLastSlot_18 : decode cX1_dropLastSlot 18 = .ok (.invokevirtual 32, 3) := by decide +kernel
theorem dX1_dropLastSlot_21 : decode cX1_dropLastSlot 21 = .ok (.return_, 1) := by decide +kernel
theorem dX1_dropSlots_0 : decode cX1_dropSlots 0 = .ok (.aload_n 0, 1) := by decide +kernel
theorem dX1_dropSlots_1 : decode cX1_dropSlots 1 = .ok (.iconst 0, 1) := by decide +kernel
theorem dX1_dropSlots_2 : decode cX1_dropSlots 2 = .ok (.putfield 28, 3) := by decide +kernel
theorem dX1_dropSlots_5 : decode cX1_dropSlots 5 = .ok (.aload_n 0, 1) := by decide +kernel
theorem dX1_dropSlots_6 : decode cX1_dropSlots 6 = .ok (.iconst 0, 1) := by decide +kernel
theorem dX1_dropSlots_7 : decode cX1_dropSlots 7 = .ok (.putfield 35, 3) := by decide +kernel
theorem dX1_dropSlots_10 : decode cX1_dropSlots 10 = .ok (.return_, 1) := by decide +kernel
theorem dX1_slotFor_0 : decode cX1_slotFor 0 = .ok (.iload_n 1, 1) := by decide +kernel
theorem dX1_slotFor_1 : decode cX1_slotFor 1 = .ok (.ifCond .lt 22, 3) := by decide +kernel
theorem dX1_slotFor_4 : decode cX1_slotFor 4 = .ok (.iload_n 1, 1) := by decide +kernel
theorem dX1_slotFor_5 : decode cX1_slotFor 5 = .ok (.bipush 12, 2) := by decide +kernel
theorem dX1_slotFor_7 : decode cX1_slotFor 7 = .ok (.if_icmp .ge 16, 3) := by decide +kernel
theorem dX1_slotFor_10 : decode cX1_slotFor 10 = .ok (.aload_n 0, 1) := by decide +kernel
theorem dX1_slotFor_11 : decode cX1_slotFor 11 = .ok (.getfield 22, 3) := by decide +kernel
theorem dX1_slotFor_14 : decode cX1_slotFor 14 = .ok (.iload_n 1, 1) := by decide +kernel
theorem dX1_slotFor_15 : decode cX1_slotFor 15 = .ok (.iaload, 1) := by decide +kernel
theorem dX1_slotFor_16 : decode cX1_slotFor 16 = .ok (.iload_n 2, 1) := by decide +kernel
theorem dX1_slotFor_17 : decode cX1_slotFor 17 = .ok (.ishr, 1) := by decide +kernel
theorem dX1_slotFor_18 : decode cX1_slotFor 18 = .ok (.iconst 1, 1) := by decide +kernel
theorem dX1_slotFor_19 : decode cX1_slotFor 19 = .ok (.iand, 1) := by decide +kernel
theorem dX1_slotFor_20 : decode cX1_slotFor 20 = .ok (.ifCond .ne 5, 3) := by decide +kernel
theorem dX1_slotFor_23 : decode cX1_slotFor 23 = .ok (.iconst (-1), 1) := by decide +kernel
theorem dX1_slotFor_24 : decode cX1_slotFor 24 = .ok (.ireturn, 1) := by decide +kernel
theorem dX1_slotFor_25 : decode cX1_slotFor 25 = .ok (.iload_n 1, 1) := by decide +kernel
theorem dX1_slotFor_26 : decode cX1_slotFor 26 = .ok (.iconst 2, 1) := by decide +kernel
theorem dX1_slotFor_27 : decode cX1_slotFor 27 = .ok (.idiv, 1) := by decide +kernel
theorem dX1_slotFor_28 : decode cX1_slotFor 28 = .ok (.istore_n 3, 1) := by decide +kernel
theorem dX1_slotFor_29 : decode cX1_slotFor 29 = .ok (.iload_n 3, 1) := by decide +kernel
theorem dX1_slotFor_30 : decode cX1_slotFor 30 = .ok (.aload_n 0, 1) := by decide +kernel
theorem dX1_slotFor_31 : decode cX1_slotFor 31 = .ok (.getfield 28, 3) := by decide +kernel
theorem dX1_slotFor_34 : decode cX1_slotFor 34 = .ok (.if_icmp .ge 60, 3) := by decide +kernel
theorem dX1_slotFor_37 : decode cX1_slotFor 37 = .ok (.iload_n 3, 1) := by decide +kernel
theorem dX1_slotFor_38 : decode cX1_slotFor 38 = .ok (.iload_n 1, 1) := by decide +kernel
theorem dX1_slotFor_39 : decode cX1_slotFor 39 = .ok (.iconst 2, 1) := by decide +kernel
theorem dX1_slotFor_40 : decode cX1_slotFor 40 = .ok (.idiv, 1) := by decide +kernel
theorem dX1_slotFor_41 : decode cX1_slotFor 41 = .ok (.if_icmp .ne 14, 3) := by decide +kernel
theorem dX1_slotFor_44 : decode cX1_slotFor 44 = .ok (.iload_n 1, 1) := by decide +kernel
theorem dX1_slotFor_45 : decode cX1_slotFor 45 = .ok (.iconst 2, 1) := by decide +kernel
theorem dX1_slotFor_46 : decode cX1_slotFor 46 = .ok (.irem, 1) := by decide +kernel
theorem dX1_slotFor_47 : decode cX1_slotFor 47 = .ok (.iconst 1, 1) := by decide +kernel
theorem dX1_slotFor_48 : decode cX1_slotFor 48 = .ok (.if_icmp .ne 7, 3) := by decide +kernel
theorem dX1_slotFor_51 : decode cX1_slotFor 51 = .ok (.iconst 1, 1) := by decide +kernel
theorem dX1_slotFor_52 : decode cX1_slotFor 52 = .ok (.goto 4, 3) := by decide +kernel
theorem dX1_slotFor_55 : decode cX1_slotFor 55 = .ok (.iconst 0, 1) := by decide +kernel
theorem dX1_slotFor_56 : decode cX1_slotFor 56 = .ok (.istore 4, 2) := by decide +kernel
theorem dX1_slotFor_58 : decode cX1_slotFor 58 = .ok (.aload_n 0, 1) := by decide +kernel
theorem dX1_slotFor_59 : decode cX1_slotFor 59 = .ok (.getfield 9, 3) := by decide +kernel
theorem dX1_slotFor_62 : decode cX1_slotFor 62 = .ok (.iload_n 3, 1) := by decide +kernel
theorem dX1_slotFor_63 : decode cX1_slotFor 63 = .ok (.iaload, 1) := by decide +kernel
theorem dX1_slotFor_64 : decode cX1_slotFor 64 = .ok (.iload_n 2, 1) := by decide +kernel
theorem dX1_slotFor_65 : decode cX1_slotFor 65 = .ok (.ishr, 1) := by decide +kernel
theorem dX1_slotFor_66 : decode cX1_slotFor 66 = .ok (.iconst 1, 1) := by decide +kernel
theorem dX1_slotFor_67 : decode cX1_slotFor 67 = .ok (.iand, 1) := by decide +kernel
theorem dX1_slotFor_68 : decode cX1_slotFor 68 = .ok (.iconst 1, 1) := by decide +kernel
theorem dX1_slotFor_69 : decode cX1_slotFor 69 = .ok (.if_icmp .ne 19, 3) := by decide +kernel
theorem dX1_slotFor_72 : decode cX1_slotFor 72 = .ok (.iload 4, 2) := by decide +kernel
theorem dX1_slotFor_74 : decode cX1_slotFor 74 = .ok (.ifCond .eq 12, 3) := by decide +kernel
theorem dX1_slotFor_77 : decode cX1_slotFor 77 = .ok (.aload_n 0, 1) := by decide +kernel
theorem dX1_slotFor_78 : decode cX1_slotFor 78 = .ok (.getfield 15, 3) := by decide +kernel
theorem dX1_slotFor_81 : decode cX1_slotFor 81 = .ok (.iload_n 3, 1) := by decide +kernel
theorem dX1_slotFor_82 : decode cX1_slotFor 82 = .ok (.baload, 1) := by decide +kernel
theorem dX1_slotFor_83 : decode cX1_slotFor 83 = .ok (.ifCond .eq 5, 3) := by decide +kernel
theorem dX1_slotFor_86 : decode cX1_slotFor 86 = .ok (.iload_n 3, 1) := by decide +kernel
theorem dX1_slotFor_87 : decode cX1_slotFor 87 = .ok (.ireturn, 1) := by decide +kernel
theorem dX1_slotFor_88 : decode cX1_slotFor 88 = .ok (.iinc 3 1, 3) := by decide +kernel
theorem dX1_slotFor_91 : decode cX1_slotFor 91 = .ok (.goto (-62), 3) := by decide +kernel
theorem dX1_slotFor_94 : decode cX1_slotFor 94 = .ok (.iconst (-1), 1) := by decide +kernel
theorem dX1_slotFor_95 : decode cX1_slotFor 95 = .ok (.ireturn, 1) := by decide +kernel
theorem dX1_workOut_0 : decode cX1_workOut 0 = .ok (.aload_n 0, 1) := by decide +kernel
theorem dX1_workOut_1 : decode cX1_workOut 1 = .ok (.iconst 0, 1) := by decide +kernel
theorem dX1_workOut_2 : decode cX1_workOut 2 = .ok (.putfield 35, 3) := by decide +kernel
theorem dX1_workOut_5 : decode cX1_workOut 5 = .ok (.iconst 0, 1) := by decide +kernel
theorem dX1_workOut_6 : decode cX1_workOut 6 = .ok (.istore_n 1, 1) := by decide +kernel
theorem dX1_workOut_7 : decode cX1_workOut 7 = .ok (.iload_n 1, 1) := by decide +kernel
theorem dX1_workOut_8 : decode cX1_workOut 8 = .ok (.iconst 2, 1) := by decide +kernel
theorem dX1_workOut_9 : decode cX1_workOut 9 = .ok (.aload_n 0, 1) := by decide +kernel
theorem dX1_workOut_10 : decode cX1_workOut 10 = .ok (.getfield 28, 3) := by decide +kernel
theorem dX1_workOut_13 : decode cX1_workOut 13 = .ok (.imul, 1) := by decide +kernel
theorem dX1_workOut_14 : decode cX1_workOut 14 = .ok (.if_icmp .ge 20, 3) := by decide +kernel
theorem dX1_workOut_17 : decode cX1_workOut 17 = .ok (.iload_n 1, 1) := by decide +kernel
theorem dX1_workOut_18 : decode cX1_workOut 18 = .ok (.bipush 12, 2) := by decide +kernel
theorem dX1_workOut_20 : decode cX1_workOut 20 = .ok (.if_icmp .ge 14, 3) := by decide +kernel
theorem dX1_workOut_23 : decode cX1_workOut 23 = .ok (.aload_n 0, 1) := by decide +kernel
theorem dX1_workOut_24 : decode cX1_workOut 24 = .ok (.iload_n 1, 1) := by decide +kernel
theorem dX1_workOut_25 : decode cX1_workOut 25 = .ok (.invokevirtual 38, 3) := by decide +kernel
theorem dX1_workOut_28 : decode cX1_workOut 28 = .ok (.iinc 1 1, 3) := by decide +kernel
theorem dX1_workOut_31 : decode cX1_workOut 31 = .ok (.goto (-24), 3) := by decide +kernel
theorem dX1_workOut_34 : decode cX1_workOut 34 = .ok (.return_, 1) := by decide +kernel
theorem dX1_workOutReach_0 : decode cX1_workOutReach 0 = .ok (.iconst 0, 1) := by decide +kernel
theorem dX1_workOutReach_1 : decode cX1_workOutReach 1 = .ok (.istore_n 2, 1) := by decide +kernel
theorem dX1_workOutReach_2 : decode cX1_workOutReach 2 = .ok (.iload_n 1, 1) := by decide +kernel
theorem dX1_workOutReach_3 : decode cX1_workOutReach 3 = .ok (.iconst 2, 1) := by decide +kernel
theorem dX1_workOutReach_4 : decode cX1_workOutReach 4 = .ok (.irem, 1) := by decide +kernel
theorem dX1_workOutReach_5 : decode cX1_workOutReach 5 = .ok (.iconst 1, 1) := by decide +kernel
theorem dX1_workOutReach_6 : decode cX1_workOutReach 6 = .ok (.if_icmp .ne 7, 3) := by decide +kernel
theorem dX1_workOutReach_9 : decode cX1_workOutReach 9 = .ok (.iconst 1, 1) := by decide +kernel
theorem dX1_workOutReach_10 : decode cX1_workOutReach 10 = .ok (.goto 4, 3) := by decide +kernel
theorem dX1_workOutReach_13 : decode cX1_workOutReach 13 = .ok (.iconst 0, 1) := by decide +kernel
theorem dX1_workOutReach_14 : decode cX1_workOutReach 14 = .ok (.istore_n 3, 1) := by decide +kernel
theorem dX1_workOutReach_15 : decode cX1_workOutReach 15 = .ok (.iconst 1, 1) := by decide +kernel
theorem dX1_workOutReach_16 : decode cX1_workOutReach 16 = .ok (.istore 4, 2) := by decide +kernel
theorem dX1_workOutReach_18 : decode cX1_workOutReach 18 = .ok (.iload_n 1, 1) := by decide +kernel
theorem dX1_workOutReach_19 : decode cX1_workOutReach 19 = .ok (.iconst 2, 1) := by decide +kernel
theorem dX1_workOutReach_20 : decode cX1_workOutReach 20 = .ok (.idiv, 1) := by decide +kernel
theorem dX1_workOutReach_21 : decode cX1_workOutReach 21 = .ok (.istore 5, 2) := by decide +kernel
theorem dX1_workOutReach_23 : decode cX1_workOutReach 23 = .ok (.iload 5, 2) := by decide +kernel
theorem dX1_workOutReach_25 : decode cX1_workOutReach 25 = .ok (.aload_n 0, 1) := by decide +kernel
theorem dX1_workOutReach_26 : decode cX1_workOutReach 26 = .ok (.getfield 28, 3) := by decide +kernel
theorem dX1_workOutReach_29 : decode cX1_workOutReach 29 = .ok (.if_icmp .ge 82, 3) := by decide +kernel
theorem dX1_workOutReach_32 : decode cX1_workOutReach 32 = .ok (.iload 4, 2) := by decide +kernel
theorem dX1_workOutReach_34 : decode cX1_workOutReach 34 = .ok (.ifCond .eq 77, 3) := by decide +kernel
theorem dX1_workOutReach_37 : decode cX1_workOutReach 37 = .ok (.iload_n 3, 1) := by decide +kernel
theorem dX1_workOutReach_38 : decode cX1_workOutReach 38 = .ok (.ifCond .eq 13, 3) := by decide +kernel
theorem dX1_workOutReach_41 : decode cX1_workOutReach 41 = .ok (.aload_n 0, 1) := by decide +kernel
theorem dX1_workOutReach_42 : decode cX1_workOutReach 42 = .ok (.getfield 15, 3) := by decide +kernel
theorem dX1_workOutReach_45 : decode cX1_workOutReach 45 = .ok (.iload 5, 2) := by decide +kernel
theorem dX1_workOutReach_47 : decode cX1_workOutReach 47 = .ok (.baload, 1) := by decide +kernel
theorem dX1_workOutReach_48 : decode cX1_workOutReach 48 = .ok (.ifCond .eq 13, 3) := by decide +kernel
theorem dX1_workOutReach_51 : decode cX1_workOutReach 51 = .ok (.aload_n 0, 1) := by decide +kernel
theorem dX1_workOutReach_52 : decode cX1_workOutReach 52 = .ok (.getfield 9, 3) := by decide +kernel
theorem dX1_workOutReach_55 : decode cX1_workOutReach 55 = .ok (.iload 5, 2) := by decide +kernel
theorem dX1_workOutReach_57 : decode cX1_workOutReach 57 = .ok (.iaload, 1) := by decide +kernel
theorem dX1_workOutReach_58 : decode cX1_workOutReach 58 = .ok (.goto 4, 3) := by decide +kernel
theorem dX1_workOutReach_61 : decode cX1_workOutReach 61 = .ok (.iconst 0, 1) := by decide +kernel
theorem dX1_workOutReach_62 : decode cX1_workOutReach 62 = .ok (.istore 6, 2) := by decide +kernel
theorem dX1_workOutReach_64 : decode cX1_workOutReach 64 = .ok (.aload_n 0, 1) := by decide +kernel
theorem dX1_workOutReach_65 : decode cX1_workOutReach 65 = .ok (.dup, 1) := by decide +kernel
theorem dX1_workOutReach_66 : decode cX1_workOutReach 66 = .ok (.getfield 35, 3) := by decide +kernel
theorem dX1_workOutReach_69 : decode cX1_workOutReach 69 = .ok (.iload_n 2, 1) := by decide +kernel
theorem dX1_workOutReach_70 : decode cX1_workOutReach 70 = .ok (.iload 6, 2) := by decide +kernel
theorem dX1_workOutReach_72 : decode cX1_workOutReach 72 = .ok (.iand, 1) := by decide +kernel
theorem dX1_workOutReach_73 : decode cX1_workOutReach 73 = .ok (.ior, 1) := by decide +kernel
theorem dX1_workOutReach_74 : decode cX1_workOutReach 74 = .ok (.putfield 35, 3) := by decide +kernel
theorem dX1_workOutReach_77 : decode cX1_workOutReach 77 = .ok (.iload_n 2, 1) := by decide +kernel
theorem dX1_workOutReach_78 : decode cX1_workOutReach 78 = .ok (.iload 6, 2) := by decide +kernel
theorem dX1_workOutReach_80 : decode cX1_workOutReach 80 = .ok (.ior, 1) := by decide +kernel
theorem dX1_workOutReach_81 : decode cX1_workOutReach 81 = .ok (.istore_n 2, 1) := by decide +kernel
theorem dX1_workOutReach_82 : decode cX1_workOutReach 82 = .ok (.iload_n 3, 1) := by decide +kernel
theorem dX1_workOutReach_83 : decode cX1_workOutReach 83 = .ok (.ifCond .ne 13, 3) := by decide +kernel
theorem dX1_workOutReach_86 : decode cX1_workOutReach 86 = .ok (.aload_n 0, 1) := by decide +kernel
theorem dX1_workOutReach_87 : decode cX1_workOutReach 87 = .ok (.getfield 19, 3) := by decide +kernel
theorem dX1_workOutReach_90 : decode cX1_workOutReach 90 = .ok (.iload 5, 2) := by decide +kernel
theorem dX1_workOutReach_92 : decode cX1_workOutReach 92 = .ok (.baload, 1) := by decide +kernel
theorem dX1_workOutReach_93 : decode cX1_workOutReach 93 = .ok (.ifCond .eq 7, 3) := by decide +kernel
theorem dX1_workOutReach_96 : decode cX1_workOutReach 96 = .ok (.iconst 1, 1) := by decide +kernel
theorem dX1_workOutReach_97 : decode cX1_workOutReach 97 = .ok (.goto 4, 3) := by decide +kernel
theorem dX1_workOutReach_100 : decode cX1_workOutReach 100 = .ok (.iconst 0, 1) := by decide +kernel
theorem dX1_workOutReach_101 : decode cX1_workOutReach 101 = .ok (.istore 4, 2) := by decide +kernel
theorem dX1_workOutReach_103 : decode cX1_workOutReach 103 = .ok (.iconst 0, 1) := by decide +kernel
theorem dX1_workOutReach_104 : decode cX1_workOutReach 104 = .ok (.istore_n 3, 1) := by decide +kernel
theorem dX1_workOutReach_105 : decode cX1_workOutReach 105 = .ok (.iinc 5 1, 3) := by decide +kernel
theorem dX1_workOutReach_108 : decode cX1_workOutReach 108 = .ok (.goto (-85), 3) := by decide +kernel
theorem dX1_workOutReach_111 : decode cX1_workOutReach 111 = .ok (.aload_n 0, 1) := by decide +kernel
theorem dX1_workOutReach_112 : decode cX1_workOutReach 112 = .ok (.getfield 22, 3) := by decide +kernel
theorem dX1_workOutReach_115 : decode cX1_workOutReach 115 = .ok (.iload_n 1, 1) := by decide +kernel
theorem dX1_workOutReach_116 : decode cX1_workOutReach 116 = .ok (.iload_n 2, 1) := by decide +kernel
theorem dX1_workOutReach_117 : decode cX1_workOutReach 117 = .ok (.iastore, 1) := by decide +kernel
theorem dX1_workOutReach_118 : decode cX1_workOutReach 118 = .ok (.aload_n 0, 1) := by decide +kernel
theorem dX1_workOutReach_119 : decode cX1_workOutReach 119 = .ok (.getfield 25, 3) := by decide +kernel
theorem dX1_workOutReach_122 : decode cX1_workOutReach 122 = .ok (.iload_n 1, 1) := by decide +kernel
theorem dX1_workOutReach_123 : decode cX1_workOutReach 123 = .ok (.iload 4, 2) := by decide +kernel
theorem dX1_workOutReach_125 : decode cX1_workOutReach 125 = .ok (.bastore, 1) := by decide +kernel
theorem dX1_workOutReach_126 : decode cX1_workOutReach 126 = .ok (.return_, 1) := by decide +kernel
theorem dX2_init_0 : decode cX2_init 0 = .ok (.aload_n 0, 1) := by decide +kernel
theorem dX2_init_1 : decode cX2_init 1 = .ok (.invokespecial 3, 3) := by decide +kernel
theorem dX2_init_4 : decode cX2_init 4 = .ok (.aload_n 0, 1) := by decide +kernel
theorem dX2_init_5 : decode cX2_init 5 = .ok (.new 9, 3) := by decide +kernel
theorem dX2_init_8 : decode cX2_init 8 = .ok (.dup, 1) := by decide +kernel
theorem dX2_init_9 : decode cX2_init 9 = .ok (.invokespecial 11, 3) := by decide +kernel
theorem dX2_init_12 : decode cX2_init 12 = .ok (.putfield 12, 3) := by decide +kernel
theorem dX2_init_15 : decode cX2_init 15 = .ok (.aload_n 0, 1) := by decide +kernel
theorem dX2_init_16 : decode cX2_init 16 = .ok (.new 18, 3) := by decide +kernel
theorem dX2_init_19 : decode cX2_init 19 = .ok (.dup, 1) := by decide +kernel
theorem dX2_init_20 : decode cX2_init 20 = .ok (.sipush 600, 3) := by decide +kernel
theorem dX2_init_23 : decode cX2_init 23 = .ok (.invokespecial 20, 3) := by decide +kernel
theorem dX2_init_26 : decode cX2_init 26 = .ok (.putfield 23, 3) := by decide +kernel
theorem dX2_init_29 : decode cX2_init 29 = .ok (.aload_n 0, 1) := by decide +kernel
theorem dX2_init_30 : decode cX2_init 30 = .ok (.sipush 4920, 3) := by decide +kernel
theorem dX2_init_33 : decode cX2_init 33 = .ok (.newarray .int, 2) := by decide +kernel
theorem dX2_init_35 : decode cX2_init 35 = .ok (.putfield 27, 3) := by decide +kernel
theorem dX2_init_38 : decode cX2_init 38 = .ok (.aload_n 0, 1) := by decide +kernel
theorem dX2_init_39 : decode cX2_init 39 = .ok (.sipush 4920, 3) := by decide +kernel
theorem dX2_init_42 : decode cX2_init 42 = .ok (.newarray .int, 2) := by decide +kernel
theorem dX2_init_44 : decode cX2_init 44 = .ok (.putfield 31, 3) := by decide +kernel
theorem dX2_init_47 : decode cX2_init 47 = .ok (.aload_n 0, 1) := by decide +kernel
theorem dX2_init_48 : decode cX2_init 48 = .ok (.bipush 20, 2) := by decide +kernel
theorem dX2_init_50 : decode cX2_init 50 = .ok (.newarray .int, 2) := by decide +kernel
theorem dX2_init_52 : decode cX2_init 52 = .ok (.putfield 34, 3) := by decide +kernel
theorem dX2_init_55 : decode cX2_init 55 = .ok (.aload_n 0, 1) := by decide +kernel
theorem dX2_init_56 : decode cX2_init 56 = .ok (.bipush 61, 2) := by decide +kernel
theorem dX2_init_58 : decode cX2_init 58 = .ok (.anewarray 37, 3) := by decide +kernel
theorem dX2_init_61 : decode cX2_init 61 = .ok (.putfield 39, 3) := by decide +kernel
theorem dX2_init_64 : decode cX2_init 64 = .ok (.aload_n 0, 1) := by decide +kernel
theorem dX2_init_65 : decode cX2_init 65 = .ok (.bipush 61, 2) := by decide +kernel
theorem dX2_init_67 : decode cX2_init 67 = .ok (.anewarray 37, 3) := by decide +kernel
theorem dX2_init_70 : decode cX2_init 70 = .ok (.putfield 43, 3) := by decide +kernel
theorem dX2_init_73 : decode cX2_init 73 = .ok (.aload_n 0, 1) := by decide +kernel
theorem dX2_init_74 : decode cX2_init 74 = .ok (.iconst 2, 1) := by decide +kernel
theorem dX2_init_75 : decode cX2_init 75 = .ok (.newarray .int, 2) := by decide +kernel
theorem dX2_init_77 : decode cX2_init 77 = .ok (.putfield 46, 3) := by decide +kernel
theorem dX2_init_80 : decode cX2_init 80 = .ok (.aload_n 0, 1) := by decide +kernel
theorem dX2_init_81 : decode cX2_init 81 = .ok (.aload_n 1, 1) := by decide +kernel
theorem dX2_init_82 : decode cX2_init 82 = .ok (.putfield 49, 3) := by decide +kernel
theorem dX2_init_85 : decode cX2_init 85 = .ok (.aload_n 0, 1) := by decide +kernel
theorem dX2_init_86 : decode cX2_init 86 = .ok (.aload_n 2, 1) := by decide +kernel
theorem dX2_init_87 : decode cX2_init 87 = .ok (.putfield 53, 3) := by decide +kernel
theorem dX2_init_90 : decode cX2_init 90 = .ok (.aload_n 0, 1) := by decide +kernel
theorem dX2_init_91 : decode cX2_init 91 = .ok (.aload_n 3, 1) := by decide +kernel
theorem dX2_init_92 : decode cX2_init 92 = .ok (.putfield 56, 3) := by decide +kernel
theorem dX2_init_95 : decode cX2_init 95 = .ok (.aload_n 0, 1) := by decide +kernel
theorem dX2_init_96 : decode cX2_init 96 = .ok (.aload 4, 2) := by decide +kernel
theorem dX2_init_98 : decode cX2_init 98 = .ok (.putfield 60, 3) := by decide +kernel
theorem dX2_init_101 : decode cX2_init 101 = .ok (.aload_n 0, 1) := by decide +kernel
theorem dX2_init_102 : decode cX2_init 102 = .ok (.new 37, 3) := by decide +kernel
theorem dX2_init_105 : decode cX2_init 105 = .ok (.dup, 1) := by decide +kernel
theorem dX2_init_106 : decode cX2_init 106 = .ok (.aload_n 1, 1) := by decide +kernel
theorem dX2_init_107 : decode cX2_init 107 = .ok (.invokespecial 63, 3) := by decide +kernel
theorem dX2_init_110 : decode cX2_init 110 = .ok (.putfield 66, 3) := by decide +kernel
theorem dX2_init_113 : decode cX2_init 113 = .ok (.iconst 0, 1) := by decide +kernel
theorem dX2_init_114 : decode cX2_init 114 = .ok (.istore 5, 2) := by decide +kernel
theorem dX2_init_116 : decode cX2_init 116 = .ok (.iload 5, 2) := by decide +kernel
theorem dX2_init_118 : decode cX2_init 118 = .ok (.bipush 60, 2) := by decide +kernel
theorem dX2_init_120 : decode cX2_init 120 = .ok (.if_icmp .gt 39, 3) := by decide +kernel
theorem dX2_init_123 : decode cX2_init 123 = .ok (.aload_n 0, 1) := by decide +kernel
theorem dX2_init_124 : decode cX2_init 124 = .ok (.getfield 39, 3) := by decide +kernel
theorem dX2_init_127 : decode cX2_init 127 = .ok (.iload 5, 2) := by decide +kernel
theorem dX2_init_129 : decode cX2_init 129 = .ok (.new 37, 3) := by decide +kernel
theorem dX2_init_132 : decode cX2_init 132 = .ok (.dup, 1) := by decide +kernel
theorem dX2_init_133 : decode cX2_init 133 = .ok (.aload_n 1, 1) := by decide +kernel
theorem dX2_init_134 : decode cX2_init 134 = .ok (.invokespecial 63, 3) := by decide +kernel
theorem dX2_init_137 : decode cX2_init 137 = .ok (.aastore, 1) := by decide +kernel
theorem dX2_init_138 : decode cX2_init 138 = .ok (.aload_n 0, 1) := by decide +kernel
theorem dX2_init_139 : decode cX2_init 139 = .ok (.getfield 43, 3) := by decide +kernel
theorem dX2_init_142 : decode cX2_init 142 = .ok (.iload 5, 2) := by decide +kernel
theorem dX2_init_144 : decode cX2_init 144 = .ok (.new 37, 3) := by decide +kernel
theorem dX2_init_147 : decode cX2_init 147 = .ok (.dup, 1) := by decide +kernel
theorem dX2_init_148 : decode cX2_init 148 = .ok (.aload_n 1, 1) := by decide +kernel
theorem dX2_init_149 : decode cX2_init 149 = .ok (.invokespecial 63, 3) := by decide +kernel
theorem dX2_init_152 : decode cX2_init 152 = .ok (.aastore, 1) := by decide +kernel
theorem dX2_init_153 : decode cX2_init 153 = .ok (.iinc 5 1, 3) := by decide +kernel
theorem dX2_init_156 : decode cX2_init 156 = .ok (.goto (-40), 3) := by decide +kernel
theorem dX2_init_159 : decode cX2_init 159 = .ok (.return_, 1) := by decide +kernel
theorem dX2_readText_0 : decode cX2_readText 0 = .ok (.aload_n 0, 1) := by decide +kernel
theorem dX2_readText_1 : decode cX2_readText 1 = .ok (.aload_n 0, 1) := by decide +kernel
theorem dX2_readText_2 : decode cX2_readText 2 = .ok (.getfield 53, 3) := by decide +kernel
theorem dX2_readText_5 : decode cX2_readText 5 = .ok (.getfield 70, 3) := by decide +kernel
theorem dX2_readText_8 : decode cX2_readText 8 = .ok (.putfield 74, 3) := by decide +kernel
theorem dX2_readText_11 : decode cX2_readText 11 = .ok (.aload_n 0, 1) := by decide +kernel
theorem dX2_readText_12 : decode cX2_readText 12 = .ok (.getfield 43, 3) := by decide +kernel
theorem dX2_readText_15 : decode cX2_readText 15 = .ok (.astore_n 1, 1) := by decide +kernel
theorem dX2_readText_16 : decode cX2_readText 16 = .ok (.aload_n 0, 1) := by decide +kernel
theorem dX2_readText_17 : decode cX2_readText 17 = .ok (.aload_n 0, 1) := by decide +kernel
theorem dX2_readText_18 : decode cX2_readText 18 = .ok (.getfield 39, 3) := by decide +kernel
theorem dX2_readText_21 : decode cX2_readText 21 = .ok (.putfield 43, 3) := by decide +kernel
theorem dX2_readText_24 : decode cX2_readText 24 = .ok (.aload_n 0, 1) := by decide +kernel
theorem dX2_readText_25 : decode cX2_readText 25 = .ok (.aload_n 1, 1) := by decide +kernel
theorem dX2_readText_26 : decode cX2_readText 26 = .ok (.putfield 39, 3) := by decide +kernel
theorem dX2_readText_29 : decode cX2_readText 29 = .ok (.aload_n 0, 1) := by decide +kernel
theorem dX2_readText_30 : decode cX2_readText 30 = .ok (.getfield 12, 3) := by decide +kernel
theorem dX2_readText_33 : decode cX2_readText 33 = .ok (.iconst 0, 1) := by decide +kernel
theorem dX2_readText_34 : decode cX2_readText 34 = .ok (.putfield 77, 3) := by decide +kernel
theorem dX2_readText_37 : decode cX2_readText 37 = .ok (.aload_n 0, 1) := by decide +kernel
theorem dX2_readText_38 : decode cX2_readText 38 = .ok (.iconst 0, 1) := by decide +kernel
theorem dX2_readText_39 : decode cX2_readText 39 = .ok (.putfield 78, 3) := by decide +kernel
theorem dX2_readText_42 : decode cX2_readText 42 = .ok (.aload_n 0, 1) := by decide +kernel
theorem dX2_readText_43 : decode cX2_readText 43 = .ok (.iconst 0, 1) := by decide +kernel
theorem dX2_readText_44 : decode cX2_readText 44 = .ok (.putfield 81, 3) := by decide +kernel
theorem dX2_readText_47 : decode cX2_readText 47 = .ok (.aload_n 0, 1) := by decide +kernel
theorem dX2_readText_48 : decode cX2_readText 48 = .ok (.getfield 66, 3) := by decide +kernel
theorem dX2_readText_51 : decode cX2_readText 51 = .ok (.invokevirtual 84, 3) := by decide +kernel
theorem dX2_readText_54 : decode cX2_readText 54 = .ok (.aload_n 0, 1) := by decide +kernel
theorem dX2_readText_55 : decode cX2_readText 55 = .ok (.getfield 39, 3) := by decide +kernel
theorem dX2_readText_58 : decode cX2_readText 58 = .ok (.iconst 0, 1) := by decide +kernel
theorem dX2_readText_59 : decode cX2_readText 59 = .ok (.aaload, 1) := by decide +kernel
theorem dX2_readText_60 : decode cX2_readText 60 = .ok (.aload_n 0, 1) := by decide +kernel
theorem dX2_readText_61 : decode cX2_readText 61 = .ok (.getfield 66, 3) := by decide +kernel
theorem dX2_readText_64 : decode cX2_readText 64 = .ok (.invokevirtual 87, 3) := by decide +kernel
theorem dX2_readText_67 : decode cX2_readText 67 = .ok (.aload_n 0, 1) := by decide +kernel
theorem dX2_readText_68 : decode cX2_readText 68 = .ok (.aload_n 0, 1) := by decide +kernel
theorem dX2_readText_69 : decode cX2_readText 69 = .ok (.getfield 53, 3) := by decide +kernel
theorem dX2_readText_72 : decode cX2_readText 72 = .ok (.iconst 0, 1) := by decide +kernel
theorem dX2_readText_73 : decode cX2_readText 73 = .ok (.invokevirtual 91, 3) := by decide +kernel
theorem dX2_readText_76 : decode cX2_readText 76 = .ok (.aload_n 0, 1) := by decide +kernel
theorem dX2_readText_77 : decode cX2_readText 77 = .ok (.iconst 0, 1) := by decide +kernel
theorem dX2_readText_78 : decode cX2_readText 78 = .ok (.iconst 0, 1) := by decide +kernel
theorem dX2_readText_79 : decode cX2_readText 79 = .ok (.invokevirtual 95, 3) := by decide +kernel
theorem dX2_readText_82 : decode cX2_readText 82 = .ok (.aload_n 0, 1) := by decide +kernel
theorem dX2_readText_83 : decode cX2_readText 83 = .ok (.invokevirtual 99, 3) := by decide +kernel
theorem dX2_readText_86 : decode cX2_readText 86 = .ok (.return_, 1) := by decide +kernel
theorem dX2_countReadAnew_0 : decode cX2_countReadAnew 0 = .ok (.aload_n 0, 1) := by decide +kernel
theorem dX2_countReadAnew_1 : decode cX2_countReadAnew 1 = .ok (.getfield 53, 3) := by decide +kernel
theorem dX2_countReadAnew_4 : decode cX2_countReadAnew 4 = .ok (.iload_n 1, 1) := by decide +kernel
theorem dX2_countReadAnew_5 : decode cX2_countReadAnew 5 = .ok (.iconst 1, 1) := by decide +kernel
theorem dX2_countReadAnew_6 : decode cX2_countReadAnew 6 = .ok (.isub, 1) := by decide +kernel
theorem dX2_countReadAnew_7 : decode cX2_countReadAnew 7 = .ok (.invokevirtual 102, 3) := by decide +kernel
theorem dX2_countReadAnew_10 : decode cX2_countReadAnew 10 = .ok (.iconst 5, 1) := by decide +kernel
theorem dX2_countReadAnew_11 : decode cX2_countReadAnew 11 = .ok (.if_icmp .ne 9, 3) := by decide +kernel
theorem dX2_countReadAnew_14 : decode cX2_countReadAnew 14 = .ok (.iload_n 1, 1) := by decide +kernel
theorem dX2_countReadAnew_15 : decode cX2_countReadAnew 15 = .ok (.iconst 1, 1) := by decide +kernel
theorem dX2_countReadAnew_16 : decode cX2_countReadAnew 16 = .ok (.isub, 1) := by decide +kernel
theorem dX2_countReadAnew_17 : decode cX2_countReadAnew 17 = .ok (.goto 4, 3) := by decide +kernel
theorem dX2_countReadAnew_20 : decode cX2_countReadAnew 20 = .ok (.iload_n 1, 1) := by decide +kernel
theorem dX2_countReadAnew_21 : decode cX2_countReadAnew 21 = .ok (.istore 4, 2) := by decide +kernel
theorem dX2_countReadAnew_23 : decode cX2_countReadAnew 23 = .ok (.aload_n 0, 1) := by decide +kernel
theorem dX2_countReadAnew_24 : decode cX2_countReadAnew 24 = .ok (.getfield 53, 3) := by decide +kernel
theorem dX2_countReadAnew_27 : decode cX2_countReadAnew 27 = .ok (.iload_n 2, 1) := by decide +kernel
theorem dX2_countReadAnew_28 : decode cX2_countReadAnew 28 = .ok (.invokevirtual 102, 3) := by decide +kernel
theorem dX2_countReadAnew_31 : decode cX2_countReadAnew 31 = .ok (.iconst 5, 1) := by decide +kernel
theorem dX2_countReadAnew_32 : decode cX2_countReadAnew 32 = .ok (.if_icmp .ne 9, 3) := by decide +kernel
theorem dX2_countReadAnew_35 : decode cX2_countReadAnew 35 = .ok (.iload_n 2, 1) := by decide +kernel
theorem dX2_countReadAnew_36 : decode cX2_countReadAnew 36 = .ok (.iconst 1, 1) := by decide +kernel
theorem dX2_countReadAnew_37 : decode cX2_countReadAnew 37 = .ok (.iadd, 1) := by decide +kernel
theorem dX2_countReadAnew_38 : decode cX2_countReadAnew 38 = .ok (.goto 4, 3) := by decide +kernel
theorem dX2_countReadAnew_41 : decode cX2_countReadAnew 41 = .ok (.iload_n 2, 1) := by decide +kernel
theorem dX2_countReadAnew_42 : decode cX2_countReadAnew 42 = .ok (.istore 5, 2) := by decide +kernel
theorem dX2_countReadAnew_44 : decode cX2_countReadAnew 44 = .ok (.iload 5, 2) := by decide +kernel
theorem dX2_countReadAnew_46 : decode cX2_countReadAnew 46 = .ok (.aload_n 0, 1) := by decide +kernel
theorem dX2_countReadAnew_47 : decode cX2_countReadAnew 47 = .ok (.getfield 53, 3) := by decide +kernel
theorem dX2_countReadAnew_50 : decode cX2_countReadAnew 50 = .ok (.getfield 70, 3) := by decide +kernel
theorem dX2_countReadAnew_53 : decode cX2_countReadAnew 53 = .ok (.if_icmp .ge 22, 3) := by decide +kernel
theorem dX2_countReadAnew_56 : decode cX2_countReadAnew 56 = .ok (.aload_n 0, 1) := by decide +kernel
theorem dX2_countReadAnew_57 : decode cX2_countReadAnew 57 = .ok (.iload 5, 2) := by decide +kernel
theorem dX2_countReadAnew_59 : decode cX2_countReadAnew 59 = .ok (.iload 5, 2) := by decide +kernel
theorem dX2_countReadAnew_61 : decode cX2_countReadAnew 61 = .ok (.iload_n 3, 1) := by decide +kernel
theorem dX2_countReadAnew_62 : decode cX2_countReadAnew 62 = .ok (.iadd, 1) := by decide +kernel
theorem dX2_countReadAnew_63 : decode cX2_countReadAnew 63 = .ok (.invokevirtual 106, 3) := by decide +kernel
theorem dX2_countReadAnew_66 : decode cX2_countReadAnew 66 = .ok (.ifCond .ne 9, 3) := by decide +kernel
theorem dX2_countReadAnew_69 : decode cX2_countReadAnew 69 = .ok (.iinc 5 1, 3) := by decide +kernel
theorem dX2_countReadAnew_72 : decode cX2_countReadAnew 72 = .ok (.goto (-28), 3) := by decide +kernel
theorem dX2_countReadAnew_75 : decode cX2_countReadAnew 75 = .ok (.aload_n 0, 1) := by decide +kernel
theorem dX2_countReadAnew_76 : decode cX2_countReadAnew 76 = .ok (.iload 5, 2) := by decide +kernel
theorem dX2_countReadAnew_78 : decode cX2_countReadAnew 78 = .ok (.iload 4, 2) := by decide +kernel
theorem dX2_countReadAnew_80 : decode cX2_countReadAnew 80 = .ok (.isub, 1) := by decide +kernel
theorem dX2_countReadAnew_81 : decode cX2_countReadAnew 81 = .ok (.putfield 74, 3) := by decide +kernel
theorem dX2_countReadAnew_84 : decode cX2_countReadAnew 84 = .ok (.return_, 1) := by decide +kernel
theorem dX2_isAsBefore_0 : decode cX2_isAsBefore 0 = .ok (.iload_n 1, 1) := by decide +kernel
theorem dX2_isAsBefore_1 : decode cX2_isAsBefore 1 = .ok (.ifCond .lt 25, 3) := by decide +kernel
theorem dX2_isAsBefore_4 : decode cX2_isAsBefore 4 = .ok (.iload_n 1, 1) := by decide +kernel
theorem dX2_isAsBefore_5 : decode cX2_isAsBefore 5 = .ok (.aload_n 0, 1) := by decide +kernel
theorem dX2_isAsBefore_6 : decode cX2_isAsBefore 6 = .ok (.getfield 39, 3) := by decide +kernel
theorem dX2_isAsBefore_9 : decode cX2_isAsBefore 9 = .ok (.arraylength, 1) := by decide +kernel
theorem dX2_isAsBefore_10 : decode cX2_isAsBefore 10 = .ok (.if_icmp .ge 16, 3) := by decide +kernel
theorem dX2_isAsBefore_13 : decode cX2_isAsBefore 13 = .ok (.iload_n 2, 1) := by decide +kernel
theorem dX2_isAsBefore_14 : decode cX2_isAsBefore 14 = .ok (.ifCond .lt 12, 3) := by decide +kernel
theorem dX2_isAsBefore_17 : decode cX2_isAsBefore 17 = .ok (.iload_n 2, 1) := by decide +kernel
theorem dX2_isAsBefore_18 : decode cX2_isAsBefore 18 = .ok (.aload_n 0, 1) := by decide +kernel
theorem dX2_isAsBefore_19 : decode cX2_isAsBefore 19 = .ok (.getfield 43, 3) := by decide +kernel
theorem dX2_isAsBefore_22 : decode cX2_isAsBefore 22 = .ok (.arraylength, 1) := by decide +kernel
theorem dX2_isAsBefore_23 : decode cX2_isAsBefore 23 = .ok (.if_icmp .lt 5, 3) := by decide +kernel
theorem dX2_isAsBefore_26 : decode cX2_isAsBefore 26 = .ok (.iconst 0, 1) := by decide +kernel
theorem dX2_isAsBefore_27 : decode cX2_isAsBefore 27 = .ok (.ireturn, 1) := by decide +kernel
theorem dX2_isAsBefore_28 : decode cX2_isAsBefore 28 = .ok (.aload_n 0, 1) := by decide +kernel
theorem dX2_isAsBefore_29 : decode cX2_isAsBefore 29 = .ok (.getfield 39, 3) := by decide +kernel
theorem dX2_isAsBefore_32 : decode cX2_isAsBefore 32 = .ok (.iload_n 1, 1) := by decide +kernel
theorem dX2_isAsBefore_33 : decode cX2_isAsBefore 33 = .ok (.aaload, 1) := by decide +kernel
theorem dX2_isAsBefore_34 : decode cX2_isAsBefore 34 = .ok (.getfield 110, 3) := by decide +kernel
theorem dX2_isAsBefore_37 : decode cX2_isAsBefore 37 = .ok (.ifCond .ne 25, 3) := by decide +kernel
theorem dX2_isAsBefore_40 : decode cX2_isAsBefore 40 = .ok (.aload_n 0, 1) := by decide +kernel
theorem dX2_isAsBefore_41 : decode cX2_isAsBefore 41 = .ok (.getfield 39, 3) := by decide +kernel
theorem dX2_isAsBefore_44 : decode cX2_isAsBefore 44 = .ok (.iload_n 1, 1) := by decide +kernel
theorem dX2_isAsBefore_45 : decode cX2_isAsBefore 45 = .ok (.aaload, 1) := by decide +kernel
theorem dX2_isAsBefore_46 : decode cX2_isAsBefore 46 = .ok (.aload_n 0, 1) := by decide +kernel
theorem dX2_isAsBefore_47 : decode cX2_isAsBefore 47 = .ok (.getfield 43, 3) := by decide +kernel
theorem dX2_isAsBefore_50 : decode cX2_isAsBefore 50 = .ok (.iload_n 2, 1) := by decide +kernel
theorem dX2_isAsBefore_51 : decode cX2_isAsBefore 51 = .ok (.aaload, 1) := by decide +kernel
theorem dX2_isAsBefore_52 : decode cX2_isAsBefore 52 = .ok (.invokevirtual 113, 3) := by decide +kernel
theorem dX2_isAsBefore_55 : decode cX2_isAsBefore 55 = .ok (.ifCond .eq 7, 3) := by decide +kernel
theorem dX2_isAsBefore_58 : decode cX2_isAsBefore 58 = .ok (.iconst 1, 1) := by decide +kernel
theorem dX2_isAsBefore_59 : decode cX2_isAsBefore 59 = .ok (.goto 4, 3) := by decide +kernel
theorem dX2_isAsBefore_62 : decode cX2_isAsBefore 62 = .ok (.iconst 0, 1) := by decide +kernel
theorem dX2_isAsBefore_63 : decode cX2_isAsBefore 63 = .ok (.ireturn, 1) := by decide +kernel
theorem dX2_goThrough_0 : decode cX2_goThrough 0 = .ok (.iconst 0, 1) := by decide +kernel
theorem dX2_goThrough_1 : decode cX2_goThrough 1 = .ok (.istore_n 3, 1) := by decide +kernel
theorem dX2_goThrough_2 : decode cX2_goThrough 2 = .ok (.iconst 0, 1) := by decide +kernel
theorem dX2_goThrough_3 : decode cX2_goThrough 3 = .ok (.istore 4, 2) := by decide +kernel
theorem dX2_goThrough_5 : decode cX2_goThrough 5 = .ok (.iconst 1, 1) := by decide +kernel
theorem dX2_goThrough_6 : decode cX2_goThrough 6 = .ok (.istore 5, 2) := by decide +kernel
theorem dX2_goThrough_8 : decode cX2_goThrough 8 = .ok (.iconst 0, 1) := by decide +kernel
theorem dX2_goThrough_9 : decode cX2_goThrough 9 = .ok (.istore 6, 2) := by decide +kernel
theorem dX2_goThrough_11 : decode cX2_goThrough 11 = .ok (.iload 6, 2) := by decide +kernel
theorem dX2_goThrough_13 : decode cX2_goThrough 13 = .ok (.aload_n 1, 1) := by decide +kernel
theorem dX2_goThrough_14 : decode cX2_goThrough 14 = .ok (.getfield 70, 3) := by decide +kernel
theorem dX2_goThrough_17 : decode cX2_goThrough 17 = .ok (.if_icmp .ge 189, 3) := by decide +kernel
theorem dX2_goThrough_20 : decode cX2_goThrough 20 = .ok (.aload_n 1, 1) := by decide +kernel
theorem dX2_goThrough_21 : decode cX2_goThrough 21 = .ok (.getfield 117, 3) := by decide +kernel
theorem dX2_goThrough_24 : decode cX2_goThrough 24 = .ok (.iload 6, 2) := by decide +kernel
theorem dX2_goThrough_26 : decode cX2_goThrough 26 = .ok (.iaload, 1) := by decide +kernel
theorem dX2_goThrough_27 : decode cX2_goThrough 27 = .ok (.istore 7, 2) := by decide +kernel
theorem dX2_goThrough_29 : decode cX2_goThrough 29 = .ok (.aload_n 1, 1) := by decide +kernel
theorem dX2_goThrough_30 : decode cX2_goThrough 30 = .ok (.getfield 120, 3) := by decide +kernel
theorem dX2_goThrough_33 : decode cX2_goThrough 33 = .ok (.iload 6, 2) := by decide +kernel
theorem dX2_goThrough_35 : decode cX2_goThrough 35 = .ok (.iaload, 1) := by decide +kernel
theorem dX2_goThrough_36 : decode cX2_goThrough 36 = .ok (.istore 8, 2) := by decide +kernel
theorem dX2_goThrough_38 : decode cX2_goThrough 38 = .ok (.aload_n 0, 1) := by decide +kernel
theorem dX2_goThrough_39 : decode cX2_goThrough 39 = .ok (.iload_n 2, 1) := by decide +kernel
theorem dX2_goThrough_40 : decode cX2_goThrough 40 = .ok (.ifCond .ne 8, 3) := by decide +kernel
theorem dX2_goThrough_43 : decode cX2_goThrough 43 = .ok (.iload 6, 2) := by decide +kernel
theorem dX2_goThrough_45 : decode cX2_goThrough 45 = .ok (.goto 7, 3) := by decide +kernel
theorem dX2_goThrough_48 : decode cX2_goThrough 48 = .ok (.aload_n 0, 1) := by decide +kernel
theorem dX2_goThrough_49 : decode cX2_goThrough 49 = .ok (.getfield 123, 3) := by decide +kernel
theorem dX2_goThrough_52 : decode cX2_goThrough 52 = .ok (.putfield 123, 3) := by decide +kernel
theorem dX2_goThrough_55 : decode cX2_goThrough 55 = .ok (.iload 4, 2) := by decide +kernel
theorem dX2_goThrough_57 : decode cX2_goThrough 57 = .ok (.ifCond .le 58, 3) := by decide +kernel
theorem dX2_goThrough_60 : decode cX2_goThrough 60 = .ok (.iload 4, 2) := by decide +kernel
theorem dX2_goThrough_62 : decode cX2_goThrough 62 = .ok (.iload 7, 2) := by decide +kernel
theorem dX2_goThrough_64 : decode cX2_goThrough 64 = .ok (.bipush 7, 2) := by decide +kernel
theorem dX2_goThrough_66 : decode cX2_goThrough 66 = .ok (.if_icmp .ne 7, 3) := by decide +kernel
theorem dX2_goThrough_69 : decode cX2_goThrough 69 = .ok (.iconst 1, 1) := by decide +kernel
theorem dX2_goThrough_70 : decode cX2_goThrough 70 = .ok (.goto 15, 3) := by decide +kernel
theorem dX2_goThrough_73 : decode cX2_goThrough 73 = .ok (.iload 7, 2) := by decide +kernel
theorem dX2_goThrough_75 : decode cX2_goThrough 75 = .ok (.bipush 8, 2) := by decide +kernel
theorem dX2_goThrough_77 : decode cX2_goThrough 77 = .ok (.if_icmp .ne 7, 3) := by decide +kernel
theorem dX2_goThrough_80 : decode cX2_goThrough 80 = .ok (.iconst (-1), 1) := by decide +kernel
theorem dX2_goThrough_81 : decode cX2_goThrough 81 = .ok (.goto 4, 3) := by decide +kernel
theorem dX2_goThrough_84 : decode cX2_goThrough 84 = .ok (.iconst 0, 1) := by decide +kernel
theorem dX2_goThrough_85 : decode cX2_goThrough 85 = .ok (.iadd, 1) := by decide +kernel
theorem dX2_goThrough_86 : decode cX2_goThrough 86 = .ok (.istore 4, 2) := by decide +kernel
theorem dX2_goThrough_88 : decode cX2_goThrough 88 = .ok (.iload 4, 2) := by decide +kernel
theorem dX2_goThrough_90 : decode cX2_goThrough 90 = .ok (.ifCond .le 94, 3) := by decide +kernel
theorem dX2_goThrough_93 : decode cX2_goThrough 93 = .ok (.iload 5, 2) := by decide +kernel
theorem dX2_goThrough_95 : decode cX2_goThrough 95 = .ok (.iconst 2, 1) := by decide +kernel
theorem dX2_goThrough_96 : decode cX2_goThrough 96 = .ok (.if_icmp .ne 88, 3) := by decide +kernel
theorem dX2_goThrough_99 : decode cX2_goThrough 99 = .ok (.aload_n 0, 1) := by decide +kernel
theorem dX2_goThrough_100 : decode cX2_goThrough 100 = .ok (.bipush 10, 2) := by decide +kernel
theorem dX2_goThrough_102 : decode cX2_goThrough 102 = .ok (.iload 7, 2) := by decide +kernel
theorem dX2_goThrough_104 : decode cX2_goThrough 104 = .ok (.iload 8, 2) := by decide +kernel
theorem dX2_goThrough_106 : decode cX2_goThrough 106 = .ok (.invokestatic 126, 3) := by decide +kernel
theorem dX2_goThrough_109 : decode cX2_goThrough 109 = .ok (.invokevirtual 130, 3) := by decide +kernel
theorem dX2_goThrough_112 : decode cX2_goThrough 112 = .ok (.goto 72, 3) := by decide +kernel
theorem dX2_goThrough_115 : decode cX2_goThrough 115 = .ok (.iload 7, 2) := by decide +kernel
theorem dX2_goThrough_117 : decode cX2_goThrough 117 = .ok (.bipush 7, 2) := by decide +kernel
theorem dX2_goThrough_119 : decode cX2_goThrough 119 = .ok (.if_icmp .ne 40, 3) := by decide +kernel
theorem dX2_goThrough_122 : decode cX2_goThrough 122 = .ok (.aload_n 0, 1) := by decide +kernel
theorem dX2_goThrough_123 : decode cX2_goThrough 123 = .ok (.getfield 60, 3) := by decide +kernel
theorem dX2_goThrough_126 : decode cX2_goThrough 126 = .ok (.iload 8, 2) := by decide +kernel
theorem dX2_goThrough_128 : decode cX2_goThrough 128 = .ok (.iaload, 1) := by decide +kernel
theorem dX2_goThrough_129 : decode cX2_goThrough 129 = .ok (.istore 5, 2) := by decide +kernel
theorem dX2_goThrough_131 : decode cX2_goThrough 131 = .ok (.iload_n 3, 1) := by decide +kernel
theorem dX2_goThrough_132 : decode cX2_goThrough 132 = .ok (.iload 5, 2) := by decide +kernel
theorem dX2_goThrough_134 : decode cX2_goThrough 134 = .ok (.ifCond .ne 7, 3) := by decide +kernel
theorem dX2_goThrough_137 : decode cX2_goThrough 137 = .ok (.iconst 1, 1) := by decide +kernel
theorem dX2_goThrough_138 : decode cX2_goThrough 138 = .ok (.goto 4, 3) := by decide +kernel
theorem dX2_goThrough_141 : decode cX2_goThrough 141 = .ok (.iconst 0, 1) := by decide +kernel
theorem dX2_goThrough_142 : decode cX2_goThrough 142 = .ok (.iadd, 1) := by decide +kernel
theorem dX2_goThrough_143 : decode cX2_goThrough 143 = .ok (.istore_n 3, 1) := by decide +kernel
theorem dX2_goThrough_144 : decode cX2_goThrough 144 = .ok (.iload 5, 2) := by decide +kernel
theorem dX2_goThrough_146 : decode cX2_goThrough 146 = .ok (.ifCond .ne 7, 3) := by decide +kernel
theorem dX2_goThrough_149 : decode cX2_goThrough 149 = .ok (.iconst 0, 1) := by decide +kernel
theorem dX2_goThrough_150 : decode cX2_goThrough 150 = .ok (.goto 4, 3) := by decide +kernel
theorem dX2_goThrough_153 : decode cX2_goThrough 153 = .ok (.iconst 1, 1) := by decide +kernel
theorem dX2_goThrough_154 : decode cX2_goThrough 154 = .ok (.istore 4, 2) := by decide +kernel
theorem dX2_goThrough_156 : decode cX2_goThrough 156 = .ok (.goto 28, 3) := by decide +kernel
theorem dX2_goThrough_159 : decode cX2_goThrough 159 = .ok (.iload 7, 2) := by decide +kernel
theorem dX2_goThrough_161 : decode cX2_goThrough 161 = .ok (.bipush 8, 2) := by decide +kernel
theorem dX2_goThrough_163 : decode cX2_goThrough 163 = .ok (.if_icmp .ne 13, 3) := by decide +kernel
theorem dX2_goThrough_166 : decode cX2_goThrough 166 = .ok (.iload_n 3, 1) := by decide +kernel
theorem dX2_goThrough_167 : decode cX2_goThrough 167 = .ok (.ifCond .le 9, 3) := by decide +kernel
theorem dX2_goThrough_170 : decode cX2_goThrough 170 = .ok (.iinc 3 (-1), 3) := by decide +kernel
theorem dX2_goThrough_173 : decode cX2_goThrough 173 = .ok (.goto 11, 3) := by decide +kernel
theorem dX2_goThrough_176 : decode cX2_goThrough 176 = .ok (.aload_n 0, 1) := by decide +kernel
theorem dX2_goThrough_177 : decode cX2_goThrough 177 = .ok (.aload_n 1, 1) := by decide +kernel
theorem dX2_goThrough_178 : decode cX2_goThrough 178 = .ok (.iload 6, 2) := by decide +kernel
theorem dX2_goThrough_180 : decode cX2_goThrough 180 = .ok (.iload_n 2, 1) := by decide +kernel
theorem dX2_goThrough_181 : decode cX2_goThrough 181 = .ok (.invokevirtual 134, 3) := by decide +kernel
theorem dX2_goThrough_184 : decode cX2_goThrough 184 = .ok (.iload_n 2, 1) := by decide +kernel
theorem dX2_goThrough_185 : decode cX2_goThrough 185 = .ok (.ifCond .ne 15, 3) := by decide +kernel
theorem dX2_goThrough_188 : decode cX2_goThrough 188 = .ok (.aload_n 0, 1) := by decide +kernel
theorem dX2_goThrough_189 : decode cX2_goThrough 189 = .ok (.iload 6, 2) := by decide +kernel
theorem dX2_goThrough_191 : decode cX2_goThrough 191 = .ok (.iconst 1, 1) := by decide +kernel
theorem dX2_goThrough_192 : decode cX2_goThrough 192 = .ok (.iadd, 1) := by decide +kernel
theorem dX2_goThrough_193 : decode cX2_goThrough 193 = .ok (.iload_n 3, 1) := by decide +kernel
theorem dX2_goThrough_194 : decode cX2_goThrough 194 = .ok (.iload 4, 2) := by decide +kernel
theorem dX2_goThrough_196 : decode cX2_goThrough 196 = .ok (.iadd, 1) := by decide +kernel
theorem dX2_goThrough_197 : decode cX2_goThrough 197 = .ok (.invokevirtual 138, 3) := by decide +kernel
theorem dX2_goThrough_200 : decode cX2_goThrough 200 = .ok (.iinc 6 1, 3) := by decide +kernel
theorem dX2_goThrough_203 : decode cX2_goThrough 203 = .ok (.goto (-192), 3) := by decide +kernel
theorem dX2_goThrough_206 : decode cX2_goThrough 206 = .ok (.aload_n 0, 1) := by decide +kernel
theorem dX2_goThrough_207 : decode cX2_goThrough 207 = .ok (.iload_n 2, 1) := by decide +kernel
theorem dX2_goThrough_208 : decode cX2_goThrough 208 = .ok (.ifCond .ne 10, 3) := by decide +kernel
theorem dX2_goThrough_211 : decode cX2_goThrough 211 = .ok (.aload_n 1, 1) := by decide +kernel
theorem dX2_goThrough_212 : decode cX2_goThrough 212 = .ok (.getfield 70, 3) := by decide +kernel
theorem dX2_goThrough_215 : decode cX2_goThrough 215 = .ok (.goto 7, 3) := by decide +kernel
theorem dX2_goThrough_218 : decode cX2_goThrough 218 = .ok (.aload_n 0, 1) := by decide +kernel
theorem dX2_goThrough_219 : decode cX2_goThrough 219 = .ok (.getfield 123, 3) := by decide +kernel
theorem dX2_goThrough_222 : decode cX2_goThrough 222 = .ok (.putfield 123, 3) := by decide +kernel
theorem dX2_goThrough_225 : decode cX2_goThrough 225 = .ok (.iconst 0, 1) := by decide +kernel
theorem dX2_goThrough_226 : decode cX2_goThrough 226 = .ok (.istore 6, 2) := by decide +kernel
theorem dX2_goThrough_228 : decode cX2_goThrough 228 = .ok (.iload 6, 2) := by decide +kernel
theorem dX2_goThrough_230 : decode cX2_goThrough 230 = .ok (.iload_n 3, 1) := by decide +kernel
theorem dX2_goThrough_231 : decode cX2_goThrough 231 = .ok (.iload 4, 2) := by decide +kernel
theorem dX2_goThrough_233 : decode cX2_goThrough 233 = .ok (.iadd, 1) := by decide +kernel
theorem dX2_goThrough_234 : decode cX2_goThrough 234 = .ok (.if_icmp .ge 14, 3) := by decide +kernel
theorem dX2_goThrough_237 : decode cX2_goThrough 237 = .ok (.aload_n 0, 1) := by decide +kernel
theorem dX2_goThrough_238 : decode cX2_goThrough 238 = .ok (.iconst 5, 1) := by decide +kernel
theorem dX2_goThrough_239 : decode cX2_goThrough 239 = .ok (.invokevirtual 142, 3) := by decide +kernel
theorem dX2_goThrough_242 : decode cX2_goThrough 242 = .ok (.iinc 6 1, 3) := by decide +kernel
theorem dX2_goThrough_245 : decode cX2_goThrough 245 = .ok (.goto (-17), 3) := by decide +kernel
theorem dX2_goThrough_248 : decode cX2_goThrough 248 = .ok (.return_, 1) := by decide +kernel
theorem dX2_plainLetter_0 : decode cX2_plainLetter 0 = .ok (.iload_n 0, 1) := by decide +kernel
theorem dX2_plainLetter_1 : decode cX2_plainLetter 1 = .ok (.iconst 4, 1) := by decide +kernel
theorem dX2_plainLetter_2 : decode cX2_plainLetter 2 = .ok (.if_icmp .ne 8, 3) := by decide +kernel
theorem dX2_plainLetter_5 : decode cX2_plainLetter 5 = .ok (.iload_n 1, 1) := by decide +kernel
theorem dX2_plainLetter_6 : decode cX2_plainLetter 6 = .ok (.i2c, 1) := by decide +kernel
theorem dX2_plainLetter_7 : decode cX2_plainLetter 7 = .ok (.goto 15, 3) := by decide +kernel
theorem dX2_plainLetter_10 : decode cX2_plainLetter 10 = .ok (.iload_n 0, 1) := by decide +kernel
theorem dX2_plainLetter_11 : decode cX2_plainLetter 11 = .ok (.iconst 5, 1) := by decide +kernel
theorem dX2_plainLetter_12 : decode cX2_plainLetter 12 = .ok (.if_icmp .ne 8, 3) := by decide +kernel
theorem dX2_plainLetter_15 : decode cX2_plainLetter 15 = .ok (.bipush 32, 2) := by decide +kernel
theorem dX2_plainLetter_17 : decode cX2_plainLetter 17 = .ok (.goto 5, 3) := by decide +kernel
theorem dX2_plainLetter_20 : decode cX2_plainLetter 20 = .ok (.bipush 42, 2) := by decide +kernel
theorem dX2_plainLetter_22 : decode cX2_plainLetter 22 = .ok (.ireturn, 1) := by decide +kernel
theorem dX2_keepState_0 : decode cX2_keepState 0 = .ok (.iload_n 1, 1) := by decide +kernel
theorem dX2_keepState_1 : decode cX2_keepState 1 = .ok (.ifCond .lt 35, 3) := by decide +kernel
theorem dX2_keepState_4 : decode cX2_keepState 4 = .ok (.iload_n 1, 1) := by decide +kernel
theorem dX2_keepState_5 : decode cX2_keepState 5 = .ok (.aload_n 0, 1) := by decide +kernel
theorem dX2_keepState_6 : decode cX2_keepState 6 = .ok (.getfield 39, 3) := by decide +kernel
theorem dX2_keepState_9 : decode cX2_keepState 9 = .ok (.arraylength, 1) := by decide +kernel
theorem dX2_keepState_10 : decode cX2_keepState 10 = .ok (.if_icmp .ge 26, 3) := by decide +kernel
theorem dX2_keepState_13 : decode cX2_keepState 13 = .ok (.aload_n 0, 1) := by decide +kernel
theorem dX2_keepState_14 : decode cX2_keepState 14 = .ok (.getfield 39, 3) := by decide +kernel
theorem dX2_keepState_17 : decode cX2_keepState 17 = .ok (.iload_n 1, 1) := by decide +kernel
theorem dX2_keepState_18 : decode cX2_keepState 18 = .ok (.aaload, 1) := by decide +kernel
theorem dX2_keepState_19 : decode cX2_keepState 19 = .ok (.aload_n 0, 1) := by decide +kernel
theorem dX2_keepState_20 : decode cX2_keepState 20 = .ok (.getfield 66, 3) := by decide +kernel
theorem dX2_keepState_23 : decode cX2_keepState 23 = .ok (.invokevirtual 87, 3) := by decide +kernel
theorem dX2_keepState_26 : decode cX2_keepState 26 = .ok (.aload_n 0, 1) := by decide +kernel
theorem dX2_keepState_27 : decode cX2_keepState 27 = .ok (.getfield 39, 3) := by decide +kernel
theorem dX2_keepState_30 : decode cX2_keepState 30 = .ok (.iload_n 1, 1) := by decide +kernel
theorem dX2_keepState_31 : decode cX2_keepState 31 = .ok (.aaload, 1) := by decide +kernel
theorem dX2_keepState_32 : decode cX2_keepState 32 = .ok (.iload_n 2, 1) := by decide +kernel
theorem dX2_keepState_33 : decode cX2_keepState 33 = .ok (.putfield 110, 3) := by decide +kernel
theorem dX2_keepState_36 : decode cX2_keepState 36 = .ok (.return_, 1) := by decide +kernel
theorem dX2_readToken_0 : decode cX2_readToken 0 = .ok (.aload_n 1, 1) := by decide +kernel
theorem dX2_readToken_1 : decode cX2_readToken 1 = .ok (.getfield 120, 3) := by decide +kernel
theorem dX2_readToken_4 : decode cX2_readToken 4 = .ok (.iload_n 2, 1) := by decide +kernel
theorem dX2_readToken_5 : decode cX2_readToken 5 = .ok (.iaload, 1) := by decide +kernel
theorem dX2_readToken_6 : decode cX2_readToken 6 = .ok (.istore 4, 2) := by decide +kernel
theorem dX2_readToken_8 : decode cX2_readToken 8 = .ok (.aload_n 1, 1) := by decide +kernel
theorem dX2_readToken_9 : decode cX2_readToken 9 = .ok (.getfield 117, 3) := by decide +kernel
theorem dX2_readToken_12 : decode cX2_readToken 12 = .ok (.iload_n 2, 1) := by decide +kernel
theorem dX2_readToken_13 : decode cX2_readToken 13 = .ok (.iaload, 1) := by decide +kernel
theorem dX2_readToken_14 : decode cX2_readToken 14 = .ok (.tableswitch 166 0 6 #[42, 88, 53, 104, 125, 137, 156], 42) := by decide +kernel
theorem dX2_readToken_56 : decode cX2_readToken 56 = .ok (.aload_n 0, 1) := by decide +kernel
theorem dX2_readToken_57 : decode cX2_readToken 57 = .ok (.iload 4, 2) := by decide +kernel
theorem dX2_readToken_59 : decode cX2_readToken 59 = .ok (.bipush 60, 2) := by decide +kernel
theorem dX2_readToken_61 : decode cX2_readToken 61 = .ok (.invokevirtual 130, 3) := by decide +kernel
theorem dX2_readToken_64 : decode cX2_readToken 64 = .ok (.goto 121, 3) := by decide +kernel
theorem dX2_readToken_67 : decode cX2_readToken 67 = .ok (.aload_n 0, 1) := by decide +kernel
theorem dX2_readToken_68 : decode cX2_readToken 68 = .ok (.getfield 66, 3) := by decide +kernel
theorem dX2_readToken_71 : decode cX2_readToken 71 = .ok (.getfield 145, 3) := by decide +kernel
theorem dX2_readToken_74 : decode cX2_readToken 74 = .ok (.iconst (-1), 1) := by decide +kernel
theorem dX2_readToken_75 : decode cX2_readToken 75 = .ok (.if_icmp .ne 11, 3) := by decide +kernel
theorem dX2_readToken_78 : decode cX2_readToken 78 = .ok (.aload_n 0, 1) := by decide +kernel
theorem dX2_readToken_79 : decode cX2_readToken 79 = .ok (.iconst 1, 1) := by decide +kernel
theorem dX2_readToken_80 : decode cX2_readToken 80 = .ok (.invokevirtual 142, 3) := by decide +kernel
theorem dX2_readToken_83 : decode cX2_readToken 83 = .ok (.goto 102, 3) := by decide +kernel
theorem dX2_readToken_86 : decode cX2_readToken 86 = .ok (.aload_n 0, 1) := by decide +kernel
theorem dX2_readToken_87 : decode cX2_readToken 87 = .ok (.aload_n 0, 1) := by decide +kernel
theorem dX2_readToken_88 : decode cX2_readToken 88 = .ok (.getfield 66, 3) := by decide +kernel
theorem dX2_readToken_91 : decode cX2_readToken 91 = .ok (.getfield 145, 3) := by decide +kernel
theorem dX2_readToken_94 : decode cX2_readToken 94 = .ok (.bipush 60, 2) := by decide +kernel
theorem dX2_readToken_96 : decode cX2_readToken 96 = .ok (.invokevirtual 130, 3) := by decide +kernel
theorem dX2_readToken_99 : decode cX2_readToken 99 = .ok (.goto 86, 3) := by decide +kernel
theorem dX2_readToken_102 : decode cX2_readToken 102 = .ok (.aload_n 0, 1) := by decide +kernel
theorem dX2_readToken_103 : decode cX2_readToken 103 = .ok (.aload_n 0, 1) := by decide +kernel
theorem dX2_readToken_104 : decode cX2_readToken 104 = .ok (.getfield 66, 3) := by decide +kernel
theorem dX2_readToken_107 : decode cX2_readToken 107 = .ok (.iload 4, 2) := by decide +kernel
theorem dX2_readToken_109 : decode cX2_readToken 109 = .ok (.invokevirtual 148, 3) := by decide +kernel
theorem dX2_readToken_112 : decode cX2_readToken 112 = .ok (.invokevirtual 151, 3) := by decide +kernel
theorem dX2_readToken_115 : decode cX2_readToken 115 = .ok (.goto 70, 3) := by decide +kernel
theorem dX2_readToken_118 : decode cX2_readToken 118 = .ok (.aload_n 0, 1) := by decide +kernel
theorem dX2_readToken_119 : decode cX2_readToken 119 = .ok (.aload_n 0, 1) := by decide +kernel
theorem dX2_readToken_120 : decode cX2_readToken 120 = .ok (.getfield 66, 3) := by decide +kernel
theorem dX2_readToken_123 : decode cX2_readToken 123 = .ok (.aload_n 0, 1) := by decide +kernel
theorem dX2_readToken_124 : decode cX2_readToken 124 = .ok (.getfield 66, 3) := by decide +kernel
theorem dX2_readToken_127 : decode cX2_readToken 127 = .ok (.invokevirtual 154, 3) := by decide +kernel
theorem dX2_readToken_130 : decode cX2_readToken 130 = .ok (.invokevirtual 148, 3) := by decide +kernel
theorem dX2_readToken_133 : decode cX2_readToken 133 = .ok (.invokevirtual 151, 3) := by decide +kernel
theorem dX2_readToken_136 : decode cX2_readToken 136 = .ok (.goto 49, 3) := by decide +kernel
theorem dX2_readToken_139 : decode cX2_readToken 139 = .ok (.aload_n 0, 1) := by decide +kernel
theorem dX2_readToken_140 : decode cX2_readToken 140 = .ok (.bipush 10, 2) := by decide +kernel
theorem dX2_readToken_142 : decode cX2_readToken 142 = .ok (.iload 4, 2) := by decide +kernel
theorem dX2_readToken_144 : decode cX2_readToken 144 = .ok (.i2c, 1) := by decide +kernel
theorem dX2_readToken_145 : decode cX2_readToken 145 = .ok (.invokevirtual 130, 3) := by decide +kernel
theorem dX2_readToken_148 : decode cX2_readToken 148 = .ok (.goto 37, 3) := by decide +kernel
theorem dX2_readToken_151 : decode cX2_readToken 151 = .ok (.aload_n 1, 1) := by decide +kernel
theorem dX2_readToken_152 : decode cX2_readToken 152 = .ok (.iload_n 2, 1) := by decide +kernel
theorem dX2_readToken_153 : decode cX2_readToken 153 = .ok (.invokestatic 158, 3) := by decide +kernel
theorem dX2_readToken_156 : decode cX2_readToken 156 = .ok (.ifCond .ne 29, 3) := by decide +kernel
theorem dX2_readToken_159 : decode cX2_readToken 159 = .ok (.aload_n 0, 1) := by decide +kernel
theorem dX2_readToken_160 : decode cX2_readToken 160 = .ok (.bipush 10, 2) := by decide +kernel
theorem dX2_readToken_162 : decode cX2_readToken 162 = .ok (.bipush 32, 2) := by decide +kernel
theorem dX2_readToken_164 : decode cX2_readToken 164 = .ok (.invokevirtual 130, 3) := by decide +kernel
theorem dX2_readToken_167 : decode cX2_readToken 167 = .ok (.goto 18, 3) := by decide +kernel
theorem dX2_readToken_170 : decode cX2_readToken 170 = .ok (.aload_n 0, 1) := by decide +kernel
theorem dX2_readToken_171 : decode cX2_readToken 171 = .ok (.iload 4, 2) := by decide +kernel
theorem dX2_readToken_173 : decode cX2_readToken 173 = .ok (.iload_n 3, 1) := by decide +kernel
theorem dX2_readToken_174 : decode cX2_readToken 174 = .ok (.invokevirtual 162, 3) := by decide +kernel
theorem dX2_readToken_177 : decode cX2_readToken 177 = .ok (.goto 8, 3) := by decide +kernel
theorem dX2_readToken_180 : decode cX2_readToken 180 = .ok (.aload_n 0, 1) := by decide +kernel
theorem dX2_readToken_181 : decode cX2_readToken 181 = .ok (.iconst 5, 1) := by decide +kernel
theorem dX2_readToken_182 : decode cX2_readToken 182 = .ok (.invokevirtual 142, 3) := by decide +kernel
theorem dX2_readToken_185 : decode cX2_readToken 185 = .ok (.return_, 1) := by decide +kernel
theorem dX2_isLineLeftOut_0 : decode cX2_isLineLeftOut 0 = .ok (.aload_n 0, 1) := by decide +kernel
theorem dX2_isLineLeftOut_1 : decode cX2_isLineLeftOut 1 = .ok (.iload_n 1, 1) := by decide +kernel
theorem dX2_isLineLeftOut_2 : decode cX2_isLineLeftOut 2 = .ok (.iconst 1, 1) := by decide +kernel
theorem dX2_isLineLeftOut_3 : decode cX2_isLineLeftOut 3 = .ok (.isub, 1) := by decide +kernel
theorem dX2_isLineLeftOut_4 : decode cX2_isLineLeftOut 4 = .ok (.invokevirtual 102, 3) := by decide +kernel
theorem dX2_isLineLeftOut_7 : decode cX2_isLineLeftOut 7 = .ok (.istore_n 2, 1) := by decide +kernel
theorem dX2_isLineLeftOut_8 : decode cX2_isLineLeftOut 8 = .ok (.aload_n 0, 1) := by decide +kernel
theorem dX2_isLineLeftOut_9 : decode cX2_isLineLeftOut 9 = .ok (.iload_n 1, 1) := by decide +kernel
theorem dX2_isLineLeftOut_10 : decode cX2_isLineLeftOut 10 = .ok (.iconst 1, 1) := by decide +kernel
theorem dX2_isLineLeftOut_11 : decode cX2_isLineLeftOut 11 = .ok (.iadd, 1) := by decide +kernel
theorem dX2_isLineLeftOut_12 : decode cX2_isLineLeftOut 12 = .ok (.invokevirtual 102, 3) := by decide +kernel
theorem dX2_isLineLeftOut_15 : decode cX2_isLineLeftOut 15 = .ok (.istore_n 3, 1) := by decide +kernel
theorem dX2_isLineLeftOut_16 : decode cX2_isLineLeftOut 16 = .ok (.iload_n 2, 1) := by decide +kernel
theorem dX2_isLineLeftOut_17 : decode cX2_isLineLeftOut 17 = .ok (.ifCond .eq 18, 3) := by decide +kernel
theorem dX2_isLineLeftOut_20 : decode cX2_isLineLeftOut 20 = .ok (.iload_n 2, 1) := by decide +kernel
theorem dX2_isLineLeftOut_21 : decode cX2_isLineLeftOut 21 = .ok (.iconst 2, 1) := by decide +kernel
theorem dX2_isLineLeftOut_22 : decode cX2_isLineLeftOut 22 = .ok (.if_icmp .eq 13, 3) := by decide +kernel
theorem dX2_isLineLeftOut_25 : decode cX2_isLineLeftOut 25 = .ok (.iload_n 3, 1) := by decide +kernel
theorem dX2_isLineLeftOut_26 : decode cX2_isLineLeftOut 26 = .ok (.iconst 1, 1) := by decide +kernel
theorem dX2_isLineLeftOut_27 : decode cX2_isLineLeftOut 27 = .ok (.if_icmp .eq 8, 3) := by decide +kernel
theorem dX2_isLineLeftOut_30 : decode cX2_isLineLeftOut 30 = .ok (.iload_n 3, 1) := by decide +kernel
theorem dX2_isLineLeftOut_31 : decode cX2_isLineLeftOut 31 = .ok (.iconst 3, 1) := by decide +kernel
theorem dX2_isLineLeftOut_32 : decode cX2_isLineLeftOut 32 = .ok (.if_icmp .ne 7, 3) := by decide +kernel
theorem dX2_isLineLeftOut_35 : decode cX2_isLineLeftOut 35 = .ok (.iconst 1, 1) := by decide +kernel
theorem dX2_isLineLeftOut_36 : decode cX2_isLineLeftOut 36 = .ok (.goto 4, 3) := by decide +kernel
theorem dX2_isLineLeftOut_39 : decode cX2_isLineLeftOut 39 = .ok (.iconst 0, 1) := by decide +kernel
theorem dX2_isLineLeftOut_40 : decode cX2_isLineLeftOut 40 = .ok (.ireturn, 1) := by decide +kernel
theorem dX2_goThroughEntity_0 : decode cX2_goThroughEntity 0 = .ok (.iload_n 2, 1) := by decide +kernel
theorem dX2_goThroughEntity_1 : decode cX2_goThroughEntity 1 = .ok (.iconst 2, 1) := by decide +kernel
theorem dX2_goThroughEntity_2 : decode cX2_goThroughEntity 2 = .ok (.if_icmp .lt 7, 3) := by decide +kernel
theorem dX2_goThroughEntity_5 : decode cX2_goThroughEntity 5 = .ok (.iconst 1, 1) := by decide +kernel
theorem dX2_goThroughEntity_6 : decode cX2_goThroughEntity 6 = .ok (.goto 4, 3) := by decide +kernel
theorem dX2_goThroughEntity_9 : decode cX2_goThroughEntity 9 = .ok (.iconst 0, 1) := by decide +kernel
theorem dX2_goThroughEntity_10 : decode cX2_goThroughEntity 10 = .ok (.istore_n 3, 1) := by decide +kernel
theorem dX2_goThroughEntity_11 : decode cX2_goThroughEntity 11 = .ok (.iconst 0, 1) := by decide +kernel
theorem dX2_goThroughEntity_12 : decode cX2_goThroughEntity 12 = .ok (.istore 4, 2) := by decide +kernel
theorem dX2_goThroughEntity_14 : decode cX2_goThroughEntity 14 = .ok (.iload 4, 2) := by decide +kernel
theorem dX2_goThroughEntity_16 : decode cX2_goThroughEntity 16 = .ok (.iload_n 2, 1) := by decide +kernel
theorem dX2_goThroughEntity_17 : decode cX2_goThroughEntity 17 = .ok (.if_icmp .ge 36, 3) := by decide +kernel
theorem dX2_goThroughEntity_20 : decode cX2_goThroughEntity 20 = .ok (.iload 4, 2) := by decide +kernel
theorem dX2_goThroughEntity_22 : decode cX2_goThroughEntity 22 = .ok (.iconst 2, 1) := by decide +kernel
theorem dX2_goThroughEntity_23 : decode cX2_goThroughEntity 23 = .ok (.if_icmp .ge 30, 3) := by decide +kernel
theorem dX2_goThroughEntity_26 : decode cX2_goThroughEntity 26 = .ok (.iload_n 3, 1) := by decide +kernel
theorem dX2_goThroughEntity_27 : decode cX2_goThroughEntity 27 = .ok (.ifCond .ne 14, 3) := by decide +kernel
theorem dX2_goThroughEntity_30 : decode cX2_goThroughEntity 30 = .ok (.aload_n 0, 1) := by decide +kernel
theorem dX2_goThroughEntity_31 : decode cX2_goThroughEntity 31 = .ok (.getfield 46, 3) := by decide +kernel
theorem dX2_goThroughEntity_34 : decode cX2_goThroughEntity 34 = .ok (.iload 4, 2) := by decide +kernel
theorem dX2_goThroughEntity_36 : decode cX2_goThroughEntity 36 = .ok (.iaload, 1) := by decide +kernel
theorem dX2_goThroughEntity_37 : decode cX2_goThroughEntity 37 = .ok (.iload_n 1, 1) := by decide +kernel
theorem dX2_goThroughEntity_38 : decode cX2_goThroughEntity 38 = .ok (.if_icmp .ne 7, 3) := by decide +kernel
theorem dX2_goThroughEntity_41 : decode cX2_goThroughEntity 41 = .ok (.iconst 1, 1) := by decide +kernel
theorem dX2_goThroughEntity_42 : decode cX2_goThroughEntity 42 = .ok (.goto 4, 3) := by decide +kernel
theorem dX2_goThroughEntity_45 : decode cX2_goThroughEntity 45 = .ok (.iconst 0, 1) := by decide +kernel
theorem dX2_goThroughEntity_46 : decode cX2_goThroughEntity 46 = .ok (.istore_n 3, 1) := by decide +kernel
theorem dX2_goThroughEntity_47 : decode cX2_goThroughEntity 47 = .ok (.iinc 4 1, 3) := by decide +kernel
theorem dX2_goThroughEntity_50 : decode cX2_goThroughEntity 50 = .ok (.goto (-36), 3) := by decide +kernel
theorem dX2_goThroughEntity_53 : decode cX2_goThroughEntity 53 = .ok (.iload_n 3, 1) := by decide +kernel
theorem dX2_goThroughEntity_54 : decode cX2_goThroughEntity 54 = .ok (.ifCond .eq 9, 3) := by decide +kernel
theorem dX2_goThroughEntity_57 : decode cX2_goThroughEntity 57 = .ok (.aload_n 0, 1) := by decide +kernel
theorem dX2_goThroughEntity_58 : decode cX2_goThroughEntity 58 = .ok (.iconst 4, 1) := by decide +kernel
theorem dX2_goThroughEntity_59 : decode cX2_goThroughEntity 59 = .ok (.invokevirtual 142, 3) := by decide +kernel
theorem dX2_goThroughEntity_62 : decode cX2_goThroughEntity 62 = .ok (.return_, 1) := by decide +kernel
theorem dX2_goThroughEntity_63 : decode cX2_goThroughEntity 63 = .ok (.aload_n 0, 1) := by decide +kernel
theorem dX2_goThroughEntity_64 : decode cX2_goThroughEntity 64 = .ok (.getfield 46, 3) := by decide +kernel
theorem dX2_goThroughEntity_67 : decode cX2_goThroughEntity 67 = .ok (.iload_n 2, 1) := by decide +kernel
theorem dX2_goThroughEntity_68 : decode cX2_goThroughEntity 68 = .ok (.iload_n 1, 1) := by decide +kernel
theorem dX2_goThroughEntity_69 : decode cX2_goThroughEntity 69 = .ok (.iastore, 1) := by decide +kernel
theorem dX2_goThroughEntity_70 : decode cX2_goThroughEntity 70 = .ok (.aload_n 0, 1) := by decide +kernel
theorem dX2_goThroughEntity_71 : decode cX2_goThroughEntity 71 = .ok (.aload_n 0, 1) := by decide +kernel
theorem dX2_goThroughEntity_72 : decode cX2_goThroughEntity 72 = .ok (.getfield 56, 3) := by decide +kernel
theorem dX2_goThroughEntity_75 : decode cX2_goThroughEntity 75 = .ok (.iload_n 1, 1) := by decide +kernel
theorem dX2_goThroughEntity_76 : decode cX2_goThroughEntity 76 = .ok (.aaload, 1) := by decide +kernel
theorem dX2_goThroughEntity_77 : decode cX2_goThroughEntity 77 = .ok (.iload_n 2, 1) := by decide +kernel
theorem dX2_goThroughEntity_78 : decode cX2_goThroughEntity 78 = .ok (.iconst 1, 1) := by decide +kernel
theorem dX2_goThroughEntity_79 : decode cX2_goThroughEntity 79 = .ok (.iadd, 1) := by decide +kernel
theorem dX2_goThroughEntity_80 : decode cX2_goThroughEntity 80 = .ok (.invokevirtual 91, 3) := by decide +kernel
theorem dX2_goThroughEntity_83 : decode cX2_goThroughEntity 83 = .ok (.return_, 1) := by decide +kernel
theorem dX2_readThing_0 : decode cX2_readThing 0 = .ok (.iconst 0, 1) := by decide +kernel
theorem dX2_readThing_1 : decode cX2_readThing 1 = .ok (.istore_n 3, 1) := by decide +kernel
theorem dX2_readThing_2 : decode cX2_readThing 2 = .ok (.iconst 0, 1) := by decide +kernel
theorem dX2_readThing_3 : decode cX2_readThing 3 = .ok (.istore 4, 2) := by decide +kernel
theorem dX2_readThing_5 : decode cX2_readThing 5 = .ok (.iload 4, 2) := by decide +kernel
theorem dX2_readThing_7 : decode cX2_readThing 7 = .ok (.bipush 100, 2) := by decide +kernel
theorem dX2_readThing_9 : decode cX2_readThing 9 = .ok (.if_icmp .ge 186, 3) := by decide +kernel
theorem dX2_readThing_12 : decode cX2_readThing 12 = .ok (.aload_n 0, 1) := by decide +kernel
theorem dX2_readThing_13 : decode cX2_readThing 13 = .ok (.getfield 12, 3) := by decide +kernel
theorem dX2_readThing_16 : decode cX2_readThing 16 = .ok (.getfield 77, 3) := by decide +kernel
theorem dX2_readThing_19 : decode cX2_readThing 19 = .ok (.sipush 300, 3) := by decide +kernel
theorem dX2_readThing_22 : decode cX2_readThing 22 = .ok (.if_icmp .ge 21, 3) := by decide +kernel
theorem dX2_readThing_25 : decode cX2_readThing 25 = .ok (.iload_n 1, 1) := by decide +kernel
theorem dX2_readThing_26 : decode cX2_readThing 26 = .ok (.bipush 10, 2) := by decide +kernel
theorem dX2_readThing_28 : decode cX2_readThing 28 = .ok (.if_icmp .eq 22, 3) := by decide +kernel
theorem dX2_readThing_31 : decode cX2_readThing 31 = .ok (.aload_n 0, 1) := by decide +kernel
theorem dX2_readThing_32 : decode cX2_readThing 32 = .ok (.getfield 66, 3) := by decide +kernel
theorem dX2_readThing_35 : decode cX2_readThing 35 = .ok (.getfield 165, 3) := by decide +kernel
theorem dX2_readThing_38 : decode cX2_readThing 38 = .ok (.bipush 20, 2) := by decide +kernel
theorem dX2_readThing_40 : decode cX2_readThing 40 = .ok (.if_icmp .lt 10, 3) := by decide +kernel
theorem dX2_readThing_43 : decode cX2_readThing 43 = .ok (.aload_n 0, 1) := by decide +kernel
theorem dX2_readThing_44 : decode cX2_readThing 44 = .ok (.bipush 6, 2) := by decide +kernel
theorem dX2_readThing_46 : decode cX2_readThing 46 = .ok (.invokevirtual 142, 3) := by decide +kernel
theorem dX2_readThing_49 : decode cX2_readThing 49 = .ok (.return_, 1) := by decide +kernel
theorem dX2_readThing_50 : decode cX2_readThing 50 = .ok (.aload_n 0, 1) := by decide +kernel
theorem dX2_readThing_51 : decode cX2_readThing 51 = .ok (.getfield 66, 3) := by decide +kernel
theorem dX2_readThing_54 : decode cX2_readThing 54 = .ok (.iload_n 1, 1) := by decide +kernel
theorem dX2_readThing_55 : decode cX2_readThing 55 = .ok (.invokevirtual 168, 3) := by decide +kernel
theorem dX2_readThing_58 : decode cX2_readThing 58 = .ok (.ifCond .eq 11, 3) := by decide +kernel
theorem dX2_readThing_61 : decode cX2_readThing 61 = .ok (.aload_n 0, 1) := by decide +kernel
theorem dX2_readThing_62 : decode cX2_readThing 62 = .ok (.iload_n 1, 1) := by decide +kernel
theorem dX2_readThing_63 : decode cX2_readThing 63 = .ok (.iload_n 2, 1) := by decide +kernel
theorem dX2_readThing_64 : decode cX2_readThing 64 = .ok (.iconst 0, 1) := by decide +kernel
theorem dX2_readThing_65 : decode cX2_readThing 65 = .ok (.invokevirtual 172, 3) := by decide +kernel
theorem dX2_readThing_68 : decode cX2_readThing 68 = .ok (.return_, 1) := by decide +kernel
theorem dX2_readThing_69 : decode cX2_readThing 69 = .ok (.iload_n 3, 1) := by decide +kernel
theorem dX2_readThing_70 : decode cX2_readThing 70 = .ok (.bipush 8, 2) := by decide +kernel
theorem dX2_readThing_72 : decode cX2_readThing 72 = .ok (.if_icmp .ge 13, 3) := by decide +kernel
theorem dX2_readThing_75 : decode cX2_readThing 75 = .ok (.aload_n 0, 1) := by decide +kernel
theorem dX2_readThing_76 : decode cX2_readThing 76 = .ok (.getfield 66, 3) := by decide +kernel
theorem dX2_readThing_79 : decode cX2_readThing 79 = .ok (.invokevirtual 176, 3) := by decide +kernel
theorem dX2_readThing_82 : decode cX2_readThing 82 = .ok (.goto 4, 3) := by decide +kernel
theorem dX2_readThing_85 : decode cX2_readThing 85 = .ok (.iconst (-1), 1) := by decide +kernel
theorem dX2_readThing_86 : decode cX2_readThing 86 = .ok (.istore 5, 2) := by decide +kernel
theorem dX2_readThing_88 : decode cX2_readThing 88 = .ok (.aload_n 0, 1) := by decide +kernel
theorem dX2_readThing_89 : decode cX2_readThing 89 = .ok (.getfield 66, 3) := by decide +kernel
theorem dX2_readThing_92 : decode cX2_readThing 92 = .ok (.getfield 145, 3) := by decide +kernel
theorem dX2_readThing_95 : decode cX2_readThing 95 = .ok (.iconst (-1), 1) := by decide +kernel
theorem dX2_readThing_96 : decode cX2_readThing 96 = .ok (.if_icmp .ne 26, 3) := by decide +kernel
theorem dX2_readThing_99 : decode cX2_readThing 99 = .ok (.aload_n 0, 1) := by decide +kernel
theorem dX2_readThing_100 : decode cX2_readThing 100 = .ok (.getfield 49, 3) := by decide +kernel
theorem dX2_readThing_103 : decode cX2_readThing 103 = .ok (.getfield 179, 3) := by decide +kernel
theorem dX2_readThing_106 : decode cX2_readThing 106 = .ok (.iconst 0, 1) := by decide +kernel
theorem dX2_readThing_107 : decode cX2_readThing 107 = .ok (.baload, 1) := by decide +kernel
theorem dX2_readThing_108 : decode cX2_readThing 108 = .ok (.ifCond .eq 14, 3) := by decide +kernel
theorem dX2_readThing_111 : decode cX2_readThing 111 = .ok (.aload_n 0, 1) := by decide +kernel
theorem dX2_readThing_112 : decode cX2_readThing 112 = .ok (.iconst 0, 1) := by decide +kernel
theorem dX2_readThing_113 : decode cX2_readThing 113 = .ok (.bipush 60, 2) := by decide +kernel
theorem dX2_readThing_115 : decode cX2_readThing 115 = .ok (.iconst 1, 1) := by decide +kernel
theorem dX2_readThing_116 : decode cX2_readThing 116 = .ok (.invokevirtual 172, 3) := by decide +kernel
theorem dX2_readThing_119 : decode cX2_readThing 119 = .ok (.goto 70, 3) := by decide +kernel
theorem dX2_readThing_122 : decode cX2_readThing 122 = .ok (.iload 5, 2) := by decide +kernel
theorem dX2_readThing_124 : decode cX2_readThing 124 = .ok (.iconst (-1), 1) := by decide +kernel
theorem dX2_readThing_125 : decode cX2_readThing 125 = .ok (.if_icmp .eq 28, 3) := by decide +kernel
theorem dX2_readThing_128 : decode cX2_readThing 128 = .ok (.aload_n 0, 1) := by decide +kernel
theorem dX2_readThing_129 : decode cX2_readThing 129 = .ok (.getfield 66, 3) := by decide +kernel
theorem dX2_readThing_132 : decode cX2_readThing 132 = .ok (.iload 5, 2) := by decide +kernel
theorem dX2_readThing_134 : decode cX2_readThing 134 = .ok (.invokevirtual 168, 3) := by decide +kernel
theorem dX2_readThing_137 : decode cX2_readThing 137 = .ok (.pop, 1) := by decide +kernel
theorem dX2_readThing_138 : decode cX2_readThing 138 = .ok (.aload_n 0, 1) := by decide +kernel
theorem dX2_readThing_139 : decode cX2_readThing 139 = .ok (.iload 5, 2) := by decide +kernel
theorem dX2_readThing_141 : decode cX2_readThing 141 = .ok (.bipush 60, 2) := by decide +kernel
theorem dX2_readThing_143 : decode cX2_readThing 143 = .ok (.iconst 1, 1) := by decide +kernel
theorem dX2_readThing_144 : decode cX2_readThing 144 = .ok (.invokevirtual 172, 3) := by decide +kernel
theorem dX2_readThing_147 : decode cX2_readThing 147 = .ok (.iinc 3 1, 3) := by decide +kernel
theorem dX2_readThing_150 : decode cX2_readThing 150 = .ok (.goto 39, 3) := by decide +kernel
theorem dX2_readThing_153 : decode cX2_readThing 153 = .ok (.aload_n 0, 1) := by decide +kernel
theorem dX2_readThing_154 : decode cX2_readThing 154 = .ok (.getfield 66, 3) := by decide +kernel
theorem dX2_readThing_157 : decode cX2_readThing 157 = .ok (.invokevirtual 185, 3) := by decide +kernel
theorem dX2_readThing_160 : decode cX2_readThing 160 = .ok (.ifCond .eq 23, 3) := by decide +kernel
theorem dX2_readThing_163 : decode cX2_readThing 163 = .ok (.aload_n 0, 1) := by decide +kernel
theorem dX2_readThing_164 : decode cX2_readThing 164 = .ok (.getfield 66, 3) := by decide +kernel
theorem dX2_readThing_167 : decode cX2_readThing 167 = .ok (.invokevirtual 189, 3) := by decide +kernel
theorem dX2_readThing_170 : decode cX2_readThing 170 = .ok (.aload_n 0, 1) := by decide +kernel
theorem dX2_readThing_171 : decode cX2_readThing 171 = .ok (.dup, 1) := by decide +kernel
theorem dX2_readThing_172 : decode cX2_readThing 172 = .ok (.getfield 81, 3) := by decide +kernel
theorem dX2_readThing_175 : decode cX2_readThing 175 = .ok (.iconst 1, 1) := by decide +kernel
theorem dX2_readThing_176 : decode cX2_readThing 176 = .ok (.iadd, 1) := by decide +kernel
theorem dX2_readThing_177 : decode cX2_readThing 177 = .ok (.putfield 81, 3) := by decide +kernel
theorem dX2_readThing_180 : decode cX2_readThing 180 = .ok (.goto 9, 3) := by decide +kernel
theorem dX2_readThing_183 : decode cX2_readThing 183 = .ok (.aload_n 0, 1) := by decide +kernel
theorem dX2_readThing_184 : decode cX2_readThing 184 = .ok (.iconst 0, 1) := by decide +kernel
theorem dX2_readThing_185 : decode cX2_readThing 185 = .ok (.invokevirtual 142, 3) := by decide +kernel
theorem dX2_readThing_188 : decode cX2_readThing 188 = .ok (.return_, 1) := by decide +kernel
theorem dX2_readThing_189 : decode cX2_readThing 189 = .ok (.iinc 4 1, 3) := by decide +kernel
theorem dX2_readThing_192 : decode cX2_readThing 192 = .ok (.goto (-187), 3) := by decide +kernel
theorem dX2_readThing_195 : decode cX2_readThing 195 = .ok (.return_, 1) := by decide +kernel
theorem dX2_addThing_0 : decode cX2_addThing 0 = .ok (.aload_n 0, 1) := by decide +kernel
theorem dX2_addThing_1 : decode cX2_addThing 1 = .ok (.getfield 66, 3) := by decide +kernel
theorem dX2_addThing_4 : decode cX2_addThing 4 = .ok (.getfield 165, 3) := by decide +kernel
theorem dX2_addThing_7 : decode cX2_addThing 7 = .ok (.ifCond .le 20, 3) := by decide +kernel
theorem dX2_addThing_10 : decode cX2_addThing 10 = .ok (.aload_n 0, 1) := by decide +kernel
theorem dX2_addThing_11 : decode cX2_addThing 11 = .ok (.getfield 34, 3) := by decide +kernel
theorem dX2_addThing_14 : decode cX2_addThing 14 = .ok (.aload_n 0, 1) := by decide +kernel
theorem dX2_addThing_15 : decode cX2_addThing 15 = .ok (.getfield 66, 3) := by decide +kernel
theorem dX2_addThing_18 : decode cX2_addThing 18 = .ok (.getfield 165, 3) := by decide +kernel
theorem dX2_addThing_21 : decode cX2_addThing 21 = .ok (.iconst 1, 1) := by decide +kernel
theorem dX2_addThing_22 : decode cX2_addThing 22 = .ok (.isub, 1) := by decide +kernel
theorem dX2_addThing_23 : decode cX2_addThing 23 = .ok (.iaload, 1) := by decide +kernel
theorem dX2_addThing_24 : decode cX2_addThing 24 = .ok (.goto 4, 3) := by decide +kernel
theorem dX2_addThing_27 : decode cX2_addThing 27 = .ok (.iconst (-1), 1) := by decide +kernel
theorem dX2_addThing_28 : decode cX2_addThing 28 = .ok (.istore 4, 2) := by decide +kernel
theorem dX2_addThing_30 : decode cX2_addThing 30 = .ok (.aload_n 0, 1) := by decide +kernel
theorem dX2_addThing_31 : decode cX2_addThing 31 = .ok (.getfield 12, 3) := by decide +kernel
theorem dX2_addThing_34 : decode cX2_addThing 34 = .ok (.getfield 77, 3) := by decide +kernel
theorem dX2_addThing_37 : decode cX2_addThing 37 = .ok (.istore 5, 2) := by decide +kernel
theorem dX2_addThing_39 : decode cX2_addThing 39 = .ok (.aload_n 0, 1) := by decide +kernel
theorem dX2_addThing_40 : decode cX2_addThing 40 = .ok (.getfield 12, 3) := by decide +kernel
theorem dX2_addThing_43 : decode cX2_addThing 43 = .ok (.iload_n 1, 1) := by decide +kernel
theorem dX2_addThing_44 : decode cX2_addThing 44 = .ok (.iload 4, 2) := by decide +kernel
theorem dX2_addThing_46 : decode cX2_addThing 46 = .ok (.iload_n 2, 1) := by decide +kernel
theorem dX2_addThing_47 : decode cX2_addThing 47 = .ok (.aload_n 0, 1) := by decide +kernel
theorem dX2_addThing_48 : decode cX2_addThing 48 = .ok (.getfield 123, 3) := by decide +kernel
theorem dX2_addThing_51 : decode cX2_addThing 51 = .ok (.iload_n 3, 1) := by decide +kernel
theorem dX2_addThing_52 : decode cX2_addThing 52 = .ok (.invokevirtual 192, 3) := by decide +kernel
theorem dX2_addThing_55 : decode cX2_addThing 55 = .ok (.iload_n 1, 1) := by decide +kernel
theorem dX2_addThing_56 : decode cX2_addThing 56 = .ok (.bipush 10, 2) := by decide +kernel
theorem dX2_addThing_58 : decode cX2_addThing 58 = .ok (.if_icmp .ne 4, 3) := by decide +kernel
theorem dX2_addThing_61 : decode cX2_addThing 61 = .ok (.return_, 1) := by decide +kernel
theorem dX2_addThing_62 : decode cX2_addThing 62 = .ok (.aload_n 0, 1) := by decide +kernel
theorem dX2_addThing_63 : decode cX2_addThing 63 = .ok (.getfield 66, 3) := by decide +kernel
theorem dX2_addThing_66 : decode cX2_addThing 66 = .ok (.getfield 165, 3) := by decide +kernel
theorem dX2_addThing_69 : decode cX2_addThing 69 = .ok (.bipush 20, 2) := by decide +kernel
theorem dX2_addThing_71 : decode cX2_addThing 71 = .ok (.if_icmp .ge 17, 3) := by decide +kernel
theorem dX2_addThing_74 : decode cX2_addThing 74 = .ok (.aload_n 0, 1) := by decide +kernel
theorem dX2_addThing_75 : decode cX2_addThing 75 = .ok (.getfield 34, 3) := by decide +kernel
theorem dX2_addThing_78 : decode cX2_addThing 78 = .ok (.aload_n 0, 1) := by decide +kernel
theorem dX2_addThing_79 : decode cX2_addThing 79 = .ok (.getfield 66, 3) := by decide +kernel
theorem dX2_addThing_82 : decode cX2_addThing 82 = .ok (.getfield 165, 3) := by decide +kernel
theorem dX2_addThing_85 : decode cX2_addThing 85 = .ok (.iload 5, 2) := by decide +kernel
theorem dX2_addThing_87 : decode cX2_addThing 87 = .ok (.iastore, 1) := by decide +kernel
theorem dX2_addThing_88 : decode cX2_addThing 88 = .ok (.aload_n 0, 1) := by decide +kernel
theorem dX2_addThing_89 : decode cX2_addThing 89 = .ok (.getfield 66, 3) := by decide +kernel
theorem dX2_addThing_92 : decode cX2_addThing 92 = .ok (.iload_n 1, 1) := by decide +kernel
theorem dX2_addThing_93 : decode cX2_addThing 93 = .ok (.invokevirtual 195, 3) := by decide +kernel
theorem dX2_addThing_96 : decode cX2_addThing 96 = .ok (.return_, 1) := by decide +kernel
theorem dX2_closeByTag_0 : decode cX2_closeByTag 0 = .ok (.iload_n 1, 1) := by decide +kernel
theorem dX2_closeByTag_1 : decode cX2_closeByTag 1 = .ok (.iconst (-1), 1) := by decide +kernel
theorem dX2_closeByTag_2 : decode cX2_closeByTag 2 = .ok (.if_icmp .ne 11, 3) := by decide +kernel
theorem dX2_closeByTag_5 : decode cX2_closeByTag 5 = .ok (.aload_n 0, 1) := by decide +kernel
theorem dX2_closeByTag_6 : decode cX2_closeByTag 6 = .ok (.iconst 1, 1) := by decide +kernel
theorem dX2_closeByTag_7 : decode cX2_closeByTag 7 = .ok (.invokevirtual 142, 3) := by decide +kernel
theorem dX2_closeByTag_10 : decode cX2_closeByTag 10 = .ok (.goto 9, 3) := by decide +kernel
theorem dX2_closeByTag_13 : decode cX2_closeByTag 13 = .ok (.aload_n 0, 1) := by decide +kernel
theorem dX2_closeByTag_14 : decode cX2_closeByTag 14 = .ok (.iload_n 1, 1) := by decide +kernel
theorem dX2_closeByTag_15 : decode cX2_closeByTag 15 = .ok (.iconst 1, 1) := by decide +kernel
theorem dX2_closeByTag_16 : decode cX2_closeByTag 16 = .ok (.invokevirtual 95, 3) := by decide +kernel
theorem dX2_closeByTag_19 : decode cX2_closeByTag 19 = .ok (.return_, 1) := by decide +kernel
theorem dX2_closeUpTo_0 : decode cX2_closeUpTo 0 = .ok (.aload_n 0, 1) := by decide +kernel
theorem dX2_closeUpTo_1 : decode cX2_closeUpTo 1 = .ok (.getfield 66, 3) := by decide +kernel
theorem dX2_closeUpTo_4 : decode cX2_closeUpTo 4 = .ok (.getfield 165, 3) := by decide +kernel
theorem dX2_closeUpTo_7 : decode cX2_closeUpTo 7 = .ok (.iconst 1, 1) := by decide +kernel
theorem dX2_closeUpTo_8 : decode cX2_closeUpTo 8 = .ok (.isub, 1) := by decide +kernel
theorem dX2_closeUpTo_9 : decode cX2_closeUpTo 9 = .ok (.istore_n 3, 1) := by decide +kernel
theorem dX2_closeUpTo_10 : decode cX2_closeUpTo 10 = .ok (.iload_n 3, 1) := by decide +kernel
theorem dX2_closeUpTo_11 : decode cX2_closeUpTo 11 = .ok (.iload_n 1, 1) := by decide +kernel
theorem dX2_closeUpTo_12 : decode cX2_closeUpTo 12 = .ok (.if_icmp .lt 75, 3) := by decide +kernel
theorem dX2_closeUpTo_15 : decode cX2_closeUpTo 15 = .ok (.aload_n 0, 1) := by decide +kernel
theorem dX2_closeUpTo_16 : decode cX2_closeUpTo 16 = .ok (.getfield 66, 3) := by decide +kernel
theorem dX2_closeUpTo_19 : decode cX2_closeUpTo 19 = .ok (.invokevirtual 198, 3) := by decide +kernel
theorem dX2_closeUpTo_22 : decode cX2_closeUpTo 22 = .ok (.ifCond .ne 8, 3) := by decide +kernel
theorem dX2_closeUpTo_25 : decode cX2_closeUpTo 25 = .ok (.aload_n 0, 1) := by decide +kernel
theorem dX2_closeUpTo_26 : decode cX2_closeUpTo 26 = .ok (.iconst 2, 1) := by decide +kernel
theorem dX2_closeUpTo_27 : decode cX2_closeUpTo 27 = .ok (.invokevirtual 142, 3) := by decide +kernel
theorem dX2_closeUpTo_30 : decode cX2_closeUpTo 30 = .ok (.iload_n 3, 1) := by decide +kernel
theorem dX2_closeUpTo_31 : decode cX2_closeUpTo 31 = .ok (.iload_n 1, 1) := by decide +kernel
theorem dX2_closeUpTo_32 : decode cX2_closeUpTo 32 = .ok (.if_icmp .gt 7, 3) := by decide +kernel
theorem dX2_closeUpTo_35 : decode cX2_closeUpTo 35 = .ok (.iload_n 2, 1) := by decide +kernel
theorem dX2_closeUpTo_36 : decode cX2_closeUpTo 36 = .ok (.ifCond .ne 38, 3) := by decide +kernel
theorem dX2_closeUpTo_39 : decode cX2_closeUpTo 39 = .ok (.aload_n 0, 1) := by decide +kernel
theorem dX2_closeUpTo_40 : decode cX2_closeUpTo 40 = .ok (.dup, 1) := by decide +kernel
theorem dX2_closeUpTo_41 : decode cX2_closeUpTo 41 = .ok (.getfield 81, 3) := by decide +kernel
theorem dX2_closeUpTo_44 : decode cX2_closeUpTo 44 = .ok (.iconst 1, 1) := by decide +kernel
theorem dX2_closeUpTo_45 : decode cX2_closeUpTo 45 = .ok (.iadd, 1) := by decide +kernel
theorem dX2_closeUpTo_46 : decode cX2_closeUpTo 46 = .ok (.putfield 81, 3) := by decide +kernel
theorem dX2_closeUpTo_49 : decode cX2_closeUpTo 49 = .ok (.aload_n 0, 1) := by decide +kernel
theorem dX2_closeUpTo_50 : decode cX2_closeUpTo 50 = .ok (.getfield 49, 3) := by decide +kernel
theorem dX2_closeUpTo_53 : decode cX2_closeUpTo 53 = .ok (.getfield 201, 3) := by decide +kernel
theorem dX2_closeUpTo_56 : decode cX2_closeUpTo 56 = .ok (.aload_n 0, 1) := by decide +kernel
theorem dX2_closeUpTo_57 : decode cX2_closeUpTo 57 = .ok (.getfield 66, 3) := by decide +kernel
theorem dX2_closeUpTo_60 : decode cX2_closeUpTo 60 = .ok (.getfield 204, 3) := by decide +kernel
theorem dX2_closeUpTo_63 : decode cX2_closeUpTo 63 = .ok (.iload_n 3, 1) := by decide +kernel
theorem dX2_closeUpTo_64 : decode cX2_closeUpTo 64 = .ok (.iaload, 1) := by decide +kernel
theorem dX2_closeUpTo_65 : decode cX2_closeUpTo 65 = .ok (.baload, 1) := by decide +kernel
theorem dX2_closeUpTo_66 : decode cX2_closeUpTo 66 = .ok (.ifCond .ne 8, 3) := by decide +kernel
theorem dX2_closeUpTo_69 : decode cX2_closeUpTo 69 = .ok (.aload_n 0, 1) := by decide +kernel
theorem dX2_closeUpTo_70 : decode cX2_closeUpTo 70 = .ok (.iconst 3, 1) := by decide +kernel
theorem dX2_closeUpTo_71 : decode cX2_closeUpTo 71 = .ok (.invokevirtual 142, 3) := by decide +kernel
theorem dX2_closeUpTo_74 : decode cX2_closeUpTo 74 = .ok (.aload_n 0, 1) := by decide +kernel
theorem dX2_closeUpTo_75 : decode cX2_closeUpTo 75 = .ok (.getfield 66, 3) := by decide +kernel
theorem dX2_closeUpTo_78 : decode cX2_closeUpTo 78 = .ok (.invokevirtual 189, 3) := by decide +kernel
theorem dX2_closeUpTo_81 : decode cX2_closeUpTo 81 = .ok (.iinc 3 (-1), 3) := by decide +kernel
theorem dX2_closeUpTo_84 : decode cX2_closeUpTo 84 = .ok (.goto (-74), 3) := by decide +kernel
theorem dX2_closeUpTo_87 : decode cX2_closeUpTo 87 = .ok (.return_, 1) := by decide +kernel
theorem dX2_addError_0 : decode cX2_addError 0 = .ok (.aload_n 0, 1) := by decide +kernel
theorem dX2_addError_1 : decode cX2_addError 1 = .ok (.getfield 78, 3) := by decide +kernel
theorem dX2_addError_4 : decode cX2_addError 4 = .ok (.sipush 4920, 3) := by decide +kernel
theorem dX2_addError_7 : decode cX2_addError 7 = .ok (.if_icmp .ge 36, 3) := by decide +kernel
theorem dX2_addError_10 : decode cX2_addError 10 = .ok (.aload_n 0, 1) := by decide +kernel
theorem dX2_addError_11 : decode cX2_addError 11 = .ok (.getfield 27, 3) := by decide +kernel
theorem dX2_addError_14 : decode cX2_addError 14 = .ok (.aload_n 0, 1) := by decide +kernel
theorem dX2_addError_15 : decode cX2_addError 15 = .ok (.getfield 78, 3) := by decide +kernel
theorem dX2_addError_18 : decode cX2_addError 18 = .ok (.iload_n 1, 1) := by decide +kernel
theorem dX2_addError_19 : decode cX2_addError 19 = .ok (.iastore, 1) := by decide +kernel
theorem dX2_addError_20 : decode cX2_addError 20 = .ok (.aload_n 0, 1) := by decide +kernel
theorem dX2_addError_21 : decode cX2_addError 21 = .ok (.getfield 31, 3) := by decide +kernel
theorem dX2_addError_24 : decode cX2_addError 24 = .ok (.aload_n 0, 1) := by decide +kernel
theorem dX2_addError_25 : decode cX2_addError 25 = .ok (.getfield 78, 3) := by decide +kernel
theorem dX2_addError_28 : decode cX2_addError 28 = .ok (.aload_n 0, 1) := by decide +kernel
theorem dX2_addError_29 : decode cX2_addError 29 = .ok (.getfield 123, 3) := by decide +kernel
theorem dX2_addError_32 : decode cX2_addError 32 = .ok (.iastore, 1) := by decide +kernel
theorem dX2_addError_33 : decode cX2_addError 33 = .ok (.aload_n 0, 1) := by decide +kernel
theorem dX2_addError_34 : decode cX2_addError 34 = .ok (.dup, 1) := by decide +kernel
theorem dX2_addError_35 : decode cX2_addError 35 = .ok (.getfield 78, 3) := by decide +kernel
theorem dX2_addError_38 : decode cX2_addError 38 = .ok (.iconst 1, 1) := by decide +kernel
theorem dX2_addError_39 : decode cX2_addError 39 = .ok (.iadd, 1) := by decide +kernel
theorem dX2_addError_40 : decode cX2_addError 40 = .ok (.putfield 78, 3) := by decide +kernel
theorem dX2_addError_43 : decode cX2_addError 43 = .ok (.return_, 1) := by decide +kernel
theorem dX2_writeNormalForm_0 : decode cX2_writeNormalForm 0 = .ok (.aload_n 0, 1) := by decide +kernel
theorem dX2_writeNormalForm_1 : decode cX2_writeNormalForm 1 = .ok (.getfield 23, 3) := by decide +kernel
theorem dX2_writeNormalForm_4 : decode cX2_writeNormalForm 4 = .ok (.iconst 0, 1) := by decide +kernel
theorem dX2_writeNormalForm_5 : decode cX2_writeNormalForm 5 = .ok (.putfield 70, 3) := by decide +kernel
theorem dX2_writeNormalForm_8 : decode cX2_writeNormalForm 8 = .ok (.iconst 0, 1) := by decide +kernel
theorem dX2_writeNormalForm_9 : decode cX2_writeNormalForm 9 = .ok (.istore_n 1, 1) := by decide +kernel
theorem dX2_writeNormalForm_10 : decode cX2_writeNormalForm 10 = .ok (.iconst 0, 1) := by decide +kernel
theorem dX2_writeNormalForm_11 : decode cX2_writeNormalForm 11 = .ok (.istore_n 2, 1) := by decide +kernel
theorem dX2_writeNormalForm_12 : decode cX2_writeNormalForm 12 = .ok (.iload_n 2, 1) := by decide +kernel
theorem dX2_writeNormalForm_13 : decode cX2_writeNormalForm 13 = .ok (.aload_n 0, 1) := by decide +kernel
theorem dX2_writeNormalForm_14 : decode cX2_writeNormalForm 14 = .ok (.getfield 12, 3) := by decide +kernel
theorem dX2_writeNormalForm_17 : decode cX2_writeNormalForm 17 = .ok (.getfield 77, 3) := by decide +kernel
theorem dX2_writeNormalForm_20 : decode cX2_writeNormalForm 20 = .ok (.if_icmp .ge 114, 3) := by decide +kernel
theorem dX2_writeNormalForm_23 : decode cX2_writeNormalForm 23 = .ok (.aload_n 0, 1) := by decide +kernel
theorem dX2_writeNormalForm_24 : decode cX2_writeNormalForm 24 = .ok (.iload_n 1, 1) := by decide +kernel
theorem dX2_writeNormalForm_25 : decode cX2_writeNormalForm 25 = .ok (.aload_n 0, 1) := by decide +kernel
theorem dX2_writeNormalForm_26 : decode cX2_writeNormalForm 26 = .ok (.getfield 12, 3) := by decide +kernel
theorem dX2_writeNormalForm_29 : decode cX2_writeNormalForm 29 = .ok (.getfield 207, 3) := by decide +kernel
theorem dX2_writeNormalForm_32 : decode cX2_writeNormalForm 32 = .ok (.iload_n 2, 1) := by decide +kernel
theorem dX2_writeNormalForm_33 : decode cX2_writeNormalForm 33 = .ok (.iaload, 1) := by decide +kernel
theorem dX2_writeNormalForm_34 : decode cX2_writeNormalForm 34 = .ok (.invokevirtual 210, 3) := by decide +kernel
theorem dX2_writeNormalForm_37 : decode cX2_writeNormalForm 37 = .ok (.istore_n 1, 1) := by decide +kernel
theorem dX2_writeNormalForm_38 : decode cX2_writeNormalForm 38 = .ok (.aload_n 0, 1) := by decide +kernel
theorem dX2_writeNormalForm_39 : decode cX2_writeNormalForm 39 = .ok (.getfield 12, 3) := by decide +kernel
theorem dX2_writeNormalForm_42 : decode cX2_writeNormalForm 42 = .ok (.getfield 214, 3) := by decide +kernel
theorem dX2_writeNormalForm_45 : decode cX2_writeNormalForm 45 = .ok (.iload_n 2, 1) := by decide +kernel
theorem dX2_writeNormalForm_46 : decode cX2_writeNormalForm 46 = .ok (.iaload, 1) := by decide +kernel
theorem dX2_writeNormalForm_47 : decode cX2_writeNormalForm 47 = .ok (.istore_n 3, 1) := by decide +kernel
theorem dX2_writeNormalForm_48 : decode cX2_writeNormalForm 48 = .ok (.iload_n 3, 1) := by decide +kernel
theorem dX2_writeNormalForm_49 : decode cX2_writeNormalForm 49 = .ok (.bipush 10, 2) := by decide +kernel
theorem dX2_writeNormalForm_51 : decode cX2_writeNormalForm 51 = .ok (.if_icmp .ne 30, 3) := by decide +kernel
theorem dX2_writeNormalForm_54 : decode cX2_writeNormalForm 54 = .ok (.aload_n 0, 1) := by decide +kernel
theorem dX2_writeNormalForm_55 : decode cX2_writeNormalForm 55 = .ok (.getfield 23, 3) := by decide +kernel
theorem dX2_writeNormalForm_58 : decode cX2_writeNormalForm 58 = .ok (.aload_n 0, 1) := by decide +kernel
theorem dX2_writeNormalForm_59 : decode cX2_writeNormalForm 59 = .ok (.getfield 23, 3) := by decide +kernel
theorem dX2_writeNormalForm_62 : decode cX2_writeNormalForm 62 = .ok (.getfield 70, 3) := by decide +kernel
theorem dX2_writeNormalForm_65 : decode cX2_writeNormalForm 65 = .ok (.iconst 4, 1) := by decide +kernel
theorem dX2_writeNormalForm_66 : decode cX2_writeNormalForm 66 = .ok (.aload_n 0, 1) := by decide +kernel
theorem dX2_writeNormalForm_67 : decode cX2_writeNormalForm 67 = .ok (.getfield 12, 3) := by decide +kernel
theorem dX2_writeNormalForm_70 : decode cX2_writeNormalForm 70 = .ok (.getfield 217, 3) := by decide +kernel
theorem dX2_writeNormalForm_73 : decode cX2_writeNormalForm 73 = .ok (.iload_n 2, 1) := by decide +kernel
theorem dX2_writeNormalForm_74 : decode cX2_writeNormalForm 74 = .ok (.caload, 1) := by decide +kernel
theorem dX2_writeNormalForm_75 : decode cX2_writeNormalForm 75 = .ok (.invokevirtual 221, 3) := by decide +kernel
theorem dX2_writeNormalForm_78 : decode cX2_writeNormalForm 78 = .ok (.goto 50, 3) := by decide +kernel
theorem dX2_writeNormalForm_81 : decode cX2_writeNormalForm 81 = .ok (.aload_n 0, 1) := by decide +kernel
theorem dX2_writeNormalForm_82 : decode cX2_writeNormalForm 82 = .ok (.getfield 23, 3) := by decide +kernel
theorem dX2_writeNormalForm_85 : decode cX2_writeNormalForm 85 = .ok (.aload_n 0, 1) := by decide +kernel
theorem dX2_writeNormalForm_86 : decode cX2_writeNormalForm 86 = .ok (.getfield 23, 3) := by decide +kernel
theorem dX2_writeNormalForm_89 : decode cX2_writeNormalForm 89 = .ok (.getfield 70, 3) := by decide +kernel
theorem dX2_writeNormalForm_92 : decode cX2_writeNormalForm 92 = .ok (.iconst 0, 1) := by decide +kernel
theorem dX2_writeNormalForm_93 : decode cX2_writeNormalForm 93 = .ok (.iload_n 3, 1) := by decide +kernel
theorem dX2_writeNormalForm_94 : decode cX2_writeNormalForm 94 = .ok (.invokevirtual 221, 3) := by decide +kernel
theorem dX2_writeNormalForm_97 : decode cX2_writeNormalForm 97 = .ok (.aload_n 0, 1) := by decide +kernel
theorem dX2_writeNormalForm_98 : decode cX2_writeNormalForm 98 = .ok (.getfield 49, 3) := by decide +kernel
theorem dX2_writeNormalForm_101 : decode cX2_writeNormalForm 101 = .ok (.getfield 225, 3) := by decide +kernel
theorem dX2_writeNormalForm_104 : decode cX2_writeNormalForm 104 = .ok (.iload_n 3, 1) := by decide +kernel
theorem dX2_writeNormalForm_105 : decode cX2_writeNormalForm 105 = .ok (.aaload, 1) := by decide +kernel
theorem dX2_writeNormalForm_106 : decode cX2_writeNormalForm 106 = .ok (.getfield 229, 3) := by decide +kernel
theorem dX2_writeNormalForm_109 : decode cX2_writeNormalForm 109 = .ok (.ifCond .le 19, 3) := by decide +kernel
theorem dX2_writeNormalForm_112 : decode cX2_writeNormalForm 112 = .ok (.iload_n 1, 1) := by decide +kernel
theorem dX2_writeNormalForm_113 : decode cX2_writeNormalForm 113 = .ok (.bipush 20, 2) := by decide +kernel
theorem dX2_writeNormalForm_115 : decode cX2_writeNormalForm 115 = .ok (.if_icmp .ge 13, 3) := by decide +kernel
theorem dX2_writeNormalForm_118 : decode cX2_writeNormalForm 118 = .ok (.aload_n 0, 1) := by decide +kernel
theorem dX2_writeNormalForm_119 : decode cX2_writeNormalForm 119 = .ok (.getfield 34, 3) := by decide +kernel
theorem dX2_writeNormalForm_122 : decode cX2_writeNormalForm 122 = .ok (.iload_n 1, 1) := by decide +kernel
theorem dX2_writeNormalForm_123 : decode cX2_writeNormalForm 123 = .ok (.iload_n 2, 1) := by decide +kernel
theorem dX2_writeNormalForm_124 : decode cX2_writeNormalForm 124 = .ok (.iastore, 1) := by decide +kernel
theorem dX2_writeNormalForm_125 : decode cX2_writeNormalForm 125 = .ok (.iinc 1 1, 3) := by decide +kernel
theorem dX2_writeNormalForm_128 : decode cX2_writeNormalForm 128 = .ok (.iinc 2 1, 3) := by decide +kernel
theorem dX2_writeNormalForm_131 : decode cX2_writeNormalForm 131 = .ok (.goto (-119), 3) := by decide +kernel
theorem dX2_writeNormalForm_134 : decode cX2_writeNormalForm 134 = .ok (.aload_n 0, 1) := by decide +kernel
theorem dX2_writeNormalForm_135 : decode cX2_writeNormalForm 135 = .ok (.iload_n 1, 1) := by decide +kernel
theorem dX2_writeNormalForm_136 : decode cX2_writeNormalForm 136 = .ok (.iconst (-1), 1) := by decide +kernel
theorem dX2_writeNormalForm_137 : decode cX2_writeNormalForm 137 = .ok (.invokevirtual 210, 3) := by decide +kernel
theorem dX2_writeNormalForm_140 : decode cX2_writeNormalForm 140 = .ok (.pop, 1) := by decide +kernel
theorem dX2_writeNormalForm_141 : decode cX2_writeNormalForm 141 = .ok (.return_, 1) := by decide +kernel
theorem dX2_writeEnds_0 : decode cX2_writeEnds 0 = .ok (.iload_n 1, 1) := by decide +kernel
theorem dX2_writeEnds_1 : decode cX2_writeEnds 1 = .ok (.iconst 1, 1) := by decide +kernel
theorem dX2_writeEnds_2 : decode cX2_writeEnds 2 = .ok (.isub, 1) := by decide +kernel
theorem dX2_writeEnds_3 : decode cX2_writeEnds 3 = .ok (.istore_n 3, 1) := by decide +kernel
theorem dX2_writeEnds_4 : decode cX2_writeEnds 4 = .ok (.iload_n 3, 1) := by decide +kernel
theorem dX2_writeEnds_5 : decode cX2_writeEnds 5 = .ok (.ifCond .lt 52, 3) := by decide +kernel
theorem dX2_writeEnds_8 : decode cX2_writeEnds 8 = .ok (.aload_n 0, 1) := by decide +kernel
theorem dX2_writeEnds_9 : decode cX2_writeEnds 9 = .ok (.getfield 34, 3) := by decide +kernel
theorem dX2_writeEnds_12 : decode cX2_writeEnds 12 = .ok (.iload_n 3, 1) := by decide +kernel
theorem dX2_writeEnds_13 : decode cX2_writeEnds 13 = .ok (.iaload, 1) := by decide +kernel
theorem dX2_writeEnds_14 : decode cX2_writeEnds 14 = .ok (.iload_n 2, 1) := by decide +kernel
theorem dX2_writeEnds_15 : decode cX2_writeEnds 15 = .ok (.if_icmp .ne 7, 3) := by decide +kernel
theorem dX2_writeEnds_18 : decode cX2_writeEnds 18 = .ok (.iload_n 3, 1) := by decide +kernel
theorem dX2_writeEnds_19 : decode cX2_writeEnds 19 = .ok (.iconst 1, 1) := by decide +kernel
theorem dX2_writeEnds_20 : decode cX2_writeEnds 20 = .ok (.iadd, 1) := by decide +kernel
theorem dX2_writeEnds_21 : decode cX2_writeEnds 21 = .ok (.ireturn, 1) := by decide +kernel
theorem dX2_writeEnds_22 : decode cX2_writeEnds 22 = .ok (.aload_n 0, 1) := by decide +kernel
theorem dX2_writeEnds_23 : decode cX2_writeEnds 23 = .ok (.getfield 23, 3) := by decide +kernel
theorem dX2_writeEnds_26 : decode cX2_writeEnds 26 = .ok (.aload_n 0, 1) := by decide +kernel
theorem dX2_writeEnds_27 : decode cX2_writeEnds 27 = .ok (.getfield 23, 3) := by decide +kernel
theorem dX2_writeEnds_30 : decode cX2_writeEnds 30 = .ok (.getfield 70, 3) := by decide +kernel
theorem dX2_writeEnds_33 : decode cX2_writeEnds 33 = .ok (.iconst 1, 1) := by decide +kernel
theorem dX2_writeEnds_34 : decode cX2_writeEnds 34 = .ok (.aload_n 0, 1) := by decide +kernel
theorem dX2_writeEnds_35 : decode cX2_writeEnds 35 = .ok (.getfield 12, 3) := by decide +kernel
theorem dX2_writeEnds_38 : decode cX2_writeEnds 38 = .ok (.getfield 214, 3) := by decide +kernel
theorem dX2_writeEnds_41 : decode cX2_writeEnds 41 = .ok (.aload_n 0, 1) := by decide +kernel
theorem dX2_writeEnds_42 : decode cX2_writeEnds 42 = .ok (.getfield 34, 3) := by decide +kernel
theorem dX2_writeEnds_45 : decode cX2_writeEnds 45 = .ok (.iload_n 3, 1) := by decide +kernel
theorem dX2_writeEnds_46 : decode cX2_writeEnds 46 = .ok (.iaload, 1) := by decide +kernel
theorem dX2_writeEnds_47 : decode cX2_writeEnds 47 = .ok (.iaload, 1) := by decide +kernel
theorem dX2_writeEnds_48 : decode cX2_writeEnds 48 = .ok (.invokevirtual 221, 3) := by decide +kernel
theorem dX2_writeEnds_51 : decode cX2_writeEnds 51 = .ok (.iinc 3 (-1), 3) := by decide +kernel
theorem dX2_writeEnds_54 : decode cX2_writeEnds 54 = .ok (.goto (-50), 3) := by decide +kernel
theorem dX2_writeEnds_57 : decode cX2_writeEnds 57 = .ok (.iconst 0, 1) := by decide +kernel
theorem dX2_writeEnds_58 : decode cX2_writeEnds 58 = .ok (.ireturn, 1) := by decide +kernel
theorem dX2_isNormalFormReadAsWritten_0 : decode cX2_isNormalFormReadAsWritten 0 = .ok (.aload_n 0, 1) := by decide +kernel
theorem dX2_isNormalFormReadAsWritten_1 : decode cX2_isNormalFormReadAsWritten 1 = .ok (.getfield 66, 3) := by decide +kernel
theorem dX2_isNormalFormReadAsWritten_4 : decode cX2_isNormalFormReadAsWritten 4 = .ok (.invokevirtual 84, 3) := by decide +kernel
theorem dX2_isNormalFormReadAsWritten_7 : decode cX2_isNormalFormReadAsWritten 7 = .ok (.iconst 0, 1) := by decide +kernel
theorem dX2_isNormalFormReadAsWritten_8 : decode cX2_isNormalFormReadAsWritten 8 = .ok (.istore_n 1, 1) := by decide +kernel
theorem dX2_isNormalFormReadAsWritten_9 : decode cX2_isNormalFormReadAsWritten 9 = .ok (.iload_n 1, 1) := by decide +kernel
theorem dX2_isNormalFormReadAsWritten_10 : decode cX2_isNormalFormReadAsWritten 10 = .ok (.aload_n 0, 1) := by decide +kernel
theorem dX2_isNormalFormReadAsWritten_11 : decode cX2_isNormalFormReadAsWritten 11 = .ok (.getfield 23, 3) := by decide +kernel
theorem dX2_isNormalFormReadAsWritten_14 : decode cX2_isNormalFormReadAsWritten 14 = .ok (.getfield 70, 3) := by decide +kernel
theorem dX2_isNormalFormReadAsWritten_17 : decode cX2_isNormalFormReadAsWritten 17 = .ok (.if_icmp .ge 39, 3) := by decide +kernel
theorem dX2_isNormalFormReadAsWritten_20 : decode cX2_isNormalFormReadAsWritten 20 = .ok (.aload_n 0, 1) := by decide +kernel
theorem dX2_isNormalFormReadAsWritten_21 : decode cX2_isNormalFormReadAsWritten 21 = .ok (.getfield 66, 3) := by decide +kernel
theorem dX2_isNormalFormReadAsWritten_24 : decode cX2_isNormalFormReadAsWritten 24 = .ok (.aload_n 0, 1) := by decide +kernel
theorem dX2_isNormalFormReadAsWritten_25 : decode cX2_isNormalFormReadAsWritten 25 = .ok (.getfield 23, 3) := by decide +kernel
theorem dX2_isNormalFormReadAsWritten_28 : decode cX2_isNormalFormReadAsWritten 28 = .ok (.getfield 117, 3) := by decide +kernel
theorem dX2_isNormalFormReadAsWritten_31 : decode cX2_isNormalFormReadAsWritten 31 = .ok (.iload_n 1, 1) := by decide +kernel
theorem dX2_isNormalFormReadAsWritten_32 : decode cX2_isNormalFormReadAsWritten 32 = .ok (.iaload, 1) := by decide +kernel
theorem dX2_isNormalFormReadAsWritten_33 : decode cX2_isNormalFormReadAsWritten 33 = .ok (.aload_n 0, 1) := by decide +kernel
theorem dX2_isNormalFormReadAsWritten_34 : decode cX2_isNormalFormReadAsWritten 34 = .ok (.getfield 23, 3) := by decide +kernel
theorem dX2_isNormalFormReadAsWritten_37 : decode cX2_isNormalFormReadAsWritten 37 = .ok (.getfield 120, 3) := by decide +kernel
theorem dX2_isNormalFormReadAsWritten_40 : decode cX2_isNormalFormReadAsWritten 40 = .ok (.iload_n 1, 1) := by decide +kernel
theorem dX2_isNormalFormReadAsWritten_41 : decode cX2_isNormalFormReadAsWritten 41 = .ok (.iaload, 1) := by decide +kernel
theorem dX2_isNormalFormReadAsWritten_42 : decode cX2_isNormalFormReadAsWritten 42 = .ok (.invokevirtual 234, 3) := by decide +kernel
theorem dX2_isNormalFormReadAsWritten_45 : decode cX2_isNormalFormReadAsWritten 45 = .ok (.ifCond .ne 5, 3) := by decide +kernel
theorem dX2_isNormalFormReadAsWritten_48 : decode cX2_isNormalFormReadAsWritten 48 = .ok (.iconst 0, 1) := by decide +kernel
theorem dX2_isNormalFormReadAsWritten_49 : decode cX2_isNormalFormReadAsWritten 49 = .ok (.ireturn, 1) := by decide +kernel
theorem dX2_isNormalFormReadAsWritten_50 : decode cX2_isNormalFormReadAsWritten 50 = .ok (.iinc 1 1, 3) := by decide +kernel
theorem dX2_isNormalFormReadAsWritten_53 : decode cX2_isNormalFormReadAsWritten 53 = .ok (.goto (-44), 3) := by decide +kernel
theorem dX2_isNormalFormReadAsWritten_56 : decode cX2_isNormalFormReadAsWritten 56 = .ok (.aload_n 0, 1) := by decide +kernel
theorem dX2_isNormalFormReadAsWritten_57 : decode cX2_isNormalFormReadAsWritten 57 = .ok (.getfield 66, 3) := by decide +kernel
theorem dX2_isNormalFormReadAsWritten_60 : decode cX2_isNormalFormReadAsWritten 60 = .ok (.getfield 165, 3) := by decide +kernel
theorem dX2_isNormalFormReadAsWritten_63 : decode cX2_isNormalFormReadAsWritten 63 = .ok (.ifCond .ne 7, 3) := by decide +kernel
theorem dX2_isNormalFormReadAsWritten_66 : decode cX2_isNormalFormReadAsWritten 66 = .ok (.iconst 1, 1) := by decide +kernel
theorem dX2_isNormalFormReadAsWritten_67 : decode cX2_isNormalFormReadAsWritten 67 = .ok (.goto 4, 3) := by decide +kernel
theorem dX2_isNormalFormReadAsWritten_70 : decode cX2_isNormalFormReadAsWritten 70 = .ok (.iconst 0, 1) := by decide +kernel
theorem dX2_isNormalFormReadAsWritten_71 : decode cX2_isNormalFormReadAsWritten 71 = .ok (.ireturn, 1) := by decide +kernel
theorem dX3_init_0 : decode cX3_init 0 = .ok (.aload_n 0, 1) := by decide +kernel
theorem dX3_init_1 : decode cX3_init 1 = .ok (.invokespecial 3, 3) := by decide +kernel
theorem dX3_init_4 : decode cX3_init 4 = .ok (.aload_n 0, 1) := by decide +kernel
theorem dX3_init_5 : decode cX3_init 5 = .ok (.iload_n 1, 1) := by decide +kernel
theorem dX3_init_6 : decode cX3_init 6 = .ok (.newarray .int, 2) := by decide +kernel
theorem dX3_init_8 : decode cX3_init 8 = .ok (.putfield 9, 3) := by decide +kernel
theorem dX3_init_11 : decode cX3_init 11 = .ok (.aload_n 0, 1) := by decide +kernel
theorem dX3_init_12 : decode cX3_init 12 = .ok (.iload_n 1, 1) := by decide +kernel
theorem dX3_init_13 : decode cX3_init 13 = .ok (.newarray .int, 2) := by decide +kernel
theorem dX3_init_15 : decode cX3_init 15 = .ok (.putfield 15, 3) := by decide +kernel
theorem dX3_init_18 : decode cX3_init 18 = .ok (.return_, 1) := by decide +kernel
theorem dX3_sortAt_0 : decode cX3_sortAt 0 = .ok (.iload_n 1, 1) := by decide +kernel
theorem dX3_sortAt_1 : decode cX3_sortAt 1 = .ok (.ifCond .lt 20, 3) := by decide +kernel
theorem dX3_sortAt_4 : decode cX3_sortAt 4 = .ok (.iload_n 1, 1) := by decide +kernel
theorem dX3_sortAt_5 : decode cX3_sortAt 5 = .ok (.aload_n 0, 1) := by decide +kernel
theorem dX3_sortAt_6 : decode cX3_sortAt 6 = .ok (.getfield 18, 3) := by decide +kernel
theorem dX3_sortAt_9 : decode cX3_sortAt 9 = .ok (.if_icmp .ge 12, 3) := by decide +kernel
theorem dX3_sortAt_12 : decode cX3_sortAt 12 = .ok (.aload_n 0, 1) := by decide +kernel
theorem dX3_sortAt_13 : decode cX3_sortAt 13 = .ok (.getfield 9, 3) := by decide +kernel
theorem dX3_sortAt_16 : decode cX3_sortAt 16 = .ok (.iload_n 1, 1) := by decide +kernel
theorem dX3_sortAt_17 : decode cX3_sortAt 17 = .ok (.iaload, 1) := by decide +kernel
theorem dX3_sortAt_18 : decode cX3_sortAt 18 = .ok (.goto 4, 3) := by decide +kernel
theorem dX3_sortAt_21 : decode cX3_sortAt 21 = .ok (.iconst (-1), 1) := by decide +kernel
theorem dX3_sortAt_22 : decode cX3_sortAt 22 = .ok (.ireturn, 1) := by decide +kernel
theorem dX3_putToken_0 : decode cX3_putToken 0 = .ok (.iload_n 1, 1) := by decide +kernel
theorem dX3_putToken_1 : decode cX3_putToken 1 = .ok (.ifCond .lt 23, 3) := by decide +kernel
theorem dX3_putToken_4 : decode cX3_putToken 4 = .ok (.iload_n 1, 1) := by decide +kernel
theorem dX3_putToken_5 : decode cX3_putToken 5 = .ok (.aload_n 0, 1) := by decide +kernel
theorem dX3_putToken_6 : decode cX3_putToken 6 = .ok (.getfield 18, 3) := by decide +kernel
theorem dX3_putToken_9 : decode cX3_putToken 9 = .ok (.if_icmp .gt 15, 3) := by decide +kernel
theorem dX3_putToken_12 : decode cX3_putToken 12 = .ok (.aload_n 0, 1) := by decide +kernel
theorem dX3_putToken_13 : decode cX3_putToken 13 = .ok (.getfield 18, 3) := by decide +kernel
theorem dX3_putToken_16 : decode cX3_putToken 16 = .ok (.aload_n 0, 1) := by decide +kernel
theorem dX3_putToken_17 : decode cX3_putToken 17 = .ok (.getfield 9, 3) := by decide +kernel
theorem dX3_putToken_20 : decode cX3_putToken 20 = .ok (.arraylength, 1) := by decide +kernel
theorem dX3_putToken_21 : decode cX3_putToken 21 = .ok (.if_icmp .lt 4, 3) := by decide +kernel
theorem dX3_putToken_24 : decode cX3_putToken 24 = .ok (.return_, 1) := by decide +kernel
theorem dX3_putToken_25 : decode cX3_putToken 25 = .ok (.aload_n 0, 1) := by decide +kernel
theorem dX3_putToken_26 : decode cX3_putToken 26 = .ok (.getfield 18, 3) := by decide +kernel
theorem dX3_putToken_29 : decode cX3_putToken 29 = .ok (.istore 4, 2) := by decide +kernel
theorem dX3_putToken_31 : decode cX3_putToken 31 = .ok (.iload 4, 2) := by decide +kernel
theorem dX3_putToken_33 : decode cX3_putToken 33 = .ok (.iload_n 1, 1) := by decide +kernel
theorem dX3_putToken_34 : decode cX3_putToken 34 = .ok (.if_icmp .le 41, 3) := by decide +kernel
theorem dX3_putToken_37 : decode cX3_putToken 37 = .ok (.aload_n 0, 1) := by decide +kernel
theorem dX3_putToken_38 : decode cX3_putToken 38 = .ok (.getfield 9, 3) := by decide +kernel
theorem dX3_putToken_41 : decode cX3_putToken 41 = .ok (.iload 4, 2) := by decide +kernel
theorem dX3_putToken_43 : decode cX3_putToken 43 = .ok (.aload_n 0, 1) := by decide +kernel
theorem dX3_putToken_44 : decode cX3_putToken 44 = .ok (.getfield 9, 3) := by decide +kernel
theorem dX3_putToken_47 : decode cX3_putToken 47 = .ok (.iload 4, 2) := by decide +kernel
theorem dX3_putToken_49 : decode cX3_putToken 49 = .ok (.iconst 1, 1) := by decide +kernel
theorem dX3_putToken_50 : decode cX3_putToken 50 = .ok (.isub, 1) := by decide +kernel
theorem dX3_putToken_51 : decode cX3_putToken 51 = .ok (.iaload, 1) := by decide +kernel
theorem dX3_putToken_52 : decode cX3_putToken 52 = .ok (.iastore, 1) := by decide +kernel
theorem dX3_putToken_53 : decode cX3_putToken 53 = .ok (.aload_n 0, 1) := by decide +kernel
theorem dX3_putToken_54 : decode cX3_putToken 54 = .ok (.getfield 15, 3) := by decide +kernel
theorem dX3_putToken_57 : decode cX3_putToken 57 = .ok (.iload 4, 2) := by decide +kernel
theorem dX3_putToken_59 : decode cX3_putToken 59 = .ok (.aload_n 0, 1) := by decide +kernel
theorem dX3_putToken_60 : decode cX3_putToken 60 = .ok (.getfield 15, 3) := by decide +kernel
theorem dX3_putToken_63 : decode cX3_putToken 63 = .ok (.iload 4, 2) := by decide +kernel
theorem dX3_putToken_65 : decode cX3_putToken 65 = .ok (.iconst 1, 1) := by decide +kernel
theorem dX3_putToken_66 : decode cX3_putToken 66 = .ok (.isub, 1) := by decide +kernel
theorem dX3_putToken_67 : decode cX3_putToken 67 = .ok (.iaload, 1) := by decide +kernel
theorem dX3_putToken_68 : decode cX3_putToken 68 = .ok (.iastore, 1) := by decide +kernel
theorem dX3_putToken_69 : decode cX3_putToken 69 = .ok (.iinc 4 (-1), 3) := by decide +kernel
theorem dX3_putToken_72 : decode cX3_putToken 72 = .ok (.goto (-41), 3) := by decide +kernel
theorem dX3_putToken_75 : decode cX3_putToken 75 = .ok (.aload_n 0, 1) := by decide +kernel
theorem dX3_putToken_76 : decode cX3_putToken 76 = .ok (.getfield 9, 3) := by decide +kernel
theorem dX3_putToken_79 : decode cX3_putToken 79 = .ok (.iload_n 1, 1) := by decide +kernel
theorem dX3_putToken_80 : decode cX3_putToken 80 = .ok (.iload_n 2, 1) := by decide +kernel
theorem dX3_putToken_81 : decode cX3_putToken 81 = .ok (.iastore, 1) := by decide +kernel
theorem dX3_putToken_82 : decode cX3_putToken 82 = .ok (.aload_n 0, 1) := by decide +kernel
theorem dX3_putToken_83 : decode cX3_putToken 83 = .ok (.getfield 15, 3) := by decide +kernel
theorem dX3_putToken_86 : decode cX3_putToken 86 = .ok (.iload_n 1, 1) := by decide +kernel
theorem dX3_putToken_87 : decode cX3_putToken 87 = .ok (.iload_n 3, 1) := by decide +kernel
theorem dX3_putToken_88 : decode cX3_putToken 88 = .ok (.iastore, 1) := by decide +kernel
theorem dX3_putToken_89 : decode cX3_putToken 89 = .ok (.aload_n 0, 1) := by decide +kernel
theorem dX3_putToken_90 : decode cX3_putToken 90 = .ok (.dup, 1) := by decide +kernel
theorem dX3_putToken_91 : decode cX3_putToken 91 = .ok (.getfield 18, 3) := by decide +kernel
theorem dX3_putToken_94 : decode cX3_putToken 94 = .ok (.iconst 1, 1) := by decide +kernel
theorem dX3_putToken_95 : decode cX3_putToken 95 = .ok (.iadd, 1) := by decide +kernel
theorem dX3_putToken_96 : decode cX3_putToken 96 = .ok (.putfield 18, 3) := by decide +kernel
theorem dX3_putToken_99 : decode cX3_putToken 99 = .ok (.return_, 1) := by decide +kernel
theorem dX3_dropToken_0 : decode cX3_dropToken 0 = .ok (.iload_n 1, 1) := by decide +kernel
theorem dX3_dropToken_1 : decode cX3_dropToken 1 = .ok (.ifCond .lt 11, 3) := by decide +kernel
theorem dX3_dropToken_4 : decode cX3_dropToken 4 = .ok (.iload_n 1, 1) := by decide +kernel
theorem dX3_dropToken_5 : decode cX3_dropToken 5 = .ok (.aload_n 0, 1) := by decide +kernel
theorem dX3_dropToken_6 : decode cX3_dropToken 6 = .ok (.getfield 18, 3) := by decide +kernel
theorem dX3_dropToken_9 : decode cX3_dropToken 9 = .ok (.if_icmp .lt 4, 3) := by decide +kernel
theorem dX3_dropToken_12 : decode cX3_dropToken 12 = .ok (.return_, 1) := by decide +kernel
theorem dX3_dropToken_13 : decode cX3_dropToken 13 = .ok (.aload_n 0, 1) := by decide +kernel
theorem dX3_dropToken_14 : decode cX3_dropToken 14 = .ok (.dup, 1) := by decide +kernel
theorem dX3_dropToken_15 : decode cX3_dropToken 15 = .ok (.getfield 18, 3) := by decide +kernel
theorem dX3_dropToken_18 : decode cX3_dropToken 18 = .ok (.iconst 1, 1) := by decide +kernel
theorem dX3_dropToken_19 : decode cX3_dropToken 19 = .ok (.isub, 1) := by decide +kernel
theorem dX3_dropToken_20 : decode cX3_dropToken 20 = .ok (.putfield 18, 3) := by decide +kernel
theorem dX3_dropToken_23 : decode cX3_dropToken 23 = .ok (.iload_n 1, 1) := by decide +kernel
theorem dX3_dropToken_24 : decode cX3_dropToken 24 = .ok (.istore_n 2, 1) := by decide +kernel
theorem dX3_dropToken_25 : decode cX3_dropToken 25 = .ok (.iload_n 2, 1) := by decide +kernel
theorem dX3_dropToken_26 : decode cX3_dropToken 26 = .ok (.aload_n 0, 1) := by decide +kernel
theorem dX3_dropToken_27 : decode cX3_dropToken 27 = .ok (.getfield 18, 3) := by decide +kernel
theorem dX3_dropToken_30 : decode cX3_dropToken 30 = .ok (.if_icmp .ge 37, 3) := by decide +kernel
theorem dX3_dropToken_33 : decode cX3_dropToken 33 = .ok (.aload_n 0, 1) := by decide +kernel
theorem dX3_dropToken_34 : decode cX3_dropToken 34 = .ok (.getfield 9, 3) := by decide +kernel
theorem dX3_dropToken_37 : decode cX3_dropToken 37 = .ok (.iload_n 2, 1) := by decide +kernel
theorem dX3_dropToken_38 : decode cX3_dropToken 38 = .ok (.aload_n 0, 1) := by decide +kernel
theorem dX3_dropToken_39 : decode cX3_dropToken 39 = .ok (.getfield 9, 3) := by decide +kernel
theorem dX3_dropToken_42 : decode cX3_dropToken 42 = .ok (.iload_n 2, 1) := by decide +kernel
theorem dX3_dropToken_43 : decode cX3_dropToken 43 = .ok (.iconst 1, 1) := by decide +kernel
theorem dX3_dropToken_44 : decode cX3_dropToken 44 = .ok (.iadd, 1) := by decide +kernel
theorem dX3_dropToken_45 : decode cX3_dropToken 45 = .ok (.iaload, 1) := by decide +kernel
theorem dX3_dropToken_46 : decode cX3_dropToken 46 = .ok (.iastore, 1) := by decide +kernel
theorem dX3_dropToken_47 : decode cX3_dropToken 47 = .ok (.aload_n 0, 1) := by decide +kernel
theorem dX3_dropToken_48 : decode cX3_dropToken 48 = .ok (.getfield 15, 3) := by decide +kernel
theorem dX3_dropToken_51 : decode cX3_dropToken 51 = .ok (.iload_n 2, 1) := by decide +kernel
theorem dX3_dropToken_52 : decode cX3_dropToken 52 = .ok (.aload_n 0, 1) := by decide +kernel
theorem dX3_dropToken_53 : decode cX3_dropToken 53 = .ok (.getfield 15, 3) := by decide +kernel
theorem dX3_dropToken_56 : decode cX3_dropToken 56 = .ok (.iload_n 2, 1) := by decide +kernel
theorem dX3_dropToken_57 : decode cX3_dropToken 57 = .ok (.iconst 1, 1) := by decide +kernel
theorem dX3_dropToken_58 : decode cX3_dropToken 58 = .ok (.iadd, 1) := by decide +kernel
theorem dX3_dropToken_59 : decode cX3_dropToken 59 = .ok (.iaload, 1) := by decide +kernel
theorem dX3_dropToken_60 : decode cX3_dropToken 60 = .ok (.iastore, 1) := by decide +kernel
theorem dX3_dropToken_61 : decode cX3_dropToken 61 = .ok (.iinc 2 1, 3) := by decide +kernel
theorem dX3_dropToken_64 : decode cX3_dropToken 64 = .ok (.goto (-39), 3) := by decide +kernel
theorem dX3_dropToken_67 : decode cX3_dropToken 67 = .ok (.return_, 1) := by decide +kernel
theorem dX4_init_0 : decode cX4_init 0 = .ok (.aload_n 0, 1) := by decide +kernel
theorem dX4_init_1 : decode cX4_init 1 = .ok (.invokespecial 3, 3) := by decide +kernel
theorem dX4_init_4 : decode cX4_init 4 = .ok (.aload_n 0, 1) := by decide +kernel
theorem dX4_init_5 : decode cX4_init 5 = .ok (.bipush 20, 2) := by decide +kernel
theorem dX4_init_7 : decode cX4_init 7 = .ok (.newarray .int, 2) := by decide +kernel
theorem dX4_init_9 : decode cX4_init 9 = .ok (.putfield 9, 3) := by decide +kernel
theorem dX4_init_12 : decode cX4_init 12 = .ok (.aload_n 0, 1) := by decide +kernel
theorem dX4_init_13 : decode cX4_init 13 = .ok (.bipush 20, 2) := by decide +kernel
theorem dX4_init_15 : decode cX4_init 15 = .ok (.newarray .int, 2) := by decide +kernel
theorem dX4_init_17 : decode cX4_init 17 = .ok (.putfield 15, 3) := by decide +kernel
theorem dX4_init_20 : decode cX4_init 20 = .ok (.aload_n 0, 1) := by decide +kernel
theorem dX4_init_21 : decode cX4_init 21 = .ok (.iconst (-1), 1) := by decide +kernel
theorem dX4_init_22 : decode cX4_init 22 = .ok (.putfield 18, 3) := by decide +kernel
theorem dX4_init_25 : decode cX4_init 25 = .ok (.aload_n 0, 1) := by decide +kernel
theorem dX4_init_26 : decode cX4_init 26 = .ok (.aload_n 1, 1) := by decide +kernel
theorem dX4_init_27 : decode cX4_init 27 = .ok (.putfield 22, 3) := by decide +kernel
theorem dX4_init_30 : decode cX4_init 30 = .ok (.return_, 1) := by decide +kernel
end
section
theorem dX4_restart_0 : decode cX4_restart 0 = .ok (.aload_n 0, 1) := by decide +kernel
theorem dX4_restart_1 : decode cX4_restart 1 = .ok (.iconst 0, 1) := by decide +kernel
theorem dX4_restart_2 : decode cX4_restart 2 = .ok (.putfield 26, 3) := by decide +kernel
theorem dX4_restart_5 : decode cX4_restart 5 = .ok (.aload_n 0, 1) := by decide +kernel
theorem dX4_restart_6 : decode cX4_restart 6 = .ok (.iconst (-1), 1) := by decide +kernel
theorem dX4_restart_7 : decode cX4_restart 7 = .ok (.putfield 18, 3) := by decide +kernel
theorem dX4_restart_10 : decode cX4_restart 10 = .ok (.aload_n 0, 1) := by decide +kernel
theorem dX4_restart_11 : decode cX4_restart 11 = .ok (.iconst 0, 1) := by decide +kernel
theorem dX4_restart_12 : decode cX4_restart 12 = .ok (.putfield 29, 3) := by decide +kernel
theorem dX4_restart_15 : decode cX4_restart 15 = .ok (.return_, 1) := by decide +kernel
theorem dX4_copyFrom_0 : decode cX4_copyFrom 0 = .ok (.aload_n 0, 1) := by decide +kernel
theorem dX4_copyFrom_1 : decode cX4_copyFrom 1 = .ok (.aload_n 1, 1) := by decide +kernel
theorem dX4_copyFrom_2 : decode cX4_copyFrom 2 = .ok (.getfield 26, 3) := by decide +kernel
theorem dX4_copyFrom_5 : decode cX4_copyFrom 5 = .ok (.putfield 26, 3) := by decide +kernel
theorem dX4_copyFrom_8 : decode cX4_copyFrom 8 = .ok (.aload_n 0, 1) := by decide +kernel
theorem dX4_copyFrom_9 : decode cX4_copyFrom 9 = .ok (.aload_n 1, 1) := by decide +kernel
theorem dX4_copyFrom_10 : decode cX4_copyFrom 10 = .ok (.getfield 18, 3) := by decide +kernel
theorem dX4_copyFrom_13 : decode cX4_copyFrom 13 = .ok (.putfield 18, 3) := by decide +kernel
theorem dX4_copyFrom_16 : decode cX4_copyFrom 16 = .ok (.aload_n 0, 1) := by decide +kernel
theorem dX4_copyFrom_17 : decode cX4_copyFrom 17 = .ok (.aload_n 1, 1) := by decide +kernel
theorem dX4_copyFrom_18 : decode cX4_copyFrom 18 = .ok (.getfield 29, 3) := by decide +kernel
theorem dX4_copyFrom_21 : decode cX4_copyFrom 21 = .ok (.putfield 29, 3) := by decide +kernel
theorem dX4_copyFrom_24 : decode cX4_copyFrom 24 = .ok (.iconst 0, 1) := by decide +kernel
theorem dX4_copyFrom_25 : decode cX4_copyFrom 25 = .ok (.istore_n 2, 1) := by decide +kernel
theorem dX4_copyFrom_26 : decode cX4_copyFrom 26 = .ok (.iload_n 2, 1) := by decide +kernel
theorem dX4_copyFrom_27 : decode cX4_copyFrom 27 = .ok (.aload_n 0, 1) := by decide +kernel
theorem dX4_copyFrom_28 : decode cX4_copyFrom 28 = .ok (.getfield 26, 3) := by decide +kernel
theorem dX4_copyFrom_31 : decode cX4_copyFrom 31 = .ok (.if_icmp .ge 33, 3) := by decide +kernel
theorem dX4_copyFrom_34 : decode cX4_copyFrom 34 = .ok (.aload_n 0, 1) := by decide +kernel
theorem dX4_copyFrom_35 : decode cX4_copyFrom 35 = .ok (.getfield 9, 3) := by decide +kernel
theorem dX4_copyFrom_38 : decode cX4_copyFrom 38 = .ok (.iload_n 2, 1) := by decide +kernel
theorem dX4_copyFrom_39 : decode cX4_copyFrom 39 = .ok (.aload_n 1, 1) := by decide +kernel
theorem dX4_copyFrom_40 : decode cX4_copyFrom 40 = .ok (.getfield 9, 3) := by decide +kernel
theorem dX4_copyFrom_43 : decode cX4_copyFrom 43 = .ok (.iload_n 2, 1) := by decide +kernel
theorem dX4_copyFrom_44 : decode cX4_copyFrom 44 = .ok (.iaload, 1) := by decide +kernel
theorem dX4_copyFrom_45 : decode cX4_copyFrom 45 = .ok (.iastore, 1) := by decide +kernel
theorem dX4_copyFrom_46 : decode cX4_copyFrom 46 = .ok (.aload_n 0, 1) := by decide +kernel
theorem dX4_copyFrom_47 : decode cX4_copyFrom 47 = .ok (.getfield 15, 3) := by decide +kernel
theorem dX4_copyFrom_50 : decode cX4_copyFrom 50 = .ok (.iload_n 2, 1) := by decide +kernel
theorem dX4_copyFrom_51 : decode cX4_copyFrom 51 = .ok (.aload_n 1, 1) := by decide +kernel
theorem dX4_copyFrom_52 : decode cX4_copyFrom 52 = .ok (.getfield 15, 3) := by decide +kernel
theorem dX4_copyFrom_55 : decode cX4_copyFrom 55 = .ok (.iload_n 2, 1) := by decide +kernel
theorem dX4_copyFrom_56 : decode cX4_copyFrom 56 = .ok (.iaload, 1) := by decide +kernel
theorem dX4_copyFrom_57 : decode cX4_copyFrom 57 = .ok (.iastore, 1) := by decide +kernel
theorem dX4_copyFrom_58 : decode cX4_copyFrom 58 = .ok (.iinc 2 1, 3) := by decide +kernel
theorem dX4_copyFrom_61 : decode cX4_copyFrom 61 = .ok (.goto (-35), 3) := by decide +kernel
theorem dX4_copyFrom_64 : decode cX4_copyFrom 64 = .ok (.return_, 1) := by decide +kernel
theorem dX4_isLike_0 : decode cX4_isLike 0 = .ok (.aload_n 0, 1) := by decide +kernel
theorem dX4_isLike_1 : decode cX4_isLike 1 = .ok (.getfield 26, 3) := by decide +kernel
theorem dX4_isLike_4 : decode cX4_isLike 4 = .ok (.aload_n 1, 1) := by decide +kernel
theorem dX4_isLike_5 : decode cX4_isLike 5 = .ok (.getfield 26, 3) := by decide +kernel
theorem dX4_isLike_8 : decode cX4_isLike 8 = .ok (.if_icmp .ne 25, 3) := by decide +kernel
theorem dX4_isLike_11 : decode cX4_isLike 11 = .ok (.aload_n 0, 1) := by decide +kernel
theorem dX4_isLike_12 : decode cX4_isLike 12 = .ok (.getfield 18, 3) := by decide +kernel
theorem dX4_isLike_15 : decode cX4_isLike 15 = .ok (.aload_n 1, 1) := by decide +kernel
theorem dX4_isLike_16 : decode cX4_isLike 16 = .ok (.getfield 18, 3) := by decide +kernel
theorem dX4_isLike_19 : decode cX4_isLike 19 = .ok (.if_icmp .ne 14, 3) := by decide +kernel
theorem dX4_isLike_22 : decode cX4_isLike 22 = .ok (.aload_n 0, 1) := by decide +kernel
theorem dX4_isLike_23 : decode cX4_isLike 23 = .ok (.getfield 29, 3) := by decide +kernel
theorem dX4_isLike_26 : decode cX4_isLike 26 = .ok (.aload_n 1, 1) := by decide +kernel
theorem dX4_isLike_27 : decode cX4_isLike 27 = .ok (.getfield 29, 3) := by decide +kernel
theorem dX4_isLike_30 : decode cX4_isLike 30 = .ok (.if_icmp .eq 5, 3) := by decide +kernel
theorem dX4_isLike_33 : decode cX4_isLike 33 = .ok (.iconst 0, 1) := by decide +kernel
theorem dX4_isLike_34 : decode cX4_isLike 34 = .ok (.ireturn, 1) := by decide +kernel
theorem dX4_isLike_35 : decode cX4_isLike 35 = .ok (.iconst 0, 1) := by decide +kernel
theorem dX4_isLike_36 : decode cX4_isLike 36 = .ok (.istore_n 2, 1) := by decide +kernel
theorem dX4_isLike_37 : decode cX4_isLike 37 = .ok (.iload_n 2, 1) := by decide +kernel
theorem dX4_isLike_38 : decode cX4_isLike 38 = .ok (.aload_n 0, 1) := by decide +kernel
theorem dX4_isLike_39 : decode cX4_isLike 39 = .ok (.getfield 26, 3) := by decide +kernel
theorem dX4_isLike_42 : decode cX4_isLike 42 = .ok (.if_icmp .ge 41, 3) := by decide +kernel
theorem dX4_isLike_45 : decode cX4_isLike 45 = .ok (.aload_n 0, 1) := by decide +kernel
theorem dX4_isLike_46 : decode cX4_isLike 46 = .ok (.getfield 9, 3) := by decide +kernel
theorem dX4_isLike_49 : decode cX4_isLike 49 = .ok (.iload_n 2, 1) := by decide +kernel
theorem dX4_isLike_50 : decode cX4_isLike 50 = .ok (.iaload, 1) := by decide +kernel
theorem dX4_isLike_51 : decode cX4_isLike 51 = .ok (.aload_n 1, 1) := by decide +kernel
theorem dX4_isLike_52 : decode cX4_isLike 52 = .ok (.getfield 9, 3) := by decide +kernel
theorem dX4_isLike_55 : decode cX4_isLike 55 = .ok (.iload_n 2, 1) := by decide +kernel
theorem dX4_isLike_56 : decode cX4_isLike 56 = .ok (.iaload, 1) := by decide +kernel
theorem dX4_isLike_57 : decode cX4_isLike 57 = .ok (.if_icmp .ne 18, 3) := by decide +kernel
theorem dX4_isLike_60 : decode cX4_isLike 60 = .ok (.aload_n 0, 1) := by decide +kernel
theorem dX4_isLike_61 : decode cX4_isLike 61 = .ok (.getfield 15, 3) := by decide +kernel
theorem dX4_isLike_64 : decode cX4_isLike 64 = .ok (.iload_n 2, 1) := by decide +kernel
theorem dX4_isLike_65 : decode cX4_isLike 65 = .ok (.iaload, 1) := by decide +kernel
theorem dX4_isLike_66 : decode cX4_isLike 66 = .ok (.aload_n 1, 1) := by decide +kernel
theorem dX4_isLike_67 : decode cX4_isLike 67 = .ok (.getfield 15, 3) := by decide +kernel
theorem dX4_isLike_70 : decode cX4_isLike 70 = .ok (.iload_n 2, 1) := by decide +kernel
theorem dX4_isLike_71 : decode cX4_isLike 71 = .ok (.iaload, 1) := by decide +kernel
theorem dX4_isLike_72 : decode cX4_isLike 72 = .ok (.if_icmp .eq 5, 3) := by decide +kernel
theorem dX4_isLike_75 : decode cX4_isLike 75 = .ok (.iconst 0, 1) := by decide +kernel
theorem dX4_isLike_76 : decode cX4_isLike 76 = .ok (.ireturn, 1) := by decide +kernel
theorem dX4_isLike_77 : decode cX4_isLike 77 = .ok (.iinc 2 1, 3) := by decide +kernel
theorem dX4_isLike_80 : decode cX4_isLike 80 = .ok (.goto (-43), 3) := by decide +kernel
theorem dX4_isLike_83 : decode cX4_isLike 83 = .ok (.iconst 1, 1) := by decide +kernel
theorem dX4_isLike_84 : decode cX4_isLike 84 = .ok (.ireturn, 1) := by decide +kernel
theorem dX4_currentElement_0 : decode cX4_currentElement 0 = .ok (.aload_n 0, 1) := by decide +kernel
theorem dX4_currentElement_1 : decode cX4_currentElement 1 = .ok (.getfield 26, 3) := by decide +kernel
theorem dX4_currentElement_4 : decode cX4_currentElement 4 = .ok (.ifCond .le 17, 3) := by decide +kernel
theorem dX4_currentElement_7 : decode cX4_currentElement 7 = .ok (.aload_n 0, 1) := by decide +kernel
theorem dX4_currentElement_8 : decode cX4_currentElement 8 = .ok (.getfield 9, 3) := by decide +kernel
theorem dX4_currentElement_11 : decode cX4_currentElement 11 = .ok (.aload_n 0, 1) := by decide +kernel
theorem dX4_currentElement_12 : decode cX4_currentElement 12 = .ok (.getfield 26, 3) := by decide +kernel
theorem dX4_currentElement_15 : decode cX4_currentElement 15 = .ok (.iconst 1, 1) := by decide +kernel
theorem dX4_currentElement_16 : decode cX4_currentElement 16 = .ok (.isub, 1) := by decide +kernel
theorem dX4_currentElement_17 : decode cX4_currentElement 17 = .ok (.iaload, 1) := by decide +kernel
theorem dX4_currentElement_18 : decode cX4_currentElement 18 = .ok (.goto 4, 3) := by decide +kernel
theorem dX4_currentElement_21 : decode cX4_currentElement 21 = .ok (.iconst (-1), 1) := by decide +kernel
theorem dX4_currentElement_22 : decode cX4_currentElement 22 = .ok (.ireturn, 1) := by decide +kernel
theorem dX4_lastOpenOf_0 : decode cX4_lastOpenOf 0 = .ok (.aload_n 0, 1) := by decide +kernel
theorem dX4_lastOpenOf_1 : decode cX4_lastOpenOf 1 = .ok (.getfield 26, 3) := by decide +kernel
theorem dX4_lastOpenOf_4 : decode cX4_lastOpenOf 4 = .ok (.iconst 1, 1) := by decide +kernel
theorem dX4_lastOpenOf_5 : decode cX4_lastOpenOf 5 = .ok (.isub, 1) := by decide +kernel
theorem dX4_lastOpenOf_6 : decode cX4_lastOpenOf 6 = .ok (.istore_n 2, 1) := by decide +kernel
theorem dX4_lastOpenOf_7 : decode cX4_lastOpenOf 7 = .ok (.iload_n 2, 1) := by decide +kernel
theorem dX4_lastOpenOf_8 : decode cX4_lastOpenOf 8 = .ok (.ifCond .lt 21, 3) := by decide +kernel
theorem dX4_lastOpenOf_11 : decode cX4_lastOpenOf 11 = .ok (.aload_n 0, 1) := by decide +kernel
theorem dX4_lastOpenOf_12 : decode cX4_lastOpenOf 12 = .ok (.getfield 9, 3) := by decide +kernel
theorem dX4_lastOpenOf_15 : decode cX4_lastOpenOf 15 = .ok (.iload_n 2, 1) := by decide +kernel
theorem dX4_lastOpenOf_16 : decode cX4_lastOpenOf 16 = .ok (.iaload, 1) := by decide +kernel
theorem dX4_lastOpenOf_17 : decode cX4_lastOpenOf 17 = .ok (.iload_n 1, 1) := by decide +kernel
theorem dX4_lastOpenOf_18 : decode cX4_lastOpenOf 18 = .ok (.if_icmp .ne 5, 3) := by decide +kernel
theorem dX4_lastOpenOf_21 : decode cX4_lastOpenOf 21 = .ok (.iload_n 2, 1) := by decide +kernel
theorem dX4_lastOpenOf_22 : decode cX4_lastOpenOf 22 = .ok (.ireturn, 1) := by decide +kernel
theorem dX4_lastOpenOf_23 : decode cX4_lastOpenOf 23 = .ok (.iinc 2 (-1), 3) := by decide +kernel
theorem dX4_lastOpenOf_26 : decode cX4_lastOpenOf 26 = .ok (.goto (-19), 3) := by decide +kernel
theorem dX4_lastOpenOf_29 : decode cX4_lastOpenOf 29 = .ok (.iconst (-1), 1) := by decide +kernel
theorem dX4_lastOpenOf_30 : decode cX4_lastOpenOf 30 = .ok (.ireturn, 1) := by decide +kernel
theorem dX4_canEnd_0 : decode cX4_canEnd 0 = .ok (.aload_n 0, 1) := by decide +kernel
theorem dX4_canEnd_1 : decode cX4_canEnd 1 = .ok (.getfield 26, 3) := by decide +kernel
theorem dX4_canEnd_4 : decode cX4_canEnd 4 = .ok (.ifCond .le 44, 3) := by decide +kernel
theorem dX4_canEnd_7 : decode cX4_canEnd 7 = .ok (.aload_n 0, 1) := by decide +kernel
theorem dX4_canEnd_8 : decode cX4_canEnd 8 = .ok (.getfield 22, 3) := by decide +kernel
theorem dX4_canEnd_11 : decode cX4_canEnd 11 = .ok (.getfield 32, 3) := by decide +kernel
theorem dX4_canEnd_14 : decode cX4_canEnd 14 = .ok (.aload_n 0, 1) := by decide +kernel
theorem dX4_canEnd_15 : decode cX4_canEnd 15 = .ok (.getfield 9, 3) := by decide +kernel
theorem dX4_canEnd_18 : decode cX4_canEnd 18 = .ok (.aload_n 0, 1) := by decide +kernel
theorem dX4_canEnd_19 : decode cX4_canEnd 19 = .ok (.getfield 26, 3) := by decide +kernel
theorem dX4_canEnd_22 : decode cX4_canEnd 22 = .ok (.iconst 1, 1) := by decide +kernel
theorem dX4_canEnd_23 : decode cX4_canEnd 23 = .ok (.isub, 1) := by decide +kernel
theorem dX4_canEnd_24 : decode cX4_canEnd 24 = .ok (.iaload, 1) := by decide +kernel
theorem dX4_canEnd_25 : decode cX4_canEnd 25 = .ok (.aaload, 1) := by decide +kernel
theorem dX4_canEnd_26 : decode cX4_canEnd 26 = .ok (.getfield 38, 3) := by decide +kernel
theorem dX4_canEnd_29 : decode cX4_canEnd 29 = .ok (.aload_n 0, 1) := by decide +kernel
theorem dX4_canEnd_30 : decode cX4_canEnd 30 = .ok (.getfield 15, 3) := by decide +kernel
theorem dX4_canEnd_33 : decode cX4_canEnd 33 = .ok (.aload_n 0, 1) := by decide +kernel
theorem dX4_canEnd_34 : decode cX4_canEnd 34 = .ok (.getfield 26, 3) := by decide +kernel
theorem dX4_canEnd_37 : decode cX4_canEnd 37 = .ok (.iconst 1, 1) := by decide +kernel
theorem dX4_canEnd_38 : decode cX4_canEnd 38 = .ok (.isub, 1) := by decide +kernel
theorem dX4_canEnd_39 : decode cX4_canEnd 39 = .ok (.iaload, 1) := by decide +kernel
theorem dX4_canEnd_40 : decode cX4_canEnd 40 = .ok (.baload, 1) := by decide +kernel
theorem dX4_canEnd_41 : decode cX4_canEnd 41 = .ok (.ifCond .eq 7, 3) := by decide +kernel
theorem dX4_canEnd_44 : decode cX4_canEnd 44 = .ok (.iconst 1, 1) := by decide +kernel
theorem dX4_canEnd_45 : decode cX4_canEnd 45 = .ok (.goto 4, 3) := by decide +kernel
theorem dX4_canEnd_48 : decode cX4_canEnd 48 = .ok (.iconst 0, 1) := by decide +kernel
theorem dX4_canEnd_49 : decode cX4_canEnd 49 = .ok (.ireturn, 1) := by decide +kernel
theorem dX4_goesOnWith_0 : decode cX4_goesOnWith 0 = .ok (.aload_n 0, 1) := by decide +kernel
theorem dX4_goesOnWith_1 : decode cX4_goesOnWith 1 = .ok (.getfield 26, 3) := by decide +kernel
theorem dX4_goesOnWith_4 : decode cX4_goesOnWith 4 = .ok (.ifCond .le 40, 3) := by decide +kernel
theorem dX4_goesOnWith_7 : decode cX4_goesOnWith 7 = .ok (.aload_n 0, 1) := by decide +kernel
theorem dX4_goesOnWith_8 : decode cX4_goesOnWith 8 = .ok (.getfield 22, 3) := by decide +kernel
theorem dX4_goesOnWith_11 : decode cX4_goesOnWith 11 = .ok (.getfield 32, 3) := by decide +kernel
theorem dX4_goesOnWith_14 : decode cX4_goesOnWith 14 = .ok (.aload_n 0, 1) := by decide +kernel
theorem dX4_goesOnWith_15 : decode cX4_goesOnWith 15 = .ok (.getfield 9, 3) := by decide +kernel
theorem dX4_goesOnWith_18 : decode cX4_goesOnWith 18 = .ok (.aload_n 0, 1) := by decide +kernel
theorem dX4_goesOnWith_19 : decode cX4_goesOnWith 19 = .ok (.getfield 26, 3) := by decide +kernel
theorem dX4_goesOnWith_22 : decode cX4_goesOnWith 22 = .ok (.iconst 1, 1) := by decide +kernel
theorem dX4_goesOnWith_23 : decode cX4_goesOnWith 23 = .ok (.isub, 1) := by decide +kernel
theorem dX4_goesOnWith_24 : decode cX4_goesOnWith 24 = .ok (.iaload, 1) := by decide +kernel
theorem dX4_goesOnWith_25 : decode cX4_goesOnWith 25 = .ok (.aaload, 1) := by decide +kernel
theorem dX4_goesOnWith_26 : decode cX4_goesOnWith 26 = .ok (.getfield 44, 3) := by decide +kernel
theorem dX4_goesOnWith_29 : decode cX4_goesOnWith 29 = .ok (.aload_n 0, 1) := by decide +kernel
theorem dX4_goesOnWith_30 : decode cX4_goesOnWith 30 = .ok (.getfield 15, 3) := by decide +kernel
theorem dX4_goesOnWith_33 : decode cX4_goesOnWith 33 = .ok (.aload_n 0, 1) := by decide +kernel
theorem dX4_goesOnWith_34 : decode cX4_goesOnWith 34 = .ok (.getfield 26, 3) := by decide +kernel
theorem dX4_goesOnWith_37 : decode cX4_goesOnWith 37 = .ok (.iconst 1, 1) := by decide +kernel
theorem dX4_goesOnWith_38 : decode cX4_goesOnWith 38 = .ok (.isub, 1) := by decide +kernel
theorem dX4_goesOnWith_39 : decode cX4_goesOnWith 39 = .ok (.iaload, 1) := by decide +kernel
theorem dX4_goesOnWith_40 : decode cX4_goesOnWith 40 = .ok (.iaload, 1) := by decide +kernel
theorem dX4_goesOnWith_41 : decode cX4_goesOnWith 41 = .ok (.goto 4, 3) := by decide +kernel
theorem dX4_goesOnWith_44 : decode cX4_goesOnWith 44 = .ok (.iconst 0, 1) := by decide +kernel
theorem dX4_goesOnWith_45 : decode cX4_goesOnWith 45 = .ok (.ireturn, 1) := by decide +kernel
theorem dX4_accept_0 : decode cX4_accept 0 = .ok (.aload_n 0, 1) := by decide +kernel
theorem dX4_accept_1 : decode cX4_accept 1 = .ok (.getfield 18, 3) := by decide +kernel
theorem dX4_accept_4 : decode cX4_accept 4 = .ok (.iconst (-1), 1) := by decide +kernel
theorem dX4_accept_5 : decode cX4_accept 5 = .ok (.if_icmp .ne 13, 3) := by decide +kernel
theorem dX4_accept_8 : decode cX4_accept 8 = .ok (.iload_n 1, 1) := by decide +kernel
theorem dX4_accept_9 : decode cX4_accept 9 = .ok (.ifCond .ne 7, 3) := by decide +kernel
theorem dX4_accept_12 : decode cX4_accept 12 = .ok (.iconst 1, 1) := by decide +kernel
theorem dX4_accept_13 : decode cX4_accept 13 = .ok (.goto 4, 3) := by decide +kernel
theorem dX4_accept_16 : decode cX4_accept 16 = .ok (.iconst 0, 1) := by decide +kernel
theorem dX4_accept_17 : decode cX4_accept 17 = .ok (.ireturn, 1) := by decide +kernel
theorem dX4_accept_18 : decode cX4_accept 18 = .ok (.aload_n 0, 1) := by decide +kernel
theorem dX4_accept_19 : decode cX4_accept 19 = .ok (.getfield 26, 3) := by decide +kernel
theorem dX4_accept_22 : decode cX4_accept 22 = .ok (.ifCond .eq 11, 3) := by decide +kernel
theorem dX4_accept_25 : decode cX4_accept 25 = .ok (.aload_n 0, 1) := by decide +kernel
theorem dX4_accept_26 : decode cX4_accept 26 = .ok (.iload_n 1, 1) := by decide +kernel
theorem dX4_accept_27 : decode cX4_accept 27 = .ok (.invokevirtual 47, 3) := by decide +kernel
theorem dX4_accept_30 : decode cX4_accept 30 = .ok (.ifCond .eq 5, 3) := by decide +kernel
theorem dX4_accept_33 : decode cX4_accept 33 = .ok (.iconst 0, 1) := by decide +kernel
theorem dX4_accept_34 : decode cX4_accept 34 = .ok (.ireturn, 1) := by decide +kernel
theorem dX4_accept_35 : decode cX4_accept 35 = .ok (.aload_n 0, 1) := by decide +kernel
theorem dX4_accept_36 : decode cX4_accept 36 = .ok (.getfield 22, 3) := by decide +kernel
theorem dX4_accept_39 : decode cX4_accept 39 = .ok (.getfield 32, 3) := by decide +kernel
theorem dX4_accept_42 : decode cX4_accept 42 = .ok (.aload_n 0, 1) := by decide +kernel
theorem dX4_accept_43 : decode cX4_accept 43 = .ok (.getfield 9, 3) := by decide +kernel
theorem dX4_accept_46 : decode cX4_accept 46 = .ok (.aload_n 0, 1) := by decide +kernel
theorem dX4_accept_47 : decode cX4_accept 47 = .ok (.getfield 26, 3) := by decide +kernel
theorem dX4_accept_50 : decode cX4_accept 50 = .ok (.iconst 1, 1) := by decide +kernel
theorem dX4_accept_51 : decode cX4_accept 51 = .ok (.isub, 1) := by decide +kernel
theorem dX4_accept_52 : decode cX4_accept 52 = .ok (.iaload, 1) := by decide +kernel
theorem dX4_accept_53 : decode cX4_accept 53 = .ok (.aaload, 1) := by decide +kernel
theorem dX4_accept_54 : decode cX4_accept 54 = .ok (.aload_n 0, 1) := by decide +kernel
theorem dX4_accept_55 : decode cX4_accept 55 = .ok (.getfield 15, 3) := by decide +kernel
theorem dX4_accept_58 : decode cX4_accept 58 = .ok (.aload_n 0, 1) := by decide +kernel
theorem dX4_accept_59 : decode cX4_accept 59 = .ok (.getfield 26, 3) := by decide +kernel
theorem dX4_accept_62 : decode cX4_accept 62 = .ok (.iconst 1, 1) := by decide +kernel
theorem dX4_accept_63 : decode cX4_accept 63 = .ok (.isub, 1) := by decide +kernel
theorem dX4_accept_64 : decode cX4_accept 64 = .ok (.iaload, 1) := by decide +kernel
theorem dX4_accept_65 : decode cX4_accept 65 = .ok (.iload_n 1, 1) := by decide +kernel
theorem dX4_accept_66 : decode cX4_accept 66 = .ok (.invokevirtual 51, 3) := by decide +kernel
theorem dX4_accept_69 : decode cX4_accept 69 = .ok (.istore_n 2, 1) := by decide +kernel
theorem dX4_accept_70 : decode cX4_accept 70 = .ok (.iload_n 2, 1) := by decide +kernel
theorem dX4_accept_71 : decode cX4_accept 71 = .ok (.iconst (-1), 1) := by decide +kernel
theorem dX4_accept_72 : decode cX4_accept 72 = .ok (.if_icmp .eq 21, 3) := by decide +kernel
theorem dX4_accept_75 : decode cX4_accept 75 = .ok (.aload_n 0, 1) := by decide +kernel
theorem dX4_accept_76 : decode cX4_accept 76 = .ok (.getfield 15, 3) := by decide +kernel
theorem dX4_accept_79 : decode cX4_accept 79 = .ok (.aload_n 0, 1) := by decide +kernel
theorem dX4_accept_80 : decode cX4_accept 80 = .ok (.getfield 26, 3) := by decide +kernel
theorem dX4_accept_83 : decode cX4_accept 83 = .ok (.iconst 1, 1) := by decide +kernel
theorem dX4_accept_84 : decode cX4_accept 84 = .ok (.isub, 1) := by decide +kernel
theorem dX4_accept_85 : decode cX4_accept 85 = .ok (.iconst 2, 1) := by decide +kernel
theorem dX4_accept_86 : decode cX4_accept 86 = .ok (.iload_n 2, 1) := by decide +kernel
theorem dX4_accept_87 : decode cX4_accept 87 = .ok (.imul, 1) := by decide +kernel
theorem dX4_accept_88 : decode cX4_accept 88 = .ok (.iconst 1, 1) := by decide +kernel
theorem dX4_accept_89 : decode cX4_accept 89 = .ok (.iadd, 1) := by decide +kernel
theorem dX4_accept_90 : decode cX4_accept 90 = .ok (.iastore, 1) := by decide +kernel
theorem dX4_accept_91 : decode cX4_accept 91 = .ok (.iconst 1, 1) := by decide +kernel
theorem dX4_accept_92 : decode cX4_accept 92 = .ok (.ireturn, 1) := by decide +kernel
theorem dX4_accept_93 : decode cX4_accept 93 = .ok (.aload_n 0, 1) := by decide +kernel
theorem dX4_accept_94 : decode cX4_accept 94 = .ok (.iload_n 1, 1) := by decide +kernel
theorem dX4_accept_95 : decode cX4_accept 95 = .ok (.invokevirtual 55, 3) := by decide +kernel
theorem dX4_accept_98 : decode cX4_accept 98 = .ok (.ireturn, 1) := by decide +kernel
theorem dX4_isExcluded_0 : decode cX4_isExcluded 0 = .ok (.iconst 0, 1) := by decide +kernel
theorem dX4_isExcluded_1 : decode cX4_isExcluded 1 = .ok (.istore_n 2, 1) := by decide +kernel
theorem dX4_isExcluded_2 : decode cX4_isExcluded 2 = .ok (.iload_n 2, 1) := by decide +kernel
theorem dX4_isExcluded_3 : decode cX4_isExcluded 3 = .ok (.aload_n 0, 1) := by decide +kernel
theorem dX4_isExcluded_4 : decode cX4_isExcluded 4 = .ok (.getfield 26, 3) := by decide +kernel
theorem dX4_isExcluded_7 : decode cX4_isExcluded 7 = .ok (.if_icmp .ge 33, 3) := by decide +kernel
theorem dX4_isExcluded_10 : decode cX4_isExcluded 10 = .ok (.aload_n 0, 1) := by decide +kernel
theorem dX4_isExcluded_11 : decode cX4_isExcluded 11 = .ok (.getfield 22, 3) := by decide +kernel
theorem dX4_isExcluded_14 : decode cX4_isExcluded 14 = .ok (.getfield 58, 3) := by decide +kernel
theorem dX4_isExcluded_17 : decode cX4_isExcluded 17 = .ok (.aload_n 0, 1) := by decide +kernel
theorem dX4_isExcluded_18 : decode cX4_isExcluded 18 = .ok (.getfield 9, 3) := by decide +kernel
theorem dX4_isExcluded_21 : decode cX4_isExcluded 21 = .ok (.iload_n 2, 1) := by decide +kernel
theorem dX4_isExcluded_22 : decode cX4_isExcluded 22 = .ok (.iaload, 1) := by decide +kernel
theorem dX4_isExcluded_23 : decode cX4_isExcluded 23 = .ok (.iaload, 1) := by decide +kernel
theorem dX4_isExcluded_24 : decode cX4_isExcluded 24 = .ok (.iload_n 1, 1) := by decide +kernel
theorem dX4_isExcluded_25 : decode cX4_isExcluded 25 = .ok (.ishr, 1) := by decide +kernel
theorem dX4_isExcluded_26 : decode cX4_isExcluded 26 = .ok (.iconst 1, 1) := by decide +kernel
theorem dX4_isExcluded_27 : decode cX4_isExcluded 27 = .ok (.iand, 1) := by decide +kernel
theorem dX4_isExcluded_28 : decode cX4_isExcluded 28 = .ok (.iconst 1, 1) := by decide +kernel
theorem dX4_isExcluded_29 : decode cX4_isExcluded 29 = .ok (.if_icmp .ne 5, 3) := by decide +kernel
theorem dX4_isExcluded_32 : decode cX4_isExcluded 32 = .ok (.iconst 1, 1) := by decide +kernel
theorem dX4_isExcluded_33 : decode cX4_isExcluded 33 = .ok (.ireturn, 1) := by decide +kernel
theorem dX4_isExcluded_34 : decode cX4_isExcluded 34 = .ok (.iinc 2 1, 3) := by decide +kernel
theorem dX4_isExcluded_37 : decode cX4_isExcluded 37 = .ok (.goto (-35), 3) := by decide +kernel
theorem dX4_isExcluded_40 : decode cX4_isExcluded 40 = .ok (.iconst 0, 1) := by decide +kernel
theorem dX4_isExcluded_41 : decode cX4_isExcluded 41 = .ok (.ireturn, 1) := by decide +kernel
theorem dX4_isIncluded_0 : decode cX4_isIncluded 0 = .ok (.iconst 0, 1) := by decide +kernel
theorem dX4_isIncluded_1 : decode cX4_isIncluded 1 = .ok (.istore_n 2, 1) := by decide +kernel
theorem dX4_isIncluded_2 : decode cX4_isIncluded 2 = .ok (.iload_n 2, 1) := by decide +kernel
theorem dX4_isIncluded_3 : decode cX4_isIncluded 3 = .ok (.aload_n 0, 1) := by decide +kernel
theorem dX4_isIncluded_4 : decode cX4_isIncluded 4 = .ok (.getfield 26, 3) := by decide +kernel
theorem dX4_isIncluded_7 : decode cX4_isIncluded 7 = .ok (.if_icmp .ge 33, 3) := by decide +kernel
theorem dX4_isIncluded_10 : decode cX4_isIncluded 10 = .ok (.aload_n 0, 1) := by decide +kernel
theorem dX4_isIncluded_11 : decode cX4_isIncluded 11 = .ok (.getfield 22, 3) := by decide +kernel
theorem dX4_isIncluded_14 : decode cX4_isIncluded 14 = .ok (.getfield 61, 3) := by decide +kernel
theorem dX4_isIncluded_17 : decode cX4_isIncluded 17 = .ok (.aload_n 0, 1) := by decide +kernel
theorem dX4_isIncluded_18 : decode cX4_isIncluded 18 = .ok (.getfield 9, 3) := by decide +kernel
theorem dX4_isIncluded_21 : decode cX4_isIncluded 21 = .ok (.iload_n 2, 1) := by decide +kernel
theorem dX4_isIncluded_22 : decode cX4_isIncluded 22 = .ok (.iaload, 1) := by decide +kernel
theorem dX4_isIncluded_23 : decode cX4_isIncluded 23 = .ok (.iaload, 1) := by decide +kernel
theorem dX4_isIncluded_24 : decode cX4_isIncluded 24 = .ok (.iload_n 1, 1) := by decide +kernel
theorem dX4_isIncluded_25 : decode cX4_isIncluded 25 = .ok (.ishr, 1) := by decide +kernel
theorem dX4_isIncluded_26 : decode cX4_isIncluded 26 = .ok (.iconst 1, 1) := by decide +kernel
theorem dX4_isIncluded_27 : decode cX4_isIncluded 27 = .ok (.iand, 1) := by decide +kernel
theorem dX4_isIncluded_28 : decode cX4_isIncluded 28 = .ok (.iconst 1, 1) := by decide +kernel
theorem dX4_isIncluded_29 : decode cX4_isIncluded 29 = .ok (.if_icmp .ne 5, 3) := by decide +kernel
theorem dX4_isIncluded_32 : decode cX4_isIncluded 32 = .ok (.iconst 1, 1) := by decide +kernel
theorem dX4_isIncluded_33 : decode cX4_isIncluded 33 = .ok (.ireturn, 1) := by decide +kernel
theorem dX4_isIncluded_34 : decode cX4_isIncluded 34 = .ok (.iinc 2 1, 3) := by decide +kernel
theorem dX4_isIncluded_37 : decode cX4_isIncluded 37 = .ok (.goto (-35), 3) := by decide +kernel
theorem dX4_isIncluded_40 : decode cX4_isIncluded 40 = .ok (.iconst 0, 1) := by decide +kernel
theorem dX4_isIncluded_41 : decode cX4_isIncluded 41 = .ok (.ireturn, 1) := by decide +kernel
theorem dX4_elementToPutIn_0 : decode cX4_elementToPutIn 0 = .ok (.aload_n 0, 1) := by decide +kernel
theorem dX4_elementToPutIn_1 : decode cX4_elementToPutIn 1 = .ok (.invokevirtual 64, 3) := by decide +kernel
theorem dX4_elementToPutIn_4 : decode cX4_elementToPutIn 4 = .ok (.istore_n 1, 1) := by decide +kernel
theorem dX4_elementToPutIn_5 : decode cX4_elementToPutIn 5 = .ok (.iload_n 1, 1) := by decide +kernel
theorem dX4_elementToPutIn_6 : decode cX4_elementToPutIn 6 = .ok (.invokestatic 68, 3) := by decide +kernel
theorem dX4_elementToPutIn_9 : decode cX4_elementToPutIn 9 = .ok (.iconst 1, 1) := by decide +kernel
theorem dX4_elementToPutIn_10 : decode cX4_elementToPutIn 10 = .ok (.if_icmp .ne 19, 3) := by decide +kernel
theorem dX4_elementToPutIn_13 : decode cX4_elementToPutIn 13 = .ok (.aload_n 0, 1) := by decide +kernel
theorem dX4_elementToPutIn_14 : decode cX4_elementToPutIn 14 = .ok (.invokevirtual 74, 3) := by decide +kernel
theorem dX4_elementToPutIn_17 : decode cX4_elementToPutIn 17 = .ok (.ifCond .ne 12, 3) := by decide +kernel
theorem dX4_elementToPutIn_20 : decode cX4_elementToPutIn 20 = .ok (.aload_n 0, 1) := by decide +kernel
theorem dX4_elementToPutIn_21 : decode cX4_elementToPutIn 21 = .ok (.getfield 26, 3) := by decide +kernel
theorem dX4_elementToPutIn_24 : decode cX4_elementToPutIn 24 = .ok (.bipush 20, 2) := by decide +kernel
theorem dX4_elementToPutIn_26 : decode cX4_elementToPutIn 26 = .ok (.if_icmp .lt 5, 3) := by decide +kernel
theorem dX4_elementToPutIn_29 : decode cX4_elementToPutIn 29 = .ok (.iconst (-1), 1) := by decide +kernel
theorem dX4_elementToPutIn_30 : decode cX4_elementToPutIn 30 = .ok (.ireturn, 1) := by decide +kernel
theorem dX4_elementToPutIn_31 : decode cX4_elementToPutIn 31 = .ok (.iload_n 1, 1) := by decide +kernel
theorem dX4_elementToPutIn_32 : decode cX4_elementToPutIn 32 = .ok (.invokestatic 78, 3) := by decide +kernel
theorem dX4_elementToPutIn_35 : decode cX4_elementToPutIn 35 = .ok (.istore_n 2, 1) := by decide +kernel
theorem dX4_elementToPutIn_36 : decode cX4_elementToPutIn 36 = .ok (.iload_n 2, 1) := by decide +kernel
theorem dX4_elementToPutIn_37 : decode cX4_elementToPutIn 37 = .ok (.bipush 10, 2) := by decide +kernel
theorem dX4_elementToPutIn_39 : decode cX4_elementToPutIn 39 = .ok (.if_icmp .ge 30, 3) := by decide +kernel
theorem dX4_elementToPutIn_42 : decode cX4_elementToPutIn 42 = .ok (.aload_n 0, 1) := by decide +kernel
theorem dX4_elementToPutIn_43 : decode cX4_elementToPutIn 43 = .ok (.getfield 22, 3) := by decide +kernel
theorem dX4_elementToPutIn_46 : decode cX4_elementToPutIn 46 = .ok (.getfield 81, 3) := by decide +kernel
theorem dX4_elementToPutIn_49 : decode cX4_elementToPutIn 49 = .ok (.iload_n 2, 1) := by decide +kernel
theorem dX4_elementToPutIn_50 : decode cX4_elementToPutIn 50 = .ok (.baload, 1) := by decide +kernel
theorem dX4_elementToPutIn_51 : decode cX4_elementToPutIn 51 = .ok (.ifCond .eq 18, 3) := by decide +kernel
theorem dX4_elementToPutIn_54 : decode cX4_elementToPutIn 54 = .ok (.aload_n 0, 1) := by decide +kernel
theorem dX4_elementToPutIn_55 : decode cX4_elementToPutIn 55 = .ok (.getfield 22, 3) := by decide +kernel
theorem dX4_elementToPutIn_58 : decode cX4_elementToPutIn 58 = .ok (.getfield 32, 3) := by decide +kernel
theorem dX4_elementToPutIn_61 : decode cX4_elementToPutIn 61 = .ok (.iload_n 2, 1) := by decide +kernel
theorem dX4_elementToPutIn_62 : decode cX4_elementToPutIn 62 = .ok (.aaload, 1) := by decide +kernel
theorem dX4_elementToPutIn_63 : decode cX4_elementToPutIn 63 = .ok (.getfield 84, 3) := by decide +kernel
theorem dX4_elementToPutIn_66 : decode cX4_elementToPutIn 66 = .ok (.ifCond .ne 5, 3) := by decide +kernel
theorem dX4_elementToPutIn_69 : decode cX4_elementToPutIn 69 = .ok (.iconst (-1), 1) := by decide +kernel
theorem dX4_elementToPutIn_70 : decode cX4_elementToPutIn 70 = .ok (.ireturn, 1) := by decide +kernel
theorem dX4_elementToPutIn_71 : decode cX4_elementToPutIn 71 = .ok (.aload_n 0, 1) := by decide +kernel
theorem dX4_elementToPutIn_72 : decode cX4_elementToPutIn 72 = .ok (.iload_n 2, 1) := by decide +kernel
theorem dX4_elementToPutIn_73 : decode cX4_elementToPutIn 73 = .ok (.invokevirtual 47, 3) := by decide +kernel
theorem dX4_elementToPutIn_76 : decode cX4_elementToPutIn 76 = .ok (.ifCond .eq 7, 3) := by decide +kernel
theorem dX4_elementToPutIn_79 : decode cX4_elementToPutIn 79 = .ok (.iconst (-1), 1) := by decide +kernel
theorem dX4_elementToPutIn_80 : decode cX4_elementToPutIn 80 = .ok (.goto 4, 3) := by decide +kernel
theorem dX4_elementToPutIn_83 : decode cX4_elementToPutIn 83 = .ok (.iload_n 2, 1) := by decide +kernel
theorem dX4_elementToPutIn_84 : decode cX4_elementToPutIn 84 = .ok (.ireturn, 1) := by decide +kernel
theorem dX4_mayCloseUnasked_0 : decode cX4_mayCloseUnasked 0 = .ok (.aload_n 0, 1) := by decide +kernel
theorem dX4_mayCloseUnasked_1 : decode cX4_mayCloseUnasked 1 = .ok (.getfield 26, 3) := by decide +kernel
theorem dX4_mayCloseUnasked_4 : decode cX4_mayCloseUnasked 4 = .ok (.iconst 1, 1) := by decide +kernel
theorem dX4_mayCloseUnasked_5 : decode cX4_mayCloseUnasked 5 = .ok (.if_icmp .le 36, 3) := by decide +kernel
theorem dX4_mayCloseUnasked_8 : decode cX4_mayCloseUnasked 8 = .ok (.aload_n 0, 1) := by decide +kernel
theorem dX4_mayCloseUnasked_9 : decode cX4_mayCloseUnasked 9 = .ok (.getfield 22, 3) := by decide +kernel
theorem dX4_mayCloseUnasked_12 : decode cX4_mayCloseUnasked 12 = .ok (.getfield 87, 3) := by decide +kernel
theorem dX4_mayCloseUnasked_15 : decode cX4_mayCloseUnasked 15 = .ok (.aload_n 0, 1) := by decide +kernel
theorem dX4_mayCloseUnasked_16 : decode cX4_mayCloseUnasked 16 = .ok (.getfield 9, 3) := by decide +kernel
theorem dX4_mayCloseUnasked_19 : decode cX4_mayCloseUnasked 19 = .ok (.aload_n 0, 1) := by decide +kernel
theorem dX4_mayCloseUnasked_20 : decode cX4_mayCloseUnasked 20 = .ok (.getfield 26, 3) := by decide +kernel
theorem dX4_mayCloseUnasked_23 : decode cX4_mayCloseUnasked 23 = .ok (.iconst 1, 1) := by decide +kernel
theorem dX4_mayCloseUnasked_24 : decode cX4_mayCloseUnasked 24 = .ok (.isub, 1) := by decide +kernel
theorem dX4_mayCloseUnasked_25 : decode cX4_mayCloseUnasked 25 = .ok (.iaload, 1) := by decide +kernel
theorem dX4_mayCloseUnasked_26 : decode cX4_mayCloseUnasked 26 = .ok (.baload, 1) := by decide +kernel
theorem dX4_mayCloseUnasked_27 : decode cX4_mayCloseUnasked 27 = .ok (.ifCond .eq 14, 3) := by decide +kernel
theorem dX4_mayCloseUnasked_30 : decode cX4_mayCloseUnasked 30 = .ok (.aload_n 0, 1) := by decide +kernel
theorem dX4_mayCloseUnasked_31 : decode cX4_mayCloseUnasked 31 = .ok (.invokevirtual 74, 3) := by decide +kernel
theorem dX4_mayCloseUnasked_34 : decode cX4_mayCloseUnasked 34 = .ok (.ifCond .eq 7, 3) := by decide +kernel
theorem dX4_mayCloseUnasked_37 : decode cX4_mayCloseUnasked 37 = .ok (.iconst 1, 1) := by decide +kernel
theorem dX4_mayCloseUnasked_38 : decode cX4_mayCloseUnasked 38 = .ok (.goto 4, 3) := by decide +kernel
theorem dX4_mayCloseUnasked_41 : decode cX4_mayCloseUnasked 41 = .ok (.iconst 0, 1) := by decide +kernel
theorem dX4_mayCloseUnasked_42 : decode cX4_mayCloseUnasked 42 = .ok (.ireturn, 1) := by decide +kernel
theorem dX4_enter_0 : decode cX4_enter 0 = .ok (.aload_n 0, 1) := by decide +kernel
theorem dX4_enter_1 : decode cX4_enter 1 = .ok (.iload_n 1, 1) := by decide +kernel
theorem dX4_enter_2 : decode cX4_enter 2 = .ok (.putfield 18, 3) := by decide +kernel
theorem dX4_enter_5 : decode cX4_enter 5 = .ok (.aload_n 0, 1) := by decide +kernel
theorem dX4_enter_6 : decode cX4_enter 6 = .ok (.getfield 22, 3) := by decide +kernel
theorem dX4_enter_9 : decode cX4_enter 9 = .ok (.getfield 32, 3) := by decide +kernel
theorem dX4_enter_12 : decode cX4_enter 12 = .ok (.iload_n 1, 1) := by decide +kernel
theorem dX4_enter_13 : decode cX4_enter 13 = .ok (.aaload, 1) := by decide +kernel
theorem dX4_enter_14 : decode cX4_enter 14 = .ok (.getfield 84, 3) := by decide +kernel
theorem dX4_enter_17 : decode cX4_enter 17 = .ok (.ifCond .le 42, 3) := by decide +kernel
theorem dX4_enter_20 : decode cX4_enter 20 = .ok (.aload_n 0, 1) := by decide +kernel
theorem dX4_enter_21 : decode cX4_enter 21 = .ok (.getfield 26, 3) := by decide +kernel
theorem dX4_enter_24 : decode cX4_enter 24 = .ok (.bipush 20, 2) := by decide +kernel
theorem dX4_enter_26 : decode cX4_enter 26 = .ok (.if_icmp .ge 33, 3) := by decide +kernel
theorem dX4_enter_29 : decode cX4_enter 29 = .ok (.aload_n 0, 1) := by decide +kernel
theorem dX4_enter_30 : decode cX4_enter 30 = .ok (.getfield 9, 3) := by decide +kernel
theorem dX4_enter_33 : decode cX4_enter 33 = .ok (.aload_n 0, 1) := by decide +kernel
theorem dX4_enter_34 : decode cX4_enter 34 = .ok (.getfield 26, 3) := by decide +kernel
theorem dX4_enter_37 : decode cX4_enter 37 = .ok (.iload_n 1, 1) := by decide +kernel
theorem dX4_enter_38 : decode cX4_enter 38 = .ok (.iastore, 1) := by decide +kernel
theorem dX4_enter_39 : decode cX4_enter 39 = .ok (.aload_n 0, 1) := by decide +kernel
theorem dX4_enter_40 : decode cX4_enter 40 = .ok (.getfield 15, 3) := by decide +kernel
theorem dX4_enter_43 : decode cX4_enter 43 = .ok (.aload_n 0, 1) := by decide +kernel
theorem dX4_enter_44 : decode cX4_enter 44 = .ok (.getfield 26, 3) := by decide +kernel
theorem dX4_enter_47 : decode cX4_enter 47 = .ok (.iconst 0, 1) := by decide +kernel
theorem dX4_enter_48 : decode cX4_enter 48 = .ok (.iastore, 1) := by decide +kernel
theorem dX4_enter_49 : decode cX4_enter 49 = .ok (.aload_n 0, 1) := by decide +kernel
theorem dX4_enter_50 : decode cX4_enter 50 = .ok (.dup, 1) := by decide +kernel
theorem dX4_enter_51 : decode cX4_enter 51 = .ok (.getfield 26, 3) := by decide +kernel
theorem dX4_enter_54 : decode cX4_enter 54 = .ok (.iconst 1, 1) := by decide +kernel
theorem dX4_enter_55 : decode cX4_enter 55 = .ok (.iadd, 1) := by decide +kernel
theorem dX4_enter_56 : decode cX4_enter 56 = .ok (.putfield 26, 3) := by decide +kernel
theorem dX4_enter_59 : decode cX4_enter 59 = .ok (.return_, 1) := by decide +kernel
theorem dX4_leave_0 : decode cX4_leave 0 = .ok (.aload_n 0, 1) := by decide +kernel
theorem dX4_leave_1 : decode cX4_leave 1 = .ok (.getfield 26, 3) := by decide +kernel
theorem dX4_leave_4 : decode cX4_leave 4 = .ok (.ifCond .le 13, 3) := by decide +kernel
theorem dX4_leave_7 : decode cX4_leave 7 = .ok (.aload_n 0, 1) := by decide +kernel
theorem dX4_leave_8 : decode cX4_leave 8 = .ok (.dup, 1) := by decide +kernel
theorem dX4_leave_9 : decode cX4_leave 9 = .ok (.getfield 26, 3) := by decide +kernel
theorem dX4_leave_12 : decode cX4_leave 12 = .ok (.iconst 1, 1) := by decide +kernel
theorem dX4_leave_13 : decode cX4_leave 13 = .ok (.isub, 1) := by decide +kernel
theorem dX4_leave_14 : decode cX4_leave 14 = .ok (.putfield 26, 3) := by decide +kernel
theorem dX4_leave_17 : decode cX4_leave 17 = .ok (.return_, 1) := by decide +kernel
theorem dX4_readAsWritten_0 : decode cX4_readAsWritten 0 = .ok (.iload_n 1, 1) := by decide +kernel
theorem dX4_readAsWritten_1 : decode cX4_readAsWritten 1 = .ok (.iconst 1, 1) := by decide +kernel
theorem dX4_readAsWritten_2 : decode cX4_readAsWritten 2 = .ok (.if_icmp .ne 26, 3) := by decide +kernel
theorem dX4_readAsWritten_5 : decode cX4_readAsWritten 5 = .ok (.aload_n 0, 1) := by decide +kernel
theorem dX4_readAsWritten_6 : decode cX4_readAsWritten 6 = .ok (.invokevirtual 90, 3) := by decide +kernel
theorem dX4_readAsWritten_9 : decode cX4_readAsWritten 9 = .ok (.iload_n 2, 1) := by decide +kernel
theorem dX4_readAsWritten_10 : decode cX4_readAsWritten 10 = .ok (.if_icmp .ne 10, 3) := by decide +kernel
theorem dX4_readAsWritten_13 : decode cX4_readAsWritten 13 = .ok (.aload_n 0, 1) := by decide +kernel
theorem dX4_readAsWritten_14 : decode cX4_readAsWritten 14 = .ok (.invokevirtual 74, 3) := by decide +kernel
theorem dX4_readAsWritten_17 : decode cX4_readAsWritten 17 = .ok (.ifCond .ne 5, 3) := by decide +kernel
theorem dX4_readAsWritten_20 : decode cX4_readAsWritten 20 = .ok (.iconst 0, 1) := by decide +kernel
theorem dX4_readAsWritten_21 : decode cX4_readAsWritten 21 = .ok (.ireturn, 1) := by decide +kernel
theorem dX4_readAsWritten_22 : decode cX4_readAsWritten 22 = .ok (.aload_n 0, 1) := by decide +kernel
theorem dX4_readAsWritten_23 : decode cX4_readAsWritten 23 = .ok (.invokevirtual 93, 3) := by decide +kernel
theorem dX4_readAsWritten_26 : decode cX4_readAsWritten 26 = .ok (.iconst 1, 1) := by decide +kernel
theorem dX4_readAsWritten_27 : decode cX4_readAsWritten 27 = .ok (.ireturn, 1) := by decide +kernel
theorem dX4_readAsWritten_28 : decode cX4_readAsWritten 28 = .ok (.iload_n 1, 1) := by decide +kernel
theorem dX4_readAsWritten_29 : decode cX4_readAsWritten 29 = .ok (.iconst 4, 1) := by decide +kernel
theorem dX4_readAsWritten_30 : decode cX4_readAsWritten 30 = .ok (.if_icmp .ne 10, 3) := by decide +kernel
theorem dX4_readAsWritten_33 : decode cX4_readAsWritten 33 = .ok (.aload_n 0, 1) := by decide +kernel
theorem dX4_readAsWritten_34 : decode cX4_readAsWritten 34 = .ok (.bipush 10, 2) := by decide +kernel
theorem dX4_readAsWritten_36 : decode cX4_readAsWritten 36 = .ok (.invokevirtual 96, 3) := by decide +kernel
theorem dX4_readAsWritten_39 : decode cX4_readAsWritten 39 = .ok (.ireturn, 1) := by decide +kernel
theorem dX4_readAsWritten_40 : decode cX4_readAsWritten 40 = .ok (.aload_n 0, 1) := by decide +kernel
theorem dX4_readAsWritten_41 : decode cX4_readAsWritten 41 = .ok (.getfield 26, 3) := by decide +kernel
theorem dX4_readAsWritten_44 : decode cX4_readAsWritten 44 = .ok (.bipush 20, 2) := by decide +kernel
theorem dX4_readAsWritten_46 : decode cX4_readAsWritten 46 = .ok (.if_icmp .ge 11, 3) := by decide +kernel
theorem dX4_readAsWritten_49 : decode cX4_readAsWritten 49 = .ok (.aload_n 0, 1) := by decide +kernel
theorem dX4_readAsWritten_50 : decode cX4_readAsWritten 50 = .ok (.iload_n 2, 1) := by decide +kernel
theorem dX4_readAsWritten_51 : decode cX4_readAsWritten 51 = .ok (.invokevirtual 96, 3) := by decide +kernel
theorem dX4_readAsWritten_54 : decode cX4_readAsWritten 54 = .ok (.ifCond .ne 5, 3) := by decide +kernel
theorem dX4_readAsWritten_57 : decode cX4_readAsWritten 57 = .ok (.iconst 0, 1) := by decide +kernel
theorem dX4_readAsWritten_58 : decode cX4_readAsWritten 58 = .ok (.ireturn, 1) := by decide +kernel
theorem dX4_readAsWritten_59 : decode cX4_readAsWritten 59 = .ok (.aload_n 0, 1) := by decide +kernel
theorem dX4_readAsWritten_60 : decode cX4_readAsWritten 60 = .ok (.iload_n 2, 1) := by decide +kernel
theorem dX4_readAsWritten_61 : decode cX4_readAsWritten 61 = .ok (.invokevirtual 99, 3) := by decide +kernel
theorem dX4_readAsWritten_64 : decode cX4_readAsWritten 64 = .ok (.iconst 1, 1) := by decide +kernel
theorem dX4_readAsWritten_65 : decode cX4_readAsWritten 65 = .ok (.ireturn, 1) := by decide +kernel
theorem dX5_init_0 : decode cX5_init 0 = .ok (.aload_n 0, 1) := by decide +kernel
theorem dX5_init_1 : decode cX5_init 1 = .ok (.invokespecial 3, 3) := by decide +kernel
theorem dX5_init_4 : decode cX5_init 4 = .ok (.aload_n 0, 1) := by decide +kernel
theorem dX5_init_5 : decode cX5_init 5 = .ok (.sipush 300, 3) := by decide +kernel
theorem dX5_init_8 : decode cX5_init 8 = .ok (.newarray .int, 2) := by decide +kernel
theorem dX5_init_10 : decode cX5_init 10 = .ok (.putfield 9, 3) := by decide +kernel
theorem dX5_init_13 : decode cX5_init 13 = .ok (.aload_n 0, 1) := by decide +kernel
theorem dX5_init_14 : decode cX5_init 14 = .ok (.sipush 300, 3) := by decide +kernel
theorem dX5_init_17 : decode cX5_init 17 = .ok (.newarray .int, 2) := by decide +kernel
theorem dX5_init_19 : decode cX5_init 19 = .ok (.putfield 15, 3) := by decide +kernel
theorem dX5_init_22 : decode cX5_init 22 = .ok (.aload_n 0, 1) := by decide +kernel
theorem dX5_init_23 : decode cX5_init 23 = .ok (.sipush 300, 3) := by decide +kernel
theorem dX5_init_26 : decode cX5_init 26 = .ok (.newarray .char, 2) := by decide +kernel
theorem dX5_init_28 : decode cX5_init 28 = .ok (.putfield 18, 3) := by decide +kernel
theorem dX5_init_31 : decode cX5_init 31 = .ok (.aload_n 0, 1) := by decide +kernel
theorem dX5_init_32 : decode cX5_init 32 = .ok (.sipush 300, 3) := by decide +kernel
theorem dX5_init_35 : decode cX5_init 35 = .ok (.newarray .int, 2) := by decide +kernel
theorem dX5_init_37 : decode cX5_init 37 = .ok (.putfield 22, 3) := by decide +kernel
theorem dX5_init_40 : decode cX5_init 40 = .ok (.aload_n 0, 1) := by decide +kernel
theorem dX5_init_41 : decode cX5_init 41 = .ok (.sipush 300, 3) := by decide +kernel
theorem dX5_init_44 : decode cX5_init 44 = .ok (.newarray .boolean, 2) := by decide +kernel
theorem dX5_init_46 : decode cX5_init 46 = .ok (.putfield 25, 3) := by decide +kernel
theorem dX5_init_49 : decode cX5_init 49 = .ok (.return_, 1) := by decide +kernel
theorem dX5_addThing_0 : decode cX5_addThing 0 = .ok (.aload_n 0, 1) := by decide +kernel
theorem dX5_addThing_1 : decode cX5_addThing 1 = .ok (.getfield 29, 3) := by decide +kernel
theorem dX5_addThing_4 : decode cX5_addThing 4 = .ok (.sipush 300, 3) := by decide +kernel
theorem dX5_addThing_7 : decode cX5_addThing 7 = .ok (.if_icmp .ge 65, 3) := by decide +kernel
theorem dX5_addThing_10 : decode cX5_addThing 10 = .ok (.aload_n 0, 1) := by decide +kernel
theorem dX5_addThing_11 : decode cX5_addThing 11 = .ok (.getfield 9, 3) := by decide +kernel
theorem dX5_addThing_14 : decode cX5_addThing 14 = .ok (.aload_n 0, 1) := by decide +kernel
theorem dX5_addThing_15 : decode cX5_addThing 15 = .ok (.getfield 29, 3) := by decide +kernel
theorem dX5_addThing_18 : decode cX5_addThing 18 = .ok (.iload_n 1, 1) := by decide +kernel
theorem dX5_addThing_19 : decode cX5_addThing 19 = .ok (.iastore, 1) := by decide +kernel
theorem dX5_addThing_20 : decode cX5_addThing 20 = .ok (.aload_n 0, 1) := by decide +kernel
theorem dX5_addThing_21 : decode cX5_addThing 21 = .ok (.getfield 15, 3) := by decide +kernel
theorem dX5_addThing_24 : decode cX5_addThing 24 = .ok (.aload_n 0, 1) := by decide +kernel
theorem dX5_addThing_25 : decode cX5_addThing 25 = .ok (.getfield 29, 3) := by decide +kernel
theorem dX5_addThing_28 : decode cX5_addThing 28 = .ok (.iload_n 2, 1) := by decide +kernel
theorem dX5_addThing_29 : decode cX5_addThing 29 = .ok (.iastore, 1) := by decide +kernel
theorem dX5_addThing_30 : decode cX5_addThing 30 = .ok (.aload_n 0, 1) := by decide +kernel
theorem dX5_addThing_31 : decode cX5_addThing 31 = .ok (.getfield 18, 3) := by decide +kernel
theorem dX5_addThing_34 : decode cX5_addThing 34 = .ok (.aload_n 0, 1) := by decide +kernel
theorem dX5_addThing_35 : decode cX5_addThing 35 = .ok (.getfield 29, 3) := by decide +kernel
theorem dX5_addThing_38 : decode cX5_addThing 38 = .ok (.iload_n 3, 1) := by decide +kernel
theorem dX5_addThing_39 : decode cX5_addThing 39 = .ok (.castore, 1) := by decide +kernel
theorem dX5_addThing_40 : decode cX5_addThing 40 = .ok (.aload_n 0, 1) := by decide +kernel
theorem dX5_addThing_41 : decode cX5_addThing 41 = .ok (.getfield 22, 3) := by decide +kernel
theorem dX5_addThing_44 : decode cX5_addThing 44 = .ok (.aload_n 0, 1) := by decide +kernel
theorem dX5_addThing_45 : decode cX5_addThing 45 = .ok (.getfield 29, 3) := by decide +kernel
theorem dX5_addThing_48 : decode cX5_addThing 48 = .ok (.iload 4, 2) := by decide +kernel
theorem dX5_addThing_50 : decode cX5_addThing 50 = .ok (.iastore, 1) := by decide +kernel
theorem dX5_addThing_51 : decode cX5_addThing 51 = .ok (.aload_n 0, 1) := by decide +kernel
theorem dX5_addThing_52 : decode cX5_addThing 52 = .ok (.getfield 25, 3) := by decide +kernel
theorem dX5_addThing_55 : decode cX5_addThing 55 = .ok (.aload_n 0, 1) := by decide +kernel
theorem dX5_addThing_56 : decode cX5_addThing 56 = .ok (.getfield 29, 3) := by decide +kernel
theorem dX5_addThing_59 : decode cX5_addThing 59 = .ok (.iload 5, 2) := by decide +kernel
theorem dX5_addThing_61 : decode cX5_addThing 61 = .ok (.bastore, 1) := by decide +kernel
theorem dX5_addThing_62 : decode cX5_addThing 62 = .ok (.aload_n 0, 1) := by decide +kernel
theorem dX5_addThing_63 : decode cX5_addThing 63 = .ok (.dup, 1) := by decide +kernel
theorem dX5_addThing_64 : decode cX5_addThing 64 = .ok (.getfield 29, 3) := by decide +kernel
theorem dX5_addThing_67 : decode cX5_addThing 67 = .ok (.iconst 1, 1) := by decide +kernel
theorem dX5_addThing_68 : decode cX5_addThing 68 = .ok (.iadd, 1) := by decide +kernel
theorem dX5_addThing_69 : decode cX5_addThing 69 = .ok (.putfield 29, 3) := by decide +kernel
theorem dX5_addThing_72 : decode cX5_addThing 72 = .ok (.return_, 1) := by decide +kernel
theorem dX6_init_0 : decode cX6_init 0 = .ok (.aload_n 0, 1) := by decide +kernel
theorem dX6_init_1 : decode cX6_init 1 = .ok (.invokespecial 3, 3) := by decide +kernel
theorem dX6_init_4 : decode cX6_init 4 = .ok (.aload_n 0, 1) := by decide +kernel
theorem dX6_init_5 : decode cX6_init 5 = .ok (.bipush 9, 2) := by decide +kernel
theorem dX6_init_7 : decode cX6_init 7 = .ok (.anewarray 9, 3) := by decide +kernel
theorem dX6_init_10 : decode cX6_init 10 = .ok (.putfield 11, 3) := by decide +kernel
theorem dX6_init_13 : decode cX6_init 13 = .ok (.aload_n 0, 1) := by decide +kernel
theorem dX6_init_14 : decode cX6_init 14 = .ok (.aload_n 1, 1) := by decide +kernel
theorem dX6_init_15 : decode cX6_init 15 = .ok (.putfield 17, 3) := by decide +kernel
theorem dX6_init_18 : decode cX6_init 18 = .ok (.aload_n 0, 1) := by decide +kernel
theorem dX6_init_19 : decode cX6_init 19 = .ok (.aload_n 2, 1) := by decide +kernel
theorem dX6_init_20 : decode cX6_init 20 = .ok (.putfield 21, 3) := by decide +kernel
theorem dX6_init_23 : decode cX6_init 23 = .ok (.iconst 0, 1) := by decide +kernel
theorem dX6_init_24 : decode cX6_init 24 = .ok (.istore_n 3, 1) := by decide +kernel
theorem dX6_init_25 : decode cX6_init 25 = .ok (.iload_n 3, 1) := by decide +kernel
theorem dX6_init_26 : decode cX6_init 26 = .ok (.aload_n 0, 1) := by decide +kernel
theorem dX6_init_27 : decode cX6_init 27 = .ok (.getfield 11, 3) := by decide +kernel
theorem dX6_init_30 : decode cX6_init 30 = .ok (.arraylength, 1) := by decide +kernel
theorem dX6_init_31 : decode cX6_init 31 = .ok (.if_icmp .ge 23, 3) := by decide +kernel
theorem dX6_init_34 : decode cX6_init 34 = .ok (.aload_n 0, 1) := by decide +kernel
theorem dX6_init_35 : decode cX6_init 35 = .ok (.getfield 11, 3) := by decide +kernel
theorem dX6_init_38 : decode cX6_init 38 = .ok (.iload_n 3, 1) := by decide +kernel
theorem dX6_init_39 : decode cX6_init 39 = .ok (.new 9, 3) := by decide +kernel
theorem dX6_init_42 : decode cX6_init 42 = .ok (.dup, 1) := by decide +kernel
theorem dX6_init_43 : decode cX6_init 43 = .ok (.aload_n 1, 1) := by decide +kernel
theorem dX6_init_44 : decode cX6_init 44 = .ok (.invokespecial 25, 3) := by decide +kernel
theorem dX6_init_47 : decode cX6_init 47 = .ok (.aastore, 1) := by decide +kernel
theorem dX6_init_48 : decode cX6_init 48 = .ok (.iinc 3 1, 3) := by decide +kernel
theorem dX6_init_51 : decode cX6_init 51 = .ok (.goto (-26), 3) := by decide +kernel
theorem dX6_init_54 : decode cX6_init 54 = .ok (.return_, 1) := by decide +kernel
theorem dX7_init_0 : decode cX7_init 0 = .ok (.aload_n 0, 1) := by decide +kernel
theorem dX7_init_1 : decode cX7_init 1 = .ok (.invokespecial 3, 3) := by decide +kernel
theorem dX7_init_4 : decode cX7_init 4 = .ok (.aload_n 0, 1) := by decide +kernel
theorem dX7_init_5 : decode cX7_init 5 = .ok (.new 9, 3) := by decide +kernel
theorem dX7_init_8 : decode cX7_init 8 = .ok (.dup, 1) := by decide +kernel
theorem dX7_init_9 : decode cX7_init 9 = .ok (.invokespecial 11, 3) := by decide +kernel
theorem dX7_init_12 : decode cX7_init 12 = .ok (.putfield 12, 3) := by decide +kernel
theorem dX7_init_15 : decode cX7_init 15 = .ok (.aload_n 0, 1) := by decide +kernel
theorem dX7_init_16 : decode cX7_init 16 = .ok (.new 16, 3) := by decide +kernel
theorem dX7_init_19 : decode cX7_init 19 = .ok (.dup, 1) := by decide +kernel
theorem dX7_init_20 : decode cX7_init 20 = .ok (.bipush 60, 2) := by decide +kernel
theorem dX7_init_22 : decode cX7_init 22 = .ok (.invokespecial 18, 3) := by decide +kernel
theorem dX7_init_25 : decode cX7_init 25 = .ok (.putfield 21, 3) := by decide +kernel
theorem dX7_init_28 : decode cX7_init 28 = .ok (.aload_n 0, 1) := by decide +kernel
theorem dX7_init_29 : decode cX7_init 29 = .ok (.bipush 6, 2) := by decide +kernel
theorem dX7_init_31 : decode cX7_init 31 = .ok (.anewarray 16, 3) := by decide +kernel
theorem dX7_init_34 : decode cX7_init 34 = .ok (.putfield 25, 3) := by decide +kernel
theorem dX7_init_37 : decode cX7_init 37 = .ok (.aload_n 0, 1) := by decide +kernel
theorem dX7_init_38 : decode cX7_init 38 = .ok (.iconst 4, 1) := by decide +kernel
theorem dX7_init_39 : decode cX7_init 39 = .ok (.newarray .int, 2) := by decide +kernel
theorem dX7_init_41 : decode cX7_init 41 = .ok (.putfield 29, 3) := by decide +kernel
theorem dX7_init_44 : decode cX7_init 44 = .ok (.iconst 0, 1) := by decide +kernel
theorem dX7_init_45 : decode cX7_init 45 = .ok (.istore_n 1, 1) := by decide +kernel
theorem dX7_init_46 : decode cX7_init 46 = .ok (.iload_n 1, 1) := by decide +kernel
theorem dX7_init_47 : decode cX7_init 47 = .ok (.bipush 6, 2) := by decide +kernel
theorem dX7_init_49 : decode cX7_init 49 = .ok (.if_icmp .ge 24, 3) := by decide +kernel
theorem dX7_init_52 : decode cX7_init 52 = .ok (.aload_n 0, 1) := by decide +kernel
theorem dX7_init_53 : decode cX7_init 53 = .ok (.getfield 25, 3) := by decide +kernel
theorem dX7_init_56 : decode cX7_init 56 = .ok (.iload_n 1, 1) := by decide +kernel
theorem dX7_init_57 : decode cX7_init 57 = .ok (.new 16, 3) := by decide +kernel
theorem dX7_init_60 : decode cX7_init 60 = .ok (.dup, 1) := by decide +kernel
theorem dX7_init_61 : decode cX7_init 61 = .ok (.bipush 6, 2) := by decide +kernel
theorem dX7_init_63 : decode cX7_init 63 = .ok (.invokespecial 18, 3) := by decide +kernel
theorem dX7_init_66 : decode cX7_init 66 = .ok (.aastore, 1) := by decide +kernel
theorem dX7_init_67 : decode cX7_init 67 = .ok (.iinc 1 1, 3) := by decide +kernel
theorem dX7_init_70 : decode cX7_init 70 = .ok (.goto (-24), 3) := by decide +kernel
theorem dX7_init_73 : decode cX7_init 73 = .ok (.aload_n 0, 1) := by decide +kernel
theorem dX7_init_74 : decode cX7_init 74 = .ok (.new 33, 3) := by decide +kernel
theorem dX7_init_77 : decode cX7_init 77 = .ok (.dup, 1) := by decide +kernel
theorem dX7_init_78 : decode cX7_init 78 = .ok (.aload_n 0, 1) := by decide +kernel
theorem dX7_init_79 : decode cX7_init 79 = .ok (.getfield 12, 3) := by decide +kernel
theorem dX7_init_82 : decode cX7_init 82 = .ok (.aload_n 0, 1) := by decide +kernel
theorem dX7_init_83 : decode cX7_init 83 = .ok (.getfield 21, 3) := by decide +kernel
theorem dX7_init_86 : decode cX7_init 86 = .ok (.aload_n 0, 1) := by decide +kernel
theorem dX7_init_87 : decode cX7_init 87 = .ok (.getfield 25, 3) := by decide +kernel
theorem dX7_init_90 : decode cX7_init 90 = .ok (.aload_n 0, 1) := by decide +kernel
theorem dX7_init_91 : decode cX7_init 91 = .ok (.getfield 29, 3) := by decide +kernel
theorem dX7_init_94 : decode cX7_init 94 = .ok (.invokespecial 35, 3) := by decide +kernel
theorem dX7_init_97 : decode cX7_init 97 = .ok (.putfield 38, 3) := by decide +kernel
theorem dX7_init_100 : decode cX7_init 100 = .ok (.aload_n 0, 1) := by decide +kernel
theorem dX7_init_101 : decode cX7_init 101 = .ok (.new 42, 3) := by decide +kernel
theorem dX7_init_104 : decode cX7_init 104 = .ok (.dup, 1) := by decide +kernel
theorem dX7_init_105 : decode cX7_init 105 = .ok (.aload_n 0, 1) := by decide +kernel
theorem dX7_init_106 : decode cX7_init 106 = .ok (.getfield 12, 3) := by decide +kernel
theorem dX7_init_109 : decode cX7_init 109 = .ok (.aload_n 0, 1) := by decide +kernel
theorem dX7_init_110 : decode cX7_init 110 = .ok (.getfield 21, 3) := by decide +kernel
theorem dX7_init_113 : decode cX7_init 113 = .ok (.invokespecial 44, 3) := by decide +kernel
theorem dX7_init_116 : decode cX7_init 116 = .ok (.putfield 47, 3) := by decide +kernel
theorem dX7_init_119 : decode cX7_init 119 = .ok (.return_, 1) := by decide +kernel
theorem dX7_slot_0 : decode cX7_slot 0 = .ok (.iload_n 1, 1) := by decide +kernel
theorem dX7_slot_1 : decode cX7_slot 1 = .ok (.bipush 10, 2) := by decide +kernel
theorem dX7_slot_3 : decode cX7_slot 3 = .ok (.invokestatic 51, 3) := by decide +kernel
theorem dX7_slot_6 : decode cX7_slot 6 = .ok (.iload_n 2, 1) := by decide +kernel
theorem dX7_slot_7 : decode cX7_slot 7 = .ok (.ifCond .ne 11, 3) := by decide +kernel
theorem dX7_slot_10 : decode cX7_slot 10 = .ok (.iload_n 3, 1) := by decide +kernel
theorem dX7_slot_11 : decode cX7_slot 11 = .ok (.ifCond .ne 7, 3) := by decide +kernel
theorem dX7_slot_14 : decode cX7_slot 14 = .ok (.iconst 1, 1) := by decide +kernel
theorem dX7_slot_15 : decode cX7_slot 15 = .ok (.goto 4, 3) := by decide +kernel
theorem dX7_slot_18 : decode cX7_slot 18 = .ok (.iconst 0, 1) := by decide +kernel
theorem dX7_slot_19 : decode cX7_slot 19 = .ok (.istore 5, 2) := by decide +kernel
theorem dX7_slot_21 : decode cX7_slot 21 = .ok (.iload_n 2, 1) := by decide +kernel
theorem dX7_slot_22 : decode cX7_slot 22 = .ok (.ifCond .lt 26, 3) := by decide +kernel
theorem dX7_slot_25 : decode cX7_slot 25 = .ok (.iload_n 2, 1) := by decide +kernel
theorem dX7_slot_26 : decode cX7_slot 26 = .ok (.sipush 1024, 3) := by decide +kernel
theorem dX7_slot_29 : decode cX7_slot 29 = .ok (.if_icmp .ge 19, 3) := by decide +kernel
theorem dX7_slot_32 : decode cX7_slot 32 = .ok (.iload 4, 2) := by decide +kernel
theorem dX7_slot_34 : decode cX7_slot 34 = .ok (.ifCond .lt 14, 3) := by decide +kernel
theorem dX7_slot_37 : decode cX7_slot 37 = .ok (.iload 4, 2) := by decide +kernel
theorem dX7_slot_39 : decode cX7_slot 39 = .ok (.iconst 3, 1) := by decide +kernel
theorem dX7_slot_40 : decode cX7_slot 40 = .ok (.if_icmp .gt 8, 3) := by decide +kernel
theorem dX7_slot_43 : decode cX7_slot 43 = .ok (.iload 5, 2) := by decide +kernel
theorem dX7_slot_45 : decode cX7_slot 45 = .ok (.ifCond .eq 13, 3) := by decide +kernel
theorem dX7_slot_48 : decode cX7_slot 48 = .ok (.new 55, 3) := by decide +kernel
theorem dX7_slot_51 : decode cX7_slot 51 = .ok (.dup, 1) := by decide +kernel
theorem dX7_slot_52 : decode cX7_slot 52 = .ok (.ldc 57, 2) := by decide +kernel
theorem dX7_slot_54 : decode cX7_slot 54 = .ok (.invokespecial 59, 3) := by decide +kernel
theorem dX7_slot_57 : decode cX7_slot 57 = .ok (.athrow, 1) := by decide +kernel
theorem dX7_slot_58 : decode cX7_slot 58 = .ok (.aload_n 0, 1) := by decide +kernel
theorem dX7_slot_59 : decode cX7_slot 59 = .ok (.getfield 12, 3) := by decide +kernel
theorem dX7_slot_62 : decode cX7_slot 62 = .ok (.getfield 62, 3) := by decide +kernel
theorem dX7_slot_65 : decode cX7_slot 65 = .ok (.iload_n 1, 1) := by decide +kernel
theorem dX7_slot_66 : decode cX7_slot 66 = .ok (.aaload, 1) := by decide +kernel
theorem dX7_slot_67 : decode cX7_slot 67 = .ok (.astore 6, 2) := by decide +kernel
theorem dX7_slot_69 : decode cX7_slot 69 = .ok (.aload 6, 2) := by decide +kernel
theorem dX7_slot_71 : decode cX7_slot 71 = .ok (.getfield 66, 3) := by decide +kernel
theorem dX7_slot_74 : decode cX7_slot 74 = .ok (.bipush 6, 2) := by decide +kernel
theorem dX7_slot_76 : decode cX7_slot 76 = .ok (.if_icmp .lt 13, 3) := by decide +kernel
theorem dX7_slot_79 : decode cX7_slot 79 = .ok (.new 72, 3) := by decide +kernel
theorem dX7_slot_82 : decode cX7_slot 82 = .ok (.dup, 1) := by decide +kernel
theorem dX7_slot_83 : decode cX7_slot 83 = .ok (.ldc 74, 2) := by decide +kernel
theorem dX7_slot_85 : decode cX7_slot 85 = .ok (.invokespecial 76, 3) := by decide +kernel
theorem dX7_slot_88 : decode cX7_slot 88 = .ok (.athrow, 1) := by decide +kernel
theorem dX7_slot_89 : decode cX7_slot 89 = .ok (.aload 6, 2) := by decide +kernel
theorem dX7_slot_91 : decode cX7_slot 91 = .ok (.iload_n 3, 1) := by decide +kernel
theorem dX7_slot_92 : decode cX7_slot 92 = .ok (.ifCond .eq 11, 3) := by decide +kernel
theorem dX7_slot_95 : decode cX7_slot 95 = .ok (.iload_n 2, 1) := by decide +kernel
theorem dX7_slot_96 : decode cX7_slot 96 = .ok (.sipush 1024, 3) := by decide +kernel
theorem dX7_slot_99 : decode cX7_slot 99 = .ok (.ior, 1) := by decide +kernel
theorem dX7_slot_100 : decode cX7_slot 100 = .ok (.goto 4, 3) := by decide +kernel
theorem dX7_slot_103 : decode cX7_slot 103 = .ok (.iload_n 2, 1) := by decide +kernel
theorem dX7_slot_104 : decode cX7_slot 104 = .ok (.iload 4, 2) := by decide +kernel
theorem dX7_slot_106 : decode cX7_slot 106 = .ok (.invokevirtual 77, 3) := by decide +kernel
theorem dX7_slot_109 : decode cX7_slot 109 = .ok (.aload 6, 2) := by decide +kernel
theorem dX7_slot_111 : decode cX7_slot 111 = .ok (.getfield 80, 3) := by decide +kernel
theorem dX7_slot_114 : decode cX7_slot 114 = .ok (.ifCond .eq 21, 3) := by decide +kernel
theorem dX7_slot_117 : decode cX7_slot 117 = .ok (.aload 6, 2) := by decide +kernel
theorem dX7_slot_119 : decode cX7_slot 119 = .ok (.getfield 80, 3) := by decide +kernel
theorem dX7_slot_122 : decode cX7_slot 122 = .ok (.invokestatic 83, 3) := by decide +kernel
theorem dX7_slot_125 : decode cX7_slot 125 = .ok (.istore 7, 2) := by decide +kernel
theorem dX7_slot_127 : decode cX7_slot 127 = .ok (.aload 6, 2) := by decide +kernel
theorem dX7_slot_129 : decode cX7_slot 129 = .ok (.invokevirtual 87, 3) := by decide +kernel
theorem dX7_slot_132 : decode cX7_slot 132 = .ok (.iload 7, 2) := by decide +kernel
theorem dX7_slot_134 : decode cX7_slot 134 = .ok (.ireturn, 1) := by decide +kernel
theorem dX7_slot_135 : decode cX7_slot 135 = .ok (.aload_n 0, 1) := by decide +kernel
theorem dX7_slot_136 : decode cX7_slot 136 = .ok (.getfield 38, 3) := by decide +kernel
theorem dX7_slot_139 : decode cX7_slot 139 = .ok (.invokevirtual 90, 3) := by decide +kernel
theorem dX7_slot_142 : decode cX7_slot 142 = .ok (.iconst (-1), 1) := by decide +kernel
theorem dX7_slot_143 : decode cX7_slot 143 = .ok (.ireturn, 1) := by decide +kernel
theorem dX7_empty_0 : decode cX7_empty 0 = .ok (.iload_n 1, 1) := by decide +kernel
theorem dX7_empty_1 : decode cX7_empty 1 = .ok (.bipush 10, 2) := by decide +kernel
theorem dX7_empty_3 : decode cX7_empty 3 = .ok (.invokestatic 51, 3) := by decide +kernel
theorem dX7_empty_6 : decode cX7_empty 6 = .ok (.aload_n 0, 1) := by decide +kernel
theorem dX7_empty_7 : decode cX7_empty 7 = .ok (.getfield 12, 3) := by decide +kernel
theorem dX7_empty_10 : decode cX7_empty 10 = .ok (.getfield 62, 3) := by decide +kernel
theorem dX7_empty_13 : decode cX7_empty 13 = .ok (.iload_n 1, 1) := by decide +kernel
theorem dX7_empty_14 : decode cX7_empty 14 = .ok (.aaload, 1) := by decide +kernel
theorem dX7_empty_15 : decode cX7_empty 15 = .ok (.getfield 66, 3) := by decide +kernel
theorem dX7_empty_18 : decode cX7_empty 18 = .ok (.istore_n 2, 1) := by decide +kernel
theorem dX7_empty_19 : decode cX7_empty 19 = .ok (.aload_n 0, 1) := by decide +kernel
theorem dX7_empty_20 : decode cX7_empty 20 = .ok (.getfield 12, 3) := by decide +kernel
theorem dX7_empty_23 : decode cX7_empty 23 = .ok (.getfield 62, 3) := by decide +kernel
theorem dX7_empty_26 : decode cX7_empty 26 = .ok (.iload_n 1, 1) := by decide +kernel
theorem dX7_empty_27 : decode cX7_empty 27 = .ok (.aaload, 1) := by decide +kernel
theorem dX7_empty_28 : decode cX7_empty 28 = .ok (.invokevirtual 93, 3) := by decide +kernel
theorem dX7_empty_31 : decode cX7_empty 31 = .ok (.aload_n 0, 1) := by decide +kernel
theorem dX7_empty_32 : decode cX7_empty 32 = .ok (.getfield 38, 3) := by decide +kernel
theorem dX7_empty_35 : decode cX7_empty 35 = .ok (.invokevirtual 90, 3) := by decide +kernel
theorem dX7_empty_38 : decode cX7_empty 38 = .ok (.iload_n 2, 1) := by decide +kernel
theorem dX7_empty_39 : decode cX7_empty 39 = .ok (.ireturn, 1) := by decide +kernel
theorem dX7_except_0 : decode cX7_except 0 = .ok (.iload_n 1, 1) := by decide +kernel
theorem dX7_except_1 : decode cX7_except 1 = .ok (.bipush 10, 2) := by decide +kernel
theorem dX7_except_3 : decode cX7_except 3 = .ok (.invokestatic 51, 3) := by decide +kernel
theorem dX7_except_6 : decode cX7_except 6 = .ok (.iload_n 2, 1) := by decide +kernel
theorem dX7_except_7 : decode cX7_except 7 = .ok (.ifCond .lt 21, 3) := by decide +kernel
theorem dX7_except_10 : decode cX7_except 10 = .ok (.iload_n 2, 1) := by decide +kernel
theorem dX7_except_11 : decode cX7_except 11 = .ok (.sipush 1024, 3) := by decide +kernel
theorem dX7_except_14 : decode cX7_except 14 = .ok (.if_icmp .ge 14, 3) := by decide +kernel
theorem dX7_except_17 : decode cX7_except 17 = .ok (.iload_n 3, 1) := by decide +kernel
theorem dX7_except_18 : decode cX7_except 18 = .ok (.ifCond .lt 10, 3) := by decide +kernel
theorem dX7_except_21 : decode cX7_except 21 = .ok (.iload_n 3, 1) := by decide +kernel
theorem dX7_except_22 : decode cX7_except 22 = .ok (.sipush 1024, 3) := by decide +kernel
theorem dX7_except_25 : decode cX7_except 25 = .ok (.if_icmp .lt 13, 3) := by decide +kernel
theorem dX7_except_28 : decode cX7_except 28 = .ok (.new 55, 3) := by decide +kernel
theorem dX7_except_31 : decode cX7_except 31 = .ok (.dup, 1) := by decide +kernel
theorem dX7_except_32 : decode cX7_except 32 = .ok (.ldc 96, 2) := by decide +kernel
theorem dX7_except_34 : decode cX7_except 34 = .ok (.invokespecial 59, 3) := by decide +kernel
theorem dX7_except_37 : decode cX7_except 37 = .ok (.athrow, 1) := by decide +kernel
theorem dX7_except_38 : decode cX7_except 38 = .ok (.aload_n 0, 1) := by decide +kernel
theorem dX7_except_39 : decode cX7_except 39 = .ok (.getfield 12, 3) := by decide +kernel
theorem dX7_except_42 : decode cX7_except 42 = .ok (.getfield 98, 3) := by decide +kernel
theorem dX7_except_45 : decode cX7_except 45 = .ok (.iload_n 1, 1) := by decide +kernel
theorem dX7_except_46 : decode cX7_except 46 = .ok (.iload_n 2, 1) := by decide +kernel
theorem dX7_except_47 : decode cX7_except 47 = .ok (.iastore, 1) := by decide +kernel
theorem dX7_except_48 : decode cX7_except 48 = .ok (.aload_n 0, 1) := by decide +kernel
theorem dX7_except_49 : decode cX7_except 49 = .ok (.getfield 12, 3) := by decide +kernel
theorem dX7_except_52 : decode cX7_except 52 = .ok (.getfield 101, 3) := by decide +kernel
theorem dX7_except_55 : decode cX7_except 55 = .ok (.iload_n 1, 1) := by decide +kernel
theorem dX7_except_56 : decode cX7_except 56 = .ok (.iload_n 3, 1) := by decide +kernel
theorem dX7_except_57 : decode cX7_except 57 = .ok (.iastore, 1) := by decide +kernel
theorem dX7_except_58 : decode cX7_except 58 = .ok (.aload_n 0, 1) := by decide +kernel
theorem dX7_except_59 : decode cX7_except 59 = .ok (.getfield 38, 3) := by decide +kernel
theorem dX7_except_62 : decode cX7_except 62 = .ok (.invokevirtual 90, 3) := by decide +kernel
theorem dX7_except_65 : decode cX7_except 65 = .ok (.return_, 1) := by decide +kernel
theorem dX7_omit_0 : decode cX7_omit 0 = .ok (.iload_n 1, 1) := by decide +kernel
theorem dX7_omit_1 : decode cX7_omit 1 = .ok (.bipush 10, 2) := by decide +kernel
theorem dX7_omit_3 : decode cX7_omit 3 = .ok (.invokestatic 51, 3) := by decide +kernel
theorem dX7_omit_6 : decode cX7_omit 6 = .ok (.aload_n 0, 1) := by decide +kernel
theorem dX7_omit_7 : decode cX7_omit 7 = .ok (.getfield 12, 3) := by decide +kernel
theorem dX7_omit_10 : decode cX7_omit 10 = .ok (.getfield 104, 3) := by decide +kernel
theorem dX7_omit_13 : decode cX7_omit 13 = .ok (.iload_n 1, 1) := by decide +kernel
theorem dX7_omit_14 : decode cX7_omit 14 = .ok (.iload_n 2, 1) := by decide +kernel
theorem dX7_omit_15 : decode cX7_omit 15 = .ok (.bastore, 1) := by decide +kernel
theorem dX7_omit_16 : decode cX7_omit 16 = .ok (.aload_n 0, 1) := by decide +kernel
theorem dX7_omit_17 : decode cX7_omit 17 = .ok (.getfield 12, 3) := by decide +kernel
theorem dX7_omit_20 : decode cX7_omit 20 = .ok (.getfield 108, 3) := by decide +kernel
theorem dX7_omit_23 : decode cX7_omit 23 = .ok (.iload_n 1, 1) := by decide +kernel
theorem dX7_omit_24 : decode cX7_omit 24 = .ok (.iload_n 3, 1) := by decide +kernel
theorem dX7_omit_25 : decode cX7_omit 25 = .ok (.bastore, 1) := by decide +kernel
theorem dX7_omit_26 : decode cX7_omit 26 = .ok (.aload_n 0, 1) := by decide +kernel
theorem dX7_omit_27 : decode cX7_omit 27 = .ok (.getfield 38, 3) := by decide +kernel
theorem dX7_omit_30 : decode cX7_omit 30 = .ok (.invokevirtual 90, 3) := by decide +kernel
theorem dX7_omit_33 : decode cX7_omit 33 = .ok (.return_, 1) := by decide +kernel
theorem dX7_entity_0 : decode cX7_entity 0 = .ok (.iload_n 1, 1) := by decide +kernel
theorem dX7_entity_1 : decode cX7_entity 1 = .ok (.bipush 6, 2) := by decide +kernel
theorem dX7_entity_3 : decode cX7_entity 3 = .ok (.invokestatic 51, 3) := by decide +kernel
theorem dX7_entity_6 : decode cX7_entity 6 = .ok (.iload_n 2, 1) := by decide +kernel
theorem dX7_entity_7 : decode cX7_entity 7 = .ok (.iload_n 3, 1) := by decide +kernel
theorem dX7_entity_8 : decode cX7_entity 8 = .ok (.invokestatic 111, 3) := by decide +kernel
theorem dX7_entity_11 : decode cX7_entity 11 = .ok (.aload_n 0, 1) := by decide +kernel
theorem dX7_entity_12 : decode cX7_entity 12 = .ok (.getfield 25, 3) := by decide +kernel
theorem dX7_entity_15 : decode cX7_entity 15 = .ok (.iload_n 1, 1) := by decide +kernel
theorem dX7_entity_16 : decode cX7_entity 16 = .ok (.aaload, 1) := by decide +kernel
theorem dX7_entity_17 : decode cX7_entity 17 = .ok (.astore 4, 2) := by decide +kernel
theorem dX7_entity_19 : decode cX7_entity 19 = .ok (.aload 4, 2) := by decide +kernel
theorem dX7_entity_21 : decode cX7_entity 21 = .ok (.getfield 114, 3) := by decide +kernel
theorem dX7_entity_24 : decode cX7_entity 24 = .ok (.bipush 6, 2) := by decide +kernel
theorem dX7_entity_26 : decode cX7_entity 26 = .ok (.if_icmp .lt 13, 3) := by decide +kernel
theorem dX7_entity_29 : decode cX7_entity 29 = .ok (.new 72, 3) := by decide +kernel
theorem dX7_entity_32 : decode cX7_entity 32 = .ok (.dup, 1) := by decide +kernel
theorem dX7_entity_33 : decode cX7_entity 33 = .ok (.ldc 117, 2) := by decide +kernel
theorem dX7_entity_35 : decode cX7_entity 35 = .ok (.invokespecial 76, 3) := by decide +kernel
theorem dX7_entity_38 : decode cX7_entity 38 = .ok (.athrow, 1) := by decide +kernel
theorem dX7_entity_39 : decode cX7_entity 39 = .ok (.aload 4, 2) := by decide +kernel
theorem dX7_entity_41 : decode cX7_entity 41 = .ok (.aload 4, 2) := by decide +kernel
theorem dX7_entity_43 : decode cX7_entity 43 = .ok (.getfield 114, 3) := by decide +kernel
theorem dX7_entity_46 : decode cX7_entity 46 = .ok (.iload_n 2, 1) := by decide +kernel
theorem dX7_entity_47 : decode cX7_entity 47 = .ok (.iload_n 3, 1) := by decide +kernel
theorem dX7_entity_48 : decode cX7_entity 48 = .ok (.invokevirtual 119, 3) := by decide +kernel
theorem dX7_entity_51 : decode cX7_entity 51 = .ok (.aload_n 0, 1) := by decide +kernel
theorem dX7_entity_52 : decode cX7_entity 52 = .ok (.getfield 38, 3) := by decide +kernel
theorem dX7_entity_55 : decode cX7_entity 55 = .ok (.invokevirtual 90, 3) := by decide +kernel
theorem dX7_entity_58 : decode cX7_entity 58 = .ok (.aload 4, 2) := by decide +kernel
theorem dX7_entity_60 : decode cX7_entity 60 = .ok (.getfield 114, 3) := by decide +kernel
theorem dX7_entity_63 : decode cX7_entity 63 = .ok (.ireturn, 1) := by decide +kernel
theorem dX7_clear_0 : decode cX7_clear 0 = .ok (.iload_n 1, 1) := by decide +kernel
theorem dX7_clear_1 : decode cX7_clear 1 = .ok (.bipush 6, 2) := by decide +kernel
theorem dX7_clear_3 : decode cX7_clear 3 = .ok (.invokestatic 51, 3) := by decide +kernel
theorem dX7_clear_6 : decode cX7_clear 6 = .ok (.aload_n 0, 1) := by decide +kernel
theorem dX7_clear_7 : decode cX7_clear 7 = .ok (.getfield 25, 3) := by decide +kernel
theorem dX7_clear_10 : decode cX7_clear 10 = .ok (.iload_n 1, 1) := by decide +kernel
theorem dX7_clear_11 : decode cX7_clear 11 = .ok (.aaload, 1) := by decide +kernel
theorem dX7_clear_12 : decode cX7_clear 12 = .ok (.getfield 114, 3) := by decide +kernel
theorem dX7_clear_15 : decode cX7_clear 15 = .ok (.istore_n 2, 1) := by decide +kernel
theorem dX7_clear_16 : decode cX7_clear 16 = .ok (.aload_n 0, 1) := by decide +kernel
theorem dX7_clear_17 : decode cX7_clear 17 = .ok (.getfield 25, 3) := by decide +kernel
theorem dX7_clear_20 : decode cX7_clear 20 = .ok (.iload_n 1, 1) := by decide +kernel
theorem dX7_clear_21 : decode cX7_clear 21 = .ok (.aaload, 1) := by decide +kernel
theorem dX7_clear_22 : decode cX7_clear 22 = .ok (.iconst 0, 1) := by decide +kernel
theorem dX7_clear_23 : decode cX7_clear 23 = .ok (.putfield 114, 3) := by decide +kernel
theorem dX7_clear_26 : decode cX7_clear 26 = .ok (.aload_n 0, 1) := by decide +kernel
theorem dX7_clear_27 : decode cX7_clear 27 = .ok (.getfield 38, 3) := by decide +kernel
theorem dX7_clear_30 : decode cX7_clear 30 = .ok (.invokevirtual 90, 3) := by decide +kernel
theorem dX7_clear_33 : decode cX7_clear 33 = .ok (.iload_n 2, 1) := by decide +kernel
theorem dX7_clear_34 : decode cX7_clear 34 = .ok (.ireturn, 1) := by decide +kernel
theorem dX7_flip_0 : decode cX7_flip 0 = .ok (.iload_n 1, 1) := by decide +kernel
theorem dX7_flip_1 : decode cX7_flip 1 = .ok (.iconst 4, 1) := by decide +kernel
theorem dX7_flip_2 : decode cX7_flip 2 = .ok (.invokestatic 51, 3) := by decide +kernel
theorem dX7_flip_5 : decode cX7_flip 5 = .ok (.iload_n 2, 1) := by decide +kernel
theorem dX7_flip_6 : decode cX7_flip 6 = .ok (.ifCond .lt 8, 3) := by decide +kernel
theorem dX7_flip_9 : decode cX7_flip 9 = .ok (.iload_n 2, 1) := by decide +kernel
theorem dX7_flip_10 : decode cX7_flip 10 = .ok (.iconst 2, 1) := by decide +kernel
theorem dX7_flip_11 : decode cX7_flip 11 = .ok (.if_icmp .le 13, 3) := by decide +kernel
theorem dX7_flip_14 : decode cX7_flip 14 = .ok (.new 55, 3) := by decide +kernel
theorem dX7_flip_17 : decode cX7_flip 17 = .ok (.dup, 1) := by decide +kernel
theorem dX7_flip_18 : decode cX7_flip 18 = .ok (.ldc 123, 2) := by decide +kernel
theorem dX7_flip_20 : decode cX7_flip 20 = .ok (.invokespecial 59, 3) := by decide +kernel
theorem dX7_flip_23 : decode cX7_flip 23 = .ok (.athrow, 1) := by decide +kernel
theorem dX7_flip_24 : decode cX7_flip 24 = .ok (.aload_n 0, 1) := by decide +kernel
theorem dX7_flip_25 : decode cX7_flip 25 = .ok (.getfield 29, 3) := by decide +kernel
theorem dX7_flip_28 : decode cX7_flip 28 = .ok (.iload_n 1, 1) := by decide +kernel
theorem dX7_flip_29 : decode cX7_flip 29 = .ok (.iaload, 1) := by decide +kernel
theorem dX7_flip_30 : decode cX7_flip 30 = .ok (.istore_n 3, 1) := by decide +kernel
theorem dX7_flip_31 : decode cX7_flip 31 = .ok (.aload_n 0, 1) := by decide +kernel
theorem dX7_flip_32 : decode cX7_flip 32 = .ok (.getfield 29, 3) := by decide +kernel
theorem dX7_flip_35 : decode cX7_flip 35 = .ok (.iload_n 1, 1) := by decide +kernel
theorem dX7_flip_36 : decode cX7_flip 36 = .ok (.iload_n 2, 1) := by decide +kernel
theorem dX7_flip_37 : decode cX7_flip 37 = .ok (.iastore, 1) := by decide +kernel
theorem dX7_flip_38 : decode cX7_flip 38 = .ok (.aload_n 0, 1) := by decide +kernel
theorem dX7_flip_39 : decode cX7_flip 39 = .ok (.getfield 38, 3) := by decide +kernel
theorem dX7_flip_42 : decode cX7_flip 42 = .ok (.invokevirtual 90, 3) := by decide +kernel
theorem dX7_flip_45 : decode cX7_flip 45 = .ok (.iload_n 3, 1) := by decide +kernel
theorem dX7_flip_46 : decode cX7_flip 46 = .ok (.ireturn, 1) := by decide +kernel
theorem dX7_insert_0 : decode cX7_insert 0 = .ok (.iload_n 1, 1) := by decide +kernel
theorem dX7_insert_1 : decode cX7_insert 1 = .ok (.aload_n 0, 1) := by decide +kernel
theorem dX7_insert_2 : decode cX7_insert 2 = .ok (.getfield 21, 3) := by decide +kernel
theorem dX7_insert_5 : decode cX7_insert 5 = .ok (.getfield 114, 3) := by decide +kernel
theorem dX7_insert_8 : decode cX7_insert 8 = .ok (.iconst 1, 1) := by decide +kernel
theorem dX7_insert_9 : decode cX7_insert 9 = .ok (.iadd, 1) := by decide +kernel
theorem dX7_insert_10 : decode cX7_insert 10 = .ok (.invokestatic 51, 3) := by decide +kernel
theorem dX7_insert_13 : decode cX7_insert 13 = .ok (.iload_n 2, 1) := by decide +kernel
theorem dX7_insert_14 : decode cX7_insert 14 = .ok (.iload_n 3, 1) := by decide +kernel
theorem dX7_insert_15 : decode cX7_insert 15 = .ok (.invokestatic 111, 3) := by decide +kernel
theorem dX7_insert_18 : decode cX7_insert 18 = .ok (.aload_n 0, 1) := by decide +kernel
theorem dX7_insert_19 : decode cX7_insert 19 = .ok (.getfield 21, 3) := by decide +kernel
theorem dX7_insert_22 : decode cX7_insert 22 = .ok (.getfield 114, 3) := by decide +kernel
theorem dX7_insert_25 : decode cX7_insert 25 = .ok (.bipush 60, 2) := by decide +kernel
theorem dX7_insert_27 : decode cX7_insert 27 = .ok (.if_icmp .lt 13, 3) := by decide +kernel
theorem dX7_insert_30 : decode cX7_insert 30 = .ok (.new 72, 3) := by decide +kernel
theorem dX7_insert_33 : decode cX7_insert 33 = .ok (.dup, 1) := by decide +kernel
theorem dX7_insert_34 : decode cX7_insert 34 = .ok (.ldc 125, 2) := by decide +kernel
theorem dX7_insert_36 : decode cX7_insert 36 = .ok (.invokespecial 76, 3) := by decide +kernel
theorem dX7_insert_39 : decode cX7_insert 39 = .ok (.athrow, 1) := by decide +kernel
theorem dX7_insert_40 : decode cX7_insert 40 = .ok (.aload_n 0, 1) := by decide +kernel
theorem dX7_insert_41 : decode cX7_insert 41 = .ok (.getfield 21, 3) := by decide +kernel
theorem dX7_insert_44 : decode cX7_insert 44 = .ok (.iload_n 1, 1) := by decide +kernel
theorem dX7_insert_45 : decode cX7_insert 45 = .ok (.iload_n 2, 1) := by decide +kernel
theorem dX7_insert_46 : decode cX7_insert 46 = .ok (.iload_n 3, 1) := by decide +kernel
theorem dX7_insert_47 : decode cX7_insert 47 = .ok (.invokevirtual 119, 3) := by decide +kernel
theorem dX7_insert_50 : decode cX7_insert 50 = .ok (.aload_n 0, 1) := by decide +kernel
theorem dX7_insert_51 : decode cX7_insert 51 = .ok (.getfield 38, 3) := by decide +kernel
theorem dX7_insert_54 : decode cX7_insert 54 = .ok (.invokevirtual 90, 3) := by decide +kernel
theorem dX7_insert_57 : decode cX7_insert 57 = .ok (.aload_n 0, 1) := by decide +kernel
theorem dX7_insert_58 : decode cX7_insert 58 = .ok (.getfield 38, 3) := by decide +kernel
theorem dX7_insert_61 : decode cX7_insert 61 = .ok (.iload_n 1, 1) := by decide +kernel
theorem dX7_insert_62 : decode cX7_insert 62 = .ok (.iload_n 1, 1) := by decide +kernel
theorem dX7_insert_63 : decode cX7_insert 63 = .ok (.iconst 1, 1) := by decide +kernel
theorem dX7_insert_64 : decode cX7_insert 64 = .ok (.iadd, 1) := by decide +kernel
theorem dX7_insert_65 : decode cX7_insert 65 = .ok (.iconst (-1), 1) := by decide +kernel
theorem dX7_insert_66 : decode cX7_insert 66 = .ok (.invokevirtual 127, 3) := by decide +kernel
theorem dX7_insert_69 : decode cX7_insert 69 = .ok (.aload_n 0, 1) := by decide +kernel
theorem dX7_insert_70 : decode cX7_insert 70 = .ok (.getfield 21, 3) := by decide +kernel
theorem dX7_insert_73 : decode cX7_insert 73 = .ok (.getfield 114, 3) := by decide +kernel
theorem dX7_insert_76 : decode cX7_insert 76 = .ok (.ireturn, 1) := by decide +kernel
theorem dX7_erase_0 : decode cX7_erase 0 = .ok (.iload_n 1, 1) := by decide +kernel
theorem dX7_erase_1 : decode cX7_erase 1 = .ok (.aload_n 0, 1) := by decide +kernel
theorem dX7_erase_2 : decode cX7_erase 2 = .ok (.getfield 21, 3) := by decide +kernel
theorem dX7_erase_5 : decode cX7_erase 5 = .ok (.getfield 114, 3) := by decide +kernel
theorem dX7_erase_8 : decode cX7_erase 8 = .ok (.invokestatic 51, 3) := by decide +kernel
theorem dX7_erase_11 : decode cX7_erase 11 = .ok (.aload_n 0, 1) := by decide +kernel
theorem dX7_erase_12 : decode cX7_erase 12 = .ok (.getfield 21, 3) := by decide +kernel
theorem dX7_erase_15 : decode cX7_erase 15 = .ok (.iload_n 1, 1) := by decide +kernel
theorem dX7_erase_16 : decode cX7_erase 16 = .ok (.invokevirtual 130, 3) := by decide +kernel
theorem dX7_erase_19 : decode cX7_erase 19 = .ok (.aload_n 0, 1) := by decide +kernel
theorem dX7_erase_20 : decode cX7_erase 20 = .ok (.getfield 38, 3) := by decide +kernel
theorem dX7_erase_23 : decode cX7_erase 23 = .ok (.invokevirtual 90, 3) := by decide +kernel
theorem dX7_erase_26 : decode cX7_erase 26 = .ok (.aload_n 0, 1) := by decide +kernel
theorem dX7_erase_27 : decode cX7_erase 27 = .ok (.getfield 38, 3) := by decide +kernel
theorem dX7_erase_30 : decode cX7_erase 30 = .ok (.iload_n 1, 1) := by decide +kernel
theorem dX7_erase_31 : decode cX7_erase 31 = .ok (.iload_n 1, 1) := by decide +kernel
theorem dX7_erase_32 : decode cX7_erase 32 = .ok (.iconst 1, 1) := by decide +kernel
theorem dX7_erase_33 : decode cX7_erase 33 = .ok (.invokevirtual 127, 3) := by decide +kernel
theorem dX7_erase_36 : decode cX7_erase 36 = .ok (.aload_n 0, 1) := by decide +kernel
theorem dX7_erase_37 : decode cX7_erase 37 = .ok (.getfield 21, 3) := by decide +kernel
theorem dX7_erase_40 : decode cX7_erase 40 = .ok (.getfield 114, 3) := by decide +kernel
theorem dX7_erase_43 : decode cX7_erase 43 = .ok (.ireturn, 1) := by decide +kernel
theorem dX7_length_0 : decode cX7_length 0 = .ok (.aload_n 0, 1) := by decide +kernel
theorem dX7_length_1 : decode cX7_length 1 = .ok (.getfield 21, 3) := by decide +kernel
theorem dX7_length_4 : decode cX7_length 4 = .ok (.getfield 114, 3) := by decide +kernel
theorem dX7_length_7 : decode cX7_length 7 = .ok (.ireturn, 1) := by decide +kernel
theorem dX7_anew_0 : decode cX7_anew 0 = .ok (.aload_n 0, 1) := by decide +kernel
theorem dX7_anew_1 : decode cX7_anew 1 = .ok (.getfield 38, 3) := by decide +kernel
theorem dX7_anew_4 : decode cX7_anew 4 = .ok (.getfield 142, 3) := by decide +kernel
theorem dX7_anew_7 : decode cX7_anew 7 = .ok (.ireturn, 1) := by decide +kernel
theorem dX7_open_0 : decode cX7_open 0 = .ok (.iload_n 1, 1) := by decide +kernel
theorem dX7_open_1 : decode cX7_open 1 = .ok (.aload_n 0, 1) := by decide +kernel
theorem dX7_open_2 : decode cX7_open 2 = .ok (.getfield 21, 3) := by decide +kernel
theorem dX7_open_5 : decode cX7_open 5 = .ok (.getfield 114, 3) := by decide +kernel
theorem dX7_open_8 : decode cX7_open 8 = .ok (.iconst 1, 1) := by decide +kernel
theorem dX7_open_9 : decode cX7_open 9 = .ok (.iadd, 1) := by decide +kernel
theorem dX7_open_10 : decode cX7_open 10 = .ok (.invokestatic 51, 3) := by decide +kernel
theorem dX7_open_13 : decode cX7_open 13 = .ok (.aload_n 0, 1) := by decide +kernel
theorem dX7_open_14 : decode cX7_open 14 = .ok (.getfield 38, 3) := by decide +kernel
theorem dX7_open_17 : decode cX7_open 17 = .ok (.getfield 145, 3) := by decide +kernel
theorem dX7_open_20 : decode cX7_open 20 = .ok (.iload_n 1, 1) := by decide +kernel
theorem dX7_open_21 : decode cX7_open 21 = .ok (.aaload, 1) := by decide +kernel
theorem dX7_open_22 : decode cX7_open 22 = .ok (.getfield 149, 3) := by decide +kernel
theorem dX7_open_25 : decode cX7_open 25 = .ok (.ireturn, 1) := by decide +kernel
theorem dX7_current_0 : decode cX7_current 0 = .ok (.iload_n 1, 1) := by decide +kernel
theorem dX7_current_1 : decode cX7_current 1 = .ok (.aload_n 0, 1) := by decide +kernel
theorem dX7_current_2 : decode cX7_current 2 = .ok (.getfield 21, 3) := by decide +kernel
theorem dX7_current_5 : decode cX7_current 5 = .ok (.getfield 114, 3) := by decide +kernel
theorem dX7_current_8 : decode cX7_current 8 = .ok (.iconst 1, 1) := by decide +kernel
theorem dX7_current_9 : decode cX7_current 9 = .ok (.iadd, 1) := by decide +kernel
theorem dX7_current_10 : decode cX7_current 10 = .ok (.invokestatic 51, 3) := by decide +kernel
theorem dX7_current_13 : decode cX7_current 13 = .ok (.aload_n 0, 1) := by decide +kernel
theorem dX7_current_14 : decode cX7_current 14 = .ok (.getfield 38, 3) := by decide +kernel
theorem dX7_current_17 : decode cX7_current 17 = .ok (.getfield 145, 3) := by decide +kernel
theorem dX7_current_20 : decode cX7_current 20 = .ok (.iload_n 1, 1) := by decide +kernel
theorem dX7_current_21 : decode cX7_current 21 = .ok (.aaload, 1) := by decide +kernel
theorem dX7_current_22 : decode cX7_current 22 = .ok (.invokevirtual 154, 3) := by decide +kernel
theorem dX7_current_25 : decode cX7_current 25 = .ok (.ireturn, 1) := by decide +kernel
theorem dX7_next_0 : decode cX7_next 0 = .ok (.iload_n 1, 1) := by decide +kernel
theorem dX7_next_1 : decode cX7_next 1 = .ok (.aload_n 0, 1) := by decide +kernel
theorem dX7_next_2 : decode cX7_next 2 = .ok (.getfield 21, 3) := by decide +kernel
theorem dX7_next_5 : decode cX7_next 5 = .ok (.getfield 114, 3) := by decide +kernel
theorem dX7_next_8 : decode cX7_next 8 = .ok (.iconst 1, 1) := by decide +kernel
theorem dX7_next_9 : decode cX7_next 9 = .ok (.iadd, 1) := by decide +kernel
theorem dX7_next_10 : decode cX7_next 10 = .ok (.invokestatic 51, 3) := by decide +kernel
theorem dX7_next_13 : decode cX7_next 13 = .ok (.aload_n 0, 1) := by decide +kernel
theorem dX7_next_14 : decode cX7_next 14 = .ok (.getfield 38, 3) := by decide +kernel
theorem dX7_next_17 : decode cX7_next 17 = .ok (.getfield 145, 3) := by decide +kernel
theorem dX7_next_20 : decode cX7_next 20 = .ok (.iload_n 1, 1) := by decide +kernel
theorem dX7_next_21 : decode cX7_next 21 = .ok (.aaload, 1) := by decide +kernel
theorem dX7_next_22 : decode cX7_next 22 = .ok (.invokevirtual 158, 3) := by decide +kernel
theorem dX7_next_25 : decode cX7_next 25 = .ok (.ireturn, 1) := by decide +kernel
theorem dX7_things_0 : decode cX7_things 0 = .ok (.aload_n 0, 1) := by decide +kernel
theorem dX7_things_1 : decode cX7_things 1 = .ok (.getfield 38, 3) := by decide +kernel
theorem dX7_things_4 : decode cX7_things 4 = .ok (.getfield 161, 3) := by decide +kernel
theorem dX7_things_7 : decode cX7_things 7 = .ok (.getfield 165, 3) := by decide +kernel
theorem dX7_things_10 : decode cX7_things 10 = .ok (.ireturn, 1) := by decide +kernel
theorem dX7_kind_0 : decode cX7_kind 0 = .ok (.iload_n 1, 1) := by decide +kernel
theorem dX7_kind_1 : decode cX7_kind 1 = .ok (.aload_n 0, 1) := by decide +kernel
theorem dX7_kind_2 : decode cX7_kind 2 = .ok (.getfield 38, 3) := by decide +kernel
theorem dX7_kind_5 : decode cX7_kind 5 = .ok (.getfield 161, 3) := by decide +kernel
theorem dX7_kind_8 : decode cX7_kind 8 = .ok (.getfield 165, 3) := by decide +kernel
theorem dX7_kind_11 : decode cX7_kind 11 = .ok (.invokestatic 51, 3) := by decide +kernel
theorem dX7_kind_14 : decode cX7_kind 14 = .ok (.aload_n 0, 1) := by decide +kernel
theorem dX7_kind_15 : decode cX7_kind 15 = .ok (.getfield 38, 3) := by decide +kernel
theorem dX7_kind_18 : decode cX7_kind 18 = .ok (.getfield 161, 3) := by decide +kernel
theorem dX7_kind_21 : decode cX7_kind 21 = .ok (.getfield 168, 3) := by decide +kernel
theorem dX7_kind_24 : decode cX7_kind 24 = .ok (.iload_n 1, 1) := by decide +kernel
theorem dX7_kind_25 : decode cX7_kind 25 = .ok (.iaload, 1) := by decide +kernel
theorem dX7_kind_26 : decode cX7_kind 26 = .ok (.ireturn, 1) := by decide +kernel
theorem dX7_parent_0 : decode cX7_parent 0 = .ok (.iload_n 1, 1) := by decide +kernel
theorem dX7_parent_1 : decode cX7_parent 1 = .ok (.aload_n 0, 1) := by decide +kernel
theorem dX7_parent_2 : decode cX7_parent 2 = .ok (.getfield 38, 3) := by decide +kernel
theorem dX7_parent_5 : decode cX7_parent 5 = .ok (.getfield 161, 3) := by decide +kernel
theorem dX7_parent_8 : decode cX7_parent 8 = .ok (.getfield 165, 3) := by decide +kernel
theorem dX7_parent_11 : decode cX7_parent 11 = .ok (.invokestatic 51, 3) := by decide +kernel
theorem dX7_parent_14 : decode cX7_parent 14 = .ok (.aload_n 0, 1) := by decide +kernel
theorem dX7_parent_15 : decode cX7_parent 15 = .ok (.getfield 38, 3) := by decide +kernel
theorem dX7_parent_18 : decode cX7_parent 18 = .ok (.getfield 161, 3) := by decide +kernel
theorem dX7_parent_21 : decode cX7_parent 21 = .ok (.getfield 171, 3) := by decide +kernel
theorem dX7_parent_24 : decode cX7_parent 24 = .ok (.iload_n 1, 1) := by decide +kernel
theorem dX7_parent_25 : decode cX7_parent 25 = .ok (.iaload, 1) := by decide +kernel
theorem dX7_parent_26 : decode cX7_parent 26 = .ok (.ireturn, 1) := by decide +kernel
theorem dX7_letter_0 : decode cX7_letter 0 = .ok (.iload_n 1, 1) := by decide +kernel
theorem dX7_letter_1 : decode cX7_letter 1 = .ok (.aload_n 0, 1) := by decide +kernel
theorem dX7_letter_2 : decode cX7_letter 2 = .ok (.getfield 38, 3) := by decide +kernel
theorem dX7_letter_5 : decode cX7_letter 5 = .ok (.getfield 161, 3) := by decide +kernel
theorem dX7_letter_8 : decode cX7_letter 8 = .ok (.getfield 165, 3) := by decide +kernel
theorem dX7_letter_11 : decode cX7_letter 11 = .ok (.invokestatic 51, 3) := by decide +kernel
theorem dX7_letter_14 : decode cX7_letter 14 = .ok (.aload_n 0, 1) := by decide +kernel
theorem dX7_letter_15 : decode cX7_letter 15 = .ok (.getfield 38, 3) := by decide +kernel
theorem dX7_letter_18 : decode cX7_letter 18 = .ok (.getfield 161, 3) := by decide +kernel
theorem dX7_letter_21 : decode cX7_letter 21 = .ok (.getfield 174, 3) := by decide +kernel
theorem dX7_letter_24 : decode cX7_letter 24 = .ok (.iload_n 1, 1) := by decide +kernel
theorem dX7_letter_25 : decode cX7_letter 25 = .ok (.caload, 1) := by decide +kernel
theorem dX7_letter_26 : decode cX7_letter 26 = .ok (.ireturn, 1) := by decide +kernel
theorem dX7_placeOf_0 : decode cX7_placeOf 0 = .ok (.iload_n 1, 1) := by decide +kernel
theorem dX7_placeOf_1 : decode cX7_placeOf 1 = .ok (.aload_n 0, 1) := by decide +kernel
theorem dX7_placeOf_2 : decode cX7_placeOf 2 = .ok (.getfield 38, 3) := by decide +kernel
theorem dX7_placeOf_5 : decode cX7_placeOf 5 = .ok (.getfield 161, 3) := by decide +kernel
theorem dX7_placeOf_8 : decode cX7_placeOf 8 = .ok (.getfield 165, 3) := by decide +kernel
theorem dX7_placeOf_11 : decode cX7_placeOf 11 = .ok (.invokestatic 51, 3) := by decide +kernel
theorem dX7_placeOf_14 : decode cX7_placeOf 14 = .ok (.aload_n 0, 1) := by decide +kernel
theorem dX7_placeOf_15 : decode cX7_placeOf 15 = .ok (.getfield 38, 3) := by decide +kernel
theorem dX7_placeOf_18 : decode cX7_placeOf 18 = .ok (.getfield 161, 3) := by decide +kernel
theorem dX7_placeOf_21 : decode cX7_placeOf 21 = .ok (.getfield 178, 3) := by decide +kernel
theorem dX7_placeOf_24 : decode cX7_placeOf 24 = .ok (.iload_n 1, 1) := by decide +kernel
theorem dX7_placeOf_25 : decode cX7_placeOf 25 = .ok (.iaload, 1) := by decide +kernel
theorem dX7_placeOf_26 : decode cX7_placeOf 26 = .ok (.ireturn, 1) := by decide +kernel
theorem dX7_isPutIn_0 : decode cX7_isPutIn 0 = .ok (.iload_n 1, 1) := by decide +kernel
theorem dX7_isPutIn_1 : decode cX7_isPutIn 1 = .ok (.aload_n 0, 1) := by decide +kernel
theorem dX7_isPutIn_2 : decode cX7_isPutIn 2 = .ok (.getfield 38, 3) := by decide +kernel
theorem dX7_isPutIn_5 : decode cX7_isPutIn 5 = .ok (.getfield 161, 3) := by decide +kernel
theorem dX7_isPutIn_8 : decode cX7_isPutIn 8 = .ok (.getfield 165, 3) := by decide +kernel
theorem dX7_isPutIn_11 : decode cX7_isPutIn 11 = .ok (.invokestatic 51, 3) := by decide +kernel
theorem dX7_isPutIn_14 : decode cX7_isPutIn 14 = .ok (.aload_n 0, 1) := by decide +kernel
theorem dX7_isPutIn_15 : decode cX7_isPutIn 15 = .ok (.getfield 38, 3) := by decide +kernel
theorem dX7_isPutIn_18 : decode cX7_isPutIn 18 = .ok (.getfield 161, 3) := by decide +kernel
theorem dX7_isPutIn_21 : decode cX7_isPutIn 21 = .ok (.getfield 181, 3) := by decide +kernel
theorem dX7_isPutIn_24 : decode cX7_isPutIn 24 = .ok (.iload_n 1, 1) := by decide +kernel
theorem dX7_isPutIn_25 : decode cX7_isPutIn 25 = .ok (.baload, 1) := by decide +kernel
theorem dX7_isPutIn_26 : decode cX7_isPutIn 26 = .ok (.ireturn, 1) := by decide +kernel
theorem dX7_endsPutIn_0 : decode cX7_endsPutIn 0 = .ok (.aload_n 0, 1) := by decide +kernel
theorem dX7_endsPutIn_1 : decode cX7_endsPutIn 1 = .ok (.getfield 38, 3) := by decide +kernel
theorem dX7_endsPutIn_4 : decode cX7_endsPutIn 4 = .ok (.getfield 184, 3) := by decide +kernel
theorem dX7_endsPutIn_7 : decode cX7_endsPutIn 7 = .ok (.ireturn, 1) := by decide +kernel
theorem dX7_errors_0 : decode cX7_errors 0 = .ok (.aload_n 0, 1) := by decide +kernel
theorem dX7_errors_1 : decode cX7_errors 1 = .ok (.getfield 38, 3) := by decide +kernel
theorem dX7_errors_4 : decode cX7_errors 4 = .ok (.getfield 187, 3) := by decide +kernel
theorem dX7_errors_7 : decode cX7_errors 7 = .ok (.ireturn, 1) := by decide +kernel
theorem dX7_errorKind_0 : decode cX7_errorKind 0 = .ok (.iload_n 1, 1) := by decide +kernel
theorem dX7_errorKind_1 : decode cX7_errorKind 1 = .ok (.aload_n 0, 1) := by decide +kernel
theorem dX7_errorKind_2 : decode cX7_errorKind 2 = .ok (.getfield 38, 3) := by decide +kernel
theorem dX7_errorKind_5 : decode cX7_errorKind 5 = .ok (.getfield 187, 3) := by decide +kernel
theorem dX7_errorKind_8 : decode cX7_errorKind 8 = .ok (.invokestatic 51, 3) := by decide +kernel
theorem dX7_errorKind_11 : decode cX7_errorKind 11 = .ok (.aload_n 0, 1) := by decide +kernel
theorem dX7_errorKind_12 : decode cX7_errorKind 12 = .ok (.getfield 38, 3) := by decide +kernel
theorem dX7_errorKind_15 : decode cX7_errorKind 15 = .ok (.getfield 190, 3) := by decide +kernel
theorem dX7_errorKind_18 : decode cX7_errorKind 18 = .ok (.iload_n 1, 1) := by decide +kernel
theorem dX7_errorKind_19 : decode cX7_errorKind 19 = .ok (.iaload, 1) := by decide +kernel
theorem dX7_errorKind_20 : decode cX7_errorKind 20 = .ok (.ireturn, 1) := by decide +kernel
theorem dX7_errorAt_0 : decode cX7_errorAt 0 = .ok (.iload_n 1, 1) := by decide +kernel
theorem dX7_errorAt_1 : decode cX7_errorAt 1 = .ok (.aload_n 0, 1) := by decide +kernel
theorem dX7_errorAt_2 : decode cX7_errorAt 2 = .ok (.getfield 38, 3) := by decide +kernel
theorem dX7_errorAt_5 : decode cX7_errorAt 5 = .ok (.getfield 187, 3) := by decide +kernel
theorem dX7_errorAt_8 : decode cX7_errorAt 8 = .ok (.invokestatic 51, 3) := by decide +kernel
theorem dX7_errorAt_11 : decode cX7_errorAt 11 = .ok (.aload_n 0, 1) := by decide +kernel
theorem dX7_errorAt_12 : decode cX7_errorAt 12 = .ok (.getfield 38, 3) := by decide +kernel
theorem dX7_errorAt_15 : decode cX7_errorAt 15 = .ok (.getfield 193, 3) := by decide +kernel
theorem dX7_errorAt_18 : decode cX7_errorAt 18 = .ok (.iload_n 1, 1) := by decide +kernel
theorem dX7_errorAt_19 : decode cX7_errorAt 19 = .ok (.iaload, 1) := by decide +kernel
theorem dX7_errorAt_20 : decode cX7_errorAt 20 = .ok (.ireturn, 1) := by decide +kernel
theorem dX7_normal_0 : decode cX7_normal 0 = .ok (.aload_n 0, 1) := by decide +kernel
theorem dX7_normal_1 : decode cX7_normal 1 = .ok (.getfield 38, 3) := by decide +kernel
theorem dX7_normal_4 : decode cX7_normal 4 = .ok (.getfield 133, 3) := by decide +kernel
theorem dX7_normal_7 : decode cX7_normal 7 = .ok (.getfield 114, 3) := by decide +kernel
theorem dX7_normal_10 : decode cX7_normal 10 = .ok (.ireturn, 1) := by decide +kernel
theorem dX7_isSame_0 : decode cX7_isSame 0 = .ok (.aload_n 0, 1) := by decide +kernel
theorem dX7_isSame_1 : decode cX7_isSame 1 = .ok (.getfield 38, 3) := by decide +kernel
theorem dX7_isSame_4 : decode cX7_isSame 4 = .ok (.invokevirtual 202, 3) := by decide +kernel
theorem dX7_isSame_7 : decode cX7_isSame 7 = .ok (.ireturn, 1) := by decide +kernel
theorem dX7_checkIndex_0 : decode cX7_checkIndex 0 = .ok (.iload_n 0, 1) := by decide +kernel
theorem dX7_checkIndex_1 : decode cX7_checkIndex 1 = .ok (.ifCond .lt 8, 3) := by decide +kernel
theorem dX7_checkIndex_4 : decode cX7_checkIndex 4 = .ok (.iload_n 0, 1) := by decide +kernel
theorem dX7_checkIndex_5 : decode cX7_checkIndex 5 = .ok (.iload_n 1, 1) := by decide +kernel
theorem dX7_checkIndex_6 : decode cX7_checkIndex 6 = .ok (.if_icmp .lt 13, 3) := by decide +kernel
theorem dX7_checkIndex_9 : decode cX7_checkIndex 9 = .ok (.new 213, 3) := by decide +kernel
theorem dX7_checkIndex_12 : decode cX7_checkIndex 12 = .ok (.dup, 1) := by decide +kernel
theorem dX7_checkIndex_13 : decode cX7_checkIndex 13 = .ok (.ldc 215, 2) := by decide +kernel
theorem dX7_checkIndex_15 : decode cX7_checkIndex 15 = .ok (.invokespecial 217, 3) := by decide +kernel
theorem dX7_checkIndex_18 : decode cX7_checkIndex 18 = .ok (.athrow, 1) := by decide +kernel
theorem dX7_checkIndex_19 : decode cX7_checkIndex 19 = .ok (.return_, 1) := by decide +kernel
theorem dX7_checkToken_0 : decode cX7_checkToken 0 = .ok (.iload_n 0, 1) := by decide +kernel
theorem dX7_checkToken_1 : decode cX7_checkToken 1 = .ok (.ifCond .lt 17, 3) := by decide +kernel
theorem dX7_checkToken_4 : decode cX7_checkToken 4 = .ok (.iload_n 0, 1) := by decide +kernel
theorem dX7_checkToken_5 : decode cX7_checkToken 5 = .ok (.bipush 8, 2) := by decide +kernel
theorem dX7_checkToken_7 : decode cX7_checkToken 7 = .ok (.if_icmp .gt 11, 3) := by decide +kernel
theorem dX7_checkToken_10 : decode cX7_checkToken 10 = .ok (.iload_n 0, 1) := by decide +kernel
theorem dX7_checkToken_11 : decode cX7_checkToken 11 = .ok (.iload_n 1, 1) := by decide +kernel
theorem dX7_checkToken_12 : decode cX7_checkToken 12 = .ok (.invokestatic 218, 3) := by decide +kernel
theorem dX7_checkToken_15 : decode cX7_checkToken 15 = .ok (.ifCond .ne 13, 3) := by decide +kernel
theorem dX7_checkToken_18 : decode cX7_checkToken 18 = .ok (.new 55, 3) := by decide +kernel
theorem dX7_checkToken_21 : decode cX7_checkToken 21 = .ok (.dup, 1) := by decide +kernel
theorem dX7_checkToken_22 : decode cX7_checkToken 22 = .ok (.ldc 222, 2) := by decide +kernel
theorem dX7_checkToken_24 : decode cX7_checkToken 24 = .ok (.invokespecial 59, 3) := by decide +kernel
theorem dX7_checkToken_27 : decode cX7_checkToken 27 = .ok (.athrow, 1) := by decide +kernel
theorem dX7_checkToken_28 : decode cX7_checkToken 28 = .ok (.return_, 1) := by decide +kernel
theorem dX7_isValueOf_0 : decode cX7_isValueOf 0 = .ok (.iload_n 0, 1) := by decide +kernel
theorem dX7_isValueOf_1 : decode cX7_isValueOf 1 = .ok (.tableswitch 112 0 7 #[47, 47, 112, 112, 63, 112, 81, 97], 47) := by decide +kernel
theorem dX7_isValueOf_48 : decode cX7_isValueOf 48 = .ok (.iload_n 1, 1) := by decide +kernel
theorem dX7_isValueOf_49 : decode cX7_isValueOf 49 = .ok (.ifCond .lt 13, 3) := by decide +kernel
theorem dX7_isValueOf_52 : decode cX7_isValueOf 52 = .ok (.iload_n 1, 1) := by decide +kernel
theorem dX7_isValueOf_53 : decode cX7_isValueOf 53 = .ok (.bipush 10, 2) := by decide +kernel
theorem dX7_isValueOf_55 : decode cX7_isValueOf 55 = .ok (.if_icmp .ge 7, 3) := by decide +kernel
theorem dX7_isValueOf_58 : decode cX7_isValueOf 58 = .ok (.iconst 1, 1) := by decide +kernel
theorem dX7_isValueOf_59 : decode cX7_isValueOf 59 = .ok (.goto 4, 3) := by decide +kernel
theorem dX7_isValueOf_62 : decode cX7_isValueOf 62 = .ok (.iconst 0, 1) := by decide +kernel
theorem dX7_isValueOf_63 : decode cX7_isValueOf 63 = .ok (.ireturn, 1) := by decide +kernel
theorem dX7_isValueOf_64 : decode cX7_isValueOf 64 = .ok (.iload_n 1, 1) := by decide +kernel
theorem dX7_isValueOf_65 : decode cX7_isValueOf 65 = .ok (.bipush 32, 2) := by decide +kernel
theorem dX7_isValueOf_67 : decode cX7_isValueOf 67 = .ok (.if_icmp .lt 13, 3) := by decide +kernel
theorem dX7_isValueOf_70 : decode cX7_isValueOf 70 = .ok (.iload_n 1, 1) := by decide +kernel
theorem dX7_isValueOf_71 : decode cX7_isValueOf 71 = .ok (.bipush 126, 2) := by decide +kernel
theorem dX7_isValueOf_73 : decode cX7_isValueOf 73 = .ok (.if_icmp .gt 7, 3) := by decide +kernel
theorem dX7_isValueOf_76 : decode cX7_isValueOf 76 = .ok (.iconst 1, 1) := by decide +kernel
theorem dX7_isValueOf_77 : decode cX7_isValueOf 77 = .ok (.goto 4, 3) := by decide +kernel
theorem dX7_isValueOf_80 : decode cX7_isValueOf 80 = .ok (.iconst 0, 1) := by decide +kernel
theorem dX7_isValueOf_81 : decode cX7_isValueOf 81 = .ok (.ireturn, 1) := by decide +kernel
theorem dX7_isValueOf_82 : decode cX7_isValueOf 82 = .ok (.iload_n 1, 1) := by decide +kernel
theorem dX7_isValueOf_83 : decode cX7_isValueOf 83 = .ok (.ifCond .lt 13, 3) := by decide +kernel
theorem dX7_isValueOf_86 : decode cX7_isValueOf 86 = .ok (.iload_n 1, 1) := by decide +kernel
theorem dX7_isValueOf_87 : decode cX7_isValueOf 87 = .ok (.bipush 6, 2) := by decide +kernel
theorem dX7_isValueOf_89 : decode cX7_isValueOf 89 = .ok (.if_icmp .ge 7, 3) := by decide +kernel
theorem dX7_isValueOf_92 : decode cX7_isValueOf 92 = .ok (.iconst 1, 1) := by decide +kernel
theorem dX7_isValueOf_93 : decode cX7_isValueOf 93 = .ok (.goto 4, 3) := by decide +kernel
theorem dX7_isValueOf_96 : decode cX7_isValueOf 96 = .ok (.iconst 0, 1) := by decide +kernel
theorem dX7_isValueOf_97 : decode cX7_isValueOf 97 = .ok (.ireturn, 1) := by decide +kernel
theorem dX7_isValueOf_98 : decode cX7_isValueOf 98 = .ok (.iload_n 1, 1) := by decide +kernel
theorem dX7_isValueOf_99 : decode cX7_isValueOf 99 = .ok (.ifCond .lt 12, 3) := by decide +kernel
theorem dX7_isValueOf_102 : decode cX7_isValueOf 102 = .ok (.iload_n 1, 1) := by decide +kernel
theorem dX7_isValueOf_103 : decode cX7_isValueOf 103 = .ok (.iconst 4, 1) := by decide +kernel
theorem dX7_isValueOf_104 : decode cX7_isValueOf 104 = .ok (.if_icmp .ge 7, 3) := by decide +kernel
theorem dX7_isValueOf_107 : decode cX7_isValueOf 107 = .ok (.iconst 1, 1) := by decide +kernel
theorem dX7_isValueOf_108 : decode cX7_isValueOf 108 = .ok (.goto 4, 3) := by decide +kernel
theorem dX7_isValueOf_111 : decode cX7_isValueOf 111 = .ok (.iconst 0, 1) := by decide +kernel
theorem dX7_isValueOf_112 : decode cX7_isValueOf 112 = .ok (.ireturn, 1) := by decide +kernel
theorem dX7_isValueOf_113 : decode cX7_isValueOf 113 = .ok (.iconst 1, 1) := by decide +kernel
theorem dX7_isValueOf_114 : decode cX7_isValueOf 114 = .ok (.ireturn, 1) := by decide +kernel
theorem dX7_lowestOf_0 : decode cX7_lowestOf 0 = .ok (.iload_n 0, 1) := by decide +kernel
theorem dX7_lowestOf_1 : decode cX7_lowestOf 1 = .ok (.iload_n 0, 1) := by decide +kernel
theorem dX7_lowestOf_2 : decode cX7_lowestOf 2 = .ok (.ineg, 1) := by decide +kernel
theorem dX7_lowestOf_3 : decode cX7_lowestOf 3 = .ok (.iand, 1) := by decide +kernel
theorem dX7_lowestOf_4 : decode cX7_lowestOf 4 = .ok (.iconst 1, 1) := by decide +kernel
theorem dX7_lowestOf_5 : decode cX7_lowestOf 5 = .ok (.isub, 1) := by decide +kernel
theorem dX7_lowestOf_6 : decode cX7_lowestOf 6 = .ok (.invokestatic 224, 3) := by decide +kernel
theorem dX7_lowestOf_9 : decode cX7_lowestOf 9 = .ok (.ireturn, 1) := by decide +kernel
theorem dJ6_bitCount_0f7a4_0 : decode cJ6_bitCount_0f7a4 0 = .ok (.iload_n 0, 1) := by decide +kernel
theorem dJ6_bitCount_0f7a4_1 : decode cJ6_bitCount_0f7a4 1 = .ok (.iload_n 0, 1) := by decide +kernel
theorem dJ6_bitCount_0f7a4_2 : decode cJ6_bitCount_0f7a4 2 = .ok (.iconst 1, 1) := by decide +kernel
theorem dJ6_bitCount_0f7a4_3 : decode cJ6_bitCount_0f7a4 3 = .ok (.iushr, 1) := by decide +kernel
theorem dJ6_bitCount_0f7a4_4 : decode cJ6_bitCount_0f7a4 4 = .ok (.ldc_w 265, 3) := by decide +kernel
theorem dJ6_bitCount_0f7a4_7 : decode cJ6_bitCount_0f7a4 7 = .ok (.iand, 1) := by decide +kernel
theorem dJ6_bitCount_0f7a4_8 : decode cJ6_bitCount_0f7a4 8 = .ok (.isub, 1) := by decide +kernel
theorem dJ6_bitCount_0f7a4_9 : decode cJ6_bitCount_0f7a4 9 = .ok (.istore_n 0, 1) := by decide +kernel
theorem dJ6_bitCount_0f7a4_10 : decode cJ6_bitCount_0f7a4 10 = .ok (.iload_n 0, 1) := by decide +kernel
theorem dJ6_bitCount_0f7a4_11 : decode cJ6_bitCount_0f7a4 11 = .ok (.ldc_w 266, 3) := by decide +kernel
theorem dJ6_bitCount_0f7a4_14 : decode cJ6_bitCount_0f7a4 14 = .ok (.iand, 1) := by decide +kernel
theorem dJ6_bitCount_0f7a4_15 : decode cJ6_bitCount_0f7a4 15 = .ok (.iload_n 0, 1) := by decide +kernel
theorem dJ6_bitCount_0f7a4_16 : decode cJ6_bitCount_0f7a4 16 = .ok (.iconst 2, 1) := by decide +kernel
theorem dJ6_bitCount_0f7a4_17 : decode cJ6_bitCount_0f7a4 17 = .ok (.iushr, 1) := by decide +kernel
theorem dJ6_bitCount_0f7a4_18 : decode cJ6_bitCount_0f7a4 18 = .ok (.ldc_w 266, 3) := by decide +kernel
theorem dJ6_bitCount_0f7a4_21 : decode cJ6_bitCount_0f7a4 21 = .ok (.iand, 1) := by decide +kernel
theorem dJ6_bitCount_0f7a4_22 : decode cJ6_bitCount_0f7a4 22 = .ok (.iadd, 1) := by decide +kernel
theorem dJ6_bitCount_0f7a4_23 : decode cJ6_bitCount_0f7a4 23 = .ok (.istore_n 0, 1) := by decide +kernel
theorem dJ6_bitCount_0f7a4_24 : decode cJ6_bitCount_0f7a4 24 = .ok (.iload_n 0, 1) := by decide +kernel
theorem dJ6_bitCount_0f7a4_25 : decode cJ6_bitCount_0f7a4 25 = .ok (.iload_n 0, 1) := by decide +kernel
theorem dJ6_bitCount_0f7a4_26 : decode cJ6_bitCount_0f7a4 26 = .ok (.iconst 4, 1) := by decide +kernel
theorem dJ6_bitCount_0f7a4_27 : decode cJ6_bitCount_0f7a4 27 = .ok (.iushr, 1) := by decide +kernel
theorem dJ6_bitCount_0f7a4_28 : decode cJ6_bitCount_0f7a4 28 = .ok (.iadd, 1) := by decide +kernel
theorem dJ6_bitCount_0f7a4_29 : decode cJ6_bitCount_0f7a4 29 = .ok (.ldc_w 267, 3) := by decide +kernel
theorem dJ6_bitCount_0f7a4_32 : decode cJ6_bitCount_0f7a4 32 = .ok (.iand, 1) := by decide +kernel
theorem dJ6_bitCount_0f7a4_33 : decode cJ6_bitCount_0f7a4 33 = .ok (.istore_n 0, 1) := by decide +kernel
theorem dJ6_bitCount_0f7a4_34 : decode cJ6_bitCount_0f7a4 34 = .ok (.iload_n 0, 1) := by decide +kernel
theorem dJ6_bitCount_0f7a4_35 : decode cJ6_bitCount_0f7a4 35 = .ok (.iload_n 0, 1) := by decide +kernel
theorem dJ6_bitCount_0f7a4_36 : decode cJ6_bitCount_0f7a4 36 = .ok (.bipush 8, 2) := by decide +kernel
theorem dJ6_bitCount_0f7a4_38 : decode cJ6_bitCount_0f7a4 38 = .ok (.iushr, 1) := by decide +kernel
theorem dJ6_bitCount_0f7a4_39 : decode cJ6_bitCount_0f7a4 39 = .ok (.iadd, 1) := by decide +kernel
theorem dJ6_bitCount_0f7a4_40 : decode cJ6_bitCount_0f7a4 40 = .ok (.istore_n 0, 1) := by decide +kernel
theorem dJ6_bitCount_0f7a4_41 : decode cJ6_bitCount_0f7a4 41 = .ok (.iload_n 0, 1) := by decide +kernel
theorem dJ6_bitCount_0f7a4_42 : decode cJ6_bitCount_0f7a4 42 = .ok (.iload_n 0, 1) := by decide +kernel
theorem dJ6_bitCount_0f7a4_43 : decode cJ6_bitCount_0f7a4 43 = .ok (.bipush 16, 2) := by decide +kernel
theorem dJ6_bitCount_0f7a4_45 : decode cJ6_bitCount_0f7a4 45 = .ok (.iushr, 1) := by decide +kernel
theorem dJ6_bitCount_0f7a4_46 : decode cJ6_bitCount_0f7a4 46 = .ok (.iadd, 1) := by decide +kernel
theorem dJ6_bitCount_0f7a4_47 : decode cJ6_bitCount_0f7a4 47 = .ok (.istore_n 0, 1) := by decide +kernel
theorem dJ6_bitCount_0f7a4_48 : decode cJ6_bitCount_0f7a4 48 = .ok (.iload_n 0, 1) := by decide +kernel
theorem dJ6_bitCount_0f7a4_49 : decode cJ6_bitCount_0f7a4 49 = .ok (.bipush 63, 2) := by decide +kernel
theorem dJ6_bitCount_0f7a4_51 : decode cJ6_bitCount_0f7a4 51 = .ok (.iand, 1) := by decide +kernel
theorem dJ6_bitCount_0f7a4_52 : decode cJ6_bitCount_0f7a4 52 = .ok (.ireturn, 1) := by decide +kernel
theorem dL_from_0 : decode cL_from 0 = .ok (.aload_n 0, 1) := by decide +kernel
theorem dL_from_1 : decode cL_from 1 = .ok (.arraylength, 1) := by decide +kernel
theorem dL_from_2 : decode cL_from 2 = .ok (.ifCond .ne 15, 3) := by decide +kernel
theorem dL_from_5 : decode cL_from 5 = .ok (.sipush 331, 3) := by decide +kernel
theorem dL_from_8 : decode cL_from 8 = .ok (.iload_n 1, 1) := by decide +kernel
theorem dL_from_9 : decode cL_from 9 = .ok (.imul, 1) := by decide +kernel
theorem dL_from_10 : decode cL_from 10 = .ok (.sipush 293, 3) := by decide +kernel
theorem dL_from_13 : decode cL_from 13 = .ok (.iadd, 1) := by decide +kernel
theorem dL_from_14 : decode cL_from 14 = .ok (.goto 14, 3) := by decide +kernel
theorem dL_from_17 : decode cL_from 17 = .ok (.aload_n 0, 1) := by decide +kernel
theorem dL_from_18 : decode cL_from 18 = .ok (.iload_n 1, 1) := by decide +kernel
theorem dL_from_19 : decode cL_from 19 = .ok (.aload_n 0, 1) := by decide +kernel
theorem dL_from_20 : decode cL_from 20 = .ok (.arraylength, 1) := by decide +kernel
theorem dL_from_21 : decode cL_from 21 = .ok (.irem, 1) := by decide +kernel
theorem dL_from_22 : decode cL_from 22 = .ok (.iaload, 1) := by decide +kernel
theorem dL_from_23 : decode cL_from 23 = .ok (.ldc 7, 2) := by decide +kernel
theorem dL_from_25 : decode cL_from 25 = .ok (.iload_n 1, 1) := by decide +kernel
theorem dL_from_26 : decode cL_from 26 = .ok (.imul, 1) := by decide +kernel
theorem dL_from_27 : decode cL_from 27 = .ok (.ixor, 1) := by decide +kernel
theorem dL_from_28 : decode cL_from 28 = .ok (.istore_n 3, 1) := by decide +kernel
theorem dL_from_29 : decode cL_from 29 = .ok (.iload_n 3, 1) := by decide +kernel
theorem dL_from_30 : decode cL_from 30 = .ok (.ldc 8, 2) := by decide +kernel
theorem dL_from_32 : decode cL_from 32 = .ok (.iand, 1) := by decide +kernel
theorem dL_from_33 : decode cL_from 33 = .ok (.iload_n 2, 1) := by decide +kernel
theorem dL_from_34 : decode cL_from 34 = .ok (.irem, 1) := by decide +kernel
theorem dL_from_35 : decode cL_from 35 = .ok (.ireturn, 1) := by decide +kernel
theorem dL_enough_0 : decode cL_enough 0 = .ok (.iload_n 2, 1) := by decide +kernel
theorem dL_enough_1 : decode cL_enough 1 = .ok (.iconst 1, 1) := by decide +kernel
theorem dL_enough_2 : decode cL_enough 2 = .ok (.if_icmp .eq 25, 3) := by decide +kernel
theorem dL_enough_5 : decode cL_enough 5 = .ok (.aload_n 0, 1) := by decide +kernel
theorem dL_enough_6 : decode cL_enough 6 = .ok (.iload_n 1, 1) := by decide +kernel
theorem dL_enough_7 : decode cL_enough 7 = .ok (.iaload, 1) := by decide +kernel
theorem dL_enough_8 : decode cL_enough 8 = .ok (.sipush 2048, 3) := by decide +kernel
theorem dL_enough_11 : decode cL_enough 11 = .ok (.idiv, 1) := by decide +kernel
theorem dL_enough_12 : decode cL_enough 12 = .ok (.iconst 1, 1) := by decide +kernel
theorem dL_enough_13 : decode cL_enough 13 = .ok (.if_icmp .eq 14, 3) := by decide +kernel
theorem dL_enough_16 : decode cL_enough 16 = .ok (.aload_n 0, 1) := by decide +kernel
theorem dL_enough_17 : decode cL_enough 17 = .ok (.iload_n 1, 1) := by decide +kernel
theorem dL_enough_18 : decode cL_enough 18 = .ok (.iaload, 1) := by decide +kernel
theorem dL_enough_19 : decode cL_enough 19 = .ok (.sipush 2048, 3) := by decide +kernel
theorem dL_enough_22 : decode cL_enough 22 = .ok (.idiv, 1) := by decide +kernel
theorem dL_enough_23 : decode cL_enough 23 = .ok (.iconst 2, 1) := by decide +kernel
theorem dL_enough_24 : decode cL_enough 24 = .ok (.if_icmp .ne 7, 3) := by decide +kernel
theorem dL_enough_27 : decode cL_enough 27 = .ok (.iconst 1, 1) := by decide +kernel
theorem dL_enough_28 : decode cL_enough 28 = .ok (.goto 4, 3) := by decide +kernel
theorem dL_enough_31 : decode cL_enough 31 = .ok (.iconst 0, 1) := by decide +kernel
theorem dL_enough_32 : decode cL_enough 32 = .ok (.ireturn, 1) := by decide +kernel
theorem dL_step_0 : decode cL_step 0 = .ok (.iload_n 2, 1) := by decide +kernel
theorem dL_step_1 : decode cL_step 1 = .ok (.bipush 16, 2) := by decide +kernel
theorem dL_step_3 : decode cL_step 3 = .ok (.idiv, 1) := by decide +kernel
theorem dL_step_4 : decode cL_step 4 = .ok (.istore 4, 2) := by decide +kernel
theorem dL_step_6 : decode cL_step 6 = .ok (.iload_n 2, 1) := by decide +kernel
theorem dL_step_7 : decode cL_step 7 = .ok (.iconst 2, 1) := by decide +kernel
theorem dL_step_8 : decode cL_step 8 = .ok (.idiv, 1) := by decide +kernel
theorem dL_step_9 : decode cL_step 9 = .ok (.bipush 8, 2) := by decide +kernel
theorem dL_step_11 : decode cL_step 11 = .ok (.irem, 1) := by decide +kernel
theorem dL_step_12 : decode cL_step 12 = .ok (.istore 5, 2) := by decide +kernel
theorem dL_step_14 : decode cL_step 14 = .ok (.iload_n 2, 1) := by decide +kernel
theorem dL_step_15 : decode cL_step 15 = .ok (.iconst 2, 1) := by decide +kernel
theorem dL_step_16 : decode cL_step 16 = .ok (.irem, 1) := by decide +kernel
theorem dL_step_17 : decode cL_step 17 = .ok (.istore 6, 2) := by decide +kernel
theorem dL_step_19 : decode cL_step 19 = .ok (.iconst (-1), 1) := by decide +kernel
theorem dL_step_20 : decode cL_step 20 = .ok (.istore 7, 2) := by decide +kernel
theorem dL_step_22 : decode cL_step 22 = .ok (.iload 5, 2) := by decide +kernel
theorem dL_step_24 : decode cL_step 24 = .ok (.aload_n 1, 1) := by decide +kernel
theorem dL_step_25 : decode cL_step 25 = .ok (.iload 4, 2) := by decide +kernel
theorem dL_step_27 : decode cL_step 27 = .ok (.iaload, 1) := by decide +kernel
theorem dL_step_28 : decode cL_step 28 = .ok (.if_icmp .ge 88, 3) := by decide +kernel
theorem dL_step_31 : decode cL_step 31 = .ok (.iload 7, 2) := by decide +kernel
theorem dL_step_33 : decode cL_step 33 = .ok (.ifCond .ge 83, 3) := by decide +kernel
theorem dL_step_36 : decode cL_step 36 = .ok (.iconst 4, 1) := by decide +kernel
theorem dL_step_37 : decode cL_step 37 = .ok (.iload 4, 2) := by decide +kernel
theorem dL_step_39 : decode cL_step 39 = .ok (.imul, 1) := by decide +kernel
theorem dL_step_40 : decode cL_step 40 = .ok (.iload 5, 2) := by decide +kernel
theorem dL_step_42 : decode cL_step 42 = .ok (.iadd, 1) := by decide +kernel
theorem dL_step_43 : decode cL_step 43 = .ok (.istore 8, 2) := by decide +kernel
theorem dL_step_45 : decode cL_step 45 = .ok (.aload_n 0, 1) := by decide +kernel
theorem dL_step_46 : decode cL_step 46 = .ok (.iload 8, 2) := by decide +kernel
theorem dL_step_48 : decode cL_step 48 = .ok (.iaload, 1) := by decide +kernel
theorem dL_step_49 : decode cL_step 49 = .ok (.iload_n 3, 1) := by decide +kernel
theorem dL_step_50 : decode cL_step 50 = .ok (.ishr, 1) := by decide +kernel
theorem dL_step_51 : decode cL_step 51 = .ok (.iconst 1, 1) := by decide +kernel
theorem dL_step_52 : decode cL_step 52 = .ok (.iand, 1) := by decide +kernel
theorem dL_step_53 : decode cL_step 53 = .ok (.iconst 1, 1) := by decide +kernel
theorem dL_step_54 : decode cL_step 54 = .ok (.if_icmp .ne 34, 3) := by decide +kernel
theorem dL_step_57 : decode cL_step 57 = .ok (.iload 6, 2) := by decide +kernel
theorem dL_step_59 : decode cL_step 59 = .ok (.ifCond .eq 15, 3) := by decide +kernel
theorem dL_step_62 : decode cL_step 62 = .ok (.aload_n 0, 1) := by decide +kernel
theorem dL_step_63 : decode cL_step 63 = .ok (.iload 8, 2) := by decide +kernel
theorem dL_step_65 : decode cL_step 65 = .ok (.iaload, 1) := by decide +kernel
theorem dL_step_66 : decode cL_step 66 = .ok (.sipush 2048, 3) := by decide +kernel
theorem dL_step_69 : decode cL_step 69 = .ok (.idiv, 1) := by decide +kernel
theorem dL_step_70 : decode cL_step 70 = .ok (.iconst 1, 1) := by decide +kernel
theorem dL_step_71 : decode cL_step 71 = .ok (.if_icmp .le 17, 3) := by decide +kernel
theorem dL_step_74 : decode cL_step 74 = .ok (.bipush 16, 2) := by decide +kernel
theorem dL_step_76 : decode cL_step 76 = .ok (.iload 4, 2) := by decide +kernel
theorem dL_step_78 : decode cL_step 78 = .ok (.imul, 1) := by decide +kernel
theorem dL_step_79 : decode cL_step 79 = .ok (.iconst 2, 1) := by decide +kernel
theorem dL_step_80 : decode cL_step 80 = .ok (.iload 5, 2) := by decide +kernel
theorem dL_step_82 : decode cL_step 82 = .ok (.imul, 1) := by decide +kernel
theorem dL_step_83 : decode cL_step 83 = .ok (.iadd, 1) := by decide +kernel
theorem dL_step_84 : decode cL_step 84 = .ok (.iconst 1, 1) := by decide +kernel
theorem dL_step_85 : decode cL_step 85 = .ok (.iadd, 1) := by decide +kernel
theorem dL_step_86 : decode cL_step 86 = .ok (.istore 7, 2) := by decide +kernel
theorem dL_step_88 : decode cL_step 88 = .ok (.aload_n 0, 1) := by decide +kernel
theorem dL_step_89 : decode cL_step 89 = .ok (.iload 8, 2) := by decide +kernel
theorem dL_step_91 : decode cL_step 91 = .ok (.iload 6, 2) := by decide +kernel
theorem dL_step_93 : decode cL_step 93 = .ok (.invokestatic 9, 3) := by decide +kernel
theorem dL_step_96 : decode cL_step 96 = .ok (.ifCond .eq 10, 3) := by decide +kernel
theorem dL_step_99 : decode cL_step 99 = .ok (.iload 5, 2) := by decide +kernel
theorem dL_step_101 : decode cL_step 101 = .ok (.iconst 1, 1) := by decide +kernel
theorem dL_step_102 : decode cL_step 102 = .ok (.iadd, 1) := by decide +kernel
theorem dL_step_103 : decode cL_step 103 = .ok (.goto 5, 3) := by decide +kernel
theorem dL_step_106 : decode cL_step 106 = .ok (.bipush 9, 2) := by decide +kernel
theorem dL_step_108 : decode cL_step 108 = .ok (.istore 5, 2) := by decide +kernel
theorem dL_step_110 : decode cL_step 110 = .ok (.iconst 0, 1) := by decide +kernel
theorem dL_step_111 : decode cL_step 111 = .ok (.istore 6, 2) := by decide +kernel
theorem dL_step_113 : decode cL_step 113 = .ok (.goto (-91), 3) := by decide +kernel
theorem dL_step_116 : decode cL_step 116 = .ok (.iload 7, 2) := by decide +kernel
theorem dL_step_118 : decode cL_step 118 = .ok (.ireturn, 1) := by decide +kernel
theorem dL_ends_0 : decode cL_ends 0 = .ok (.iload_n 2, 1) := by decide +kernel
theorem dL_ends_1 : decode cL_ends 1 = .ok (.iconst 2, 1) := by decide +kernel
theorem dL_ends_2 : decode cL_ends 2 = .ok (.irem, 1) := by decide +kernel
theorem dL_ends_3 : decode cL_ends 3 = .ok (.istore_n 3, 1) := by decide +kernel
theorem dL_ends_4 : decode cL_ends 4 = .ok (.iconst 1, 1) := by decide +kernel
theorem dL_ends_5 : decode cL_ends 5 = .ok (.istore 4, 2) := by decide +kernel
theorem dL_ends_7 : decode cL_ends 7 = .ok (.iload_n 2, 1) := by decide +kernel
theorem dL_ends_8 : decode cL_ends 8 = .ok (.iconst 2, 1) := by decide +kernel
theorem dL_ends_9 : decode cL_ends 9 = .ok (.idiv, 1) := by decide +kernel
theorem dL_ends_10 : decode cL_ends 10 = .ok (.bipush 8, 2) := by decide +kernel
theorem dL_ends_12 : decode cL_ends 12 = .ok (.irem, 1) := by decide +kernel
theorem dL_ends_13 : decode cL_ends 13 = .ok (.istore 5, 2) := by decide +kernel
theorem dL_ends_15 : decode cL_ends 15 = .ok (.iload 5, 2) := by decide +kernel
theorem dL_ends_17 : decode cL_ends 17 = .ok (.aload_n 1, 1) := by decide +kernel
theorem dL_ends_18 : decode cL_ends 18 = .ok (.iload_n 2, 1) := by decide +kernel
theorem dL_ends_19 : decode cL_ends 19 = .ok (.bipush 16, 2) := by decide +kernel
theorem dL_ends_21 : decode cL_ends 21 = .ok (.idiv, 1) := by decide +kernel
theorem dL_ends_22 : decode cL_ends 22 = .ok (.iaload, 1) := by decide +kernel
theorem dL_ends_23 : decode cL_ends 23 = .ok (.if_icmp .ge 40, 3) := by decide +kernel
theorem dL_ends_26 : decode cL_ends 26 = .ok (.iload 4, 2) := by decide +kernel
theorem dL_ends_28 : decode cL_ends 28 = .ok (.ifCond .eq 24, 3) := by decide +kernel
theorem dL_ends_31 : decode cL_ends 31 = .ok (.aload_n 0, 1) := by decide +kernel
theorem dL_ends_32 : decode cL_ends 32 = .ok (.iconst 4, 1) := by decide +kernel
theorem dL_ends_33 : decode cL_ends 33 = .ok (.iload_n 2, 1) := by decide +kernel
theorem dL_ends_34 : decode cL_ends 34 = .ok (.bipush 16, 2) := by decide +kernel
theorem dL_ends_36 : decode cL_ends 36 = .ok (.idiv, 1) := by decide +kernel
theorem dL_ends_37 : decode cL_ends 37 = .ok (.imul, 1) := by decide +kernel
theorem dL_ends_38 : decode cL_ends 38 = .ok (.iload 5, 2) := by decide +kernel
theorem dL_ends_40 : decode cL_ends 40 = .ok (.iadd, 1) := by decide +kernel
theorem dL_ends_41 : decode cL_ends 41 = .ok (.iload_n 3, 1) := by decide +kernel
theorem dL_ends_42 : decode cL_ends 42 = .ok (.invokestatic 9, 3) := by decide +kernel
theorem dL_ends_45 : decode cL_ends 45 = .ok (.ifCond .eq 7, 3) := by decide +kernel
theorem dL_ends_48 : decode cL_ends 48 = .ok (.iconst 1, 1) := by decide +kernel
theorem dL_ends_49 : decode cL_ends 49 = .ok (.goto 4, 3) := by decide +kernel
theorem dL_ends_52 : decode cL_ends 52 = .ok (.iconst 0, 1) := by decide +kernel
theorem dL_ends_53 : decode cL_ends 53 = .ok (.istore 4, 2) := by decide +kernel
theorem dL_ends_55 : decode cL_ends 55 = .ok (.iconst 0, 1) := by decide +kernel
theorem dL_ends_56 : decode cL_ends 56 = .ok (.istore_n 3, 1) := by decide +kernel
theorem dL_ends_57 : decode cL_ends 57 = .ok (.iinc 5 1, 3) := by decide +kernel
theorem dL_ends_60 : decode cL_ends 60 = .ok (.goto (-45), 3) := by decide +kernel
theorem dL_ends_63 : decode cL_ends 63 = .ok (.iload 4, 2) := by decide +kernel
theorem dL_ends_65 : decode cL_ends 65 = .ok (.ireturn, 1) := by decide +kernel
end
section
theorem dL_next_0 : decode cL_next 0 = .ok (.iconst 0, 1) := by decide +kernel
theorem dL_next_1 : decode cL_next 1 = .ok (.istore_n 3, 1) := by decide +kernel
theorem dL_next_2 : decode cL_next 2 = .ok (.iconst 0, 1) := by decide +kernel
theorem dL_next_3 : decode cL_next 3 = .ok (.istore 4, 2) := by decide +kernel
theorem dL_next_5 : decode cL_next 5 = .ok (.iload 4, 2) := by decide +kernel
theorem dL_next_7 : decode cL_next 7 = .ok (.bipush 11, 2) := by decide +kernel
theorem dL_next_9 : decode cL_next 9 = .ok (.if_icmp .ge 31, 3) := by decide +kernel
theorem dL_next_12 : decode cL_next 12 = .ok (.iload_n 3, 1) := by decide +kernel
theorem dL_next_13 : decode cL_next 13 = .ok (.aload_n 0, 1) := by decide +kernel
theorem dL_next_14 : decode cL_next 14 = .ok (.aload_n 1, 1) := by decide +kernel
theorem dL_next_15 : decode cL_next 15 = .ok (.iload_n 2, 1) := by decide +kernel
theorem dL_next_16 : decode cL_next 16 = .ok (.iload 4, 2) := by decide +kernel
theorem dL_next_18 : decode cL_next 18 = .ok (.invokestatic 15, 3) := by decide +kernel
theorem dL_next_21 : decode cL_next 21 = .ok (.ifCond .ge 7, 3) := by decide +kernel
theorem dL_next_24 : decode cL_next 24 = .ok (.iconst 0, 1) := by decide +kernel
theorem dL_next_25 : decode cL_next 25 = .ok (.goto 7, 3) := by decide +kernel
theorem dL_next_28 : decode cL_next 28 = .ok (.iconst 1, 1) := by decide +kernel
theorem dL_next_29 : decode cL_next 29 = .ok (.iload 4, 2) := by decide +kernel
theorem dL_next_31 : decode cL_next 31 = .ok (.ishl, 1) := by decide +kernel
theorem dL_next_32 : decode cL_next 32 = .ok (.ior, 1) := by decide +kernel
theorem dL_next_33 : decode cL_next 33 = .ok (.istore_n 3, 1) := by decide +kernel
theorem dL_next_34 : decode cL_next 34 = .ok (.iinc 4 1, 3) := by decide +kernel
theorem dL_next_37 : decode cL_next 37 = .ok (.goto (-32), 3) := by decide +kernel
theorem dL_next_40 : decode cL_next 40 = .ok (.iload_n 3, 1) := by decide +kernel
theorem dL_next_41 : decode cL_next 41 = .ok (.ireturn, 1) := by decide +kernel
theorem dL_fails_0 : decode cL_fails 0 = .ok (.aload_n 0, 1) := by decide +kernel
theorem dL_fails_1 : decode cL_fails 1 = .ok (.iconst 5, 1) := by decide +kernel
theorem dL_fails_2 : decode cL_fails 2 = .ok (.iaload, 1) := by decide +kernel
theorem dL_fails_3 : decode cL_fails 3 = .ok (.bipush 60, 2) := by decide +kernel
theorem dL_fails_5 : decode cL_fails 5 = .ok (.if_icmp .ne 11, 3) := by decide +kernel
theorem dL_fails_8 : decode cL_fails 8 = .ok (.aload_n 0, 1) := by decide +kernel
theorem dL_fails_9 : decode cL_fails 9 = .ok (.bipush 6, 2) := by decide +kernel
theorem dL_fails_11 : decode cL_fails 11 = .ok (.iconst 1, 1) := by decide +kernel
theorem dL_fails_12 : decode cL_fails 12 = .ok (.iastore, 1) := by decide +kernel
theorem dL_fails_13 : decode cL_fails 13 = .ok (.goto 24, 3) := by decide +kernel
theorem dL_fails_16 : decode cL_fails 16 = .ok (.aload_n 1, 1) := by decide +kernel
theorem dL_fails_17 : decode cL_fails 17 = .ok (.aload_n 0, 1) := by decide +kernel
theorem dL_fails_18 : decode cL_fails 18 = .ok (.iconst 5, 1) := by decide +kernel
theorem dL_fails_19 : decode cL_fails 19 = .ok (.iaload, 1) := by decide +kernel
theorem dL_fails_20 : decode cL_fails 20 = .ok (.bipush 64, 2) := by decide +kernel
theorem dL_fails_22 : decode cL_fails 22 = .ok (.iload_n 2, 1) := by decide +kernel
theorem dL_fails_23 : decode cL_fails 23 = .ok (.imul, 1) := by decide +kernel
theorem dL_fails_24 : decode cL_fails 24 = .ok (.aload_n 0, 1) := by decide +kernel
theorem dL_fails_25 : decode cL_fails 25 = .ok (.bipush 18, 2) := by decide +kernel
theorem dL_fails_27 : decode cL_fails 27 = .ok (.iaload, 1) := by decide +kernel
theorem dL_fails_28 : decode cL_fails 28 = .ok (.iadd, 1) := by decide +kernel
theorem dL_fails_29 : decode cL_fails 29 = .ok (.iastore, 1) := by decide +kernel
theorem dL_fails_30 : decode cL_fails 30 = .ok (.aload_n 0, 1) := by decide +kernel
theorem dL_fails_31 : decode cL_fails 31 = .ok (.iconst 5, 1) := by decide +kernel
theorem dL_fails_32 : decode cL_fails 32 = .ok (.dup2, 1) := by decide +kernel
theorem dL_fails_33 : decode cL_fails 33 = .ok (.iaload, 1) := by decide +kernel
theorem dL_fails_34 : decode cL_fails 34 = .ok (.iconst 1, 1) := by decide +kernel
theorem dL_fails_35 : decode cL_fails 35 = .ok (.iadd, 1) := by decide +kernel
theorem dL_fails_36 : decode cL_fails 36 = .ok (.iastore, 1) := by decide +kernel
theorem dL_fails_37 : decode cL_fails 37 = .ok (.return_, 1) := by decide +kernel
theorem dL_put_0 : decode cL_put 0 = .ok (.aload_n 0, 1) := by decide +kernel
theorem dL_put_1 : decode cL_put 1 = .ok (.iconst 3, 1) := by decide +kernel
theorem dL_put_2 : decode cL_put 2 = .ok (.iaload, 1) := by decide +kernel
theorem dL_put_3 : decode cL_put 3 = .ok (.bipush 60, 2) := by decide +kernel
theorem dL_put_5 : decode cL_put 5 = .ok (.if_icmp .ne 9, 3) := by decide +kernel
theorem dL_put_8 : decode cL_put 8 = .ok (.aload_n 0, 1) := by decide +kernel
theorem dL_put_9 : decode cL_put 9 = .ok (.bipush 6, 2) := by decide +kernel
theorem dL_put_11 : decode cL_put 11 = .ok (.iconst 1, 1) := by decide +kernel
theorem dL_put_12 : decode cL_put 12 = .ok (.iastore, 1) := by decide +kernel
theorem dL_put_13 : decode cL_put 13 = .ok (.return_, 1) := by decide +kernel
theorem dL_put_14 : decode cL_put 14 = .ok (.aload_n 2, 1) := by decide +kernel
theorem dL_put_15 : decode cL_put 15 = .ok (.aload_n 0, 1) := by decide +kernel
theorem dL_put_16 : decode cL_put 16 = .ok (.iconst 3, 1) := by decide +kernel
theorem dL_put_17 : decode cL_put 17 = .ok (.iaload, 1) := by decide +kernel
theorem dL_put_18 : decode cL_put 18 = .ok (.iload 6, 2) := by decide +kernel
theorem dL_put_20 : decode cL_put 20 = .ok (.iastore, 1) := by decide +kernel
theorem dL_put_21 : decode cL_put 21 = .ok (.aload_n 3, 1) := by decide +kernel
theorem dL_put_22 : decode cL_put 22 = .ok (.aload_n 0, 1) := by decide +kernel
theorem dL_put_23 : decode cL_put 23 = .ok (.iconst 3, 1) := by decide +kernel
theorem dL_put_24 : decode cL_put 24 = .ok (.iaload, 1) := by decide +kernel
theorem dL_put_25 : decode cL_put 25 = .ok (.aload_n 0, 1) := by decide +kernel
theorem dL_put_26 : decode cL_put 26 = .ok (.iconst 0, 1) := by decide +kernel
theorem dL_put_27 : decode cL_put 27 = .ok (.iaload, 1) := by decide +kernel
theorem dL_put_28 : decode cL_put 28 = .ok (.ifCond .ne 7, 3) := by decide +kernel
theorem dL_put_31 : decode cL_put 31 = .ok (.iconst (-1), 1) := by decide +kernel
theorem dL_put_32 : decode cL_put 32 = .ok (.goto 11, 3) := by decide +kernel
theorem dL_put_35 : decode cL_put 35 = .ok (.aload_n 1, 1) := by decide +kernel
theorem dL_put_36 : decode cL_put 36 = .ok (.bipush 19, 2) := by decide +kernel
theorem dL_put_38 : decode cL_put 38 = .ok (.aload_n 0, 1) := by decide +kernel
theorem dL_put_39 : decode cL_put 39 = .ok (.iconst 0, 1) := by decide +kernel
theorem dL_put_40 : decode cL_put 40 = .ok (.iaload, 1) := by decide +kernel
theorem dL_put_41 : decode cL_put 41 = .ok (.iadd, 1) := by decide +kernel
theorem dL_put_42 : decode cL_put 42 = .ok (.iaload, 1) := by decide +kernel
theorem dL_put_43 : decode cL_put 43 = .ok (.iastore, 1) := by decide +kernel
theorem dL_put_44 : decode cL_put 44 = .ok (.aload 4, 2) := by decide +kernel
theorem dL_put_46 : decode cL_put 46 = .ok (.aload_n 0, 1) := by decide +kernel
theorem dL_put_47 : decode cL_put 47 = .ok (.iconst 3, 1) := by decide +kernel
theorem dL_put_48 : decode cL_put 48 = .ok (.iaload, 1) := by decide +kernel
theorem dL_put_49 : decode cL_put 49 = .ok (.iload 7, 2) := by decide +kernel
theorem dL_put_51 : decode cL_put 51 = .ok (.iastore, 1) := by decide +kernel
theorem dL_put_52 : decode cL_put 52 = .ok (.aload 5, 2) := by decide +kernel
theorem dL_put_54 : decode cL_put 54 = .ok (.aload_n 0, 1) := by decide +kernel
theorem dL_put_55 : decode cL_put 55 = .ok (.iconst 3, 1) := by decide +kernel
theorem dL_put_56 : decode cL_put 56 = .ok (.iaload, 1) := by decide +kernel
theorem dL_put_57 : decode cL_put 57 = .ok (.aload_n 0, 1) := by decide +kernel
theorem dL_put_58 : decode cL_put 58 = .ok (.bipush 18, 2) := by decide +kernel
theorem dL_put_60 : decode cL_put 60 = .ok (.iaload, 1) := by decide +kernel
theorem dL_put_61 : decode cL_put 61 = .ok (.iastore, 1) := by decide +kernel
theorem dL_put_62 : decode cL_put 62 = .ok (.aload_n 0, 1) := by decide +kernel
theorem dL_put_63 : decode cL_put 63 = .ok (.iconst 3, 1) := by decide +kernel
theorem dL_put_64 : decode cL_put 64 = .ok (.dup2, 1) := by decide +kernel
theorem dL_put_65 : decode cL_put 65 = .ok (.iaload, 1) := by decide +kernel
theorem dL_put_66 : decode cL_put 66 = .ok (.iconst 1, 1) := by decide +kernel
theorem dL_put_67 : decode cL_put 67 = .ok (.iadd, 1) := by decide +kernel
theorem dL_put_68 : decode cL_put 68 = .ok (.iastore, 1) := by decide +kernel
theorem dL_put_69 : decode cL_put 69 = .ok (.return_, 1) := by decide +kernel
theorem dL_open_0 : decode cL_open 0 = .ok (.aload_n 1, 1) := by decide +kernel
theorem dL_open_1 : decode cL_open 1 = .ok (.aload_n 2, 1) := by decide +kernel
theorem dL_open_2 : decode cL_open 2 = .ok (.aload_n 3, 1) := by decide +kernel
theorem dL_open_3 : decode cL_open 3 = .ok (.aload 4, 2) := by decide +kernel
theorem dL_open_5 : decode cL_open 5 = .ok (.aload 5, 2) := by decide +kernel
theorem dL_open_7 : decode cL_open 7 = .ok (.aload 6, 2) := by decide +kernel
theorem dL_open_9 : decode cL_open 9 = .ok (.iload 8, 2) := by decide +kernel
theorem dL_open_11 : decode cL_open 11 = .ok (.ifCond .eq 11, 3) := by decide +kernel
theorem dL_open_14 : decode cL_open 14 = .ok (.iload 7, 2) := by decide +kernel
theorem dL_open_16 : decode cL_open 16 = .ok (.bipush 32, 2) := by decide +kernel
theorem dL_open_18 : decode cL_open 18 = .ok (.iadd, 1) := by decide +kernel
theorem dL_open_19 : decode cL_open 19 = .ok (.goto 5, 3) := by decide +kernel
theorem dL_open_22 : decode cL_open 22 = .ok (.iload 7, 2) := by decide +kernel
theorem dL_open_24 : decode cL_open 24 = .ok (.bipush 60, 2) := by decide +kernel
theorem dL_open_26 : decode cL_open 26 = .ok (.invokestatic 19, 3) := by decide +kernel
theorem dL_open_29 : decode cL_open 29 = .ok (.aload_n 1, 1) := by decide +kernel
theorem dL_open_30 : decode cL_open 30 = .ok (.bipush 17, 2) := by decide +kernel
theorem dL_open_32 : decode cL_open 32 = .ok (.dup2, 1) := by decide +kernel
theorem dL_open_33 : decode cL_open 33 = .ok (.iaload, 1) := by decide +kernel
theorem dL_open_34 : decode cL_open 34 = .ok (.iload 8, 2) := by decide +kernel
theorem dL_open_36 : decode cL_open 36 = .ok (.ifCond .eq 7, 3) := by decide +kernel
theorem dL_open_39 : decode cL_open 39 = .ok (.iconst 1, 1) := by decide +kernel
theorem dL_open_40 : decode cL_open 40 = .ok (.goto 4, 3) := by decide +kernel
theorem dL_open_43 : decode cL_open 43 = .ok (.iconst 0, 1) := by decide +kernel
theorem dL_open_44 : decode cL_open 44 = .ok (.iadd, 1) := by decide +kernel
theorem dL_open_45 : decode cL_open 45 = .ok (.iastore, 1) := by decide +kernel
theorem dL_open_46 : decode cL_open 46 = .ok (.aload_n 1, 1) := by decide +kernel
theorem dL_open_47 : decode cL_open 47 = .ok (.iconst 1, 1) := by decide +kernel
theorem dL_open_48 : decode cL_open 48 = .ok (.iload 7, 2) := by decide +kernel
theorem dL_open_50 : decode cL_open 50 = .ok (.iconst 1, 1) := by decide +kernel
theorem dL_open_51 : decode cL_open 51 = .ok (.iadd, 1) := by decide +kernel
theorem dL_open_52 : decode cL_open 52 = .ok (.iastore, 1) := by decide +kernel
theorem dL_open_53 : decode cL_open 53 = .ok (.aload_n 1, 1) := by decide +kernel
theorem dL_open_54 : decode cL_open 54 = .ok (.iconst 2, 1) := by decide +kernel
theorem dL_open_55 : decode cL_open 55 = .ok (.iconst 1, 1) := by decide +kernel
theorem dL_open_56 : decode cL_open 56 = .ok (.iastore, 1) := by decide +kernel
theorem dL_open_57 : decode cL_open 57 = .ok (.aload_n 0, 1) := by decide +kernel
theorem dL_open_58 : decode cL_open 58 = .ok (.iload 7, 2) := by decide +kernel
theorem dL_open_60 : decode cL_open 60 = .ok (.iaload, 1) := by decide +kernel
theorem dL_open_61 : decode cL_open 61 = .ok (.ifCond .le 49, 3) := by decide +kernel
theorem dL_open_64 : decode cL_open 64 = .ok (.aload_n 1, 1) := by decide +kernel
theorem dL_open_65 : decode cL_open 65 = .ok (.iconst 0, 1) := by decide +kernel
theorem dL_open_66 : decode cL_open 66 = .ok (.iaload, 1) := by decide +kernel
theorem dL_open_67 : decode cL_open 67 = .ok (.bipush 8, 2) := by decide +kernel
theorem dL_open_69 : decode cL_open 69 = .ok (.if_icmp .le 11, 3) := by decide +kernel
theorem dL_open_72 : decode cL_open 72 = .ok (.aload_n 1, 1) := by decide +kernel
theorem dL_open_73 : decode cL_open 73 = .ok (.bipush 6, 2) := by decide +kernel
theorem dL_open_75 : decode cL_open 75 = .ok (.iconst 1, 1) := by decide +kernel
theorem dL_open_76 : decode cL_open 76 = .ok (.iastore, 1) := by decide +kernel
theorem dL_open_77 : decode cL_open 77 = .ok (.goto 33, 3) := by decide +kernel
theorem dL_open_80 : decode cL_open 80 = .ok (.aload_n 2, 1) := by decide +kernel
theorem dL_open_81 : decode cL_open 81 = .ok (.aload_n 1, 1) := by decide +kernel
theorem dL_open_82 : decode cL_open 82 = .ok (.iconst 0, 1) := by decide +kernel
theorem dL_open_83 : decode cL_open 83 = .ok (.iaload, 1) := by decide +kernel
theorem dL_open_84 : decode cL_open 84 = .ok (.bipush 16, 2) := by decide +kernel
theorem dL_open_86 : decode cL_open 86 = .ok (.iload 7, 2) := by decide +kernel
theorem dL_open_88 : decode cL_open 88 = .ok (.imul, 1) := by decide +kernel
theorem dL_open_89 : decode cL_open 89 = .ok (.iastore, 1) := by decide +kernel
theorem dL_open_90 : decode cL_open 90 = .ok (.aload_n 2, 1) := by decide +kernel
theorem dL_open_91 : decode cL_open 91 = .ok (.bipush 20, 2) := by decide +kernel
theorem dL_open_93 : decode cL_open 93 = .ok (.aload_n 1, 1) := by decide +kernel
theorem dL_open_94 : decode cL_open 94 = .ok (.iconst 0, 1) := by decide +kernel
theorem dL_open_95 : decode cL_open 95 = .ok (.iaload, 1) := by decide +kernel
theorem dL_open_96 : decode cL_open 96 = .ok (.iadd, 1) := by decide +kernel
theorem dL_open_97 : decode cL_open 97 = .ok (.aload_n 1, 1) := by decide +kernel
theorem dL_open_98 : decode cL_open 98 = .ok (.iconst 3, 1) := by decide +kernel
theorem dL_open_99 : decode cL_open 99 = .ok (.iaload, 1) := by decide +kernel
theorem dL_open_100 : decode cL_open 100 = .ok (.iconst 1, 1) := by decide +kernel
theorem dL_open_101 : decode cL_open 101 = .ok (.isub, 1) := by decide +kernel
theorem dL_open_102 : decode cL_open 102 = .ok (.iastore, 1) := by decide +kernel
theorem dL_open_103 : decode cL_open 103 = .ok (.aload_n 1, 1) := by decide +kernel
theorem dL_open_104 : decode cL_open 104 = .ok (.iconst 0, 1) := by decide +kernel
theorem dL_open_105 : decode cL_open 105 = .ok (.dup2, 1) := by decide +kernel
theorem dL_open_106 : decode cL_open 106 = .ok (.iaload, 1) := by decide +kernel
theorem dL_open_107 : decode cL_open 107 = .ok (.iconst 1, 1) := by decide +kernel
theorem dL_open_108 : decode cL_open 108 = .ok (.iadd, 1) := by decide +kernel
theorem dL_open_109 : decode cL_open 109 = .ok (.iastore, 1) := by decide +kernel
theorem dL_open_110 : decode cL_open 110 = .ok (.return_, 1) := by decide +kernel
theorem dL_has_0 : decode cL_has 0 = .ok (.iconst 0, 1) := by decide +kernel
theorem dL_has_1 : decode cL_has 1 = .ok (.istore 5, 2) := by decide +kernel
theorem dL_has_3 : decode cL_has 3 = .ok (.iconst 0, 1) := by decide +kernel
theorem dL_has_4 : decode cL_has 4 = .ok (.istore 6, 2) := by decide +kernel
theorem dL_has_6 : decode cL_has 6 = .ok (.iload 6, 2) := by decide +kernel
theorem dL_has_8 : decode cL_has 8 = .ok (.aload_n 1, 1) := by decide +kernel
theorem dL_has_9 : decode cL_has 9 = .ok (.iconst 0, 1) := by decide +kernel
theorem dL_has_10 : decode cL_has 10 = .ok (.iaload, 1) := by decide +kernel
theorem dL_has_11 : decode cL_has 11 = .ok (.if_icmp .ge 41, 3) := by decide +kernel
theorem dL_has_14 : decode cL_has 14 = .ok (.iload 5, 2) := by decide +kernel
theorem dL_has_16 : decode cL_has 16 = .ok (.ifCond .ne 23, 3) := by decide +kernel
theorem dL_has_19 : decode cL_has 19 = .ok (.aload_n 0, 1) := by decide +kernel
theorem dL_has_20 : decode cL_has 20 = .ok (.aload_n 2, 1) := by decide +kernel
theorem dL_has_21 : decode cL_has 21 = .ok (.iload 6, 2) := by decide +kernel
theorem dL_has_23 : decode cL_has 23 = .ok (.iaload, 1) := by decide +kernel
theorem dL_has_24 : decode cL_has 24 = .ok (.bipush 16, 2) := by decide +kernel
theorem dL_has_26 : decode cL_has 26 = .ok (.idiv, 1) := by decide +kernel
theorem dL_has_27 : decode cL_has 27 = .ok (.iaload, 1) := by decide +kernel
theorem dL_has_28 : decode cL_has 28 = .ok (.iload 4, 2) := by decide +kernel
theorem dL_has_30 : decode cL_has 30 = .ok (.iload_n 3, 1) := by decide +kernel
theorem dL_has_31 : decode cL_has 31 = .ok (.iadd, 1) := by decide +kernel
theorem dL_has_32 : decode cL_has 32 = .ok (.ishr, 1) := by decide +kernel
theorem dL_has_33 : decode cL_has 33 = .ok (.iconst 1, 1) := by decide +kernel
theorem dL_has_34 : decode cL_has 34 = .ok (.iand, 1) := by decide +kernel
theorem dL_has_35 : decode cL_has 35 = .ok (.iconst 1, 1) := by decide +kernel
theorem dL_has_36 : decode cL_has 36 = .ok (.if_icmp .ne 7, 3) := by decide +kernel
theorem dL_has_39 : decode cL_has 39 = .ok (.iconst 1, 1) := by decide +kernel
theorem dL_has_40 : decode cL_has 40 = .ok (.goto 4, 3) := by decide +kernel
theorem dL_has_43 : decode cL_has 43 = .ok (.iconst 0, 1) := by decide +kernel
theorem dL_has_44 : decode cL_has 44 = .ok (.istore 5, 2) := by decide +kernel
theorem dL_has_46 : decode cL_has 46 = .ok (.iinc 6 1, 3) := by decide +kernel
theorem dL_has_49 : decode cL_has 49 = .ok (.goto (-43), 3) := by decide +kernel
theorem dL_has_52 : decode cL_has 52 = .ok (.iload 5, 2) := by decide +kernel
theorem dL_has_54 : decode cL_has 54 = .ok (.ireturn, 1) := by decide +kernel
theorem dL_takes_0 : decode cL_takes 0 = .ok (.aload_n 3, 1) := by decide +kernel
theorem dL_takes_1 : decode cL_takes 1 = .ok (.iconst 0, 1) := by decide +kernel
theorem dL_takes_2 : decode cL_takes 2 = .ok (.iaload, 1) := by decide +kernel
theorem dL_takes_3 : decode cL_takes 3 = .ok (.ifCond .ne 20, 3) := by decide +kernel
theorem dL_takes_6 : decode cL_takes 6 = .ok (.aload_n 3, 1) := by decide +kernel
theorem dL_takes_7 : decode cL_takes 7 = .ok (.iconst 2, 1) := by decide +kernel
theorem dL_takes_8 : decode cL_takes 8 = .ok (.iaload, 1) := by decide +kernel
theorem dL_takes_9 : decode cL_takes 9 = .ok (.ifCond .ne 12, 3) := by decide +kernel
theorem dL_takes_12 : decode cL_takes 12 = .ok (.iload 5, 2) := by decide +kernel
theorem dL_takes_14 : decode cL_takes 14 = .ok (.ifCond .ne 7, 3) := by decide +kernel
theorem dL_takes_17 : decode cL_takes 17 = .ok (.iconst 1, 1) := by decide +kernel
theorem dL_takes_18 : decode cL_takes 18 = .ok (.goto 4, 3) := by decide +kernel
theorem dL_takes_21 : decode cL_takes 21 = .ok (.iconst 0, 1) := by decide +kernel
theorem dL_takes_22 : decode cL_takes 22 = .ok (.ireturn, 1) := by decide +kernel
theorem dL_takes_23 : decode cL_takes 23 = .ok (.aload_n 0, 1) := by decide +kernel
theorem dL_takes_24 : decode cL_takes 24 = .ok (.aload_n 1, 1) := by decide +kernel
theorem dL_takes_25 : decode cL_takes 25 = .ok (.aload 4, 2) := by decide +kernel
theorem dL_takes_27 : decode cL_takes 27 = .ok (.aload_n 3, 1) := by decide +kernel
theorem dL_takes_28 : decode cL_takes 28 = .ok (.iconst 0, 1) := by decide +kernel
theorem dL_takes_29 : decode cL_takes 29 = .ok (.iaload, 1) := by decide +kernel
theorem dL_takes_30 : decode cL_takes 30 = .ok (.iconst 1, 1) := by decide +kernel
theorem dL_takes_31 : decode cL_takes 31 = .ok (.isub, 1) := by decide +kernel
theorem dL_takes_32 : decode cL_takes 32 = .ok (.iaload, 1) := by decide +kernel
theorem dL_takes_33 : decode cL_takes 33 = .ok (.iload 5, 2) := by decide +kernel
theorem dL_takes_35 : decode cL_takes 35 = .ok (.invokestatic 15, 3) := by decide +kernel
theorem dL_takes_38 : decode cL_takes 38 = .ok (.istore 6, 2) := by decide +kernel
theorem dL_takes_40 : decode cL_takes 40 = .ok (.iload 5, 2) := by decide +kernel
theorem dL_takes_42 : decode cL_takes 42 = .ok (.bipush 10, 2) := by decide +kernel
theorem dL_takes_44 : decode cL_takes 44 = .ok (.if_icmp .ge 21, 3) := by decide +kernel
theorem dL_takes_47 : decode cL_takes 47 = .ok (.aload_n 2, 1) := by decide +kernel
theorem dL_takes_48 : decode cL_takes 48 = .ok (.aload_n 3, 1) := by decide +kernel
theorem dL_takes_49 : decode cL_takes 49 = .ok (.aload 4, 2) := by decide +kernel
theorem dL_takes_51 : decode cL_takes 51 = .ok (.iload 5, 2) := by decide +kernel
theorem dL_takes_53 : decode cL_takes 53 = .ok (.bipush 10, 2) := by decide +kernel
theorem dL_takes_55 : decode cL_takes 55 = .ok (.invokestatic 23, 3) := by decide +kernel
theorem dL_takes_58 : decode cL_takes 58 = .ok (.ifCond .eq 7, 3) := by decide +kernel
theorem dL_takes_61 : decode cL_takes 61 = .ok (.iconst 1, 1) := by decide +kernel
theorem dL_takes_62 : decode cL_takes 62 = .ok (.goto 4, 3) := by decide +kernel
theorem dL_takes_65 : decode cL_takes 65 = .ok (.iconst 0, 1) := by decide +kernel
theorem dL_takes_66 : decode cL_takes 66 = .ok (.istore 7, 2) := by decide +kernel
theorem dL_takes_68 : decode cL_takes 68 = .ok (.iload 7, 2) := by decide +kernel
theorem dL_takes_70 : decode cL_takes 70 = .ok (.ifCond .ne 18, 3) := by decide +kernel
theorem dL_takes_73 : decode cL_takes 73 = .ok (.iload 6, 2) := by decide +kernel
theorem dL_takes_75 : decode cL_takes 75 = .ok (.ifCond .lt 13, 3) := by decide +kernel
theorem dL_takes_78 : decode cL_takes 78 = .ok (.aload 4, 2) := by decide +kernel
theorem dL_takes_80 : decode cL_takes 80 = .ok (.aload_n 3, 1) := by decide +kernel
theorem dL_takes_81 : decode cL_takes 81 = .ok (.iconst 0, 1) := by decide +kernel
theorem dL_takes_82 : decode cL_takes 82 = .ok (.iaload, 1) := by decide +kernel
theorem dL_takes_83 : decode cL_takes 83 = .ok (.iconst 1, 1) := by decide +kernel
theorem dL_takes_84 : decode cL_takes 84 = .ok (.isub, 1) := by decide +kernel
theorem dL_takes_85 : decode cL_takes 85 = .ok (.iload 6, 2) := by decide +kernel
theorem dL_takes_87 : decode cL_takes 87 = .ok (.iastore, 1) := by decide +kernel
theorem dL_takes_88 : decode cL_takes 88 = .ok (.iload 7, 2) := by decide +kernel
theorem dL_takes_90 : decode cL_takes 90 = .ok (.ifCond .ne 32, 3) := by decide +kernel
theorem dL_takes_93 : decode cL_takes 93 = .ok (.iload 6, 2) := by decide +kernel
theorem dL_takes_95 : decode cL_takes 95 = .ok (.ifCond .ge 23, 3) := by decide +kernel
theorem dL_takes_98 : decode cL_takes 98 = .ok (.iload 5, 2) := by decide +kernel
theorem dL_takes_100 : decode cL_takes 100 = .ok (.bipush 10, 2) := by decide +kernel
theorem dL_takes_102 : decode cL_takes 102 = .ok (.if_icmp .ge 20, 3) := by decide +kernel
theorem dL_takes_105 : decode cL_takes 105 = .ok (.aload_n 2, 1) := by decide +kernel
theorem dL_takes_106 : decode cL_takes 106 = .ok (.aload_n 3, 1) := by decide +kernel
theorem dL_takes_107 : decode cL_takes 107 = .ok (.aload 4, 2) := by decide +kernel
theorem dL_takes_109 : decode cL_takes 109 = .ok (.iload 5, 2) := by decide +kernel
theorem dL_takes_111 : decode cL_takes 111 = .ok (.iconst 0, 1) := by decide +kernel
theorem dL_takes_112 : decode cL_takes 112 = .ok (.invokestatic 23, 3) := by decide +kernel
theorem dL_takes_115 : decode cL_takes 115 = .ok (.ifCond .eq 7, 3) := by decide +kernel
theorem dL_takes_118 : decode cL_takes 118 = .ok (.iconst 1, 1) := by decide +kernel
theorem dL_takes_119 : decode cL_takes 119 = .ok (.goto 4, 3) := by decide +kernel
theorem dL_takes_122 : decode cL_takes 122 = .ok (.iconst 0, 1) := by decide +kernel
theorem dL_takes_123 : decode cL_takes 123 = .ok (.ireturn, 1) := by decide +kernel
theorem dL_wanted_0 : decode cL_wanted 0 = .ok (.aload_n 3, 1) := by decide +kernel
theorem dL_wanted_1 : decode cL_wanted 1 = .ok (.iconst 0, 1) := by decide +kernel
theorem dL_wanted_2 : decode cL_wanted 2 = .ok (.iaload, 1) := by decide +kernel
theorem dL_wanted_3 : decode cL_wanted 3 = .ok (.ifCond .eq 19, 3) := by decide +kernel
theorem dL_wanted_6 : decode cL_wanted 6 = .ok (.aload_n 0, 1) := by decide +kernel
theorem dL_wanted_7 : decode cL_wanted 7 = .ok (.aload_n 1, 1) := by decide +kernel
theorem dL_wanted_8 : decode cL_wanted 8 = .ok (.aload 4, 2) := by decide +kernel
theorem dL_wanted_10 : decode cL_wanted 10 = .ok (.aload_n 3, 1) := by decide +kernel
theorem dL_wanted_11 : decode cL_wanted 11 = .ok (.iconst 0, 1) := by decide +kernel
theorem dL_wanted_12 : decode cL_wanted 12 = .ok (.iaload, 1) := by decide +kernel
theorem dL_wanted_13 : decode cL_wanted 13 = .ok (.iconst 1, 1) := by decide +kernel
theorem dL_wanted_14 : decode cL_wanted 14 = .ok (.isub, 1) := by decide +kernel
theorem dL_wanted_15 : decode cL_wanted 15 = .ok (.iaload, 1) := by decide +kernel
theorem dL_wanted_16 : decode cL_wanted 16 = .ok (.invokestatic 27, 3) := by decide +kernel
theorem dL_wanted_19 : decode cL_wanted 19 = .ok (.ifCond .eq 7, 3) := by decide +kernel
theorem dL_wanted_22 : decode cL_wanted 22 = .ok (.iconst 0, 1) := by decide +kernel
theorem dL_wanted_23 : decode cL_wanted 23 = .ok (.goto 16, 3) := by decide +kernel
theorem dL_wanted_26 : decode cL_wanted 26 = .ok (.aload_n 0, 1) := by decide +kernel
theorem dL_wanted_27 : decode cL_wanted 27 = .ok (.aload_n 1, 1) := by decide +kernel
theorem dL_wanted_28 : decode cL_wanted 28 = .ok (.aload 4, 2) := by decide +kernel
theorem dL_wanted_30 : decode cL_wanted 30 = .ok (.aload_n 3, 1) := by decide +kernel
theorem dL_wanted_31 : decode cL_wanted 31 = .ok (.iconst 0, 1) := by decide +kernel
theorem dL_wanted_32 : decode cL_wanted 32 = .ok (.iaload, 1) := by decide +kernel
theorem dL_wanted_33 : decode cL_wanted 33 = .ok (.iconst 1, 1) := by decide +kernel
theorem dL_wanted_34 : decode cL_wanted 34 = .ok (.isub, 1) := by decide +kernel
theorem dL_wanted_35 : decode cL_wanted 35 = .ok (.iaload, 1) := by decide +kernel
theorem dL_wanted_36 : decode cL_wanted 36 = .ok (.invokestatic 31, 3) := by decide +kernel
theorem dL_wanted_39 : decode cL_wanted 39 = .ok (.istore 5, 2) := by decide +kernel
theorem dL_wanted_41 : decode cL_wanted 41 = .ok (.iconst (-1), 1) := by decide +kernel
theorem dL_wanted_42 : decode cL_wanted 42 = .ok (.istore 6, 2) := by decide +kernel
theorem dL_wanted_44 : decode cL_wanted 44 = .ok (.iconst 0, 1) := by decide +kernel
theorem dL_wanted_45 : decode cL_wanted 45 = .ok (.istore 7, 2) := by decide +kernel
theorem dL_wanted_47 : decode cL_wanted 47 = .ok (.iload 7, 2) := by decide +kernel
theorem dL_wanted_49 : decode cL_wanted 49 = .ok (.iconst 5, 1) := by decide +kernel
theorem dL_wanted_50 : decode cL_wanted 50 = .ok (.if_icmp .ge 61, 3) := by decide +kernel
theorem dL_wanted_53 : decode cL_wanted 53 = .ok (.iload 5, 2) := by decide +kernel
theorem dL_wanted_55 : decode cL_wanted 55 = .ok (.iconst 1, 1) := by decide +kernel
theorem dL_wanted_56 : decode cL_wanted 56 = .ok (.iload 7, 2) := by decide +kernel
theorem dL_wanted_58 : decode cL_wanted 58 = .ok (.ishl, 1) := by decide +kernel
theorem dL_wanted_59 : decode cL_wanted 59 = .ok (.if_icmp .ne 42, 3) := by decide +kernel
theorem dL_wanted_62 : decode cL_wanted 62 = .ok (.aload_n 1, 1) := by decide +kernel
theorem dL_wanted_63 : decode cL_wanted 63 = .ok (.iload 7, 2) := by decide +kernel
theorem dL_wanted_65 : decode cL_wanted 65 = .ok (.iaload, 1) := by decide +kernel
theorem dL_wanted_66 : decode cL_wanted 66 = .ok (.ifCond .le 35, 3) := by decide +kernel
theorem dL_wanted_69 : decode cL_wanted 69 = .ok (.aload_n 2, 1) := by decide +kernel
theorem dL_wanted_70 : decode cL_wanted 70 = .ok (.iload 7, 2) := by decide +kernel
theorem dL_wanted_72 : decode cL_wanted 72 = .ok (.iaload, 1) := by decide +kernel
theorem dL_wanted_73 : decode cL_wanted 73 = .ok (.bipush 20, 2) := by decide +kernel
theorem dL_wanted_75 : decode cL_wanted 75 = .ok (.ishr, 1) := by decide +kernel
theorem dL_wanted_76 : decode cL_wanted 76 = .ok (.iconst 1, 1) := by decide +kernel
theorem dL_wanted_77 : decode cL_wanted 77 = .ok (.iand, 1) := by decide +kernel
theorem dL_wanted_78 : decode cL_wanted 78 = .ok (.iconst 1, 1) := by decide +kernel
theorem dL_wanted_79 : decode cL_wanted 79 = .ok (.if_icmp .ne 22, 3) := by decide +kernel
theorem dL_wanted_82 : decode cL_wanted 82 = .ok (.aload_n 2, 1) := by decide +kernel
theorem dL_wanted_83 : decode cL_wanted 83 = .ok (.aload_n 3, 1) := by decide +kernel
theorem dL_wanted_84 : decode cL_wanted 84 = .ok (.aload 4, 2) := by decide +kernel
theorem dL_wanted_86 : decode cL_wanted 86 = .ok (.iload 7, 2) := by decide +kernel
theorem dL_wanted_88 : decode cL_wanted 88 = .ok (.bipush 10, 2) := by decide +kernel
theorem dL_wanted_90 : decode cL_wanted 90 = .ok (.invokestatic 23, 3) := by decide +kernel
theorem dL_wanted_93 : decode cL_wanted 93 = .ok (.ifCond .ne 8, 3) := by decide +kernel
theorem dL_wanted_96 : decode cL_wanted 96 = .ok (.iload 7, 2) := by decide +kernel
theorem dL_wanted_98 : decode cL_wanted 98 = .ok (.goto 5, 3) := by decide +kernel
theorem dL_wanted_101 : decode cL_wanted 101 = .ok (.iload 6, 2) := by decide +kernel
theorem dL_wanted_103 : decode cL_wanted 103 = .ok (.istore 6, 2) := by decide +kernel
theorem dL_wanted_105 : decode cL_wanted 105 = .ok (.iinc 7 1, 3) := by decide +kernel
theorem dL_wanted_108 : decode cL_wanted 108 = .ok (.goto (-61), 3) := by decide +kernel
theorem dL_wanted_111 : decode cL_wanted 111 = .ok (.iload 6, 2) := by decide +kernel
theorem dL_wanted_113 : decode cL_wanted 113 = .ok (.ireturn, 1) := by decide +kernel
theorem dL_thing_0 : decode cL_thing 0 = .ok (.iconst 1, 1) := by decide +kernel
theorem dL_thing_1 : decode cL_thing 1 = .ok (.istore 12, 2) := by decide +kernel
theorem dL_thing_3 : decode cL_thing 3 = .ok (.iconst 0, 1) := by decide +kernel
theorem dL_thing_4 : decode cL_thing 4 = .ok (.istore 13, 2) := by decide +kernel
theorem dL_thing_6 : decode cL_thing 6 = .ok (.iload 12, 2) := by decide +kernel
theorem dL_thing_8 : decode cL_thing 8 = .ok (.ifCond .eq 263, 3) := by decide +kernel
theorem dL_thing_11 : decode cL_thing 11 = .ok (.aload_n 3, 1) := by decide +kernel
theorem dL_thing_12 : decode cL_thing 12 = .ok (.bipush 6, 2) := by decide +kernel
theorem dL_thing_14 : decode cL_thing 14 = .ok (.iaload, 1) := by decide +kernel
theorem dL_thing_15 : decode cL_thing 15 = .ok (.ifCond .ne 256, 3) := by decide +kernel
theorem dL_thing_18 : decode cL_thing 18 = .ok (.iload 13, 2) := by decide +kernel
theorem dL_thing_20 : decode cL_thing 20 = .ok (.bipush 8, 2) := by decide +kernel
theorem dL_thing_22 : decode cL_thing 22 = .ok (.if_icmp .ge 15, 3) := by decide +kernel
theorem dL_thing_25 : decode cL_thing 25 = .ok (.aload_n 0, 1) := by decide +kernel
theorem dL_thing_26 : decode cL_thing 26 = .ok (.aload_n 1, 1) := by decide +kernel
theorem dL_thing_27 : decode cL_thing 27 = .ok (.aload_n 2, 1) := by decide +kernel
theorem dL_thing_28 : decode cL_thing 28 = .ok (.aload_n 3, 1) := by decide +kernel
theorem dL_thing_29 : decode cL_thing 29 = .ok (.aload 4, 2) := by decide +kernel
theorem dL_thing_31 : decode cL_thing 31 = .ok (.invokestatic 35, 3) := by decide +kernel
theorem dL_thing_34 : decode cL_thing 34 = .ok (.goto 4, 3) := by decide +kernel
theorem dL_thing_37 : decode cL_thing 37 = .ok (.iconst (-1), 1) := by decide +kernel
theorem dL_thing_38 : decode cL_thing 38 = .ok (.istore 14, 2) := by decide +kernel
theorem dL_thing_40 : decode cL_thing 40 = .ok (.aload_n 0, 1) := by decide +kernel
theorem dL_thing_41 : decode cL_thing 41 = .ok (.aload_n 1, 1) := by decide +kernel
theorem dL_thing_42 : decode cL_thing 42 = .ok (.aload_n 2, 1) := by decide +kernel
theorem dL_thing_43 : decode cL_thing 43 = .ok (.aload_n 3, 1) := by decide +kernel
theorem dL_thing_44 : decode cL_thing 44 = .ok (.aload 4, 2) := by decide +kernel
theorem dL_thing_46 : decode cL_thing 46 = .ok (.iload 10, 2) := by decide +kernel
theorem dL_thing_48 : decode cL_thing 48 = .ok (.invokestatic 39, 3) := by decide +kernel
theorem dL_thing_51 : decode cL_thing 51 = .ok (.ifCond .eq 55, 3) := by decide +kernel
theorem dL_thing_54 : decode cL_thing 54 = .ok (.iload 10, 2) := by decide +kernel
theorem dL_thing_56 : decode cL_thing 56 = .ok (.bipush 10, 2) := by decide +kernel
theorem dL_thing_58 : decode cL_thing 58 = .ok (.if_icmp .ge 24, 3) := by decide +kernel
theorem dL_thing_61 : decode cL_thing 61 = .ok (.aload_n 1, 1) := by decide +kernel
theorem dL_thing_62 : decode cL_thing 62 = .ok (.aload_n 3, 1) := by decide +kernel
theorem dL_thing_63 : decode cL_thing 63 = .ok (.aload 4, 2) := by decide +kernel
theorem dL_thing_65 : decode cL_thing 65 = .ok (.aload 5, 2) := by decide +kernel
theorem dL_thing_67 : decode cL_thing 67 = .ok (.aload 6, 2) := by decide +kernel
theorem dL_thing_69 : decode cL_thing 69 = .ok (.aload 7, 2) := by decide +kernel
theorem dL_thing_71 : decode cL_thing 71 = .ok (.aload 8, 2) := by decide +kernel
theorem dL_thing_73 : decode cL_thing 73 = .ok (.iload 10, 2) := by decide +kernel
theorem dL_thing_75 : decode cL_thing 75 = .ok (.iconst 0, 1) := by decide +kernel
theorem dL_thing_76 : decode cL_thing 76 = .ok (.invokestatic 43, 3) := by decide +kernel
theorem dL_thing_79 : decode cL_thing 79 = .ok (.goto 21, 3) := by decide +kernel
theorem dL_thing_82 : decode cL_thing 82 = .ok (.aload_n 3, 1) := by decide +kernel
theorem dL_thing_83 : decode cL_thing 83 = .ok (.aload 4, 2) := by decide +kernel
theorem dL_thing_85 : decode cL_thing 85 = .ok (.aload 5, 2) := by decide +kernel
theorem dL_thing_87 : decode cL_thing 87 = .ok (.aload 6, 2) := by decide +kernel
theorem dL_thing_89 : decode cL_thing 89 = .ok (.aload 7, 2) := by decide +kernel
theorem dL_thing_91 : decode cL_thing 91 = .ok (.aload 8, 2) := by decide +kernel
theorem dL_thing_93 : decode cL_thing 93 = .ok (.bipush 10, 2) := by decide +kernel
theorem dL_thing_95 : decode cL_thing 95 = .ok (.iload 11, 2) := by decide +kernel
theorem dL_thing_97 : decode cL_thing 97 = .ok (.invokestatic 19, 3) := by decide +kernel
theorem dL_thing_100 : decode cL_thing 100 = .ok (.iconst 0, 1) := by decide +kernel
theorem dL_thing_101 : decode cL_thing 101 = .ok (.istore 12, 2) := by decide +kernel
theorem dL_thing_103 : decode cL_thing 103 = .ok (.goto 165, 3) := by decide +kernel
theorem dL_thing_106 : decode cL_thing 106 = .ok (.aload_n 3, 1) := by decide +kernel
theorem dL_thing_107 : decode cL_thing 107 = .ok (.iconst 2, 1) := by decide +kernel
theorem dL_thing_108 : decode cL_thing 108 = .ok (.iaload, 1) := by decide +kernel
theorem dL_thing_109 : decode cL_thing 109 = .ok (.ifCond .ne 35, 3) := by decide +kernel
theorem dL_thing_112 : decode cL_thing 112 = .ok (.aload_n 2, 1) := by decide +kernel
theorem dL_thing_113 : decode cL_thing 113 = .ok (.iconst 0, 1) := by decide +kernel
theorem dL_thing_114 : decode cL_thing 114 = .ok (.iaload, 1) := by decide +kernel
theorem dL_thing_115 : decode cL_thing 115 = .ok (.bipush 20, 2) := by decide +kernel
theorem dL_thing_117 : decode cL_thing 117 = .ok (.ishr, 1) := by decide +kernel
theorem dL_thing_118 : decode cL_thing 118 = .ok (.iconst 1, 1) := by decide +kernel
theorem dL_thing_119 : decode cL_thing 119 = .ok (.iand, 1) := by decide +kernel
theorem dL_thing_120 : decode cL_thing 120 = .ok (.iconst 1, 1) := by decide +kernel
theorem dL_thing_121 : decode cL_thing 121 = .ok (.if_icmp .ne 23, 3) := by decide +kernel
theorem dL_thing_124 : decode cL_thing 124 = .ok (.aload_n 1, 1) := by decide +kernel
theorem dL_thing_125 : decode cL_thing 125 = .ok (.aload_n 3, 1) := by decide +kernel
theorem dL_thing_126 : decode cL_thing 126 = .ok (.aload 4, 2) := by decide +kernel
theorem dL_thing_128 : decode cL_thing 128 = .ok (.aload 5, 2) := by decide +kernel
theorem dL_thing_130 : decode cL_thing 130 = .ok (.aload 6, 2) := by decide +kernel
theorem dL_thing_132 : decode cL_thing 132 = .ok (.aload 7, 2) := by decide +kernel
theorem dL_thing_134 : decode cL_thing 134 = .ok (.aload 8, 2) := by decide +kernel
theorem dL_thing_136 : decode cL_thing 136 = .ok (.iconst 0, 1) := by decide +kernel
theorem dL_thing_137 : decode cL_thing 137 = .ok (.iconst 1, 1) := by decide +kernel
theorem dL_thing_138 : decode cL_thing 138 = .ok (.invokestatic 43, 3) := by decide +kernel
theorem dL_thing_141 : decode cL_thing 141 = .ok (.goto 127, 3) := by decide +kernel
theorem dL_thing_144 : decode cL_thing 144 = .ok (.iload 14, 2) := by decide +kernel
theorem dL_thing_146 : decode cL_thing 146 = .ok (.ifCond .lt 50, 3) := by decide +kernel
theorem dL_thing_149 : decode cL_thing 149 = .ok (.aload 4, 2) := by decide +kernel
theorem dL_thing_151 : decode cL_thing 151 = .ok (.aload_n 3, 1) := by decide +kernel
theorem dL_thing_152 : decode cL_thing 152 = .ok (.iconst 0, 1) := by decide +kernel
theorem dL_thing_153 : decode cL_thing 153 = .ok (.iaload, 1) := by decide +kernel
theorem dL_thing_154 : decode cL_thing 154 = .ok (.iconst 1, 1) := by decide +kernel
theorem dL_thing_155 : decode cL_thing 155 = .ok (.isub, 1) := by decide +kernel
theorem dL_thing_156 : decode cL_thing 156 = .ok (.aload_n 0, 1) := by decide +kernel
theorem dL_thing_157 : decode cL_thing 157 = .ok (.aload_n 1, 1) := by decide +kernel
theorem dL_thing_158 : decode cL_thing 158 = .ok (.aload 4, 2) := by decide +kernel
theorem dL_thing_160 : decode cL_thing 160 = .ok (.aload_n 3, 1) := by decide +kernel
theorem dL_thing_161 : decode cL_thing 161 = .ok (.iconst 0, 1) := by decide +kernel
theorem dL_thing_162 : decode cL_thing 162 = .ok (.iaload, 1) := by decide +kernel
theorem dL_thing_163 : decode cL_thing 163 = .ok (.iconst 1, 1) := by decide +kernel
theorem dL_thing_164 : decode cL_thing 164 = .ok (.isub, 1) := by decide +kernel
theorem dL_thing_165 : decode cL_thing 165 = .ok (.iaload, 1) := by decide +kernel
theorem dL_thing_166 : decode cL_thing 166 = .ok (.iload 14, 2) := by decide +kernel
theorem dL_thing_168 : decode cL_thing 168 = .ok (.invokestatic 15, 3) := by decide +kernel
theorem dL_thing_171 : decode cL_thing 171 = .ok (.iastore, 1) := by decide +kernel
theorem dL_thing_172 : decode cL_thing 172 = .ok (.aload_n 1, 1) := by decide +kernel
theorem dL_thing_173 : decode cL_thing 173 = .ok (.aload_n 3, 1) := by decide +kernel
theorem dL_thing_174 : decode cL_thing 174 = .ok (.aload 4, 2) := by decide +kernel
theorem dL_thing_176 : decode cL_thing 176 = .ok (.aload 5, 2) := by decide +kernel
theorem dL_thing_178 : decode cL_thing 178 = .ok (.aload 6, 2) := by decide +kernel
theorem dL_thing_180 : decode cL_thing 180 = .ok (.aload 7, 2) := by decide +kernel
theorem dL_thing_182 : decode cL_thing 182 = .ok (.aload 8, 2) := by decide +kernel
theorem dL_thing_184 : decode cL_thing 184 = .ok (.iload 14, 2) := by decide +kernel
theorem dL_thing_186 : decode cL_thing 186 = .ok (.iconst 1, 1) := by decide +kernel
theorem dL_thing_187 : decode cL_thing 187 = .ok (.invokestatic 43, 3) := by decide +kernel
theorem dL_thing_190 : decode cL_thing 190 = .ok (.iinc 13 1, 3) := by decide +kernel
theorem dL_thing_193 : decode cL_thing 193 = .ok (.goto 75, 3) := by decide +kernel
theorem dL_thing_196 : decode cL_thing 196 = .ok (.aload_n 3, 1) := by decide +kernel
theorem dL_thing_197 : decode cL_thing 197 = .ok (.iconst 0, 1) := by decide +kernel
theorem dL_thing_198 : decode cL_thing 198 = .ok (.iaload, 1) := by decide +kernel
theorem dL_thing_199 : decode cL_thing 199 = .ok (.iconst 1, 1) := by decide +kernel
theorem dL_thing_200 : decode cL_thing 200 = .ok (.if_icmp .le 58, 3) := by decide +kernel
theorem dL_thing_203 : decode cL_thing 203 = .ok (.aload_n 0, 1) := by decide +kernel
theorem dL_thing_204 : decode cL_thing 204 = .ok (.aload_n 1, 1) := by decide +kernel
theorem dL_thing_205 : decode cL_thing 205 = .ok (.aload 4, 2) := by decide +kernel
theorem dL_thing_207 : decode cL_thing 207 = .ok (.aload_n 3, 1) := by decide +kernel
theorem dL_thing_208 : decode cL_thing 208 = .ok (.iconst 0, 1) := by decide +kernel
theorem dL_thing_209 : decode cL_thing 209 = .ok (.iaload, 1) := by decide +kernel
theorem dL_thing_210 : decode cL_thing 210 = .ok (.iconst 1, 1) := by decide +kernel
theorem dL_thing_211 : decode cL_thing 211 = .ok (.isub, 1) := by decide +kernel
theorem dL_thing_212 : decode cL_thing 212 = .ok (.iaload, 1) := by decide +kernel
theorem dL_thing_213 : decode cL_thing 213 = .ok (.invokestatic 27, 3) := by decide +kernel
theorem dL_thing_216 : decode cL_thing 216 = .ok (.ifCond .eq 42, 3) := by decide +kernel
theorem dL_thing_219 : decode cL_thing 219 = .ok (.aload_n 2, 1) := by decide +kernel
theorem dL_thing_220 : decode cL_thing 220 = .ok (.aload 4, 2) := by decide +kernel
theorem dL_thing_222 : decode cL_thing 222 = .ok (.aload_n 3, 1) := by decide +kernel
theorem dL_thing_223 : decode cL_thing 223 = .ok (.iconst 0, 1) := by decide +kernel
theorem dL_thing_224 : decode cL_thing 224 = .ok (.iaload, 1) := by decide +kernel
theorem dL_thing_225 : decode cL_thing 225 = .ok (.iconst 1, 1) := by decide +kernel
theorem dL_thing_226 : decode cL_thing 226 = .ok (.isub, 1) := by decide +kernel
theorem dL_thing_227 : decode cL_thing 227 = .ok (.iaload, 1) := by decide +kernel
theorem dL_thing_228 : decode cL_thing 228 = .ok (.bipush 16, 2) := by decide +kernel
theorem dL_thing_230 : decode cL_thing 230 = .ok (.idiv, 1) := by decide +kernel
theorem dL_thing_231 : decode cL_thing 231 = .ok (.iaload, 1) := by decide +kernel
theorem dL_thing_232 : decode cL_thing 232 = .ok (.bipush 21, 2) := by decide +kernel
theorem dL_thing_234 : decode cL_thing 234 = .ok (.ishr, 1) := by decide +kernel
theorem dL_thing_235 : decode cL_thing 235 = .ok (.iconst 1, 1) := by decide +kernel
theorem dL_thing_236 : decode cL_thing 236 = .ok (.iand, 1) := by decide +kernel
theorem dL_thing_237 : decode cL_thing 237 = .ok (.iconst 1, 1) := by decide +kernel
theorem dL_thing_238 : decode cL_thing 238 = .ok (.if_icmp .ne 20, 3) := by decide +kernel
theorem dL_thing_241 : decode cL_thing 241 = .ok (.aload_n 3, 1) := by decide +kernel
theorem dL_thing_242 : decode cL_thing 242 = .ok (.iconst 0, 1) := by decide +kernel
theorem dL_thing_243 : decode cL_thing 243 = .ok (.dup2, 1) := by decide +kernel
theorem dL_thing_244 : decode cL_thing 244 = .ok (.iaload, 1) := by decide +kernel
theorem dL_thing_245 : decode cL_thing 245 = .ok (.iconst 1, 1) := by decide +kernel
theorem dL_thing_246 : decode cL_thing 246 = .ok (.isub, 1) := by decide +kernel
theorem dL_thing_247 : decode cL_thing 247 = .ok (.iastore, 1) := by decide +kernel
theorem dL_thing_248 : decode cL_thing 248 = .ok (.aload_n 3, 1) := by decide +kernel
theorem dL_thing_249 : decode cL_thing 249 = .ok (.iconst 4, 1) := by decide +kernel
theorem dL_thing_250 : decode cL_thing 250 = .ok (.dup2, 1) := by decide +kernel
theorem dL_thing_251 : decode cL_thing 251 = .ok (.iaload, 1) := by decide +kernel
theorem dL_thing_252 : decode cL_thing 252 = .ok (.iconst 1, 1) := by decide +kernel
theorem dL_thing_253 : decode cL_thing 253 = .ok (.iadd, 1) := by decide +kernel
theorem dL_thing_254 : decode cL_thing 254 = .ok (.iastore, 1) := by decide +kernel
theorem dL_thing_255 : decode cL_thing 255 = .ok (.goto 13, 3) := by decide +kernel
theorem dL_thing_258 : decode cL_thing 258 = .ok (.aload_n 3, 1) := by decide +kernel
theorem dL_thing_259 : decode cL_thing 259 = .ok (.aload 9, 2) := by decide +kernel
theorem dL_thing_261 : decode cL_thing 261 = .ok (.iconst 0, 1) := by decide +kernel
theorem dL_thing_262 : decode cL_thing 262 = .ok (.invokestatic 47, 3) := by decide +kernel
theorem dL_thing_265 : decode cL_thing 265 = .ok (.iconst 0, 1) := by decide +kernel
theorem dL_thing_266 : decode cL_thing 266 = .ok (.istore 12, 2) := by decide +kernel
theorem dL_thing_268 : decode cL_thing 268 = .ok (.goto (-262), 3) := by decide +kernel
theorem dL_thing_271 : decode cL_thing 271 = .ok (.return_, 1) := by decide +kernel
theorem dL_close_0 : decode cL_close 0 = .ok (.aload_n 3, 1) := by decide +kernel
theorem dL_close_1 : decode cL_close 1 = .ok (.iconst 0, 1) := by decide +kernel
theorem dL_close_2 : decode cL_close 2 = .ok (.iaload, 1) := by decide +kernel
theorem dL_close_3 : decode cL_close 3 = .ok (.iload 6, 2) := by decide +kernel
theorem dL_close_5 : decode cL_close 5 = .ok (.if_icmp .le 105, 3) := by decide +kernel
theorem dL_close_8 : decode cL_close 8 = .ok (.aload 4, 2) := by decide +kernel
theorem dL_close_10 : decode cL_close 10 = .ok (.aload_n 3, 1) := by decide +kernel
theorem dL_close_11 : decode cL_close 11 = .ok (.iconst 0, 1) := by decide +kernel
theorem dL_close_12 : decode cL_close 12 = .ok (.iaload, 1) := by decide +kernel
theorem dL_close_13 : decode cL_close 13 = .ok (.iconst 1, 1) := by decide +kernel
theorem dL_close_14 : decode cL_close 14 = .ok (.isub, 1) := by decide +kernel
theorem dL_close_15 : decode cL_close 15 = .ok (.iaload, 1) := by decide +kernel
theorem dL_close_16 : decode cL_close 16 = .ok (.istore 8, 2) := by decide +kernel
theorem dL_close_18 : decode cL_close 18 = .ok (.aload_n 3, 1) := by decide +kernel
theorem dL_close_19 : decode cL_close 19 = .ok (.iconst 0, 1) := by decide +kernel
theorem dL_close_20 : decode cL_close 20 = .ok (.iaload, 1) := by decide +kernel
theorem dL_close_21 : decode cL_close 21 = .ok (.iload 6, 2) := by decide +kernel
theorem dL_close_23 : decode cL_close 23 = .ok (.iconst 1, 1) := by decide +kernel
theorem dL_close_24 : decode cL_close 24 = .ok (.iadd, 1) := by decide +kernel
theorem dL_close_25 : decode cL_close 25 = .ok (.if_icmp .gt 8, 3) := by decide +kernel
theorem dL_close_28 : decode cL_close 28 = .ok (.iload 7, 2) := by decide +kernel
theorem dL_close_30 : decode cL_close 30 = .ok (.ifCond .ne 7, 3) := by decide +kernel
theorem dL_close_33 : decode cL_close 33 = .ok (.iconst 1, 1) := by decide +kernel
theorem dL_close_34 : decode cL_close 34 = .ok (.goto 4, 3) := by decide +kernel
theorem dL_close_37 : decode cL_close 37 = .ok (.iconst 0, 1) := by decide +kernel
theorem dL_close_38 : decode cL_close 38 = .ok (.istore 9, 2) := by decide +kernel
theorem dL_close_40 : decode cL_close 40 = .ok (.aload_n 0, 1) := by decide +kernel
theorem dL_close_41 : decode cL_close 41 = .ok (.aload_n 1, 1) := by decide +kernel
theorem dL_close_42 : decode cL_close 42 = .ok (.iload 8, 2) := by decide +kernel
theorem dL_close_44 : decode cL_close 44 = .ok (.invokestatic 27, 3) := by decide +kernel
theorem dL_close_47 : decode cL_close 47 = .ok (.ifCond .ne 10, 3) := by decide +kernel
theorem dL_close_50 : decode cL_close 50 = .ok (.aload_n 3, 1) := by decide +kernel
theorem dL_close_51 : decode cL_close 51 = .ok (.aload 5, 2) := by decide +kernel
theorem dL_close_53 : decode cL_close 53 = .ok (.iconst 2, 1) := by decide +kernel
theorem dL_close_54 : decode cL_close 54 = .ok (.invokestatic 47, 3) := by decide +kernel
theorem dL_close_57 : decode cL_close 57 = .ok (.aload_n 3, 1) := by decide +kernel
theorem dL_close_58 : decode cL_close 58 = .ok (.iconst 4, 1) := by decide +kernel
theorem dL_close_59 : decode cL_close 59 = .ok (.dup2, 1) := by decide +kernel
theorem dL_close_60 : decode cL_close 60 = .ok (.iaload, 1) := by decide +kernel
theorem dL_close_61 : decode cL_close 61 = .ok (.iload 9, 2) := by decide +kernel
theorem dL_close_63 : decode cL_close 63 = .ok (.ifCond .eq 7, 3) := by decide +kernel
theorem dL_close_66 : decode cL_close 66 = .ok (.iconst 1, 1) := by decide +kernel
theorem dL_close_67 : decode cL_close 67 = .ok (.goto 4, 3) := by decide +kernel
theorem dL_close_70 : decode cL_close 70 = .ok (.iconst 0, 1) := by decide +kernel
theorem dL_close_71 : decode cL_close 71 = .ok (.iadd, 1) := by decide +kernel
theorem dL_close_72 : decode cL_close 72 = .ok (.iastore, 1) := by decide +kernel
theorem dL_close_73 : decode cL_close 73 = .ok (.iload 9, 2) := by decide +kernel
theorem dL_close_75 : decode cL_close 75 = .ok (.ifCond .eq 25, 3) := by decide +kernel
theorem dL_close_78 : decode cL_close 78 = .ok (.aload_n 2, 1) := by decide +kernel
theorem dL_close_79 : decode cL_close 79 = .ok (.iload 8, 2) := by decide +kernel
theorem dL_close_81 : decode cL_close 81 = .ok (.bipush 16, 2) := by decide +kernel
theorem dL_close_83 : decode cL_close 83 = .ok (.idiv, 1) := by decide +kernel
theorem dL_close_84 : decode cL_close 84 = .ok (.iaload, 1) := by decide +kernel
theorem dL_close_85 : decode cL_close 85 = .ok (.bipush 21, 2) := by decide +kernel
theorem dL_close_87 : decode cL_close 87 = .ok (.ishr, 1) := by decide +kernel
theorem dL_close_88 : decode cL_close 88 = .ok (.iconst 1, 1) := by decide +kernel
theorem dL_close_89 : decode cL_close 89 = .ok (.iand, 1) := by decide +kernel
theorem dL_close_90 : decode cL_close 90 = .ok (.ifCond .ne 10, 3) := by decide +kernel
theorem dL_close_93 : decode cL_close 93 = .ok (.aload_n 3, 1) := by decide +kernel
theorem dL_close_94 : decode cL_close 94 = .ok (.aload 5, 2) := by decide +kernel
theorem dL_close_96 : decode cL_close 96 = .ok (.iconst 3, 1) := by decide +kernel
theorem dL_close_97 : decode cL_close 97 = .ok (.invokestatic 47, 3) := by decide +kernel
theorem dL_close_100 : decode cL_close 100 = .ok (.aload_n 3, 1) := by decide +kernel
theorem dL_close_101 : decode cL_close 101 = .ok (.iconst 0, 1) := by decide +kernel
theorem dL_close_102 : decode cL_close 102 = .ok (.dup2, 1) := by decide +kernel
theorem dL_close_103 : decode cL_close 103 = .ok (.iaload, 1) := by decide +kernel
theorem dL_close_104 : decode cL_close 104 = .ok (.iconst 1, 1) := by decide +kernel
theorem dL_close_105 : decode cL_close 105 = .ok (.isub, 1) := by decide +kernel
theorem dL_close_106 : decode cL_close 106 = .ok (.iastore, 1) := by decide +kernel
theorem dL_close_107 : decode cL_close 107 = .ok (.goto (-107), 3) := by decide +kernel
theorem dL_close_110 : decode cL_close 110 = .ok (.return_, 1) := by decide +kernel
theorem dL_token_0 : decode cL_token 0 = .ok (.aload_n 2, 1) := by decide +kernel
theorem dL_token_1 : decode cL_token 1 = .ok (.bipush 7, 2) := by decide +kernel
theorem dL_token_3 : decode cL_token 3 = .ok (.iaload, 1) := by decide +kernel
theorem dL_token_4 : decode cL_token 4 = .ok (.ifCond .ne 23, 3) := by decide +kernel
theorem dL_token_7 : decode cL_token 7 = .ok (.iload_n 3, 1) := by decide +kernel
theorem dL_token_8 : decode cL_token 8 = .ok (.ifCond .lt 11, 3) := by decide +kernel
theorem dL_token_11 : decode cL_token 11 = .ok (.iload_n 3, 1) := by decide +kernel
theorem dL_token_12 : decode cL_token 12 = .ok (.aload_n 1, 1) := by decide +kernel
theorem dL_token_13 : decode cL_token 13 = .ok (.bipush 20, 2) := by decide +kernel
theorem dL_token_15 : decode cL_token 15 = .ok (.iaload, 1) := by decide +kernel
theorem dL_token_16 : decode cL_token 16 = .ok (.if_icmp .lt 7, 3) := by decide +kernel
theorem dL_token_19 : decode cL_token 19 = .ok (.iconst (-1), 1) := by decide +kernel
theorem dL_token_20 : decode cL_token 20 = .ok (.goto 6, 3) := by decide +kernel
theorem dL_token_23 : decode cL_token 23 = .ok (.aload_n 1, 1) := by decide +kernel
theorem dL_token_24 : decode cL_token 24 = .ok (.iload_n 3, 1) := by decide +kernel
theorem dL_token_25 : decode cL_token 25 = .ok (.iaload, 1) := by decide +kernel
theorem dL_token_26 : decode cL_token 26 = .ok (.ireturn, 1) := by decide +kernel
theorem dL_token_27 : decode cL_token 27 = .ok (.aload_n 2, 1) := by decide +kernel
theorem dL_token_28 : decode cL_token 28 = .ok (.bipush 11, 2) := by decide +kernel
theorem dL_token_30 : decode cL_token 30 = .ok (.aload_n 2, 1) := by decide +kernel
theorem dL_token_31 : decode cL_token 31 = .ok (.bipush 7, 2) := by decide +kernel
theorem dL_token_33 : decode cL_token 33 = .ok (.iaload, 1) := by decide +kernel
theorem dL_token_34 : decode cL_token 34 = .ok (.iadd, 1) := by decide +kernel
theorem dL_token_35 : decode cL_token 35 = .ok (.iaload, 1) := by decide +kernel
theorem dL_token_36 : decode cL_token 36 = .ok (.istore 4, 2) := by decide +kernel
theorem dL_token_38 : decode cL_token 38 = .ok (.iload_n 3, 1) := by decide +kernel
theorem dL_token_39 : decode cL_token 39 = .ok (.ifCond .lt 14, 3) := by decide +kernel
theorem dL_token_42 : decode cL_token 42 = .ok (.iload_n 3, 1) := by decide +kernel
theorem dL_token_43 : decode cL_token 43 = .ok (.aload_n 0, 1) := by decide +kernel
theorem dL_token_44 : decode cL_token 44 = .ok (.bipush 8, 2) := by decide +kernel
theorem dL_token_46 : decode cL_token 46 = .ok (.iload 4, 2) := by decide +kernel
theorem dL_token_48 : decode cL_token 48 = .ok (.iadd, 1) := by decide +kernel
theorem dL_token_49 : decode cL_token 49 = .ok (.iaload, 1) := by decide +kernel
theorem dL_token_50 : decode cL_token 50 = .ok (.if_icmp .lt 7, 3) := by decide +kernel
theorem dL_token_53 : decode cL_token 53 = .ok (.iconst (-1), 1) := by decide +kernel
theorem dL_token_54 : decode cL_token 54 = .ok (.goto 11, 3) := by decide +kernel
theorem dL_token_57 : decode cL_token 57 = .ok (.aload_n 0, 1) := by decide +kernel
theorem dL_token_58 : decode cL_token 58 = .ok (.iconst 4, 1) := by decide +kernel
theorem dL_token_59 : decode cL_token 59 = .ok (.iload 4, 2) := by decide +kernel
theorem dL_token_61 : decode cL_token 61 = .ok (.imul, 1) := by decide +kernel
theorem dL_token_62 : decode cL_token 62 = .ok (.iload_n 3, 1) := by decide +kernel
theorem dL_token_63 : decode cL_token 63 = .ok (.iadd, 1) := by decide +kernel
theorem dL_token_64 : decode cL_token 64 = .ok (.iaload, 1) := by decide +kernel
theorem dL_token_65 : decode cL_token 65 = .ok (.ireturn, 1) := by decide +kernel
theorem dL_one_0 : decode cL_one 0 = .ok (.aload 5, 2) := by decide +kernel
theorem dL_one_2 : decode cL_one 2 = .ok (.bipush 8, 2) := by decide +kernel
theorem dL_one_4 : decode cL_one 4 = .ok (.aload 5, 2) := by decide +kernel
theorem dL_one_6 : decode cL_one 6 = .ok (.bipush 7, 2) := by decide +kernel
theorem dL_one_8 : decode cL_one 8 = .ok (.iaload, 1) := by decide +kernel
theorem dL_one_9 : decode cL_one 9 = .ok (.iadd, 1) := by decide +kernel
theorem dL_one_10 : decode cL_one 10 = .ok (.iaload, 1) := by decide +kernel
theorem dL_one_11 : decode cL_one 11 = .ok (.istore 13, 2) := by decide +kernel
theorem dL_one_13 : decode cL_one 13 = .ok (.aload_n 3, 1) := by decide +kernel
theorem dL_one_14 : decode cL_one 14 = .ok (.aload 4, 2) := by decide +kernel
theorem dL_one_16 : decode cL_one 16 = .ok (.aload 5, 2) := by decide +kernel
theorem dL_one_18 : decode cL_one 18 = .ok (.iload 13, 2) := by decide +kernel
theorem dL_one_20 : decode cL_one 20 = .ok (.invokestatic 51, 3) := by decide +kernel
theorem dL_one_23 : decode cL_one 23 = .ok (.istore 14, 2) := by decide +kernel
theorem dL_one_25 : decode cL_one 25 = .ok (.aload 5, 2) := by decide +kernel
theorem dL_one_27 : decode cL_one 27 = .ok (.bipush 18, 2) := by decide +kernel
theorem dL_one_29 : decode cL_one 29 = .ok (.aload 5, 2) := by decide +kernel
theorem dL_one_31 : decode cL_one 31 = .ok (.bipush 7, 2) := by decide +kernel
theorem dL_one_33 : decode cL_one 33 = .ok (.iaload, 1) := by decide +kernel
theorem dL_one_34 : decode cL_one 34 = .ok (.ifCond .ne 8, 3) := by decide +kernel
theorem dL_one_37 : decode cL_one 37 = .ok (.iload 13, 2) := by decide +kernel
theorem dL_one_39 : decode cL_one 39 = .ok (.goto 8, 3) := by decide +kernel
theorem dL_one_42 : decode cL_one 42 = .ok (.aload 5, 2) := by decide +kernel
theorem dL_one_44 : decode cL_one 44 = .ok (.bipush 18, 2) := by decide +kernel
theorem dL_one_46 : decode cL_one 46 = .ok (.iaload, 1) := by decide +kernel
theorem dL_one_47 : decode cL_one 47 = .ok (.iastore, 1) := by decide +kernel
theorem dL_one_48 : decode cL_one 48 = .ok (.iload 14, 2) := by decide +kernel
theorem dL_one_50 : decode cL_one 50 = .ok (.sipush 128, 3) := by decide +kernel
theorem dL_one_53 : decode cL_one 53 = .ok (.idiv, 1) := by decide +kernel
theorem dL_one_54 : decode cL_one 54 = .ok (.istore 15, 2) := by decide +kernel
theorem dL_one_56 : decode cL_one 56 = .ok (.iload 14, 2) := by decide +kernel
theorem dL_one_58 : decode cL_one 58 = .ok (.sipush 128, 3) := by decide +kernel
theorem dL_one_61 : decode cL_one 61 = .ok (.irem, 1) := by decide +kernel
theorem dL_one_62 : decode cL_one 62 = .ok (.istore 16, 2) := by decide +kernel
theorem dL_one_64 : decode cL_one 64 = .ok (.aload 5, 2) := by decide +kernel
theorem dL_one_66 : decode cL_one 66 = .ok (.bipush 14, 2) := by decide +kernel
theorem dL_one_68 : decode cL_one 68 = .ok (.aload 5, 2) := by decide +kernel
theorem dL_one_70 : decode cL_one 70 = .ok (.bipush 7, 2) := by decide +kernel
theorem dL_one_72 : decode cL_one 72 = .ok (.iaload, 1) := by decide +kernel
theorem dL_one_73 : decode cL_one 73 = .ok (.iadd, 1) := by decide +kernel
theorem dL_one_74 : decode cL_one 74 = .ok (.iaload, 1) := by decide +kernel
theorem dL_one_75 : decode cL_one 75 = .ok (.ifCond .ne 7, 3) := by decide +kernel
theorem dL_one_78 : decode cL_one 78 = .ok (.iconst 0, 1) := by decide +kernel
theorem dL_one_79 : decode cL_one 79 = .ok (.goto 28, 3) := by decide +kernel
theorem dL_one_82 : decode cL_one 82 = .ok (.aload 7, 2) := by decide +kernel
theorem dL_one_84 : decode cL_one 84 = .ok (.bipush 20, 2) := by decide +kernel
theorem dL_one_86 : decode cL_one 86 = .ok (.aload 5, 2) := by decide +kernel
theorem dL_one_88 : decode cL_one 88 = .ok (.bipush 7, 2) := by decide +kernel
theorem dL_one_90 : decode cL_one 90 = .ok (.iaload, 1) := by decide +kernel
theorem dL_one_91 : decode cL_one 91 = .ok (.imul, 1) := by decide +kernel
theorem dL_one_92 : decode cL_one 92 = .ok (.aload 5, 2) := by decide +kernel
theorem dL_one_94 : decode cL_one 94 = .ok (.bipush 14, 2) := by decide +kernel
theorem dL_one_96 : decode cL_one 96 = .ok (.aload 5, 2) := by decide +kernel
theorem dL_one_98 : decode cL_one 98 = .ok (.bipush 7, 2) := by decide +kernel
theorem dL_one_100 : decode cL_one 100 = .ok (.iaload, 1) := by decide +kernel
theorem dL_one_101 : decode cL_one 101 = .ok (.iadd, 1) := by decide +kernel
theorem dL_one_102 : decode cL_one 102 = .ok (.iaload, 1) := by decide +kernel
theorem dL_one_103 : decode cL_one 103 = .ok (.iadd, 1) := by decide +kernel
theorem dL_one_104 : decode cL_one 104 = .ok (.iconst 1, 1) := by decide +kernel
theorem dL_one_105 : decode cL_one 105 = .ok (.isub, 1) := by decide +kernel
theorem dL_one_106 : decode cL_one 106 = .ok (.iaload, 1) := by decide +kernel
theorem dL_one_107 : decode cL_one 107 = .ok (.istore 17, 2) := by decide +kernel
theorem dL_one_109 : decode cL_one 109 = .ok (.aload 5, 2) := by decide +kernel
theorem dL_one_111 : decode cL_one 111 = .ok (.bipush 8, 2) := by decide +kernel
theorem dL_one_113 : decode cL_one 113 = .ok (.aload 5, 2) := by decide +kernel
theorem dL_one_115 : decode cL_one 115 = .ok (.bipush 7, 2) := by decide +kernel
theorem dL_one_117 : decode cL_one 117 = .ok (.iaload, 1) := by decide +kernel
theorem dL_one_118 : decode cL_one 118 = .ok (.iadd, 1) := by decide +kernel
theorem dL_one_119 : decode cL_one 119 = .ok (.dup2, 1) := by decide +kernel
theorem dL_one_120 : decode cL_one 120 = .ok (.iaload, 1) := by decide +kernel
theorem dL_one_121 : decode cL_one 121 = .ok (.iconst 1, 1) := by decide +kernel
theorem dL_one_122 : decode cL_one 122 = .ok (.iadd, 1) := by decide +kernel
theorem dL_one_123 : decode cL_one 123 = .ok (.iastore, 1) := by decide +kernel
theorem dL_one_124 : decode cL_one 124 = .ok (.iload 17, 2) := by decide +kernel
theorem dL_one_126 : decode cL_one 126 = .ok (.ifCond .ne 7, 3) := by decide +kernel
theorem dL_one_129 : decode cL_one 129 = .ok (.iconst (-1), 1) := by decide +kernel
theorem dL_one_130 : decode cL_one 130 = .ok (.goto 18, 3) := by decide +kernel
theorem dL_one_133 : decode cL_one 133 = .ok (.iload 17, 2) := by decide +kernel
theorem dL_one_135 : decode cL_one 135 = .ok (.iconst 2, 1) := by decide +kernel
theorem dL_one_136 : decode cL_one 136 = .ok (.if_icmp .le 8, 3) := by decide +kernel
theorem dL_one_139 : decode cL_one 139 = .ok (.iload 17, 2) := by decide +kernel
theorem dL_one_141 : decode cL_one 141 = .ok (.goto 7, 3) := by decide +kernel
theorem dL_one_144 : decode cL_one 144 = .ok (.iload 17, 2) := by decide +kernel
theorem dL_one_146 : decode cL_one 146 = .ok (.iconst 2, 1) := by decide +kernel
theorem dL_one_147 : decode cL_one 147 = .ok (.iadd, 1) := by decide +kernel
theorem dL_one_148 : decode cL_one 148 = .ok (.istore 18, 2) := by decide +kernel
theorem dL_one_150 : decode cL_one 150 = .ok (.iload 15, 2) := by decide +kernel
theorem dL_one_152 : decode cL_one 152 = .ok (.bipush 7, 2) := by decide +kernel
theorem dL_one_154 : decode cL_one 154 = .ok (.if_icmp .ne 58, 3) := by decide +kernel
theorem dL_one_157 : decode cL_one 157 = .ok (.aload 7, 2) := by decide +kernel
theorem dL_one_159 : decode cL_one 159 = .ok (.bipush 20, 2) := by decide +kernel
theorem dL_one_161 : decode cL_one 161 = .ok (.aload 5, 2) := by decide +kernel
theorem dL_one_163 : decode cL_one 163 = .ok (.bipush 7, 2) := by decide +kernel
theorem dL_one_165 : decode cL_one 165 = .ok (.iaload, 1) := by decide +kernel
theorem dL_one_166 : decode cL_one 166 = .ok (.imul, 1) := by decide +kernel
theorem dL_one_167 : decode cL_one 167 = .ok (.aload 5, 2) := by decide +kernel
theorem dL_one_169 : decode cL_one 169 = .ok (.bipush 14, 2) := by decide +kernel
theorem dL_one_171 : decode cL_one 171 = .ok (.aload 5, 2) := by decide +kernel
theorem dL_one_173 : decode cL_one 173 = .ok (.bipush 7, 2) := by decide +kernel
theorem dL_one_175 : decode cL_one 175 = .ok (.iaload, 1) := by decide +kernel
theorem dL_one_176 : decode cL_one 176 = .ok (.iadd, 1) := by decide +kernel
theorem dL_one_177 : decode cL_one 177 = .ok (.iaload, 1) := by decide +kernel
theorem dL_one_178 : decode cL_one 178 = .ok (.iadd, 1) := by decide +kernel
theorem dL_one_179 : decode cL_one 179 = .ok (.iload 18, 2) := by decide +kernel
theorem dL_one_181 : decode cL_one 181 = .ok (.ifCond .ge 13, 3) := by decide +kernel
theorem dL_one_184 : decode cL_one 184 = .ok (.aload_n 3, 1) := by decide +kernel
theorem dL_one_185 : decode cL_one 185 = .ok (.bipush 10, 2) := by decide +kernel
theorem dL_one_187 : decode cL_one 187 = .ok (.iload 16, 2) := by decide +kernel
theorem dL_one_189 : decode cL_one 189 = .ok (.iadd, 1) := by decide +kernel
theorem dL_one_190 : decode cL_one 190 = .ok (.iaload, 1) := by decide +kernel
theorem dL_one_191 : decode cL_one 191 = .ok (.goto 5, 3) := by decide +kernel
theorem dL_one_194 : decode cL_one 194 = .ok (.iload 18, 2) := by decide +kernel
theorem dL_one_196 : decode cL_one 196 = .ok (.iastore, 1) := by decide +kernel
theorem dL_one_197 : decode cL_one 197 = .ok (.aload 5, 2) := by decide +kernel
theorem dL_one_199 : decode cL_one 199 = .ok (.bipush 14, 2) := by decide +kernel
theorem dL_one_201 : decode cL_one 201 = .ok (.aload 5, 2) := by decide +kernel
theorem dL_one_203 : decode cL_one 203 = .ok (.bipush 7, 2) := by decide +kernel
theorem dL_one_205 : decode cL_one 205 = .ok (.iaload, 1) := by decide +kernel
theorem dL_one_206 : decode cL_one 206 = .ok (.iadd, 1) := by decide +kernel
theorem dL_one_207 : decode cL_one 207 = .ok (.dup2, 1) := by decide +kernel
theorem dL_one_208 : decode cL_one 208 = .ok (.iaload, 1) := by decide +kernel
theorem dL_one_209 : decode cL_one 209 = .ok (.iconst 1, 1) := by decide +kernel
theorem dL_one_210 : decode cL_one 210 = .ok (.iadd, 1) := by decide +kernel
theorem dL_one_211 : decode cL_one 211 = .ok (.iastore, 1) := by decide +kernel
theorem dL_one_212 : decode cL_one 212 = .ok (.iload 15, 2) := by decide +kernel
theorem dL_one_214 : decode cL_one 214 = .ok (.bipush 8, 2) := by decide +kernel
theorem dL_one_216 : decode cL_one 216 = .ok (.if_icmp .ne 35, 3) := by decide +kernel
theorem dL_one_219 : decode cL_one 219 = .ok (.aload 5, 2) := by decide +kernel
theorem dL_one_221 : decode cL_one 221 = .ok (.bipush 14, 2) := by decide +kernel
theorem dL_one_223 : decode cL_one 223 = .ok (.aload 5, 2) := by decide +kernel
theorem dL_one_225 : decode cL_one 225 = .ok (.bipush 7, 2) := by decide +kernel
theorem dL_one_227 : decode cL_one 227 = .ok (.iaload, 1) := by decide +kernel
theorem dL_one_228 : decode cL_one 228 = .ok (.iadd, 1) := by decide +kernel
theorem dL_one_229 : decode cL_one 229 = .ok (.iaload, 1) := by decide +kernel
theorem dL_one_230 : decode cL_one 230 = .ok (.ifCond .le 21, 3) := by decide +kernel
theorem dL_one_233 : decode cL_one 233 = .ok (.aload 5, 2) := by decide +kernel
theorem dL_one_235 : decode cL_one 235 = .ok (.bipush 14, 2) := by decide +kernel
theorem dL_one_237 : decode cL_one 237 = .ok (.aload 5, 2) := by decide +kernel
theorem dL_one_239 : decode cL_one 239 = .ok (.bipush 7, 2) := by decide +kernel
theorem dL_one_241 : decode cL_one 241 = .ok (.iaload, 1) := by decide +kernel
theorem dL_one_242 : decode cL_one 242 = .ok (.iadd, 1) := by decide +kernel
theorem dL_one_243 : decode cL_one 243 = .ok (.dup2, 1) := by decide +kernel
theorem dL_one_244 : decode cL_one 244 = .ok (.iaload, 1) := by decide +kernel
theorem dL_one_245 : decode cL_one 245 = .ok (.iconst 1, 1) := by decide +kernel
theorem dL_one_246 : decode cL_one 246 = .ok (.isub, 1) := by decide +kernel
theorem dL_one_247 : decode cL_one 247 = .ok (.iastore, 1) := by decide +kernel
theorem dL_one_248 : decode cL_one 248 = .ok (.goto 18, 3) := by decide +kernel
theorem dL_one_251 : decode cL_one 251 = .ok (.iload 15, 2) := by decide +kernel
theorem dL_one_253 : decode cL_one 253 = .ok (.bipush 8, 2) := by decide +kernel
theorem dL_one_255 : decode cL_one 255 = .ok (.if_icmp .ne 11, 3) := by decide +kernel
theorem dL_one_258 : decode cL_one 258 = .ok (.aload 5, 2) := by decide +kernel
theorem dL_one_260 : decode cL_one 260 = .ok (.aload 12, 2) := by decide +kernel
theorem dL_one_262 : decode cL_one 262 = .ok (.iconst 5, 1) := by decide +kernel
theorem dL_one_263 : decode cL_one 263 = .ok (.invokestatic 47, 3) := by decide +kernel
theorem dL_one_266 : decode cL_one 266 = .ok (.iload 17, 2) := by decide +kernel
theorem dL_one_268 : decode cL_one 268 = .ok (.iconst 2, 1) := by decide +kernel
theorem dL_one_269 : decode cL_one 269 = .ok (.if_icmp .eq 9, 3) := by decide +kernel
theorem dL_one_272 : decode cL_one 272 = .ok (.iload 17, 2) := by decide +kernel
theorem dL_one_274 : decode cL_one 274 = .ok (.iconst 4, 1) := by decide +kernel
theorem dL_one_275 : decode cL_one 275 = .ok (.if_icmp .ne 7, 3) := by decide +kernel
theorem dL_one_278 : decode cL_one 278 = .ok (.iconst 1, 1) := by decide +kernel
theorem dL_one_279 : decode cL_one 279 = .ok (.goto 4, 3) := by decide +kernel
theorem dL_one_282 : decode cL_one 282 = .ok (.iconst 0, 1) := by decide +kernel
theorem dL_one_283 : decode cL_one 283 = .ok (.istore 19, 2) := by decide +kernel
theorem dL_one_285 : decode cL_one 285 = .ok (.iload 19, 2) := by decide +kernel
theorem dL_one_287 : decode cL_one 287 = .ok (.ifCond .eq 65, 3) := by decide +kernel
theorem dL_one_290 : decode cL_one 290 = .ok (.iload 15, 2) := by decide +kernel
theorem dL_one_292 : decode cL_one 292 = .ok (.bipush 8, 2) := by decide +kernel
theorem dL_one_294 : decode cL_one 294 = .ok (.if_icmp .ne 9, 3) := by decide +kernel
theorem dL_one_297 : decode cL_one 297 = .ok (.iload 17, 2) := by decide +kernel
theorem dL_one_299 : decode cL_one 299 = .ok (.iconst 4, 1) := by decide +kernel
theorem dL_one_300 : decode cL_one 300 = .ok (.if_icmp .ne 52, 3) := by decide +kernel
theorem dL_one_303 : decode cL_one 303 = .ok (.aload_n 0, 1) := by decide +kernel
theorem dL_one_304 : decode cL_one 304 = .ok (.aload_n 1, 1) := by decide +kernel
theorem dL_one_305 : decode cL_one 305 = .ok (.aload_n 2, 1) := by decide +kernel
theorem dL_one_306 : decode cL_one 306 = .ok (.aload 5, 2) := by decide +kernel
theorem dL_one_308 : decode cL_one 308 = .ok (.aload 6, 2) := by decide +kernel
theorem dL_one_310 : decode cL_one 310 = .ok (.aload 8, 2) := by decide +kernel
theorem dL_one_312 : decode cL_one 312 = .ok (.aload 9, 2) := by decide +kernel
theorem dL_one_314 : decode cL_one 314 = .ok (.aload 10, 2) := by decide +kernel
theorem dL_one_316 : decode cL_one 316 = .ok (.aload 11, 2) := by decide +kernel
theorem dL_one_318 : decode cL_one 318 = .ok (.aload 12, 2) := by decide +kernel
theorem dL_one_320 : decode cL_one 320 = .ok (.bipush 10, 2) := by decide +kernel
theorem dL_one_322 : decode cL_one 322 = .ok (.iload 15, 2) := by decide +kernel
theorem dL_one_324 : decode cL_one 324 = .ok (.iconst 4, 1) := by decide +kernel
theorem dL_one_325 : decode cL_one 325 = .ok (.if_icmp .ne 8, 3) := by decide +kernel
theorem dL_one_328 : decode cL_one 328 = .ok (.iload 16, 2) := by decide +kernel
theorem dL_one_330 : decode cL_one 330 = .ok (.goto 16, 3) := by decide +kernel
theorem dL_one_333 : decode cL_one 333 = .ok (.iload 15, 2) := by decide +kernel
theorem dL_one_335 : decode cL_one 335 = .ok (.iconst 5, 1) := by decide +kernel
theorem dL_one_336 : decode cL_one 336 = .ok (.if_icmp .ne 8, 3) := by decide +kernel
theorem dL_one_339 : decode cL_one 339 = .ok (.bipush 32, 2) := by decide +kernel
theorem dL_one_341 : decode cL_one 341 = .ok (.goto 5, 3) := by decide +kernel
theorem dL_one_344 : decode cL_one 344 = .ok (.bipush 42, 2) := by decide +kernel
theorem dL_one_346 : decode cL_one 346 = .ok (.invokestatic 55, 3) := by decide +kernel
theorem dL_one_349 : decode cL_one 349 = .ok (.goto 477, 3) := by decide +kernel
theorem dL_one_352 : decode cL_one 352 = .ok (.iload 17, 2) := by decide +kernel
theorem dL_one_354 : decode cL_one 354 = .ok (.ifCond .ne 61, 3) := by decide +kernel
theorem dL_one_357 : decode cL_one 357 = .ok (.iload 15, 2) := by decide +kernel
theorem dL_one_359 : decode cL_one 359 = .ok (.ifCond .eq 16, 3) := by decide +kernel
theorem dL_one_362 : decode cL_one 362 = .ok (.iload 15, 2) := by decide +kernel
theorem dL_one_364 : decode cL_one 364 = .ok (.iconst 2, 1) := by decide +kernel
theorem dL_one_365 : decode cL_one 365 = .ok (.if_icmp .ne 50, 3) := by decide +kernel
theorem dL_one_368 : decode cL_one 368 = .ok (.aload 5, 2) := by decide +kernel
theorem dL_one_370 : decode cL_one 370 = .ok (.iconst 1, 1) := by decide +kernel
theorem dL_one_371 : decode cL_one 371 = .ok (.iaload, 1) := by decide +kernel
theorem dL_one_372 : decode cL_one 372 = .ok (.ifCond .le 43, 3) := by decide +kernel
theorem dL_one_375 : decode cL_one 375 = .ok (.aload_n 0, 1) := by decide +kernel
theorem dL_one_376 : decode cL_one 376 = .ok (.aload_n 1, 1) := by decide +kernel
theorem dL_one_377 : decode cL_one 377 = .ok (.aload_n 2, 1) := by decide +kernel
theorem dL_one_378 : decode cL_one 378 = .ok (.aload 5, 2) := by decide +kernel
theorem dL_one_380 : decode cL_one 380 = .ok (.aload 6, 2) := by decide +kernel
theorem dL_one_382 : decode cL_one 382 = .ok (.aload 8, 2) := by decide +kernel
theorem dL_one_384 : decode cL_one 384 = .ok (.aload 9, 2) := by decide +kernel
theorem dL_one_386 : decode cL_one 386 = .ok (.aload 10, 2) := by decide +kernel
theorem dL_one_388 : decode cL_one 388 = .ok (.aload 11, 2) := by decide +kernel
theorem dL_one_390 : decode cL_one 390 = .ok (.aload 12, 2) := by decide +kernel
theorem dL_one_392 : decode cL_one 392 = .ok (.iload 15, 2) := by decide +kernel
theorem dL_one_394 : decode cL_one 394 = .ok (.ifCond .ne 8, 3) := by decide +kernel
theorem dL_one_397 : decode cL_one 397 = .ok (.iload 16, 2) := by decide +kernel
theorem dL_one_399 : decode cL_one 399 = .ok (.goto 9, 3) := by decide +kernel
theorem dL_one_402 : decode cL_one 402 = .ok (.aload 5, 2) := by decide +kernel
theorem dL_one_404 : decode cL_one 404 = .ok (.iconst 1, 1) := by decide +kernel
theorem dL_one_405 : decode cL_one 405 = .ok (.iaload, 1) := by decide +kernel
theorem dL_one_406 : decode cL_one 406 = .ok (.iconst 1, 1) := by decide +kernel
theorem dL_one_407 : decode cL_one 407 = .ok (.isub, 1) := by decide +kernel
theorem dL_one_408 : decode cL_one 408 = .ok (.iconst 0, 1) := by decide +kernel
theorem dL_one_409 : decode cL_one 409 = .ok (.invokestatic 55, 3) := by decide +kernel
theorem dL_one_412 : decode cL_one 412 = .ok (.goto 414, 3) := by decide +kernel
theorem dL_one_415 : decode cL_one 415 = .ok (.iload 17, 2) := by decide +kernel
theorem dL_one_417 : decode cL_one 417 = .ok (.ifCond .ne 20, 3) := by decide +kernel
theorem dL_one_420 : decode cL_one 420 = .ok (.iload 15, 2) := by decide +kernel
theorem dL_one_422 : decode cL_one 422 = .ok (.iconst 2, 1) := by decide +kernel
theorem dL_one_423 : decode cL_one 423 = .ok (.if_icmp .ne 14, 3) := by decide +kernel
theorem dL_one_426 : decode cL_one 426 = .ok (.aload 5, 2) := by decide +kernel
theorem dL_one_428 : decode cL_one 428 = .ok (.aload 12, 2) := by decide +kernel
theorem dL_one_430 : decode cL_one 430 = .ok (.iconst 1, 1) := by decide +kernel
theorem dL_one_431 : decode cL_one 431 = .ok (.invokestatic 47, 3) := by decide +kernel
theorem dL_one_434 : decode cL_one 434 = .ok (.goto 392, 3) := by decide +kernel
theorem dL_one_437 : decode cL_one 437 = .ok (.iload 17, 2) := by decide +kernel
theorem dL_one_439 : decode cL_one 439 = .ok (.ifCond .ne 113, 3) := by decide +kernel
theorem dL_one_442 : decode cL_one 442 = .ok (.iload 15, 2) := by decide +kernel
theorem dL_one_444 : decode cL_one 444 = .ok (.iconst 1, 1) := by decide +kernel
theorem dL_one_445 : decode cL_one 445 = .ok (.if_icmp .eq 9, 3) := by decide +kernel
theorem dL_one_448 : decode cL_one 448 = .ok (.iload 15, 2) := by decide +kernel
theorem dL_one_450 : decode cL_one 450 = .ok (.iconst 3, 1) := by decide +kernel
theorem dL_one_451 : decode cL_one 451 = .ok (.if_icmp .ne 101, 3) := by decide +kernel
theorem dL_one_454 : decode cL_one 454 = .ok (.iload 15, 2) := by decide +kernel
theorem dL_one_456 : decode cL_one 456 = .ok (.iconst 3, 1) := by decide +kernel
theorem dL_one_457 : decode cL_one 457 = .ok (.if_icmp .ne 12, 3) := by decide +kernel
theorem dL_one_460 : decode cL_one 460 = .ok (.aload 5, 2) := by decide +kernel
theorem dL_one_462 : decode cL_one 462 = .ok (.iconst 0, 1) := by decide +kernel
theorem dL_one_463 : decode cL_one 463 = .ok (.iaload, 1) := by decide +kernel
theorem dL_one_464 : decode cL_one 464 = .ok (.iconst 1, 1) := by decide +kernel
theorem dL_one_465 : decode cL_one 465 = .ok (.isub, 1) := by decide +kernel
theorem dL_one_466 : decode cL_one 466 = .ok (.goto 4, 3) := by decide +kernel
theorem dL_one_469 : decode cL_one 469 = .ok (.iconst (-1), 1) := by decide +kernel
theorem dL_one_470 : decode cL_one 470 = .ok (.istore 20, 2) := by decide +kernel
theorem dL_one_472 : decode cL_one 472 = .ok (.iconst 0, 1) := by decide +kernel
theorem dL_one_473 : decode cL_one 473 = .ok (.istore 21, 2) := by decide +kernel
theorem dL_one_475 : decode cL_one 475 = .ok (.iload 21, 2) := by decide +kernel
theorem dL_one_477 : decode cL_one 477 = .ok (.aload 5, 2) := by decide +kernel
theorem dL_one_479 : decode cL_one 479 = .ok (.iconst 0, 1) := by decide +kernel
theorem dL_one_480 : decode cL_one 480 = .ok (.iaload, 1) := by decide +kernel
theorem dL_one_481 : decode cL_one 481 = .ok (.if_icmp .ge 37, 3) := by decide +kernel
theorem dL_one_484 : decode cL_one 484 = .ok (.iload 15, 2) := by decide +kernel
theorem dL_one_486 : decode cL_one 486 = .ok (.iconst 1, 1) := by decide +kernel
theorem dL_one_487 : decode cL_one 487 = .ok (.if_icmp .ne 31, 3) := by decide +kernel
theorem dL_one_490 : decode cL_one 490 = .ok (.aload 6, 2) := by decide +kernel
theorem dL_one_492 : decode cL_one 492 = .ok (.iload 21, 2) := by decide +kernel
theorem dL_one_494 : decode cL_one 494 = .ok (.iaload, 1) := by decide +kernel
theorem dL_one_495 : decode cL_one 495 = .ok (.bipush 16, 2) := by decide +kernel
theorem dL_one_497 : decode cL_one 497 = .ok (.idiv, 1) := by decide +kernel
theorem dL_one_498 : decode cL_one 498 = .ok (.iload 16, 2) := by decide +kernel
theorem dL_one_500 : decode cL_one 500 = .ok (.if_icmp .ne 8, 3) := by decide +kernel
theorem dL_one_503 : decode cL_one 503 = .ok (.iload 21, 2) := by decide +kernel
theorem dL_one_505 : decode cL_one 505 = .ok (.goto 5, 3) := by decide +kernel
theorem dL_one_508 : decode cL_one 508 = .ok (.iload 20, 2) := by decide +kernel
theorem dL_one_510 : decode cL_one 510 = .ok (.istore 20, 2) := by decide +kernel
theorem dL_one_512 : decode cL_one 512 = .ok (.iinc 21 1, 3) := by decide +kernel
theorem dL_one_515 : decode cL_one 515 = .ok (.goto (-40), 3) := by decide +kernel
theorem dL_one_518 : decode cL_one 518 = .ok (.iload 20, 2) := by decide +kernel
theorem dL_one_520 : decode cL_one 520 = .ok (.ifCond .ge 14, 3) := by decide +kernel
theorem dL_one_523 : decode cL_one 523 = .ok (.aload 5, 2) := by decide +kernel
theorem dL_one_525 : decode cL_one 525 = .ok (.aload 12, 2) := by decide +kernel
theorem dL_one_527 : decode cL_one 527 = .ok (.iconst 1, 1) := by decide +kernel
theorem dL_one_528 : decode cL_one 528 = .ok (.invokestatic 47, 3) := by decide +kernel
theorem dL_one_531 : decode cL_one 531 = .ok (.goto 18, 3) := by decide +kernel
theorem dL_one_534 : decode cL_one 534 = .ok (.aload_n 0, 1) := by decide +kernel
theorem dL_one_535 : decode cL_one 535 = .ok (.aload_n 1, 1) := by decide +kernel
theorem dL_one_536 : decode cL_one 536 = .ok (.aload_n 2, 1) := by decide +kernel
theorem dL_one_537 : decode cL_one 537 = .ok (.aload 5, 2) := by decide +kernel
theorem dL_one_539 : decode cL_one 539 = .ok (.aload 6, 2) := by decide +kernel
theorem dL_one_541 : decode cL_one 541 = .ok (.aload 12, 2) := by decide +kernel
theorem dL_one_543 : decode cL_one 543 = .ok (.iload 20, 2) := by decide +kernel
theorem dL_one_545 : decode cL_one 545 = .ok (.iconst 1, 1) := by decide +kernel
theorem dL_one_546 : decode cL_one 546 = .ok (.invokestatic 59, 3) := by decide +kernel
theorem dL_one_549 : decode cL_one 549 = .ok (.goto 277, 3) := by decide +kernel
theorem dL_one_552 : decode cL_one 552 = .ok (.iload 17, 2) := by decide +kernel
theorem dL_one_554 : decode cL_one 554 = .ok (.ifCond .ne 36, 3) := by decide +kernel
theorem dL_one_557 : decode cL_one 557 = .ok (.iload 15, 2) := by decide +kernel
theorem dL_one_559 : decode cL_one 559 = .ok (.iconst 4, 1) := by decide +kernel
theorem dL_one_560 : decode cL_one 560 = .ok (.if_icmp .ne 30, 3) := by decide +kernel
theorem dL_one_563 : decode cL_one 563 = .ok (.aload_n 0, 1) := by decide +kernel
theorem dL_one_564 : decode cL_one 564 = .ok (.aload_n 1, 1) := by decide +kernel
theorem dL_one_565 : decode cL_one 565 = .ok (.aload_n 2, 1) := by decide +kernel
theorem dL_one_566 : decode cL_one 566 = .ok (.aload 5, 2) := by decide +kernel
theorem dL_one_568 : decode cL_one 568 = .ok (.aload 6, 2) := by decide +kernel
theorem dL_one_570 : decode cL_one 570 = .ok (.aload 8, 2) := by decide +kernel
theorem dL_one_572 : decode cL_one 572 = .ok (.aload 9, 2) := by decide +kernel
theorem dL_one_574 : decode cL_one 574 = .ok (.aload 10, 2) := by decide +kernel
theorem dL_one_576 : decode cL_one 576 = .ok (.aload 11, 2) := by decide +kernel
theorem dL_one_578 : decode cL_one 578 = .ok (.aload 12, 2) := by decide +kernel
theorem dL_one_580 : decode cL_one 580 = .ok (.bipush 10, 2) := by decide +kernel
theorem dL_one_582 : decode cL_one 582 = .ok (.iload 16, 2) := by decide +kernel
theorem dL_one_584 : decode cL_one 584 = .ok (.invokestatic 55, 3) := by decide +kernel
theorem dL_one_587 : decode cL_one 587 = .ok (.goto 239, 3) := by decide +kernel
theorem dL_one_590 : decode cL_one 590 = .ok (.iload 17, 2) := by decide +kernel
theorem dL_one_592 : decode cL_one 592 = .ok (.ifCond .ne 125, 3) := by decide +kernel
theorem dL_one_595 : decode cL_one 595 = .ok (.iload 15, 2) := by decide +kernel
theorem dL_one_597 : decode cL_one 597 = .ok (.iconst 5, 1) := by decide +kernel
theorem dL_one_598 : decode cL_one 598 = .ok (.if_icmp .ne 119, 3) := by decide +kernel
theorem dL_one_601 : decode cL_one 601 = .ok (.aload_n 3, 1) := by decide +kernel
theorem dL_one_602 : decode cL_one 602 = .ok (.aload 4, 2) := by decide +kernel
theorem dL_one_604 : decode cL_one 604 = .ok (.aload 5, 2) := by decide +kernel
theorem dL_one_606 : decode cL_one 606 = .ok (.iload 13, 2) := by decide +kernel
theorem dL_one_608 : decode cL_one 608 = .ok (.iconst 1, 1) := by decide +kernel
theorem dL_one_609 : decode cL_one 609 = .ok (.isub, 1) := by decide +kernel
theorem dL_one_610 : decode cL_one 610 = .ok (.invokestatic 51, 3) := by decide +kernel
theorem dL_one_613 : decode cL_one 613 = .ok (.istore 20, 2) := by decide +kernel
theorem dL_one_615 : decode cL_one 615 = .ok (.aload_n 3, 1) := by decide +kernel
theorem dL_one_616 : decode cL_one 616 = .ok (.aload 4, 2) := by decide +kernel
theorem dL_one_618 : decode cL_one 618 = .ok (.aload 5, 2) := by decide +kernel
theorem dL_one_620 : decode cL_one 620 = .ok (.iload 13, 2) := by decide +kernel
theorem dL_one_622 : decode cL_one 622 = .ok (.iconst 1, 1) := by decide +kernel
theorem dL_one_623 : decode cL_one 623 = .ok (.iadd, 1) := by decide +kernel
theorem dL_one_624 : decode cL_one 624 = .ok (.invokestatic 51, 3) := by decide +kernel
theorem dL_one_627 : decode cL_one 627 = .ok (.istore 21, 2) := by decide +kernel
theorem dL_one_629 : decode cL_one 629 = .ok (.iload 20, 2) := by decide +kernel
theorem dL_one_631 : decode cL_one 631 = .ok (.ifCond .lt 22, 3) := by decide +kernel
theorem dL_one_634 : decode cL_one 634 = .ok (.iload 20, 2) := by decide +kernel
theorem dL_one_636 : decode cL_one 636 = .ok (.sipush 128, 3) := by decide +kernel
theorem dL_one_639 : decode cL_one 639 = .ok (.idiv, 1) := by decide +kernel
theorem dL_one_640 : decode cL_one 640 = .ok (.ifCond .eq 38, 3) := by decide +kernel
theorem dL_one_643 : decode cL_one 643 = .ok (.iload 20, 2) := by decide +kernel
theorem dL_one_645 : decode cL_one 645 = .ok (.sipush 128, 3) := by decide +kernel
theorem dL_one_648 : decode cL_one 648 = .ok (.idiv, 1) := by decide +kernel
theorem dL_one_649 : decode cL_one 649 = .ok (.iconst 2, 1) := by decide +kernel
theorem dL_one_650 : decode cL_one 650 = .ok (.if_icmp .eq 28, 3) := by decide +kernel
theorem dL_one_653 : decode cL_one 653 = .ok (.iload 21, 2) := by decide +kernel
theorem dL_one_655 : decode cL_one 655 = .ok (.ifCond .lt 27, 3) := by decide +kernel
theorem dL_one_658 : decode cL_one 658 = .ok (.iload 21, 2) := by decide +kernel
theorem dL_one_660 : decode cL_one 660 = .ok (.sipush 128, 3) := by decide +kernel
theorem dL_one_663 : decode cL_one 663 = .ok (.idiv, 1) := by decide +kernel
theorem dL_one_664 : decode cL_one 664 = .ok (.iconst 1, 1) := by decide +kernel
theorem dL_one_665 : decode cL_one 665 = .ok (.if_icmp .eq 13, 3) := by decide +kernel
theorem dL_one_668 : decode cL_one 668 = .ok (.iload 21, 2) := by decide +kernel
theorem dL_one_670 : decode cL_one 670 = .ok (.sipush 128, 3) := by decide +kernel
theorem dL_one_673 : decode cL_one 673 = .ok (.idiv, 1) := by decide +kernel
theorem dL_one_674 : decode cL_one 674 = .ok (.iconst 3, 1) := by decide +kernel
theorem dL_one_675 : decode cL_one 675 = .ok (.if_icmp .ne 7, 3) := by decide +kernel
theorem dL_one_678 : decode cL_one 678 = .ok (.iconst 1, 1) := by decide +kernel
theorem dL_one_679 : decode cL_one 679 = .ok (.goto 4, 3) := by decide +kernel
theorem dL_one_682 : decode cL_one 682 = .ok (.iconst 0, 1) := by decide +kernel
theorem dL_one_683 : decode cL_one 683 = .ok (.istore 22, 2) := by decide +kernel
theorem dL_one_685 : decode cL_one 685 = .ok (.iload 22, 2) := by decide +kernel
theorem dL_one_687 : decode cL_one 687 = .ok (.ifCond .ne 27, 3) := by decide +kernel
theorem dL_one_690 : decode cL_one 690 = .ok (.aload_n 0, 1) := by decide +kernel
theorem dL_one_691 : decode cL_one 691 = .ok (.aload_n 1, 1) := by decide +kernel
theorem dL_one_692 : decode cL_one 692 = .ok (.aload_n 2, 1) := by decide +kernel
theorem dL_one_693 : decode cL_one 693 = .ok (.aload 5, 2) := by decide +kernel
theorem dL_one_695 : decode cL_one 695 = .ok (.aload 6, 2) := by decide +kernel
theorem dL_one_697 : decode cL_one 697 = .ok (.aload 8, 2) := by decide +kernel
theorem dL_one_699 : decode cL_one 699 = .ok (.aload 9, 2) := by decide +kernel
theorem dL_one_701 : decode cL_one 701 = .ok (.aload 10, 2) := by decide +kernel
theorem dL_one_703 : decode cL_one 703 = .ok (.aload 11, 2) := by decide +kernel
theorem dL_one_705 : decode cL_one 705 = .ok (.aload 12, 2) := by decide +kernel
theorem dL_one_707 : decode cL_one 707 = .ok (.bipush 10, 2) := by decide +kernel
theorem dL_one_709 : decode cL_one 709 = .ok (.bipush 32, 2) := by decide +kernel
theorem dL_one_711 : decode cL_one 711 = .ok (.invokestatic 55, 3) := by decide +kernel
theorem dL_one_714 : decode cL_one 714 = .ok (.goto 112, 3) := by decide +kernel
theorem dL_one_717 : decode cL_one 717 = .ok (.iload 17, 2) := by decide +kernel
theorem dL_one_719 : decode cL_one 719 = .ok (.ifCond .ne 49, 3) := by decide +kernel
theorem dL_one_722 : decode cL_one 722 = .ok (.iload 15, 2) := by decide +kernel
theorem dL_one_724 : decode cL_one 724 = .ok (.bipush 6, 2) := by decide +kernel
theorem dL_one_726 : decode cL_one 726 = .ok (.if_icmp .ne 42, 3) := by decide +kernel
theorem dL_one_729 : decode cL_one 729 = .ok (.aload 5, 2) := by decide +kernel
theorem dL_one_731 : decode cL_one 731 = .ok (.bipush 7, 2) := by decide +kernel
theorem dL_one_733 : decode cL_one 733 = .ok (.iaload, 1) := by decide +kernel
theorem dL_one_734 : decode cL_one 734 = .ok (.iconst 2, 1) := by decide +kernel
theorem dL_one_735 : decode cL_one 735 = .ok (.if_icmp .eq 22, 3) := by decide +kernel
theorem dL_one_738 : decode cL_one 738 = .ok (.aload 5, 2) := by decide +kernel
theorem dL_one_740 : decode cL_one 740 = .ok (.bipush 7, 2) := by decide +kernel
theorem dL_one_742 : decode cL_one 742 = .ok (.iaload, 1) := by decide +kernel
theorem dL_one_743 : decode cL_one 743 = .ok (.iconst 1, 1) := by decide +kernel
theorem dL_one_744 : decode cL_one 744 = .ok (.if_icmp .ne 24, 3) := by decide +kernel
theorem dL_one_747 : decode cL_one 747 = .ok (.aload 5, 2) := by decide +kernel
theorem dL_one_749 : decode cL_one 749 = .ok (.bipush 12, 2) := by decide +kernel
theorem dL_one_751 : decode cL_one 751 = .ok (.iaload, 1) := by decide +kernel
theorem dL_one_752 : decode cL_one 752 = .ok (.iload 16, 2) := by decide +kernel
theorem dL_one_754 : decode cL_one 754 = .ok (.if_icmp .ne 14, 3) := by decide +kernel
theorem dL_one_757 : decode cL_one 757 = .ok (.aload 5, 2) := by decide +kernel
theorem dL_one_759 : decode cL_one 759 = .ok (.aload 12, 2) := by decide +kernel
theorem dL_one_761 : decode cL_one 761 = .ok (.iconst 4, 1) := by decide +kernel
theorem dL_one_762 : decode cL_one 762 = .ok (.invokestatic 47, 3) := by decide +kernel
theorem dL_one_765 : decode cL_one 765 = .ok (.goto 61, 3) := by decide +kernel
theorem dL_one_768 : decode cL_one 768 = .ok (.iload 17, 2) := by decide +kernel
theorem dL_one_770 : decode cL_one 770 = .ok (.ifCond .ne 56, 3) := by decide +kernel
theorem dL_one_773 : decode cL_one 773 = .ok (.iload 15, 2) := by decide +kernel
theorem dL_one_775 : decode cL_one 775 = .ok (.bipush 6, 2) := by decide +kernel
theorem dL_one_777 : decode cL_one 777 = .ok (.if_icmp .ne 49, 3) := by decide +kernel
theorem dL_one_780 : decode cL_one 780 = .ok (.aload 5, 2) := by decide +kernel
theorem dL_one_782 : decode cL_one 782 = .ok (.bipush 7, 2) := by decide +kernel
theorem dL_one_784 : decode cL_one 784 = .ok (.dup2, 1) := by decide +kernel
theorem dL_one_785 : decode cL_one 785 = .ok (.iaload, 1) := by decide +kernel
theorem dL_one_786 : decode cL_one 786 = .ok (.iconst 1, 1) := by decide +kernel
theorem dL_one_787 : decode cL_one 787 = .ok (.iadd, 1) := by decide +kernel
theorem dL_one_788 : decode cL_one 788 = .ok (.iastore, 1) := by decide +kernel
theorem dL_one_789 : decode cL_one 789 = .ok (.aload 5, 2) := by decide +kernel
theorem dL_one_791 : decode cL_one 791 = .ok (.bipush 8, 2) := by decide +kernel
theorem dL_one_793 : decode cL_one 793 = .ok (.aload 5, 2) := by decide +kernel
theorem dL_one_795 : decode cL_one 795 = .ok (.bipush 7, 2) := by decide +kernel
theorem dL_one_797 : decode cL_one 797 = .ok (.iaload, 1) := by decide +kernel
theorem dL_one_798 : decode cL_one 798 = .ok (.iadd, 1) := by decide +kernel
theorem dL_one_799 : decode cL_one 799 = .ok (.iconst 0, 1) := by decide +kernel
theorem dL_one_800 : decode cL_one 800 = .ok (.iastore, 1) := by decide +kernel
theorem dL_one_801 : decode cL_one 801 = .ok (.aload 5, 2) := by decide +kernel
theorem dL_one_803 : decode cL_one 803 = .ok (.bipush 11, 2) := by decide +kernel
theorem dL_one_805 : decode cL_one 805 = .ok (.aload 5, 2) := by decide +kernel
theorem dL_one_807 : decode cL_one 807 = .ok (.bipush 7, 2) := by decide +kernel
theorem dL_one_809 : decode cL_one 809 = .ok (.iaload, 1) := by decide +kernel
theorem dL_one_810 : decode cL_one 810 = .ok (.iadd, 1) := by decide +kernel
theorem dL_one_811 : decode cL_one 811 = .ok (.iload 16, 2) := by decide +kernel
theorem dL_one_813 : decode cL_one 813 = .ok (.iastore, 1) := by decide +kernel
theorem dL_one_814 : decode cL_one 814 = .ok (.aload 5, 2) := by decide +kernel
theorem dL_one_816 : decode cL_one 816 = .ok (.bipush 14, 2) := by decide +kernel
theorem dL_one_818 : decode cL_one 818 = .ok (.aload 5, 2) := by decide +kernel
theorem dL_one_820 : decode cL_one 820 = .ok (.bipush 7, 2) := by decide +kernel
theorem dL_one_822 : decode cL_one 822 = .ok (.iaload, 1) := by decide +kernel
theorem dL_one_823 : decode cL_one 823 = .ok (.iadd, 1) := by decide +kernel
theorem dL_one_824 : decode cL_one 824 = .ok (.iconst 0, 1) := by decide +kernel
theorem dL_one_825 : decode cL_one 825 = .ok (.iastore, 1) := by decide +kernel
theorem dL_one_826 : decode cL_one 826 = .ok (.return_, 1) := by decide +kernel
theorem dL_keep_0 : decode cL_keep 0 = .ok (.aload_n 0, 1) := by decide +kernel
theorem dL_keep_1 : decode cL_keep 1 = .ok (.bipush 7, 2) := by decide +kernel
theorem dL_keep_3 : decode cL_keep 3 = .ok (.iaload, 1) := by decide +kernel
theorem dL_keep_4 : decode cL_keep 4 = .ok (.ifCond .ne 71, 3) := by decide +kernel
theorem dL_keep_7 : decode cL_keep 7 = .ok (.lconst 1, 1) := by decide +kernel
theorem dL_keep_8 : decode cL_keep 8 = .ok (.lstore_n 3, 1) := by decide +kernel
theorem dL_keep_9 : decode cL_keep 9 = .ok (.iconst 0, 1) := by decide +kernel
theorem dL_keep_10 : decode cL_keep 10 = .ok (.istore 5, 2) := by decide +kernel
theorem dL_keep_12 : decode cL_keep 12 = .ok (.iload 5, 2) := by decide +kernel
theorem dL_keep_14 : decode cL_keep 14 = .ok (.aload_n 0, 1) := by decide +kernel
theorem dL_keep_15 : decode cL_keep 15 = .ok (.iconst 0, 1) := by decide +kernel
theorem dL_keep_16 : decode cL_keep 16 = .ok (.iaload, 1) := by decide +kernel
theorem dL_keep_17 : decode cL_keep 17 = .ok (.if_icmp .ge 21, 3) := by decide +kernel
theorem dL_keep_20 : decode cL_keep 20 = .ok (.lload_n 3, 1) := by decide +kernel
theorem dL_keep_21 : decode cL_keep 21 = .ok (.ldc2_w 63, 3) := by decide +kernel
theorem dL_keep_24 : decode cL_keep 24 = .ok (.lmul, 1) := by decide +kernel
theorem dL_keep_25 : decode cL_keep 25 = .ok (.aload_n 1, 1) := by decide +kernel
theorem dL_keep_26 : decode cL_keep 26 = .ok (.iload 5, 2) := by decide +kernel
theorem dL_keep_28 : decode cL_keep 28 = .ok (.iaload, 1) := by decide +kernel
theorem dL_keep_29 : decode cL_keep 29 = .ok (.i2l, 1) := by decide +kernel
theorem dL_keep_30 : decode cL_keep 30 = .ok (.ladd, 1) := by decide +kernel
theorem dL_keep_31 : decode cL_keep 31 = .ok (.lstore_n 3, 1) := by decide +kernel
theorem dL_keep_32 : decode cL_keep 32 = .ok (.iinc 5 1, 3) := by decide +kernel
theorem dL_keep_35 : decode cL_keep 35 = .ok (.goto (-23), 3) := by decide +kernel
theorem dL_keep_38 : decode cL_keep 38 = .ok (.aload_n 2, 1) := by decide +kernel
theorem dL_keep_39 : decode cL_keep 39 = .ok (.aload_n 0, 1) := by decide +kernel
theorem dL_keep_40 : decode cL_keep 40 = .ok (.bipush 8, 2) := by decide +kernel
theorem dL_keep_42 : decode cL_keep 42 = .ok (.iaload, 1) := by decide +kernel
theorem dL_keep_43 : decode cL_keep 43 = .ok (.lload_n 3, 1) := by decide +kernel
theorem dL_keep_44 : decode cL_keep 44 = .ok (.lastore, 1) := by decide +kernel
theorem dL_keep_45 : decode cL_keep 45 = .ok (.aload_n 2, 1) := by decide +kernel
theorem dL_keep_46 : decode cL_keep 46 = .ok (.bipush 24, 2) := by decide +kernel
theorem dL_keep_48 : decode cL_keep 48 = .ok (.aload_n 0, 1) := by decide +kernel
theorem dL_keep_49 : decode cL_keep 49 = .ok (.bipush 8, 2) := by decide +kernel
theorem dL_keep_51 : decode cL_keep 51 = .ok (.iaload, 1) := by decide +kernel
theorem dL_keep_52 : decode cL_keep 52 = .ok (.iadd, 1) := by decide +kernel
theorem dL_keep_53 : decode cL_keep 53 = .ok (.ldc2_w 65, 3) := by decide +kernel
theorem dL_keep_56 : decode cL_keep 56 = .ok (.aload_n 0, 1) := by decide +kernel
theorem dL_keep_57 : decode cL_keep 57 = .ok (.iconst 1, 1) := by decide +kernel
theorem dL_keep_58 : decode cL_keep 58 = .ok (.iaload, 1) := by decide +kernel
theorem dL_keep_59 : decode cL_keep 59 = .ok (.i2l, 1) := by decide +kernel
theorem dL_keep_60 : decode cL_keep 60 = .ok (.lmul, 1) := by decide +kernel
theorem dL_keep_61 : decode cL_keep 61 = .ok (.aload_n 0, 1) := by decide +kernel
theorem dL_keep_62 : decode cL_keep 62 = .ok (.bipush 14, 2) := by decide +kernel
theorem dL_keep_64 : decode cL_keep 64 = .ok (.iaload, 1) := by decide +kernel
theorem dL_keep_65 : decode cL_keep 65 = .ok (.ifCond .le 7, 3) := by decide +kernel
theorem dL_keep_68 : decode cL_keep 68 = .ok (.lconst 1, 1) := by decide +kernel
theorem dL_keep_69 : decode cL_keep 69 = .ok (.goto 4, 3) := by decide +kernel
theorem dL_keep_72 : decode cL_keep 72 = .ok (.lconst 0, 1) := by decide +kernel
theorem dL_keep_73 : decode cL_keep 73 = .ok (.ladd, 1) := by decide +kernel
theorem dL_keep_74 : decode cL_keep 74 = .ok (.lastore, 1) := by decide +kernel
theorem dL_keep_75 : decode cL_keep 75 = .ok (.return_, 1) := by decide +kernel
theorem dL_reads_0 : decode cL_reads 0 = .ok (.iconst 0, 1) := by decide +kernel
theorem dL_reads_1 : decode cL_reads 1 = .ok (.istore 14, 2) := by decide +kernel
theorem dL_reads_3 : decode cL_reads 3 = .ok (.iload 14, 2) := by decide +kernel
theorem dL_reads_5 : decode cL_reads 5 = .ok (.bipush 20, 2) := by decide +kernel
theorem dL_reads_7 : decode cL_reads 7 = .ok (.if_icmp .ge 15, 3) := by decide +kernel
theorem dL_reads_10 : decode cL_reads 10 = .ok (.aload 5, 2) := by decide +kernel
theorem dL_reads_12 : decode cL_reads 12 = .ok (.iload 14, 2) := by decide +kernel
theorem dL_reads_14 : decode cL_reads 14 = .ok (.iconst 0, 1) := by decide +kernel
theorem dL_reads_15 : decode cL_reads 15 = .ok (.iastore, 1) := by decide +kernel
theorem dL_reads_16 : decode cL_reads 16 = .ok (.iinc 14 1, 3) := by decide +kernel
theorem dL_reads_19 : decode cL_reads 19 = .ok (.goto (-16), 3) := by decide +kernel
theorem dL_reads_22 : decode cL_reads 22 = .ok (.aload 5, 2) := by decide +kernel
theorem dL_reads_24 : decode cL_reads 24 = .ok (.aload 6, 2) := by decide +kernel
theorem dL_reads_26 : decode cL_reads 26 = .ok (.aload 13, 2) := by decide +kernel
theorem dL_reads_28 : decode cL_reads 28 = .ok (.invokestatic 67, 3) := by decide +kernel
theorem dL_reads_31 : decode cL_reads 31 = .ok (.aload 5, 2) := by decide +kernel
theorem dL_reads_33 : decode cL_reads 33 = .ok (.bipush 7, 2) := by decide +kernel
theorem dL_reads_35 : decode cL_reads 35 = .ok (.iaload, 1) := by decide +kernel
theorem dL_reads_36 : decode cL_reads 36 = .ok (.ifCond .gt 16, 3) := by decide +kernel
theorem dL_reads_39 : decode cL_reads 39 = .ok (.aload 5, 2) := by decide +kernel
theorem dL_reads_41 : decode cL_reads 41 = .ok (.bipush 8, 2) := by decide +kernel
theorem dL_reads_43 : decode cL_reads 43 = .ok (.iaload, 1) := by decide +kernel
theorem dL_reads_44 : decode cL_reads 44 = .ok (.aload 4, 2) := by decide +kernel
theorem dL_reads_46 : decode cL_reads 46 = .ok (.bipush 20, 2) := by decide +kernel
theorem dL_reads_48 : decode cL_reads 48 = .ok (.iaload, 1) := by decide +kernel
theorem dL_reads_49 : decode cL_reads 49 = .ok (.if_icmp .ge 115, 3) := by decide +kernel
theorem dL_reads_52 : decode cL_reads 52 = .ok (.aload 5, 2) := by decide +kernel
theorem dL_reads_54 : decode cL_reads 54 = .ok (.bipush 6, 2) := by decide +kernel
theorem dL_reads_56 : decode cL_reads 56 = .ok (.iaload, 1) := by decide +kernel
theorem dL_reads_57 : decode cL_reads 57 = .ok (.ifCond .ne 107, 3) := by decide +kernel
theorem dL_reads_60 : decode cL_reads 60 = .ok (.aload_n 3, 1) := by decide +kernel
theorem dL_reads_61 : decode cL_reads 61 = .ok (.aload 4, 2) := by decide +kernel
theorem dL_reads_63 : decode cL_reads 63 = .ok (.aload 5, 2) := by decide +kernel
theorem dL_reads_65 : decode cL_reads 65 = .ok (.aload 5, 2) := by decide +kernel
theorem dL_reads_67 : decode cL_reads 67 = .ok (.bipush 8, 2) := by decide +kernel
theorem dL_reads_69 : decode cL_reads 69 = .ok (.aload 5, 2) := by decide +kernel
theorem dL_reads_71 : decode cL_reads 71 = .ok (.bipush 7, 2) := by decide +kernel
theorem dL_reads_73 : decode cL_reads 73 = .ok (.iaload, 1) := by decide +kernel
theorem dL_reads_74 : decode cL_reads 74 = .ok (.iadd, 1) := by decide +kernel
theorem dL_reads_75 : decode cL_reads 75 = .ok (.iaload, 1) := by decide +kernel
theorem dL_reads_76 : decode cL_reads 76 = .ok (.invokestatic 51, 3) := by decide +kernel
theorem dL_reads_79 : decode cL_reads 79 = .ok (.ifCond .ge 48, 3) := by decide +kernel
theorem dL_reads_82 : decode cL_reads 82 = .ok (.iconst 0, 1) := by decide +kernel
theorem dL_reads_83 : decode cL_reads 83 = .ok (.istore 14, 2) := by decide +kernel
theorem dL_reads_85 : decode cL_reads 85 = .ok (.iload 14, 2) := by decide +kernel
theorem dL_reads_87 : decode cL_reads 87 = .ok (.aload 5, 2) := by decide +kernel
theorem dL_reads_89 : decode cL_reads 89 = .ok (.bipush 14, 2) := by decide +kernel
theorem dL_reads_91 : decode cL_reads 91 = .ok (.aload 5, 2) := by decide +kernel
theorem dL_reads_93 : decode cL_reads 93 = .ok (.bipush 7, 2) := by decide +kernel
theorem dL_reads_95 : decode cL_reads 95 = .ok (.iaload, 1) := by decide +kernel
theorem dL_reads_96 : decode cL_reads 96 = .ok (.iadd, 1) := by decide +kernel
theorem dL_reads_97 : decode cL_reads 97 = .ok (.iaload, 1) := by decide +kernel
theorem dL_reads_98 : decode cL_reads 98 = .ok (.if_icmp .ge 17, 3) := by decide +kernel
theorem dL_reads_101 : decode cL_reads 101 = .ok (.aload 5, 2) := by decide +kernel
theorem dL_reads_103 : decode cL_reads 103 = .ok (.aload 12, 2) := by decide +kernel
theorem dL_reads_105 : decode cL_reads 105 = .ok (.iconst 5, 1) := by decide +kernel
theorem dL_reads_106 : decode cL_reads 106 = .ok (.invokestatic 47, 3) := by decide +kernel
theorem dL_reads_109 : decode cL_reads 109 = .ok (.iinc 14 1, 3) := by decide +kernel
theorem dL_reads_112 : decode cL_reads 112 = .ok (.goto (-27), 3) := by decide +kernel
theorem dL_reads_115 : decode cL_reads 115 = .ok (.aload 5, 2) := by decide +kernel
theorem dL_reads_117 : decode cL_reads 117 = .ok (.bipush 7, 2) := by decide +kernel
theorem dL_reads_119 : decode cL_reads 119 = .ok (.dup2, 1) := by decide +kernel
theorem dL_reads_120 : decode cL_reads 120 = .ok (.iaload, 1) := by decide +kernel
theorem dL_reads_121 : decode cL_reads 121 = .ok (.iconst 1, 1) := by decide +kernel
theorem dL_reads_122 : decode cL_reads 122 = .ok (.isub, 1) := by decide +kernel
theorem dL_reads_123 : decode cL_reads 123 = .ok (.iastore, 1) := by decide +kernel
theorem dL_reads_124 : decode cL_reads 124 = .ok (.goto 28, 3) := by decide +kernel
theorem dL_reads_127 : decode cL_reads 127 = .ok (.aload_n 0, 1) := by decide +kernel
theorem dL_reads_128 : decode cL_reads 128 = .ok (.aload_n 1, 1) := by decide +kernel
theorem dL_reads_129 : decode cL_reads 129 = .ok (.aload_n 2, 1) := by decide +kernel
theorem dL_reads_130 : decode cL_reads 130 = .ok (.aload_n 3, 1) := by decide +kernel
theorem dL_reads_131 : decode cL_reads 131 = .ok (.aload 4, 2) := by decide +kernel
theorem dL_reads_133 : decode cL_reads 133 = .ok (.aload 5, 2) := by decide +kernel
theorem dL_reads_135 : decode cL_reads 135 = .ok (.aload 6, 2) := by decide +kernel
theorem dL_reads_137 : decode cL_reads 137 = .ok (.aload 7, 2) := by decide +kernel
theorem dL_reads_139 : decode cL_reads 139 = .ok (.aload 8, 2) := by decide +kernel
theorem dL_reads_141 : decode cL_reads 141 = .ok (.aload 9, 2) := by decide +kernel
theorem dL_reads_143 : decode cL_reads 143 = .ok (.aload 10, 2) := by decide +kernel
theorem dL_reads_145 : decode cL_reads 145 = .ok (.aload 11, 2) := by decide +kernel
theorem dL_reads_147 : decode cL_reads 147 = .ok (.aload 12, 2) := by decide +kernel
theorem dL_reads_149 : decode cL_reads 149 = .ok (.invokestatic 71, 3) := by decide +kernel
theorem dL_reads_152 : decode cL_reads 152 = .ok (.aload 5, 2) := by decide +kernel
theorem dL_reads_154 : decode cL_reads 154 = .ok (.aload 6, 2) := by decide +kernel
theorem dL_reads_156 : decode cL_reads 156 = .ok (.aload 13, 2) := by decide +kernel
theorem dL_reads_158 : decode cL_reads 158 = .ok (.invokestatic 67, 3) := by decide +kernel
theorem dL_reads_161 : decode cL_reads 161 = .ok (.goto (-130), 3) := by decide +kernel
theorem dL_reads_164 : decode cL_reads 164 = .ok (.aload 5, 2) := by decide +kernel
theorem dL_reads_166 : decode cL_reads 166 = .ok (.bipush 18, 2) := by decide +kernel
theorem dL_reads_168 : decode cL_reads 168 = .ok (.aload 4, 2) := by decide +kernel
theorem dL_reads_170 : decode cL_reads 170 = .ok (.bipush 20, 2) := by decide +kernel
theorem dL_reads_172 : decode cL_reads 172 = .ok (.iaload, 1) := by decide +kernel
theorem dL_reads_173 : decode cL_reads 173 = .ok (.iastore, 1) := by decide +kernel
theorem dL_reads_174 : decode cL_reads 174 = .ok (.iconst 0, 1) := by decide +kernel
theorem dL_reads_175 : decode cL_reads 175 = .ok (.istore 14, 2) := by decide +kernel
theorem dL_reads_177 : decode cL_reads 177 = .ok (.iload 14, 2) := by decide +kernel
theorem dL_reads_179 : decode cL_reads 179 = .ok (.aload 5, 2) := by decide +kernel
theorem dL_reads_181 : decode cL_reads 181 = .ok (.bipush 14, 2) := by decide +kernel
theorem dL_reads_183 : decode cL_reads 183 = .ok (.iaload, 1) := by decide +kernel
theorem dL_reads_184 : decode cL_reads 184 = .ok (.if_icmp .ge 17, 3) := by decide +kernel
theorem dL_reads_187 : decode cL_reads 187 = .ok (.aload 5, 2) := by decide +kernel
theorem dL_reads_189 : decode cL_reads 189 = .ok (.aload 12, 2) := by decide +kernel
theorem dL_reads_191 : decode cL_reads 191 = .ok (.iconst 5, 1) := by decide +kernel
theorem dL_reads_192 : decode cL_reads 192 = .ok (.invokestatic 47, 3) := by decide +kernel
theorem dL_reads_195 : decode cL_reads 195 = .ok (.iinc 14 1, 3) := by decide +kernel
theorem dL_reads_198 : decode cL_reads 198 = .ok (.goto (-21), 3) := by decide +kernel
theorem dL_reads_201 : decode cL_reads 201 = .ok (.aload_n 0, 1) := by decide +kernel
theorem dL_reads_202 : decode cL_reads 202 = .ok (.aload_n 1, 1) := by decide +kernel
theorem dL_reads_203 : decode cL_reads 203 = .ok (.aload_n 2, 1) := by decide +kernel
theorem dL_reads_204 : decode cL_reads 204 = .ok (.aload 5, 2) := by decide +kernel
theorem dL_reads_206 : decode cL_reads 206 = .ok (.aload 6, 2) := by decide +kernel
theorem dL_reads_208 : decode cL_reads 208 = .ok (.aload 12, 2) := by decide +kernel
theorem dL_reads_210 : decode cL_reads 210 = .ok (.iconst 0, 1) := by decide +kernel
theorem dL_reads_211 : decode cL_reads 211 = .ok (.iconst 0, 1) := by decide +kernel
theorem dL_reads_212 : decode cL_reads 212 = .ok (.invokestatic 59, 3) := by decide +kernel
theorem dL_reads_215 : decode cL_reads 215 = .ok (.return_, 1) := by decide +kernel
theorem dL_isTree_0 : decode cL_isTree 0 = .ok (.aload_n 0, 1) := by decide +kernel
theorem dL_isTree_1 : decode cL_isTree 1 = .ok (.invokevirtual 75, 3) := by decide +kernel
theorem dL_isTree_4 : decode cL_isTree 4 = .ok (.aload_n 1, 1) := by decide +kernel
theorem dL_isTree_5 : decode cL_isTree 5 = .ok (.iconst 3, 1) := by decide +kernel
theorem dL_isTree_6 : decode cL_isTree 6 = .ok (.iaload, 1) := by decide +kernel
theorem dL_isTree_7 : decode cL_isTree 7 = .ok (.if_icmp .ne 27, 3) := by decide +kernel
theorem dL_isTree_10 : decode cL_isTree 10 = .ok (.aload_n 0, 1) := by decide +kernel
theorem dL_isTree_11 : decode cL_isTree 11 = .ok (.invokevirtual 81, 3) := by decide +kernel
theorem dL_isTree_14 : decode cL_isTree 14 = .ok (.aload_n 1, 1) := by decide +kernel
theorem dL_isTree_15 : decode cL_isTree 15 = .ok (.iconst 4, 1) := by decide +kernel
theorem dL_isTree_16 : decode cL_isTree 16 = .ok (.iaload, 1) := by decide +kernel
theorem dL_isTree_17 : decode cL_isTree 17 = .ok (.if_icmp .ne 17, 3) := by decide +kernel
theorem dL_isTree_20 : decode cL_isTree 20 = .ok (.aload_n 0, 1) := by decide +kernel
theorem dL_isTree_21 : decode cL_isTree 21 = .ok (.invokevirtual 84, 3) := by decide +kernel
theorem dL_isTree_24 : decode cL_isTree 24 = .ok (.aload_n 1, 1) := by decide +kernel
theorem dL_isTree_25 : decode cL_isTree 25 = .ok (.iconst 5, 1) := by decide +kernel
theorem dL_isTree_26 : decode cL_isTree 26 = .ok (.iaload, 1) := by decide +kernel
theorem dL_isTree_27 : decode cL_isTree 27 = .ok (.if_icmp .ne 7, 3) := by decide +kernel
theorem dL_isTree_30 : decode cL_isTree 30 = .ok (.iconst 1, 1) := by decide +kernel
theorem dL_isTree_31 : decode cL_isTree 31 = .ok (.goto 4, 3) := by decide +kernel
theorem dL_isTree_34 : decode cL_isTree 34 = .ok (.iconst 0, 1) := by decide +kernel
theorem dL_isTree_35 : decode cL_isTree 35 = .ok (.istore 7, 2) := by decide +kernel
theorem dL_isTree_37 : decode cL_isTree 37 = .ok (.aload_n 1, 1) := by decide +kernel
theorem dL_isTree_38 : decode cL_isTree 38 = .ok (.iconst 3, 1) := by decide +kernel
theorem dL_isTree_39 : decode cL_isTree 39 = .ok (.iaload, 1) := by decide +kernel
theorem dL_isTree_40 : decode cL_isTree 40 = .ok (.istore 8, 2) := by decide +kernel
theorem dL_isTree_42 : decode cL_isTree 42 = .ok (.iconst 0, 1) := by decide +kernel
theorem dL_isTree_43 : decode cL_isTree 43 = .ok (.istore 9, 2) := by decide +kernel
theorem dL_isTree_45 : decode cL_isTree 45 = .ok (.iconst 0, 1) := by decide +kernel
theorem dL_isTree_46 : decode cL_isTree 46 = .ok (.istore 10, 2) := by decide +kernel
theorem dL_isTree_48 : decode cL_isTree 48 = .ok (.iload 10, 2) := by decide +kernel
theorem dL_isTree_50 : decode cL_isTree 50 = .ok (.aload_n 1, 1) := by decide +kernel
theorem dL_isTree_51 : decode cL_isTree 51 = .ok (.iconst 3, 1) := by decide +kernel
theorem dL_isTree_52 : decode cL_isTree 52 = .ok (.iaload, 1) := by decide +kernel
theorem dL_isTree_53 : decode cL_isTree 53 = .ok (.if_icmp .ge 101, 3) := by decide +kernel
theorem dL_isTree_56 : decode cL_isTree 56 = .ok (.iload 7, 2) := by decide +kernel
theorem dL_isTree_58 : decode cL_isTree 58 = .ok (.ifCond .eq 96, 3) := by decide +kernel
theorem dL_isTree_61 : decode cL_isTree 61 = .ok (.aload_n 0, 1) := by decide +kernel
theorem dL_isTree_62 : decode cL_isTree 62 = .ok (.iload 10, 2) := by decide +kernel
theorem dL_isTree_64 : decode cL_isTree 64 = .ok (.invokevirtual 87, 3) := by decide +kernel
theorem dL_isTree_67 : decode cL_isTree 67 = .ok (.aload_n 2, 1) := by decide +kernel
theorem dL_isTree_68 : decode cL_isTree 68 = .ok (.iload 10, 2) := by decide +kernel
theorem dL_isTree_70 : decode cL_isTree 70 = .ok (.iaload, 1) := by decide +kernel
theorem dL_isTree_71 : decode cL_isTree 71 = .ok (.bipush 32, 2) := by decide +kernel
theorem dL_isTree_73 : decode cL_isTree 73 = .ok (.irem, 1) := by decide +kernel
theorem dL_isTree_74 : decode cL_isTree 74 = .ok (.if_icmp .ne 71, 3) := by decide +kernel
theorem dL_isTree_77 : decode cL_isTree 77 = .ok (.aload_n 0, 1) := by decide +kernel
theorem dL_isTree_78 : decode cL_isTree 78 = .ok (.iload 10, 2) := by decide +kernel
theorem dL_isTree_80 : decode cL_isTree 80 = .ok (.invokevirtual 91, 3) := by decide +kernel
theorem dL_isTree_83 : decode cL_isTree 83 = .ok (.aload_n 3, 1) := by decide +kernel
theorem dL_isTree_84 : decode cL_isTree 84 = .ok (.iload 10, 2) := by decide +kernel
theorem dL_isTree_86 : decode cL_isTree 86 = .ok (.iaload, 1) := by decide +kernel
theorem dL_isTree_87 : decode cL_isTree 87 = .ok (.if_icmp .ne 58, 3) := by decide +kernel
theorem dL_isTree_90 : decode cL_isTree 90 = .ok (.aload_n 0, 1) := by decide +kernel
theorem dL_isTree_91 : decode cL_isTree 91 = .ok (.iload 10, 2) := by decide +kernel
theorem dL_isTree_93 : decode cL_isTree 93 = .ok (.invokevirtual 94, 3) := by decide +kernel
theorem dL_isTree_96 : decode cL_isTree 96 = .ok (.aload 4, 2) := by decide +kernel
theorem dL_isTree_98 : decode cL_isTree 98 = .ok (.iload 10, 2) := by decide +kernel
theorem dL_isTree_100 : decode cL_isTree 100 = .ok (.iaload, 1) := by decide +kernel
theorem dL_isTree_101 : decode cL_isTree 101 = .ok (.if_icmp .ne 44, 3) := by decide +kernel
theorem dL_isTree_104 : decode cL_isTree 104 = .ok (.aload_n 0, 1) := by decide +kernel
theorem dL_isTree_105 : decode cL_isTree 105 = .ok (.iload 10, 2) := by decide +kernel
theorem dL_isTree_107 : decode cL_isTree 107 = .ok (.invokevirtual 98, 3) := by decide +kernel
theorem dL_isTree_110 : decode cL_isTree 110 = .ok (.aload 5, 2) := by decide +kernel
theorem dL_isTree_112 : decode cL_isTree 112 = .ok (.iload 10, 2) := by decide +kernel
theorem dL_isTree_114 : decode cL_isTree 114 = .ok (.iaload, 1) := by decide +kernel
theorem dL_isTree_115 : decode cL_isTree 115 = .ok (.if_icmp .ne 30, 3) := by decide +kernel
theorem dL_isTree_118 : decode cL_isTree 118 = .ok (.aload_n 0, 1) := by decide +kernel
theorem dL_isTree_119 : decode cL_isTree 119 = .ok (.iload 10, 2) := by decide +kernel
theorem dL_isTree_121 : decode cL_isTree 121 = .ok (.invokevirtual 101, 3) := by decide +kernel
theorem dL_isTree_124 : decode cL_isTree 124 = .ok (.aload_n 2, 1) := by decide +kernel
theorem dL_isTree_125 : decode cL_isTree 125 = .ok (.iload 10, 2) := by decide +kernel
theorem dL_isTree_127 : decode cL_isTree 127 = .ok (.iaload, 1) := by decide +kernel
theorem dL_isTree_128 : decode cL_isTree 128 = .ok (.bipush 31, 2) := by decide +kernel
theorem dL_isTree_130 : decode cL_isTree 130 = .ok (.if_icmp .le 7, 3) := by decide +kernel
theorem dL_isTree_133 : decode cL_isTree 133 = .ok (.iconst 1, 1) := by decide +kernel
theorem dL_isTree_134 : decode cL_isTree 134 = .ok (.goto 4, 3) := by decide +kernel
theorem dL_isTree_137 : decode cL_isTree 137 = .ok (.iconst 0, 1) := by decide +kernel
theorem dL_isTree_138 : decode cL_isTree 138 = .ok (.if_icmp .ne 7, 3) := by decide +kernel
theorem dL_isTree_141 : decode cL_isTree 141 = .ok (.iconst 1, 1) := by decide +kernel
theorem dL_isTree_142 : decode cL_isTree 142 = .ok (.goto 4, 3) := by decide +kernel
theorem dL_isTree_145 : decode cL_isTree 145 = .ok (.iconst 0, 1) := by decide +kernel
theorem dL_isTree_146 : decode cL_isTree 146 = .ok (.istore 7, 2) := by decide +kernel
theorem dL_isTree_148 : decode cL_isTree 148 = .ok (.iinc 10 1, 3) := by decide +kernel
theorem dL_isTree_151 : decode cL_isTree 151 = .ok (.goto (-103), 3) := by decide +kernel
theorem dL_isTree_154 : decode cL_isTree 154 = .ok (.iconst 0, 1) := by decide +kernel
theorem dL_isTree_155 : decode cL_isTree 155 = .ok (.istore 10, 2) := by decide +kernel
theorem dL_isTree_157 : decode cL_isTree 157 = .ok (.iload 10, 2) := by decide +kernel
theorem dL_isTree_159 : decode cL_isTree 159 = .ok (.aload_n 1, 1) := by decide +kernel
theorem dL_isTree_160 : decode cL_isTree 160 = .ok (.iconst 5, 1) := by decide +kernel
theorem dL_isTree_161 : decode cL_isTree 161 = .ok (.iaload, 1) := by decide +kernel
theorem dL_isTree_162 : decode cL_isTree 162 = .ok (.if_icmp .ge 77, 3) := by decide +kernel
theorem dL_isTree_165 : decode cL_isTree 165 = .ok (.iload 7, 2) := by decide +kernel
theorem dL_isTree_167 : decode cL_isTree 167 = .ok (.ifCond .eq 72, 3) := by decide +kernel
theorem dL_isTree_170 : decode cL_isTree 170 = .ok (.iload 9, 2) := by decide +kernel
theorem dL_isTree_172 : decode cL_isTree 172 = .ok (.aload 6, 2) := by decide +kernel
theorem dL_isTree_174 : decode cL_isTree 174 = .ok (.iload 10, 2) := by decide +kernel
theorem dL_isTree_176 : decode cL_isTree 176 = .ok (.iaload, 1) := by decide +kernel
theorem dL_isTree_177 : decode cL_isTree 177 = .ok (.bipush 64, 2) := by decide +kernel
theorem dL_isTree_179 : decode cL_isTree 179 = .ok (.idiv, 1) := by decide +kernel
theorem dL_isTree_180 : decode cL_isTree 180 = .ok (.iconst 2, 1) := by decide +kernel
theorem dL_isTree_181 : decode cL_isTree 181 = .ok (.if_icmp .ne 7, 3) := by decide +kernel
theorem dL_isTree_184 : decode cL_isTree 184 = .ok (.iconst 1, 1) := by decide +kernel
theorem dL_isTree_185 : decode cL_isTree 185 = .ok (.goto 4, 3) := by decide +kernel
theorem dL_isTree_188 : decode cL_isTree 188 = .ok (.iconst 0, 1) := by decide +kernel
theorem dL_isTree_189 : decode cL_isTree 189 = .ok (.iadd, 1) := by decide +kernel
theorem dL_isTree_190 : decode cL_isTree 190 = .ok (.istore 9, 2) := by decide +kernel
theorem dL_isTree_192 : decode cL_isTree 192 = .ok (.aload_n 0, 1) := by decide +kernel
theorem dL_isTree_193 : decode cL_isTree 193 = .ok (.iload 10, 2) := by decide +kernel
theorem dL_isTree_195 : decode cL_isTree 195 = .ok (.invokevirtual 105, 3) := by decide +kernel
theorem dL_isTree_198 : decode cL_isTree 198 = .ok (.aload 6, 2) := by decide +kernel
theorem dL_isTree_200 : decode cL_isTree 200 = .ok (.iload 10, 2) := by decide +kernel
theorem dL_isTree_202 : decode cL_isTree 202 = .ok (.iaload, 1) := by decide +kernel
theorem dL_isTree_203 : decode cL_isTree 203 = .ok (.bipush 64, 2) := by decide +kernel
theorem dL_isTree_205 : decode cL_isTree 205 = .ok (.idiv, 1) := by decide +kernel
theorem dL_isTree_206 : decode cL_isTree 206 = .ok (.if_icmp .ne 24, 3) := by decide +kernel
theorem dL_isTree_209 : decode cL_isTree 209 = .ok (.aload_n 0, 1) := by decide +kernel
theorem dL_isTree_210 : decode cL_isTree 210 = .ok (.iload 10, 2) := by decide +kernel
theorem dL_isTree_212 : decode cL_isTree 212 = .ok (.invokevirtual 108, 3) := by decide +kernel
theorem dL_isTree_215 : decode cL_isTree 215 = .ok (.aload 6, 2) := by decide +kernel
theorem dL_isTree_217 : decode cL_isTree 217 = .ok (.iload 10, 2) := by decide +kernel
theorem dL_isTree_219 : decode cL_isTree 219 = .ok (.iaload, 1) := by decide +kernel
theorem dL_isTree_220 : decode cL_isTree 220 = .ok (.bipush 64, 2) := by decide +kernel
theorem dL_isTree_222 : decode cL_isTree 222 = .ok (.irem, 1) := by decide +kernel
theorem dL_isTree_223 : decode cL_isTree 223 = .ok (.if_icmp .ne 7, 3) := by decide +kernel
theorem dL_isTree_226 : decode cL_isTree 226 = .ok (.iconst 1, 1) := by decide +kernel
theorem dL_isTree_227 : decode cL_isTree 227 = .ok (.goto 4, 3) := by decide +kernel
theorem dL_isTree_230 : decode cL_isTree 230 = .ok (.iconst 0, 1) := by decide +kernel
theorem dL_isTree_231 : decode cL_isTree 231 = .ok (.istore 7, 2) := by decide +kernel
theorem dL_isTree_233 : decode cL_isTree 233 = .ok (.iinc 10 1, 3) := by decide +kernel
theorem dL_isTree_236 : decode cL_isTree 236 = .ok (.goto (-79), 3) := by decide +kernel
theorem dL_isTree_239 : decode cL_isTree 239 = .ok (.iload 7, 2) := by decide +kernel
theorem dL_isTree_241 : decode cL_isTree 241 = .ok (.ifCond .eq 44, 3) := by decide +kernel
theorem dL_isTree_244 : decode cL_isTree 244 = .ok (.aload_n 0, 1) := by decide +kernel
theorem dL_isTree_245 : decode cL_isTree 245 = .ok (.invokevirtual 111, 3) := by decide +kernel
theorem dL_isTree_248 : decode cL_isTree 248 = .ok (.iload 8, 2) := by decide +kernel
theorem dL_isTree_250 : decode cL_isTree 250 = .ok (.if_icmp .lt 35, 3) := by decide +kernel
theorem dL_isTree_253 : decode cL_isTree 253 = .ok (.aload_n 0, 1) := by decide +kernel
theorem dL_isTree_254 : decode cL_isTree 254 = .ok (.invokevirtual 111, 3) := by decide +kernel
theorem dL_isTree_257 : decode cL_isTree 257 = .ok (.iconst 2, 1) := by decide +kernel
theorem dL_isTree_258 : decode cL_isTree 258 = .ok (.iload 8, 2) := by decide +kernel
theorem dL_isTree_260 : decode cL_isTree 260 = .ok (.imul, 1) := by decide +kernel
theorem dL_isTree_261 : decode cL_isTree 261 = .ok (.if_icmp .gt 24, 3) := by decide +kernel
theorem dL_isTree_264 : decode cL_isTree 264 = .ok (.aload_n 0, 1) := by decide +kernel
theorem dL_isTree_265 : decode cL_isTree 265 = .ok (.invokevirtual 114, 3) := by decide +kernel
theorem dL_isTree_268 : decode cL_isTree 268 = .ok (.iload 9, 2) := by decide +kernel
theorem dL_isTree_270 : decode cL_isTree 270 = .ok (.ifCond .ne 7, 3) := by decide +kernel
theorem dL_isTree_273 : decode cL_isTree 273 = .ok (.iconst 1, 1) := by decide +kernel
theorem dL_isTree_274 : decode cL_isTree 274 = .ok (.goto 4, 3) := by decide +kernel
theorem dL_isTree_277 : decode cL_isTree 277 = .ok (.iconst 0, 1) := by decide +kernel
theorem dL_isTree_278 : decode cL_isTree 278 = .ok (.if_icmp .ne 7, 3) := by decide +kernel
theorem dL_isTree_281 : decode cL_isTree 281 = .ok (.iconst 1, 1) := by decide +kernel
theorem dL_isTree_282 : decode cL_isTree 282 = .ok (.goto 4, 3) := by decide +kernel
theorem dL_isTree_285 : decode cL_isTree 285 = .ok (.iconst 0, 1) := by decide +kernel
theorem dL_isTree_286 : decode cL_isTree 286 = .ok (.ireturn, 1) := by decide +kernel
end
section
theorem dL_areStates_0 : decode cL_areStates 0 = .ok (.iload 5, 2) := by decide +kernel
theorem dL_areStates_2 : decode cL_areStates 2 = .ok (.aload_n 3, 1) := by decide +kernel
theorem dL_areStates_3 : decode cL_areStates 3 = .ok (.bipush 20, 2) := by decide +kernel
theorem dL_areStates_5 : decode cL_areStates 5 = .ok (.iaload, 1) := by decide +kernel
theorem dL_areStates_6 : decode cL_areStates 6 = .ok (.iconst 1, 1) := by decide +kernel
theorem dL_areStates_7 : decode cL_areStates 7 = .ok (.iadd, 1) := by decide +kernel
theorem dL_areStates_8 : decode cL_areStates 8 = .ok (.irem, 1) := by decide +kernel
theorem dL_areStates_9 : decode cL_areStates 9 = .ok (.istore 6, 2) := by decide +kernel
theorem dL_areStates_11 : decode cL_areStates 11 = .ok (.iconst 0, 1) := by decide +kernel
theorem dL_areStates_12 : decode cL_areStates 12 = .ok (.istore 7, 2) := by decide +kernel
theorem dL_areStates_14 : decode cL_areStates 14 = .ok (.aload 4, 2) := by decide +kernel
theorem dL_areStates_16 : decode cL_areStates 16 = .ok (.iload 6, 2) := by decide +kernel
theorem dL_areStates_18 : decode cL_areStates 18 = .ok (.laload, 1) := by decide +kernel
theorem dL_areStates_19 : decode cL_areStates 19 = .ok (.ldc2_w 63, 3) := by decide +kernel
theorem dL_areStates_22 : decode cL_areStates 22 = .ok (.lrem, 1) := by decide +kernel
theorem dL_areStates_23 : decode cL_areStates 23 = .ok (.l2i, 1) := by decide +kernel
theorem dL_areStates_24 : decode cL_areStates 24 = .ok (.istore 8, 2) := by decide +kernel
theorem dL_areStates_26 : decode cL_areStates 26 = .ok (.aload 4, 2) := by decide +kernel
theorem dL_areStates_28 : decode cL_areStates 28 = .ok (.iload 6, 2) := by decide +kernel
theorem dL_areStates_30 : decode cL_areStates 30 = .ok (.laload, 1) := by decide +kernel
theorem dL_areStates_31 : decode cL_areStates 31 = .ok (.lstore 9, 2) := by decide +kernel
theorem dL_areStates_33 : decode cL_areStates 33 = .ok (.lload 9, 2) := by decide +kernel
theorem dL_areStates_35 : decode cL_areStates 35 = .ok (.lconst 1, 1) := by decide +kernel
theorem dL_areStates_36 : decode cL_areStates 36 = .ok (.lcmp, 1) := by decide +kernel
theorem dL_areStates_37 : decode cL_areStates 37 = .ok (.ifCond .le 17, 3) := by decide +kernel
theorem dL_areStates_40 : decode cL_areStates 40 = .ok (.iinc 7 1, 3) := by decide +kernel
theorem dL_areStates_43 : decode cL_areStates 43 = .ok (.lload 9, 2) := by decide +kernel
theorem dL_areStates_45 : decode cL_areStates 45 = .ok (.ldc2_w 63, 3) := by decide +kernel
theorem dL_areStates_48 : decode cL_areStates 48 = .ok (.ldiv, 1) := by decide +kernel
theorem dL_areStates_49 : decode cL_areStates 49 = .ok (.lstore 9, 2) := by decide +kernel
theorem dL_areStates_51 : decode cL_areStates 51 = .ok (.goto (-18), 3) := by decide +kernel
theorem dL_areStates_54 : decode cL_areStates 54 = .ok (.aload_n 0, 1) := by decide +kernel
theorem dL_areStates_55 : decode cL_areStates 55 = .ok (.invokevirtual 118, 3) := by decide +kernel
theorem dL_areStates_58 : decode cL_areStates 58 = .ok (.aload_n 3, 1) := by decide +kernel
theorem dL_areStates_59 : decode cL_areStates 59 = .ok (.bipush 20, 2) := by decide +kernel
theorem dL_areStates_61 : decode cL_areStates 61 = .ok (.iaload, 1) := by decide +kernel
theorem dL_areStates_62 : decode cL_areStates 62 = .ok (.if_icmp .ne 66, 3) := by decide +kernel
theorem dL_areStates_65 : decode cL_areStates 65 = .ok (.aload_n 0, 1) := by decide +kernel
theorem dL_areStates_66 : decode cL_areStates 66 = .ok (.iload 6, 2) := by decide +kernel
theorem dL_areStates_68 : decode cL_areStates 68 = .ok (.invokevirtual 121, 3) := by decide +kernel
theorem dL_areStates_71 : decode cL_areStates 71 = .ok (.iload 7, 2) := by decide +kernel
theorem dL_areStates_73 : decode cL_areStates 73 = .ok (.if_icmp .ne 55, 3) := by decide +kernel
theorem dL_areStates_76 : decode cL_areStates 76 = .ok (.aload_n 0, 1) := by decide +kernel
theorem dL_areStates_77 : decode cL_areStates 77 = .ok (.iload 6, 2) := by decide +kernel
theorem dL_areStates_79 : decode cL_areStates 79 = .ok (.invokevirtual 123, 3) := by decide +kernel
theorem dL_areStates_82 : decode cL_areStates 82 = .ok (.iload 7, 2) := by decide +kernel
theorem dL_areStates_84 : decode cL_areStates 84 = .ok (.ifCond .ne 7, 3) := by decide +kernel
theorem dL_areStates_87 : decode cL_areStates 87 = .ok (.iconst (-1), 1) := by decide +kernel
theorem dL_areStates_88 : decode cL_areStates 88 = .ok (.goto 8, 3) := by decide +kernel
theorem dL_areStates_91 : decode cL_areStates 91 = .ok (.iload 8, 2) := by decide +kernel
theorem dL_areStates_93 : decode cL_areStates 93 = .ok (.bipush 16, 2) := by decide +kernel
theorem dL_areStates_95 : decode cL_areStates 95 = .ok (.idiv, 1) := by decide +kernel
theorem dL_areStates_96 : decode cL_areStates 96 = .ok (.if_icmp .ne 32, 3) := by decide +kernel
theorem dL_areStates_99 : decode cL_areStates 99 = .ok (.aload_n 0, 1) := by decide +kernel
theorem dL_areStates_100 : decode cL_areStates 100 = .ok (.iload 6, 2) := by decide +kernel
theorem dL_areStates_102 : decode cL_areStates 102 = .ok (.invokevirtual 126, 3) := by decide +kernel
theorem dL_areStates_105 : decode cL_areStates 105 = .ok (.iload 7, 2) := by decide +kernel
theorem dL_areStates_107 : decode cL_areStates 107 = .ok (.ifCond .ne 7, 3) := by decide +kernel
theorem dL_areStates_110 : decode cL_areStates 110 = .ok (.iconst 0, 1) := by decide +kernel
theorem dL_areStates_111 : decode cL_areStates 111 = .ok (.goto 10, 3) := by decide +kernel
theorem dL_areStates_114 : decode cL_areStates 114 = .ok (.aload_n 1, 1) := by decide +kernel
theorem dL_areStates_115 : decode cL_areStates 115 = .ok (.aload_n 2, 1) := by decide +kernel
theorem dL_areStates_116 : decode cL_areStates 116 = .ok (.iload 8, 2) := by decide +kernel
theorem dL_areStates_118 : decode cL_areStates 118 = .ok (.invokestatic 31, 3) := by decide +kernel
theorem dL_areStates_121 : decode cL_areStates 121 = .ok (.if_icmp .ne 7, 3) := by decide +kernel
theorem dL_areStates_124 : decode cL_areStates 124 = .ok (.iconst 1, 1) := by decide +kernel
theorem dL_areStates_125 : decode cL_areStates 125 = .ok (.goto 4, 3) := by decide +kernel
theorem dL_areStates_128 : decode cL_areStates 128 = .ok (.iconst 0, 1) := by decide +kernel
theorem dL_areStates_129 : decode cL_areStates 129 = .ok (.ireturn, 1) := by decide +kernel
theorem dL_slot_0 : decode cL_slot 0 = .ok (.aload_n 0, 1) := by decide +kernel
theorem dL_slot_1 : decode cL_slot 1 = .ok (.iload_n 1, 1) := by decide +kernel
theorem dL_slot_2 : decode cL_slot 2 = .ok (.iload_n 2, 1) := by decide +kernel
theorem dL_slot_3 : decode cL_slot 3 = .ok (.iload_n 3, 1) := by decide +kernel
theorem dL_slot_4 : decode cL_slot 4 = .ok (.iload 4, 2) := by decide +kernel
theorem dL_slot_6 : decode cL_slot 6 = .ok (.invokevirtual 128, 3) := by decide +kernel
theorem dL_slot_9 : decode cL_slot 9 = .ok (.ireturn, 1) := by decide +kernel
theorem dL_slot_10 : decode cL_slot 10 = .ok (.astore 5, 2) := by decide +kernel
theorem dL_slot_12 : decode cL_slot 12 = .ok (.bipush (-7), 2) := by decide +kernel
theorem dL_slot_14 : decode cL_slot 14 = .ok (.ireturn, 1) := by decide +kernel
theorem dL_twice_0 : decode cL_twice 0 = .ok (.iconst (-1), 1) := by decide +kernel
theorem dL_twice_1 : decode cL_twice 1 = .ok (.istore_n 3, 1) := by decide +kernel
theorem dL_twice_2 : decode cL_twice 2 = .ok (.iconst 0, 1) := by decide +kernel
theorem dL_twice_3 : decode cL_twice 3 = .ok (.istore 4, 2) := by decide +kernel
theorem dL_twice_5 : decode cL_twice 5 = .ok (.iload 4, 2) := by decide +kernel
theorem dL_twice_7 : decode cL_twice 7 = .ok (.iconst 2, 1) := by decide +kernel
theorem dL_twice_8 : decode cL_twice 8 = .ok (.iload_n 1, 1) := by decide +kernel
theorem dL_twice_9 : decode cL_twice 9 = .ok (.imul, 1) := by decide +kernel
theorem dL_twice_10 : decode cL_twice 10 = .ok (.if_icmp .ge 164, 3) := by decide +kernel
theorem dL_twice_13 : decode cL_twice 13 = .ok (.iconst 0, 1) := by decide +kernel
theorem dL_twice_14 : decode cL_twice 14 = .ok (.istore 5, 2) := by decide +kernel
theorem dL_twice_16 : decode cL_twice 16 = .ok (.iconst 0, 1) := by decide +kernel
theorem dL_twice_17 : decode cL_twice 17 = .ok (.istore 6, 2) := by decide +kernel
theorem dL_twice_19 : decode cL_twice 19 = .ok (.iload 4, 2) := by decide +kernel
theorem dL_twice_21 : decode cL_twice 21 = .ok (.iconst 2, 1) := by decide +kernel
theorem dL_twice_22 : decode cL_twice 22 = .ok (.irem, 1) := by decide +kernel
theorem dL_twice_23 : decode cL_twice 23 = .ok (.istore 7, 2) := by decide +kernel
theorem dL_twice_25 : decode cL_twice 25 = .ok (.iload 4, 2) := by decide +kernel
theorem dL_twice_27 : decode cL_twice 27 = .ok (.iconst 2, 1) := by decide +kernel
theorem dL_twice_28 : decode cL_twice 28 = .ok (.idiv, 1) := by decide +kernel
theorem dL_twice_29 : decode cL_twice 29 = .ok (.istore 8, 2) := by decide +kernel
theorem dL_twice_31 : decode cL_twice 31 = .ok (.iload 8, 2) := by decide +kernel
theorem dL_twice_33 : decode cL_twice 33 = .ok (.iload_n 1, 1) := by decide +kernel
theorem dL_twice_34 : decode cL_twice 34 = .ok (.if_icmp .ge 91, 3) := by decide +kernel
theorem dL_twice_37 : decode cL_twice 37 = .ok (.iload 7, 2) := by decide +kernel
theorem dL_twice_39 : decode cL_twice 39 = .ok (.ifCond .eq 19, 3) := by decide +kernel
theorem dL_twice_42 : decode cL_twice 42 = .ok (.aload_n 0, 1) := by decide +kernel
theorem dL_twice_43 : decode cL_twice 43 = .ok (.iconst 4, 1) := by decide +kernel
theorem dL_twice_44 : decode cL_twice 44 = .ok (.iload_n 2, 1) := by decide +kernel
theorem dL_twice_45 : decode cL_twice 45 = .ok (.imul, 1) := by decide +kernel
theorem dL_twice_46 : decode cL_twice 46 = .ok (.iload 8, 2) := by decide +kernel
theorem dL_twice_48 : decode cL_twice 48 = .ok (.iadd, 1) := by decide +kernel
theorem dL_twice_49 : decode cL_twice 49 = .ok (.iaload, 1) := by decide +kernel
theorem dL_twice_50 : decode cL_twice 50 = .ok (.sipush 2048, 3) := by decide +kernel
theorem dL_twice_53 : decode cL_twice 53 = .ok (.idiv, 1) := by decide +kernel
theorem dL_twice_54 : decode cL_twice 54 = .ok (.iconst 1, 1) := by decide +kernel
theorem dL_twice_55 : decode cL_twice 55 = .ok (.if_icmp .le 18, 3) := by decide +kernel
theorem dL_twice_58 : decode cL_twice 58 = .ok (.aload_n 0, 1) := by decide +kernel
theorem dL_twice_59 : decode cL_twice 59 = .ok (.iconst 4, 1) := by decide +kernel
theorem dL_twice_60 : decode cL_twice 60 = .ok (.iload_n 2, 1) := by decide +kernel
theorem dL_twice_61 : decode cL_twice 61 = .ok (.imul, 1) := by decide +kernel
theorem dL_twice_62 : decode cL_twice 62 = .ok (.iload 8, 2) := by decide +kernel
theorem dL_twice_64 : decode cL_twice 64 = .ok (.iadd, 1) := by decide +kernel
theorem dL_twice_65 : decode cL_twice 65 = .ok (.iaload, 1) := by decide +kernel
theorem dL_twice_66 : decode cL_twice 66 = .ok (.sipush 2048, 3) := by decide +kernel
theorem dL_twice_69 : decode cL_twice 69 = .ok (.irem, 1) := by decide +kernel
theorem dL_twice_70 : decode cL_twice 70 = .ok (.goto 4, 3) := by decide +kernel
theorem dL_twice_73 : decode cL_twice 73 = .ok (.iconst 0, 1) := by decide +kernel
theorem dL_twice_74 : decode cL_twice 74 = .ok (.istore 9, 2) := by decide +kernel
theorem dL_twice_76 : decode cL_twice 76 = .ok (.iload 6, 2) := by decide +kernel
theorem dL_twice_78 : decode cL_twice 78 = .ok (.iload 5, 2) := by decide +kernel
theorem dL_twice_80 : decode cL_twice 80 = .ok (.iload 9, 2) := by decide +kernel
theorem dL_twice_82 : decode cL_twice 82 = .ok (.iand, 1) := by decide +kernel
theorem dL_twice_83 : decode cL_twice 83 = .ok (.ior, 1) := by decide +kernel
theorem dL_twice_84 : decode cL_twice 84 = .ok (.istore 6, 2) := by decide +kernel
theorem dL_twice_86 : decode cL_twice 86 = .ok (.iload 5, 2) := by decide +kernel
theorem dL_twice_88 : decode cL_twice 88 = .ok (.iload 9, 2) := by decide +kernel
theorem dL_twice_90 : decode cL_twice 90 = .ok (.ior, 1) := by decide +kernel
theorem dL_twice_91 : decode cL_twice 91 = .ok (.istore 5, 2) := by decide +kernel
theorem dL_twice_93 : decode cL_twice 93 = .ok (.aload_n 0, 1) := by decide +kernel
theorem dL_twice_94 : decode cL_twice 94 = .ok (.iconst 4, 1) := by decide +kernel
theorem dL_twice_95 : decode cL_twice 95 = .ok (.iload_n 2, 1) := by decide +kernel
theorem dL_twice_96 : decode cL_twice 96 = .ok (.imul, 1) := by decide +kernel
theorem dL_twice_97 : decode cL_twice 97 = .ok (.iload 8, 2) := by decide +kernel
theorem dL_twice_99 : decode cL_twice 99 = .ok (.iadd, 1) := by decide +kernel
theorem dL_twice_100 : decode cL_twice 100 = .ok (.iload 7, 2) := by decide +kernel
theorem dL_twice_102 : decode cL_twice 102 = .ok (.invokestatic 9, 3) := by decide +kernel
theorem dL_twice_105 : decode cL_twice 105 = .ok (.ifCond .eq 8, 3) := by decide +kernel
theorem dL_twice_108 : decode cL_twice 108 = .ok (.iload 8, 2) := by decide +kernel
theorem dL_twice_110 : decode cL_twice 110 = .ok (.goto 4, 3) := by decide +kernel
theorem dL_twice_113 : decode cL_twice 113 = .ok (.iload_n 1, 1) := by decide +kernel
theorem dL_twice_114 : decode cL_twice 114 = .ok (.istore 8, 2) := by decide +kernel
theorem dL_twice_116 : decode cL_twice 116 = .ok (.iconst 0, 1) := by decide +kernel
theorem dL_twice_117 : decode cL_twice 117 = .ok (.istore 7, 2) := by decide +kernel
theorem dL_twice_119 : decode cL_twice 119 = .ok (.iinc 8 1, 3) := by decide +kernel
theorem dL_twice_122 : decode cL_twice 122 = .ok (.goto (-91), 3) := by decide +kernel
theorem dL_twice_125 : decode cL_twice 125 = .ok (.bipush 10, 2) := by decide +kernel
theorem dL_twice_127 : decode cL_twice 127 = .ok (.istore 8, 2) := by decide +kernel
theorem dL_twice_129 : decode cL_twice 129 = .ok (.iload 8, 2) := by decide +kernel
theorem dL_twice_131 : decode cL_twice 131 = .ok (.ifCond .lt 37, 3) := by decide +kernel
theorem dL_twice_134 : decode cL_twice 134 = .ok (.iload 6, 2) := by decide +kernel
theorem dL_twice_136 : decode cL_twice 136 = .ok (.iload 8, 2) := by decide +kernel
theorem dL_twice_138 : decode cL_twice 138 = .ok (.ishr, 1) := by decide +kernel
theorem dL_twice_139 : decode cL_twice 139 = .ok (.iconst 1, 1) := by decide +kernel
theorem dL_twice_140 : decode cL_twice 140 = .ok (.iand, 1) := by decide +kernel
theorem dL_twice_141 : decode cL_twice 141 = .ok (.iconst 1, 1) := by decide +kernel
theorem dL_twice_142 : decode cL_twice 142 = .ok (.if_icmp .ne 18, 3) := by decide +kernel
theorem dL_twice_145 : decode cL_twice 145 = .ok (.iload_n 3, 1) := by decide +kernel
theorem dL_twice_146 : decode cL_twice 146 = .ok (.ifCond .lt 9, 3) := by decide +kernel
theorem dL_twice_149 : decode cL_twice 149 = .ok (.iload 8, 2) := by decide +kernel
theorem dL_twice_151 : decode cL_twice 151 = .ok (.iload_n 3, 1) := by decide +kernel
theorem dL_twice_152 : decode cL_twice 152 = .ok (.if_icmp .ge 8, 3) := by decide +kernel
theorem dL_twice_155 : decode cL_twice 155 = .ok (.iload 8, 2) := by decide +kernel
theorem dL_twice_157 : decode cL_twice 157 = .ok (.goto 4, 3) := by decide +kernel
theorem dL_twice_160 : decode cL_twice 160 = .ok (.iload_n 3, 1) := by decide +kernel
theorem dL_twice_161 : decode cL_twice 161 = .ok (.istore_n 3, 1) := by decide +kernel
theorem dL_twice_162 : decode cL_twice 162 = .ok (.iinc 8 (-1), 3) := by decide +kernel
theorem dL_twice_165 : decode cL_twice 165 = .ok (.goto (-36), 3) := by decide +kernel
theorem dL_twice_168 : decode cL_twice 168 = .ok (.iinc 4 1, 3) := by decide +kernel
theorem dL_twice_171 : decode cL_twice 171 = .ok (.goto (-166), 3) := by decide +kernel
theorem dL_twice_174 : decode cL_twice 174 = .ok (.iload_n 3, 1) := by decide +kernel
theorem dL_twice_175 : decode cL_twice 175 = .ok (.ireturn, 1) := by decide +kernel
theorem dL_isGrammar_0 : decode cL_isGrammar 0 = .ok (.iload 5, 2) := by decide +kernel
theorem dL_isGrammar_2 : decode cL_isGrammar 2 = .ok (.iconst 5, 1) := by decide +kernel
theorem dL_isGrammar_3 : decode cL_isGrammar 3 = .ok (.irem, 1) := by decide +kernel
theorem dL_isGrammar_4 : decode cL_isGrammar 4 = .ok (.istore 6, 2) := by decide +kernel
theorem dL_isGrammar_6 : decode cL_isGrammar 6 = .ok (.iload 4, 2) := by decide +kernel
theorem dL_isGrammar_8 : decode cL_isGrammar 8 = .ok (.ifCond .ne 46, 3) := by decide +kernel
theorem dL_isGrammar_11 : decode cL_isGrammar 11 = .ok (.aload_n 2, 1) := by decide +kernel
theorem dL_isGrammar_12 : decode cL_isGrammar 12 = .ok (.iload 6, 2) := by decide +kernel
theorem dL_isGrammar_14 : decode cL_isGrammar 14 = .ok (.iload 5, 2) := by decide +kernel
theorem dL_isGrammar_16 : decode cL_isGrammar 16 = .ok (.iconst 5, 1) := by decide +kernel
theorem dL_isGrammar_17 : decode cL_isGrammar 17 = .ok (.idiv, 1) := by decide +kernel
theorem dL_isGrammar_18 : decode cL_isGrammar 18 = .ok (.iconst 3, 1) := by decide +kernel
theorem dL_isGrammar_19 : decode cL_isGrammar 19 = .ok (.irem, 1) := by decide +kernel
theorem dL_isGrammar_20 : decode cL_isGrammar 20 = .ok (.ifCond .le 10, 3) := by decide +kernel
theorem dL_isGrammar_23 : decode cL_isGrammar 23 = .ok (.aload_n 2, 1) := by decide +kernel
theorem dL_isGrammar_24 : decode cL_isGrammar 24 = .ok (.iload 6, 2) := by decide +kernel
theorem dL_isGrammar_26 : decode cL_isGrammar 26 = .ok (.iaload, 1) := by decide +kernel
theorem dL_isGrammar_27 : decode cL_isGrammar 27 = .ok (.goto 4, 3) := by decide +kernel
theorem dL_isGrammar_30 : decode cL_isGrammar 30 = .ok (.iconst 0, 1) := by decide +kernel
theorem dL_isGrammar_31 : decode cL_isGrammar 31 = .ok (.iastore, 1) := by decide +kernel
theorem dL_isGrammar_32 : decode cL_isGrammar 32 = .ok (.aload_n 2, 1) := by decide +kernel
theorem dL_isGrammar_33 : decode cL_isGrammar 33 = .ok (.iload 6, 2) := by decide +kernel
theorem dL_isGrammar_35 : decode cL_isGrammar 35 = .ok (.iaload, 1) := by decide +kernel
theorem dL_isGrammar_36 : decode cL_isGrammar 36 = .ok (.ifCond .gt 12, 3) := by decide +kernel
theorem dL_isGrammar_39 : decode cL_isGrammar 39 = .ok (.aload_n 0, 1) := by decide +kernel
theorem dL_isGrammar_40 : decode cL_isGrammar 40 = .ok (.iload 6, 2) := by decide +kernel
theorem dL_isGrammar_42 : decode cL_isGrammar 42 = .ok (.invokevirtual 134, 3) := by decide +kernel
theorem dL_isGrammar_45 : decode cL_isGrammar 45 = .ok (.ifCond .lt 7, 3) := by decide +kernel
theorem dL_isGrammar_48 : decode cL_isGrammar 48 = .ok (.iconst 1, 1) := by decide +kernel
theorem dL_isGrammar_49 : decode cL_isGrammar 49 = .ok (.goto 4, 3) := by decide +kernel
theorem dL_isGrammar_52 : decode cL_isGrammar 52 = .ok (.iconst 0, 1) := by decide +kernel
theorem dL_isGrammar_53 : decode cL_isGrammar 53 = .ok (.ireturn, 1) := by decide +kernel
theorem dL_isGrammar_54 : decode cL_isGrammar 54 = .ok (.iload 4, 2) := by decide +kernel
theorem dL_isGrammar_56 : decode cL_isGrammar 56 = .ok (.iconst 1, 1) := by decide +kernel
theorem dL_isGrammar_57 : decode cL_isGrammar 57 = .ok (.if_icmp .ne 91, 3) := by decide +kernel
theorem dL_isGrammar_60 : decode cL_isGrammar 60 = .ok (.aload_n 3, 1) := by decide +kernel
theorem dL_isGrammar_61 : decode cL_isGrammar 61 = .ok (.iload 6, 2) := by decide +kernel
theorem dL_isGrammar_63 : decode cL_isGrammar 63 = .ok (.aload_n 3, 1) := by decide +kernel
theorem dL_isGrammar_64 : decode cL_isGrammar 64 = .ok (.iload 6, 2) := by decide +kernel
theorem dL_isGrammar_66 : decode cL_isGrammar 66 = .ok (.iaload, 1) := by decide +kernel
theorem dL_isGrammar_67 : decode cL_isGrammar 67 = .ok (.ldc 137, 2) := by decide +kernel
theorem dL_isGrammar_69 : decode cL_isGrammar 69 = .ok (.iand, 1) := by decide +kernel
theorem dL_isGrammar_70 : decode cL_isGrammar 70 = .ok (.iload 5, 2) := by decide +kernel
theorem dL_isGrammar_72 : decode cL_isGrammar 72 = .ok (.iconst 5, 1) := by decide +kernel
theorem dL_isGrammar_73 : decode cL_isGrammar 73 = .ok (.idiv, 1) := by decide +kernel
theorem dL_isGrammar_74 : decode cL_isGrammar 74 = .ok (.iconst 3, 1) := by decide +kernel
theorem dL_isGrammar_75 : decode cL_isGrammar 75 = .ok (.irem, 1) := by decide +kernel
theorem dL_isGrammar_76 : decode cL_isGrammar 76 = .ok (.ifCond .ne 15, 3) := by decide +kernel
theorem dL_isGrammar_79 : decode cL_isGrammar 79 = .ok (.iconst 1, 1) := by decide +kernel
theorem dL_isGrammar_80 : decode cL_isGrammar 80 = .ok (.iload 5, 2) := by decide +kernel
theorem dL_isGrammar_82 : decode cL_isGrammar 82 = .ok (.bipush 15, 2) := by decide +kernel
theorem dL_isGrammar_84 : decode cL_isGrammar 84 = .ok (.idiv, 1) := by decide +kernel
theorem dL_isGrammar_85 : decode cL_isGrammar 85 = .ok (.iconst 5, 1) := by decide +kernel
theorem dL_isGrammar_86 : decode cL_isGrammar 86 = .ok (.irem, 1) := by decide +kernel
theorem dL_isGrammar_87 : decode cL_isGrammar 87 = .ok (.ishl, 1) := by decide +kernel
theorem dL_isGrammar_88 : decode cL_isGrammar 88 = .ok (.goto 4, 3) := by decide +kernel
theorem dL_isGrammar_91 : decode cL_isGrammar 91 = .ok (.iconst 0, 1) := by decide +kernel
theorem dL_isGrammar_92 : decode cL_isGrammar 92 = .ok (.ior, 1) := by decide +kernel
theorem dL_isGrammar_93 : decode cL_isGrammar 93 = .ok (.iload 5, 2) := by decide +kernel
theorem dL_isGrammar_95 : decode cL_isGrammar 95 = .ok (.bipush 75, 2) := by decide +kernel
theorem dL_isGrammar_97 : decode cL_isGrammar 97 = .ok (.idiv, 1) := by decide +kernel
theorem dL_isGrammar_98 : decode cL_isGrammar 98 = .ok (.iconst 3, 1) := by decide +kernel
theorem dL_isGrammar_99 : decode cL_isGrammar 99 = .ok (.irem, 1) := by decide +kernel
theorem dL_isGrammar_100 : decode cL_isGrammar 100 = .ok (.ifCond .ne 18, 3) := by decide +kernel
theorem dL_isGrammar_103 : decode cL_isGrammar 103 = .ok (.sipush 1024, 3) := by decide +kernel
theorem dL_isGrammar_106 : decode cL_isGrammar 106 = .ok (.iload 5, 2) := by decide +kernel
theorem dL_isGrammar_108 : decode cL_isGrammar 108 = .ok (.sipush 225, 3) := by decide +kernel
theorem dL_isGrammar_111 : decode cL_isGrammar 111 = .ok (.idiv, 1) := by decide +kernel
theorem dL_isGrammar_112 : decode cL_isGrammar 112 = .ok (.iconst 5, 1) := by decide +kernel
theorem dL_isGrammar_113 : decode cL_isGrammar 113 = .ok (.irem, 1) := by decide +kernel
theorem dL_isGrammar_114 : decode cL_isGrammar 114 = .ok (.ishl, 1) := by decide +kernel
theorem dL_isGrammar_115 : decode cL_isGrammar 115 = .ok (.goto 4, 3) := by decide +kernel
theorem dL_isGrammar_118 : decode cL_isGrammar 118 = .ok (.iconst 0, 1) := by decide +kernel
theorem dL_isGrammar_119 : decode cL_isGrammar 119 = .ok (.ior, 1) := by decide +kernel
theorem dL_isGrammar_120 : decode cL_isGrammar 120 = .ok (.iastore, 1) := by decide +kernel
theorem dL_isGrammar_121 : decode cL_isGrammar 121 = .ok (.aload_n 0, 1) := by decide +kernel
theorem dL_isGrammar_122 : decode cL_isGrammar 122 = .ok (.iload 6, 2) := by decide +kernel
theorem dL_isGrammar_124 : decode cL_isGrammar 124 = .ok (.aload_n 3, 1) := by decide +kernel
theorem dL_isGrammar_125 : decode cL_isGrammar 125 = .ok (.iload 6, 2) := by decide +kernel
theorem dL_isGrammar_127 : decode cL_isGrammar 127 = .ok (.iaload, 1) := by decide +kernel
theorem dL_isGrammar_128 : decode cL_isGrammar 128 = .ok (.sipush 1023, 3) := by decide +kernel
theorem dL_isGrammar_131 : decode cL_isGrammar 131 = .ok (.iand, 1) := by decide +kernel
theorem dL_isGrammar_132 : decode cL_isGrammar 132 = .ok (.aload_n 3, 1) := by decide +kernel
theorem dL_isGrammar_133 : decode cL_isGrammar 133 = .ok (.iload 6, 2) := by decide +kernel
theorem dL_isGrammar_135 : decode cL_isGrammar 135 = .ok (.iaload, 1) := by decide +kernel
theorem dL_isGrammar_136 : decode cL_isGrammar 136 = .ok (.bipush 10, 2) := by decide +kernel
theorem dL_isGrammar_138 : decode cL_isGrammar 138 = .ok (.ishr, 1) := by decide +kernel
theorem dL_isGrammar_139 : decode cL_isGrammar 139 = .ok (.sipush 1023, 3) := by decide +kernel
theorem dL_isGrammar_142 : decode cL_isGrammar 142 = .ok (.iand, 1) := by decide +kernel
theorem dL_isGrammar_143 : decode cL_isGrammar 143 = .ok (.invokevirtual 138, 3) := by decide +kernel
theorem dL_isGrammar_146 : decode cL_isGrammar 146 = .ok (.iconst 1, 1) := by decide +kernel
theorem dL_isGrammar_147 : decode cL_isGrammar 147 = .ok (.ireturn, 1) := by decide +kernel
theorem dL_isGrammar_148 : decode cL_isGrammar 148 = .ok (.iload 4, 2) := by decide +kernel
theorem dL_isGrammar_150 : decode cL_isGrammar 150 = .ok (.iconst 2, 1) := by decide +kernel
theorem dL_isGrammar_151 : decode cL_isGrammar 151 = .ok (.if_icmp .ne 63, 3) := by decide +kernel
theorem dL_isGrammar_154 : decode cL_isGrammar 154 = .ok (.aload_n 3, 1) := by decide +kernel
theorem dL_isGrammar_155 : decode cL_isGrammar 155 = .ok (.iload 6, 2) := by decide +kernel
theorem dL_isGrammar_157 : decode cL_isGrammar 157 = .ok (.aload_n 3, 1) := by decide +kernel
theorem dL_isGrammar_158 : decode cL_isGrammar 158 = .ok (.iload 6, 2) := by decide +kernel
theorem dL_isGrammar_160 : decode cL_isGrammar 160 = .ok (.iaload, 1) := by decide +kernel
theorem dL_isGrammar_161 : decode cL_isGrammar 161 = .ok (.ldc 142, 2) := by decide +kernel
theorem dL_isGrammar_163 : decode cL_isGrammar 163 = .ok (.iand, 1) := by decide +kernel
theorem dL_isGrammar_164 : decode cL_isGrammar 164 = .ok (.iload 5, 2) := by decide +kernel
theorem dL_isGrammar_166 : decode cL_isGrammar 166 = .ok (.iconst 5, 1) := by decide +kernel
theorem dL_isGrammar_167 : decode cL_isGrammar 167 = .ok (.idiv, 1) := by decide +kernel
theorem dL_isGrammar_168 : decode cL_isGrammar 168 = .ok (.iconst 4, 1) := by decide +kernel
theorem dL_isGrammar_169 : decode cL_isGrammar 169 = .ok (.irem, 1) := by decide +kernel
theorem dL_isGrammar_170 : decode cL_isGrammar 170 = .ok (.bipush 20, 2) := by decide +kernel
theorem dL_isGrammar_172 : decode cL_isGrammar 172 = .ok (.ishl, 1) := by decide +kernel
theorem dL_isGrammar_173 : decode cL_isGrammar 173 = .ok (.ior, 1) := by decide +kernel
theorem dL_isGrammar_174 : decode cL_isGrammar 174 = .ok (.iastore, 1) := by decide +kernel
theorem dL_isGrammar_175 : decode cL_isGrammar 175 = .ok (.aload_n 0, 1) := by decide +kernel
theorem dL_isGrammar_176 : decode cL_isGrammar 176 = .ok (.iload 6, 2) := by decide +kernel
theorem dL_isGrammar_178 : decode cL_isGrammar 178 = .ok (.iload 5, 2) := by decide +kernel
theorem dL_isGrammar_180 : decode cL_isGrammar 180 = .ok (.iconst 5, 1) := by decide +kernel
theorem dL_isGrammar_181 : decode cL_isGrammar 181 = .ok (.idiv, 1) := by decide +kernel
theorem dL_isGrammar_182 : decode cL_isGrammar 182 = .ok (.iconst 2, 1) := by decide +kernel
theorem dL_isGrammar_183 : decode cL_isGrammar 183 = .ok (.irem, 1) := by decide +kernel
theorem dL_isGrammar_184 : decode cL_isGrammar 184 = .ok (.iconst 1, 1) := by decide +kernel
theorem dL_isGrammar_185 : decode cL_isGrammar 185 = .ok (.if_icmp .ne 7, 3) := by decide +kernel
theorem dL_isGrammar_188 : decode cL_isGrammar 188 = .ok (.iconst 1, 1) := by decide +kernel
theorem dL_isGrammar_189 : decode cL_isGrammar 189 = .ok (.goto 4, 3) := by decide +kernel
theorem dL_isGrammar_192 : decode cL_isGrammar 192 = .ok (.iconst 0, 1) := by decide +kernel
theorem dL_isGrammar_193 : decode cL_isGrammar 193 = .ok (.iload 5, 2) := by decide +kernel
theorem dL_isGrammar_195 : decode cL_isGrammar 195 = .ok (.bipush 10, 2) := by decide +kernel
theorem dL_isGrammar_197 : decode cL_isGrammar 197 = .ok (.idiv, 1) := by decide +kernel
theorem dL_isGrammar_198 : decode cL_isGrammar 198 = .ok (.iconst 2, 1) := by decide +kernel
theorem dL_isGrammar_199 : decode cL_isGrammar 199 = .ok (.irem, 1) := by decide +kernel
theorem dL_isGrammar_200 : decode cL_isGrammar 200 = .ok (.iconst 1, 1) := by decide +kernel
theorem dL_isGrammar_201 : decode cL_isGrammar 201 = .ok (.if_icmp .ne 7, 3) := by decide +kernel
theorem dL_isGrammar_204 : decode cL_isGrammar 204 = .ok (.iconst 1, 1) := by decide +kernel
theorem dL_isGrammar_205 : decode cL_isGrammar 205 = .ok (.goto 4, 3) := by decide +kernel
theorem dL_isGrammar_208 : decode cL_isGrammar 208 = .ok (.iconst 0, 1) := by decide +kernel
theorem dL_isGrammar_209 : decode cL_isGrammar 209 = .ok (.invokevirtual 143, 3) := by decide +kernel
theorem dL_isGrammar_212 : decode cL_isGrammar 212 = .ok (.iconst 1, 1) := by decide +kernel
theorem dL_isGrammar_213 : decode cL_isGrammar 213 = .ok (.ireturn, 1) := by decide +kernel
theorem dL_isGrammar_214 : decode cL_isGrammar 214 = .ok (.aload_n 2, 1) := by decide +kernel
theorem dL_isGrammar_215 : decode cL_isGrammar 215 = .ok (.iload 6, 2) := by decide +kernel
theorem dL_isGrammar_217 : decode cL_isGrammar 217 = .ok (.iaload, 1) := by decide +kernel
theorem dL_isGrammar_218 : decode cL_isGrammar 218 = .ok (.iconst 4, 1) := by decide +kernel
theorem dL_isGrammar_219 : decode cL_isGrammar 219 = .ok (.if_icmp .ne 5, 3) := by decide +kernel
theorem dL_isGrammar_222 : decode cL_isGrammar 222 = .ok (.iconst 1, 1) := by decide +kernel
theorem dL_isGrammar_223 : decode cL_isGrammar 223 = .ok (.ireturn, 1) := by decide +kernel
theorem dL_isGrammar_224 : decode cL_isGrammar 224 = .ok (.iconst 1, 1) := by decide +kernel
theorem dL_isGrammar_225 : decode cL_isGrammar 225 = .ok (.iload 5, 2) := by decide +kernel
theorem dL_isGrammar_227 : decode cL_isGrammar 227 = .ok (.iconst 5, 1) := by decide +kernel
theorem dL_isGrammar_228 : decode cL_isGrammar 228 = .ok (.idiv, 1) := by decide +kernel
theorem dL_isGrammar_229 : decode cL_isGrammar 229 = .ok (.iconst 5, 1) := by decide +kernel
theorem dL_isGrammar_230 : decode cL_isGrammar 230 = .ok (.irem, 1) := by decide +kernel
theorem dL_isGrammar_231 : decode cL_isGrammar 231 = .ok (.ishl, 1) := by decide +kernel
theorem dL_isGrammar_232 : decode cL_isGrammar 232 = .ok (.iconst 1, 1) := by decide +kernel
theorem dL_isGrammar_233 : decode cL_isGrammar 233 = .ok (.iload 5, 2) := by decide +kernel
theorem dL_isGrammar_235 : decode cL_isGrammar 235 = .ok (.bipush 25, 2) := by decide +kernel
theorem dL_isGrammar_237 : decode cL_isGrammar 237 = .ok (.idiv, 1) := by decide +kernel
theorem dL_isGrammar_238 : decode cL_isGrammar 238 = .ok (.iconst 5, 1) := by decide +kernel
theorem dL_isGrammar_239 : decode cL_isGrammar 239 = .ok (.irem, 1) := by decide +kernel
theorem dL_isGrammar_240 : decode cL_isGrammar 240 = .ok (.ishl, 1) := by decide +kernel
theorem dL_isGrammar_241 : decode cL_isGrammar 241 = .ok (.ior, 1) := by decide +kernel
theorem dL_isGrammar_242 : decode cL_isGrammar 242 = .ok (.iload 5, 2) := by decide +kernel
theorem dL_isGrammar_244 : decode cL_isGrammar 244 = .ok (.bipush 125, 2) := by decide +kernel
theorem dL_isGrammar_246 : decode cL_isGrammar 246 = .ok (.idiv, 1) := by decide +kernel
theorem dL_isGrammar_247 : decode cL_isGrammar 247 = .ok (.iconst 3, 1) := by decide +kernel
theorem dL_isGrammar_248 : decode cL_isGrammar 248 = .ok (.irem, 1) := by decide +kernel
theorem dL_isGrammar_249 : decode cL_isGrammar 249 = .ok (.ifCond .ne 7, 3) := by decide +kernel
theorem dL_isGrammar_252 : decode cL_isGrammar 252 = .ok (.iconst 0, 1) := by decide +kernel
theorem dL_isGrammar_253 : decode cL_isGrammar 253 = .ok (.goto 5, 3) := by decide +kernel
theorem dL_isGrammar_256 : decode cL_isGrammar 256 = .ok (.bipush 31, 2) := by decide +kernel
theorem dL_isGrammar_258 : decode cL_isGrammar 258 = .ok (.iand, 1) := by decide +kernel
theorem dL_isGrammar_259 : decode cL_isGrammar 259 = .ok (.istore 7, 2) := by decide +kernel
theorem dL_isGrammar_261 : decode cL_isGrammar 261 = .ok (.iload 7, 2) := by decide +kernel
theorem dL_isGrammar_263 : decode cL_isGrammar 263 = .ok (.ifCond .eq 14, 3) := by decide +kernel
theorem dL_isGrammar_266 : decode cL_isGrammar 266 = .ok (.iload 5, 2) := by decide +kernel
theorem dL_isGrammar_268 : decode cL_isGrammar 268 = .ok (.sipush 375, 3) := by decide +kernel
theorem dL_isGrammar_271 : decode cL_isGrammar 271 = .ok (.idiv, 1) := by decide +kernel
theorem dL_isGrammar_272 : decode cL_isGrammar 272 = .ok (.iconst 4, 1) := by decide +kernel
theorem dL_isGrammar_273 : decode cL_isGrammar 273 = .ok (.irem, 1) := by decide +kernel
theorem dL_isGrammar_274 : decode cL_isGrammar 274 = .ok (.ifCond .ne 7, 3) := by decide +kernel
theorem dL_isGrammar_277 : decode cL_isGrammar 277 = .ok (.iconst 1, 1) := by decide +kernel
theorem dL_isGrammar_278 : decode cL_isGrammar 278 = .ok (.goto 4, 3) := by decide +kernel
theorem dL_isGrammar_281 : decode cL_isGrammar 281 = .ok (.iconst 0, 1) := by decide +kernel
theorem dL_isGrammar_282 : decode cL_isGrammar 282 = .ok (.istore 8, 2) := by decide +kernel
theorem dL_isGrammar_284 : decode cL_isGrammar 284 = .ok (.aload_n 1, 1) := by decide +kernel
theorem dL_isGrammar_285 : decode cL_isGrammar 285 = .ok (.iconst 4, 1) := by decide +kernel
theorem dL_isGrammar_286 : decode cL_isGrammar 286 = .ok (.iload 6, 2) := by decide +kernel
theorem dL_isGrammar_288 : decode cL_isGrammar 288 = .ok (.imul, 1) := by decide +kernel
theorem dL_isGrammar_289 : decode cL_isGrammar 289 = .ok (.aload_n 2, 1) := by decide +kernel
theorem dL_isGrammar_290 : decode cL_isGrammar 290 = .ok (.iload 6, 2) := by decide +kernel
theorem dL_isGrammar_292 : decode cL_isGrammar 292 = .ok (.iaload, 1) := by decide +kernel
theorem dL_isGrammar_293 : decode cL_isGrammar 293 = .ok (.iadd, 1) := by decide +kernel
theorem dL_isGrammar_294 : decode cL_isGrammar 294 = .ok (.iload 7, 2) := by decide +kernel
theorem dL_isGrammar_296 : decode cL_isGrammar 296 = .ok (.iload 8, 2) := by decide +kernel
theorem dL_isGrammar_298 : decode cL_isGrammar 298 = .ok (.ifCond .eq 9, 3) := by decide +kernel
theorem dL_isGrammar_301 : decode cL_isGrammar 301 = .ok (.sipush 1024, 3) := by decide +kernel
theorem dL_isGrammar_304 : decode cL_isGrammar 304 = .ok (.goto 4, 3) := by decide +kernel
theorem dL_isGrammar_307 : decode cL_isGrammar 307 = .ok (.iconst 0, 1) := by decide +kernel
theorem dL_isGrammar_308 : decode cL_isGrammar 308 = .ok (.iadd, 1) := by decide +kernel
theorem dL_isGrammar_309 : decode cL_isGrammar 309 = .ok (.sipush 2048, 3) := by decide +kernel
theorem dL_isGrammar_312 : decode cL_isGrammar 312 = .ok (.iload 5, 2) := by decide +kernel
theorem dL_isGrammar_314 : decode cL_isGrammar 314 = .ok (.sipush 1500, 3) := by decide +kernel
theorem dL_isGrammar_317 : decode cL_isGrammar 317 = .ok (.idiv, 1) := by decide +kernel
theorem dL_isGrammar_318 : decode cL_isGrammar 318 = .ok (.iconst 4, 1) := by decide +kernel
theorem dL_isGrammar_319 : decode cL_isGrammar 319 = .ok (.irem, 1) := by decide +kernel
theorem dL_isGrammar_320 : decode cL_isGrammar 320 = .ok (.imul, 1) := by decide +kernel
theorem dL_isGrammar_321 : decode cL_isGrammar 321 = .ok (.iadd, 1) := by decide +kernel
theorem dL_isGrammar_322 : decode cL_isGrammar 322 = .ok (.iastore, 1) := by decide +kernel
theorem dL_isGrammar_323 : decode cL_isGrammar 323 = .ok (.aload_n 1, 1) := by decide +kernel
theorem dL_isGrammar_324 : decode cL_isGrammar 324 = .ok (.aload_n 2, 1) := by decide +kernel
theorem dL_isGrammar_325 : decode cL_isGrammar 325 = .ok (.iload 6, 2) := by decide +kernel
theorem dL_isGrammar_327 : decode cL_isGrammar 327 = .ok (.iaload, 1) := by decide +kernel
theorem dL_isGrammar_328 : decode cL_isGrammar 328 = .ok (.iconst 1, 1) := by decide +kernel
theorem dL_isGrammar_329 : decode cL_isGrammar 329 = .ok (.iadd, 1) := by decide +kernel
theorem dL_isGrammar_330 : decode cL_isGrammar 330 = .ok (.iload 6, 2) := by decide +kernel
theorem dL_isGrammar_332 : decode cL_isGrammar 332 = .ok (.invokestatic 147, 3) := by decide +kernel
theorem dL_isGrammar_335 : decode cL_isGrammar 335 = .ok (.istore 9, 2) := by decide +kernel
theorem dL_isGrammar_337 : decode cL_isGrammar 337 = .ok (.aload_n 2, 1) := by decide +kernel
theorem dL_isGrammar_338 : decode cL_isGrammar 338 = .ok (.iload 6, 2) := by decide +kernel
theorem dL_isGrammar_340 : decode cL_isGrammar 340 = .ok (.dup2, 1) := by decide +kernel
theorem dL_isGrammar_341 : decode cL_isGrammar 341 = .ok (.iaload, 1) := by decide +kernel
theorem dL_isGrammar_342 : decode cL_isGrammar 342 = .ok (.iload 9, 2) := by decide +kernel
theorem dL_isGrammar_344 : decode cL_isGrammar 344 = .ok (.ifCond .ge 7, 3) := by decide +kernel
theorem dL_isGrammar_347 : decode cL_isGrammar 347 = .ok (.iconst 1, 1) := by decide +kernel
theorem dL_isGrammar_348 : decode cL_isGrammar 348 = .ok (.goto 4, 3) := by decide +kernel
theorem dL_isGrammar_351 : decode cL_isGrammar 351 = .ok (.iconst 0, 1) := by decide +kernel
theorem dL_isGrammar_352 : decode cL_isGrammar 352 = .ok (.iadd, 1) := by decide +kernel
theorem dL_isGrammar_353 : decode cL_isGrammar 353 = .ok (.iastore, 1) := by decide +kernel
theorem dL_isGrammar_354 : decode cL_isGrammar 354 = .ok (.aload_n 0, 1) := by decide +kernel
theorem dL_isGrammar_355 : decode cL_isGrammar 355 = .ok (.iload 6, 2) := by decide +kernel
theorem dL_isGrammar_357 : decode cL_isGrammar 357 = .ok (.iload 7, 2) := by decide +kernel
theorem dL_isGrammar_359 : decode cL_isGrammar 359 = .ok (.iload 8, 2) := by decide +kernel
theorem dL_isGrammar_361 : decode cL_isGrammar 361 = .ok (.iload 5, 2) := by decide +kernel
theorem dL_isGrammar_363 : decode cL_isGrammar 363 = .ok (.sipush 1500, 3) := by decide +kernel
theorem dL_isGrammar_366 : decode cL_isGrammar 366 = .ok (.idiv, 1) := by decide +kernel
theorem dL_isGrammar_367 : decode cL_isGrammar 367 = .ok (.iconst 4, 1) := by decide +kernel
theorem dL_isGrammar_368 : decode cL_isGrammar 368 = .ok (.irem, 1) := by decide +kernel
theorem dL_isGrammar_369 : decode cL_isGrammar 369 = .ok (.invokestatic 151, 3) := by decide +kernel
theorem dL_isGrammar_372 : decode cL_isGrammar 372 = .ok (.iload 9, 2) := by decide +kernel
theorem dL_isGrammar_374 : decode cL_isGrammar 374 = .ok (.if_icmp .ne 7, 3) := by decide +kernel
theorem dL_isGrammar_377 : decode cL_isGrammar 377 = .ok (.iconst 1, 1) := by decide +kernel
theorem dL_isGrammar_378 : decode cL_isGrammar 378 = .ok (.goto 4, 3) := by decide +kernel
theorem dL_isGrammar_381 : decode cL_isGrammar 381 = .ok (.iconst 0, 1) := by decide +kernel
theorem dL_isGrammar_382 : decode cL_isGrammar 382 = .ok (.ireturn, 1) := by decide +kernel
theorem dL_drawn_0 : decode cL_drawn 0 = .ok (.iload_n 0, 1) := by decide +kernel
theorem dL_drawn_1 : decode cL_drawn 1 = .ok (.bipush 16, 2) := by decide +kernel
theorem dL_drawn_3 : decode cL_drawn 3 = .ok (.irem, 1) := by decide +kernel
theorem dL_drawn_4 : decode cL_drawn 4 = .ok (.iconst 5, 1) := by decide +kernel
theorem dL_drawn_5 : decode cL_drawn 5 = .ok (.if_icmp .ge 7, 3) := by decide +kernel
theorem dL_drawn_8 : decode cL_drawn 8 = .ok (.iconst 0, 1) := by decide +kernel
theorem dL_drawn_9 : decode cL_drawn 9 = .ok (.goto 17, 3) := by decide +kernel
theorem dL_drawn_12 : decode cL_drawn 12 = .ok (.iload_n 0, 1) := by decide +kernel
theorem dL_drawn_13 : decode cL_drawn 13 = .ok (.bipush 16, 2) := by decide +kernel
theorem dL_drawn_15 : decode cL_drawn 15 = .ok (.irem, 1) := by decide +kernel
theorem dL_drawn_16 : decode cL_drawn 16 = .ok (.bipush 8, 2) := by decide +kernel
theorem dL_drawn_18 : decode cL_drawn 18 = .ok (.if_icmp .ge 7, 3) := by decide +kernel
theorem dL_drawn_21 : decode cL_drawn 21 = .ok (.iconst 1, 1) := by decide +kernel
theorem dL_drawn_22 : decode cL_drawn 22 = .ok (.goto 4, 3) := by decide +kernel
theorem dL_drawn_25 : decode cL_drawn 25 = .ok (.iconst 4, 1) := by decide +kernel
theorem dL_drawn_26 : decode cL_drawn 26 = .ok (.istore_n 1, 1) := by decide +kernel
theorem dL_drawn_27 : decode cL_drawn 27 = .ok (.iload_n 0, 1) := by decide +kernel
theorem dL_drawn_28 : decode cL_drawn 28 = .ok (.bipush 16, 2) := by decide +kernel
theorem dL_drawn_30 : decode cL_drawn 30 = .ok (.irem, 1) := by decide +kernel
theorem dL_drawn_31 : decode cL_drawn 31 = .ok (.bipush 11, 2) := by decide +kernel
theorem dL_drawn_33 : decode cL_drawn 33 = .ok (.if_icmp .ne 7, 3) := by decide +kernel
theorem dL_drawn_36 : decode cL_drawn 36 = .ok (.iconst 2, 1) := by decide +kernel
theorem dL_drawn_37 : decode cL_drawn 37 = .ok (.goto 65, 3) := by decide +kernel
theorem dL_drawn_40 : decode cL_drawn 40 = .ok (.iload_n 0, 1) := by decide +kernel
theorem dL_drawn_41 : decode cL_drawn 41 = .ok (.bipush 16, 2) := by decide +kernel
theorem dL_drawn_43 : decode cL_drawn 43 = .ok (.irem, 1) := by decide +kernel
theorem dL_drawn_44 : decode cL_drawn 44 = .ok (.bipush 12, 2) := by decide +kernel
theorem dL_drawn_46 : decode cL_drawn 46 = .ok (.if_icmp .ne 7, 3) := by decide +kernel
theorem dL_drawn_49 : decode cL_drawn 49 = .ok (.iconst 3, 1) := by decide +kernel
theorem dL_drawn_50 : decode cL_drawn 50 = .ok (.goto 52, 3) := by decide +kernel
theorem dL_drawn_53 : decode cL_drawn 53 = .ok (.iload_n 0, 1) := by decide +kernel
theorem dL_drawn_54 : decode cL_drawn 54 = .ok (.bipush 16, 2) := by decide +kernel
theorem dL_drawn_56 : decode cL_drawn 56 = .ok (.irem, 1) := by decide +kernel
theorem dL_drawn_57 : decode cL_drawn 57 = .ok (.bipush 13, 2) := by decide +kernel
theorem dL_drawn_59 : decode cL_drawn 59 = .ok (.if_icmp .ne 7, 3) := by decide +kernel
theorem dL_drawn_62 : decode cL_drawn 62 = .ok (.iconst 5, 1) := by decide +kernel
theorem dL_drawn_63 : decode cL_drawn 63 = .ok (.goto 39, 3) := by decide +kernel
theorem dL_drawn_66 : decode cL_drawn 66 = .ok (.iload_n 0, 1) := by decide +kernel
theorem dL_drawn_67 : decode cL_drawn 67 = .ok (.bipush 16, 2) := by decide +kernel
theorem dL_drawn_69 : decode cL_drawn 69 = .ok (.irem, 1) := by decide +kernel
theorem dL_drawn_70 : decode cL_drawn 70 = .ok (.bipush 14, 2) := by decide +kernel
theorem dL_drawn_72 : decode cL_drawn 72 = .ok (.if_icmp .ne 8, 3) := by decide +kernel
theorem dL_drawn_75 : decode cL_drawn 75 = .ok (.bipush 6, 2) := by decide +kernel
theorem dL_drawn_77 : decode cL_drawn 77 = .ok (.goto 25, 3) := by decide +kernel
theorem dL_drawn_80 : decode cL_drawn 80 = .ok (.iload_n 0, 1) := by decide +kernel
theorem dL_drawn_81 : decode cL_drawn 81 = .ok (.bipush 16, 2) := by decide +kernel
theorem dL_drawn_83 : decode cL_drawn 83 = .ok (.irem, 1) := by decide +kernel
theorem dL_drawn_84 : decode cL_drawn 84 = .ok (.bipush 15, 2) := by decide +kernel
theorem dL_drawn_86 : decode cL_drawn 86 = .ok (.if_icmp .ne 15, 3) := by decide +kernel
theorem dL_drawn_89 : decode cL_drawn 89 = .ok (.bipush 7, 2) := by decide +kernel
theorem dL_drawn_91 : decode cL_drawn 91 = .ok (.iload_n 0, 1) := by decide +kernel
theorem dL_drawn_92 : decode cL_drawn 92 = .ok (.bipush 16, 2) := by decide +kernel
theorem dL_drawn_94 : decode cL_drawn 94 = .ok (.idiv, 1) := by decide +kernel
theorem dL_drawn_95 : decode cL_drawn 95 = .ok (.iconst 2, 1) := by decide +kernel
theorem dL_drawn_96 : decode cL_drawn 96 = .ok (.irem, 1) := by decide +kernel
theorem dL_drawn_97 : decode cL_drawn 97 = .ok (.iadd, 1) := by decide +kernel
theorem dL_drawn_98 : decode cL_drawn 98 = .ok (.goto 4, 3) := by decide +kernel
theorem dL_drawn_101 : decode cL_drawn 101 = .ok (.iload_n 1, 1) := by decide +kernel
theorem dL_drawn_102 : decode cL_drawn 102 = .ok (.istore_n 1, 1) := by decide +kernel
theorem dL_drawn_103 : decode cL_drawn 103 = .ok (.iload_n 1, 1) := by decide +kernel
theorem dL_drawn_104 : decode cL_drawn 104 = .ok (.iconst 2, 1) := by decide +kernel
theorem dL_drawn_105 : decode cL_drawn 105 = .ok (.if_icmp .ge 12, 3) := by decide +kernel
theorem dL_drawn_108 : decode cL_drawn 108 = .ok (.iload_n 0, 1) := by decide +kernel
theorem dL_drawn_109 : decode cL_drawn 109 = .ok (.bipush 32, 2) := by decide +kernel
theorem dL_drawn_111 : decode cL_drawn 111 = .ok (.idiv, 1) := by decide +kernel
theorem dL_drawn_112 : decode cL_drawn 112 = .ok (.iconst 5, 1) := by decide +kernel
theorem dL_drawn_113 : decode cL_drawn 113 = .ok (.irem, 1) := by decide +kernel
theorem dL_drawn_114 : decode cL_drawn 114 = .ok (.goto 42, 3) := by decide +kernel
theorem dL_drawn_117 : decode cL_drawn 117 = .ok (.iload_n 1, 1) := by decide +kernel
theorem dL_drawn_118 : decode cL_drawn 118 = .ok (.iconst 4, 1) := by decide +kernel
theorem dL_drawn_119 : decode cL_drawn 119 = .ok (.if_icmp .ne 15, 3) := by decide +kernel
theorem dL_drawn_122 : decode cL_drawn 122 = .ok (.bipush 97, 2) := by decide +kernel
theorem dL_drawn_124 : decode cL_drawn 124 = .ok (.iload_n 0, 1) := by decide +kernel
theorem dL_drawn_125 : decode cL_drawn 125 = .ok (.bipush 32, 2) := by decide +kernel
theorem dL_drawn_127 : decode cL_drawn 127 = .ok (.idiv, 1) := by decide +kernel
theorem dL_drawn_128 : decode cL_drawn 128 = .ok (.iconst 3, 1) := by decide +kernel
theorem dL_drawn_129 : decode cL_drawn 129 = .ok (.irem, 1) := by decide +kernel
theorem dL_drawn_130 : decode cL_drawn 130 = .ok (.iadd, 1) := by decide +kernel
theorem dL_drawn_131 : decode cL_drawn 131 = .ok (.goto 25, 3) := by decide +kernel
theorem dL_drawn_134 : decode cL_drawn 134 = .ok (.iload_n 1, 1) := by decide +kernel
theorem dL_drawn_135 : decode cL_drawn 135 = .ok (.bipush 6, 2) := by decide +kernel
theorem dL_drawn_137 : decode cL_drawn 137 = .ok (.if_icmp .eq 9, 3) := by decide +kernel
theorem dL_drawn_140 : decode cL_drawn 140 = .ok (.iload_n 1, 1) := by decide +kernel
theorem dL_drawn_141 : decode cL_drawn 141 = .ok (.bipush 7, 2) := by decide +kernel
theorem dL_drawn_143 : decode cL_drawn 143 = .ok (.if_icmp .ne 12, 3) := by decide +kernel
theorem dL_drawn_146 : decode cL_drawn 146 = .ok (.iload_n 0, 1) := by decide +kernel
theorem dL_drawn_147 : decode cL_drawn 147 = .ok (.bipush 32, 2) := by decide +kernel
theorem dL_drawn_149 : decode cL_drawn 149 = .ok (.idiv, 1) := by decide +kernel
theorem dL_drawn_150 : decode cL_drawn 150 = .ok (.iconst 2, 1) := by decide +kernel
theorem dL_drawn_151 : decode cL_drawn 151 = .ok (.irem, 1) := by decide +kernel
theorem dL_drawn_152 : decode cL_drawn 152 = .ok (.goto 4, 3) := by decide +kernel
theorem dL_drawn_155 : decode cL_drawn 155 = .ok (.iconst 0, 1) := by decide +kernel
theorem dL_drawn_156 : decode cL_drawn 156 = .ok (.istore_n 2, 1) := by decide +kernel
theorem dL_drawn_157 : decode cL_drawn 157 = .ok (.sipush 128, 3) := by decide +kernel
theorem dL_drawn_160 : decode cL_drawn 160 = .ok (.iload_n 1, 1) := by decide +kernel
theorem dL_drawn_161 : decode cL_drawn 161 = .ok (.imul, 1) := by decide +kernel
theorem dL_drawn_162 : decode cL_drawn 162 = .ok (.iload_n 2, 1) := by decide +kernel
theorem dL_drawn_163 : decode cL_drawn 163 = .ok (.iadd, 1) := by decide +kernel
theorem dL_drawn_164 : decode cL_drawn 164 = .ok (.ireturn, 1) := by decide +kernel
theorem dL_isEdited_0 : decode cL_isEdited 0 = .ok (.iload_n 3, 1) := by decide +kernel
theorem dL_isEdited_1 : decode cL_isEdited 1 = .ok (.bipush 32, 2) := by decide +kernel
theorem dL_isEdited_3 : decode cL_isEdited 3 = .ok (.idiv, 1) := by decide +kernel
theorem dL_isEdited_4 : decode cL_isEdited 4 = .ok (.invokestatic 154, 3) := by decide +kernel
theorem dL_isEdited_7 : decode cL_isEdited 7 = .ok (.istore 4, 2) := by decide +kernel
theorem dL_isEdited_9 : decode cL_isEdited 9 = .ok (.iload_n 3, 1) := by decide +kernel
theorem dL_isEdited_10 : decode cL_isEdited 10 = .ok (.aload_n 1, 1) := by decide +kernel
theorem dL_isEdited_11 : decode cL_isEdited 11 = .ok (.bipush 20, 2) := by decide +kernel
theorem dL_isEdited_13 : decode cL_isEdited 13 = .ok (.iaload, 1) := by decide +kernel
theorem dL_isEdited_14 : decode cL_isEdited 14 = .ok (.iload_n 2, 1) := by decide +kernel
theorem dL_isEdited_15 : decode cL_isEdited 15 = .ok (.ifCond .eq 7, 3) := by decide +kernel
theorem dL_isEdited_18 : decode cL_isEdited 18 = .ok (.iconst 1, 1) := by decide +kernel
theorem dL_isEdited_19 : decode cL_isEdited 19 = .ok (.goto 4, 3) := by decide +kernel
theorem dL_isEdited_22 : decode cL_isEdited 22 = .ok (.iconst 0, 1) := by decide +kernel
theorem dL_isEdited_23 : decode cL_isEdited 23 = .ok (.iadd, 1) := by decide +kernel
theorem dL_isEdited_24 : decode cL_isEdited 24 = .ok (.irem, 1) := by decide +kernel
theorem dL_isEdited_25 : decode cL_isEdited 25 = .ok (.istore 5, 2) := by decide +kernel
theorem dL_isEdited_27 : decode cL_isEdited 27 = .ok (.iload_n 2, 1) := by decide +kernel
theorem dL_isEdited_28 : decode cL_isEdited 28 = .ok (.ifCond .eq 77, 3) := by decide +kernel
theorem dL_isEdited_31 : decode cL_isEdited 31 = .ok (.aload_n 1, 1) := by decide +kernel
theorem dL_isEdited_32 : decode cL_isEdited 32 = .ok (.bipush 20, 2) := by decide +kernel
theorem dL_isEdited_34 : decode cL_isEdited 34 = .ok (.iaload, 1) := by decide +kernel
theorem dL_isEdited_35 : decode cL_isEdited 35 = .ok (.istore 6, 2) := by decide +kernel
theorem dL_isEdited_37 : decode cL_isEdited 37 = .ok (.iload 6, 2) := by decide +kernel
theorem dL_isEdited_39 : decode cL_isEdited 39 = .ok (.iload 5, 2) := by decide +kernel
theorem dL_isEdited_41 : decode cL_isEdited 41 = .ok (.if_icmp .le 19, 3) := by decide +kernel
theorem dL_isEdited_44 : decode cL_isEdited 44 = .ok (.aload_n 1, 1) := by decide +kernel
theorem dL_isEdited_45 : decode cL_isEdited 45 = .ok (.iload 6, 2) := by decide +kernel
theorem dL_isEdited_47 : decode cL_isEdited 47 = .ok (.aload_n 1, 1) := by decide +kernel
theorem dL_isEdited_48 : decode cL_isEdited 48 = .ok (.iload 6, 2) := by decide +kernel
theorem dL_isEdited_50 : decode cL_isEdited 50 = .ok (.iconst 1, 1) := by decide +kernel
theorem dL_isEdited_51 : decode cL_isEdited 51 = .ok (.isub, 1) := by decide +kernel
theorem dL_isEdited_52 : decode cL_isEdited 52 = .ok (.iaload, 1) := by decide +kernel
theorem dL_isEdited_53 : decode cL_isEdited 53 = .ok (.iastore, 1) := by decide +kernel
theorem dL_isEdited_54 : decode cL_isEdited 54 = .ok (.iinc 6 (-1), 3) := by decide +kernel
theorem dL_isEdited_57 : decode cL_isEdited 57 = .ok (.goto (-20), 3) := by decide +kernel
theorem dL_isEdited_60 : decode cL_isEdited 60 = .ok (.aload_n 1, 1) := by decide +kernel
theorem dL_isEdited_61 : decode cL_isEdited 61 = .ok (.iload 5, 2) := by decide +kernel
theorem dL_isEdited_63 : decode cL_isEdited 63 = .ok (.iload 4, 2) := by decide +kernel
theorem dL_isEdited_65 : decode cL_isEdited 65 = .ok (.iastore, 1) := by decide +kernel
theorem dL_isEdited_66 : decode cL_isEdited 66 = .ok (.aload_n 1, 1) := by decide +kernel
theorem dL_isEdited_67 : decode cL_isEdited 67 = .ok (.bipush 20, 2) := by decide +kernel
theorem dL_isEdited_69 : decode cL_isEdited 69 = .ok (.dup2, 1) := by decide +kernel
theorem dL_isEdited_70 : decode cL_isEdited 70 = .ok (.iaload, 1) := by decide +kernel
theorem dL_isEdited_71 : decode cL_isEdited 71 = .ok (.iconst 1, 1) := by decide +kernel
theorem dL_isEdited_72 : decode cL_isEdited 72 = .ok (.iadd, 1) := by decide +kernel
theorem dL_isEdited_73 : decode cL_isEdited 73 = .ok (.iastore, 1) := by decide +kernel
theorem dL_isEdited_74 : decode cL_isEdited 74 = .ok (.aload_n 0, 1) := by decide +kernel
theorem dL_isEdited_75 : decode cL_isEdited 75 = .ok (.iload 5, 2) := by decide +kernel
theorem dL_isEdited_77 : decode cL_isEdited 77 = .ok (.iload 4, 2) := by decide +kernel
theorem dL_isEdited_79 : decode cL_isEdited 79 = .ok (.sipush 128, 3) := by decide +kernel
theorem dL_isEdited_82 : decode cL_isEdited 82 = .ok (.idiv, 1) := by decide +kernel
theorem dL_isEdited_83 : decode cL_isEdited 83 = .ok (.iload 4, 2) := by decide +kernel
theorem dL_isEdited_85 : decode cL_isEdited 85 = .ok (.sipush 128, 3) := by decide +kernel
theorem dL_isEdited_88 : decode cL_isEdited 88 = .ok (.irem, 1) := by decide +kernel
theorem dL_isEdited_89 : decode cL_isEdited 89 = .ok (.invokevirtual 157, 3) := by decide +kernel
theorem dL_isEdited_92 : decode cL_isEdited 92 = .ok (.aload_n 1, 1) := by decide +kernel
theorem dL_isEdited_93 : decode cL_isEdited 93 = .ok (.bipush 20, 2) := by decide +kernel
theorem dL_isEdited_95 : decode cL_isEdited 95 = .ok (.iaload, 1) := by decide +kernel
theorem dL_isEdited_96 : decode cL_isEdited 96 = .ok (.if_icmp .ne 7, 3) := by decide +kernel
theorem dL_isEdited_99 : decode cL_isEdited 99 = .ok (.iconst 1, 1) := by decide +kernel
theorem dL_isEdited_100 : decode cL_isEdited 100 = .ok (.goto 4, 3) := by decide +kernel
theorem dL_isEdited_103 : decode cL_isEdited 103 = .ok (.iconst 0, 1) := by decide +kernel
theorem dL_isEdited_104 : decode cL_isEdited 104 = .ok (.ireturn, 1) := by decide +kernel
theorem dL_isEdited_105 : decode cL_isEdited 105 = .ok (.iload 5, 2) := by decide +kernel
theorem dL_isEdited_107 : decode cL_isEdited 107 = .ok (.istore 6, 2) := by decide +kernel
theorem dL_isEdited_109 : decode cL_isEdited 109 = .ok (.iload 6, 2) := by decide +kernel
theorem dL_isEdited_111 : decode cL_isEdited 111 = .ok (.iconst 1, 1) := by decide +kernel
theorem dL_isEdited_112 : decode cL_isEdited 112 = .ok (.iadd, 1) := by decide +kernel
theorem dL_isEdited_113 : decode cL_isEdited 113 = .ok (.aload_n 1, 1) := by decide +kernel
theorem dL_isEdited_114 : decode cL_isEdited 114 = .ok (.bipush 20, 2) := by decide +kernel
theorem dL_isEdited_116 : decode cL_isEdited 116 = .ok (.iaload, 1) := by decide +kernel
theorem dL_isEdited_117 : decode cL_isEdited 117 = .ok (.if_icmp .ge 19, 3) := by decide +kernel
theorem dL_isEdited_120 : decode cL_isEdited 120 = .ok (.aload_n 1, 1) := by decide +kernel
theorem dL_isEdited_121 : decode cL_isEdited 121 = .ok (.iload 6, 2) := by decide +kernel
theorem dL_isEdited_123 : decode cL_isEdited 123 = .ok (.aload_n 1, 1) := by decide +kernel
theorem dL_isEdited_124 : decode cL_isEdited 124 = .ok (.iload 6, 2) := by decide +kernel
theorem dL_isEdited_126 : decode cL_isEdited 126 = .ok (.iconst 1, 1) := by decide +kernel
theorem dL_isEdited_127 : decode cL_isEdited 127 = .ok (.iadd, 1) := by decide +kernel
theorem dL_isEdited_128 : decode cL_isEdited 128 = .ok (.iaload, 1) := by decide +kernel
theorem dL_isEdited_129 : decode cL_isEdited 129 = .ok (.iastore, 1) := by decide +kernel
theorem dL_isEdited_130 : decode cL_isEdited 130 = .ok (.iinc 6 1, 3) := by decide +kernel
theorem dL_isEdited_133 : decode cL_isEdited 133 = .ok (.goto (-24), 3) := by decide +kernel
theorem dL_isEdited_136 : decode cL_isEdited 136 = .ok (.aload_n 1, 1) := by decide +kernel
theorem dL_isEdited_137 : decode cL_isEdited 137 = .ok (.bipush 20, 2) := by decide +kernel
theorem dL_isEdited_139 : decode cL_isEdited 139 = .ok (.dup2, 1) := by decide +kernel
theorem dL_isEdited_140 : decode cL_isEdited 140 = .ok (.iaload, 1) := by decide +kernel
theorem dL_isEdited_141 : decode cL_isEdited 141 = .ok (.iconst 1, 1) := by decide +kernel
theorem dL_isEdited_142 : decode cL_isEdited 142 = .ok (.isub, 1) := by decide +kernel
theorem dL_isEdited_143 : decode cL_isEdited 143 = .ok (.iastore, 1) := by decide +kernel
theorem dL_isEdited_144 : decode cL_isEdited 144 = .ok (.aload_n 0, 1) := by decide +kernel
theorem dL_isEdited_145 : decode cL_isEdited 145 = .ok (.iload 5, 2) := by decide +kernel
theorem dL_isEdited_147 : decode cL_isEdited 147 = .ok (.invokevirtual 161, 3) := by decide +kernel
theorem dL_isEdited_150 : decode cL_isEdited 150 = .ok (.aload_n 1, 1) := by decide +kernel
theorem dL_isEdited_151 : decode cL_isEdited 151 = .ok (.bipush 20, 2) := by decide +kernel
theorem dL_isEdited_153 : decode cL_isEdited 153 = .ok (.iaload, 1) := by decide +kernel
theorem dL_isEdited_154 : decode cL_isEdited 154 = .ok (.if_icmp .ne 7, 3) := by decide +kernel
theorem dL_isEdited_157 : decode cL_isEdited 157 = .ok (.iconst 1, 1) := by decide +kernel
theorem dL_isEdited_158 : decode cL_isEdited 158 = .ok (.goto 4, 3) := by decide +kernel
theorem dL_isEdited_161 : decode cL_isEdited 161 = .ok (.iconst 0, 1) := by decide +kernel
theorem dL_isEdited_162 : decode cL_isEdited 162 = .ok (.ireturn, 1) := by decide +kernel
theorem dL_anew_0 : decode cL_anew 0 = .ok (.iload_n 3, 1) := by decide +kernel
theorem dL_anew_1 : decode cL_anew 1 = .ok (.ifCond .le 22, 3) := by decide +kernel
theorem dL_anew_4 : decode cL_anew 4 = .ok (.aload_n 0, 1) := by decide +kernel
theorem dL_anew_5 : decode cL_anew 5 = .ok (.iload_n 3, 1) := by decide +kernel
theorem dL_anew_6 : decode cL_anew 6 = .ok (.iconst 1, 1) := by decide +kernel
theorem dL_anew_7 : decode cL_anew 7 = .ok (.isub, 1) := by decide +kernel
theorem dL_anew_8 : decode cL_anew 8 = .ok (.iaload, 1) := by decide +kernel
theorem dL_anew_9 : decode cL_anew 9 = .ok (.sipush 128, 3) := by decide +kernel
theorem dL_anew_12 : decode cL_anew 12 = .ok (.idiv, 1) := by decide +kernel
theorem dL_anew_13 : decode cL_anew 13 = .ok (.iconst 5, 1) := by decide +kernel
theorem dL_anew_14 : decode cL_anew 14 = .ok (.if_icmp .ne 9, 3) := by decide +kernel
theorem dL_anew_17 : decode cL_anew 17 = .ok (.iload_n 3, 1) := by decide +kernel
theorem dL_anew_18 : decode cL_anew 18 = .ok (.iconst 1, 1) := by decide +kernel
theorem dL_anew_19 : decode cL_anew 19 = .ok (.isub, 1) := by decide +kernel
theorem dL_anew_20 : decode cL_anew 20 = .ok (.goto 4, 3) := by decide +kernel
theorem dL_anew_23 : decode cL_anew 23 = .ok (.iload_n 3, 1) := by decide +kernel
theorem dL_anew_24 : decode cL_anew 24 = .ok (.istore 5, 2) := by decide +kernel
theorem dL_anew_26 : decode cL_anew 26 = .ok (.iload 4, 2) := by decide +kernel
theorem dL_anew_28 : decode cL_anew 28 = .ok (.ifCond .le 9, 3) := by decide +kernel
theorem dL_anew_31 : decode cL_anew 31 = .ok (.iload_n 3, 1) := by decide +kernel
theorem dL_anew_32 : decode cL_anew 32 = .ok (.iconst 1, 1) := by decide +kernel
theorem dL_anew_33 : decode cL_anew 33 = .ok (.iadd, 1) := by decide +kernel
theorem dL_anew_34 : decode cL_anew 34 = .ok (.goto 4, 3) := by decide +kernel
theorem dL_anew_37 : decode cL_anew 37 = .ok (.iload_n 3, 1) := by decide +kernel
theorem dL_anew_38 : decode cL_anew 38 = .ok (.istore 6, 2) := by decide +kernel
theorem dL_anew_40 : decode cL_anew 40 = .ok (.iload 6, 2) := by decide +kernel
theorem dL_anew_42 : decode cL_anew 42 = .ok (.iload 6, 2) := by decide +kernel
theorem dL_anew_44 : decode cL_anew 44 = .ok (.aload_n 0, 1) := by decide +kernel
theorem dL_anew_45 : decode cL_anew 45 = .ok (.bipush 20, 2) := by decide +kernel
theorem dL_anew_47 : decode cL_anew 47 = .ok (.iaload, 1) := by decide +kernel
theorem dL_anew_48 : decode cL_anew 48 = .ok (.if_icmp .ge 19, 3) := by decide +kernel
theorem dL_anew_51 : decode cL_anew 51 = .ok (.aload_n 0, 1) := by decide +kernel
theorem dL_anew_52 : decode cL_anew 52 = .ok (.iload 6, 2) := by decide +kernel
theorem dL_anew_54 : decode cL_anew 54 = .ok (.iaload, 1) := by decide +kernel
theorem dL_anew_55 : decode cL_anew 55 = .ok (.sipush 128, 3) := by decide +kernel
theorem dL_anew_58 : decode cL_anew 58 = .ok (.idiv, 1) := by decide +kernel
theorem dL_anew_59 : decode cL_anew 59 = .ok (.iconst 5, 1) := by decide +kernel
theorem dL_anew_60 : decode cL_anew 60 = .ok (.if_icmp .ne 7, 3) := by decide +kernel
theorem dL_anew_63 : decode cL_anew 63 = .ok (.iconst 1, 1) := by decide +kernel
theorem dL_anew_64 : decode cL_anew 64 = .ok (.goto 4, 3) := by decide +kernel
theorem dL_anew_67 : decode cL_anew 67 = .ok (.iconst 0, 1) := by decide +kernel
theorem dL_anew_68 : decode cL_anew 68 = .ok (.iadd, 1) := by decide +kernel
theorem dL_anew_69 : decode cL_anew 69 = .ok (.istore 6, 2) := by decide +kernel
theorem dL_anew_71 : decode cL_anew 71 = .ok (.iload 6, 2) := by decide +kernel
theorem dL_anew_73 : decode cL_anew 73 = .ok (.aload_n 0, 1) := by decide +kernel
theorem dL_anew_74 : decode cL_anew 74 = .ok (.bipush 20, 2) := by decide +kernel
theorem dL_anew_76 : decode cL_anew 76 = .ok (.iaload, 1) := by decide +kernel
theorem dL_anew_77 : decode cL_anew 77 = .ok (.if_icmp .ge 61, 3) := by decide +kernel
theorem dL_anew_80 : decode cL_anew 80 = .ok (.aload_n 1, 1) := by decide +kernel
theorem dL_anew_81 : decode cL_anew 81 = .ok (.iload 6, 2) := by decide +kernel
theorem dL_anew_83 : decode cL_anew 83 = .ok (.laload, 1) := by decide +kernel
theorem dL_anew_84 : decode cL_anew 84 = .ok (.aload_n 2, 1) := by decide +kernel
theorem dL_anew_85 : decode cL_anew 85 = .ok (.iload 6, 2) := by decide +kernel
theorem dL_anew_87 : decode cL_anew 87 = .ok (.iload 4, 2) := by decide +kernel
theorem dL_anew_89 : decode cL_anew 89 = .ok (.isub, 1) := by decide +kernel
theorem dL_anew_90 : decode cL_anew 90 = .ok (.laload, 1) := by decide +kernel
theorem dL_anew_91 : decode cL_anew 91 = .ok (.lcmp, 1) := by decide +kernel
theorem dL_anew_92 : decode cL_anew 92 = .ok (.ifCond .ne 40, 3) := by decide +kernel
theorem dL_anew_95 : decode cL_anew 95 = .ok (.aload_n 1, 1) := by decide +kernel
theorem dL_anew_96 : decode cL_anew 96 = .ok (.bipush 24, 2) := by decide +kernel
theorem dL_anew_98 : decode cL_anew 98 = .ok (.iload 6, 2) := by decide +kernel
theorem dL_anew_100 : decode cL_anew 100 = .ok (.iadd, 1) := by decide +kernel
theorem dL_anew_101 : decode cL_anew 101 = .ok (.laload, 1) := by decide +kernel
theorem dL_anew_102 : decode cL_anew 102 = .ok (.aload_n 2, 1) := by decide +kernel
theorem dL_anew_103 : decode cL_anew 103 = .ok (.bipush 24, 2) := by decide +kernel
theorem dL_anew_105 : decode cL_anew 105 = .ok (.iload 6, 2) := by decide +kernel
theorem dL_anew_107 : decode cL_anew 107 = .ok (.iadd, 1) := by decide +kernel
theorem dL_anew_108 : decode cL_anew 108 = .ok (.iload 4, 2) := by decide +kernel
theorem dL_anew_110 : decode cL_anew 110 = .ok (.isub, 1) := by decide +kernel
theorem dL_anew_111 : decode cL_anew 111 = .ok (.laload, 1) := by decide +kernel
theorem dL_anew_112 : decode cL_anew 112 = .ok (.lcmp, 1) := by decide +kernel
theorem dL_anew_113 : decode cL_anew 113 = .ok (.ifCond .ne 19, 3) := by decide +kernel
theorem dL_anew_116 : decode cL_anew 116 = .ok (.aload_n 1, 1) := by decide +kernel
theorem dL_anew_117 : decode cL_anew 117 = .ok (.bipush 24, 2) := by decide +kernel
theorem dL_anew_119 : decode cL_anew 119 = .ok (.iload 6, 2) := by decide +kernel
theorem dL_anew_121 : decode cL_anew 121 = .ok (.iadd, 1) := by decide +kernel
theorem dL_anew_122 : decode cL_anew 122 = .ok (.laload, 1) := by decide +kernel
theorem dL_anew_123 : decode cL_anew 123 = .ok (.ldc2_w 65, 3) := by decide +kernel
theorem dL_anew_126 : decode cL_anew 126 = .ok (.lrem, 1) := by decide +kernel
theorem dL_anew_127 : decode cL_anew 127 = .ok (.lconst 0, 1) := by decide +kernel
theorem dL_anew_128 : decode cL_anew 128 = .ok (.lcmp, 1) := by decide +kernel
theorem dL_anew_129 : decode cL_anew 129 = .ok (.ifCond .eq 9, 3) := by decide +kernel
theorem dL_anew_132 : decode cL_anew 132 = .ok (.iinc 6 1, 3) := by decide +kernel
theorem dL_anew_135 : decode cL_anew 135 = .ok (.goto (-64), 3) := by decide +kernel
theorem dL_anew_138 : decode cL_anew 138 = .ok (.iload 6, 2) := by decide +kernel
theorem dL_anew_140 : decode cL_anew 140 = .ok (.iload 5, 2) := by decide +kernel
theorem dL_anew_142 : decode cL_anew 142 = .ok (.isub, 1) := by decide +kernel
theorem dL_anew_143 : decode cL_anew 143 = .ok (.ireturn, 1) := by decide +kernel
theorem dL_isTurned_0 : decode cL_isTurned 0 = .ok (.iload_n 3, 1) := by decide +kernel
theorem dL_isTurned_1 : decode cL_isTurned 1 = .ok (.ifCond .ne 65, 3) := by decide +kernel
theorem dL_isTurned_4 : decode cL_isTurned 4 = .ok (.aload_n 1, 1) := by decide +kernel
theorem dL_isTurned_5 : decode cL_isTurned 5 = .ok (.bipush 10, 2) := by decide +kernel
theorem dL_isTurned_7 : decode cL_isTurned 7 = .ok (.iload 4, 2) := by decide +kernel
theorem dL_isTurned_9 : decode cL_isTurned 9 = .ok (.iconst 2, 1) := by decide +kernel
theorem dL_isTurned_10 : decode cL_isTurned 10 = .ok (.irem, 1) := by decide +kernel
theorem dL_isTurned_11 : decode cL_isTurned 11 = .ok (.iadd, 1) := by decide +kernel
theorem dL_isTurned_12 : decode cL_isTurned 12 = .ok (.iaload, 1) := by decide +kernel
theorem dL_isTurned_13 : decode cL_isTurned 13 = .ok (.istore 5, 2) := by decide +kernel
theorem dL_isTurned_15 : decode cL_isTurned 15 = .ok (.aload_n 1, 1) := by decide +kernel
theorem dL_isTurned_16 : decode cL_isTurned 16 = .ok (.bipush 10, 2) := by decide +kernel
theorem dL_isTurned_18 : decode cL_isTurned 18 = .ok (.iload 4, 2) := by decide +kernel
theorem dL_isTurned_20 : decode cL_isTurned 20 = .ok (.iconst 2, 1) := by decide +kernel
theorem dL_isTurned_21 : decode cL_isTurned 21 = .ok (.irem, 1) := by decide +kernel
theorem dL_isTurned_22 : decode cL_isTurned 22 = .ok (.iadd, 1) := by decide +kernel
theorem dL_isTurned_23 : decode cL_isTurned 23 = .ok (.iload 4, 2) := by decide +kernel
theorem dL_isTurned_25 : decode cL_isTurned 25 = .ok (.iconst 2, 1) := by decide +kernel
theorem dL_isTurned_26 : decode cL_isTurned 26 = .ok (.idiv, 1) := by decide +kernel
theorem dL_isTurned_27 : decode cL_isTurned 27 = .ok (.iconst 3, 1) := by decide +kernel
theorem dL_isTurned_28 : decode cL_isTurned 28 = .ok (.irem, 1) := by decide +kernel
theorem dL_isTurned_29 : decode cL_isTurned 29 = .ok (.iastore, 1) := by decide +kernel
theorem dL_isTurned_30 : decode cL_isTurned 30 = .ok (.aload_n 0, 1) := by decide +kernel
theorem dL_isTurned_31 : decode cL_isTurned 31 = .ok (.iload 4, 2) := by decide +kernel
theorem dL_isTurned_33 : decode cL_isTurned 33 = .ok (.iconst 2, 1) := by decide +kernel
theorem dL_isTurned_34 : decode cL_isTurned 34 = .ok (.irem, 1) := by decide +kernel
theorem dL_isTurned_35 : decode cL_isTurned 35 = .ok (.iload 4, 2) := by decide +kernel
theorem dL_isTurned_37 : decode cL_isTurned 37 = .ok (.iconst 2, 1) := by decide +kernel
theorem dL_isTurned_38 : decode cL_isTurned 38 = .ok (.idiv, 1) := by decide +kernel
theorem dL_isTurned_39 : decode cL_isTurned 39 = .ok (.iconst 3, 1) := by decide +kernel
theorem dL_isTurned_40 : decode cL_isTurned 40 = .ok (.irem, 1) := by decide +kernel
theorem dL_isTurned_41 : decode cL_isTurned 41 = .ok (.invokevirtual 164, 3) := by decide +kernel
theorem dL_isTurned_44 : decode cL_isTurned 44 = .ok (.iload 5, 2) := by decide +kernel
theorem dL_isTurned_46 : decode cL_isTurned 46 = .ok (.if_icmp .ne 18, 3) := by decide +kernel
theorem dL_isTurned_49 : decode cL_isTurned 49 = .ok (.aload_n 0, 1) := by decide +kernel
theorem dL_isTurned_50 : decode cL_isTurned 50 = .ok (.invokevirtual 168, 3) := by decide +kernel
theorem dL_isTurned_53 : decode cL_isTurned 53 = .ok (.aload_n 2, 1) := by decide +kernel
theorem dL_isTurned_54 : decode cL_isTurned 54 = .ok (.bipush 20, 2) := by decide +kernel
theorem dL_isTurned_56 : decode cL_isTurned 56 = .ok (.iaload, 1) := by decide +kernel
theorem dL_isTurned_57 : decode cL_isTurned 57 = .ok (.if_icmp .ne 7, 3) := by decide +kernel
theorem dL_isTurned_60 : decode cL_isTurned 60 = .ok (.iconst 1, 1) := by decide +kernel
theorem dL_isTurned_61 : decode cL_isTurned 61 = .ok (.goto 4, 3) := by decide +kernel
theorem dL_isTurned_64 : decode cL_isTurned 64 = .ok (.iconst 0, 1) := by decide +kernel
theorem dL_isTurned_65 : decode cL_isTurned 65 = .ok (.ireturn, 1) := by decide +kernel
theorem dL_isTurned_66 : decode cL_isTurned 66 = .ok (.iload_n 3, 1) := by decide +kernel
theorem dL_isTurned_67 : decode cL_isTurned 67 = .ok (.iconst 1, 1) := by decide +kernel
theorem dL_isTurned_68 : decode cL_isTurned 68 = .ok (.if_icmp .eq 16, 3) := by decide +kernel
theorem dL_isTurned_71 : decode cL_isTurned 71 = .ok (.aload_n 1, 1) := by decide +kernel
theorem dL_isTurned_72 : decode cL_isTurned 72 = .ok (.bipush 8, 2) := by decide +kernel
theorem dL_isTurned_74 : decode cL_isTurned 74 = .ok (.iload 4, 2) := by decide +kernel
theorem dL_isTurned_76 : decode cL_isTurned 76 = .ok (.iconst 2, 1) := by decide +kernel
theorem dL_isTurned_77 : decode cL_isTurned 77 = .ok (.irem, 1) := by decide +kernel
theorem dL_isTurned_78 : decode cL_isTurned 78 = .ok (.iadd, 1) := by decide +kernel
theorem dL_isTurned_79 : decode cL_isTurned 79 = .ok (.iaload, 1) := by decide +kernel
theorem dL_isTurned_80 : decode cL_isTurned 80 = .ok (.iconst 4, 1) := by decide +kernel
theorem dL_isTurned_81 : decode cL_isTurned 81 = .ok (.if_icmp .ne 43, 3) := by decide +kernel
theorem dL_isTurned_84 : decode cL_isTurned 84 = .ok (.aload_n 1, 1) := by decide +kernel
theorem dL_isTurned_85 : decode cL_isTurned 85 = .ok (.bipush 8, 2) := by decide +kernel
theorem dL_isTurned_87 : decode cL_isTurned 87 = .ok (.iload 4, 2) := by decide +kernel
theorem dL_isTurned_89 : decode cL_isTurned 89 = .ok (.iconst 2, 1) := by decide +kernel
theorem dL_isTurned_90 : decode cL_isTurned 90 = .ok (.irem, 1) := by decide +kernel
theorem dL_isTurned_91 : decode cL_isTurned 91 = .ok (.iadd, 1) := by decide +kernel
theorem dL_isTurned_92 : decode cL_isTurned 92 = .ok (.iaload, 1) := by decide +kernel
theorem dL_isTurned_93 : decode cL_isTurned 93 = .ok (.istore 5, 2) := by decide +kernel
theorem dL_isTurned_95 : decode cL_isTurned 95 = .ok (.aload_n 1, 1) := by decide +kernel
theorem dL_isTurned_96 : decode cL_isTurned 96 = .ok (.bipush 8, 2) := by decide +kernel
theorem dL_isTurned_98 : decode cL_isTurned 98 = .ok (.iload 4, 2) := by decide +kernel
theorem dL_isTurned_100 : decode cL_isTurned 100 = .ok (.iconst 2, 1) := by decide +kernel
theorem dL_isTurned_101 : decode cL_isTurned 101 = .ok (.irem, 1) := by decide +kernel
theorem dL_isTurned_102 : decode cL_isTurned 102 = .ok (.iadd, 1) := by decide +kernel
theorem dL_isTurned_103 : decode cL_isTurned 103 = .ok (.iconst 0, 1) := by decide +kernel
theorem dL_isTurned_104 : decode cL_isTurned 104 = .ok (.iastore, 1) := by decide +kernel
theorem dL_isTurned_105 : decode cL_isTurned 105 = .ok (.aload_n 0, 1) := by decide +kernel
theorem dL_isTurned_106 : decode cL_isTurned 106 = .ok (.iload 4, 2) := by decide +kernel
theorem dL_isTurned_108 : decode cL_isTurned 108 = .ok (.iconst 2, 1) := by decide +kernel
theorem dL_isTurned_109 : decode cL_isTurned 109 = .ok (.irem, 1) := by decide +kernel
theorem dL_isTurned_110 : decode cL_isTurned 110 = .ok (.invokevirtual 171, 3) := by decide +kernel
theorem dL_isTurned_113 : decode cL_isTurned 113 = .ok (.iload 5, 2) := by decide +kernel
theorem dL_isTurned_115 : decode cL_isTurned 115 = .ok (.if_icmp .ne 7, 3) := by decide +kernel
theorem dL_isTurned_118 : decode cL_isTurned 118 = .ok (.iconst 1, 1) := by decide +kernel
theorem dL_isTurned_119 : decode cL_isTurned 119 = .ok (.goto 4, 3) := by decide +kernel
theorem dL_isTurned_122 : decode cL_isTurned 122 = .ok (.iconst 0, 1) := by decide +kernel
theorem dL_isTurned_123 : decode cL_isTurned 123 = .ok (.ireturn, 1) := by decide +kernel
theorem dL_isTurned_124 : decode cL_isTurned 124 = .ok (.iload 4, 2) := by decide +kernel
theorem dL_isTurned_126 : decode cL_isTurned 126 = .ok (.iconst 2, 1) := by decide +kernel
theorem dL_isTurned_127 : decode cL_isTurned 127 = .ok (.idiv, 1) := by decide +kernel
theorem dL_isTurned_128 : decode cL_isTurned 128 = .ok (.invokestatic 154, 3) := by decide +kernel
theorem dL_isTurned_131 : decode cL_isTurned 131 = .ok (.istore 5, 2) := by decide +kernel
theorem dL_isTurned_133 : decode cL_isTurned 133 = .ok (.aload_n 1, 1) := by decide +kernel
theorem dL_isTurned_134 : decode cL_isTurned 134 = .ok (.iconst 4, 1) := by decide +kernel
theorem dL_isTurned_135 : decode cL_isTurned 135 = .ok (.iload 4, 2) := by decide +kernel
theorem dL_isTurned_137 : decode cL_isTurned 137 = .ok (.iconst 2, 1) := by decide +kernel
theorem dL_isTurned_138 : decode cL_isTurned 138 = .ok (.irem, 1) := by decide +kernel
theorem dL_isTurned_139 : decode cL_isTurned 139 = .ok (.imul, 1) := by decide +kernel
theorem dL_isTurned_140 : decode cL_isTurned 140 = .ok (.aload_n 1, 1) := by decide +kernel
theorem dL_isTurned_141 : decode cL_isTurned 141 = .ok (.bipush 8, 2) := by decide +kernel
theorem dL_isTurned_143 : decode cL_isTurned 143 = .ok (.iload 4, 2) := by decide +kernel
theorem dL_isTurned_145 : decode cL_isTurned 145 = .ok (.iconst 2, 1) := by decide +kernel
theorem dL_isTurned_146 : decode cL_isTurned 146 = .ok (.irem, 1) := by decide +kernel
theorem dL_isTurned_147 : decode cL_isTurned 147 = .ok (.iadd, 1) := by decide +kernel
theorem dL_isTurned_148 : decode cL_isTurned 148 = .ok (.iaload, 1) := by decide +kernel
theorem dL_isTurned_149 : decode cL_isTurned 149 = .ok (.iadd, 1) := by decide +kernel
theorem dL_isTurned_150 : decode cL_isTurned 150 = .ok (.iload 5, 2) := by decide +kernel
theorem dL_isTurned_152 : decode cL_isTurned 152 = .ok (.iastore, 1) := by decide +kernel
theorem dL_isTurned_153 : decode cL_isTurned 153 = .ok (.aload_n 1, 1) := by decide +kernel
theorem dL_isTurned_154 : decode cL_isTurned 154 = .ok (.bipush 8, 2) := by decide +kernel
theorem dL_isTurned_156 : decode cL_isTurned 156 = .ok (.iload 4, 2) := by decide +kernel
theorem dL_isTurned_158 : decode cL_isTurned 158 = .ok (.iconst 2, 1) := by decide +kernel
theorem dL_isTurned_159 : decode cL_isTurned 159 = .ok (.irem, 1) := by decide +kernel
theorem dL_isTurned_160 : decode cL_isTurned 160 = .ok (.iadd, 1) := by decide +kernel
theorem dL_isTurned_161 : decode cL_isTurned 161 = .ok (.dup2, 1) := by decide +kernel
theorem dL_isTurned_162 : decode cL_isTurned 162 = .ok (.iaload, 1) := by decide +kernel
theorem dL_isTurned_163 : decode cL_isTurned 163 = .ok (.iconst 1, 1) := by decide +kernel
theorem dL_isTurned_164 : decode cL_isTurned 164 = .ok (.iadd, 1) := by decide +kernel
theorem dL_isTurned_165 : decode cL_isTurned 165 = .ok (.iastore, 1) := by decide +kernel
theorem dL_isTurned_166 : decode cL_isTurned 166 = .ok (.aload_n 0, 1) := by decide +kernel
theorem dL_isTurned_167 : decode cL_isTurned 167 = .ok (.iload 4, 2) := by decide +kernel
theorem dL_isTurned_169 : decode cL_isTurned 169 = .ok (.iconst 2, 1) := by decide +kernel
theorem dL_isTurned_170 : decode cL_isTurned 170 = .ok (.irem, 1) := by decide +kernel
theorem dL_isTurned_171 : decode cL_isTurned 171 = .ok (.iload 5, 2) := by decide +kernel
theorem dL_isTurned_173 : decode cL_isTurned 173 = .ok (.sipush 128, 3) := by decide +kernel
theorem dL_isTurned_176 : decode cL_isTurned 176 = .ok (.idiv, 1) := by decide +kernel
theorem dL_isTurned_177 : decode cL_isTurned 177 = .ok (.iload 5, 2) := by decide +kernel
theorem dL_isTurned_179 : decode cL_isTurned 179 = .ok (.sipush 128, 3) := by decide +kernel
theorem dL_isTurned_182 : decode cL_isTurned 182 = .ok (.irem, 1) := by decide +kernel
theorem dL_isTurned_183 : decode cL_isTurned 183 = .ok (.invokevirtual 174, 3) := by decide +kernel
theorem dL_isTurned_186 : decode cL_isTurned 186 = .ok (.aload_n 1, 1) := by decide +kernel
theorem dL_isTurned_187 : decode cL_isTurned 187 = .ok (.bipush 8, 2) := by decide +kernel
theorem dL_isTurned_189 : decode cL_isTurned 189 = .ok (.iload 4, 2) := by decide +kernel
theorem dL_isTurned_191 : decode cL_isTurned 191 = .ok (.iconst 2, 1) := by decide +kernel
theorem dL_isTurned_192 : decode cL_isTurned 192 = .ok (.irem, 1) := by decide +kernel
theorem dL_isTurned_193 : decode cL_isTurned 193 = .ok (.iadd, 1) := by decide +kernel
theorem dL_isTurned_194 : decode cL_isTurned 194 = .ok (.iaload, 1) := by decide +kernel
theorem dL_isTurned_195 : decode cL_isTurned 195 = .ok (.if_icmp .ne 7, 3) := by decide +kernel
theorem dL_isTurned_198 : decode cL_isTurned 198 = .ok (.iconst 1, 1) := by decide +kernel
theorem dL_isTurned_199 : decode cL_isTurned 199 = .ok (.goto 4, 3) := by decide +kernel
theorem dL_isTurned_202 : decode cL_isTurned 202 = .ok (.iconst 0, 1) := by decide +kernel
theorem dL_isTurned_203 : decode cL_isTurned 203 = .ok (.ireturn, 1) := by decide +kernel
theorem dL_holds_0 : decode cL_holds 0 = .ok (.new 76, 3) := by decide +kernel
theorem dL_holds_3 : decode cL_holds 3 = .ok (.dup, 1) := by decide +kernel
theorem dL_holds_4 : decode cL_holds 4 = .ok (.invokespecial 177, 3) := by decide +kernel
theorem dL_holds_7 : decode cL_holds 7 = .ok (.astore_n 1, 1) := by decide +kernel
theorem dL_holds_8 : decode cL_holds 8 = .ok (.bipush 20, 2) := by decide +kernel
theorem dL_holds_10 : decode cL_holds 10 = .ok (.newarray .int, 2) := by decide +kernel
theorem dL_holds_12 : decode cL_holds 12 = .ok (.astore_n 2, 1) := by decide +kernel
theorem dL_holds_13 : decode cL_holds 13 = .ok (.iconst 5, 1) := by decide +kernel
theorem dL_holds_14 : decode cL_holds 14 = .ok (.newarray .int, 2) := by decide +kernel
theorem dL_holds_16 : decode cL_holds 16 = .ok (.astore_n 3, 1) := by decide +kernel
theorem dL_holds_17 : decode cL_holds 17 = .ok (.iconst 5, 1) := by decide +kernel
theorem dL_holds_18 : decode cL_holds 18 = .ok (.newarray .int, 2) := by decide +kernel
theorem dL_holds_20 : decode cL_holds 20 = .ok (.astore 4, 2) := by decide +kernel
theorem dL_holds_22 : decode cL_holds 22 = .ok (.bipush 12, 2) := by decide +kernel
theorem dL_holds_24 : decode cL_holds 24 = .ok (.newarray .int, 2) := by decide +kernel
theorem dL_holds_26 : decode cL_holds 26 = .ok (.astore 5, 2) := by decide +kernel
theorem dL_holds_28 : decode cL_holds 28 = .ok (.bipush 21, 2) := by decide +kernel
theorem dL_holds_30 : decode cL_holds 30 = .ok (.newarray .int, 2) := by decide +kernel
theorem dL_holds_32 : decode cL_holds 32 = .ok (.astore 6, 2) := by decide +kernel
theorem dL_holds_34 : decode cL_holds 34 = .ok (.bipush 20, 2) := by decide +kernel
theorem dL_holds_36 : decode cL_holds 36 = .ok (.newarray .int, 2) := by decide +kernel
theorem dL_holds_38 : decode cL_holds 38 = .ok (.astore 7, 2) := by decide +kernel
theorem dL_holds_40 : decode cL_holds 40 = .ok (.bipush 40, 2) := by decide +kernel
theorem dL_holds_42 : decode cL_holds 42 = .ok (.newarray .int, 2) := by decide +kernel
theorem dL_holds_44 : decode cL_holds 44 = .ok (.astore 8, 2) := by decide +kernel
theorem dL_holds_46 : decode cL_holds 46 = .ok (.bipush 60, 2) := by decide +kernel
theorem dL_holds_48 : decode cL_holds 48 = .ok (.newarray .int, 2) := by decide +kernel
theorem dL_holds_50 : decode cL_holds 50 = .ok (.astore 9, 2) := by decide +kernel
theorem dL_holds_52 : decode cL_holds 52 = .ok (.bipush 60, 2) := by decide +kernel
theorem dL_holds_54 : decode cL_holds 54 = .ok (.newarray .int, 2) := by decide +kernel
theorem dL_holds_56 : decode cL_holds 56 = .ok (.astore 10, 2) := by decide +kernel
theorem dL_holds_58 : decode cL_holds 58 = .ok (.bipush 60, 2) := by decide +kernel
theorem dL_holds_60 : decode cL_holds 60 = .ok (.newarray .int, 2) := by decide +kernel
theorem dL_holds_62 : decode cL_holds 62 = .ok (.astore 11, 2) := by decide +kernel
theorem dL_holds_64 : decode cL_holds 64 = .ok (.bipush 60, 2) := by decide +kernel
theorem dL_holds_66 : decode cL_holds 66 = .ok (.newarray .int, 2) := by decide +kernel
theorem dL_holds_68 : decode cL_holds 68 = .ok (.astore 12, 2) := by decide +kernel
theorem dL_holds_70 : decode cL_holds 70 = .ok (.bipush 60, 2) := by decide +kernel
theorem dL_holds_72 : decode cL_holds 72 = .ok (.newarray .int, 2) := by decide +kernel
theorem dL_holds_74 : decode cL_holds 74 = .ok (.astore 13, 2) := by decide +kernel
theorem dL_holds_76 : decode cL_holds 76 = .ok (.bipush 60, 2) := by decide +kernel
theorem dL_holds_78 : decode cL_holds 78 = .ok (.newarray .int, 2) := by decide +kernel
theorem dL_holds_80 : decode cL_holds 80 = .ok (.astore 14, 2) := by decide +kernel
theorem dL_holds_82 : decode cL_holds 82 = .ok (.bipush 48, 2) := by decide +kernel
theorem dL_holds_84 : decode cL_holds 84 = .ok (.newarray .long, 2) := by decide +kernel
theorem dL_holds_86 : decode cL_holds 86 = .ok (.astore 15, 2) := by decide +kernel
theorem dL_holds_88 : decode cL_holds 88 = .ok (.bipush 48, 2) := by decide +kernel
theorem dL_holds_90 : decode cL_holds 90 = .ok (.newarray .long, 2) := by decide +kernel
theorem dL_holds_92 : decode cL_holds 92 = .ok (.astore 16, 2) := by decide +kernel
theorem dL_holds_94 : decode cL_holds 94 = .ok (.aload_n 1, 1) := by decide +kernel
theorem dL_holds_95 : decode cL_holds 95 = .ok (.invokevirtual 75, 3) := by decide +kernel
theorem dL_holds_98 : decode cL_holds 98 = .ok (.ifCond .ne 28, 3) := by decide +kernel
theorem dL_holds_101 : decode cL_holds 101 = .ok (.aload_n 1, 1) := by decide +kernel
theorem dL_holds_102 : decode cL_holds 102 = .ok (.invokevirtual 111, 3) := by decide +kernel
theorem dL_holds_105 : decode cL_holds 105 = .ok (.ifCond .ne 21, 3) := by decide +kernel
theorem dL_holds_108 : decode cL_holds 108 = .ok (.aload_n 1, 1) := by decide +kernel
theorem dL_holds_109 : decode cL_holds 109 = .ok (.invokevirtual 114, 3) := by decide +kernel
theorem dL_holds_112 : decode cL_holds 112 = .ok (.ifCond .eq 14, 3) := by decide +kernel
theorem dL_holds_115 : decode cL_holds 115 = .ok (.aload_n 1, 1) := by decide +kernel
theorem dL_holds_116 : decode cL_holds 116 = .ok (.invokevirtual 168, 3) := by decide +kernel
theorem dL_holds_119 : decode cL_holds 119 = .ok (.ifCond .ne 7, 3) := by decide +kernel
theorem dL_holds_122 : decode cL_holds 122 = .ok (.iconst 1, 1) := by decide +kernel
theorem dL_holds_123 : decode cL_holds 123 = .ok (.goto 4, 3) := by decide +kernel
theorem dL_holds_126 : decode cL_holds 126 = .ok (.iconst 0, 1) := by decide +kernel
theorem dL_holds_127 : decode cL_holds 127 = .ok (.istore 17, 2) := by decide +kernel
theorem dL_holds_129 : decode cL_holds 129 = .ok (.iconst 1, 1) := by decide +kernel
theorem dL_holds_130 : decode cL_holds 130 = .ok (.istore 18, 2) := by decide +kernel
theorem dL_holds_132 : decode cL_holds 132 = .ok (.aload_n 2, 1) := by decide +kernel
theorem dL_holds_133 : decode cL_holds 133 = .ok (.aload_n 3, 1) := by decide +kernel
theorem dL_holds_134 : decode cL_holds 134 = .ok (.aload 4, 2) := by decide +kernel
theorem dL_holds_136 : decode cL_holds 136 = .ok (.aload 5, 2) := by decide +kernel
theorem dL_holds_138 : decode cL_holds 138 = .ok (.aload 6, 2) := by decide +kernel
theorem dL_holds_140 : decode cL_holds 140 = .ok (.aload 7, 2) := by decide +kernel
theorem dL_holds_142 : decode cL_holds 142 = .ok (.aload 8, 2) := by decide +kernel
theorem dL_holds_144 : decode cL_holds 144 = .ok (.aload 9, 2) := by decide +kernel
theorem dL_holds_146 : decode cL_holds 146 = .ok (.aload 10, 2) := by decide +kernel
theorem dL_holds_148 : decode cL_holds 148 = .ok (.aload 11, 2) := by decide +kernel
theorem dL_holds_150 : decode cL_holds 150 = .ok (.aload 12, 2) := by decide +kernel
theorem dL_holds_152 : decode cL_holds 152 = .ok (.aload 13, 2) := by decide +kernel
theorem dL_holds_154 : decode cL_holds 154 = .ok (.aload 14, 2) := by decide +kernel
theorem dL_holds_156 : decode cL_holds 156 = .ok (.aload 15, 2) := by decide +kernel
theorem dL_holds_158 : decode cL_holds 158 = .ok (.invokestatic 178, 3) := by decide +kernel
theorem dL_holds_161 : decode cL_holds 161 = .ok (.iconst 0, 1) := by decide +kernel
theorem dL_holds_162 : decode cL_holds 162 = .ok (.istore 19, 2) := by decide +kernel
theorem dL_holds_164 : decode cL_holds 164 = .ok (.iload 19, 2) := by decide +kernel
theorem dL_holds_166 : decode cL_holds 166 = .ok (.bipush 90, 2) := by decide +kernel
theorem dL_holds_168 : decode cL_holds 168 = .ok (.if_icmp .ge 412, 3) := by decide +kernel
theorem dL_holds_171 : decode cL_holds 171 = .ok (.iload 17, 2) := by decide +kernel
theorem dL_holds_173 : decode cL_holds 173 = .ok (.ifCond .eq 407, 3) := by decide +kernel
theorem dL_holds_176 : decode cL_holds 176 = .ok (.aload_n 0, 1) := by decide +kernel
theorem dL_holds_177 : decode cL_holds 177 = .ok (.iconst 2, 1) := by decide +kernel
theorem dL_holds_178 : decode cL_holds 178 = .ok (.iload 19, 2) := by decide +kernel
theorem dL_holds_180 : decode cL_holds 180 = .ok (.imul, 1) := by decide +kernel
theorem dL_holds_181 : decode cL_holds 181 = .ok (.iconst 1, 1) := by decide +kernel
theorem dL_holds_182 : decode cL_holds 182 = .ok (.iadd, 1) := by decide +kernel
theorem dL_holds_183 : decode cL_holds 183 = .ok (.ldc 182, 2) := by decide +kernel
theorem dL_holds_185 : decode cL_holds 185 = .ok (.invokestatic 183, 3) := by decide +kernel
theorem dL_holds_188 : decode cL_holds 188 = .ok (.istore 20, 2) := by decide +kernel
theorem dL_holds_190 : decode cL_holds 190 = .ok (.iload 19, 2) := by decide +kernel
theorem dL_holds_192 : decode cL_holds 192 = .ok (.bipush 14, 2) := by decide +kernel
theorem dL_holds_194 : decode cL_holds 194 = .ok (.if_icmp .ge 12, 3) := by decide +kernel
theorem dL_holds_197 : decode cL_holds 197 = .ok (.iconst 3, 1) := by decide +kernel
theorem dL_holds_198 : decode cL_holds 198 = .ok (.iload 19, 2) := by decide +kernel
theorem dL_holds_200 : decode cL_holds 200 = .ok (.iconst 2, 1) := by decide +kernel
theorem dL_holds_201 : decode cL_holds 201 = .ok (.irem, 1) := by decide +kernel
theorem dL_holds_202 : decode cL_holds 202 = .ok (.iadd, 1) := by decide +kernel
theorem dL_holds_203 : decode cL_holds 203 = .ok (.goto 13, 3) := by decide +kernel
theorem dL_holds_206 : decode cL_holds 206 = .ok (.aload_n 0, 1) := by decide +kernel
theorem dL_holds_207 : decode cL_holds 207 = .ok (.iconst 2, 1) := by decide +kernel
theorem dL_holds_208 : decode cL_holds 208 = .ok (.iload 19, 2) := by decide +kernel
theorem dL_holds_210 : decode cL_holds 210 = .ok (.imul, 1) := by decide +kernel
theorem dL_holds_211 : decode cL_holds 211 = .ok (.bipush 30, 2) := by decide +kernel
theorem dL_holds_213 : decode cL_holds 213 = .ok (.invokestatic 183, 3) := by decide +kernel
theorem dL_holds_216 : decode cL_holds 216 = .ok (.istore 21, 2) := by decide +kernel
theorem dL_holds_218 : decode cL_holds 218 = .ok (.iload 20, 2) := by decide +kernel
theorem dL_holds_220 : decode cL_holds 220 = .ok (.aload 6, 2) := by decide +kernel
theorem dL_holds_222 : decode cL_holds 222 = .ok (.bipush 20, 2) := by decide +kernel
theorem dL_holds_224 : decode cL_holds 224 = .ok (.iaload, 1) := by decide +kernel
theorem dL_holds_225 : decode cL_holds 225 = .ok (.iconst 1, 1) := by decide +kernel
theorem dL_holds_226 : decode cL_holds 226 = .ok (.iadd, 1) := by decide +kernel
theorem dL_holds_227 : decode cL_holds 227 = .ok (.irem, 1) := by decide +kernel
theorem dL_holds_228 : decode cL_holds 228 = .ok (.istore 22, 2) := by decide +kernel
theorem dL_holds_230 : decode cL_holds 230 = .ok (.iconst 0, 1) := by decide +kernel
theorem dL_holds_231 : decode cL_holds 231 = .ok (.istore 23, 2) := by decide +kernel
theorem dL_holds_233 : decode cL_holds 233 = .ok (.iload 23, 2) := by decide +kernel
theorem dL_holds_235 : decode cL_holds 235 = .ok (.bipush 48, 2) := by decide +kernel
theorem dL_holds_237 : decode cL_holds 237 = .ok (.if_icmp .ge 19, 3) := by decide +kernel
theorem dL_holds_240 : decode cL_holds 240 = .ok (.aload 16, 2) := by decide +kernel
theorem dL_holds_242 : decode cL_holds 242 = .ok (.iload 23, 2) := by decide +kernel
theorem dL_holds_244 : decode cL_holds 244 = .ok (.aload 15, 2) := by decide +kernel
theorem dL_holds_246 : decode cL_holds 246 = .ok (.iload 23, 2) := by decide +kernel
theorem dL_holds_248 : decode cL_holds 248 = .ok (.laload, 1) := by decide +kernel
theorem dL_holds_249 : decode cL_holds 249 = .ok (.lastore, 1) := by decide +kernel
theorem dL_holds_250 : decode cL_holds 250 = .ok (.iinc 23 1, 3) := by decide +kernel
theorem dL_holds_253 : decode cL_holds 253 = .ok (.goto (-20), 3) := by decide +kernel
theorem dL_holds_256 : decode cL_holds 256 = .ok (.iload 18, 2) := by decide +kernel
theorem dL_holds_258 : decode cL_holds 258 = .ok (.istore 23, 2) := by decide +kernel
theorem dL_holds_260 : decode cL_holds 260 = .ok (.iload 21, 2) := by decide +kernel
theorem dL_holds_262 : decode cL_holds 262 = .ok (.bipush 8, 2) := by decide +kernel
theorem dL_holds_264 : decode cL_holds 264 = .ok (.if_icmp .le 24, 3) := by decide +kernel
theorem dL_holds_267 : decode cL_holds 267 = .ok (.aload 6, 2) := by decide +kernel
theorem dL_holds_269 : decode cL_holds 269 = .ok (.bipush 20, 2) := by decide +kernel
theorem dL_holds_271 : decode cL_holds 271 = .ok (.iaload, 1) := by decide +kernel
theorem dL_holds_272 : decode cL_holds 272 = .ok (.bipush 18, 2) := by decide +kernel
theorem dL_holds_274 : decode cL_holds 274 = .ok (.if_icmp .ge 14, 3) := by decide +kernel
theorem dL_holds_277 : decode cL_holds 277 = .ok (.iload 21, 2) := by decide +kernel
theorem dL_holds_279 : decode cL_holds 279 = .ok (.bipush 24, 2) := by decide +kernel
theorem dL_holds_281 : decode cL_holds 281 = .ok (.if_icmp .ge 7, 3) := by decide +kernel
theorem dL_holds_284 : decode cL_holds 284 = .ok (.iconst 1, 1) := by decide +kernel
theorem dL_holds_285 : decode cL_holds 285 = .ok (.goto 30, 3) := by decide +kernel
theorem dL_holds_288 : decode cL_holds 288 = .ok (.iload 21, 2) := by decide +kernel
theorem dL_holds_290 : decode cL_holds 290 = .ok (.bipush 8, 2) := by decide +kernel
theorem dL_holds_292 : decode cL_holds 292 = .ok (.if_icmp .le 22, 3) := by decide +kernel
theorem dL_holds_295 : decode cL_holds 295 = .ok (.iload 21, 2) := by decide +kernel
theorem dL_holds_297 : decode cL_holds 297 = .ok (.bipush 27, 2) := by decide +kernel
theorem dL_holds_299 : decode cL_holds 299 = .ok (.if_icmp .ge 15, 3) := by decide +kernel
theorem dL_holds_302 : decode cL_holds 302 = .ok (.aload 6, 2) := by decide +kernel
theorem dL_holds_304 : decode cL_holds 304 = .ok (.bipush 20, 2) := by decide +kernel
theorem dL_holds_306 : decode cL_holds 306 = .ok (.iaload, 1) := by decide +kernel
theorem dL_holds_307 : decode cL_holds 307 = .ok (.ifCond .le 7, 3) := by decide +kernel
theorem dL_holds_310 : decode cL_holds 310 = .ok (.iconst (-1), 1) := by decide +kernel
theorem dL_holds_311 : decode cL_holds 311 = .ok (.goto 4, 3) := by decide +kernel
theorem dL_holds_314 : decode cL_holds 314 = .ok (.iconst 0, 1) := by decide +kernel
theorem dL_holds_315 : decode cL_holds 315 = .ok (.istore 24, 2) := by decide +kernel
theorem dL_holds_317 : decode cL_holds 317 = .ok (.iload 24, 2) := by decide +kernel
theorem dL_holds_319 : decode cL_holds 319 = .ok (.ifCond .ge 14, 3) := by decide +kernel
theorem dL_holds_322 : decode cL_holds 322 = .ok (.iload 20, 2) := by decide +kernel
theorem dL_holds_324 : decode cL_holds 324 = .ok (.aload 6, 2) := by decide +kernel
theorem dL_holds_326 : decode cL_holds 326 = .ok (.bipush 20, 2) := by decide +kernel
theorem dL_holds_328 : decode cL_holds 328 = .ok (.iaload, 1) := by decide +kernel
theorem dL_holds_329 : decode cL_holds 329 = .ok (.irem, 1) := by decide +kernel
theorem dL_holds_330 : decode cL_holds 330 = .ok (.goto 5, 3) := by decide +kernel
theorem dL_holds_333 : decode cL_holds 333 = .ok (.iload 22, 2) := by decide +kernel
theorem dL_holds_335 : decode cL_holds 335 = .ok (.istore 22, 2) := by decide +kernel
theorem dL_holds_337 : decode cL_holds 337 = .ok (.iload 24, 2) := by decide +kernel
theorem dL_holds_339 : decode cL_holds 339 = .ok (.ifCond .eq 24, 3) := by decide +kernel
theorem dL_holds_342 : decode cL_holds 342 = .ok (.aload_n 1, 1) := by decide +kernel
theorem dL_holds_343 : decode cL_holds 343 = .ok (.aload 6, 2) := by decide +kernel
theorem dL_holds_345 : decode cL_holds 345 = .ok (.iload 24, 2) := by decide +kernel
theorem dL_holds_347 : decode cL_holds 347 = .ok (.ifCond .le 7, 3) := by decide +kernel
theorem dL_holds_350 : decode cL_holds 350 = .ok (.iconst 1, 1) := by decide +kernel
theorem dL_holds_351 : decode cL_holds 351 = .ok (.goto 4, 3) := by decide +kernel
theorem dL_holds_354 : decode cL_holds 354 = .ok (.iconst 0, 1) := by decide +kernel
theorem dL_holds_355 : decode cL_holds 355 = .ok (.iload 20, 2) := by decide +kernel
theorem dL_holds_357 : decode cL_holds 357 = .ok (.invokestatic 186, 3) := by decide +kernel
theorem dL_holds_360 : decode cL_holds 360 = .ok (.goto 77, 3) := by decide +kernel
theorem dL_holds_363 : decode cL_holds 363 = .ok (.iload 21, 2) := by decide +kernel
theorem dL_holds_365 : decode cL_holds 365 = .ok (.bipush 8, 2) := by decide +kernel
theorem dL_holds_367 : decode cL_holds 367 = .ok (.if_icmp .le 33, 3) := by decide +kernel
theorem dL_holds_370 : decode cL_holds 370 = .ok (.aload_n 1, 1) := by decide +kernel
theorem dL_holds_371 : decode cL_holds 371 = .ok (.aload 5, 2) := by decide +kernel
theorem dL_holds_373 : decode cL_holds 373 = .ok (.aload 6, 2) := by decide +kernel
theorem dL_holds_375 : decode cL_holds 375 = .ok (.iload 21, 2) := by decide +kernel
theorem dL_holds_377 : decode cL_holds 377 = .ok (.bipush 27, 2) := by decide +kernel
theorem dL_holds_379 : decode cL_holds 379 = .ok (.isub, 1) := by decide +kernel
theorem dL_holds_380 : decode cL_holds 380 = .ok (.ifCond .ge 7, 3) := by decide +kernel
theorem dL_holds_383 : decode cL_holds 383 = .ok (.iconst 2, 1) := by decide +kernel
theorem dL_holds_384 : decode cL_holds 384 = .ok (.goto 8, 3) := by decide +kernel
theorem dL_holds_387 : decode cL_holds 387 = .ok (.iload 21, 2) := by decide +kernel
theorem dL_holds_389 : decode cL_holds 389 = .ok (.bipush 27, 2) := by decide +kernel
theorem dL_holds_391 : decode cL_holds 391 = .ok (.isub, 1) := by decide +kernel
theorem dL_holds_392 : decode cL_holds 392 = .ok (.iload 20, 2) := by decide +kernel
theorem dL_holds_394 : decode cL_holds 394 = .ok (.invokestatic 190, 3) := by decide +kernel
theorem dL_holds_397 : decode cL_holds 397 = .ok (.goto 40, 3) := by decide +kernel
theorem dL_holds_400 : decode cL_holds 400 = .ok (.aload_n 1, 1) := by decide +kernel
theorem dL_holds_401 : decode cL_holds 401 = .ok (.aload_n 2, 1) := by decide +kernel
theorem dL_holds_402 : decode cL_holds 402 = .ok (.aload_n 3, 1) := by decide +kernel
theorem dL_holds_403 : decode cL_holds 403 = .ok (.aload 4, 2) := by decide +kernel
theorem dL_holds_405 : decode cL_holds 405 = .ok (.iload 21, 2) := by decide +kernel
theorem dL_holds_407 : decode cL_holds 407 = .ok (.iconst 3, 1) := by decide +kernel
theorem dL_holds_408 : decode cL_holds 408 = .ok (.if_icmp .le 7, 3) := by decide +kernel
theorem dL_holds_411 : decode cL_holds 411 = .ok (.iconst 3, 1) := by decide +kernel
theorem dL_holds_412 : decode cL_holds 412 = .ok (.goto 5, 3) := by decide +kernel
theorem dL_holds_415 : decode cL_holds 415 = .ok (.iload 21, 2) := by decide +kernel
theorem dL_holds_417 : decode cL_holds 417 = .ok (.iload 21, 2) := by decide +kernel
theorem dL_holds_419 : decode cL_holds 419 = .ok (.iconst 4, 1) := by decide +kernel
theorem dL_holds_420 : decode cL_holds 420 = .ok (.if_icmp .ne 12, 3) := by decide +kernel
theorem dL_holds_423 : decode cL_holds 423 = .ok (.iload 20, 2) := by decide +kernel
theorem dL_holds_425 : decode cL_holds 425 = .ok (.iconst 5, 1) := by decide +kernel
theorem dL_holds_426 : decode cL_holds 426 = .ok (.idiv, 1) := by decide +kernel
theorem dL_holds_427 : decode cL_holds 427 = .ok (.iconst 5, 1) := by decide +kernel
theorem dL_holds_428 : decode cL_holds 428 = .ok (.imul, 1) := by decide +kernel
theorem dL_holds_429 : decode cL_holds 429 = .ok (.goto 5, 3) := by decide +kernel
theorem dL_holds_432 : decode cL_holds 432 = .ok (.iload 20, 2) := by decide +kernel
theorem dL_holds_434 : decode cL_holds 434 = .ok (.invokestatic 194, 3) := by decide +kernel
theorem dL_holds_437 : decode cL_holds 437 = .ok (.istore 17, 2) := by decide +kernel
theorem dL_holds_439 : decode cL_holds 439 = .ok (.aload_n 2, 1) := by decide +kernel
theorem dL_holds_440 : decode cL_holds 440 = .ok (.aload_n 3, 1) := by decide +kernel
theorem dL_holds_441 : decode cL_holds 441 = .ok (.aload 4, 2) := by decide +kernel
theorem dL_holds_443 : decode cL_holds 443 = .ok (.aload 5, 2) := by decide +kernel
theorem dL_holds_445 : decode cL_holds 445 = .ok (.aload 6, 2) := by decide +kernel
theorem dL_holds_447 : decode cL_holds 447 = .ok (.aload 7, 2) := by decide +kernel
theorem dL_holds_449 : decode cL_holds 449 = .ok (.aload 8, 2) := by decide +kernel
theorem dL_holds_451 : decode cL_holds 451 = .ok (.aload 9, 2) := by decide +kernel
theorem dL_holds_453 : decode cL_holds 453 = .ok (.aload 10, 2) := by decide +kernel
theorem dL_holds_455 : decode cL_holds 455 = .ok (.aload 11, 2) := by decide +kernel
theorem dL_holds_457 : decode cL_holds 457 = .ok (.aload 12, 2) := by decide +kernel
theorem dL_holds_459 : decode cL_holds 459 = .ok (.aload 13, 2) := by decide +kernel
theorem dL_holds_461 : decode cL_holds 461 = .ok (.aload 14, 2) := by decide +kernel
theorem dL_holds_463 : decode cL_holds 463 = .ok (.aload 15, 2) := by decide +kernel
theorem dL_holds_465 : decode cL_holds 465 = .ok (.invokestatic 178, 3) := by decide +kernel
theorem dL_holds_468 : decode cL_holds 468 = .ok (.aload 7, 2) := by decide +kernel
theorem dL_holds_470 : decode cL_holds 470 = .ok (.bipush 6, 2) := by decide +kernel
theorem dL_holds_472 : decode cL_holds 472 = .ok (.iaload, 1) := by decide +kernel
theorem dL_holds_473 : decode cL_holds 473 = .ok (.ifCond .ne 7, 3) := by decide +kernel
theorem dL_holds_476 : decode cL_holds 476 = .ok (.iconst 1, 1) := by decide +kernel
theorem dL_holds_477 : decode cL_holds 477 = .ok (.goto 4, 3) := by decide +kernel
theorem dL_holds_480 : decode cL_holds 480 = .ok (.iconst 0, 1) := by decide +kernel
theorem dL_holds_481 : decode cL_holds 481 = .ok (.istore 18, 2) := by decide +kernel
theorem dL_holds_483 : decode cL_holds 483 = .ok (.iload 17, 2) := by decide +kernel
theorem dL_holds_485 : decode cL_holds 485 = .ok (.ifCond .eq 89, 3) := by decide +kernel
theorem dL_holds_488 : decode cL_holds 488 = .ok (.iload 18, 2) := by decide +kernel
theorem dL_holds_490 : decode cL_holds 490 = .ok (.ifCond .eq 84, 3) := by decide +kernel
theorem dL_holds_493 : decode cL_holds 493 = .ok (.iload 24, 2) := by decide +kernel
theorem dL_holds_495 : decode cL_holds 495 = .ok (.ifCond .eq 28, 3) := by decide +kernel
theorem dL_holds_498 : decode cL_holds 498 = .ok (.iload 23, 2) := by decide +kernel
theorem dL_holds_500 : decode cL_holds 500 = .ok (.ifCond .eq 23, 3) := by decide +kernel
theorem dL_holds_503 : decode cL_holds 503 = .ok (.aload_n 1, 1) := by decide +kernel
theorem dL_holds_504 : decode cL_holds 504 = .ok (.invokevirtual 168, 3) := by decide +kernel
theorem dL_holds_507 : decode cL_holds 507 = .ok (.aload 6, 2) := by decide +kernel
theorem dL_holds_509 : decode cL_holds 509 = .ok (.aload 15, 2) := by decide +kernel
theorem dL_holds_511 : decode cL_holds 511 = .ok (.aload 16, 2) := by decide +kernel
theorem dL_holds_513 : decode cL_holds 513 = .ok (.iload 22, 2) := by decide +kernel
theorem dL_holds_515 : decode cL_holds 515 = .ok (.iload 24, 2) := by decide +kernel
theorem dL_holds_517 : decode cL_holds 517 = .ok (.invokestatic 198, 3) := by decide +kernel
theorem dL_holds_520 : decode cL_holds 520 = .ok (.if_icmp .ne 51, 3) := by decide +kernel
theorem dL_holds_523 : decode cL_holds 523 = .ok (.aload_n 1, 1) := by decide +kernel
theorem dL_holds_524 : decode cL_holds 524 = .ok (.aload_n 2, 1) := by decide +kernel
theorem dL_holds_525 : decode cL_holds 525 = .ok (.aload_n 3, 1) := by decide +kernel
theorem dL_holds_526 : decode cL_holds 526 = .ok (.aload 6, 2) := by decide +kernel
theorem dL_holds_528 : decode cL_holds 528 = .ok (.aload 15, 2) := by decide +kernel
theorem dL_holds_530 : decode cL_holds 530 = .ok (.iload 20, 2) := by decide +kernel
theorem dL_holds_532 : decode cL_holds 532 = .ok (.bipush 7, 2) := by decide +kernel
theorem dL_holds_534 : decode cL_holds 534 = .ok (.idiv, 1) := by decide +kernel
theorem dL_holds_535 : decode cL_holds 535 = .ok (.invokestatic 201, 3) := by decide +kernel
theorem dL_holds_538 : decode cL_holds 538 = .ok (.ifCond .eq 33, 3) := by decide +kernel
theorem dL_holds_541 : decode cL_holds 541 = .ok (.iload 19, 2) := by decide +kernel
theorem dL_holds_543 : decode cL_holds 543 = .ok (.iconst 3, 1) := by decide +kernel
theorem dL_holds_544 : decode cL_holds 544 = .ok (.irem, 1) := by decide +kernel
theorem dL_holds_545 : decode cL_holds 545 = .ok (.ifCond .gt 22, 3) := by decide +kernel
theorem dL_holds_548 : decode cL_holds 548 = .ok (.aload_n 1, 1) := by decide +kernel
theorem dL_holds_549 : decode cL_holds 549 = .ok (.aload 7, 2) := by decide +kernel
theorem dL_holds_551 : decode cL_holds 551 = .ok (.aload 10, 2) := by decide +kernel
theorem dL_holds_553 : decode cL_holds 553 = .ok (.aload 11, 2) := by decide +kernel
theorem dL_holds_555 : decode cL_holds 555 = .ok (.aload 12, 2) := by decide +kernel
theorem dL_holds_557 : decode cL_holds 557 = .ok (.aload 13, 2) := by decide +kernel
theorem dL_holds_559 : decode cL_holds 559 = .ok (.aload 14, 2) := by decide +kernel
theorem dL_holds_561 : decode cL_holds 561 = .ok (.invokestatic 205, 3) := by decide +kernel
theorem dL_holds_564 : decode cL_holds 564 = .ok (.ifCond .eq 7, 3) := by decide +kernel
theorem dL_holds_567 : decode cL_holds 567 = .ok (.iconst 1, 1) := by decide +kernel
theorem dL_holds_568 : decode cL_holds 568 = .ok (.goto 4, 3) := by decide +kernel
theorem dL_holds_571 : decode cL_holds 571 = .ok (.iconst 0, 1) := by decide +kernel
theorem dL_holds_572 : decode cL_holds 572 = .ok (.istore 17, 2) := by decide +kernel
theorem dL_holds_574 : decode cL_holds 574 = .ok (.iinc 19 1, 3) := by decide +kernel
theorem dL_holds_577 : decode cL_holds 577 = .ok (.goto (-413), 3) := by decide +kernel
theorem dL_holds_580 : decode cL_holds 580 = .ok (.iload 17, 2) := by decide +kernel
theorem dL_holds_582 : decode cL_holds 582 = .ok (.ireturn, 1) := by decide +kernel
theorem dL_isHeld_0 : decode cL_isHeld 0 = .ok (.aload_n 0, 1) := by decide +kernel
theorem dL_isHeld_1 : decode cL_isHeld 1 = .ok (.invokestatic 209, 3) := by decide +kernel
theorem dL_isHeld_4 : decode cL_isHeld 4 = .ok (.ireturn, 1) := by decide +kernel
theorem dL_isHeld_5 : decode cL_isHeld 5 = .ok (.astore_n 1, 1) := by decide +kernel
theorem dL_isHeld_6 : decode cL_isHeld 6 = .ok (.iconst 0, 1) := by decide +kernel
theorem dL_isHeld_7 : decode cL_isHeld 7 = .ok (.ireturn, 1) := by decide +kernel
theorem dL_isHeld_8 : decode cL_isHeld 8 = .ok (.astore_n 1, 1) := by decide +kernel
theorem dL_isHeld_9 : decode cL_isHeld 9 = .ok (.iconst 0, 1) := by decide +kernel
theorem dL_isHeld_10 : decode cL_isHeld 10 = .ok (.ireturn, 1) := by decide +kernel
theorem dL_isHeld_11 : decode cL_isHeld 11 = .ok (.astore_n 1, 1) := by decide +kernel
theorem dL_isHeld_12 : decode cL_isHeld 12 = .ok (.iconst 0, 1) := by decide +kernel
theorem dL_isHeld_13 : decode cL_isHeld 13 = .ok (.ireturn, 1) := by decide +kernel
theorem dL_law_0 : decode cL_law 0 = .ok (.aload_n 0, 1) := by decide +kernel
theorem dL_law_1 : decode cL_law 1 = .ok (.invokestatic 217, 3) := by decide +kernel
theorem dL_law_4 : decode cL_law 4 = .ok (.ireturn, 1) := by decide +kernel
end
section
/-! THE SMALL MACHINE: a region of cells whose addresses are b + 1, b + 2 ..; memory as functions; one judgement 'zV' with a row an instruction -/
/-- memory: ints by (cell, place), references by (cell, place) (0: null), shapes (class or kind of array, length), how many cells -/
abbrev zM : Type := (Nat → Nat → Int32) × (Nat → Nat → Nat) × (Nat → Nat × Nat) × Nat
def zI (M : zM) (a k : Nat) : Int32 := M.1 a k
def zR (M : zM) (a k : Nat) : Nat := M.2.1 a k
def zn (M : zM) : Nat := M.2.2.2
/-- the kind of a cell: below 100 the class; 100 .. arrays; 255: no cell -/
def zk (M : zM) (a : Nat) : Nat := if 1 ≤ a ∧ a ≤ M.2.2.2 then (M.2.2.1 a).1 else 255
def zl (M : zM) (a : Nat) : Nat := (M.2.2.1 a).2
def zsI (M : zM) (a k : Nat) (v : Int32) : zM := (fun x y => if x = a ∧ y = k then v else M.1 x y, M.2)
def zsR (M : zM) (a k : Nat) (v : Nat) : zM := (M.1, fun x y => if x = a ∧ y = k then v else M.2.1 x y, M.2.2)
/-- a new cell -/
def zsN (M : zM) (c n : Nat) : zM := (fun x y => if x = M.2.2.2 + 1 then 0 else M.1 x y, fun x y => if x = M.2.2.2 + 1 then 0 else M.2.1 x y, fun x => if x = M.2.2.2 + 1 then (c, n) else M.2.2.1 x, M.2.2.2 + 1)
def zr (b r : Nat) : Value := if r = 0 then .null else .ref (b + r)
theorem zr_cat (b r : Nat) : (zr b r).category = 1 := by unfold zr; split <;> rfl
theorem zr_pos {b r : Nat} (h : 1 ≤ r) : zr b r = .ref (b + r) := if_neg (by omega)
theorem zr_0 {b : Nat} : zr b 0 = .null := rfl
theorem zk_1 {M : zM} {a c : Nat} (h : zk M a = c) (hc : c < 255) : 1 ≤ a ∧ a ≤ M.2.2.2 ∧ (M.2.2.1 a).1 = c := by
  unfold zk at h
  split at h
  next q => exact ⟨q.1, q.2, h⟩
  next => omega
/-- the combinators of the printed methods -/
def zg {α : Type} (c : Prop) [Decidable c] (k : Option α) : Option α := if c then k else none
def zlet {α β : Type} (x : α) (f : α → β) : β := f x
def zb {β : Type} (x : Option (Int32 × zM)) (f : Int32 → zM → Option β) : Option β := match x with
  | none => none
  | some p => f p.1 p.2
def zbx (x : Option (Nat × Int32 × zM)) (f : Int32 → zM → Option (Nat × Int32 × zM)) : Option (Nat × Int32 × zM) := match x with
  | none => none
  | some (0, r, M) => f r M
  | some (t + 1, _, M) => some (t + 1, 0, M)
theorem zg_of {α : Type} {c : Prop} [Decidable c] {k : Option α} {o : α} (h : zg c k = some o) : c ∧ k = some o := by
  unfold zg at h
  split at h
  next q => exact ⟨q, h⟩
  next => cases h
theorem zlet_of {α β : Type} {x y : α} {f : α → β} {r : β} (h : zlet x f = r) (e : y = x) : f y = r := by subst e; exact h
theorem zb_of {β : Type} {x : Option (Int32 × zM)} {f : Int32 → zM → Option β} {o : β} (h : zb x f = some o) : ∃ (r : Int32) (M : zM), x = some (r, M) ∧ f r M = some o := by
  cases x with
  | none => cases h
  | some p => exact ⟨p.1, p.2, rfl, h⟩
theorem zbx_of {x : Option (Nat × Int32 × zM)} {f : Int32 → zM → Option (Nat × Int32 × zM)} {o : Nat × Int32 × zM} (h : zbx x f = some o) : (∃ (r : Int32) (M : zM), x = some (0, r, M) ∧ f r M = some o) ∨ ∃ (t : Nat) (r : Int32) (M : zM), x = some (t + 1, r, M) ∧ o = (t + 1, 0, M) := by
  match x, h with
  | none, h => cases h
  | some (0, r, M), h => exact Or.inl ⟨r, M, rfl, h⟩
  | some (t + 1, r, M), h => exact Or.inr ⟨t, r, M, rfl, (Option.some.inj h).symm⟩
theorem z_t {α : Type} {c : Prop} [Decidable c] {a b r : α} (hc : c) (h : (if c then a else b) = r) : a = r := by rwa [if_pos hc] at h
theorem z_f {α : Type} {c : Prop} [Decidable c] {a b r : α} (hc : ¬ c) (h : (if c then a else b) = r) : b = r := by rwa [if_neg hc] at h
/-- the classes, in the order of vwCl -/
def zcl : Nat → vw_C
  | 0 => (RX0, TX0, 5)
  | 1 => (RX1, TX1, 7)
  | 2 => (RX2, TX2, 17)
  | 3 => (RX3, TX3, 3)
  | 4 => (RX4, TX4, 6)
  | 5 => (RX5, TX5, 6)
  | 6 => (RX6, TX6, 4)
  | _ => (RX7, TX7, 6)
def zty : Nat → Nat → FieldType
  | 0 => tyX0
  | 1 => tyX1
  | 2 => tyX2
  | 3 => tyX3
  | 4 => tyX4
  | 5 => tyX5
  | 6 => tyX6
  | _ => tyX7
def zrt : FieldType → Bool
  | .object _ => true
  | .array _ => true
  | _ => false
def ztys (T : Nat → ClassId) : List (ClassId × FieldType) := [(T 100, .int), (T 101, .boolean), (T 102, .char), (T 103, .long), (T 110, .object RX1), (T 111, .object RX3), (T 112, .object RX4)]
def zv (b : Nat) (M : zM) (a ci k : Nat) : Value := if zrt (zty ci k) = true then zr b (zR M a k) else .int (zI M a k)
def zfs (b : Nat) (M : zM) (a ci : Nat) : List Value := (List.range (zcl ci).2.2).map (zv b M a ci)
def zop (b r : Nat) : Option Nat := if r = 0 then none else some (b + r)
theorem zop_rf (b r : Nat) : va_rf (zop b r) = zr b r := by unfold zop zr; split <;> rfl
/-- a long of an array of longs, kept among the references -/
def zL (M : zM) (a k : Nat) : Int64 := Int64.ofNat (zR M a k)
def zsL (M : zM) (a k : Nat) (x : Int64) : zM := zsR M a k x.toUInt64.toNat
theorem zL_of (x : Int64) : Int64.ofNat x.toUInt64.toNat = x := by
  apply Int64.toBitVec_inj.mp
  show BitVec.ofNat 64 x.toBitVec.toNat = _
  simp
def zrem (x y : Int32) : Int32 := x - x / y * y
def zlrem (x y : Int64) : Int64 := x - x / y * y
def zc (T : Nat → ClassId) (b : Nat) (M : zM) (a : Nat) : va_E :=
  if (M.2.2.1 a).1 < 100 then .inr ((M.2.2.1 a).1, zfs b M a (M.2.2.1 a).1)
  else if (M.2.2.1 a).1 = 103 then .inl (T 103, ((M.2.2.1 a).2, .inr (.inl (fun i => Int64.ofNat (zR M a i)))))
  else if (M.2.2.1 a).1 < 110 then .inl (T (M.2.2.1 a).1, ((M.2.2.1 a).2, .inl (zI M a)))
  else .inl (T (M.2.2.1 a).1, ((M.2.2.1 a).2, .inr (.inr (.inr (.inr (fun i => zop b (zR M a i)))))))
def zw (T : Nat → ClassId) (b : Nat) (M : zM) : va_W := (List.range M.2.2.2).map fun j => (b + (j + 1), zc T b M (j + 1))
theorem zw_get {T : Nat → ClassId} {b : Nat} {M : zM} {a : Nat} (h1 : 1 ≤ a) (h2 : a ≤ M.2.2.2) : (zw T b M)[a - 1]? = some (b + a, zc T b M a) := by
  unfold zw
  rw [List.getElem?_map, List.getElem?_range (by omega)]
  simp only [Option.map_some]
  rw [show a - 1 + 1 = a by omega]
theorem zw_at {T : Nat → ClassId} {b : Nat} {M : zM} {k : Nat} {q : Nat × va_E} (h : (zw T b M)[k]? = some q) : k < M.2.2.2 ∧ q = (b + (k + 1), zc T b M (k + 1)) := by
  unfold zw at h
  rw [List.getElem?_map] at h
  rcases Nat.lt_or_ge k M.2.2.2 with hk | hk
  · rw [List.getElem?_range hk] at h
    exact ⟨hk, (Option.some.inj h).symm⟩
  · rw [List.getElem?_eq_none (by simpa using hk)] at h
    cases h
theorem zw_len (T : Nat → ClassId) (b : Nat) (M : zM) : (zw T b M).length = M.2.2.2 := by simp [zw]
theorem zc_obj {T : Nat → ClassId} {b : Nat} {M : zM} {a ci : Nat} (h : (M.2.2.1 a).1 = ci) (hc : ci < 100) : zc T b M a = .inr (ci, zfs b M a ci) := by
  unfold zc; rw [h, if_pos hc]
theorem zc_int {T : Nat → ClassId} {b : Nat} {M : zM} {a c : Nat} (h : (M.2.2.1 a).1 = c) (hc : 100 ≤ c) (hc2 : c < 110) (hc3 : ¬ c = 103 := by decide) : zc T b M a = .inl (T c, (zl M a, .inl (zI M a))) := by
  unfold zc; rw [h, if_neg (by omega), if_neg hc3, if_pos hc2]; rfl
theorem zc_lng {T : Nat → ClassId} {b : Nat} {M : zM} {a : Nat} (h : (M.2.2.1 a).1 = 103) : zc T b M a = .inl (T 103, (zl M a, .inr (.inl (zL M a)))) := by
  unfold zc; rw [h, if_neg (by omega), if_pos rfl]; rfl
theorem zc_ref {T : Nat → ClassId} {b : Nat} {M : zM} {a c : Nat} (h : (M.2.2.1 a).1 = c) (hc : 110 ≤ c) : zc T b M a = .inl (T c, (zl M a, .inr (.inr (.inr (.inr (fun i => zop b (zR M a i))))))) := by
  unfold zc; rw [h, if_neg (by omega), if_neg (by omega), if_neg (by omega)]; rfl
/-- a cell that is written anew, the others as they were -/
theorem zw_set {T : Nat → ClassId} {b : Nat} {M M' : zM} {a : Nat} (h1 : 1 ≤ a) (h2 : a ≤ M.2.2.2) (hn : M'.2.2.2 = M.2.2.2) (ho : ∀ x, x ≠ a → zc T b M' x = zc T b M x) : (zw T b M).set (a - 1) (b + a, zc T b M' a) = zw T b M' := by
  apply List.ext_getElem?
  intro k
  by_cases hk : k = a - 1
  · subst hk
    rw [List.getElem?_set_self (by rw [zw_len]; omega), zw_get h1 (by omega)]
  · rw [List.getElem?_set_ne (Ne.symm hk)]
    rcases Nat.lt_or_ge k M.2.2.2 with hl | hl
    · have e1 := zw_get (T := T) (b := b) (M := M) (a := k + 1) (by omega) (by omega)
      have e2 := zw_get (T := T) (b := b) (M := M') (a := k + 1) (by omega) (by omega)
      rw [Nat.add_sub_cancel] at e1 e2
      rw [e1, e2, ho _ (by omega)]
    · rw [List.getElem?_eq_none (by rw [zw_len]; omega), List.getElem?_eq_none (by rw [zw_len]; omega)]
theorem zw_push {T : Nat → ClassId} {b : Nat} {M M' : zM} (hn : M'.2.2.2 = M.2.2.2 + 1) (ho : ∀ x, x ≤ M.2.2.2 → zc T b M' x = zc T b M x) : zw T b M ++ [(b + (M.2.2.2 + 1), zc T b M' (M.2.2.2 + 1))] = zw T b M' := by
  apply List.ext_getElem?
  intro k
  rcases Nat.lt_or_ge k M.2.2.2 with hl | hl
  · rw [List.getElem?_append_left (by rw [zw_len]; exact hl)]
    have e1 := zw_get (T := T) (b := b) (M := M) (a := k + 1) (by omega) (by omega)
    have e2 := zw_get (T := T) (b := b) (M := M') (a := k + 1) (by omega) (by omega)
    rw [Nat.add_sub_cancel] at e1 e2
    rw [e1, e2, ho _ (by omega)]
  · rw [List.getElem?_append_right (by rw [zw_len]; exact hl), zw_len]
    rcases Nat.eq_or_lt_of_le hl with he | he
    · subst he
      have e2 := zw_get (T := T) (b := b) (M := M') (a := M.2.2.2 + 1) (by omega) (by omega)
      rw [Nat.add_sub_cancel] at e2
      rw [e2, Nat.sub_self]
      rfl
    · rw [List.getElem?_eq_none (by simp; omega), List.getElem?_eq_none (by rw [zw_len]; omega)]
theorem zfs_get {b : Nat} {M : zM} {a ci k : Nat} (h : k < (zcl ci).2.2) : (zfs b M a ci)[k]? = some (zv b M a ci k) := by
  unfold zfs
  rw [List.getElem?_map, List.getElem?_range h]
  rfl
theorem zfs_len (b : Nat) (M : zM) (a ci : Nat) : (zfs b M a ci).length = (zcl ci).2.2 := by simp [zfs]
theorem zfs_set {b : Nat} {M M' : zM} {a ci k : Nat} (h : k < (zcl ci).2.2) (ho : ∀ x, x ≠ k → zv b M' a ci x = zv b M a ci x) : (zfs b M a ci).set k (zv b M' a ci k) = zfs b M' a ci := by
  apply List.ext_getElem?
  intro x
  by_cases hx : x = k
  · subst hx
    rw [List.getElem?_set_self (by rw [zfs_len]; exact h), zfs_get h]
  · rw [List.getElem?_set_ne (Ne.symm hx)]
    rcases Nat.lt_or_ge x (zcl ci).2.2 with hl | hl
    · rw [zfs_get hl, zfs_get hl, ho x hx]
    · rw [List.getElem?_eq_none (by rw [zfs_len]; omega), List.getElem?_eq_none (by rw [zfs_len]; omega)]
/-- cells other than the one that is written -/
theorem zsI_off {T : Nat → ClassId} {b : Nat} {M : zM} {a k : Nat} {v : Int32} {x : Nat} (h : x ≠ a) : zc T b (zsI M a k v) x = zc T b M x := by
  have e : zI (zsI M a k v) x = zI M x := by funext y; simp [zI, zsI, h]
  have e2 : zR (zsI M a k v) x = zR M x := rfl
  have e3 : ∀ ci, zfs b (zsI M a k v) x ci = zfs b M x ci := fun ci => by
    unfold zfs
    refine List.map_congr_left fun j _ => ?_
    unfold zv; rw [e, e2]
  unfold zc
  rw [e]
  show (if (M.2.2.1 x).1 < 100 then _ else _) = _
  rw [e3]
  rfl
theorem zsR_off {T : Nat → ClassId} {b : Nat} {M : zM} {a k : Nat} {v : Nat} {x : Nat} (h : x ≠ a) : zc T b (zsR M a k v) x = zc T b M x := by
  have e : zI (zsR M a k v) x = zI M x := rfl
  have e2 : zR (zsR M a k v) x = zR M x := by funext y; simp [zR, zsR, h]
  have e3 : ∀ ci, zfs b (zsR M a k v) x ci = zfs b M x ci := fun ci => by
    unfold zfs
    refine List.map_congr_left fun j _ => ?_
    unfold zv; rw [e, e2]
  unfold zc
  rw [e, e2]
  show (if (M.2.2.1 x).1 < 100 then _ else _) = _
  rw [e3]
  rfl
theorem zsN_off {T : Nat → ClassId} {b : Nat} {M : zM} {c n : Nat} {x : Nat} (h : x ≤ M.2.2.2) : zc T b (zsN M c n) x = zc T b M x := by
  have hx : x ≠ M.2.2.2 + 1 := by omega
  have e : zI (zsN M c n) x = zI M x := by funext y; simp [zI, zsN, hx]
  have e2 : zR (zsN M c n) x = zR M x := by funext y; simp [zR, zsN, hx]
  have e0 : (zsN M c n).2.2.1 x = M.2.2.1 x := by simp [zsN, hx]
  have e3 : ∀ ci, zfs b (zsN M c n) x ci = zfs b M x ci := fun ci => by
    unfold zfs
    refine List.map_congr_left fun j _ => ?_
    unfold zv; rw [e, e2]
  unfold zc
  rw [e, e2, e0, e3]
end
section
def gtb : List Cond := lw_tbl.filter goodWord
theorem gtb_in {w : Cond} (h : w ∈ lw_tbl) (g : goodWord w = true) : w ∈ gtb := List.mem_filter.mpr ⟨h, g⟩
theorem gtb_good {ws : List Cond} (h : ∀ w ∈ ws, w ∈ gtb) : GoodIn gtb ws := fun w hw => ⟨h w hw, good_of_word (List.mem_filter.mp (h w hw)).2⟩
/-- the words that speak of nest mates: they stay for another reason than those of gtb -/
def znest : Cond → Bool
  | .fieldLinkNest .. => true
  | .methodLinkNest .. => true
  | _ => false
def znw : List Cond := lw_tbl.filter znest
theorem znw_in {w : Cond} (i : Nat) (h : lw_tbl[i]? = some w) (g : znest w = true) : w ∈ znw := List.mem_filter.mpr ⟨List.mem_of_getElem? h, g⟩
/-- a field, as a method's class links it: class ci, place k -/
def zFl (own : String) (index ci k : Nat) : Prop :=
  vwCl[ci]? = some (zcl ci) ∧ ci < 100 ∧ k < (zcl ci).2.2 ∧ (∀ w ∈ u_ws (zcl ci).1 (zcl ci).2.1 (zcl ci).2.2, w ∈ gtb) ∧ (∀ j, j < (zcl ci).2.2 → parseFieldDescriptor ((zcl ci).2.1 j).2.2.1 = some (zty ci j)) ∧
  (∀ a, a < (zcl ci).2.2 → ∀ b, b < (zcl ci).2.2 → a ≠ b → ((zcl ci).2.1 a).2.1 ≠ ((zcl ci).2.1 b).2.1) ∧
  ((Cond.fieldLink own index ((zcl ci).2.1 k).1 ((zcl ci).2.1 k).2.1 ((zcl ci).2.1 k).2.2.1) ∈ gtb ∨ ∃ host : String, (Cond.fieldLinkNest own index ((zcl ci).2.1 k).1 ((zcl ci).2.1 k).2.1 ((zcl ci).2.1 k).2.2.1 host) ∈ znw)
/-- a method, as the tables have it -/
def zMd (y : MethodName) (bytes : ByteArray) (maxL : Nat) (ret : Option FieldType) (n : Nat) : Prop :=
  (Cond.code y bytes maxL ret) ∈ gtb ∧ (Cond.initialized y.cls) ∈ gtb ∧ (y.cls ≠ "java/lang/invoke/MethodHandle" ∧ y.cls ≠ "java/lang/invoke/VarHandle" ∧ (parseMethodDescriptor y.desc).map (fun d => d.parameters.length) = some n) ∧ maxL ≤ 45
def zNm : List String := ["java/lang/RuntimeException", "java/lang/Exception"]
def zEx : Nat → String
  | 1 => "java/lang/IndexOutOfBoundsException"
  | 2 => "java/lang/IllegalArgumentException"
  | _ => "java/lang/IllegalStateException"
def zIc : Nat → Nat
  | 1 => 217
  | 2 => 59
  | _ => 76
end
section
/-! descriptors of many parameters: read parameter by parameter -/
theorem zpE (n : Nat) (cs : List Char) : ClassFile.parametersPrefix n (')' :: cs) = some ([], cs) := by cases n <;> rfl
theorem zpI {n : Nat} {cs r : List Char} {ts : List FieldType} (h : ClassFile.parametersPrefix n cs = some (ts, r)) : ClassFile.parametersPrefix (n + 1) ('I' :: cs) = some (.int :: ts, r) := by
  unfold ClassFile.parametersPrefix
  simp [ClassFile.fieldTypePrefix, h]
theorem zpZ {n : Nat} {cs r : List Char} {ts : List FieldType} (h : ClassFile.parametersPrefix n cs = some (ts, r)) : ClassFile.parametersPrefix (n + 1) ('Z' :: cs) = some (.boolean :: ts, r) := by
  unfold ClassFile.parametersPrefix
  simp [ClassFile.fieldTypePrefix, h]
theorem zpAI {n : Nat} {cs r : List Char} {ts : List FieldType} (h : ClassFile.parametersPrefix n cs = some (ts, r)) : ClassFile.parametersPrefix (n + 1) ('[' :: 'I' :: cs) = some (.array .int :: ts, r) := by
  unfold ClassFile.parametersPrefix
  simp [ClassFile.fieldTypePrefix, h]
theorem zpAJ {n : Nat} {cs r : List Char} {ts : List FieldType} (h : ClassFile.parametersPrefix n cs = some (ts, r)) : ClassFile.parametersPrefix (n + 1) ('[' :: 'J' :: cs) = some (.array .long :: ts, r) := by
  unfold ClassFile.parametersPrefix
  simp [ClassFile.fieldTypePrefix, h]
theorem zpD {s : String} {cs : List Char} {ts : List FieldType} {n : Nat} (h : s.toList = '(' :: cs) (hp : ClassFile.parametersPrefix 255 cs = some (ts, ['V'])) (hu : (ts.map ClassFile.FieldType.units).sum ≤ 255) (hn : ts.length = n) : (parseMethodDescriptor s).map (fun d => d.parameters.length) = some n := by
  unfold ClassFile.parseMethodDescriptor
  rw [h]
  simp only [hp, Option.bind_eq_bind, Option.bind_some]
  rw [if_pos (by exact hu)]
  simp [hn]
end
section
def zWs (y : MethodName) (cc : ByteArray) (nL : Nat) (ret : Option FieldType) : List Cond := Cond.code y cc nL ret :: gtb
def zRm (K mc ms : Nat) : Room := { frames := K, cells := mc, slots := ms, locals := 64 * K }
/-- the words of a throw that a change of the tables keeps for another reason -/
def zFw : List Cond := (vx_atS RX7 (zIc 1) (zEx 1) zNm ++ (vx_atS RX7 (zIc 2) (zEx 2) zNm ++ vx_atS RX7 (zIc 3) (zEx 3) zNm)).filter fun w => !goodWord w
theorem zFw_ok : (zFw.all fun w => w.onTables && w.keepsFace) = true := by decide +kernel
def zStr : List (Nat × String) := [(57, "no such slot"), (74, "the model has all its slots"), (96, "no such set of elements"), (117, "the entity has all its tokens"), (123, "a switch cannot be that"), (125, "the text has all its tokens"), (136, "the normal form is too long for a text"), (206, "the text is too long for its ways"), (208, "the text has a token that ways cannot have"), (215, "there is none of that number"), (222, "no such token")]
def zU (A : Nat → Prop) (U : State) (H : Heap) : Prop := vx_Zq Bundle.tN "UNASSIGNED_STACK" Bundle.steD A U H ∧ vx_Zq Bundle.tN "SUPPRESSED_SENTINEL" Bundle.listD A U H ∧ (∀ w ∈ zFw, w.before #[] U = true) ∧ ∀ q ∈ zStr, ∃ sa : Nat, vk_R RX7 q.1 q.2 sa U
theorem zU_warm {A : Nat → Prop} {s U : State} {H : Heap} (hW : s.WarmedH U.vm) (h : zU A s H) : zU A U H := by
  refine ⟨vx_Zq.moved hW.alike h.1, vx_Zq.moved hW.alike h.2.1, fun w hw => ?_, fun q hq => ?_⟩
  · have h1 := List.all_eq_true.mp zFw_ok w hw
    simp only [Bool.and_eq_true] at h1
    have h2 := Cond.before_shiftedFace (State.Shifted.of_warmed hW) w h1.2 (h.2.2.1 w hw)
    exact vx_ot_at (s := s.setVm U.vm) (U := U) (State.WarmedH.refl (s.setVm U.vm)) rfl (by unfold vx_ot; rw [h1.1]; rfl) h2
  · obtain ⟨sa, h1⟩ := h.2.2.2 q hq
    exact ⟨sa, vk_R.warm hW h1⟩
def zN (U : State) : Prop := ∀ w ∈ znw, va_Nw w U
theorem zN_warm {s U : State} (hW : s.WarmedH U.vm) (h : zN s) : zN U := by
  intro w hw
  have h1 := (List.mem_filter.mp hw).2
  have h2 := h w hw
  cases w <;> first | exact va_Nw.warmF hW h2 | exact va_Nw.warmM hW h2 | (simp [znest] at h1)
def zAO (U : State) : Prop := va_AO RX1 U ∧ va_AO RX3 U ∧ va_AO RX4 U
theorem zAO_moved {u U : State} (hvm : u.vm.Alike U.vm) (h : zAO u) : zAO U := ⟨h.1.moved hvm, h.2.1.moved hvm, h.2.2.moved hvm⟩
def zA (b n sz : Nat) : Nat → Prop := fun q => (b < q ∧ q ≤ b + n) ∨ sz ≤ q
/-- the world of a region -/
def zB (D : va_G) (T : Nat → ClassId) (b : Nat) (gr : Bool) (n0 : Nat) (M : zM) (t : State) : Prop := va_P D vwCl (zw T b M) t.heap ∧ va_K D vwCl (ztys T) t ∧ (gr = true → t.heap.size = b + M.2.2.2 + 1) ∧ (gr = false → M.2.2.2 = n0)
def zQ (ret : Option FieldType) (D : va_G) (T : Nat → ClassId) (b : Nat) (gr : Bool) (n0 : Nat) (o : Nat × Int32 × zM) (A : Nat → Prop) : Array Value → State → Outcome → State → Prop := match ret with
  | none => va_Qv (S := Unit) (fun _ => o.1 = 0) (fun _ t => zB D T b gr n0 o.2.2 t) A
  | some _ => va_Qi (S := Unit) (fun r _ => r = o.2.1 ∧ o.1 = 0) (fun _ t => zB D T b gr n0 o.2.2 t) A
def zQx (D : va_G) (T : Nat → ClassId) (b : Nat) (gr : Bool) (n0 : Nat) (o : Nat × Int32 × zM) (A : Nat → Prop) : String → State → State → Prop := vx_X (S := Unit) (fun _ => ¬ o.1 = 0) (fun E _ t => E = zEx o.1 ∧ zB D T b gr n0 o.2.2 t) A
def zPc (D : va_G) (T : Nat → ClassId) (b : Nat) (gr tz : Bool) (as : List Value) (M : zM) (sz : Nat) : Array Value → State → Prop := va_Pc as fun U => U.heap.size = sz ∧ (gr = true → sz = b + M.2.2.2 + 1) ∧ va_P D vwCl (zw T b M) U.heap ∧ va_K D vwCl (ztys T) U ∧ (tz = true → zU (zA b M.2.2.2 sz) U U.heap) ∧ (gr = true → zAO U) ∧ zN U
/-- what a method does: to the arguments as and the memory M it answers o -/
def zMet (l : Launch) (D : va_G) (T : Nat → ClassId) (b : Nat) (gr : Bool) (y : MethodName) (cc : ByteArray) (nL : Nat) (ret : Option FieldType) (K mc ms : Nat) (as : List Value) (M : zM) (o : Nat × Int32 × zM) : Prop :=
  ∀ sz, Met l y (zWs y cc nL ret) (zRm K mc ms) (zPc D T b gr false as M sz) (zQ ret D T b gr M.2.2.2 o (zA b M.2.2.2 sz)) mc ms (zA b M.2.2.2 sz)
def zMeX (l : Launch) (D : va_G) (T : Nat → ClassId) (b : Nat) (y : MethodName) (cc : ByteArray) (nL : Nat) (ret : Option FieldType) (K mc ms : Nat) (as : List Value) (M : zM) (o : Nat × Int32 × zM) : Prop :=
  ∀ sz, vx_Met l y (zWs y cc nL ret) (zRm K mc ms) (zPc D T b false true as M sz) (zQ ret D T b false M.2.2.2 o (zA b M.2.2.2 sz)) (zQx D T b false M.2.2.2 o (zA b M.2.2.2 sz)) mc ms (zA b M.2.2.2 sz)
def zX (own : String) (cc : ByteArray) (nL : Nat) (ret : Option FieldType) (ini : Bool) (K mc ms : Nat) (D : va_G) (T : Nat → ClassId) (p : Program) (R : Room) (s : State) (m : MethodId) (args : Array Value) (meth : Method) (c : Code) (A : Nat → Prop) : Prop :=
  p.tables.exec = Jvm.exec ∧ c.code = cc ∧ c.maxLocals = nL ∧ s.vm.findClass own = some m.cls ∧ (∀ w ∈ gtb, w.before args s = true) ∧ meth.locks = false ∧ meth.sig.returnType = ret ∧ (ini = true → meth.name = "<init>") ∧ True ∧ R = zRm K mc ms ∧ va_K D vwCl (ztys T) s ∧ (∀ q : Nat, s.heap.size ≤ q → A q)
def zY (D : va_G) (T : Nat → ClassId) (b : Nat) (gr tz : Bool) (n0 : Nat) (M : zM) (s : State) (H : Heap) (A : Nat → Prop) (locs : List Loc) : Prop :=
  va_P D vwCl (zw T b M) H ∧ va_D A (zw T b M) ∧ va_S A s.heap H locs ∧ (gr = true → H.size = b + M.2.2.2 + 1) ∧ ((tz = true → zU A s s.heap) ∧ (gr = true → zAO s) ∧ zN s) ∧ (gr = false → M.2.2.2 = n0)
def zQM (tx : Bool) (below : List Frame) (Qc : Array Value → State → Outcome → State → Prop) (XC : String → State → State → Prop) (a : Array Value) (s : State) (mc ms : Nat) (A : Nat → Prop) : State → Prop := match tx with
  | true => vx_MQ below Qc XC a s mc ms A
  | false => MQ below Qc a s mc ms A
/-- whether there is a script, its address, its length, its ints; the place of a long local -/
abbrev zE : Type := Bool × Nat × Nat × (Nat → Int32) × Nat
def zE0 : zE := (false, 0, 0, fun _ => 0, 1000000)
def zEj (j : Nat) : zE := (false, 0, 0, fun _ => 0, j)
def zEs (b0 L : Nat) (xs : Nat → Int32) : zE := (true, b0, L, xs, 1000000)
def zJ (ev : zE) : Nat := ev.2.2.2.2
def zSc (ev : zE) (s : State) (A : Nat → Prop) : Prop := va_X ev.2.1 ev.2.2.1 ev.2.2.2.1 s s.heap ∧ ev.2.1 < s.heap.size ∧ ¬ A ev.2.1
def zHc (ev : zE) (lv : List (Nat × Value)) (s : State) (A : Nat → Prop) : Prop := (∀ q ∈ lv, q.2.category = 1 ∨ q.1 = zJ ev) ∧ (ev.1 = true → zSc ev s A)
/-- THE JUDGEMENT: a method (own, its bytes ..) stands at pc, with the locals lv, the stack st, the memory M: it will answer o -/
def zV (tx : Bool) (l : Launch) (own : String) (cc : ByteArray) (nL : Nat) (ret : Option FieldType) (ini : Bool) (K mc ms : Nat) (D : va_G) (T : Nat → ClassId) (ev : zE) (b : Nat) (gr : Bool) (n0 : Nat) (o : Nat × Int32 × zM) (cells slots pc : Nat) (lv : List (Nat × Value)) (st : List Value) (M : zM) : Prop :=
  ∀ (p : Program) (e : Env) (R : Room) (s : State) (m : MethodId) (args : Array Value) (below : List Frame) (meth : Method) (c : Code) (H : Heap) (locs : List Loc) (A : Nat → Prop) (ls : Array Slot),
    zX own cc nL ret ini K mc ms D T p R s m args meth c A → zY D T b gr tx n0 M s H A locs → zHc ev lv s A → lv_has ls nL lv →
      W p l e R s m args below meth c H locs cells slots (zQM tx below (zQ ret D T b gr n0 o A) (zQx D T b gr n0 o A) args s mc ms A) (F0 m pc ls st)
def zset (lv : List (Nat × Value)) (i : Nat) (v : Value) : List (Nat × Value) := (i, v) :: lv.filter fun q => !(q.1 == i)
theorem zset_cat {ev : zE} {s : State} {A : Nat → Prop} {lv : List (Nat × Value)} {i : Nat} {v : Value} (h : zHc ev lv s A) (hv : v.category = 1 ∨ i = zJ ev) : zHc ev (zset lv i v) s A := by
  refine ⟨fun q hq => ?_, h.2⟩
  rcases List.mem_cons.mp hq with e | e
  · rw [e]; exact hv
  · exact h.1 q (List.mem_filter.mp e).1
theorem zset_has {ev : zE} {s : State} {A : Nat → Prop} {ls : Array Slot} {nL : Nat} {lv : List (Nat × Value)} {i : Nat} {v : Value} (hc : zHc ev lv s A) (hj : Nat.beq i (zJ ev + 1) = false) (h : lv_has ls nL ((i, v) :: lv.filter (fun q => !(q.1 == i) && !(q.1 + 1 == i && q.2.category == 2)))) : lv_has ls nL (zset lv i v) := by
  refine ⟨h.1, h.2.1, fun q hq => h.2.2 q ?_⟩
  rcases List.mem_cons.mp hq with e | e
  · exact List.mem_cons.mpr (Or.inl e)
  · refine List.mem_cons.mpr (Or.inr (List.mem_filter.mpr ⟨(List.mem_filter.mp e).1, ?_⟩))
    have h1 := (List.mem_filter.mp e).2
    rcases hc.1 q (List.mem_filter.mp e).1 with h2 | h2
    · simp [h2]
      simpa using h1
    · have h3 : ¬ i = zJ ev + 1 := Nat.ne_of_beq_eq_false hj
      have h4 : (q.1 + 1 == i) = false := by simp; omega
      rw [h4]
      simpa using h1
def zsetl (lv : List (Nat × Value)) (i : Nat) (v : Value) : List (Nat × Value) := (i, v) :: lv.filter fun q => !(q.1 == i) && !(q.1 == i + 1)
theorem zsetl_cat {ev : zE} {s : State} {A : Nat → Prop} {lv : List (Nat × Value)} {i : Nat} {v : Value} (h : zHc ev lv s A) (hi : i = zJ ev) : zHc ev (zsetl lv i v) s A := by
  refine ⟨fun q hq => ?_, h.2⟩
  rcases List.mem_cons.mp hq with e | e
  · rw [e]; exact Or.inr hi
  · exact h.1 q (List.mem_filter.mp e).1
theorem zsetl_has {ev : zE} {s : State} {A : Nat → Prop} {ls : Array Slot} {nL : Nat} {lv : List (Nat × Value)} {i : Nat} {v : Value} (hc : zHc ev lv s A) (hi : i = zJ ev) (h : lv_has ls nL ((i, v) :: lv.filter (fun q => !(q.1 == i) && (!(q.1 == i + 1) && !(q.1 + 1 == i && q.2.category == 2))))) : lv_has ls nL (zsetl lv i v) := by
  refine ⟨h.1, h.2.1, fun q hq => h.2.2 q ?_⟩
  rcases List.mem_cons.mp hq with e | e
  · exact List.mem_cons.mpr (Or.inl e)
  · refine List.mem_cons.mpr (Or.inr (List.mem_filter.mpr ⟨(List.mem_filter.mp e).1, ?_⟩))
    have h1 := (List.mem_filter.mp e).2
    have h5 : ¬ q.1 = i := by
      intro h; rw [h] at h1; simp at h1
    have h6 : ¬ q.1 = i + 1 := by
      intro h; rw [h] at h1; simp at h1
    rcases hc.1 q (List.mem_filter.mp e).1 with h2 | h2
    · simp [h2, h5, h6]
    · exact absurd (h2.trans hi.symm) h5
section ZRows
variable {tx : Bool} {l : Launch} {own : String} {cc : ByteArray} {nL : Nat} {ret : Option FieldType} {ini : Bool} {K mc ms : Nat} {D : va_G} {T : Nat → ClassId} {ev : zE} {b : Nat} {gr : Bool} {n0 : Nat} {o : Nat × Int32 × zM} {cells slots pc : Nat} {lv : List (Nat × Value)} {st : List Value} {M : zM}
theorem zV_lv (lv' : List (Nat × Value)) (h : ∀ q ∈ lv', q ∈ lv) (k : zV tx l own cc nL ret ini K mc ms D T ev b gr n0 o cells slots pc lv' st M) : zV tx l own cc nL ret ini K mc ms D T ev b gr n0 o cells slots pc lv st M :=
  fun p e R s m args below meth c H locs A ls hX hY hc hl => k p e R s m args below meth c H locs A ls hX hY ⟨fun q hq => hc.1 q (h q hq), hc.2⟩ ⟨hl.1, hl.2.1, fun q hq => hl.2.2 q (h q hq)⟩
theorem zV_top {x : Int32} (k : ∀ y : Int32, y = x → zV tx l own cc nL ret ini K mc ms D T ev b gr n0 o cells slots pc lv (.int y :: st) M) : zV tx l own cc nL ret ini K mc ms D T ev b gr n0 o cells slots pc lv (.int x :: st) M := k x rfl
theorem zV_mem {M : zM} (k : ∀ N : zM, N = M → zV tx l own cc nL ret ini K mc ms D T ev b gr n0 o cells slots pc lv st N) : zV tx l own cc nL ret ini K mc ms D T ev b gr n0 o cells slots pc lv st M := k M rfl
theorem zV_iconst {n : Int} {v : Int32} (hdg : decode cc pc = .ok (.iconst n, 1)) (hv : Int32.ofInt n = v) (k : zV tx l own cc nL ret ini K mc ms D T ev b gr n0 o cells slots (pc + 1) lv (.int v :: st) M) : zV tx l own cc nL ret ini K mc ms D T ev b gr n0 o cells slots pc lv (st) M :=
  fun p e R s m args below meth c H locs A ls hX hY hc hl => lv_iconst hX.1 hX.2.1 hdg hv (k p e R s m args below meth c H locs A ls hX hY hc hl)
theorem zV_bipush {n : Int} {v : Int32} (hdg : decode cc pc = .ok (.bipush n, 2)) (hv : (Int8.ofInt n).toInt32 = v) (k : zV tx l own cc nL ret ini K mc ms D T ev b gr n0 o cells slots (pc + 2) lv (.int v :: st) M) : zV tx l own cc nL ret ini K mc ms D T ev b gr n0 o cells slots pc lv (st) M :=
  fun p e R s m args below meth c H locs A ls hX hY hc hl => lv_bipush hX.1 hX.2.1 hdg hv (k p e R s m args below meth c H locs A ls hX hY hc hl)
theorem zV_sipush {n : Int} {v : Int32} (hdg : decode cc pc = .ok (.sipush n, 3)) (hv : (Int16.ofInt n).toInt32 = v) (k : zV tx l own cc nL ret ini K mc ms D T ev b gr n0 o cells slots (pc + 3) lv (.int v :: st) M) : zV tx l own cc nL ret ini K mc ms D T ev b gr n0 o cells slots pc lv (st) M :=
  fun p e R s m args below meth c H locs A ls hX hY hc hl => lv_sipush hX.1 hX.2.1 hdg hv (k p e R s m args below meth c H locs A ls hX hY hc hl)
theorem zV_ldc {index : Nat} {v : Int32} (hdg : decode cc pc = .ok (.ldc index, 2)) (hw : Cond.constant own index v ∈ gtb) (k : zV tx l own cc nL ret ini K mc ms D T ev b gr n0 o cells slots (pc + 2) lv (.int v :: st) M) : zV tx l own cc nL ret ini K mc ms D T ev b gr n0 o cells slots pc lv (st) M :=
  fun p e R s m args below meth c H locs A ls hX hY hc hl => lv_ldc hX.1 hX.2.1 hX.2.2.2.1 (hX.2.2.2.2.1 _ hw) hdg (k p e R s m args below meth c H locs A ls hX hY hc hl)
theorem zV_ldc_w {index : Nat} {v : Int32} (hdg : decode cc pc = .ok (.ldc_w index, 3)) (hw : Cond.constant own index v ∈ gtb) (k : zV tx l own cc nL ret ini K mc ms D T ev b gr n0 o cells slots (pc + 3) lv (.int v :: st) M) : zV tx l own cc nL ret ini K mc ms D T ev b gr n0 o cells slots pc lv (st) M :=
  fun p e R s m args below meth c H locs A ls hX hY hc hl => lv_ldcw hX.1 hX.2.1 hX.2.2.2.1 (hX.2.2.2.2.1 _ hw) hdg (k p e R s m args below meth c H locs A ls hX hY hc hl)
theorem zV_iload_n {q : Fin 4} {i j : Nat} {x : Int32} (hdg : decode cc pc = .ok (.iload_n q, 1)) (hi : (q : Nat) = i) (hk : lv[j]? = some (i, .int x)) (k : zV tx l own cc nL ret ini K mc ms D T ev b gr n0 o cells slots (pc + 1) lv (.int x :: st) M) : zV tx l own cc nL ret ini K mc ms D T ev b gr n0 o cells slots pc lv (st) M :=
  fun p e R s m args below meth c H locs A ls hX hY hc hl => lv_iload_n hX.1 hX.2.1 hdg hi (lv_at hl j hk) (k p e R s m args below meth c H locs A ls hX hY hc hl)
theorem zV_iload {i j : Nat} {x : Int32} (hdg : decode cc pc = .ok (.iload i, 2)) (hk : lv[j]? = some (i, .int x)) (k : zV tx l own cc nL ret ini K mc ms D T ev b gr n0 o cells slots (pc + 2) lv (.int x :: st) M) : zV tx l own cc nL ret ini K mc ms D T ev b gr n0 o cells slots pc lv (st) M :=
  fun p e R s m args below meth c H locs A ls hX hY hc hl => lv_iload hX.1 hX.2.1 hdg (lv_at hl j hk) (k p e R s m args below meth c H locs A ls hX hY hc hl)
theorem zV_iadd {x y : Int32} (hdg : decode cc pc = .ok (.iadd, 1)) (k : zV tx l own cc nL ret ini K mc ms D T ev b gr n0 o cells slots (pc + 1) lv (.int (x + y) :: st) M) : zV tx l own cc nL ret ini K mc ms D T ev b gr n0 o cells slots pc lv (.int y :: .int x :: st) M :=
  fun p e R s m args below meth c H locs A ls hX hY hc hl => lv_iadd hX.1 hX.2.1 hdg (k p e R s m args below meth c H locs A ls hX hY hc hl)
theorem zV_isub {x y : Int32} (hdg : decode cc pc = .ok (.isub, 1)) (k : zV tx l own cc nL ret ini K mc ms D T ev b gr n0 o cells slots (pc + 1) lv (.int (x - y) :: st) M) : zV tx l own cc nL ret ini K mc ms D T ev b gr n0 o cells slots pc lv (.int y :: .int x :: st) M :=
  fun p e R s m args below meth c H locs A ls hX hY hc hl => lv_isub hX.1 hX.2.1 hdg (k p e R s m args below meth c H locs A ls hX hY hc hl)
theorem zV_imul {x y : Int32} (hdg : decode cc pc = .ok (.imul, 1)) (k : zV tx l own cc nL ret ini K mc ms D T ev b gr n0 o cells slots (pc + 1) lv (.int (x * y) :: st) M) : zV tx l own cc nL ret ini K mc ms D T ev b gr n0 o cells slots pc lv (.int y :: .int x :: st) M :=
  fun p e R s m args below meth c H locs A ls hX hY hc hl => lv_imul hX.1 hX.2.1 hdg (k p e R s m args below meth c H locs A ls hX hY hc hl)
theorem zV_iand {x y : Int32} (hdg : decode cc pc = .ok (.iand, 1)) (k : zV tx l own cc nL ret ini K mc ms D T ev b gr n0 o cells slots (pc + 1) lv (.int (x &&& y) :: st) M) : zV tx l own cc nL ret ini K mc ms D T ev b gr n0 o cells slots pc lv (.int y :: .int x :: st) M :=
  fun p e R s m args below meth c H locs A ls hX hY hc hl => lv_iand hX.1 hX.2.1 hdg (k p e R s m args below meth c H locs A ls hX hY hc hl)
theorem zV_ior {x y : Int32} (hdg : decode cc pc = .ok (.ior, 1)) (k : zV tx l own cc nL ret ini K mc ms D T ev b gr n0 o cells slots (pc + 1) lv (.int (x ||| y) :: st) M) : zV tx l own cc nL ret ini K mc ms D T ev b gr n0 o cells slots pc lv (.int y :: .int x :: st) M :=
  fun p e R s m args below meth c H locs A ls hX hY hc hl => lv_ior hX.1 hX.2.1 hdg (k p e R s m args below meth c H locs A ls hX hY hc hl)
theorem zV_ishl {x y : Int32} (hdg : decode cc pc = .ok (.ishl, 1)) (k : zV tx l own cc nL ret ini K mc ms D T ev b gr n0 o cells slots (pc + 1) lv (.int (x <<< (y &&& 31)) :: st) M) : zV tx l own cc nL ret ini K mc ms D T ev b gr n0 o cells slots pc lv (.int y :: .int x :: st) M :=
  fun p e R s m args below meth c H locs A ls hX hY hc hl => lv_ishl hX.1 hX.2.1 hdg (k p e R s m args below meth c H locs A ls hX hY hc hl)
theorem zV_ishr {x y : Int32} (hdg : decode cc pc = .ok (.ishr, 1)) (k : zV tx l own cc nL ret ini K mc ms D T ev b gr n0 o cells slots (pc + 1) lv (.int (x >>> (y &&& 31)) :: st) M) : zV tx l own cc nL ret ini K mc ms D T ev b gr n0 o cells slots pc lv (.int y :: .int x :: st) M :=
  fun p e R s m args below meth c H locs A ls hX hY hc hl => lv_ishr hX.1 hX.2.1 hdg (k p e R s m args below meth c H locs A ls hX hY hc hl)
theorem zV_iushr {x y v : Int32} (hdg : decode cc pc = .ok (.iushr, 1)) (hv : (x.toUInt32 >>> (y.toUInt32 &&& Int32.toUInt32 31)).toInt32 = v) (k : zV tx l own cc nL ret ini K mc ms D T ev b gr n0 o cells slots (pc + 1) lv (.int v :: st) M) : zV tx l own cc nL ret ini K mc ms D T ev b gr n0 o cells slots pc lv (.int y :: .int x :: st) M :=
  fun p e R s m args below meth c H locs A ls hX hY hc hl => lv_iushr hX.1 hX.2.1 hdg hv (k p e R s m args below meth c H locs A ls hX hY hc hl)
theorem zV_idiv {x y : Int32} (hdg : decode cc pc = .ok (.idiv, 1)) (hne : ¬ y = 0) (k : zV tx l own cc nL ret ini K mc ms D T ev b gr n0 o cells slots (pc + 1) lv (.int (x / y) :: st) M) : zV tx l own cc nL ret ini K mc ms D T ev b gr n0 o cells slots pc lv (.int y :: .int x :: st) M :=
  fun p e R s m args below meth c H locs A ls hX hY hc hl => lv_idiv hX.1 hX.2.1 hdg hne (k p e R s m args below meth c H locs A ls hX hY hc hl)
theorem zV_irem {x y : Int32} (hdg : decode cc pc = .ok (.irem, 1)) (hne : ¬ y = 0) (k : zV tx l own cc nL ret ini K mc ms D T ev b gr n0 o cells slots (pc + 1) lv (.int (x - x / y * y) :: st) M) : zV tx l own cc nL ret ini K mc ms D T ev b gr n0 o cells slots pc lv (.int y :: .int x :: st) M :=
  fun p e R s m args below meth c H locs A ls hX hY hc hl => lv_irem hX.1 hX.2.1 hdg hne (k p e R s m args below meth c H locs A ls hX hY hc hl)
theorem zV_ineg {x : Int32} (hdg : decode cc pc = .ok (.ineg, 1)) (k : zV tx l own cc nL ret ini K mc ms D T ev b gr n0 o cells slots (pc + 1) lv (.int (-x) :: st) M) : zV tx l own cc nL ret ini K mc ms D T ev b gr n0 o cells slots pc lv (.int x :: st) M :=
  fun p e R s m args below meth c H locs A ls hX hY hc hl => lv_ineg hX.1 hX.2.1 hdg (k p e R s m args below meth c H locs A ls hX hY hc hl)
theorem zV_i2c {x : Int32} (hdg : decode cc pc = .ok (.i2c, 1)) (k : zV tx l own cc nL ret ini K mc ms D T ev b gr n0 o cells slots (pc + 1) lv (.int (x.toUInt32 % 65536).toInt32 :: st) M) : zV tx l own cc nL ret ini K mc ms D T ev b gr n0 o cells slots pc lv (.int x :: st) M :=
  fun p e R s m args below meth c H locs A ls hX hY hc hl => lv_i2c hX.1 hX.2.1 hdg rfl (k p e R s m args below meth c H locs A ls hX hY hc hl)
theorem zV_dup {v : Value} (hdg : decode cc pc = .ok (.dup, 1)) (hv : v.category = 1) (k : zV tx l own cc nL ret ini K mc ms D T ev b gr n0 o cells slots (pc + 1) lv (v :: v :: st) M) : zV tx l own cc nL ret ini K mc ms D T ev b gr n0 o cells slots pc lv (v :: st) M :=
  fun p e R s m args below meth c H locs A ls hX hY hc hl => lv_dup hX.1 hX.2.1 hdg hv (k p e R s m args below meth c H locs A ls hX hY hc hl)
theorem zV_pop {v : Value} (hdg : decode cc pc = .ok (.pop, 1)) (hv : v.category = 1) (k : zV tx l own cc nL ret ini K mc ms D T ev b gr n0 o cells slots (pc + 1) lv (st) M) : zV tx l own cc nL ret ini K mc ms D T ev b gr n0 o cells slots pc lv (v :: st) M :=
  fun p e R s m args below meth c H locs A ls hX hY hc hl => lv_pop hX.1 hX.2.1 hdg hv (k p e R s m args below meth c H locs A ls hX hY hc hl)
theorem zV_dup2 {v w : Value} (hdg : decode cc pc = .ok (.dup2, 1)) (hv : v.category = 1) (hw : w.category = 1) (k : zV tx l own cc nL ret ini K mc ms D T ev b gr n0 o cells slots (pc + 1) lv (v :: w :: v :: w :: st) M) : zV tx l own cc nL ret ini K mc ms D T ev b gr n0 o cells slots pc lv (v :: w :: st) M :=
  fun p e R s m args below meth c H locs A ls hX hY hc hl => lv_dup2_11 hX.1 hX.2.1 hdg hv hw (k p e R s m args below meth c H locs A ls hX hY hc hl)
theorem zV_goto {off : Int} {tgt : Nat} (hdg : decode cc pc = .ok (.goto off, 3)) (ht : (pc : Int) + off = (tgt : Int)) (k : zV tx l own cc nL ret ini K mc ms D T ev b gr n0 o cells slots tgt lv (st) M) : zV tx l own cc nL ret ini K mc ms D T ev b gr n0 o cells slots pc lv (st) M :=
  fun p e R s m args below meth c H locs A ls hX hY hc hl => lv_goto hX.1 hX.2.1 hdg ht (k p e R s m args below meth c H locs A ls hX hY hc hl)
theorem zV_if_eq {x : Int32} {off : Int} {tgt : Nat} (hdg : decode cc pc = .ok (.ifCond .eq off, 3)) (ht : (pc : Int) + off = (tgt : Int)) (kt : x = 0 → zV tx l own cc nL ret ini K mc ms D T ev b gr n0 o cells slots tgt lv st M) (kf : ¬ x = 0 → zV tx l own cc nL ret ini K mc ms D T ev b gr n0 o cells slots (pc + 3) lv st M) : zV tx l own cc nL ret ini K mc ms D T ev b gr n0 o cells slots pc lv (.int x :: st) M :=
  fun p e R s m args below meth c H locs A ls hX hY hc hl => lv_if_eq hX.1 hX.2.1 hdg ht (fun h => kt h p e R s m args below meth c H locs A ls hX hY hc hl) (fun h => kf h p e R s m args below meth c H locs A ls hX hY hc hl)
theorem zV_if_ne {x : Int32} {off : Int} {tgt : Nat} (hdg : decode cc pc = .ok (.ifCond .ne off, 3)) (ht : (pc : Int) + off = (tgt : Int)) (kt : ¬ x = 0 → zV tx l own cc nL ret ini K mc ms D T ev b gr n0 o cells slots tgt lv st M) (kf : x = 0 → zV tx l own cc nL ret ini K mc ms D T ev b gr n0 o cells slots (pc + 3) lv st M) : zV tx l own cc nL ret ini K mc ms D T ev b gr n0 o cells slots pc lv (.int x :: st) M :=
  fun p e R s m args below meth c H locs A ls hX hY hc hl => lv_if_ne hX.1 hX.2.1 hdg ht (fun h => kt h p e R s m args below meth c H locs A ls hX hY hc hl) (fun h => kf h p e R s m args below meth c H locs A ls hX hY hc hl)
theorem zV_if_lt {x : Int32} {off : Int} {tgt : Nat} (hdg : decode cc pc = .ok (.ifCond .lt off, 3)) (ht : (pc : Int) + off = (tgt : Int)) (kt : x < 0 → zV tx l own cc nL ret ini K mc ms D T ev b gr n0 o cells slots tgt lv st M) (kf : ¬ x < 0 → zV tx l own cc nL ret ini K mc ms D T ev b gr n0 o cells slots (pc + 3) lv st M) : zV tx l own cc nL ret ini K mc ms D T ev b gr n0 o cells slots pc lv (.int x :: st) M :=
  fun p e R s m args below meth c H locs A ls hX hY hc hl => lv_if_lt hX.1 hX.2.1 hdg ht (fun h => kt h p e R s m args below meth c H locs A ls hX hY hc hl) (fun h => kf h p e R s m args below meth c H locs A ls hX hY hc hl)
theorem zV_if_ge {x : Int32} {off : Int} {tgt : Nat} (hdg : decode cc pc = .ok (.ifCond .ge off, 3)) (ht : (pc : Int) + off = (tgt : Int)) (kt : 0 ≤ x → zV tx l own cc nL ret ini K mc ms D T ev b gr n0 o cells slots tgt lv st M) (kf : ¬ 0 ≤ x → zV tx l own cc nL ret ini K mc ms D T ev b gr n0 o cells slots (pc + 3) lv st M) : zV tx l own cc nL ret ini K mc ms D T ev b gr n0 o cells slots pc lv (.int x :: st) M :=
  fun p e R s m args below meth c H locs A ls hX hY hc hl => lv_if_ge hX.1 hX.2.1 hdg ht (fun h => kt h p e R s m args below meth c H locs A ls hX hY hc hl) (fun h => kf h p e R s m args below meth c H locs A ls hX hY hc hl)
theorem zV_if_gt {x : Int32} {off : Int} {tgt : Nat} (hdg : decode cc pc = .ok (.ifCond .gt off, 3)) (ht : (pc : Int) + off = (tgt : Int)) (kt : 0 < x → zV tx l own cc nL ret ini K mc ms D T ev b gr n0 o cells slots tgt lv st M) (kf : ¬ 0 < x → zV tx l own cc nL ret ini K mc ms D T ev b gr n0 o cells slots (pc + 3) lv st M) : zV tx l own cc nL ret ini K mc ms D T ev b gr n0 o cells slots pc lv (.int x :: st) M :=
  fun p e R s m args below meth c H locs A ls hX hY hc hl => lv_if_gt hX.1 hX.2.1 hdg ht (fun h => kt h p e R s m args below meth c H locs A ls hX hY hc hl) (fun h => kf h p e R s m args below meth c H locs A ls hX hY hc hl)
theorem zV_if_le {x : Int32} {off : Int} {tgt : Nat} (hdg : decode cc pc = .ok (.ifCond .le off, 3)) (ht : (pc : Int) + off = (tgt : Int)) (kt : x ≤ 0 → zV tx l own cc nL ret ini K mc ms D T ev b gr n0 o cells slots tgt lv st M) (kf : ¬ x ≤ 0 → zV tx l own cc nL ret ini K mc ms D T ev b gr n0 o cells slots (pc + 3) lv st M) : zV tx l own cc nL ret ini K mc ms D T ev b gr n0 o cells slots pc lv (.int x :: st) M :=
  fun p e R s m args below meth c H locs A ls hX hY hc hl => lv_if_le hX.1 hX.2.1 hdg ht (fun h => kt h p e R s m args below meth c H locs A ls hX hY hc hl) (fun h => kf h p e R s m args below meth c H locs A ls hX hY hc hl)
theorem zV_icmp_eq {x y : Int32} {off : Int} {tgt : Nat} (hdg : decode cc pc = .ok (.if_icmp .eq off, 3)) (ht : (pc : Int) + off = (tgt : Int)) (kt : x = y → zV tx l own cc nL ret ini K mc ms D T ev b gr n0 o cells slots tgt lv st M) (kf : ¬ x = y → zV tx l own cc nL ret ini K mc ms D T ev b gr n0 o cells slots (pc + 3) lv st M) : zV tx l own cc nL ret ini K mc ms D T ev b gr n0 o cells slots pc lv (.int y :: .int x :: st) M :=
  fun p e R s m args below meth c H locs A ls hX hY hc hl => lv_icmp_eq hX.1 hX.2.1 hdg ht (fun h => kt h p e R s m args below meth c H locs A ls hX hY hc hl) (fun h => kf h p e R s m args below meth c H locs A ls hX hY hc hl)
theorem zV_icmp_ne {x y : Int32} {off : Int} {tgt : Nat} (hdg : decode cc pc = .ok (.if_icmp .ne off, 3)) (ht : (pc : Int) + off = (tgt : Int)) (kt : ¬ x = y → zV tx l own cc nL ret ini K mc ms D T ev b gr n0 o cells slots tgt lv st M) (kf : x = y → zV tx l own cc nL ret ini K mc ms D T ev b gr n0 o cells slots (pc + 3) lv st M) : zV tx l own cc nL ret ini K mc ms D T ev b gr n0 o cells slots pc lv (.int y :: .int x :: st) M :=
  fun p e R s m args below meth c H locs A ls hX hY hc hl => lv_icmp_ne hX.1 hX.2.1 hdg ht (fun h => kt h p e R s m args below meth c H locs A ls hX hY hc hl) (fun h => kf h p e R s m args below meth c H locs A ls hX hY hc hl)
theorem zV_icmp_lt {x y : Int32} {off : Int} {tgt : Nat} (hdg : decode cc pc = .ok (.if_icmp .lt off, 3)) (ht : (pc : Int) + off = (tgt : Int)) (kt : x < y → zV tx l own cc nL ret ini K mc ms D T ev b gr n0 o cells slots tgt lv st M) (kf : ¬ x < y → zV tx l own cc nL ret ini K mc ms D T ev b gr n0 o cells slots (pc + 3) lv st M) : zV tx l own cc nL ret ini K mc ms D T ev b gr n0 o cells slots pc lv (.int y :: .int x :: st) M :=
  fun p e R s m args below meth c H locs A ls hX hY hc hl => lv_icmp_lt hX.1 hX.2.1 hdg ht (fun h => kt h p e R s m args below meth c H locs A ls hX hY hc hl) (fun h => kf h p e R s m args below meth c H locs A ls hX hY hc hl)
theorem zV_icmp_ge {x y : Int32} {off : Int} {tgt : Nat} (hdg : decode cc pc = .ok (.if_icmp .ge off, 3)) (ht : (pc : Int) + off = (tgt : Int)) (kt : y ≤ x → zV tx l own cc nL ret ini K mc ms D T ev b gr n0 o cells slots tgt lv st M) (kf : ¬ y ≤ x → zV tx l own cc nL ret ini K mc ms D T ev b gr n0 o cells slots (pc + 3) lv st M) : zV tx l own cc nL ret ini K mc ms D T ev b gr n0 o cells slots pc lv (.int y :: .int x :: st) M :=
  fun p e R s m args below meth c H locs A ls hX hY hc hl => lv_icmp_ge hX.1 hX.2.1 hdg ht (fun h => kt h p e R s m args below meth c H locs A ls hX hY hc hl) (fun h => kf h p e R s m args below meth c H locs A ls hX hY hc hl)
theorem zV_icmp_gt {x y : Int32} {off : Int} {tgt : Nat} (hdg : decode cc pc = .ok (.if_icmp .gt off, 3)) (ht : (pc : Int) + off = (tgt : Int)) (kt : y < x → zV tx l own cc nL ret ini K mc ms D T ev b gr n0 o cells slots tgt lv st M) (kf : ¬ y < x → zV tx l own cc nL ret ini K mc ms D T ev b gr n0 o cells slots (pc + 3) lv st M) : zV tx l own cc nL ret ini K mc ms D T ev b gr n0 o cells slots pc lv (.int y :: .int x :: st) M :=
  fun p e R s m args below meth c H locs A ls hX hY hc hl => lv_icmp_gt hX.1 hX.2.1 hdg ht (fun h => kt h p e R s m args below meth c H locs A ls hX hY hc hl) (fun h => kf h p e R s m args below meth c H locs A ls hX hY hc hl)
theorem zV_icmp_le {x y : Int32} {off : Int} {tgt : Nat} (hdg : decode cc pc = .ok (.if_icmp .le off, 3)) (ht : (pc : Int) + off = (tgt : Int)) (kt : x ≤ y → zV tx l own cc nL ret ini K mc ms D T ev b gr n0 o cells slots tgt lv st M) (kf : ¬ x ≤ y → zV tx l own cc nL ret ini K mc ms D T ev b gr n0 o cells slots (pc + 3) lv st M) : zV tx l own cc nL ret ini K mc ms D T ev b gr n0 o cells slots pc lv (.int y :: .int x :: st) M :=
  fun p e R s m args below meth c H locs A ls hX hY hc hl => lv_icmp_le hX.1 hX.2.1 hdg ht (fun h => kt h p e R s m args below meth c H locs A ls hX hY hc hl) (fun h => kf h p e R s m args below meth c H locs A ls hX hY hc hl)
theorem zV_aload_n {q : Fin 4} {i j r : Nat} (hdg : decode cc pc = .ok (.aload_n q, 1)) (hi : (q : Nat) = i) (hk : lv[j]? = some (i, zr b r)) (k : zV tx l own cc nL ret ini K mc ms D T ev b gr n0 o cells slots (pc + 1) lv (zr b r :: st) M) : zV tx l own cc nL ret ini K mc ms D T ev b gr n0 o cells slots pc lv st M := by
  intro p e R s m args below meth c H locs A ls hX hY hc hl
  have h := k p e R s m args below meth c H locs A ls hX hY hc hl
  have h2 := lv_at hl j hk
  rcases Nat.eq_zero_or_pos r with e | e
  · subst e
    exact lv_aload_nN hX.1 hX.2.1 hdg hi h2 h
  · rw [zr_pos e] at h h2
    exact lv_aload_n hX.1 hX.2.1 hdg hi h2 h
theorem zV_aload {i j r : Nat} (hdg : decode cc pc = .ok (.aload i, 2)) (hk : lv[j]? = some (i, zr b r)) (k : zV tx l own cc nL ret ini K mc ms D T ev b gr n0 o cells slots (pc + 2) lv (zr b r :: st) M) : zV tx l own cc nL ret ini K mc ms D T ev b gr n0 o cells slots pc lv st M := by
  intro p e R s m args below meth c H locs A ls hX hY hc hl
  have h := k p e R s m args below meth c H locs A ls hX hY hc hl
  have h2 := lv_at hl j hk
  rcases Nat.eq_zero_or_pos r with e | e
  · subst e
    exact lv_aloadN hX.1 hX.2.1 hdg h2 h
  · rw [zr_pos e] at h h2
    exact lv_aload hX.1 hX.2.1 hdg h2 h
theorem zV_istore_n {q : Fin 4} {i : Nat} {x : Int32} (lv' : List (Nat × Value)) (hdg : decode cc pc = .ok (.istore_n q, 1)) (hi : (q : Nat) = i) (hn : i < nL) (hj : Nat.beq i (zJ ev + 1) = false) (hs : zset lv i (.int x) = lv') (k : zV tx l own cc nL ret ini K mc ms D T ev b gr n0 o cells slots (pc + 1) lv' st M) : zV tx l own cc nL ret ini K mc ms D T ev b gr n0 o cells slots pc lv (.int x :: st) M := by
  subst hs
  intro p e R s m args below meth c H locs A ls hX hY hc hl
  exact lv_istore_n hX.1 hX.2.1 hdg hi hl hn rfl (fun ls' hl' => k p e R s m args below meth c H locs A ls' hX hY (zset_cat hc (Or.inl rfl)) (zset_has hc hj hl'))
theorem zV_istore {i : Nat} {x : Int32} (lv' : List (Nat × Value)) (hdg : decode cc pc = .ok (.istore i, 2)) (hn : i < nL) (hj : Nat.beq i (zJ ev + 1) = false) (hs : zset lv i (.int x) = lv') (k : zV tx l own cc nL ret ini K mc ms D T ev b gr n0 o cells slots (pc + 2) lv' st M) : zV tx l own cc nL ret ini K mc ms D T ev b gr n0 o cells slots pc lv (.int x :: st) M := by
  subst hs
  intro p e R s m args below meth c H locs A ls hX hY hc hl
  exact lv_istore hX.1 hX.2.1 hdg hl hn rfl (fun ls' hl' => k p e R s m args below meth c H locs A ls' hX hY (zset_cat hc (Or.inl rfl)) (zset_has hc hj hl'))
theorem zV_astore_n {q : Fin 4} {i r : Nat} (lv' : List (Nat × Value)) (hdg : decode cc pc = .ok (.astore_n q, 1)) (hi : (q : Nat) = i) (hn : i < nL) (hj : Nat.beq i (zJ ev + 1) = false) (hs : zset lv i (zr b r) = lv') (k : zV tx l own cc nL ret ini K mc ms D T ev b gr n0 o cells slots (pc + 1) lv' st M) : zV tx l own cc nL ret ini K mc ms D T ev b gr n0 o cells slots pc lv (zr b r :: st) M := by
  subst hs
  intro p e R s m args below meth c H locs A ls hX hY hc hl
  rcases Nat.eq_zero_or_pos r with h | h
  · subst h
    exact lv_astore_nN hX.1 hX.2.1 hdg hi hl hn rfl (fun ls' hl' => k p e R s m args below meth c H locs A ls' hX hY (zset_cat hc (Or.inl rfl)) (zset_has hc hj hl'))
  · rw [zr_pos h] at k ⊢
    exact lv_astore_n hX.1 hX.2.1 hdg hi hl hn rfl (fun ls' hl' => k p e R s m args below meth c H locs A ls' hX hY (zset_cat hc (Or.inl rfl)) (zset_has hc hj hl'))
theorem zV_astore {i r : Nat} (lv' : List (Nat × Value)) (hdg : decode cc pc = .ok (.astore i, 2)) (hn : i < nL) (hj : Nat.beq i (zJ ev + 1) = false) (hs : zset lv i (zr b r) = lv') (k : zV tx l own cc nL ret ini K mc ms D T ev b gr n0 o cells slots (pc + 2) lv' st M) : zV tx l own cc nL ret ini K mc ms D T ev b gr n0 o cells slots pc lv (zr b r :: st) M := by
  subst hs
  intro p e R s m args below meth c H locs A ls hX hY hc hl
  rcases Nat.eq_zero_or_pos r with h | h
  · subst h
    exact lv_astoreN hX.1 hX.2.1 hdg hl hn rfl (fun ls' hl' => k p e R s m args below meth c H locs A ls' hX hY (zset_cat hc (Or.inl rfl)) (zset_has hc hj hl'))
  · rw [zr_pos h] at k ⊢
    exact lv_astore hX.1 hX.2.1 hdg hl hn rfl (fun ls' hl' => k p e R s m args below meth c H locs A ls' hX hY (zset_cat hc (Or.inl rfl)) (zset_has hc hj hl'))
theorem zV_iinc {i j : Nat} {n : Int} {x v : Int32} (lv' : List (Nat × Value)) (hdg : decode cc pc = .ok (.iinc i n, 3)) (hk : lv[j]? = some (i, .int x)) (hv : x + Int32.ofInt n = v) (hn : i < nL) (hj : Nat.beq i (zJ ev + 1) = false) (hs : zset lv i (.int v) = lv') (k : zV tx l own cc nL ret ini K mc ms D T ev b gr n0 o cells slots (pc + 3) lv' st M) : zV tx l own cc nL ret ini K mc ms D T ev b gr n0 o cells slots pc lv st M := by
  subst hs
  intro p e R s m args below meth c H locs A ls hX hY hc hl
  exact lv_iinc hX.1 hX.2.1 hdg hl hk hv hn rfl (fun ls' hl' => k p e R s m args below meth c H locs A ls' hX hY (zset_cat hc (Or.inl rfl)) (zset_has hc hj hl'))
theorem zV_tin {dflt lo hi : Int} {offs : Array Int} {len : Nat} {x v : Int32} {off : Int} {tgt : Nat} (hdg : decode cc pc = .ok (.tableswitch dflt lo hi offs, len)) (hx : x = v) (h1 : ¬ v.toInt < lo) (h2 : ¬ hi < v.toInt) (ho : offs[(v.toInt - lo).toNat]? = some off) (ht : (pc : Int) + off = (tgt : Int)) (k : zV tx l own cc nL ret ini K mc ms D T ev b gr n0 o cells slots tgt lv st M) : zV tx l own cc nL ret ini K mc ms D T ev b gr n0 o cells slots pc lv (.int x :: st) M := by
  subst hx
  intro p e R s m args below meth c H locs A ls hX hY hc hl
  exact lv_tableIn hX.1 hX.2.1 hdg h1 h2 ho ht (k p e R s m args below meth c H locs A ls hX hY hc hl)
theorem zV_tout {dflt lo hi : Int} {offs : Array Int} {len : Nat} {x : Int32} {tgt : Nat} (hdg : decode cc pc = .ok (.tableswitch dflt lo hi offs, len)) (h : x.toInt < lo ∨ hi < x.toInt) (ht : (pc : Int) + dflt = (tgt : Int)) (k : zV tx l own cc nL ret ini K mc ms D T ev b gr n0 o cells slots tgt lv st M) : zV tx l own cc nL ret ini K mc ms D T ev b gr n0 o cells slots pc lv (.int x :: st) M :=
  fun p e R s m args below meth c H locs A ls hX hY hc hl => lv_tableOut hX.1 hX.2.1 hdg h ht (k p e R s m args below meth c H locs A ls hX hY hc hl)
theorem zV_iald {a : Nat} {i : Int32} (hdg : decode cc pc = .ok (.iaload, 1)) (hk : zk M a = 100) (hi : vp_in i (zl M a)) (k : zV tx l own cc nL ret ini K mc ms D T ev b gr n0 o cells slots (pc + 1) lv (.int (zI M a i.toNatClampNeg) :: st) M) : zV tx l own cc nL ret ini K mc ms D T ev b gr n0 o cells slots pc lv (.int i :: zr b a :: st) M := by
  intro p e R s m args below meth c H locs A ls hX hY hc hl
  obtain ⟨h1, h2, h3⟩ := zk_1 hk (by decide)
  rw [zr_pos h1]
  exact va_iald hX.1 hX.2.1 hX.2.2.2.2.2.2.2.2.2.2.1 hY.1 (a - 1) 0 (by rw [zw_get h1 h2, zc_int h3 (by decide) (by decide)]) rfl hi hdg (k p e R s m args below meth c H locs A ls hX hY hc hl)
theorem zV_zald {a : Nat} {i : Int32} (hdg : decode cc pc = .ok (.baload, 1)) (hk : zk M a = 101) (hi : vp_in i (zl M a)) (k : zV tx l own cc nL ret ini K mc ms D T ev b gr n0 o cells slots (pc + 1) lv (.int (zI M a i.toNatClampNeg) :: st) M) : zV tx l own cc nL ret ini K mc ms D T ev b gr n0 o cells slots pc lv (.int i :: zr b a :: st) M := by
  intro p e R s m args below meth c H locs A ls hX hY hc hl
  obtain ⟨h1, h2, h3⟩ := zk_1 hk (by decide)
  rw [zr_pos h1]
  exact va_zald hX.1 hX.2.1 hX.2.2.2.2.2.2.2.2.2.2.1 hY.1 (a - 1) 1 (by rw [zw_get h1 h2, zc_int h3 (by decide) (by decide)]) rfl hi hdg (k p e R s m args below meth c H locs A ls hX hY hc hl)
theorem zV_cald {a : Nat} {i : Int32} (hdg : decode cc pc = .ok (.caload, 1)) (hk : zk M a = 102) (hi : vp_in i (zl M a)) (k : zV tx l own cc nL ret ini K mc ms D T ev b gr n0 o cells slots (pc + 1) lv (.int (zI M a i.toNatClampNeg) :: st) M) : zV tx l own cc nL ret ini K mc ms D T ev b gr n0 o cells slots pc lv (.int i :: zr b a :: st) M := by
  intro p e R s m args below meth c H locs A ls hX hY hc hl
  obtain ⟨h1, h2, h3⟩ := zk_1 hk (by decide)
  rw [zr_pos h1]
  exact va_cald hX.1 hX.2.1 hX.2.2.2.2.2.2.2.2.2.2.1 hY.1 (a - 1) 2 (by rw [zw_get h1 h2, zc_int h3 (by decide) (by decide)]) rfl hi hdg (k p e R s m args below meth c H locs A ls hX hY hc hl)
theorem zset_iast {T : Nat → ClassId} {b : Nat} {M : zM} {a : Nat} {j : Nat} {x : Int32} (h1 : 1 ≤ a) (h2 : a ≤ M.2.2.2) (h3 : (M.2.2.1 a).1 = 100) : (zw T b M).set (a - 1) (b + a, .inl (T 100, (zl M a, .inl (upd (zI M a) j x)))) = zw T b (zsI M a j x) := by
  rw [← zw_set (M := M) (M' := zsI M a j x) h1 h2 rfl (fun y hy => zsI_off hy), zc_int (M := zsI M a j x) (c := 100) h3 (by decide) (by decide)]
  have e1 : upd (zI M a) j x = zI (zsI M a j x) a := by
    funext y
    simp [upd, zI, zsI]
  rw [e1]
  rfl
theorem zset_zast {T : Nat → ClassId} {b : Nat} {M : zM} {a : Nat} {j : Nat} {x : Int32} (h1 : 1 ≤ a) (h2 : a ≤ M.2.2.2) (h3 : (M.2.2.1 a).1 = 101) : (zw T b M).set (a - 1) (b + a, .inl (T 101, (zl M a, .inl (upd (zI M a) j x)))) = zw T b (zsI M a j x) := by
  rw [← zw_set (M := M) (M' := zsI M a j x) h1 h2 rfl (fun y hy => zsI_off hy), zc_int (M := zsI M a j x) (c := 101) h3 (by decide) (by decide)]
  have e1 : upd (zI M a) j x = zI (zsI M a j x) a := by
    funext y
    simp [upd, zI, zsI]
  rw [e1]
  rfl
theorem zset_cast {T : Nat → ClassId} {b : Nat} {M : zM} {a : Nat} {j : Nat} {x : Int32} (h1 : 1 ≤ a) (h2 : a ≤ M.2.2.2) (h3 : (M.2.2.1 a).1 = 102) : (zw T b M).set (a - 1) (b + a, .inl (T 102, (zl M a, .inl (upd (zI M a) j x)))) = zw T b (zsI M a j x) := by
  rw [← zw_set (M := M) (M' := zsI M a j x) h1 h2 rfl (fun y hy => zsI_off hy), zc_int (M := zsI M a j x) (c := 102) h3 (by decide) (by decide)]
  have e1 : upd (zI M a) j x = zI (zsI M a j x) a := by
    funext y
    simp [upd, zI, zsI]
  rw [e1]
  rfl
end ZRows
end
section
theorem zr_narrow {b r : Nat} {ty : FieldType} (h : zrt ty = true) : narrow ty (zr b r) = zr b r := by
  unfold zr
  cases ty <;> simp [zrt] at h <;> split <;> rfl
theorem zr_fits {b r : Nat} {ty : FieldType} (h : zrt ty = true) : fits ty (zr b r) = true := by
  unfold zr
  cases ty <;> simp [zrt] at h <;> split <;> rfl
theorem zD_of {A : Nat → Prop} {T : Nat → ClassId} {b : Nat} {M : zM} (h : ∀ r, 1 ≤ r → r ≤ M.2.2.2 → A (b + r)) : va_D A (zw T b M) := by
  refine ⟨fun i j p q hi hj hpq => ?_, fun k q hk => ?_⟩
  · obtain ⟨_, rfl⟩ := zw_at hi
    obtain ⟨_, rfl⟩ := zw_at hj
    have : b + (i + 1) = b + (j + 1) := hpq
    omega
  · obtain ⟨h1, rfl⟩ := zw_at hk
    exact h _ (by omega) (by omega)
theorem zA_sub {A : Nat → Prop} {T : Nat → ClassId} {b n0 : Nat} {M : zM} {s : State} {H : Heap} {locs : List Loc} (hD : va_D A (zw T b M)) (hS : va_S A s.heap H locs) (hA : ∀ q : Nat, s.heap.size ≤ q → A q) (hn : n0 = M.2.2.2) : ∀ q, zA b n0 H.size q → A q := by
  subst hn
  intro q h
  rcases h with ⟨h1, h2⟩ | h
  · have := hD.2 (q - b - 1) _ (zw_get (T := T) (b := b) (M := M) (a := q - b) (by omega) (by omega))
    have e : b + (q - b) = q := by omega
    rw [← e]
    exact this
  · exact hA q (Nat.le_trans hS.1 h)
/-- a field is stored: as the kit's rows, with the heap's size -/
theorem zW_put {p : Program} {l : Launch} {e : Env} {R : Room} {s : State} {m : MethodId} {args : Array Value} {below : List Frame} {meth : Method} {c : Code} {H : Heap} {locs : List Loc} {cells slots : Nat} {Q : State → Prop} {cc : ByteArray} {pc : Nat} {ls : Array Slot} {rest : List Value} {D : va_G} {A : Nat → Prop} {a : Nat} {tys : List (ClassId × FieldType)} {ws : va_W} {H0 : Heap} {own : String} {index ci k : Nat}
    (hexec : p.tables.exec = Jvm.exec) (hb : c.code = cc) (hF : zFl own index ci k) (hts : ∀ w ∈ gtb, w.before args s = true) (hnw : zN s) (hown : s.vm.findClass own = some m.cls) (hK : va_K D vwCl tys s) (hP : va_P D vwCl ws H) (hD : va_D A ws) (hS0 : va_S A H0 H locs) (q0 : Nat) {fs : List Value} (he : ws[q0]? = some (a, .inr (ci, fs)))
    (hfin : ((zcl ci).2.1 k).2.2.2 = false ∨ (((zcl ci).2.1 k).2.2.2 = true ∧ meth.name = "<init>" ∧ ((zcl ci).2.1 k).1 = own ∧ (Cond.fieldLink own index ((zcl ci).2.1 k).1 ((zcl ci).2.1 k).2.1 ((zcl ci).2.1 k).2.2.1) ∈ gtb)) {v : Value} (hn : narrow (zty ci k) v = v) (hfit : fits (zty ci k) v = true) (hl : k < fs.length)
    (hdg : decode cc pc = .ok (.putfield index, 3)) (kk : ∀ (H1 : Heap) (locs1 : List Loc), va_P D vwCl (ws.set q0 (a, .inr (ci, fs.set k v))) H1 → va_D A (ws.set q0 (a, .inr (ci, fs.set k v))) → va_S A H0 H1 locs1 → H1.size = H.size → W p l e R s m args below meth c H1 locs1 cells slots Q (F0 m (pc + 3) ls rest)) : W p l e R s m args below meth c H locs cells slots Q (F0 m pc ls (v :: .ref a :: rest)) := by
  obtain ⟨hc, -, hk, hin, hty, hnm, hlk⟩ := hF
  have hap := va_apart (own := own) hts hin (zty ci) hty hnm hK hc
  obtain ⟨r, h1, cell, q1, q2, q3, q4⟩ := hP q0 _ he
  have hr : r = zcl ci := Option.some.inj (h1.symm.trans hc)
  subst hr
  obtain ⟨hS, hfc, kC, hkC, hkind⟩ := hK.1 ci _ hc
  obtain ⟨cf, kf, fi, f, hi, hsl⟩ := hS k hk
  have hlay := hts _ (hin _ (u_in_lay hk))
  have hst := (u_facts hfc hkC (u_lays hts hin hk) hi).1
  have hend : ∀ H' : Heap, H'[a]? = some (cell.setSlot f.slot v) → H'.size = H.size → (∀ q, q ≠ a → H'[q]? = H[q]?) → W p l e R s m args below meth c H' (locs ++ [⟨a, f.slot⟩]) cells slots Q (F0 m (pc + 3) ls rest) := by
    intro H' e1 e2 e3
    rw [hsl] at e1 ⊢
    exact kk H' _ (hP.set hD he ⟨_, hc, t_OB.to (V := updV (vp_V fs) k v) ⟨_, e1, q2, q3, t_set q4 hap hk v⟩ (fun j _ => vp_updV_set hl v j)⟩ e3) (hD.set he) (hS0.put e2 e3 (hD.2 q0 _ he)) e2
  have hlt : f.slot < cell.slots.size := by rw [hsl]; exact k2_hasslot (q4 k hk)
  rcases hfin with hfin | ⟨hfin, hin2, hdecl, hlk2⟩
  · unfold u_lay at hlay
    rw [if_neg (by rw [hfin]; decide)] at hlay
    have h6 := u_store hfc hkC hkind hlay hi (hty k hk) hn hfit
    rcases hlk with hlk | ⟨host, hlk⟩
    · exact W.putK hexec hb (f := f) ⟨hown, hts _ hlk, ⟨_, _, _, hi⟩, hst⟩ (by rw [q2]; exact h6) q1 q3 hlt rfl rfl hdg hend
    · exact va_WputK hexec hb (f := f) hown (va_Nw.use rfl (hnw _ hlk)) hi hst (by rw [q2]; exact h6) q1 q3 hlt rfl rfl hdg hend
  · unfold u_lay at hlay
    rw [if_pos hfin] at hlay
    have hcf : m.cls = cf := by
      obtain ⟨_, _, c', _, _, _, -, -, hf', -, -, -, hown2, -⟩ := Cond.laysFinal_spec hlay
      have e1 : c' = cf := by have := hi.symm.trans hf'; simp at this; exact this.1.symm
      rw [hdecl] at hown2
      rw [← e1]; exact Option.some.inj (hown.symm.trans hown2)
    have h6 := u_fits hfc hkC hkind (Or.inr hlay) hi (hty k hk) hn hfit
    exact W.putFinK hexec hb hown (hts _ hlk2) hi hst hcf hin2 (by rw [q2]; exact h6) q1 q3 hlt rfl rfl hdg hend
theorem zset_f {T : Nat → ClassId} {b : Nat} {M M' : zM} {a ci k : Nat} {v : Value} (h1 : 1 ≤ a) (h2 : a ≤ M.2.2.2) (h3 : (M.2.2.1 a).1 = ci) (hc : ci < 100) (hk : k < (zcl ci).2.2) (hn : M'.2.2 = M.2.2) (ho : ∀ x, x ≠ a → zc T b M' x = zc T b M x) (ho2 : ∀ x, x ≠ k → zv b M' a ci x = zv b M a ci x) (hv : v = zv b M' a ci k) : (zw T b M).set (a - 1) (b + a, .inr (ci, (zfs b M a ci).set k v)) = zw T b M' := by
  subst hv
  rw [zfs_set hk ho2, ← zc_obj (T := T) (M := M') (by rw [hn]; exact h3) hc]
  exact zw_set h1 h2 (by rw [hn]) ho
section ZRows
variable {tx : Bool} {l : Launch} {own : String} {cc : ByteArray} {nL : Nat} {ret : Option FieldType} {ini : Bool} {K mc ms : Nat} {D : va_G} {T : Nat → ClassId} {ev : zE} {b : Nat} {gr : Bool} {n0 : Nat} {o : Nat × Int32 × zM} {cells slots pc : Nat} {lv : List (Nat × Value)} {st : List Value} {M : zM}
theorem zV_iast {a : Nat} {i x : Int32} (hdg : decode cc pc = .ok (.iastore, 1)) (hk : zk M a = 100) (hi : vp_in i (zl M a)) (k : zV tx l own cc nL ret ini K mc ms D T ev b gr n0 o cells slots (pc + 1) lv st (zsI M a i.toNatClampNeg x)) : zV tx l own cc nL ret ini K mc ms D T ev b gr n0 o cells slots pc lv (.int x :: .int i :: zr b a :: st) M := by
  intro p e R s m args below meth c H locs A ls hX hY hc hl
  obtain ⟨h1, h2, h3⟩ := zk_1 hk (by decide)
  have hset := zset_iast (T := T) (b := b) (M := M) (a := a) (j := i.toNatClampNeg) (x := x) h1 h2 h3
  have haa : (zw T b M)[a - 1]? = some (b + a, .inl (T 100, (zl M a, .inl (zI M a)))) := by rw [zw_get h1 h2, zc_int h3 (by decide) (by decide)]
  rw [zr_pos h1]
  refine W.iast hX.1 hX.2.1 (hY.1 _ _ haa) ((hX.2.2.2.2.2.2.2.2.2.2.1.2 0 _ rfl).1 (zl M a) (fun j => .int (zI M a j))) (fun q => by cases q) (by show ¬ (i < 0 ∨ (arrV _ _ _).slots.size ≤ _); rw [arrV_size]; exact hi) rfl rfl hdg fun H1 e z oq => ?_
  have hP : va_P D vwCl (zw T b (zsI M a i.toNatClampNeg x)) H1 := by
    rw [← hset]
    refine hY.1.set hY.2.1 haa ?_ oq
    show H1[b + a]? = some (vp_cell _ _)
    rw [e]
    rw [vp_cell_i, vp_cell_i, arrV_store]
    congr 2
    funext q
    by_cases hq : q = i.toNatClampNeg
    · subst hq
      simp [updV, upd]
      try exact congrArg Value.int hx2
    · simp [updV, upd, hq]
  have hD : va_D A (zw T b (zsI M a i.toNatClampNeg x)) := by rw [← hset]; exact hY.2.1.set haa
  exact k p _ R s m args below meth c H1 _ A ls hX ⟨hP, hD, hY.2.2.1.put z oq (hY.2.1.2 _ _ haa), fun hg => by rw [z]; exact hY.2.2.2.1 hg, hY.2.2.2.2⟩ hc hl
theorem zV_zast {a : Nat} {i x : Int32} (hdg : decode cc pc = .ok (.bastore, 1)) (hk : zk M a = 101) (hi : vp_in i (zl M a)) (hx : x = 0 ∨ x = 1) (k : zV tx l own cc nL ret ini K mc ms D T ev b gr n0 o cells slots (pc + 1) lv st (zsI M a i.toNatClampNeg x)) : zV tx l own cc nL ret ini K mc ms D T ev b gr n0 o cells slots pc lv (.int x :: .int i :: zr b a :: st) M := by
  intro p e R s m args below meth c H locs A ls hX hY hc hl
  obtain ⟨h1, h2, h3⟩ := zk_1 hk (by decide)
  have hset := zset_zast (T := T) (b := b) (M := M) (a := a) (j := i.toNatClampNeg) (x := x) h1 h2 h3
  have haa : (zw T b M)[a - 1]? = some (b + a, .inl (T 101, (zl M a, .inl (zI M a)))) := by rw [zw_get h1 h2, zc_int h3 (by decide) (by decide)]
  have hx2 : vp_nar .boolean x = x := by rcases hx with h | h <;> subst h <;> rfl
  rw [zr_pos h1]
  refine W.zast hX.1 hX.2.1 (hY.1 _ _ haa) ((hX.2.2.2.2.2.2.2.2.2.2.1.2 1 _ rfl).1 (zl M a) (fun j => .int (zI M a j))) (fun q => by cases q) (by show ¬ (i < 0 ∨ (arrV _ _ _).slots.size ≤ _); rw [arrV_size]; exact hi) rfl rfl hdg fun H1 e z oq => ?_
  have hP : va_P D vwCl (zw T b (zsI M a i.toNatClampNeg x)) H1 := by
    rw [← hset]
    refine hY.1.set hY.2.1 haa ?_ oq
    show H1[b + a]? = some (vp_cell _ _)
    rw [e]
    rw [vp_cell_i, vp_cell_i, arrV_store]
    congr 2
    funext q
    by_cases hq : q = i.toNatClampNeg
    · subst hq
      simp [updV, upd]
      try exact congrArg Value.int hx2
    · simp [updV, upd, hq]
  have hD : va_D A (zw T b (zsI M a i.toNatClampNeg x)) := by rw [← hset]; exact hY.2.1.set haa
  exact k p _ R s m args below meth c H1 _ A ls hX ⟨hP, hD, hY.2.2.1.put z oq (hY.2.1.2 _ _ haa), fun hg => by rw [z]; exact hY.2.2.2.1 hg, hY.2.2.2.2⟩ hc hl
theorem zV_cast {a : Nat} {i x : Int32} (hdg : decode cc pc = .ok (.castore, 1)) (hk : zk M a = 102) (hi : vp_in i (zl M a)) (hx : x.toUInt32.toUInt16.toUInt32.toInt32 = x) (k : zV tx l own cc nL ret ini K mc ms D T ev b gr n0 o cells slots (pc + 1) lv st (zsI M a i.toNatClampNeg x)) : zV tx l own cc nL ret ini K mc ms D T ev b gr n0 o cells slots pc lv (.int x :: .int i :: zr b a :: st) M := by
  intro p e R s m args below meth c H locs A ls hX hY hc hl
  obtain ⟨h1, h2, h3⟩ := zk_1 hk (by decide)
  have hset := zset_cast (T := T) (b := b) (M := M) (a := a) (j := i.toNatClampNeg) (x := x) h1 h2 h3
  have haa : (zw T b M)[a - 1]? = some (b + a, .inl (T 102, (zl M a, .inl (zI M a)))) := by rw [zw_get h1 h2, zc_int h3 (by decide) (by decide)]
  have hx2 : vp_nar .char x = x := hx
  rw [zr_pos h1]
  refine W.cast hX.1 hX.2.1 (hY.1 _ _ haa) ((hX.2.2.2.2.2.2.2.2.2.2.1.2 2 _ rfl).1 (zl M a) (fun j => .int (zI M a j))) (fun q => by cases q) (by show ¬ (i < 0 ∨ (arrV _ _ _).slots.size ≤ _); rw [arrV_size]; exact hi) rfl rfl hdg fun H1 e z oq => ?_
  have hP : va_P D vwCl (zw T b (zsI M a i.toNatClampNeg x)) H1 := by
    rw [← hset]
    refine hY.1.set hY.2.1 haa ?_ oq
    show H1[b + a]? = some (vp_cell _ _)
    rw [e]
    rw [vp_cell_i, vp_cell_i, arrV_store]
    congr 2
    funext q
    by_cases hq : q = i.toNatClampNeg
    · subst hq
      simp [updV, upd]
      try exact congrArg Value.int hx2
    · simp [updV, upd, hq]
  have hD : va_D A (zw T b (zsI M a i.toNatClampNeg x)) := by rw [← hset]; exact hY.2.1.set haa
  exact k p _ R s m args below meth c H1 _ A ls hX ⟨hP, hD, hY.2.2.1.put z oq (hY.2.1.2 _ _ haa), fun hg => by rw [z]; exact hY.2.2.2.1 hg, hY.2.2.2.2⟩ hc hl
theorem zV_aald {a : Nat} {i : Int32} (cd t0 : Nat) {C : String} (hdg : decode cc pc = .ok (.aaload, 1)) (hk : zk M a = cd) (hcd : 110 ≤ cd ∧ cd < 255) (ht : (ztys T)[t0]? = some (T cd, .object C)) (hi : vp_in i (zl M a)) (k : zV tx l own cc nL ret ini K mc ms D T ev b gr n0 o cells slots (pc + 1) lv (zr b (zR M a i.toNatClampNeg) :: st) M) : zV tx l own cc nL ret ini K mc ms D T ev b gr n0 o cells slots pc lv (.int i :: zr b a :: st) M := by
  intro p e R s m args below meth c H locs A ls hX hY hc hl
  obtain ⟨h1, h2, h3⟩ := zk_1 hk hcd.2
  rw [zr_pos h1]
  have k2 := k p e R s m args below meth c H locs A ls hX hY hc hl
  rw [← zop_rf] at k2
  exact va_aldq hX.1 hX.2.1 hX.2.2.2.2.2.2.2.2.2.2.1 hY.1 (a - 1) t0 (by rw [zw_get h1 h2, zc_ref h3 hcd.1]) ht hi hdg k2
theorem zV_getI {a index ci q : Nat} (hF : zFl own index ci q) (hdg : decode cc pc = .ok (.getfield index, 3)) (hz : zrt (zty ci q) = false) (hk : zk M a = ci) (k : zV tx l own cc nL ret ini K mc ms D T ev b gr n0 o cells slots (pc + 3) lv (.int (zI M a q) :: st) M) : zV tx l own cc nL ret ini K mc ms D T ev b gr n0 o cells slots pc lv (zr b a :: st) M := by
  intro p e R s m args below meth c H locs A ls hX hY hc hl
  obtain ⟨hF1, hF2, hF3, hF4, hF5, hF6, hF7⟩ := hF
  obtain ⟨h1, h2, h3⟩ := zk_1 hk (by omega)
  rw [zr_pos h1]
  have hv : (zfs b M a ci)[q]? = some (.int (zI M a q)) := by rw [zfs_get hF3]; unfold zv; rw [hz]; rfl
  rcases hF7 with hF7 | ⟨host, hF7⟩
  · exact va_get hX.1 hX.2.1 hX.2.2.2.2.1 hF4 hX.2.2.2.1 hX.2.2.2.2.2.2.2.2.2.2.1 hY.1 (a - 1) (by rw [zw_get h1 h2, zc_obj h3 hF2]) hF1 q hF3 (hX.2.2.2.2.1 _ hF7) (fun _ h9 => h9) hv hdg (k p e R s m args below meth c H locs A ls hX hY hc hl)
  · exact va_getN hX.1 hX.2.1 hX.2.2.2.2.1 hF4 hX.2.2.2.1 hX.2.2.2.2.2.2.2.2.2.2.1 hY.1 (a - 1) (by rw [zw_get h1 h2, zc_obj h3 hF2]) hF1 q hF3 (va_Nw.use rfl (hY.2.2.2.2.1.2.2 _ hF7)) (fun _ h9 => h9) hv hdg (k p e R s m args below meth c H locs A ls hX hY hc hl)
theorem zV_getR {a index ci q : Nat} (hF : zFl own index ci q) (hdg : decode cc pc = .ok (.getfield index, 3)) (hz : zrt (zty ci q) = true) (hk : zk M a = ci) (k : zV tx l own cc nL ret ini K mc ms D T ev b gr n0 o cells slots (pc + 3) lv (zr b (zR M a q) :: st) M) : zV tx l own cc nL ret ini K mc ms D T ev b gr n0 o cells slots pc lv (zr b a :: st) M := by
  intro p e R s m args below meth c H locs A ls hX hY hc hl
  obtain ⟨hF1, hF2, hF3, hF4, hF5, hF6, hF7⟩ := hF
  obtain ⟨h1, h2, h3⟩ := zk_1 hk (by omega)
  rw [zr_pos h1]
  have hv : (zfs b M a ci)[q]? = some (zr b (zR M a q)) := by rw [zfs_get hF3]; unfold zv; rw [hz]; rfl
  rcases hF7 with hF7 | ⟨host, hF7⟩
  · exact va_get hX.1 hX.2.1 hX.2.2.2.2.1 hF4 hX.2.2.2.1 hX.2.2.2.2.2.2.2.2.2.2.1 hY.1 (a - 1) (by rw [zw_get h1 h2, zc_obj h3 hF2]) hF1 q hF3 (hX.2.2.2.2.1 _ hF7) (fun _ h9 => h9) hv hdg (k p e R s m args below meth c H locs A ls hX hY hc hl)
  · exact va_getN hX.1 hX.2.1 hX.2.2.2.2.1 hF4 hX.2.2.2.1 hX.2.2.2.2.2.2.2.2.2.2.1 hY.1 (a - 1) (by rw [zw_get h1 h2, zc_obj h3 hF2]) hF1 q hF3 (va_Nw.use rfl (hY.2.2.2.2.1.2.2 _ hF7)) (fun _ h9 => h9) hv hdg (k p e R s m args below meth c H locs A ls hX hY hc hl)
theorem zV_putI {a index ci q : Nat} {x : Int32} (hF : zFl own index ci q) (hdg : decode cc pc = .ok (.putfield index, 3)) (hfin : ((zcl ci).2.1 q).2.2.2 = false) (hty : zty ci q = .int) (hk : zk M a = ci) (k : zV tx l own cc nL ret ini K mc ms D T ev b gr n0 o cells slots (pc + 3) lv st (zsI M a q x)) : zV tx l own cc nL ret ini K mc ms D T ev b gr n0 o cells slots pc lv (.int x :: zr b a :: st) M := by
  intro p e R s m args below meth c H locs A ls hX hY hc hl
  obtain ⟨h1, h2, h3⟩ := zk_1 hk (by have := hF.2.1; omega)
  rw [zr_pos h1]
  refine zW_put hX.1 hX.2.1 hF hX.2.2.2.2.1 hY.2.2.2.2.1.2.2 hX.2.2.2.1 hX.2.2.2.2.2.2.2.2.2.2.1 hY.1 hY.2.1 hY.2.2.1 (a - 1) (by rw [zw_get h1 h2, zc_obj h3 hF.2.1]) (Or.inl hfin) (by rw [hty]; rfl) (by rw [hty]; rfl) (by rw [zfs_len]; exact hF.2.2.1) hdg (fun H1 locs1 hP hD hS hsz => ?_)
  rw [zset_f (M' := zsI M a q x) h1 h2 h3 hF.2.1 hF.2.2.1 rfl (fun y hy => zsI_off hy) (fun y hy => by unfold zv; simp [zI, zR, zsI, zsR, hy]) (by unfold zv; rw [hty]; simp [zrt, zI, zsI])] at hP hD
  exact k p e R s m args below meth c H1 locs1 A ls hX ⟨hP, hD, hS, fun hg => by rw [hsz]; exact hY.2.2.2.1 hg, hY.2.2.2.2⟩ hc hl
theorem zV_putZ {a index ci q : Nat} {x : Int32} (hF : zFl own index ci q) (hdg : decode cc pc = .ok (.putfield index, 3)) (hfin : ((zcl ci).2.1 q).2.2.2 = false) (hty : zty ci q = .boolean) (hx : x = 0 ∨ x = 1) (hk : zk M a = ci) (k : zV tx l own cc nL ret ini K mc ms D T ev b gr n0 o cells slots (pc + 3) lv st (zsI M a q x)) : zV tx l own cc nL ret ini K mc ms D T ev b gr n0 o cells slots pc lv (.int x :: zr b a :: st) M := by
  intro p e R s m args below meth c H locs A ls hX hY hc hl
  obtain ⟨h1, h2, h3⟩ := zk_1 hk (by have := hF.2.1; omega)
  rw [zr_pos h1]
  refine zW_put hX.1 hX.2.1 hF hX.2.2.2.2.1 hY.2.2.2.2.1.2.2 hX.2.2.2.1 hX.2.2.2.2.2.2.2.2.2.2.1 hY.1 hY.2.1 hY.2.2.1 (a - 1) (by rw [zw_get h1 h2, zc_obj h3 hF.2.1]) (Or.inl hfin) (by rw [hty]; rcases hx with h | h <;> subst h <;> rfl) (by rw [hty]; rcases hx with h | h <;> subst h <;> rfl) (by rw [zfs_len]; exact hF.2.2.1) hdg (fun H1 locs1 hP hD hS hsz => ?_)
  rw [zset_f (M' := zsI M a q x) h1 h2 h3 hF.2.1 hF.2.2.1 rfl (fun y hy => zsI_off hy) (fun y hy => by unfold zv; simp [zI, zR, zsI, zsR, hy]) (by unfold zv; rw [hty]; simp [zrt, zI, zsI])] at hP hD
  exact k p e R s m args below meth c H1 locs1 A ls hX ⟨hP, hD, hS, fun hg => by rw [hsz]; exact hY.2.2.2.1 hg, hY.2.2.2.2⟩ hc hl
theorem zV_putR {a index ci q : Nat} {r : Nat} (hF : zFl own index ci q) (hdg : decode cc pc = .ok (.putfield index, 3)) (hfin : ((zcl ci).2.1 q).2.2.2 = false) (hty : zrt (zty ci q) = true) (hk : zk M a = ci) (k : zV tx l own cc nL ret ini K mc ms D T ev b gr n0 o cells slots (pc + 3) lv st (zsR M a q r)) : zV tx l own cc nL ret ini K mc ms D T ev b gr n0 o cells slots pc lv (zr b r :: zr b a :: st) M := by
  intro p e R s m args below meth c H locs A ls hX hY hc hl
  obtain ⟨h1, h2, h3⟩ := zk_1 hk (by have := hF.2.1; omega)
  rw [zr_pos h1]
  refine zW_put hX.1 hX.2.1 hF hX.2.2.2.2.1 hY.2.2.2.2.1.2.2 hX.2.2.2.1 hX.2.2.2.2.2.2.2.2.2.2.1 hY.1 hY.2.1 hY.2.2.1 (a - 1) (by rw [zw_get h1 h2, zc_obj h3 hF.2.1]) (Or.inl hfin) (zr_narrow hty) (zr_fits hty) (by rw [zfs_len]; exact hF.2.2.1) hdg (fun H1 locs1 hP hD hS hsz => ?_)
  rw [zset_f (M' := zsR M a q r) h1 h2 h3 hF.2.1 hF.2.2.1 rfl (fun y hy => zsR_off hy) (fun y hy => by unfold zv; simp [zI, zR, zsI, zsR, hy]) (by unfold zv; rw [if_pos hty]; simp [zR, zsR])] at hP hD
  exact k p e R s m args below meth c H1 locs1 A ls hX ⟨hP, hD, hS, fun hg => by rw [hsz]; exact hY.2.2.2.1 hg, hY.2.2.2.2⟩ hc hl
theorem zV_putRF {a index ci q : Nat} {r : Nat} (hF : zFl own index ci q) (hdg : decode cc pc = .ok (.putfield index, 3)) (hini : ini = true) (hfin : ((zcl ci).2.1 q).2.2.2 = true) (hdecl : ((zcl ci).2.1 q).1 = own) (hlk : (Cond.fieldLink own index ((zcl ci).2.1 q).1 ((zcl ci).2.1 q).2.1 ((zcl ci).2.1 q).2.2.1) ∈ gtb) (hty : zrt (zty ci q) = true) (hk : zk M a = ci) (k : zV tx l own cc nL ret ini K mc ms D T ev b gr n0 o cells slots (pc + 3) lv st (zsR M a q r)) : zV tx l own cc nL ret ini K mc ms D T ev b gr n0 o cells slots pc lv (zr b r :: zr b a :: st) M := by
  intro p e R s m args below meth c H locs A ls hX hY hc hl
  obtain ⟨h1, h2, h3⟩ := zk_1 hk (by have := hF.2.1; omega)
  rw [zr_pos h1]
  refine zW_put hX.1 hX.2.1 hF hX.2.2.2.2.1 hY.2.2.2.2.1.2.2 hX.2.2.2.1 hX.2.2.2.2.2.2.2.2.2.2.1 hY.1 hY.2.1 hY.2.2.1 (a - 1) (by rw [zw_get h1 h2, zc_obj h3 hF.2.1]) (Or.inr ⟨hfin, hX.2.2.2.2.2.2.2.1 hini, hdecl, hlk⟩) (zr_narrow hty) (zr_fits hty) (by rw [zfs_len]; exact hF.2.2.1) hdg (fun H1 locs1 hP hD hS hsz => ?_)
  rw [zset_f (M' := zsR M a q r) h1 h2 h3 hF.2.1 hF.2.2.1 rfl (fun y hy => zsR_off hy) (fun y hy => by unfold zv; simp [zI, zR, zsI, zsR, hy]) (by unfold zv; rw [if_pos hty]; simp [zR, zsR])] at hP hD
  exact k p e R s m args below meth c H1 locs1 A ls hX ⟨hP, hD, hS, fun hg => by rw [hsz]; exact hY.2.2.2.1 hg, hY.2.2.2.2⟩ hc hl
theorem zV_iret {x : Int32} (hret : ret = some .int) (hdg : decode cc pc = .ok (.ireturn, 1)) (hcm : cells ≤ mc) (hsm : slots ≤ ms) (ho : o = (0, x, M)) : zV tx l own cc nL ret ini K mc ms D T ev b gr n0 o cells slots pc lv [.int x] M := by
  subst hret
  subst ho
  intro p e R s m args below meth c H locs A ls hX hY hc hl
  have hq : ∀ t : State, t.heap = H → s.WarmedH t.vm → zQ (some .int) D T b gr n0 (0, x, M) A args s (.returned (some (.int x))) t := fun t ht hW => ⟨⟨x, (), rfl, ⟨rfl, rfl⟩, by rw [ht]; exact hY.1, va_K.moved hW.alike hX.2.2.2.2.2.2.2.2.2.2.1, fun hg => by rw [ht]; exact hY.2.2.2.1 hg, hY.2.2.2.2.2⟩, hY.2.2.1.F ht⟩
  refine W.widen hcm hsm ?_
  cases tx
  · exact W.iret hX.1 hX.2.1 hX.2.2.2.2.2.2.1 hq hY.2.2.1.2.2 hdg hX.2.2.2.2.2.1
  · exact vx_ret (W.iret hX.1 hX.2.1 hX.2.2.2.2.2.2.1 hq hY.2.2.1.2.2 hdg hX.2.2.2.2.2.1)
theorem zV_zret {x : Int32} (hret : ret = some .boolean) (hdg : decode cc pc = .ok (.ireturn, 1)) (hcm : cells ≤ mc) (hsm : slots ≤ ms) (hx : x = 0 ∨ x = 1) (ho : o = (0, x, M)) : zV tx l own cc nL ret ini K mc ms D T ev b gr n0 o cells slots pc lv [.int x] M := by
  subst hret
  subst ho
  intro p e R s m args below meth c H locs A ls hX hY hc hl
  have hq : ∀ t : State, t.heap = H → s.WarmedH t.vm → zQ (some .boolean) D T b gr n0 (0, x, M) A args s (.returned (some (.int x))) t := fun t ht hW => ⟨⟨x, (), rfl, ⟨rfl, rfl⟩, by rw [ht]; exact hY.1, va_K.moved hW.alike hX.2.2.2.2.2.2.2.2.2.2.1, fun hg => by rw [ht]; exact hY.2.2.2.1 hg, hY.2.2.2.2.2⟩, hY.2.2.1.F ht⟩
  refine W.widen hcm hsm ?_
  cases tx
  · exact W.zret hX.1 hX.2.1 hX.2.2.2.2.2.2.1 (by rcases hx with h | h <;> subst h <;> rfl) hq hY.2.2.1.2.2 hdg hX.2.2.2.2.2.1
  · exact vx_ret (W.zret hX.1 hX.2.1 hX.2.2.2.2.2.2.1 (by rcases hx with h | h <;> subst h <;> rfl) hq hY.2.2.1.2.2 hdg hX.2.2.2.2.2.1)
theorem zV_cret {x : Int32} (hret : ret = some .char) (hdg : decode cc pc = .ok (.ireturn, 1)) (hcm : cells ≤ mc) (hsm : slots ≤ ms) (hx : x.toUInt32.toUInt16.toUInt32.toInt32 = x) (ho : o = (0, x, M)) : zV tx l own cc nL ret ini K mc ms D T ev b gr n0 o cells slots pc lv [.int x] M := by
  subst hret
  subst ho
  intro p e R s m args below meth c H locs A ls hX hY hc hl
  have hq : ∀ t : State, t.heap = H → s.WarmedH t.vm → zQ (some .char) D T b gr n0 (0, x, M) A args s (.returned (some (.int x))) t := fun t ht hW => ⟨⟨x, (), rfl, ⟨rfl, rfl⟩, by rw [ht]; exact hY.1, va_K.moved hW.alike hX.2.2.2.2.2.2.2.2.2.2.1, fun hg => by rw [ht]; exact hY.2.2.2.1 hg, hY.2.2.2.2.2⟩, hY.2.2.1.F ht⟩
  refine W.widen hcm hsm ?_
  cases tx
  · exact W.zret hX.1 hX.2.1 hX.2.2.2.2.2.2.1 (congrArg Value.int hx) hq hY.2.2.1.2.2 hdg hX.2.2.2.2.2.1
  · exact vx_ret (W.zret hX.1 hX.2.1 hX.2.2.2.2.2.2.1 (congrArg Value.int hx) hq hY.2.2.1.2.2 hdg hX.2.2.2.2.2.1)
theorem zV_vret {x : Int32} (hret : ret = none) (hdg : decode cc pc = .ok (.return_, 1)) (hcm : cells ≤ mc) (hsm : slots ≤ ms) (ho : o = (0, x, M)) : zV tx l own cc nL ret ini K mc ms D T ev b gr n0 o cells slots pc lv [] M := by
  subst hret
  subst ho
  intro p e R s m args below meth c H locs A ls hX hY hc hl
  have hq : ∀ t : State, t.heap = H → s.WarmedH t.vm → zQ none D T b gr n0 (0, x, M) A args s (.returned none) t := fun t ht hW => ⟨⟨(), rfl, rfl, by rw [ht]; exact hY.1, va_K.moved hW.alike hX.2.2.2.2.2.2.2.2.2.2.1, fun hg => by rw [ht]; exact hY.2.2.2.1 hg, hY.2.2.2.2.2⟩, hY.2.2.1.F ht⟩
  refine W.widen hcm hsm ?_
  cases tx
  · exact W.vret hX.1 hX.2.1 hX.2.2.2.2.2.2.1 hq hY.2.2.1.2.2 hdg hX.2.2.2.2.2.1
  · exact vx_ret (W.vret hX.1 hX.2.1 hX.2.2.2.2.2.2.1 hq hY.2.2.1.2.2 hdg hX.2.2.2.2.2.1)
end ZRows
end
section
theorem zWs_in {y : MethodName} {bytes : ByteArray} {maxL n : Nat} {ret : Option FieldType} (h : zMd y bytes maxL ret n) : ∀ w ∈ zWs y bytes maxL ret, w ∈ gtb := by
  intro w hw
  rcases List.mem_cons.mp hw with e | e
  · rw [e]; exact h.1
  · exact e
theorem zCB {R : Room} {s : State} {args : Array Value} {own : String} {index K K' mc ms mc' ms' n maxL : Nat} {y : MethodName} {bytes : ByteArray} {ret : Option FieldType} (hts : ∀ w ∈ gtb, w.before args s = true) (hR : R = zRm K mc ms) (hm : zMd y bytes maxL ret n) (hl : (Cond.methodLink own index y) ∈ gtb) (hK : K' + 1 ≤ K) :
    CallB R s args own index y bytes maxL ret (zWs y bytes maxL ret) (zRm K' mc' ms') mc' ms' n :=
  callB_of n hts (gtb_good (zWs_in hm)) rfl rfl rfl (hts _ hm.2.1) (hts _ hl) hm.2.2.1 (by subst hR; refine ⟨hK, ?_⟩; have := hm.2.2.2; show 8 + (maxL + 11) + 64 * K' ≤ 64 * K; omega)
theorem zPc_blind {D : va_G} {T : Nat → ClassId} {b : Nat} {gr tz : Bool} {as : List Value} {M : zM} {sz : Nat} : FrameBlind (zPc D T b gr tz as M sz) := by
  intro a U g mk q
  obtain ⟨q0, q1, q2, q3, q4, q5, q6, q7⟩ := q
  exact ⟨q0, q1, q2, q3, va_K.moved (u := U) (U := U.calling g mk a) (Vm.Alike.refl U.vm) q4, fun h => zU_warm (s := U) (U := U.calling g mk a) (State.WarmedH.refl U) (q5 h), fun h => zAO_moved (u := U) (U := U.calling g mk a) (Vm.Alike.refl U.vm) (q6 h), zN_warm (s := U) (U := U.calling g mk a) (State.WarmedH.refl U) q7⟩
theorem zPc_at {D : va_G} {T : Nat → ClassId} {b n0 : Nat} {gr tz tz' : Bool} {as : List Value} {M : zM} {s : State} {H : Heap} {A : Nat → Prop} {locs : List Loc} (hY : zY D T b gr tz n0 M s H A locs) (hK : va_K D vwCl (ztys T) s) (hA : ∀ q : Nat, s.heap.size ≤ q → A q) (htz : tz' = true → tz = true) : ∀ U : State, U.heap = H → s.WarmedH U.vm → zPc D T b gr tz' as M H.size as.toArray U := by
  intro U hU hW
  have hsub := zA_sub hY.2.1 hY.2.2.1 hA rfl
  refine ⟨rfl, by rw [hU], hY.2.2.2.1, by rw [hU]; exact hY.1, va_K.moved hW.alike hK, fun h => ?_, fun h => zAO_moved hW.alike (hY.2.2.2.2.1.2.1 h), zN_warm hW hY.2.2.2.2.1.2.2⟩
  obtain ⟨h1, h2, h3, h4⟩ := hY.2.2.2.2.1.1 (htz h)
  rw [hU]
  exact zU_warm hW ⟨(h1.kept hY.2.2.1.2.1).narrow hsub, (h2.kept hY.2.2.1.2.1).narrow hsub, h3, h4⟩
theorem zY_aft {D : va_G} {T : Nat → ClassId} {b n0 : Nat} {gr tz : Bool} {M M1 : zM} {s t : State} {H H1 : Heap} {A : Nat → Prop} {locs locs1 : List Loc} (hY : zY D T b gr tz n0 M s H A locs) (hA : ∀ q : Nat, s.heap.size ≤ q → A q) (ht : t.heap = H1) (hB : zB D T b gr M.2.2.2 M1 t) (hS : va_S A s.heap H1 locs1) : zY D T b gr tz n0 M1 s H1 A locs1 := by
  subst ht
  refine ⟨hB.1, zD_of fun r h1 h2 => ?_, hS, hB.2.2.1, hY.2.2.2.2.1, fun hg => (hB.2.2.2 hg).trans (hY.2.2.2.2.2 hg)⟩
  rcases Nat.lt_or_ge M.2.2.2 r with hr | hr
  · cases gr with
    | false => exact absurd (hB.2.2.2 rfl) (by omega)
    | true => exact hA _ (Nat.le_trans hY.2.2.1.1 (by have := hY.2.2.2.1 rfl; omega))
  · exact hY.2.1.2 (r - 1) _ (zw_get (T := T) (b := b) (M := M) h1 hr)
section ZRows
variable {tx : Bool} {l : Launch} {own : String} {cc : ByteArray} {nL : Nat} {ret : Option FieldType} {ini : Bool} {K mc ms : Nat} {D : va_G} {T : Nat → ClassId} {ev : zE} {b : Nat} {gr : Bool} {n0 : Nat} {o : Nat × Int32 × zM} {cells slots pc : Nat} {lv : List (Nat × Value)} {st : List Value} {M : zM}
theorem zV_callVi {index n K' mc' ms' maxL' : Nat} {y : MethodName} {bytes' : ByteArray} {As rest : List Value} {r : Nat} {ty : FieldType} {x : Int32} {M1 : zM} (hM : zMet l D T b gr y bytes' maxL' (some ty) K' mc' ms' (zr b r :: As) M (0, x, M1)) (hm : zMd y bytes' maxL' (some ty) n) (hl : (Cond.methodLink own index y) ∈ gtb) {ci : Nat} (hi : (Cond.instanceMethod y) ∈ gtb) (hse : (Cond.selects (zcl ci).1 y y) ∈ gtb) (hci : vwCl[ci]? = some (zcl ci) ∧ ci < 100) (hk : zk M r = ci) (hst : st = As.reverse ++ zr b r :: rest) (hn : As.length = n) (hcat : (rest.map fun v => v.category).sum ≤ 8) (hK : K' + 1 ≤ K) (hmc : cells + mc' ≤ mc) (hms : slots + ms' ≤ ms) (hdg : decode cc pc = .ok (.invokevirtual index, 3)) (k : zV tx l own cc nL ret ini K mc ms D T ev b gr n0 o (cells + mc') (slots + ms') (pc + 3) lv (.int x :: rest) M1) : zV tx l own cc nL ret ini K mc ms D T ev b gr n0 o cells slots pc lv st M := by
  subst hst
  intro p e R s m args below meth c H locs A ls hX hY hc hl9
  have hsub := zA_sub hY.2.1 hY.2.2.1 hX.2.2.2.2.2.2.2.2.2.2.2 rfl
  obtain ⟨h1, h2, h3⟩ := zk_1 hk (by omega)
  rw [zr_pos h1] at hM ⊢
  refine va_calli (va_runV (As := As) (rest := rest) (n := n) ⟨hX.1, hX.2.1, hX.2.2.1, hX.2.2.2.1, hX.2.2.2.2.1⟩ (hM H.size) ⟨zCB hX.2.2.2.2.1 hX.2.2.2.2.2.2.2.2.2.1 hm hl hK, hX.2.2.2.2.1 _ hi, hX.2.2.2.2.1 _ hse⟩ ⟨zPc_blind, va_recv hX.2.2.2.2.2.2.2.2.2.2.1 hY.1 (q0 := r - 1) hci.1 (by rw [zw_get h1 h2, zc_obj h3 hci.2]), by rw [← zr_pos h1]; exact zPc_at hY hX.2.2.2.2.2.2.2.2.2.2.1 hX.2.2.2.2.2.2.2.2.2.2.2 (fun h => nomatch h)⟩ rfl hn hl9.1 rfl (lv_room hcat) hdg ⟨by rw [hX.2.2.2.2.2.2.2.2.2.1]; exact hmc, by rw [hX.2.2.2.2.2.2.2.2.2.1]; exact hms⟩) hY.2.2.1 (fun q _ h => hsub q h) hsub (fun x9 u t H1 locs1 ht hvm hw hB hz1 hk1 hS => ?_)
  obtain ⟨hw, -⟩ := hw
  have hw : x9 = x := hw
  subst hw
  exact k p e R s m args below meth c H1 locs1 A ls hX (zY_aft hY hX.2.2.2.2.2.2.2.2.2.2.2 ht hB hS) hc hl9
theorem zV_callVv {index n K' mc' ms' maxL' : Nat} {y : MethodName} {bytes' : ByteArray} {As rest : List Value} {r : Nat} {x : Int32} {M1 : zM} (hM : zMet l D T b gr y bytes' maxL' none K' mc' ms' (zr b r :: As) M (0, x, M1)) (hm : zMd y bytes' maxL' none n) (hl : (Cond.methodLink own index y) ∈ gtb) {ci : Nat} (hi : (Cond.instanceMethod y) ∈ gtb) (hse : (Cond.selects (zcl ci).1 y y) ∈ gtb) (hci : vwCl[ci]? = some (zcl ci) ∧ ci < 100) (hk : zk M r = ci) (hst : st = As.reverse ++ zr b r :: rest) (hn : As.length = n) (hcat : (rest.map fun v => v.category).sum ≤ 8) (hK : K' + 1 ≤ K) (hmc : cells + mc' ≤ mc) (hms : slots + ms' ≤ ms) (hdg : decode cc pc = .ok (.invokevirtual index, 3)) (k : zV tx l own cc nL ret ini K mc ms D T ev b gr n0 o (cells + mc') (slots + ms') (pc + 3) lv rest M1) : zV tx l own cc nL ret ini K mc ms D T ev b gr n0 o cells slots pc lv st M := by
  subst hst
  intro p e R s m args below meth c H locs A ls hX hY hc hl9
  have hsub := zA_sub hY.2.1 hY.2.2.1 hX.2.2.2.2.2.2.2.2.2.2.2 rfl
  obtain ⟨h1, h2, h3⟩ := zk_1 hk (by omega)
  rw [zr_pos h1] at hM ⊢
  refine va_callv (va_runV (As := As) (rest := rest) (n := n) ⟨hX.1, hX.2.1, hX.2.2.1, hX.2.2.2.1, hX.2.2.2.2.1⟩ (hM H.size) ⟨zCB hX.2.2.2.2.1 hX.2.2.2.2.2.2.2.2.2.1 hm hl hK, hX.2.2.2.2.1 _ hi, hX.2.2.2.2.1 _ hse⟩ ⟨zPc_blind, va_recv hX.2.2.2.2.2.2.2.2.2.2.1 hY.1 (q0 := r - 1) hci.1 (by rw [zw_get h1 h2, zc_obj h3 hci.2]), by rw [← zr_pos h1]; exact zPc_at hY hX.2.2.2.2.2.2.2.2.2.2.1 hX.2.2.2.2.2.2.2.2.2.2.2 (fun h => nomatch h)⟩ rfl hn hl9.1 rfl (lv_room hcat) hdg ⟨by rw [hX.2.2.2.2.2.2.2.2.2.1]; exact hmc, by rw [hX.2.2.2.2.2.2.2.2.2.1]; exact hms⟩) hY.2.2.1 (fun q _ h => hsub q h) hsub (fun u t H1 locs1 ht hvm hw hB hz1 hk1 hS => ?_)
  exact k p e R s m args below meth c H1 locs1 A ls hX (zY_aft hY hX.2.2.2.2.2.2.2.2.2.2.2 ht hB hS) hc hl9
theorem zV_callSi {index n K' mc' ms' maxL' : Nat} {y : MethodName} {bytes' : ByteArray} {As rest : List Value} {ty : FieldType} {x : Int32} {M1 : zM} (hM : zMet l D T b gr y bytes' maxL' (some ty) K' mc' ms' (As) M (0, x, M1)) (hm : zMd y bytes' maxL' (some ty) n) (hl : (Cond.methodLink own index y) ∈ gtb) (hst9 : (Cond.static y) ∈ gtb) (hst : st = As.reverse ++ rest) (hn : As.length = n) (hcat : (rest.map fun v => v.category).sum ≤ 8) (hK : K' + 1 ≤ K) (hmc : cells + mc' ≤ mc) (hms : slots + ms' ≤ ms) (hdg : decode cc pc = .ok (.invokestatic index, 3)) (k : zV tx l own cc nL ret ini K mc ms D T ev b gr n0 o (cells + mc') (slots + ms') (pc + 3) lv (.int x :: rest) M1) : zV tx l own cc nL ret ini K mc ms D T ev b gr n0 o cells slots pc lv st M := by
  subst hst
  intro p e R s m args below meth c H locs A ls hX hY hc hl9
  have hsub := zA_sub hY.2.1 hY.2.2.1 hX.2.2.2.2.2.2.2.2.2.2.2 rfl
  refine va_calli (va_runS (As := As) (rest := rest) (n := n) ⟨hX.1, hX.2.1, hX.2.2.1, hX.2.2.2.1, hX.2.2.2.2.1⟩ (hM H.size) ⟨zCB hX.2.2.2.2.1 hX.2.2.2.2.2.2.2.2.2.1 hm hl hK, hX.2.2.2.2.1 _ hst9⟩ ⟨zPc_blind, zPc_at hY hX.2.2.2.2.2.2.2.2.2.2.1 hX.2.2.2.2.2.2.2.2.2.2.2 (fun h => nomatch h)⟩ rfl hn hl9.1 rfl (lv_room hcat) hdg ⟨by rw [hX.2.2.2.2.2.2.2.2.2.1]; exact hmc, by rw [hX.2.2.2.2.2.2.2.2.2.1]; exact hms⟩) hY.2.2.1 (fun q _ h => hsub q h) hsub (fun x9 u t H1 locs1 ht hvm hw hB hz1 hk1 hS => ?_)
  obtain ⟨hw, -⟩ := hw
  have hw : x9 = x := hw
  subst hw
  exact k p e R s m args below meth c H1 locs1 A ls hX (zY_aft hY hX.2.2.2.2.2.2.2.2.2.2.2 ht hB hS) hc hl9
theorem zV_callSv {index n K' mc' ms' maxL' : Nat} {y : MethodName} {bytes' : ByteArray} {As rest : List Value} {x : Int32} {M1 : zM} (hM : zMet l D T b gr y bytes' maxL' none K' mc' ms' (As) M (0, x, M1)) (hm : zMd y bytes' maxL' none n) (hl : (Cond.methodLink own index y) ∈ gtb) (hst9 : (Cond.static y) ∈ gtb) (hst : st = As.reverse ++ rest) (hn : As.length = n) (hcat : (rest.map fun v => v.category).sum ≤ 8) (hK : K' + 1 ≤ K) (hmc : cells + mc' ≤ mc) (hms : slots + ms' ≤ ms) (hdg : decode cc pc = .ok (.invokestatic index, 3)) (k : zV tx l own cc nL ret ini K mc ms D T ev b gr n0 o (cells + mc') (slots + ms') (pc + 3) lv rest M1) : zV tx l own cc nL ret ini K mc ms D T ev b gr n0 o cells slots pc lv st M := by
  subst hst
  intro p e R s m args below meth c H locs A ls hX hY hc hl9
  have hsub := zA_sub hY.2.1 hY.2.2.1 hX.2.2.2.2.2.2.2.2.2.2.2 rfl
  refine va_callv (va_runS (As := As) (rest := rest) (n := n) ⟨hX.1, hX.2.1, hX.2.2.1, hX.2.2.2.1, hX.2.2.2.2.1⟩ (hM H.size) ⟨zCB hX.2.2.2.2.1 hX.2.2.2.2.2.2.2.2.2.1 hm hl hK, hX.2.2.2.2.1 _ hst9⟩ ⟨zPc_blind, zPc_at hY hX.2.2.2.2.2.2.2.2.2.2.1 hX.2.2.2.2.2.2.2.2.2.2.2 (fun h => nomatch h)⟩ rfl hn hl9.1 rfl (lv_room hcat) hdg ⟨by rw [hX.2.2.2.2.2.2.2.2.2.1]; exact hmc, by rw [hX.2.2.2.2.2.2.2.2.2.1]; exact hms⟩) hY.2.2.1 (fun q _ h => hsub q h) hsub (fun u t H1 locs1 ht hvm hw hB hz1 hk1 hS => ?_)
  exact k p e R s m args below meth c H1 locs1 A ls hX (zY_aft hY hX.2.2.2.2.2.2.2.2.2.2.2 ht hB hS) hc hl9
theorem zV_callSNi {index n K' mc' ms' maxL' : Nat} {y : MethodName} {bytes' : ByteArray} {As rest : List Value} {ty : FieldType} {x : Int32} {M1 : zM} (hM : zMet l D T b gr y bytes' maxL' (some ty) K' mc' ms' (As) M (0, x, M1)) (hm : zMd y bytes' maxL' (some ty) n) {host : String} (hl : (Cond.methodLinkNest own index y host) ∈ znw) (hst9 : (Cond.static y) ∈ gtb) (hst : st = As.reverse ++ rest) (hn : As.length = n) (hcat : (rest.map fun v => v.category).sum ≤ 8) (hK : K' + 1 ≤ K) (hmc : cells + mc' ≤ mc) (hms : slots + ms' ≤ ms) (hdg : decode cc pc = .ok (.invokestatic index, 3)) (k : zV tx l own cc nL ret ini K mc ms D T ev b gr n0 o (cells + mc') (slots + ms') (pc + 3) lv (.int x :: rest) M1) : zV tx l own cc nL ret ini K mc ms D T ev b gr n0 o cells slots pc lv st M := by
  subst hst
  intro p e R s m args below meth c H locs A ls hX hY hc hl9
  have hsub := zA_sub hY.2.1 hY.2.2.1 hX.2.2.2.2.2.2.2.2.2.2.2 rfl
  refine va_calli (va_runSN (As := As) (rest := rest) (n := n) ⟨hX.1, hX.2.1, hX.2.2.1, hX.2.2.2.1, hX.2.2.2.2.1⟩ (hM H.size) ⟨va_cnB n hX.2.2.2.2.1 (gtb_good (zWs_in hm)) rfl rfl rfl (hY.2.2.2.2.1.2.2 _ hl) (hX.2.2.2.2.1 _ hm.2.1) hm.2.2.1 (by rw [hX.2.2.2.2.2.2.2.2.2.1]; refine ⟨hK, ?_⟩; have := hm.2.2.2; show 8 + (maxL' + 11) + 64 * K' ≤ 64 * K; omega), hX.2.2.2.2.1 _ hst9, trivial⟩ ⟨zPc_blind, zPc_at hY hX.2.2.2.2.2.2.2.2.2.2.1 hX.2.2.2.2.2.2.2.2.2.2.2 (fun h => nomatch h)⟩ rfl hn hl9.1 rfl (lv_room hcat) hdg ⟨by rw [hX.2.2.2.2.2.2.2.2.2.1]; exact hmc, by rw [hX.2.2.2.2.2.2.2.2.2.1]; exact hms⟩) hY.2.2.1 (fun q _ h => hsub q h) hsub (fun x9 u t H1 locs1 ht hvm hw hB hz1 hk1 hS => ?_)
  obtain ⟨hw, -⟩ := hw
  have hw : x9 = x := hw
  subst hw
  exact k p e R s m args below meth c H1 locs1 A ls hX (zY_aft hY hX.2.2.2.2.2.2.2.2.2.2.2 ht hB hS) hc hl9
theorem zV_callSNv {index n K' mc' ms' maxL' : Nat} {y : MethodName} {bytes' : ByteArray} {As rest : List Value} {x : Int32} {M1 : zM} (hM : zMet l D T b gr y bytes' maxL' none K' mc' ms' (As) M (0, x, M1)) (hm : zMd y bytes' maxL' none n) {host : String} (hl : (Cond.methodLinkNest own index y host) ∈ znw) (hst9 : (Cond.static y) ∈ gtb) (hst : st = As.reverse ++ rest) (hn : As.length = n) (hcat : (rest.map fun v => v.category).sum ≤ 8) (hK : K' + 1 ≤ K) (hmc : cells + mc' ≤ mc) (hms : slots + ms' ≤ ms) (hdg : decode cc pc = .ok (.invokestatic index, 3)) (k : zV tx l own cc nL ret ini K mc ms D T ev b gr n0 o (cells + mc') (slots + ms') (pc + 3) lv rest M1) : zV tx l own cc nL ret ini K mc ms D T ev b gr n0 o cells slots pc lv st M := by
  subst hst
  intro p e R s m args below meth c H locs A ls hX hY hc hl9
  have hsub := zA_sub hY.2.1 hY.2.2.1 hX.2.2.2.2.2.2.2.2.2.2.2 rfl
  refine va_callv (va_runSN (As := As) (rest := rest) (n := n) ⟨hX.1, hX.2.1, hX.2.2.1, hX.2.2.2.1, hX.2.2.2.2.1⟩ (hM H.size) ⟨va_cnB n hX.2.2.2.2.1 (gtb_good (zWs_in hm)) rfl rfl rfl (hY.2.2.2.2.1.2.2 _ hl) (hX.2.2.2.2.1 _ hm.2.1) hm.2.2.1 (by rw [hX.2.2.2.2.2.2.2.2.2.1]; refine ⟨hK, ?_⟩; have := hm.2.2.2; show 8 + (maxL' + 11) + 64 * K' ≤ 64 * K; omega), hX.2.2.2.2.1 _ hst9, trivial⟩ ⟨zPc_blind, zPc_at hY hX.2.2.2.2.2.2.2.2.2.2.1 hX.2.2.2.2.2.2.2.2.2.2.2 (fun h => nomatch h)⟩ rfl hn hl9.1 rfl (lv_room hcat) hdg ⟨by rw [hX.2.2.2.2.2.2.2.2.2.1]; exact hmc, by rw [hX.2.2.2.2.2.2.2.2.2.1]; exact hms⟩) hY.2.2.1 (fun q _ h => hsub q h) hsub (fun u t H1 locs1 ht hvm hw hB hz1 hk1 hS => ?_)
  exact k p e R s m args below meth c H1 locs1 A ls hX (zY_aft hY hX.2.2.2.2.2.2.2.2.2.2.2 ht hB hS) hc hl9
theorem zV_callIv {index n K' mc' ms' maxL' : Nat} {y : MethodName} {bytes' : ByteArray} {As rest : List Value} {r : Nat} {x : Int32} {M1 : zM} (hM : zMet l D T b gr y bytes' maxL' none K' mc' ms' (zr b r :: As) M (0, x, M1)) (hm : zMd y bytes' maxL' none n) (hl : (Cond.methodLink own index y) ∈ gtb) (hi : (Cond.instanceMethod y) ∈ gtb) (hy1 : y.name = "<init>") (hk : 1 ≤ r) (hst : st = As.reverse ++ zr b r :: rest) (hn : As.length = n) (hcat : (rest.map fun v => v.category).sum ≤ 8) (hK : K' + 1 ≤ K) (hmc : cells + mc' ≤ mc) (hms : slots + ms' ≤ ms) (hdg : decode cc pc = .ok (.invokespecial index, 3)) (k : zV tx l own cc nL ret ini K mc ms D T ev b gr n0 o (cells + mc') (slots + ms') (pc + 3) lv rest M1) : zV tx l own cc nL ret ini K mc ms D T ev b gr n0 o cells slots pc lv st M := by
  subst hst
  intro p e R s m args below meth c H locs A ls hX hY hc hl9
  have hsub := zA_sub hY.2.1 hY.2.2.1 hX.2.2.2.2.2.2.2.2.2.2.2 rfl
  rw [zr_pos hk] at hM ⊢
  refine va_callv (va_runI (As := As) (rest := rest) (n := n) ⟨hX.1, hX.2.1, hX.2.2.1, hX.2.2.2.1, hX.2.2.2.2.1⟩ (hM H.size) ⟨zCB hX.2.2.2.2.1 hX.2.2.2.2.2.2.2.2.2.1 hm hl hK, hy1, hX.2.2.2.2.1 _ hi⟩ ⟨zPc_blind, by rw [← zr_pos hk]; exact zPc_at hY hX.2.2.2.2.2.2.2.2.2.2.1 hX.2.2.2.2.2.2.2.2.2.2.2 (fun h => nomatch h)⟩ rfl hn hl9.1 rfl (lv_room hcat) hdg ⟨by rw [hX.2.2.2.2.2.2.2.2.2.1]; exact hmc, by rw [hX.2.2.2.2.2.2.2.2.2.1]; exact hms⟩) hY.2.2.1 (fun q _ h => hsub q h) hsub (fun u t H1 locs1 ht hvm hw hB hz1 hk1 hS => ?_)
  exact k p e R s m args below meth c H1 locs1 A ls hX (zY_aft hY hX.2.2.2.2.2.2.2.2.2.2.2 ht hB hS) hc hl9
theorem zV_callINv {index n K' mc' ms' maxL' : Nat} {y : MethodName} {bytes' : ByteArray} {As rest : List Value} {r : Nat} {x : Int32} {M1 : zM} (hM : zMet l D T b gr y bytes' maxL' none K' mc' ms' (zr b r :: As) M (0, x, M1)) (hm : zMd y bytes' maxL' none n) {host : String} (hl : (Cond.methodLinkNest own index y host) ∈ znw) (hi : (Cond.instanceMethod y) ∈ gtb) (hy1 : y.name = "<init>") (hk : 1 ≤ r) (hst : st = As.reverse ++ zr b r :: rest) (hn : As.length = n) (hcat : (rest.map fun v => v.category).sum ≤ 8) (hK : K' + 1 ≤ K) (hmc : cells + mc' ≤ mc) (hms : slots + ms' ≤ ms) (hdg : decode cc pc = .ok (.invokespecial index, 3)) (k : zV tx l own cc nL ret ini K mc ms D T ev b gr n0 o (cells + mc') (slots + ms') (pc + 3) lv rest M1) : zV tx l own cc nL ret ini K mc ms D T ev b gr n0 o cells slots pc lv st M := by
  subst hst
  intro p e R s m args below meth c H locs A ls hX hY hc hl9
  have hsub := zA_sub hY.2.1 hY.2.2.1 hX.2.2.2.2.2.2.2.2.2.2.2 rfl
  rw [zr_pos hk] at hM ⊢
  refine va_callv (va_runIN (As := As) (rest := rest) (n := n) ⟨hX.1, hX.2.1, hX.2.2.1, hX.2.2.2.1, hX.2.2.2.2.1⟩ (hM H.size) ⟨va_cnB n hX.2.2.2.2.1 (gtb_good (zWs_in hm)) rfl rfl rfl (hY.2.2.2.2.1.2.2 _ hl) (hX.2.2.2.2.1 _ hm.2.1) hm.2.2.1 (by rw [hX.2.2.2.2.2.2.2.2.2.1]; refine ⟨hK, ?_⟩; have := hm.2.2.2; show 8 + (maxL' + 11) + 64 * K' ≤ 64 * K; omega), hy1, hX.2.2.2.2.1 _ hi⟩ ⟨zPc_blind, by rw [← zr_pos hk]; exact zPc_at hY hX.2.2.2.2.2.2.2.2.2.2.1 hX.2.2.2.2.2.2.2.2.2.2.2 (fun h => nomatch h)⟩ rfl hn hl9.1 rfl (lv_room hcat) hdg ⟨by rw [hX.2.2.2.2.2.2.2.2.2.1]; exact hmc, by rw [hX.2.2.2.2.2.2.2.2.2.1]; exact hms⟩) hY.2.2.1 (fun q _ h => hsub q h) hsub (fun u t H1 locs1 ht hvm hw hB hz1 hk1 hS => ?_)
  exact k p e R s m args below meth c H1 locs1 A ls hX (zY_aft hY hX.2.2.2.2.2.2.2.2.2.2.2 ht hB hS) hc hl9
end ZRows
/-- the entry of a method -/
theorem zEntry {l : Launch} {D : va_G} {T : Nat → ClassId} {b : Nat} {gr : Bool} {y : MethodName} {cc : ByteArray} {nL : Nat} {ret : Option FieldType} {K mc ms : Nat} {as : List Value} {M : zM} {o : Nat × Int32 × zM} (ini : Bool) (hini : ini = true → y.name = "<init>") (hy : plainName y.cls = true) (hls : (lg_sl as).length ≤ nL) (hcat : ∀ q ∈ lv_args 0 as, q.2.category = 1) {ev : zE} (hev : ev.1 = false)
    (h : zV false l y.cls cc nL ret ini K mc ms D T ev b gr M.2.2.2 o 0 0 0 (lv_args 0 as) [] M) : zMet l D T b gr y cc nL ret K mc ms as M o := by
  intro sz
  refine Met.ofW (cc := cc) (maxL := nL) (ret := ret) hy rfl ?_
  intro p e s m args below meth c s₁ B hml hv
  obtain ⟨rfl, hsz, hgr, hP, hK, -, hao, hnw⟩ := hv
  subst hsz
  rw [lg_entry_eq]
  exact h p e _ s m as.toArray below meth c s.heap [] (zA b M.2.2.2 s.heap.size) _
    ⟨B.exec, B.bytes, hml, findClass_of_methodNamed B.named, fun w hw => atoms_spec (ws := zWs y cc nL ret) B.pre w (List.mem_cons_of_mem _ hw), B.notSynchronized, B.returns, fun hi => (name_of_methodNamed B.named B.method).1.trans (hini hi), trivial, rfl, hK, fun q hq => Or.inr hq⟩
    ⟨hP, zD_of fun r h1 h2 => Or.inl ⟨by omega, by omega⟩, va_S.rf, hgr, ⟨fun hg => (nomatch hg), hao, hnw⟩, fun _ => rfl⟩ ⟨fun q hq => Or.inl (hcat q hq), fun h9 => absurd (hev.symm.trans h9) Bool.false_ne_true⟩ (lv_entry as hls)
theorem zargs_nil : lv_args 0 [] = [] := rfl
end
section
theorem zs_aast {T : Nat → ClassId} {b : Nat} {M : zM} {a j v cd : Nat} (h1 : 1 ≤ a) (h2 : a ≤ M.2.2.2) (h3 : (M.2.2.1 a).1 = cd) (hcd : 110 ≤ cd) (hv : 1 ≤ v) : (zw T b M).set (a - 1) (b + a, .inl (T cd, (zl M a, .inr (.inr (.inr (.inr (va_up (fun i => zop b (zR M a i)) j (some (b + v))))))))) = zw T b (zsR M a j v) := by
  rw [← zw_set (M := M) (M' := zsR M a j v) h1 h2 rfl (fun y hy => zsR_off hy), zc_ref (M := zsR M a j v) (c := cd) h3 hcd]
  have e1 : va_up (fun i => zop b (zR M a i)) j (some (b + v)) = fun i => zop b (zR (zsR M a j v) a i) := by
    funext y
    unfold va_up zop zR zsR
    by_cases hy : y = j
    · subst hy
      simp
      omega
    · simp [hy]
  rw [e1]
  rfl
section ZRows
variable {tx : Bool} {l : Launch} {own : String} {cc : ByteArray} {nL : Nat} {ret : Option FieldType} {ini : Bool} {K mc ms : Nat} {D : va_G} {T : Nat → ClassId} {ev : zE} {b : Nat} {gr : Bool} {n0 : Nat} {o : Nat × Int32 × zM} {cells slots pc : Nat} {lv : List (Nat × Value)} {st : List Value} {M : zM}
theorem zV_objInit {index r : Nat} (hl : (Cond.methodLink own index Lib.objectInit) ∈ gtb) (hi : (Cond.instanceMethod Lib.objectInit) ∈ gtb) (hco : (Cond.code Lib.objectInit ⟨#[0xb1]⟩ 1 none) ∈ gtb) (hK : 1 ≤ K) (hr : 1 ≤ r) (hcat : (st.map fun v => v.category).sum ≤ 8) (hdg : decode cc pc = .ok (.invokespecial index, 3)) (k : zV tx l own cc nL ret ini K mc ms D T ev b gr n0 o cells slots (pc + 3) lv st M) : zV tx l own cc nL ret ini K mc ms D T ev b gr n0 o cells slots pc lv (zr b r :: st) M := by
  intro p e R s m args below meth c H locs A ls hX hY hc hl9
  rw [zr_pos hr]
  have hR : R = zRm K mc ms := hX.2.2.2.2.2.2.2.2.2.1
  exact W.objInit hX.1 hX.2.1 hX.2.2.2.1 (hX.2.2.2.2.1 _ hl) (hX.2.2.2.2.1 _ hi) (hX.2.2.2.2.1 _ hco) rfl (by rw [hX.2.2.1]; exact hl9.1) rfl hdg (by rw [hR]; exact hK) (by rw [hR]; show 2 * 0 + _ + 12 ≤ 64 * K; omega) (k p e R s m args below meth c H locs A ls hX hY hc hl9)
/-- a new object of class ci -/
theorem zV_new {index ci : Nat} (hci : vwCl[ci]? = some (zcl ci) ∧ ci < 100) (hgr : gr = true) (hws : ∀ w ∈ u_ws (zcl ci).1 (zcl ci).2.1 (zcl ci).2.2, w ∈ gtb) (hty : ∀ j, j < (zcl ci).2.2 → parseFieldDescriptor ((zcl ci).2.1 j).2.2.1 = some (zty ci j)) (hdf : ∀ j, j < (zcl ci).2.2 → defaultValue (zty ci j) = if zrt (zty ci j) = true then .null else .int 0)
    (hcl : (Cond.classLink own index (zcl ci).1) ∈ gtb) (hin : (Cond.instantiable (zcl ci).1 (zcl ci).2.2) ∈ gtb) (hit : (Cond.initialized (zcl ci).1) ∈ gtb) (hmc : cells + 1 ≤ mc) (hms : slots + (zcl ci).2.2 ≤ ms) (hdg : decode cc pc = .ok (.new index, 3))
    (k : zV tx l own cc nL ret ini K mc ms D T ev b gr n0 o (cells + 1) (slots + (zcl ci).2.2) (pc + 3) lv (zr b (M.2.2.2 + 1) :: st) (zsN M ci 0)) : zV tx l own cc nL ret ini K mc ms D T ev b gr n0 o cells slots pc lv st M := by
  subst hgr
  intro p e R s m args below meth c H locs A ls hX hY hc hl9
  have hR : R = zRm K mc ms := hX.2.2.2.2.2.2.2.2.2.1
  have hK := hX.2.2.2.2.2.2.2.2.2.2.1
  have hA := hX.2.2.2.2.2.2.2.2.2.2.2
  have hKn := hK.1 ci _ hci.1
  have hsz := hY.2.2.2.1 rfl
  refine W.newcK hX.1 hX.2.1 hX.2.2.2.1 (hX.2.2.2.2.1 _ hcl) (hX.2.2.2.2.1 _ hin) (hX.2.2.2.2.1 _ hit) rfl hdg (by rw [hR]; exact hmc) (by rw [hR]; exact hms) hKn.2.1 rfl fun H1 kC hkC e1 z1 o1 => ?_
  have hk : ∀ (k : Nat) (x : Nat × va_E), (zw T b M)[k]? = some x → H1[x.1]? = H[x.1]? := fun k x hx => o1 x.1 ((hY.1 k x hx).lt)
  have hobj : zc T b (zsN M ci 0) (M.2.2.2 + 1) = .inr (ci, zfs b (zsN M ci 0) (M.2.2.2 + 1) ci) := zc_obj (by simp [zsN]) hci.2
  have hpu := zw_push (T := T) (b := b) (M := M) (M' := zsN M ci 0) rfl (fun x hx => zsN_off hx)
  have hsz2 : H.size = b + (M.2.2.2 + 1) := by omega
  have hP : va_P D vwCl (zw T b (zsN M ci 0)) H1 := by
    rw [← hpu]
    refine (hY.1.kept hk).app (fun k x hx => ?_)
    have hz : k < 1 := (List.getElem?_eq_some_iff.mp hx).1
    rw [show k = 0 by omega] at hx
    cases hx
    rw [hobj]
    refine ⟨_, hci.1, (u_born (zty ci) hX.2.2.2.2.1 hws hKn hkC (by rw [← hsz2]; exact e1) hty).to (fun j hj => ?_)⟩
    rw [hdf j hj]
    unfold vp_V
    rw [List.getD_eq_getElem?_getD, zfs_get hj, Option.getD_some]
    unfold zv
    simp [zI, zR, zsN, zr_0]
  have hD : va_D A (zw T b (zsN M ci 0)) := zD_of fun r h1 h2 => by
    rcases Nat.lt_or_ge M.2.2.2 r with hr | hr
    · exact hA _ (Nat.le_trans hY.2.2.1.1 (by omega))
    · exact hY.2.1.2 (r - 1) _ (zw_get (T := T) (b := b) (M := M) h1 hr)
  have h := k p e R s m args below meth c H1 locs A ls hX ⟨hP, hD, ⟨Nat.le_trans hY.2.2.1.1 (by omega), fun x h1 h2 => (o1 x (Nat.lt_of_lt_of_le h1 hY.2.2.1.1)).trans (hY.2.2.1.2.1 x h1 h2), hY.2.2.1.2.2⟩, fun _ => by rw [z1, hsz]; rfl, hY.2.2.2.2.1, fun hg => absurd hg.symm Bool.false_ne_true⟩ hc hl9
  rw [zr_pos (by omega), ← hsz2] at h
  exact h
theorem zT_of {D : va_G} {T : Nat → ClassId} {s : State} {i cd : Nat} {ty : FieldType} (hK : va_K D vwCl (ztys T) s) (ht : (ztys T)[i]? = some (T cd, ty)) : va_RA s (T cd) ty := (hK.2 i _ ht).2
theorem zV_newa_int {x : Int32} {n : Nat} (hgr : gr = true) (har : (Cond.arrayClass .int) ∈ gtb) (hn : ¬ x < 0) (hN : x.toNatClampNeg = n) (hby : n ≤ 100000) (hmc : cells + 1 ≤ mc) (hms : slots + n ≤ ms) (hdg : decode cc pc = .ok (.newarray .int, 2))
    (k : zV tx l own cc nL ret ini K mc ms D T ev b gr n0 o (cells + 1) (slots + n) (pc + 2) lv (zr b (M.2.2.2 + 1) :: st) (zsN M 100 n)) : zV tx l own cc nL ret ini K mc ms D T ev b gr n0 o cells slots pc lv (.int x :: st) M := by
  subst hgr
  intro p e R s m args below meth c H locs A ls hX hY hc hl9
  have hR : R = zRm K mc ms := hX.2.2.2.2.2.2.2.2.2.1
  have hK := hX.2.2.2.2.2.2.2.2.2.2.1
  have hA := hX.2.2.2.2.2.2.2.2.2.2.2
  have hsz := hY.2.2.2.1 rfl
  refine va_newaK hX.1 hX.2.1 (atype := .int) (hX.2.2.2.2.1 _ har) rfl hdg rfl hn hN (Nat.le_trans (Nat.mul_le_mul_right _ hby) (by decide)) (by rw [hR]; exact hmc) (by rw [hR]; exact hms) rfl fun H1 cA e1 z1 o1 hAr hNm => ?_
  have hcA : cA = T 100 := Option.some.inj (hNm.symm.trans (zT_of (i := 0) (cd := 100) (ty := .int) hK rfl))
  subst hcA
  have hk : ∀ (k : Nat) (x : Nat × va_E), (zw T b M)[k]? = some x → H1[x.1]? = H[x.1]? := fun k x hx => o1 x.1 ((hY.1 k x hx).lt)
  have hobj : zc T b (zsN M 100 n) (M.2.2.2 + 1) = .inl (T 100, (n, .inl (fun _ => 0))) := by
    rw [zc_int (c := 100) (by simp [zsN]) (by decide) (by decide)]
    have e2 : zl (zsN M 100 n) (M.2.2.2 + 1) = n := by simp [zl, zsN]
    have e3 : zI (zsN M 100 n) (M.2.2.2 + 1) = fun _ => 0 := by funext y; simp [zI, zsN]
    rw [e2, e3]
  have hpu := zw_push (T := T) (b := b) (M := M) (M' := zsN M 100 n) rfl (fun x hx => zsN_off hx)
  have hsz2 : H.size = b + (M.2.2.2 + 1) := by omega
  have hP : va_P D vwCl (zw T b (zsN M 100 n)) H1 := by
    rw [← hpu]
    refine (hY.1.kept hk).app (fun k x hx => ?_)
    have hz : k < 1 := (List.getElem?_eq_some_iff.mp hx).1
    rw [show k = 0 by omega] at hx
    cases hx
    rw [hobj]
    show H1[b + (M.2.2.2 + 1)]? = some (vp_cell _ _)
    rw [← hsz2, e1, vp_cell_i]
    rfl
  have hD : va_D A (zw T b (zsN M 100 n)) := zD_of fun r h1 h2 => by
    rcases Nat.lt_or_ge M.2.2.2 r with hr | hr
    · exact hA _ (Nat.le_trans hY.2.2.1.1 (by omega))
    · exact hY.2.1.2 (r - 1) _ (zw_get (T := T) (b := b) (M := M) h1 hr)
  have h := k p e R s m args below meth c H1 locs A ls hX ⟨hP, hD, ⟨Nat.le_trans hY.2.2.1.1 (by omega), fun x h1 h2 => (o1 x (Nat.lt_of_lt_of_le h1 hY.2.2.1.1)).trans (hY.2.2.1.2.1 x h1 h2), hY.2.2.1.2.2⟩, fun _ => by rw [z1, hsz]; rfl, hY.2.2.2.2.1, fun hg => absurd hg.symm Bool.false_ne_true⟩ hc hl9
  rw [zr_pos (by omega), ← hsz2] at h
  exact h
theorem zV_newa_bool {x : Int32} {n : Nat} (hgr : gr = true) (har : (Cond.arrayClass .boolean) ∈ gtb) (hn : ¬ x < 0) (hN : x.toNatClampNeg = n) (hby : n ≤ 100000) (hmc : cells + 1 ≤ mc) (hms : slots + n ≤ ms) (hdg : decode cc pc = .ok (.newarray .boolean, 2))
    (k : zV tx l own cc nL ret ini K mc ms D T ev b gr n0 o (cells + 1) (slots + n) (pc + 2) lv (zr b (M.2.2.2 + 1) :: st) (zsN M 101 n)) : zV tx l own cc nL ret ini K mc ms D T ev b gr n0 o cells slots pc lv (.int x :: st) M := by
  subst hgr
  intro p e R s m args below meth c H locs A ls hX hY hc hl9
  have hR : R = zRm K mc ms := hX.2.2.2.2.2.2.2.2.2.1
  have hK := hX.2.2.2.2.2.2.2.2.2.2.1
  have hA := hX.2.2.2.2.2.2.2.2.2.2.2
  have hsz := hY.2.2.2.1 rfl
  refine va_newaK hX.1 hX.2.1 (atype := .boolean) (hX.2.2.2.2.1 _ har) rfl hdg rfl hn hN (Nat.le_trans (Nat.mul_le_mul_right _ hby) (by decide)) (by rw [hR]; exact hmc) (by rw [hR]; exact hms) rfl fun H1 cA e1 z1 o1 hAr hNm => ?_
  have hcA : cA = T 101 := Option.some.inj (hNm.symm.trans (zT_of (i := 1) (cd := 101) (ty := .boolean) hK rfl))
  subst hcA
  have hk : ∀ (k : Nat) (x : Nat × va_E), (zw T b M)[k]? = some x → H1[x.1]? = H[x.1]? := fun k x hx => o1 x.1 ((hY.1 k x hx).lt)
  have hobj : zc T b (zsN M 101 n) (M.2.2.2 + 1) = .inl (T 101, (n, .inl (fun _ => 0))) := by
    rw [zc_int (c := 101) (by simp [zsN]) (by decide) (by decide)]
    have e2 : zl (zsN M 101 n) (M.2.2.2 + 1) = n := by simp [zl, zsN]
    have e3 : zI (zsN M 101 n) (M.2.2.2 + 1) = fun _ => 0 := by funext y; simp [zI, zsN]
    rw [e2, e3]
  have hpu := zw_push (T := T) (b := b) (M := M) (M' := zsN M 101 n) rfl (fun x hx => zsN_off hx)
  have hsz2 : H.size = b + (M.2.2.2 + 1) := by omega
  have hP : va_P D vwCl (zw T b (zsN M 101 n)) H1 := by
    rw [← hpu]
    refine (hY.1.kept hk).app (fun k x hx => ?_)
    have hz : k < 1 := (List.getElem?_eq_some_iff.mp hx).1
    rw [show k = 0 by omega] at hx
    cases hx
    rw [hobj]
    show H1[b + (M.2.2.2 + 1)]? = some (vp_cell _ _)
    rw [← hsz2, e1, vp_cell_i]
    rfl
  have hD : va_D A (zw T b (zsN M 101 n)) := zD_of fun r h1 h2 => by
    rcases Nat.lt_or_ge M.2.2.2 r with hr | hr
    · exact hA _ (Nat.le_trans hY.2.2.1.1 (by omega))
    · exact hY.2.1.2 (r - 1) _ (zw_get (T := T) (b := b) (M := M) h1 hr)
  have h := k p e R s m args below meth c H1 locs A ls hX ⟨hP, hD, ⟨Nat.le_trans hY.2.2.1.1 (by omega), fun x h1 h2 => (o1 x (Nat.lt_of_lt_of_le h1 hY.2.2.1.1)).trans (hY.2.2.1.2.1 x h1 h2), hY.2.2.1.2.2⟩, fun _ => by rw [z1, hsz]; rfl, hY.2.2.2.2.1, fun hg => absurd hg.symm Bool.false_ne_true⟩ hc hl9
  rw [zr_pos (by omega), ← hsz2] at h
  exact h
theorem zV_newa_char {x : Int32} {n : Nat} (hgr : gr = true) (har : (Cond.arrayClass .char) ∈ gtb) (hn : ¬ x < 0) (hN : x.toNatClampNeg = n) (hby : n ≤ 100000) (hmc : cells + 1 ≤ mc) (hms : slots + n ≤ ms) (hdg : decode cc pc = .ok (.newarray .char, 2))
    (k : zV tx l own cc nL ret ini K mc ms D T ev b gr n0 o (cells + 1) (slots + n) (pc + 2) lv (zr b (M.2.2.2 + 1) :: st) (zsN M 102 n)) : zV tx l own cc nL ret ini K mc ms D T ev b gr n0 o cells slots pc lv (.int x :: st) M := by
  subst hgr
  intro p e R s m args below meth c H locs A ls hX hY hc hl9
  have hR : R = zRm K mc ms := hX.2.2.2.2.2.2.2.2.2.1
  have hK := hX.2.2.2.2.2.2.2.2.2.2.1
  have hA := hX.2.2.2.2.2.2.2.2.2.2.2
  have hsz := hY.2.2.2.1 rfl
  refine va_newaK hX.1 hX.2.1 (atype := .char) (hX.2.2.2.2.1 _ har) rfl hdg rfl hn hN (Nat.le_trans (Nat.mul_le_mul_right _ hby) (by decide)) (by rw [hR]; exact hmc) (by rw [hR]; exact hms) rfl fun H1 cA e1 z1 o1 hAr hNm => ?_
  have hcA : cA = T 102 := Option.some.inj (hNm.symm.trans (zT_of (i := 2) (cd := 102) (ty := .char) hK rfl))
  subst hcA
  have hk : ∀ (k : Nat) (x : Nat × va_E), (zw T b M)[k]? = some x → H1[x.1]? = H[x.1]? := fun k x hx => o1 x.1 ((hY.1 k x hx).lt)
  have hobj : zc T b (zsN M 102 n) (M.2.2.2 + 1) = .inl (T 102, (n, .inl (fun _ => 0))) := by
    rw [zc_int (c := 102) (by simp [zsN]) (by decide) (by decide)]
    have e2 : zl (zsN M 102 n) (M.2.2.2 + 1) = n := by simp [zl, zsN]
    have e3 : zI (zsN M 102 n) (M.2.2.2 + 1) = fun _ => 0 := by funext y; simp [zI, zsN]
    rw [e2, e3]
  have hpu := zw_push (T := T) (b := b) (M := M) (M' := zsN M 102 n) rfl (fun x hx => zsN_off hx)
  have hsz2 : H.size = b + (M.2.2.2 + 1) := by omega
  have hP : va_P D vwCl (zw T b (zsN M 102 n)) H1 := by
    rw [← hpu]
    refine (hY.1.kept hk).app (fun k x hx => ?_)
    have hz : k < 1 := (List.getElem?_eq_some_iff.mp hx).1
    rw [show k = 0 by omega] at hx
    cases hx
    rw [hobj]
    show H1[b + (M.2.2.2 + 1)]? = some (vp_cell _ _)
    rw [← hsz2, e1, vp_cell_i]
    rfl
  have hD : va_D A (zw T b (zsN M 102 n)) := zD_of fun r h1 h2 => by
    rcases Nat.lt_or_ge M.2.2.2 r with hr | hr
    · exact hA _ (Nat.le_trans hY.2.2.1.1 (by omega))
    · exact hY.2.1.2 (r - 1) _ (zw_get (T := T) (b := b) (M := M) h1 hr)
  have h := k p e R s m args below meth c H1 locs A ls hX ⟨hP, hD, ⟨Nat.le_trans hY.2.2.1.1 (by omega), fun x h1 h2 => (o1 x (Nat.lt_of_lt_of_le h1 hY.2.2.1.1)).trans (hY.2.2.1.2.1 x h1 h2), hY.2.2.1.2.2⟩, fun _ => by rw [z1, hsz]; rfl, hY.2.2.2.2.1, fun hg => absurd hg.symm Bool.false_ne_true⟩ hc hl9
  rw [zr_pos (by omega), ← hsz2] at h
  exact h
theorem zV_newq {index : Nat} {x : Int32} {n : Nat} (cd t0 : Nat) {C : String} (hcd : 110 ≤ cd ∧ cd < 255) (ht : (ztys T)[t0]? = some (T cd, .object C)) (hgr : gr = true) (hcl : (Cond.classLink own index C) ∈ gtb) (hao : ∀ s : State, zAO s → va_AO C s) (hn : ¬ x < 0) (hN : x.toNatClampNeg = n) (hby : n ≤ 100000) (hmc : cells + 1 ≤ mc) (hms : slots + n ≤ ms) (hdg : decode cc pc = .ok (.anewarray index, 3))
    (k : zV tx l own cc nL ret ini K mc ms D T ev b gr n0 o (cells + 1) (slots + n) (pc + 3) lv (zr b (M.2.2.2 + 1) :: st) (zsN M cd n)) : zV tx l own cc nL ret ini K mc ms D T ev b gr n0 o cells slots pc lv (.int x :: st) M := by
  subst hgr
  subst hN
  intro p e R s m args below meth c H locs A ls hX hY hc hl9
  have hR : R = zRm K mc ms := hX.2.2.2.2.2.2.2.2.2.1
  have hK := hX.2.2.2.2.2.2.2.2.2.2.1
  have hA := hX.2.2.2.2.2.2.2.2.2.2.2
  have hsz := hY.2.2.2.1 rfl
  refine W.anew hX.1 hX.2.1 hX.2.2.2.1 (hX.2.2.2.2.1 _ hcl) (va_AO.use (hao s (hY.2.2.2.2.1.2.1 rfl))) rfl hdg rfl hn (Nat.le_trans (Nat.mul_le_mul_right _ hby) (by decide)) (by rw [hR]; exact hmc) (by rw [hR]; exact hms) fun cA kA comp f1 f2 f3 f4 => ?_
  generalize hH1 : H.push ({ cls := cA, slots := Array.replicate x.toNatClampNeg .null, vm := .none } : Cell) = H1
  have z1 : H1.size = H.size + 1 := by rw [← hH1, Array.size_push]
  have e1 : H1[H.size]? = some (arrV cA x.toNatClampNeg (fun _ => .null)) := by rw [← hH1, Array.getElem?_push_size, ← arrV_new]
  have o1 : ∀ q : Nat, q < H.size → H1[q]? = H[q]? := fun q hq => by rw [← hH1, Array.getElem?_push, if_neg (Nat.ne_of_lt hq)]
  have hcA : cA = T cd := by
    obtain ⟨kA9, comp9, g1, g2, g3, g4⟩ := zT_of (i := t0) (cd := cd) hK ht
    exact Option.some.inj (f1.symm.trans g4)
  subst hcA
  have hk : ∀ (k : Nat) (x : Nat × va_E), (zw T b M)[k]? = some x → H1[x.1]? = H[x.1]? := fun k x hx => o1 x.1 ((hY.1 k x hx).lt)
  have hobj : zc T b (zsN M cd x.toNatClampNeg) (M.2.2.2 + 1) = .inl (T cd, (x.toNatClampNeg, .inr (.inr (.inr (.inr (fun _ => none)))))) := by
    rw [zc_ref (c := cd) (by simp [zsN]) hcd.1]
    have e2 : zl (zsN M cd x.toNatClampNeg) (M.2.2.2 + 1) = x.toNatClampNeg := by simp [zl, zsN]
    have e3 : (fun i => zop b (zR (zsN M cd x.toNatClampNeg) (M.2.2.2 + 1) i)) = fun _ => none := by funext y; simp [zR, zsN, zop]
    rw [e2, e3]
  have hpu := zw_push (T := T) (b := b) (M := M) (M' := zsN M cd x.toNatClampNeg) rfl (fun x hx => zsN_off hx)
  have hsz2 : H.size = b + (M.2.2.2 + 1) := by omega
  have hP : va_P D vwCl (zw T b (zsN M cd x.toNatClampNeg)) H1 := by
    rw [← hpu]
    refine (hY.1.kept hk).app (fun k x hx => ?_)
    have hz : k < 1 := (List.getElem?_eq_some_iff.mp hx).1
    rw [show k = 0 by omega] at hx
    cases hx
    rw [hobj]
    show H1[b + (M.2.2.2 + 1)]? = some (vp_cell _ _)
    rw [← hsz2, e1, vp_cell_q]
    rfl
  have hD : va_D A (zw T b (zsN M cd x.toNatClampNeg)) := zD_of fun r h1 h2 => by
    rcases Nat.lt_or_ge M.2.2.2 r with hr | hr
    · exact hA _ (Nat.le_trans hY.2.2.1.1 (by omega))
    · exact hY.2.1.2 (r - 1) _ (zw_get (T := T) (b := b) (M := M) h1 hr)
  have h := k p e R s m args below meth c H1 locs A ls hX ⟨hP, hD, ⟨Nat.le_trans hY.2.2.1.1 (by omega), fun x h1 h2 => (o1 x (Nat.lt_of_lt_of_le h1 hY.2.2.1.1)).trans (hY.2.2.1.2.1 x h1 h2), hY.2.2.1.2.2⟩, fun _ => by rw [z1, hsz]; rfl, hY.2.2.2.2.1, fun hg => absurd hg.symm Bool.false_ne_true⟩ hc hl9
  rw [zr_pos (by omega), ← hsz2] at h
  exact h
theorem zV_aast {a v ci : Nat} {i : Int32} (cd t0 : Nat) (hdg : decode cc pc = .ok (.aastore, 1)) (hk : zk M a = cd) (hcd : 110 ≤ cd ∧ cd < 255) (ht : (ztys T)[t0]? = some (T cd, .object (zcl ci).1)) (hci : vwCl[ci]? = some (zcl ci) ∧ ci < 100) (hkv : zk M v = ci) (hi : vp_in i (zl M a)) (k : zV tx l own cc nL ret ini K mc ms D T ev b gr n0 o cells slots (pc + 1) lv st (zsR M a i.toNatClampNeg v)) : zV tx l own cc nL ret ini K mc ms D T ev b gr n0 o cells slots pc lv (zr b v :: .int i :: zr b a :: st) M := by
  intro p e R s m args below meth c H locs A ls hX hY hc hl9
  obtain ⟨h1, h2, h3⟩ := zk_1 hk hcd.2
  obtain ⟨v1, v2, v3⟩ := zk_1 hkv (by omega)
  have hK := hX.2.2.2.2.2.2.2.2.2.2.1
  rw [zr_pos h1, zr_pos v1]
  have hlt : i.toNatClampNeg < zl M a := Nat.not_le.mp fun q => hi (Or.inr q)
  have h0 : ¬ i < 0 := fun q => hi (Or.inl q)
  have hav : (zw T b M)[v - 1]? = some (b + v, .inr (ci, zfs b M v ci)) := by rw [zw_get v1 v2, zc_obj v3 hci.2]
  have haa : (zw T b M)[a - 1]? = some (b + a, .inl (T cd, (zl M a, .inr (.inr (.inr (.inr (fun i => zop b (zR M a i)))))))) := by rw [zw_get h1 h2, zc_ref h3 hcd.1]
  obtain ⟨r', hr', cellV, g1, g2, g3, -⟩ := hY.1 _ _ hav
  have hcls := (hK.1 ci _ hci.1).2
  obtain ⟨kA, comp, k1, k2, k3, -⟩ := (hK.2 t0 _ ht).2
  have hcomp : comp = D.1 ci := Option.some.inj (k3.symm.trans hcls.1)
  subst hcomp
  obtain ⟨kC, hkC, -⟩ := hcls.2
  refine W.aast hX.1 hX.2.1 (hY.1 _ _ haa) (fun q h => by cases h) (fun h => by cases h) k1 k2 rfl hkC ⟨h0, by show _ < (arrV _ _ _).slots.size; rw [arrV_size]; exact hlt⟩ g1 (fun q h => by rw [g3] at h; cases h) (by rw [g2]; exact hkC) (by rw [g2]; exact va_assign hcls) rfl rfl hdg fun H1 e z oq => ?_
  have hset := zs_aast (T := T) (b := b) (M := M) (a := a) (j := i.toNatClampNeg) (v := v) h1 h2 h3 hcd.1 v1
  have hP : va_P D vwCl (zw T b (zsR M a i.toNatClampNeg v)) H1 := by
    rw [← hset]
    refine hY.1.set hY.2.1 haa ?_ oq
    show H1[b + a]? = some (vp_cell _ _)
    rw [e]
    rw [vp_cell_q, vp_cell_q, arrV_store]
    congr 2
    funext q
    by_cases hq : q = i.toNatClampNeg
    · subst hq
      simp [updV, va_up, va_rf]
    · simp [updV, va_up, hq]
  have hD : va_D A (zw T b (zsR M a i.toNatClampNeg v)) := by rw [← hset]; exact hY.2.1.set haa
  exact k p _ R s m args below meth c H1 _ A ls hX ⟨hP, hD, hY.2.2.1.put z oq (hY.2.1.2 _ _ haa), fun hg => by rw [z]; exact hY.2.2.2.1 hg, hY.2.2.2.2⟩ hc hl9
end ZRows
end
section
theorem z_ret {x : Int32} {M : zM} {o : Int32 × zM} (h : some (x, M) = some o) : ((0, o.1, o.2) : Nat × Int32 × zM) = (0, x, M) := by cases h; rfl
theorem z_retx {t : Nat} {x : Int32} {M : zM} {o : Nat × Int32 × zM} (h : some (t, x, M) = some o) : o = (t, x, M) := by cases h; rfl
section ZRows
variable {tx : Bool} {l : Launch} {own : String} {cc : ByteArray} {nL : Nat} {ret : Option FieldType} {ini : Bool} {K mc ms : Nat} {D : va_G} {T : Nat → ClassId} {ev : zE} {b : Nat} {gr : Bool} {n0 : Nat} {o : Nat × Int32 × zM} {cells slots pc : Nat} {lv : List (Nat × Value)} {st : List Value} {M : zM}
theorem zV_pk (is : List Nat) {lv' : List (Nat × Value)} (hs : is.filterMap (fun k => lv[k]?) = lv') (k : zV tx l own cc nL ret ini K mc ms D T ev b gr n0 o cells slots pc lv' st M) : zV tx l own cc nL ret ini K mc ms D T ev b gr n0 o cells slots pc lv st M := by
  subst hs
  refine zV_lv _ (fun q hq => ?_) k
  obtain ⟨i, -, hi⟩ := List.mem_filterMap.mp hq
  exact List.mem_of_getElem? hi
theorem zV_topr {r : Nat} (k : ∀ y : Nat, y = r → zV tx l own cc nL ret ini K mc ms D T ev b gr n0 o cells slots pc lv (zr b y :: st) M) : zV tx l own cc nL ret ini K mc ms D T ev b gr n0 o cells slots pc lv (zr b r :: st) M := k r rfl
theorem zV_wd (c9 s9 : Nat) (h1 : cells ≤ c9) (h2 : slots ≤ s9) (k : zV tx l own cc nL ret ini K mc ms D T ev b gr n0 o c9 s9 pc lv st M) : zV tx l own cc nL ret ini K mc ms D T ev b gr n0 o cells slots pc lv st M :=
  fun p e R s m args below meth c H locs A ls hX hY hc hl => W.widen h1 h2 (k p e R s m args below meth c H locs A ls hX hY hc hl)
theorem zV_alen {a : Nat} (cd t0 : Nat) {ty : FieldType} (hdg : decode cc pc = .ok (.arraylength, 1)) (hk : zk M a = cd) (hcd : 100 ≤ cd ∧ cd < 255) (ht : (ztys T)[t0]? = some (T cd, ty)) (k : zV tx l own cc nL ret ini K mc ms D T ev b gr n0 o cells slots (pc + 1) lv (.int (Int32.ofNat (zl M a)) :: st) M) : zV tx l own cc nL ret ini K mc ms D T ev b gr n0 o cells slots pc lv (zr b a :: st) M := by
  intro p e R s m args below meth c H locs A ls hX hY hc hl
  obtain ⟨h1, h2, h3⟩ := zk_1 hk hcd.2
  rw [zr_pos h1]
  by_cases h9 : cd = 103
  · subst h9
    exact va_alen hX.1 hX.2.1 hX.2.2.2.2.2.2.2.2.2.2.1 hY.1 (a - 1) t0 (by rw [zw_get h1 h2, zc_lng h3]) ht rfl hdg (k p e R s m args below meth c H locs A ls hX hY hc hl)
  rcases Nat.lt_or_ge cd 110 with hq | hq
  · exact va_alen hX.1 hX.2.1 hX.2.2.2.2.2.2.2.2.2.2.1 hY.1 (a - 1) t0 (by rw [zw_get h1 h2, zc_int h3 hcd.1 hq h9]) ht rfl hdg (k p e R s m args below meth c H locs A ls hX hY hc hl)
  · exact va_alen hX.1 hX.2.1 hX.2.2.2.2.2.2.2.2.2.2.1 hY.1 (a - 1) t0 (by rw [zw_get h1 h2, zc_ref h3 hq]) ht rfl hdg (k p e R s m args below meth c H locs A ls hX hY hc hl)
end ZRows
def zc1 : List Value → Prop
  | [] => True
  | v :: vs => v.category = 1 ∧ zc1 vs
theorem zcs : ∀ {st : List Value}, zc1 st → st.length ≤ 8 → (st.map fun v => v.category).sum ≤ 8 := by
  have h : ∀ st : List Value, zc1 st → (st.map fun v => v.category).sum = st.length := by
    intro st
    induction st with
    | nil => intro _; rfl
    | cons v vs ih =>
      intro h
      rw [List.map_cons, List.sum_cons, List.length_cons, ih h.2, h.1]
      omega
  intro st h1 h2
  rw [h st h1]
  exact h2
def zarg : Nat → List Value → List (Nat × Value)
  | _, [] => []
  | i, v :: vs => (i, v) :: zarg (i + 1) vs
theorem zarg_eq : ∀ (as : List Value) (i : Nat), zc1 as → lv_args i as = zarg i as
  | [], _, _ => rfl
  | v :: vs, i, h => by
    unfold lv_args zarg
    rw [if_neg (by rw [h.1]; decide), zarg_eq vs (i + 1) h.2]
theorem zarg_cat : ∀ (as : List Value) (i : Nat), zc1 as → ∀ q ∈ zarg i as, q.2.category = 1
  | [], _, _, q, hq => by cases hq
  | v :: vs, i, h, q, hq => by
    rcases List.mem_cons.mp hq with e | e
    · rw [e]; exact h.1
    · exact zarg_cat vs (i + 1) h.2 q e
theorem zarg_len : ∀ (as : List Value), zc1 as → (lg_sl as).length = as.length
  | [], _ => rfl
  | v :: vs, h => by
    have ih := zarg_len vs h.2
    unfold lg_sl at ih ⊢
    rw [List.flatMap_cons, if_neg (by rw [h.1]; decide), List.length_append, ih]
    simp
    omega
theorem zEntry2 {l : Launch} {D : va_G} {T : Nat → ClassId} {b : Nat} {gr : Bool} {y : MethodName} {cc : ByteArray} {nL : Nat} {ret : Option FieldType} {K mc ms : Nat} {as : List Value} {M : zM} {o : Nat × Int32 × zM} {ev : zE} (hev : ev.1 = false) (ini : Bool) (hini : ini = true → y.name = "<init>") (hy : plainName y.cls = true) (hc : zc1 as) (hn : as.length ≤ nL)
    (h : zV false l y.cls cc nL ret ini K mc ms D T ev b gr M.2.2.2 o 0 0 0 (zarg 0 as) [] M) : zMet l D T b gr y cc nL ret K mc ms as M o :=
  zEntry ini hini hy (by rw [zarg_len as hc]; exact hn) (by rw [zarg_eq as 0 hc]; exact zarg_cat as 0 hc) hev (by rw [zarg_eq as 0 hc]; exact h)
theorem zkI {M N : zM} {a k x c : Nat} {v : Int32} (e : N = zsI M a k v) (h : zk M x = c) : zk N x = c := by subst e; exact h
theorem zkR {M N : zM} {a k x c v : Nat} (e : N = zsR M a k v) (h : zk M x = c) : zk N x = c := by subst e; exact h
theorem zkN {M N : zM} {d n x c : Nat} (e : N = zsN M d n) (h : zk M x = c) (hc : c < 255 := by decide) : zk N x = c := by
  subst e
  obtain ⟨h1, h2, h3⟩ := zk_1 h hc
  unfold zk zsN
  have e1 : x ≠ M.2.2.2 + 1 := by omega
  simp only [e1, if_false]
  rw [if_pos ⟨h1, by omega⟩]
  exact h3
theorem z_out_0_7 {x : Int32} (h0 : ¬ x = 0) (h1 : ¬ x = 1) (h2 : ¬ x = 2) (h3 : ¬ x = 3) (h4 : ¬ x = 4) (h5 : ¬ x = 5) (h6 : ¬ x = 6) (h7 : ¬ x = 7) : x.toInt < 0 ∨ 7 < x.toInt := by
  simp only [← Int32.toInt_inj] at h0 h1 h2 h3 h4 h5 h6 h7
  have e0 : (0 : Int32).toInt = 0 := by decide
  have e1 : (1 : Int32).toInt = 1 := by decide
  have e2 : (2 : Int32).toInt = 2 := by decide
  have e3 : (3 : Int32).toInt = 3 := by decide
  have e4 : (4 : Int32).toInt = 4 := by decide
  have e5 : (5 : Int32).toInt = 5 := by decide
  have e6 : (6 : Int32).toInt = 6 := by decide
  have e7 : (7 : Int32).toInt = 7 := by decide
  omega
theorem z_out_0_6 {x : Int32} (h0 : ¬ x = 0) (h1 : ¬ x = 1) (h2 : ¬ x = 2) (h3 : ¬ x = 3) (h4 : ¬ x = 4) (h5 : ¬ x = 5) (h6 : ¬ x = 6) : x.toInt < 0 ∨ 6 < x.toInt := by
  rcases Int.lt_or_le 6 x.toInt with h | h
  · exact Or.inr h
  · exact (z_out_0_7 h0 h1 h2 h3 h4 h5 h6 (fun e => by subst e; exact absurd h (by decide))).imp id (fun h9 => by omega)

theorem z_ret0 {x : Int32} {M : zM} {o : Int32 × zM} (h : some ((0, x, M) : Nat × Int32 × zM) = some (0, o)) : ((0, o.1, o.2) : Nat × Int32 × zM) = (0, x, M) := by cases h; rfl
theorem zkL {M N : zM} {a k x c : Nat} {v : Int64} (e : N = zsL M a k v) (h : zk M x = c) : zk N x = c := by subst e; exact h
end
section
section ZRows
variable {tx : Bool} {l : Launch} {own : String} {cc : ByteArray} {nL : Nat} {ret : Option FieldType} {ini : Bool} {K mc ms : Nat} {D : va_G} {T : Nat → ClassId} {ev : zE} {b : Nat} {gr : Bool} {n0 : Nat} {o : Nat × Int32 × zM} {cells slots pc : Nat} {lv : List (Nat × Value)} {st : List Value} {M : zM}
theorem zV_lconst {n : Fin 2} {v : Int64} (hdg : decode cc pc = .ok (.lconst n, 1)) (hv : Int64.ofNat (n : Nat) = v) (k : zV tx l own cc nL ret ini K mc ms D T ev b gr n0 o cells slots (pc + 1) lv (.long v :: st) M) : zV tx l own cc nL ret ini K mc ms D T ev b gr n0 o cells slots pc lv (st) M :=
  fun p e R s m args below meth c H locs A ls hX hY hc hl => lv_lconst hX.1 hX.2.1 hdg hv (k p e R s m args below meth c H locs A ls hX hY hc hl)
theorem zV_ldc2 {index : Nat} {v : Int64} (hdg : decode cc pc = .ok (.ldc2_w index, 3)) (hw : Cond.constantLong own index v ∈ gtb) (k : zV tx l own cc nL ret ini K mc ms D T ev b gr n0 o cells slots (pc + 3) lv (.long v :: st) M) : zV tx l own cc nL ret ini K mc ms D T ev b gr n0 o cells slots pc lv (st) M :=
  fun p e R s m args below meth c H locs A ls hX hY hc hl => lv_ldc2 hX.1 hX.2.1 hX.2.2.2.1 (hX.2.2.2.2.1 _ hw) hdg (k p e R s m args below meth c H locs A ls hX hY hc hl)
theorem zV_lload_n {q : Fin 4} {i j : Nat} {x : Int64} (hdg : decode cc pc = .ok (.lload_n q, 1)) (hi : (q : Nat) = i) (hk : lv[j]? = some (i, .long x)) (k : zV tx l own cc nL ret ini K mc ms D T ev b gr n0 o cells slots (pc + 1) lv (.long x :: st) M) : zV tx l own cc nL ret ini K mc ms D T ev b gr n0 o cells slots pc lv (st) M :=
  fun p e R s m args below meth c H locs A ls hX hY hc hl => lv_lload_n hX.1 hX.2.1 hdg hi (lv_at hl j hk) (k p e R s m args below meth c H locs A ls hX hY hc hl)
theorem zV_lload {i j : Nat} {x : Int64} (hdg : decode cc pc = .ok (.lload i, 2)) (hk : lv[j]? = some (i, .long x)) (k : zV tx l own cc nL ret ini K mc ms D T ev b gr n0 o cells slots (pc + 2) lv (.long x :: st) M) : zV tx l own cc nL ret ini K mc ms D T ev b gr n0 o cells slots pc lv (st) M :=
  fun p e R s m args below meth c H locs A ls hX hY hc hl => lv_lload hX.1 hX.2.1 hdg (lv_at hl j hk) (k p e R s m args below meth c H locs A ls hX hY hc hl)
theorem zV_sload_n {q : Fin 4} {i j a : Nat} (hdg : decode cc pc = .ok (.aload_n q, 1)) (hi : (q : Nat) = i) (hk : lv[j]? = some (i, .ref a)) (k : zV tx l own cc nL ret ini K mc ms D T ev b gr n0 o cells slots (pc + 1) lv (.ref a :: st) M) : zV tx l own cc nL ret ini K mc ms D T ev b gr n0 o cells slots pc lv (st) M :=
  fun p e R s m args below meth c H locs A ls hX hY hc hl => lv_aload_n hX.1 hX.2.1 hdg hi (lv_at hl j hk) (k p e R s m args below meth c H locs A ls hX hY hc hl)
theorem zV_ladd {x y : Int64} (hdg : decode cc pc = .ok (.ladd, 1)) (k : zV tx l own cc nL ret ini K mc ms D T ev b gr n0 o cells slots (pc + 1) lv (.long (x + y) :: st) M) : zV tx l own cc nL ret ini K mc ms D T ev b gr n0 o cells slots pc lv (.long y :: .long x :: st) M :=
  fun p e R s m args below meth c H locs A ls hX hY hc hl => lv_ladd hX.1 hX.2.1 hdg (k p e R s m args below meth c H locs A ls hX hY hc hl)
theorem zV_lmul {x y : Int64} (hdg : decode cc pc = .ok (.lmul, 1)) (k : zV tx l own cc nL ret ini K mc ms D T ev b gr n0 o cells slots (pc + 1) lv (.long (x * y) :: st) M) : zV tx l own cc nL ret ini K mc ms D T ev b gr n0 o cells slots pc lv (.long y :: .long x :: st) M :=
  fun p e R s m args below meth c H locs A ls hX hY hc hl => lv_lmul hX.1 hX.2.1 hdg (k p e R s m args below meth c H locs A ls hX hY hc hl)
theorem zV_ldiv {x y : Int64} (hdg : decode cc pc = .ok (.ldiv, 1)) (hne : ¬ y = 0) (k : zV tx l own cc nL ret ini K mc ms D T ev b gr n0 o cells slots (pc + 1) lv (.long (x / y) :: st) M) : zV tx l own cc nL ret ini K mc ms D T ev b gr n0 o cells slots pc lv (.long y :: .long x :: st) M :=
  fun p e R s m args below meth c H locs A ls hX hY hc hl => lv_ldiv hX.1 hX.2.1 hdg hne (k p e R s m args below meth c H locs A ls hX hY hc hl)
theorem zV_lrem {x y : Int64} (hdg : decode cc pc = .ok (.lrem, 1)) (hne : ¬ y = 0) (k : zV tx l own cc nL ret ini K mc ms D T ev b gr n0 o cells slots (pc + 1) lv (.long (zlrem x y) :: st) M) : zV tx l own cc nL ret ini K mc ms D T ev b gr n0 o cells slots pc lv (.long y :: .long x :: st) M :=
  fun p e R s m args below meth c H locs A ls hX hY hc hl => lv_lrem hX.1 hX.2.1 hdg hne (k p e R s m args below meth c H locs A ls hX hY hc hl)
theorem zV_ixor {x y : Int32} (hdg : decode cc pc = .ok (.ixor, 1)) (k : zV tx l own cc nL ret ini K mc ms D T ev b gr n0 o cells slots (pc + 1) lv (.int (x ^^^ y) :: st) M) : zV tx l own cc nL ret ini K mc ms D T ev b gr n0 o cells slots pc lv (.int y :: .int x :: st) M :=
  fun p e R s m args below meth c H locs A ls hX hY hc hl => lv_ixor hX.1 hX.2.1 hdg (k p e R s m args below meth c H locs A ls hX hY hc hl)
theorem zV_i2l {x : Int32} (hdg : decode cc pc = .ok (.i2l, 1)) (k : zV tx l own cc nL ret ini K mc ms D T ev b gr n0 o cells slots (pc + 1) lv (.long x.toInt64 :: st) M) : zV tx l own cc nL ret ini K mc ms D T ev b gr n0 o cells slots pc lv (.int x :: st) M :=
  fun p e R s m args below meth c H locs A ls hX hY hc hl => lv_i2l hX.1 hX.2.1 hdg rfl (k p e R s m args below meth c H locs A ls hX hY hc hl)
theorem zV_l2i {x : Int64} (hdg : decode cc pc = .ok (.l2i, 1)) (k : zV tx l own cc nL ret ini K mc ms D T ev b gr n0 o cells slots (pc + 1) lv (.int x.toInt32 :: st) M) : zV tx l own cc nL ret ini K mc ms D T ev b gr n0 o cells slots pc lv (.long x :: st) M :=
  fun p e R s m args below meth c H locs A ls hX hY hc hl => lv_l2i hX.1 hX.2.1 hdg rfl (k p e R s m args below meth c H locs A ls hX hY hc hl)
theorem zV_lcmp {x y : Int64} (hdg : decode cc pc = .ok (.lcmp, 1)) (k : zV tx l own cc nL ret ini K mc ms D T ev b gr n0 o cells slots (pc + 1) lv (.int (lg_cmp x y) :: st) M) : zV tx l own cc nL ret ini K mc ms D T ev b gr n0 o cells slots pc lv (.long y :: .long x :: st) M :=
  fun p e R s m args below meth c H locs A ls hX hY hc hl => W.lcmp hX.1 hX.2.1 hdg (k p e R s m args below meth c H locs A ls hX hY hc hl)
theorem zV_topl {x : Int64} (k : ∀ y : Int64, y = x → zV tx l own cc nL ret ini K mc ms D T ev b gr n0 o cells slots pc lv (.long y :: st) M) : zV tx l own cc nL ret ini K mc ms D T ev b gr n0 o cells slots pc lv (.long x :: st) M := k x rfl
theorem zV_lstore_n {q : Fin 4} {i : Nat} {x : Int64} (lv' : List (Nat × Value)) (hdg : decode cc pc = .ok (.lstore_n q, 1)) (hi : (q : Nat) = i) (hn : i + 1 < nL) (hj : i = zJ ev) (hs : zsetl lv i (.long x) = lv') (k : zV tx l own cc nL ret ini K mc ms D T ev b gr n0 o cells slots (pc + 1) lv' st M) : zV tx l own cc nL ret ini K mc ms D T ev b gr n0 o cells slots pc lv (.long x :: st) M := by
  subst hs
  intro p e R s m args below meth c H locs A ls hX hY hc hl
  exact lv_lstore_n hX.1 hX.2.1 hdg hi hl hn rfl (fun ls' hl' => k p e R s m args below meth c H locs A ls' hX hY (zsetl_cat hc hj) (zsetl_has hc hj hl'))
theorem zV_lstore {i : Nat} {x : Int64} (lv' : List (Nat × Value)) (hdg : decode cc pc = .ok (.lstore i, 2)) (hn : i + 1 < nL) (hj : i = zJ ev) (hs : zsetl lv i (.long x) = lv') (k : zV tx l own cc nL ret ini K mc ms D T ev b gr n0 o cells slots (pc + 2) lv' st M) : zV tx l own cc nL ret ini K mc ms D T ev b gr n0 o cells slots pc lv (.long x :: st) M := by
  subst hs
  intro p e R s m args below meth c H locs A ls hX hY hc hl
  exact lv_lstore hX.1 hX.2.1 hdg hl hn rfl (fun ls' hl' => k p e R s m args below meth c H locs A ls' hX hY (zsetl_cat hc hj) (zsetl_has hc hj hl'))
theorem zV_lald {a : Nat} {i : Int32} (hdg : decode cc pc = .ok (.laload, 1)) (hk : zk M a = 103) (hi : vp_in i (zl M a)) (k : zV tx l own cc nL ret ini K mc ms D T ev b gr n0 o cells slots (pc + 1) lv (.long (zL M a i.toNatClampNeg) :: st) M) : zV tx l own cc nL ret ini K mc ms D T ev b gr n0 o cells slots pc lv (.int i :: zr b a :: st) M := by
  intro p e R s m args below meth c H locs A ls hX hY hc hl
  obtain ⟨h1, h2, h3⟩ := zk_1 hk (by decide)
  rw [zr_pos h1]
  exact va_lald hX.1 hX.2.1 hX.2.2.2.2.2.2.2.2.2.2.1 hY.1 (a - 1) 3 (by rw [zw_get h1 h2, zc_lng h3]) rfl hi hdg (k p e R s m args below meth c H locs A ls hX hY hc hl)
theorem zset_last {T : Nat → ClassId} {b : Nat} {M : zM} {a : Nat} {j : Nat} {x : Int64} (h1 : 1 ≤ a) (h2 : a ≤ M.2.2.2) (h3 : (M.2.2.1 a).1 = 103) : (zw T b M).set (a - 1) (b + a, .inl (T 103, (zl M a, .inr (.inl (vp_updL (zL M a) j x))))) = zw T b (zsL M a j x) := by
  rw [← zw_set (M := M) (M' := zsL M a j x) h1 h2 rfl (fun y hy => zsR_off hy), zc_lng (M := zsL M a j x) h3]
  have e1 : vp_updL (zL M a) j x = zL (zsL M a j x) a := by
    funext y
    by_cases hy : y = j
    · subst hy
      simp [vp_updL, zL, zsL, zR, zsR, zL_of]
    · simp [vp_updL, zL, zsL, zR, zsR, hy]
  rw [e1]
  rfl
theorem zV_last {a : Nat} {i : Int32} {x : Int64} (hdg : decode cc pc = .ok (.lastore, 1)) (hk : zk M a = 103) (hi : vp_in i (zl M a)) (k : zV tx l own cc nL ret ini K mc ms D T ev b gr n0 o cells slots (pc + 1) lv st (zsL M a i.toNatClampNeg x)) : zV tx l own cc nL ret ini K mc ms D T ev b gr n0 o cells slots pc lv (.long x :: .int i :: zr b a :: st) M := by
  intro p e R s m args below meth c H locs A ls hX hY hc hl
  obtain ⟨h1, h2, h3⟩ := zk_1 hk (by decide)
  have hset := zset_last (T := T) (b := b) (M := M) (a := a) (j := i.toNatClampNeg) (x := x) h1 h2 h3
  have haa : (zw T b M)[a - 1]? = some (b + a, .inl (T 103, (zl M a, .inr (.inl (zL M a))))) := by rw [zw_get h1 h2, zc_lng h3]
  rw [zr_pos h1]
  refine W.last hX.1 hX.2.1 (hY.1 _ _ haa) ((hX.2.2.2.2.2.2.2.2.2.2.1.2 3 _ rfl).1 (zl M a) (fun j => .long (zL M a j))) (fun q => by cases q) (by show ¬ (i < 0 ∨ (arrV _ _ _).slots.size ≤ _); rw [arrV_size]; exact hi) rfl rfl hdg fun H1 e z oq => ?_
  have hP : va_P D vwCl (zw T b (zsL M a i.toNatClampNeg x)) H1 := by
    rw [← hset]
    refine hY.1.set hY.2.1 haa ?_ oq
    show H1[b + a]? = some (vp_cell _ _)
    rw [e]
    rw [vp_cell_l, vp_cell_l, arrV_store]
    congr 2
    funext q
    by_cases hq : q = i.toNatClampNeg
    · subst hq
      simp [updV, vp_updL]
    · simp [updV, vp_updL, hq]
  have hD : va_D A (zw T b (zsL M a i.toNatClampNeg x)) := by rw [← hset]; exact hY.2.1.set haa
  exact k p _ R s m args below meth c H1 _ A ls hX ⟨hP, hD, hY.2.2.1.put z oq (hY.2.1.2 _ _ haa), fun hg => by rw [z]; exact hY.2.2.2.1 hg, hY.2.2.2.2⟩ hc hl
/-- the script -/
theorem zV_sald {i : Int32} (he : ev.1 = true) (hdg : decode cc pc = .ok (.iaload, 1)) (hi : vp_in i ev.2.2.1) (k : zV tx l own cc nL ret ini K mc ms D T ev b gr n0 o cells slots (pc + 1) lv (.int (ev.2.2.2.1 i.toNatClampNeg) :: st) M) : zV tx l own cc nL ret ini K mc ms D T ev b gr n0 o cells slots pc lv (.int i :: .ref ev.2.1 :: st) M := by
  intro p e R s m args below meth c H locs A ls hX hY hc hl
  obtain ⟨h1, h2, h3⟩ := hc.2 he
  exact va_sld hX.1 hX.2.1 h1 h2 h3 hY.2.2.1 hi hdg (k p e R s m args below meth c H locs A ls hX hY hc hl)
theorem zV_salen (he : ev.1 = true) (hdg : decode cc pc = .ok (.arraylength, 1)) (k : zV tx l own cc nL ret ini K mc ms D T ev b gr n0 o cells slots (pc + 1) lv (.int (Int32.ofNat ev.2.2.1) :: st) M) : zV tx l own cc nL ret ini K mc ms D T ev b gr n0 o cells slots pc lv (.ref ev.2.1 :: st) M := by
  intro p e R s m args below meth c H locs A ls hX hY hc hl
  obtain ⟨h1, h2, h3⟩ := hc.2 he
  exact va_slen hX.1 hX.2.1 h1 h2 h3 hY.2.2.1 hdg (k p e R s m args below meth c H locs A ls hX hY hc hl)
end ZRows
section ZRows
variable {tx : Bool} {l : Launch} {own : String} {cc : ByteArray} {nL : Nat} {ret : Option FieldType} {ini : Bool} {K mc ms : Nat} {D : va_G} {T : Nat → ClassId} {ev : zE} {b : Nat} {gr : Bool} {n0 : Nat} {o : Nat × Int32 × zM} {cells slots pc : Nat} {lv : List (Nat × Value)} {st : List Value} {M : zM}
theorem zV_newa_long {x : Int32} {n : Nat} (hgr : gr = true) (har : (Cond.arrayClass .long) ∈ gtb) (hn : ¬ x < 0) (hN : x.toNatClampNeg = n) (hby : n ≤ 100000) (hmc : cells + 1 ≤ mc) (hms : slots + n ≤ ms) (hdg : decode cc pc = .ok (.newarray .long, 2))
    (k : zV tx l own cc nL ret ini K mc ms D T ev b gr n0 o (cells + 1) (slots + n) (pc + 2) lv (zr b (M.2.2.2 + 1) :: st) (zsN M 103 n)) : zV tx l own cc nL ret ini K mc ms D T ev b gr n0 o cells slots pc lv (.int x :: st) M := by
  subst hgr
  intro p e R s m args below meth c H locs A ls hX hY hc hl9
  have hR : R = zRm K mc ms := hX.2.2.2.2.2.2.2.2.2.1
  have hK := hX.2.2.2.2.2.2.2.2.2.2.1
  have hA := hX.2.2.2.2.2.2.2.2.2.2.2
  have hsz := hY.2.2.2.1 rfl
  refine va_newaK hX.1 hX.2.1 (atype := .long) (hX.2.2.2.2.1 _ har) rfl hdg rfl hn hN (Nat.le_trans (Nat.mul_le_mul_right _ hby) (by decide)) (by rw [hR]; exact hmc) (by rw [hR]; exact hms) rfl fun H1 cA e1 z1 o1 hAr hNm => ?_
  have hcA : cA = T 103 := Option.some.inj (hNm.symm.trans (zT_of (i := 3) (cd := 103) (ty := .long) hK rfl))
  subst hcA
  have hk : ∀ (k : Nat) (x : Nat × va_E), (zw T b M)[k]? = some x → H1[x.1]? = H[x.1]? := fun k x hx => o1 x.1 ((hY.1 k x hx).lt)
  have hobj : zc T b (zsN M 103 n) (M.2.2.2 + 1) = .inl (T 103, (n, .inr (.inl (fun _ => 0)))) := by
    rw [zc_lng (by simp [zsN])]
    have e2 : zl (zsN M 103 n) (M.2.2.2 + 1) = n := by simp [zl, zsN]
    have e3 : zL (zsN M 103 n) (M.2.2.2 + 1) = fun _ => 0 := by funext y; simp [zL, zR, zsN]
    rw [e2, e3]
  have hpu := zw_push (T := T) (b := b) (M := M) (M' := zsN M 103 n) rfl (fun x hx => zsN_off hx)
  have hsz2 : H.size = b + (M.2.2.2 + 1) := by omega
  have hP : va_P D vwCl (zw T b (zsN M 103 n)) H1 := by
    rw [← hpu]
    refine (hY.1.kept hk).app (fun k x hx => ?_)
    have hz : k < 1 := (List.getElem?_eq_some_iff.mp hx).1
    rw [show k = 0 by omega] at hx
    cases hx
    rw [hobj]
    show H1[b + (M.2.2.2 + 1)]? = some (vp_cell _ _)
    rw [← hsz2, e1, vp_cell_l]
    rfl
  have hD : va_D A (zw T b (zsN M 103 n)) := zD_of fun r h1 h2 => by
    rcases Nat.lt_or_ge M.2.2.2 r with hr | hr
    · exact hA _ (Nat.le_trans hY.2.2.1.1 (by omega))
    · exact hY.2.1.2 (r - 1) _ (zw_get (T := T) (b := b) (M := M) h1 hr)
  have h := k p e R s m args below meth c H1 locs A ls hX ⟨hP, hD, ⟨Nat.le_trans hY.2.2.1.1 (by omega), fun x h1 h2 => (o1 x (Nat.lt_of_lt_of_le h1 hY.2.2.1.1)).trans (hY.2.2.1.2.1 x h1 h2), hY.2.2.1.2.2⟩, fun _ => by rw [z1, hsz]; rfl, hY.2.2.2.2.1, fun hg => absurd hg.symm Bool.false_ne_true⟩ hc hl9
  rw [zr_pos (by omega), ← hsz2] at h
  exact h
end ZRows
end
section
/-! contracts of methods that read the script (zMetS), of methods with a table of catches that is never used (zMetW), of methods that make nothing, with the heap's size (zMet0) -/
def zPcS (D : va_G) (T : Nat → ClassId) (b : Nat) (gr : Bool) (b0 L : Nat) (xs : Nat → Int32) (as : List Value) (M : zM) (sz : Nat) : Array Value → State → Prop := va_Pc as fun U => (U.heap.size = sz ∧ (gr = true → sz = b + M.2.2.2 + 1) ∧ va_P D vwCl (zw T b M) U.heap ∧ va_K D vwCl (ztys T) U ∧ (gr = true → zAO U) ∧ zN U) ∧ va_X b0 L xs U U.heap ∧ b0 ≤ b ∧ b0 < sz
def zMetS (l : Launch) (D : va_G) (T : Nat → ClassId) (b : Nat) (gr : Bool) (b0 L : Nat) (xs : Nat → Int32) (y : MethodName) (cc : ByteArray) (nL : Nat) (ret : Option FieldType) (K mc ms : Nat) (as : List Value) (M : zM) (o : Nat × Int32 × zM) : Prop :=
  ∀ sz, Met l y (zWs y cc nL ret) (zRm K mc ms) (zPcS D T b gr b0 L xs as M sz) (zQ ret D T b gr M.2.2.2 o (zA b M.2.2.2 sz)) mc ms (zA b M.2.2.2 sz)
def zMetW (l : Launch) (D : va_G) (T : Nat → ClassId) (b : Nat) (gr : Bool) (y : MethodName) (cc : ByteArray) (nL : Nat) (ret : Option FieldType) (hh : List (Nat × Nat × Nat × Nat)) (K mc ms : Nat) (as : List Value) (M : zM) (o : Nat × Int32 × zM) : Prop :=
  ∀ sz, Met l y (Cond.codeWith y cc nL ret hh :: gtb) (zRm K mc ms) (zPc D T b gr false as M sz) (zQ ret D T b gr M.2.2.2 o (zA b M.2.2.2 sz)) mc ms (zA b M.2.2.2 sz)
theorem zPcS_blind {D : va_G} {T : Nat → ClassId} {b : Nat} {gr : Bool} {b0 L : Nat} {xs : Nat → Int32} {as : List Value} {M : zM} {sz : Nat} : FrameBlind (zPcS D T b gr b0 L xs as M sz) := by
  intro a U g mk q
  obtain ⟨q0, ⟨q1, q2, q3, q4, q6, q7⟩, q8, q9, q10⟩ := q
  exact ⟨q0, ⟨q1, q2, q3, va_K.moved (u := U) (U := U.calling g mk a) (Vm.Alike.refl U.vm) q4, fun h => zAO_moved (u := U) (U := U.calling g mk a) (Vm.Alike.refl U.vm) (q6 h), zN_warm (s := U) (U := U.calling g mk a) (State.WarmedH.refl U) q7⟩, va_X.moved (u := U) (U := U.calling g mk a) (Vm.Alike.refl U.vm) q8, q9, q10⟩
theorem zEntryS {l : Launch} {D : va_G} {T : Nat → ClassId} {b : Nat} {gr : Bool} {b0 L : Nat} {xs : Nat → Int32} {y : MethodName} {cc : ByteArray} {nL : Nat} {ret : Option FieldType} {K mc ms : Nat} {as : List Value} {M : zM} {o : Nat × Int32 × zM} (hy : plainName y.cls = true) (hc : zc1 as) (hn : as.length ≤ nL)
    (h : zV false l y.cls cc nL ret false K mc ms D T (zEs b0 L xs) b gr M.2.2.2 o 0 0 0 (zarg 0 as) [] M) : zMetS l D T b gr b0 L xs y cc nL ret K mc ms as M o := by
  intro sz
  refine Met.ofW (cc := cc) (maxL := nL) (ret := ret) hy rfl ?_
  intro p e s m args below meth c s₁ B hml hv
  obtain ⟨rfl, ⟨hsz, hgr, hP, hK, hao, hnw⟩, hX, hb, hlt⟩ := hv
  subst hsz
  rw [lg_entry_eq]
  have hcat : ∀ q ∈ lv_args 0 as, q.2.category = 1 := by rw [zarg_eq as 0 hc]; exact zarg_cat as 0 hc
  rw [← zarg_eq as 0 hc] at h
  exact h p e _ s m as.toArray below meth c s.heap [] (zA b M.2.2.2 s.heap.size) _
    ⟨B.exec, B.bytes, hml, findClass_of_methodNamed B.named, fun w hw => atoms_spec (ws := zWs y cc nL ret) B.pre w (List.mem_cons_of_mem _ hw), B.notSynchronized, B.returns, fun hi => (nomatch hi), trivial, rfl, hK, fun q hq => Or.inr hq⟩
    ⟨hP, zD_of fun r h1 h2 => Or.inl ⟨by omega, by omega⟩, va_S.rf, hgr, ⟨fun hg => (nomatch hg), hao, hnw⟩, fun _ => rfl⟩ ⟨fun q hq => Or.inl (hcat q hq), fun _ => ⟨hX, hlt, fun h9 => by
      rcases h9 with ⟨h9, _⟩ | h9
      · have h9 : b < b0 := h9
        omega
      · have h9 : s.heap.size ≤ b0 := h9
        omega⟩⟩ (lv_entry as (by rw [zarg_len as hc]; exact hn))
theorem zEntryW {l : Launch} {D : va_G} {T : Nat → ClassId} {b : Nat} {gr : Bool} {y : MethodName} {cc : ByteArray} {nL : Nat} {ret : Option FieldType} {hh : List (Nat × Nat × Nat × Nat)} {K mc ms : Nat} {as : List Value} {M : zM} {o : Nat × Int32 × zM} (hy : plainName y.cls = true) (hc : zc1 as) (hn : as.length ≤ nL)
    (h : zV false l y.cls cc nL ret false K mc ms D T zE0 b gr M.2.2.2 o 0 0 0 (zarg 0 as) [] M) : zMetW l D T b gr y cc nL ret hh K mc ms as M o := by
  intro sz
  refine va_MetW hy rfl ?_
  intro p e s m args below meth c s₁ B hml hv
  obtain ⟨rfl, hsz, hgr, hP, hK, -, hao, hnw⟩ := hv
  subst hsz
  rw [lg_entry_eq]
  have hcat : ∀ q ∈ lv_args 0 as, q.2.category = 1 := by rw [zarg_eq as 0 hc]; exact zarg_cat as 0 hc
  rw [← zarg_eq as 0 hc] at h
  exact h p e _ s m as.toArray below meth c s.heap [] (zA b M.2.2.2 s.heap.size) _
    ⟨B.exec, B.bytes, hml, findClass_of_methodNamed B.named, fun w hw => atoms_spec (ws := Cond.codeWith y cc nL ret hh :: gtb) B.pre w (List.mem_cons_of_mem _ hw), B.notSynchronized, B.returns, fun hi => (nomatch hi), trivial, rfl, hK, fun q hq => Or.inr hq⟩
    ⟨hP, zD_of fun r h1 h2 => Or.inl ⟨by omega, by omega⟩, va_S.rf, hgr, ⟨fun hg => (nomatch hg), hao, hnw⟩, fun _ => rfl⟩ ⟨fun q hq => Or.inl (hcat q hq), fun h9 => absurd h9 Bool.false_ne_true⟩ (lv_entry as (by rw [zarg_len as hc]; exact hn))
section ZRows
variable {tx : Bool} {l : Launch} {own : String} {cc : ByteArray} {nL : Nat} {ret : Option FieldType} {ini : Bool} {K mc ms : Nat} {D : va_G} {T : Nat → ClassId} {ev : zE} {b : Nat} {gr : Bool} {n0 : Nat} {o : Nat × Int32 × zM} {cells slots pc : Nat} {lv : List (Nat × Value)} {st : List Value} {M : zM}
theorem zV_callF (he : ev.1 = true) (hgr : gr = true) {index n K' maxL' : Nat} {y : MethodName} {bytes' : ByteArray} {As rest : List Value} {ty : FieldType} {x : Int32} {M1 : zM} (hM : zMetS l D T b gr ev.2.1 ev.2.2.1 ev.2.2.2.1 y bytes' maxL' (some ty) K' 0 0 As M (0, x, M1)) (hm : zMd y bytes' maxL' (some ty) n) (hl : (Cond.methodLink own index y) ∈ gtb) (hst9 : (Cond.static y) ∈ gtb) (hst : st = As.reverse ++ rest) (hn : As.length = n) (hcat : (rest.map fun v => v.category).sum ≤ 8) (hK : K' + 1 ≤ K) (hmc : cells ≤ mc) (hms : slots ≤ ms) (hdg : decode cc pc = .ok (.invokestatic index, 3)) (k : zV tx l own cc nL ret ini K mc ms D T ev b gr n0 o cells slots (pc + 3) lv (.int x :: rest) M1) : zV tx l own cc nL ret ini K mc ms D T ev b gr n0 o cells slots pc lv st M := by
  subst hst
  intro p e R s m args below meth c H locs A ls hX hY hc hl9
  have hsub := zA_sub hY.2.1 hY.2.2.1 hX.2.2.2.2.2.2.2.2.2.2.2 rfl
  obtain ⟨h1, h2, h3⟩ := hc.2 he
  have hb : ev.2.1 ≤ b := by
    rcases Nat.lt_or_ge b ev.2.1 with h9 | h9
    · exfalso
      apply h3
      have h4 := hY.2.1.2 (ev.2.1 - b - 1) _ (zw_get (T := T) (b := b) (M := M) (a := ev.2.1 - b) (by omega) (by have := hY.2.2.2.1 hgr; have := hY.2.2.1.1; omega))
      have e9 : b + (ev.2.1 - b) = ev.2.1 := by omega
      rw [← e9]
      exact h4
    · exact h9
  have hpre : ∀ U : State, U.heap = H → s.WarmedH U.vm → zPcS D T b gr ev.2.1 ev.2.2.1 ev.2.2.2.1 As M H.size As.toArray U := by
    intro U hU hW
    obtain ⟨g0, g1, g2, g3, g4, g5, g6, g7⟩ := zPc_at (as := As) (tz' := false) hY hX.2.2.2.2.2.2.2.2.2.2.1 hX.2.2.2.2.2.2.2.2.2.2.2 (fun h => nomatch h) U hU hW
    refine ⟨g0, ⟨g1, g2, g3, g4, g6, g7⟩, ?_, hb, Nat.lt_of_lt_of_le h2 hY.2.2.1.1⟩
    rw [hU]
    exact va_X.moved hW.alike (h1.kept (hY.2.2.1.2.1 _ h2 h3))
  refine va_calli (va_runS (As := As) (rest := rest) (n := n) ⟨hX.1, hX.2.1, hX.2.2.1, hX.2.2.2.1, hX.2.2.2.2.1⟩ (hM H.size) ⟨zCB hX.2.2.2.2.1 hX.2.2.2.2.2.2.2.2.2.1 hm hl hK, hX.2.2.2.2.1 _ hst9⟩ ⟨zPcS_blind, hpre⟩ rfl hn hl9.1 rfl (lv_room hcat) hdg ⟨by rw [hX.2.2.2.2.2.2.2.2.2.1]; exact hmc, by rw [hX.2.2.2.2.2.2.2.2.2.1]; exact hms⟩) hY.2.2.1 (fun q _ h => hsub q h) hsub (fun x9 u t H1 locs1 ht hvm hw hB hz1 hk1 hS => ?_)
  obtain ⟨hw, -⟩ := hw
  have hw : x9 = x := hw
  subst hw
  exact k p e R s m args below meth c H1 locs1 A ls hX (zY_aft hY hX.2.2.2.2.2.2.2.2.2.2.2 ht hB hS) hc hl9
theorem zV_callW {index n K' mc' ms' maxL' : Nat} {y : MethodName} {bytes' : ByteArray} {hh : List (Nat × Nat × Nat × Nat)} {As rest : List Value} {ty : FieldType} {x : Int32} {M1 : zM} (hM : zMetW l D T b gr y bytes' maxL' (some ty) hh K' mc' ms' As M (0, x, M1)) (hm : (Cond.codeWith y bytes' maxL' (some ty) hh) ∈ gtb) (hd : y.cls ≠ "java/lang/invoke/MethodHandle" ∧ y.cls ≠ "java/lang/invoke/VarHandle" ∧ (parseMethodDescriptor y.desc).map (fun d => d.parameters.length) = some n) (hl : (Cond.methodLink own index y) ∈ gtb) (hst9 : (Cond.static y) ∈ gtb) (hin : (Cond.initialized RL) ∈ gtb) (hcl : y.cls = RL) (hst : st = As.reverse ++ rest) (hn : As.length = n) (hcat : (rest.map fun v => v.category).sum ≤ 8) (hK : K' + 1 ≤ K) (hm9 : maxL' ≤ 45) (hmc : cells + mc' ≤ mc) (hms : slots + ms' ≤ ms) (hdg : decode cc pc = .ok (.invokestatic index, 3)) (k : zV tx l own cc nL ret ini K mc ms D T ev b gr n0 o (cells + mc') (slots + ms') (pc + 3) lv (.int x :: rest) M1) : zV tx l own cc nL ret ini K mc ms D T ev b gr n0 o cells slots pc lv st M := by
  subst hst
  intro p e R s m args below meth c H locs A ls hX hY hc hl9
  have hsub := zA_sub hY.2.1 hY.2.2.1 hX.2.2.2.2.2.2.2.2.2.2.2 rfl
  have hR : R = zRm K mc ms := hX.2.2.2.2.2.2.2.2.2.1
  have hcw : vx_CSW R s args own index y bytes' maxL' (some ty) hh (Cond.codeWith y bytes' maxL' (some ty) hh :: gtb) (zRm K' mc' ms') mc' ms' n := by
    refine vx_cwSW n hX.2.2.2.2.1 (gtb_good fun w hw => ?_) rfl rfl rfl hd ⟨by rw [hR]; exact hK, by rw [hR]; show 8 + (maxL' + 11) + 64 * K' ≤ 64 * K; omega⟩
    rcases List.mem_append.mp hw with h | h
    · rcases List.mem_cons.mp h with e1 | h
      · rw [e1]; exact hl
      · rcases List.mem_cons.mp h with e1 | h
        · rw [e1]; exact hst9
        · rcases List.mem_cons.mp h with e1 | h
          · rw [e1, hcl]; exact hin
          · cases h
    · rcases List.mem_cons.mp h with e1 | h
      · rw [e1]; exact hm
      · exact h
  refine va_calli (vx_runSW (As := As) (rest := rest) (n := n) ⟨hX.1, hX.2.1, hX.2.2.1, hX.2.2.2.1, hX.2.2.2.2.1⟩ (hM H.size) hcw ⟨zPc_blind, zPc_at hY hX.2.2.2.2.2.2.2.2.2.2.1 hX.2.2.2.2.2.2.2.2.2.2.2 (fun h => nomatch h)⟩ rfl hn hl9.1 rfl (lv_room hcat) hdg ⟨by rw [hR]; exact hmc, by rw [hR]; exact hms⟩) hY.2.2.1 (fun q _ h => hsub q h) hsub (fun x9 u t H1 locs1 ht hvm hw hB hz1 hk1 hS => ?_)
  obtain ⟨hw, -⟩ := hw
  have hw : x9 = x := hw
  subst hw
  exact k p e R s m args below meth c H1 locs1 A ls hX (zY_aft hY hX.2.2.2.2.2.2.2.2.2.2.2 ht hB hS) hc hl9
end ZRows
theorem zc_congr {T : Nat → ClassId} {b : Nat} {M N : zM} {a : Nat} (hS : M.2.2.1 a = N.2.2.1 a) (hI : zI M a = zI N a) (hR : zR M a = zR N a) : zc T b M a = zc T b N a := by
  have e3 : ∀ ci, zfs b M a ci = zfs b N a ci := fun ci => by
    unfold zfs
    refine List.map_congr_left fun j _ => ?_
    unfold zv; rw [hI, hR]
  unfold zc
  rw [hS, hI, hR, e3]
/-- a method that makes nothing: the heap's size is as it was -/
def zQ0 (ret : Option FieldType) (D : va_G) (T : Nat → ClassId) (b n0 sz : Nat) (o : Nat × Int32 × zM) (A : Nat → Prop) : Array Value → State → Outcome → State → Prop := match ret with
  | none => va_Qv (S := Unit) (fun _ => o.1 = 0) (fun _ t => (va_P D vwCl (zw T b o.2.2) t.heap ∧ o.2.2.2.2.2 = n0) ∧ t.heap.size = sz) A
  | some _ => va_Qi (S := Unit) (fun r _ => r = o.2.1 ∧ o.1 = 0) (fun _ t => (va_P D vwCl (zw T b o.2.2) t.heap ∧ o.2.2.2.2.2 = n0) ∧ t.heap.size = sz) A
theorem zMet_0 {l : Launch} {D : va_G} {T : Nat → ClassId} {b : Nat} {y : MethodName} {cc : ByteArray} {nL : Nat} {ret : Option FieldType} {K : Nat} {as : List Value} {M : zM} {o : Nat × Int32 × zM} (hM : zMet l D T b false y cc nL ret K 0 0 as M o) (sz : Nat) :
    Met l y (zWs y cc nL ret) (zRm K 0 0) (zPc D T b false false as M sz) (zQ0 ret D T b M.2.2.2 sz o (zA b M.2.2.2 sz)) 0 0 (zA b M.2.2.2 sz) := by
  intro p e ha hc hk s m args below hf happ hP hK
  obtain ⟨n, o9, h1, h2, h3, h4, L, h5, h6⟩ := hM sz p e ha hc hk s m args below hf happ hP hK
  refine ⟨n, o9, h1, h2, h3, ?_, L, h5, h6⟩
  have hsz : s.heap.size = sz := hP.2.1
  have e1 := h5.2.2.2.1
  have e2 := h5.2.2.2.2.1
  have hz : (stepsAlone p.tables e n s).heap.size = sz := by
    have e1 : s.heap.size ≤ (stepsAlone p.tables e n s).heap.size := e1
    have e2 : (stepsAlone p.tables e n s).heap.size ≤ s.heap.size + 0 := e2
    omega
  cases ret with
  | none =>
    obtain ⟨⟨u, g1, g2, g3⟩, g4⟩ := h4
    exact ⟨⟨u, g1, g2, ⟨g3.1, g3.2.2.2 rfl⟩, hz⟩, g4⟩
  | some ty =>
    obtain ⟨⟨r, u, g1, g2, g3⟩, g4⟩ := h4
    exact ⟨⟨r, u, g1, g2, ⟨g3.1, g3.2.2.2 rfl⟩, hz⟩, g4⟩
end
