/-! THE SMALL MACHINE: a region of cells whose addresses are b + 1, b + 2 ..; memory as functions; one judgement 'zV' with a row an instruction -/
/-- memory: ints by (cell, place), references by (cell, place) (0: null), shapes (class or kind of array, length), how many cells -/
abbrev zM : Type := (Nat → Nat → Int32) × (Nat → Nat → Nat) × (Nat → Nat × Nat) × Nat
def zI (M : zM) (a k : Nat) : Int32 := M.1 a k
def zR (M : zM) (a k : Nat) : Nat := M.2.1 a k
def zn (M : zM) : Nat := M.2.2.2
/-- the kind of a cell: below 100 the class; 100 .. arrays; 255: no cell -/
def zk (M : zM) (a : Nat) : Nat := if 1 ≤ a ∧ a ≤ M.2.2.2 then (M.2.2.1 a).1 else 255
def zl (M : zM) (a : Nat) : Nat := (M.2.2.1 a).2
def zsI (M : zM) (a k : Nat) (v : Int32) : zM := (fun x y => if x = a ∧ y = k then v else M.1 x y, M.2)
def zsR (M : zM) (a k : Nat) (v : Nat) : zM := (M.1, fun x y => if x = a ∧ y = k then v else M.2.1 x y, M.2.2)
/-- a new cell -/
def zsN (M : zM) (c n : Nat) : zM := (fun x y => if x = M.2.2.2 + 1 then 0 else M.1 x y, fun x y => if x = M.2.2.2 + 1 then 0 else M.2.1 x y, fun x => if x = M.2.2.2 + 1 then (c, n) else M.2.2.1 x, M.2.2.2 + 1)
def zr (b r : Nat) : Value := if r = 0 then .null else .ref (b + r)
theorem zr_cat (b r : Nat) : (zr b r).category = 1 := by unfold zr; split <;> rfl
theorem zr_pos {b r : Nat} (h : 1 ≤ r) : zr b r = .ref (b + r) := if_neg (by omega)
theorem zr_0 {b : Nat} : zr b 0 = .null := rfl
theorem zk_1 {M : zM} {a c : Nat} (h : zk M a = c) (hc : c < 255) : 1 ≤ a ∧ a ≤ M.2.2.2 ∧ (M.2.2.1 a).1 = c := by
  unfold zk at h
  split at h
  next q => exact ⟨q.1, q.2, h⟩
  next => omega
/-- the combinators of the printed methods -/
def zg {α : Type} (c : Prop) [Decidable c] (k : Option α) : Option α := if c then k else none
def zlet {α β : Type} (x : α) (f : α → β) : β := f x
def zb {β : Type} (x : Option (Int32 × zM)) (f : Int32 → zM → Option β) : Option β := match x with
  | none => none
  | some p => f p.1 p.2
def zbx (x : Option (Nat × Int32 × zM)) (f : Int32 → zM → Option (Nat × Int32 × zM)) : Option (Nat × Int32 × zM) := match x with
  | none => none
  | some (0, r, M) => f r M
  | some (t + 1, _, M) => some (t + 1, 0, M)
theorem zg_of {α : Type} {c : Prop} [Decidable c] {k : Option α} {o : α} (h : zg c k = some o) : c ∧ k = some o := by
  unfold zg at h
  split at h
  next q => exact ⟨q, h⟩
  next => cases h
theorem zlet_of {α β : Type} {x y : α} {f : α → β} {r : β} (h : zlet x f = r) (e : y = x) : f y = r := by subst e; exact h
theorem zb_of {β : Type} {x : Option (Int32 × zM)} {f : Int32 → zM → Option β} {o : β} (h : zb x f = some o) : ∃ (r : Int32) (M : zM), x = some (r, M) ∧ f r M = some o := by
  cases x with
  | none => cases h
  | some p => exact ⟨p.1, p.2, rfl, h⟩
theorem zbx_of {x : Option (Nat × Int32 × zM)} {f : Int32 → zM → Option (Nat × Int32 × zM)} {o : Nat × Int32 × zM} (h : zbx x f = some o) : (∃ (r : Int32) (M : zM), x = some (0, r, M) ∧ f r M = some o) ∨ ∃ (t : Nat) (r : Int32) (M : zM), x = some (t + 1, r, M) ∧ o = (t + 1, 0, M) := by
  match x, h with
  | none, h => cases h
  | some (0, r, M), h => exact Or.inl ⟨r, M, rfl, h⟩
  | some (t + 1, r, M), h => exact Or.inr ⟨t, r, M, rfl, (Option.some.inj h).symm⟩
theorem z_t {α : Type} {c : Prop} [Decidable c] {a b r : α} (hc : c) (h : (if c then a else b) = r) : a = r := by rwa [if_pos hc] at h
theorem z_f {α : Type} {c : Prop} [Decidable c] {a b r : α} (hc : ¬ c) (h : (if c then a else b) = r) : b = r := by rwa [if_neg hc] at h
/-- the classes, in the order of vwCl -/
def zcl : Nat → vw_C
  | 0 => (RX0, TX0, 5)
  | 1 => (RX1, TX1, 7)
  | 2 => (RX2, TX2, 17)
  | 3 => (RX3, TX3, 3)
  | 4 => (RX4, TX4, 6)
  | 5 => (RX5, TX5, 6)
  | 6 => (RX6, TX6, 4)
  | _ => (RX7, TX7, 6)
def zty : Nat → Nat → FieldType
  | 0 => tyX0
  | 1 => tyX1
  | 2 => tyX2
  | 3 => tyX3
  | 4 => tyX4
  | 5 => tyX5
  | 6 => tyX6
  | _ => tyX7
def zrt : FieldType → Bool
  | .object _ => true
  | .array _ => true
  | _ => false
def ztys (T : Nat → ClassId) : List (ClassId × FieldType) := [(T 100, .int), (T 101, .boolean), (T 102, .char), (T 103, .long), (T 110, .object RX1), (T 111, .object RX3), (T 112, .object RX4)]
def zv (b : Nat) (M : zM) (a ci k : Nat) : Value := if zrt (zty ci k) = true then zr b (zR M a k) else .int (zI M a k)
def zfs (b : Nat) (M : zM) (a ci : Nat) : List Value := (List.range (zcl ci).2.2).map (zv b M a ci)
def zop (b r : Nat) : Option Nat := if r = 0 then none else some (b + r)
theorem zop_rf (b r : Nat) : va_rf (zop b r) = zr b r := by unfold zop zr; split <;> rfl
/-- a long of an array of longs, kept among the references -/
def zL (M : zM) (a k : Nat) : Int64 := Int64.ofNat (zR M a k)
def zsL (M : zM) (a k : Nat) (x : Int64) : zM := zsR M a k x.toUInt64.toNat
theorem zL_of (x : Int64) : Int64.ofNat x.toUInt64.toNat = x := by
  apply Int64.toBitVec_inj.mp
  show BitVec.ofNat 64 x.toBitVec.toNat = _
  simp
def zrem (x y : Int32) : Int32 := x - x / y * y
def zlrem (x y : Int64) : Int64 := x - x / y * y
def zc (T : Nat → ClassId) (b : Nat) (M : zM) (a : Nat) : va_E :=
  if (M.2.2.1 a).1 < 100 then .inr ((M.2.2.1 a).1, zfs b M a (M.2.2.1 a).1)
  else if (M.2.2.1 a).1 = 103 then .inl (T 103, ((M.2.2.1 a).2, .inr (.inl (fun i => Int64.ofNat (zR M a i)))))
  else if (M.2.2.1 a).1 < 110 then .inl (T (M.2.2.1 a).1, ((M.2.2.1 a).2, .inl (zI M a)))
  else .inl (T (M.2.2.1 a).1, ((M.2.2.1 a).2, .inr (.inr (.inr (.inr (fun i => zop b (zR M a i)))))))
def zw (T : Nat → ClassId) (b : Nat) (M : zM) : va_W := (List.range M.2.2.2).map fun j => (b + (j + 1), zc T b M (j + 1))
theorem zw_get {T : Nat → ClassId} {b : Nat} {M : zM} {a : Nat} (h1 : 1 ≤ a) (h2 : a ≤ M.2.2.2) : (zw T b M)[a - 1]? = some (b + a, zc T b M a) := by
  unfold zw
  rw [List.getElem?_map, List.getElem?_range (by omega)]
  simp only [Option.map_some]
  rw [show a - 1 + 1 = a by omega]
theorem zw_at {T : Nat → ClassId} {b : Nat} {M : zM} {k : Nat} {q : Nat × va_E} (h : (zw T b M)[k]? = some q) : k < M.2.2.2 ∧ q = (b + (k + 1), zc T b M (k + 1)) := by
  unfold zw at h
  rw [List.getElem?_map] at h
  rcases Nat.lt_or_ge k M.2.2.2 with hk | hk
  · rw [List.getElem?_range hk] at h
    exact ⟨hk, (Option.some.inj h).symm⟩
  · rw [List.getElem?_eq_none (by simpa using hk)] at h
    cases h
theorem zw_len (T : Nat → ClassId) (b : Nat) (M : zM) : (zw T b M).length = M.2.2.2 := by simp [zw]
theorem zc_obj {T : Nat → ClassId} {b : Nat} {M : zM} {a ci : Nat} (h : (M.2.2.1 a).1 = ci) (hc : ci < 100) : zc T b M a = .inr (ci, zfs b M a ci) := by
  unfold zc; rw [h, if_pos hc]
theorem zc_int {T : Nat → ClassId} {b : Nat} {M : zM} {a c : Nat} (h : (M.2.2.1 a).1 = c) (hc : 100 ≤ c) (hc2 : c < 110) (hc3 : ¬ c = 103 := by decide) : zc T b M a = .inl (T c, (zl M a, .inl (zI M a))) := by
  unfold zc; rw [h, if_neg (by omega), if_neg hc3, if_pos hc2]; rfl
theorem zc_lng {T : Nat → ClassId} {b : Nat} {M : zM} {a : Nat} (h : (M.2.2.1 a).1 = 103) : zc T b M a = .inl (T 103, (zl M a, .inr (.inl (zL M a)))) := by
  unfold zc; rw [h, if_neg (by omega), if_pos rfl]; rfl
theorem zc_ref {T : Nat → ClassId} {b : Nat} {M : zM} {a c : Nat} (h : (M.2.2.1 a).1 = c) (hc : 110 ≤ c) : zc T b M a = .inl (T c, (zl M a, .inr (.inr (.inr (.inr (fun i => zop b (zR M a i))))))) := by
  unfold zc; rw [h, if_neg (by omega), if_neg (by omega), if_neg (by omega)]; rfl
/-- a cell that is written anew, the others as they were -/
theorem zw_set {T : Nat → ClassId} {b : Nat} {M M' : zM} {a : Nat} (h1 : 1 ≤ a) (h2 : a ≤ M.2.2.2) (hn : M'.2.2.2 = M.2.2.2) (ho : ∀ x, x ≠ a → zc T b M' x = zc T b M x) : (zw T b M).set (a - 1) (b + a, zc T b M' a) = zw T b M' := by
  apply List.ext_getElem?
  intro k
  by_cases hk : k = a - 1
  · subst hk
    rw [List.getElem?_set_self (by rw [zw_len]; omega), zw_get h1 (by omega)]
  · rw [List.getElem?_set_ne (Ne.symm hk)]
    rcases Nat.lt_or_ge k M.2.2.2 with hl | hl
    · have e1 := zw_get (T := T) (b := b) (M := M) (a := k + 1) (by omega) (by omega)
      have e2 := zw_get (T := T) (b := b) (M := M') (a := k + 1) (by omega) (by omega)
      rw [Nat.add_sub_cancel] at e1 e2
      rw [e1, e2, ho _ (by omega)]
    · rw [List.getElem?_eq_none (by rw [zw_len]; omega), List.getElem?_eq_none (by rw [zw_len]; omega)]
theorem zw_push {T : Nat → ClassId} {b : Nat} {M M' : zM} (hn : M'.2.2.2 = M.2.2.2 + 1) (ho : ∀ x, x ≤ M.2.2.2 → zc T b M' x = zc T b M x) : zw T b M ++ [(b + (M.2.2.2 + 1), zc T b M' (M.2.2.2 + 1))] = zw T b M' := by
  apply List.ext_getElem?
  intro k
  rcases Nat.lt_or_ge k M.2.2.2 with hl | hl
  · rw [List.getElem?_append_left (by rw [zw_len]; exact hl)]
    have e1 := zw_get (T := T) (b := b) (M := M) (a := k + 1) (by omega) (by omega)
    have e2 := zw_get (T := T) (b := b) (M := M') (a := k + 1) (by omega) (by omega)
    rw [Nat.add_sub_cancel] at e1 e2
    rw [e1, e2, ho _ (by omega)]
  · rw [List.getElem?_append_right (by rw [zw_len]; exact hl), zw_len]
    rcases Nat.eq_or_lt_of_le hl with he | he
    · subst he
      have e2 := zw_get (T := T) (b := b) (M := M') (a := M.2.2.2 + 1) (by omega) (by omega)
      rw [Nat.add_sub_cancel] at e2
      rw [e2, Nat.sub_self]
      rfl
    · rw [List.getElem?_eq_none (by simp; omega), List.getElem?_eq_none (by rw [zw_len]; omega)]
theorem zfs_get {b : Nat} {M : zM} {a ci k : Nat} (h : k < (zcl ci).2.2) : (zfs b M a ci)[k]? = some (zv b M a ci k) := by
  unfold zfs
  rw [List.getElem?_map, List.getElem?_range h]
  rfl
theorem zfs_len (b : Nat) (M : zM) (a ci : Nat) : (zfs b M a ci).length = (zcl ci).2.2 := by simp [zfs]
theorem zfs_set {b : Nat} {M M' : zM} {a ci k : Nat} (h : k < (zcl ci).2.2) (ho : ∀ x, x ≠ k → zv b M' a ci x = zv b M a ci x) : (zfs b M a ci).set k (zv b M' a ci k) = zfs b M' a ci := by
  apply List.ext_getElem?
  intro x
  by_cases hx : x = k
  · subst hx
    rw [List.getElem?_set_self (by rw [zfs_len]; exact h), zfs_get h]
  · rw [List.getElem?_set_ne (Ne.symm hx)]
    rcases Nat.lt_or_ge x (zcl ci).2.2 with hl | hl
    · rw [zfs_get hl, zfs_get hl, ho x hx]
    · rw [List.getElem?_eq_none (by rw [zfs_len]; omega), List.getElem?_eq_none (by rw [zfs_len]; omega)]
/-- cells other than the one that is written -/
theorem zsI_off {T : Nat → ClassId} {b : Nat} {M : zM} {a k : Nat} {v : Int32} {x : Nat} (h : x ≠ a) : zc T b (zsI M a k v) x = zc T b M x := by
  have e : zI (zsI M a k v) x = zI M x := by funext y; simp [zI, zsI, h]
  have e2 : zR (zsI M a k v) x = zR M x := rfl
  have e3 : ∀ ci, zfs b (zsI M a k v) x ci = zfs b M x ci := fun ci => by
    unfold zfs
    refine List.map_congr_left fun j _ => ?_
    unfold zv; rw [e, e2]
  unfold zc
  rw [e]
  show (if (M.2.2.1 x).1 < 100 then _ else _) = _
  rw [e3]
  rfl
theorem zsR_off {T : Nat → ClassId} {b : Nat} {M : zM} {a k : Nat} {v : Nat} {x : Nat} (h : x ≠ a) : zc T b (zsR M a k v) x = zc T b M x := by
  have e : zI (zsR M a k v) x = zI M x := rfl
  have e2 : zR (zsR M a k v) x = zR M x := by funext y; simp [zR, zsR, h]
  have e3 : ∀ ci, zfs b (zsR M a k v) x ci = zfs b M x ci := fun ci => by
    unfold zfs
    refine List.map_congr_left fun j _ => ?_
    unfold zv; rw [e, e2]
  unfold zc
  rw [e, e2]
  show (if (M.2.2.1 x).1 < 100 then _ else _) = _
  rw [e3]
  rfl
theorem zsN_off {T : Nat → ClassId} {b : Nat} {M : zM} {c n : Nat} {x : Nat} (h : x ≤ M.2.2.2) : zc T b (zsN M c n) x = zc T b M x := by
  have hx : x ≠ M.2.2.2 + 1 := by omega
  have e : zI (zsN M c n) x = zI M x := by funext y; simp [zI, zsN, hx]
  have e2 : zR (zsN M c n) x = zR M x := by funext y; simp [zR, zsN, hx]
  have e0 : (zsN M c n).2.2.1 x = M.2.2.1 x := by simp [zsN, hx]
  have e3 : ∀ ci, zfs b (zsN M c n) x ci = zfs b M x ci := fun ci => by
    unfold zfs
    refine List.map_congr_left fun j _ => ?_
    unfold zv; rw [e, e2]
  unfold zc
  rw [e, e2, e0, e3]
