/-! THE VALUE: both counts of ways are one -/
def qSm : Nat → (Nat → Nat) → Nat
  | 0, _ => 0
  | n + 1, f => f 0 + qSm n (fun j => f (j + 1))
theorem qSm_ext {f g : Nat → Nat} : ∀ {n : Nat}, (∀ j, j < n → f j = g j) → qSm n f = qSm n g := by
  intro n
  induction n generalizing f g with
  | zero => intro _; rfl
  | succ n ih => intro h; unfold qSm; rw [h 0 (by omega), ih fun j hj => h (j + 1) (by omega)]
theorem qSm_add (m : Nat) (f : Nat → Nat) : ∀ n, qSm (n + m) f = qSm n f + qSm m (fun j => f (n + j)) := by
  intro n
  induction n generalizing f with
  | zero => simp [qSm]
  | succ n ih =>
    rw [show n + 1 + m = (n + m) + 1 by omega]
    unfold qSm
    rw [ih, Nat.add_assoc]
    have e : qSm m (fun j => f (n + j + 1)) = qSm m (fun j => f (n + 1 + j)) := qSm_ext fun j _ => by rw [show n + j + 1 = n + 1 + j by omega]
    rw [e]
    cases m <;> rfl
theorem qSm_plus (f g : Nat → Nat) : ∀ n, qSm n (fun j => f j + g j) = qSm n f + qSm n g := by
  intro n
  induction n generalizing f g with
  | zero => rfl
  | succ n ih =>
    have h := ih (fun j => f (j + 1)) (fun j => g (j + 1))
    unfold qSm
    dsimp only at h ⊢
    rw [h]
    omega
theorem qSm_blk (f : Nat → Nat) : ∀ m, qSm (20 * m) f = qSm m (fun j => qSm 20 (fun u => f (20 * j + u))) := by
  intro m
  induction m generalizing f with
  | zero => rfl
  | succ m ih =>
    rw [show 20 * (m + 1) = 20 + 20 * m by omega, qSm_add, ih]
    have e : qSm (m + 1) (fun j => qSm 20 fun u => f (20 * j + u)) = qSm 20 (fun u => f (20 * 0 + u)) + qSm m (fun j => qSm 20 fun u => f (20 * (j + 1) + u)) := rfl
    rw [e]
    have e1 : qSm 20 f = qSm 20 (fun u => f (20 * 0 + u)) := qSm_ext fun j _ => by rw [Nat.mul_zero, Nat.zero_add]
    have e2 : qSm m (fun j => qSm 20 fun u => f (20 + (20 * j + u))) = qSm m (fun j => qSm 20 fun u => f (20 * (j + 1) + u)) := qSm_ext fun j _ => qSm_ext fun u _ => by rw [show 20 + (20 * j + u) = 20 * (j + 1) + u by omega]
    rw [e1, e2]
/-- over the tags that may be put in -/
def qST (G : qG) (f : Nat → Nat) : Nat := qSm 20 fun t => if qTagOk G t = true then f t else 0
theorem qST_ext {G : qG} {f g : Nat → Nat} (h : ∀ t, t < 20 → f t = g t) : qST G f = qST G g := qSm_ext fun t ht => by rw [h t ht]
/-- a token, then the rest -/
def qThen (G : qG) (Z : qZ) (k : qK) (f : qZ → Nat) : Nat := match qWr G Z k.1 k.2.toNatClampNeg with
  | none => 0
  | some Z1 => f Z1
theorem qThen_ext {G : qG} {Z : qZ} {k : qK} {f g : qZ → Nat} (h : ∀ Z, f Z = g Z) : qThen G Z k f = qThen G Z k g := by
  unfold qThen
  cases qWr G Z k.1 k.2.toNatClampNeg with
  | none => rfl
  | some Z1 => exact h Z1
theorem qThen_add {G : qG} {Z : qZ} {k : qK} {f g : qZ → Nat} : qThen G Z k (fun Z => f Z + g Z) = qThen G Z k f + qThen G Z k g := by
  unfold qThen
  cases qWr G Z k.1 k.2.toNatClampNeg with
  | none => rfl
  | some Z1 => rfl
theorem qThen_sm {G : qG} {Z : qZ} {k : qK} (f : Nat → qZ → Nat) : ∀ n, qThen G Z k (fun Z => qSm n (fun j => f j Z)) = qSm n (fun j => qThen G Z k (f j)) := by
  intro n
  induction n generalizing f with
  | zero => unfold qThen qSm; cases qWr G Z k.1 k.2.toNatClampNeg <;> rfl
  | succ n ih =>
    have e : (fun Z => qSm (n + 1) (fun j => f j Z)) = fun Z => f 0 Z + qSm n (fun j => f (j + 1) Z) := rfl
    rw [e, qThen_add, ih fun j => f (j + 1)]
    rfl
theorem qThen_if {G : qG} {Z : qZ} {k : qK} (c : Prop) [Decidable c] (f : qZ → Nat) : qThen G Z k (fun Z => if c then f Z else 0) = if c then qThen G Z k f else 0 := by
  by_cases h : c
  · simp only [if_pos h]
  · simp only [if_neg h]; unfold qThen; cases qWr G Z k.1 k.2.toNatClampNeg <;> rfl
theorem qThen_st {G : qG} {Z : qZ} {k : qK} (f : Nat → qZ → Nat) : qThen G Z k (fun Z => qST G (fun t => f t Z)) = qST G (fun t => qThen G Z k (f t)) := by
  unfold qST
  rw [qThen_sm fun t Z => if qTagOk G t = true then f t Z else 0]
  exact qSm_ext fun t _ => qThen_if _ _
theorem qD0_cons (G : qG) (k : qK) (r : List qK) (Z : qZ) : qD0 G (k :: r) Z = qThen G Z k (qD0 G r) := rfl
theorem qTg_is (G : qG) (nxt : qZ → Nat) (Z : qZ) : ∀ n i, n + i = 10 → qTg G nxt Z n i = qSm n (fun e => qTg1 G nxt Z (qgA G (i + e)) 0 (i + e)) + qSm n (fun e => qTg1 G nxt Z (qgB G (i + e)) 1 (i + e)) := by
  intro n
  induction n with
  | zero => intro i _; rfl
  | succ n ih =>
    intro i h
    unfold qTg qSm
    rw [ih (i + 1) (by omega)]
    have e1 : qSm n (fun e => qTg1 G nxt Z (qgA G (i + 1 + e)) 0 (i + 1 + e)) = qSm n (fun e => qTg1 G nxt Z (qgA G (i + (e + 1))) 0 (i + (e + 1))) := qSm_ext fun j _ => by rw [show i + 1 + j = i + (j + 1) by omega]
    have e2 : qSm n (fun e => qTg1 G nxt Z (qgB G (i + 1 + e)) 1 (i + 1 + e)) = qSm n (fun e => qTg1 G nxt Z (qgB G (i + (e + 1))) 1 (i + (e + 1))) := qSm_ext fun j _ => by rw [show i + 1 + j = i + (j + 1) by omega]
    rw [e1, e2]
    simp only [Nat.add_zero]
    omega
theorem qTg_ST (G : qG) (nxt : qZ → Nat) (Z : qZ) : qTg G nxt Z 10 0 = qST G (fun t => qThen G Z (qTgk t) nxt) := by
  rw [qTg_is G nxt Z 10 0 rfl]
  unfold qST
  rw [show (20 : Nat) = 10 + 10 from rfl, qSm_add]
  refine congr (congrArg HAdd.hAdd ?_) ?_
  · refine qSm_ext fun e he => ?_
    have h1 : qTagOk G e = qgA G e := by unfold qTagOk; rw [if_neg (by omega)]
    have h2 : qTgk e = (0, qn e) := by unfold qTgk; rw [show e / 10 = 0 by omega, show e % 10 = e by omega]
    rw [Nat.zero_add, h1]
    dsimp only
    rw [h2]
    unfold qTg1 qThen
    rw [show (qn e).toNatClampNeg = e from qn_c (by omega)]
    by_cases c : qgA G e = true
    · rw [if_pos c, if_pos c]
      show _ = (match qWr G Z 0 e with
        | none => 0
        | some Z1 => nxt Z1)
      cases qWr G Z 0 e <;> rfl
    · rw [if_neg c, if_neg c]
  · refine qSm_ext fun e he => ?_
    have h1 : qTagOk G (10 + e) = qgB G e := by unfold qTagOk; rw [if_pos (by omega), show 10 + e - 10 = e by omega]
    have h2 : qTgk (10 + e) = (1, qn e) := by unfold qTgk; rw [show (10 + e) / 10 = 1 by omega, show (10 + e) % 10 = e by omega]
    rw [Nat.zero_add, h1]
    dsimp only
    rw [h2]
    unfold qTg1 qThen
    rw [show (qn e).toNatClampNeg = e from qn_c (by omega)]
    by_cases c : qgB G e = true
    · rw [if_pos c, if_pos c]
      show _ = (match qWr G Z 1 e with
        | none => 0
        | some Z1 => nxt Z1)
      cases qWr G Z 1 e <;> rfl
    · rw [if_neg c, if_neg c]
/-- rows with what is put in -/
theorem qBld_n : ∀ (r : List qK) k, qBld none none k r = r := by
  intro r
  induction r with
  | nil => intro k; rfl
  | cons q l ih =>
    intro k
    have e : qBld none none k (q :: l) = q :: qBld none none (k + 1) l := rfl
    rw [e, ih]
theorem qIf_no {x : Nat × Nat} {k : Nat} (h : ¬ x.1 = k) : qIf (some x) k = [] := if_neg h
theorem qIf_yes {x : Nat × Nat} {k : Nat} (h : x.1 = k) : qIf (some x) k = [qTgk x.2] := if_pos h
theorem qBld_past {x : Nat × Nat} (b : Option (Nat × Nat)) : ∀ (r : List qK) k, x.1 < k → qBld (some x) b k r = qBld none b k r := by
  intro r
  induction r with
  | nil =>
    intro k h
    unfold qBld
    rw [qIf_no (by omega)]
    rfl
  | cons q l ih =>
    intro k h
    unfold qBld
    rw [qIf_no (by omega), ih (k + 1) (by omega)]
    rfl
theorem qBld_a {t k : Nat} (b : Option (Nat × Nat)) (r : List qK) : qBld (some (k, t)) b k r = qTgk t :: qBld none b k r := by
  cases r with
  | nil =>
    unfold qBld
    rw [qIf_yes (x := (k, t)) rfl]
    rfl
  | cons q l =>
    unfold qBld
    rw [qIf_yes (x := (k, t)) rfl, qBld_past b l (k + 1) (by show k < k + 1; omega)]
    rfl
theorem qBld_b0 {u k : Nat} (r : List qK) : qBld none (some (k, u)) k r = qTgk u :: r := by
  have past : ∀ (r : List qK) j, k < j → qBld none (some (k, u)) j r = r := by
    intro r
    induction r with
    | nil =>
      intro j h
      have e : qBld none (some (k, u)) j [] = [] ++ qIf (some (k, u)) j := rfl
      rw [e, qIf_no (show ¬ k = j by omega)]
      rfl
    | cons q l ih =>
      intro j h
      have e : qBld none (some (k, u)) j (q :: l) = [] ++ (qIf (some (k, u)) j ++ q :: qBld none (some (k, u)) (j + 1) l) := rfl
      rw [e, qIf_no (show ¬ k = j by omega), ih (j + 1) (by omega)]
      rfl
  cases r with
  | nil =>
    have e : qBld none (some (k, u)) k [] = [] ++ qIf (some (k, u)) k := rfl
    rw [e, qIf_yes (x := (k, u)) rfl]
    rfl
  | cons q l =>
    have e : qBld none (some (k, u)) k (q :: l) = [] ++ (qIf (some (k, u)) k ++ q :: qBld none (some (k, u)) (k + 1) l) := rfl
    rw [e, qIf_yes (x := (k, u)) rfl, past l (k + 1) (by omega)]
    rfl
theorem qBld_c {a b : Option (Nat × Nat)} {k : Nat} (q : qK) (l : List qK) (ha : ∀ x, a = some x → k < x.1) (hb : ∀ x, b = some x → k < x.1) : qBld a b k (q :: l) = q :: qBld a b (k + 1) l := by
  have h1 : ∀ c : Option (Nat × Nat), (∀ x, c = some x → k < x.1) → qIf c k = [] := by
    intro c hc
    cases c with
    | none => rfl
    | some x => exact qIf_no (by have := hc x rfl; omega)
  have e : qBld a b k (q :: l) = qIf a k ++ (qIf b k ++ q :: qBld a b (k + 1) l) := rfl
  rw [e, h1 a ha, h1 b hb]
  rfl
