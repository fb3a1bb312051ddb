/-! THE VALUE: the reference's count is the class's -/
section
variable {I : Nat → Nat → Int32} {A : qA} {G : qG} {ks : List qK}
theorem qSm_s (n : Nat) (f : Nat → Nat) : qSm (n + 1) f = f 0 + qSm n (fun j => f (j + 1)) := rfl
theorem qC75_is (i t : Nat) : ∀ n x, qC75 G ks i t n x = qSm n fun y => if qTagOk G ((x + y) % 20) = true then qIsW G ks (some (i, t)) (some ((x + y) / 20, (x + y) % 20)) else 0 := by
  intro n
  induction n with
  | zero => intro x; rfl
  | succ n ih =>
    intro x
    have e : qC75 G ks i t (n + 1) x = (if qTagOk G (x % 20) = true then qIsW G ks (some (i, t)) (some (x / 20, x % 20)) else 0) + qC75 G ks i t n (x + 1) := rfl
    rw [e, ih]
    rw [qSm_s]
    have e2 : qSm n (fun y => if qTagOk G ((x + 1 + y) % 20) = true then qIsW G ks (some (i, t)) (some ((x + 1 + y) / 20, (x + 1 + y) % 20)) else 0) = qSm n (fun j => if qTagOk G ((x + (j + 1)) % 20) = true then qIsW G ks (some (i, t)) (some ((x + (j + 1)) / 20, (x + (j + 1)) % 20)) else 0) := qSm_ext fun j _ => by rw [show x + 1 + j = x + (j + 1) by omega]
    rw [e2]
    rfl
theorem qC75_S (i t : Nat) (hi : i ≤ ks.length) : qC75 G ks i t (20 * ks.length + 20 - 20 * i) (20 * i) = qSm (ks.length + 1 - i) fun j => qST G fun u => qD0 G (qBld (some (i, t)) (some (i + j, u)) 0 ks) qZ0 := by
  rw [qC75_is, show 20 * ks.length + 20 - 20 * i = 20 * (ks.length + 1 - i) by omega, qSm_blk]
  refine qSm_ext fun j _ => ?_
  unfold qST
  refine qSm_ext fun u hu => ?_
  rw [show (20 * i + (20 * j + u)) % 20 = u by omega, show (20 * i + (20 * j + u)) / 20 = i + j by omega]
  rfl
theorem qC29_is (i : Nat) : ∀ n t, qC29 G ks i n t = qSm n fun y => if qTagOk G (t + y) = true then qIsW G ks (some (i, t + y)) none + qC75 G ks i (t + y) (20 * ks.length + 20 - 20 * i) (20 * i) else 0 := by
  intro n
  induction n with
  | zero => intro x; rfl
  | succ n ih =>
    intro t
    have e : qC29 G ks i (n + 1) t = (if qTagOk G t = true then qIsW G ks (some (i, t)) none + qC75 G ks i t (20 * ks.length + 20 - 20 * i) (20 * i) else 0) + qC29 G ks i n (t + 1) := rfl
    rw [e, ih]
    rw [qSm_s]
    have e2 : qSm n (fun y => if qTagOk G (t + 1 + y) = true then qIsW G ks (some (i, t + 1 + y)) none + qC75 G ks i (t + 1 + y) (20 * ks.length + 20 - 20 * i) (20 * i) else 0) = qSm n (fun j => if qTagOk G (t + (j + 1)) = true then qIsW G ks (some (i, t + (j + 1))) none + qC75 G ks i (t + (j + 1)) (20 * ks.length + 20 - 20 * i) (20 * i) else 0) := qSm_ext fun j _ => by rw [show t + 1 + j = t + (j + 1) by omega]
    rw [e2]
    rfl
theorem qC19_is : ∀ n i, qC19 G ks n i = qSm n fun y => qC29 G ks (i + y) 20 0 := by
  intro n
  induction n with
  | zero => intro x; rfl
  | succ n ih =>
    intro i
    have e : qC19 G ks (n + 1) i = qC29 G ks i 20 0 + qC19 G ks n (i + 1) := rfl
    rw [e, ih]
    rw [qSm_s]
    have e2 : qSm n (fun y => qC29 G ks (i + 1 + y) 20 0) = qSm n (fun j => qC29 G ks (i + (j + 1)) 20 0) := qSm_ext fun j _ => by rw [show i + 1 + j = i + (j + 1) by omega]
    rw [e2]
    rfl
theorem qTot_is : qTot G ks = qDn G 2 ks qZ0 := by
  have h : qDn G 2 ks qZ0 = qD0 G ks qZ0 + qS2 G 0 ks qZ0 := qS2_is ks 0 qZ0
  have h0 : qIsW G ks none none = qD0 G ks qZ0 := by unfold qIsW; rw [qBld_n]
  have h1 : qC19 G ks (ks.length + 1) 0 = qS2 G 0 ks qZ0 := by
    rw [qC19_is]
    refine qSm_ext fun i hi => ?_
    rw [qC29_is]
    show (qSm 20 fun y => _) = qST G fun t => _
    unfold qST
    refine qSm_ext fun t _ => ?_
    rw [qC75_S _ _ (by omega)]
    simp only [Nat.zero_add]
    rfl
  rw [h, ← h0, ← h1]
  rfl
theorem qTot_min : min 1000 (qTot A.1 A.2.2.2.1) = qWay A := by
  rw [qTot_is]
  rfl
/-- the reference's count of ways -/
theorem rWays (hA : qRA I A) : ∃ J, fX8_ways 1 (qD I) = some ((qoWays A).2, qD J) ∧ qRA J A ∧ J 1 56 = qn (if (qoWays A).1 = 0 then 0 else 1) := rWaysQ hA fun _ _ => qTot_min
end
