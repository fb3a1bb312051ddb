/-! THE VALUE: both counts of ways are one, whole -/
section
variable {G : qG}
def qS1 (G : qG) (k : Nat) (r : List qK) (Z : qZ) : Nat := qSm (r.length + 1) fun j => qST G fun u => qD0 G (qBld none (some (k + j, u)) k r) Z
theorem qDS_cons (G : qG) (nxt : List qK → qZ → Nat) (q : qK) (l : List qK) (Z : qZ) : qDS G nxt (q :: l) Z = qThen G Z q (qDS G nxt l) + qTg G (nxt (q :: l)) Z 10 0 := rfl
theorem qS1_cons (k : Nat) (q : qK) (l : List qK) (Z : qZ) : qS1 G k (q :: l) Z = qTg G (qD0 G (q :: l)) Z 10 0 + qThen G Z q (qS1 G (k + 1) l) := by
  have e : qS1 G k (q :: l) Z = (qST G fun u => qD0 G (qBld none (some (k + 0, u)) k (q :: l)) Z) + qSm (l.length + 1) (fun j => qST G fun u => qD0 G (qBld none (some (k + (j + 1), u)) k (q :: l)) Z) := rfl
  have e1 : (qST G fun u => qD0 G (qBld none (some (k + 0, u)) k (q :: l)) Z) = qTg G (qD0 G (q :: l)) Z 10 0 := by
    rw [qTg_ST]
    exact qST_ext fun u _ => by rw [Nat.add_zero, qBld_b0, qD0_cons]
  have e2 : qSm (l.length + 1) (fun j => qST G fun u => qD0 G (qBld none (some (k + (j + 1), u)) k (q :: l)) Z) = qThen G Z q (qS1 G (k + 1) l) := by
    have h : qThen G Z q (qS1 G (k + 1) l) = qSm (l.length + 1) fun j => qThen G Z q fun Z => qST G fun u => qD0 G (qBld none (some (k + 1 + j, u)) (k + 1) l) Z := qThen_sm (fun j Z => qST G fun u => qD0 G (qBld none (some (k + 1 + j, u)) (k + 1) l) Z) _
    rw [h]
    refine qSm_ext fun j _ => ?_
    rw [qThen_st fun u Z => qD0 G (qBld none (some (k + 1 + j, u)) (k + 1) l) Z]
    refine qST_ext fun u _ => ?_
    rw [qBld_c q l (fun x h => by cases h) (fun x h => by cases h; show k < k + (j + 1); omega), qD0_cons, show k + (j + 1) = k + 1 + j by omega]
  rw [e, e1, e2]
theorem qS1_nil (k : Nat) (Z : qZ) : qS1 G k [] Z = qTg G (qD0 G []) Z 10 0 := by
  have e : qS1 G k [] Z = (qST G fun u => qD0 G (qBld none (some (k + 0, u)) k []) Z) + 0 := rfl
  rw [e, qTg_ST, Nat.add_zero]
  exact qST_ext fun u _ => by rw [Nat.add_zero, qBld_b0, qD0_cons]
theorem qS1_is : ∀ (r : List qK) k Z, qDS G (qD0 G) r Z = qD0 G r Z + qS1 G k r Z := by
  intro r
  induction r with
  | nil => intro k Z; rw [qS1_nil]; rfl
  | cons q l ih =>
    intro k Z
    have h : qThen G Z q (qDS G (qD0 G) l) = qThen G Z q (qD0 G l) + qThen G Z q (qS1 G (k + 1) l) := by
      rw [← qThen_add]
      exact qThen_ext fun Z => ih (k + 1) Z
    rw [qDS_cons, h, qS1_cons, qD0_cons]
    omega
theorem qS2_0 (k : Nat) (r : List qK) (Z : qZ) : (qST G fun t => qD0 G (qBld (some (k, t)) none k r) Z + qSm (r.length + 1) fun j => qST G fun u => qD0 G (qBld (some (k, t)) (some (k + j, u)) k r) Z) = qTg G (qDS G (qD0 G) r) Z 10 0 := by
  rw [qTg_ST]
  refine qST_ext fun t _ => ?_
  have h1 : qThen G Z (qTgk t) (qDS G (qD0 G) r) = qThen G Z (qTgk t) (qD0 G r) + qThen G Z (qTgk t) (qS1 G k r) := by
    rw [← qThen_add]
    exact qThen_ext fun Z => qS1_is r k Z
  have h2 : qThen G Z (qTgk t) (qS1 G k r) = qSm (r.length + 1) fun j => qThen G Z (qTgk t) fun Z => qST G fun u => qD0 G (qBld none (some (k + j, u)) k r) Z := qThen_sm (fun j Z => qST G fun u => qD0 G (qBld none (some (k + j, u)) k r) Z) _
  rw [h1, h2, qBld_a, qBld_n, qD0_cons]
  have h3 : (qSm (r.length + 1) fun j => qST G fun u => qD0 G (qBld (some (k, t)) (some (k + j, u)) k r) Z) = qSm (r.length + 1) fun j => qThen G Z (qTgk t) fun Z => qST G fun u => qD0 G (qBld none (some (k + j, u)) k r) Z := qSm_ext fun j _ => by
    rw [qThen_st fun u Z => qD0 G (qBld none (some (k + j, u)) k r) Z]
    exact qST_ext fun u _ => by rw [qBld_a, qD0_cons]
  rw [h3]
def qS2 (G : qG) (k : Nat) (r : List qK) (Z : qZ) : Nat := qSm (r.length + 1) fun i => qST G fun t => qD0 G (qBld (some (k + i, t)) none k r) Z + qSm (r.length + 1 - i) fun j => qST G fun u => qD0 G (qBld (some (k + i, t)) (some (k + i + j, u)) k r) Z
theorem qS2_nil (k : Nat) (Z : qZ) : qS2 G k [] Z = qTg G (qDS G (qD0 G) []) Z 10 0 := by
  rw [← qS2_0 k [] Z]
  have e : qS2 G k [] Z = (qST G fun t => qD0 G (qBld (some (k + 0, t)) none k []) Z + qSm (([] : List qK).length + 1 - 0) fun j => qST G fun u => qD0 G (qBld (some (k + 0, t)) (some (k + 0 + j, u)) k []) Z) + 0 := rfl
  rw [e, Nat.add_zero]
  simp only [Nat.add_zero, Nat.sub_zero]
theorem qS2_cons (k : Nat) (q : qK) (l : List qK) (Z : qZ) : qS2 G k (q :: l) Z = qTg G (qDS G (qD0 G) (q :: l)) Z 10 0 + qThen G Z q (qS2 G (k + 1) l) := by
  rw [← qS2_0 k (q :: l) Z]
  have e : qS2 G k (q :: l) Z = (qST G fun t => qD0 G (qBld (some (k + 0, t)) none k (q :: l)) Z + qSm ((q :: l).length + 1 - 0) fun j => qST G fun u => qD0 G (qBld (some (k + 0, t)) (some (k + 0 + j, u)) k (q :: l)) Z) + qSm (l.length + 1) (fun i => qST G fun t => qD0 G (qBld (some (k + (i + 1), t)) none k (q :: l)) Z + qSm ((q :: l).length + 1 - (i + 1)) fun j => qST G fun u => qD0 G (qBld (some (k + (i + 1), t)) (some (k + (i + 1) + j, u)) k (q :: l)) Z) := rfl
  have e2 : qSm (l.length + 1) (fun i => qST G fun t => qD0 G (qBld (some (k + (i + 1), t)) none k (q :: l)) Z + qSm ((q :: l).length + 1 - (i + 1)) fun j => qST G fun u => qD0 G (qBld (some (k + (i + 1), t)) (some (k + (i + 1) + j, u)) k (q :: l)) Z) = qThen G Z q (qS2 G (k + 1) l) := by
    have h : qThen G Z q (qS2 G (k + 1) l) = qSm (l.length + 1) fun i => qThen G Z q fun Z => qST G fun t => qD0 G (qBld (some (k + 1 + i, t)) none (k + 1) l) Z + qSm (l.length + 1 - i) fun j => qST G fun u => qD0 G (qBld (some (k + 1 + i, t)) (some (k + 1 + i + j, u)) (k + 1) l) Z := qThen_sm (fun i Z => qST G fun t => qD0 G (qBld (some (k + 1 + i, t)) none (k + 1) l) Z + qSm (l.length + 1 - i) fun j => qST G fun u => qD0 G (qBld (some (k + 1 + i, t)) (some (k + 1 + i + j, u)) (k + 1) l) Z) _
    rw [h]
    refine qSm_ext fun i _ => ?_
    rw [qThen_st fun t Z => qD0 G (qBld (some (k + 1 + i, t)) none (k + 1) l) Z + qSm (l.length + 1 - i) fun j => qST G fun u => qD0 G (qBld (some (k + 1 + i, t)) (some (k + 1 + i + j, u)) (k + 1) l) Z]
    refine qST_ext fun t _ => ?_
    rw [qThen_add (f := fun Z => qD0 G (qBld (some (k + 1 + i, t)) none (k + 1) l) Z)]
    have a1 : qD0 G (qBld (some (k + (i + 1), t)) none k (q :: l)) Z = qThen G Z q fun Z => qD0 G (qBld (some (k + 1 + i, t)) none (k + 1) l) Z := by
      rw [qBld_c q l (fun x h => by cases h; show k < k + (i + 1); omega) (fun x h => by cases h), qD0_cons, show k + (i + 1) = k + 1 + i by omega]
    have a2 : (qSm ((q :: l).length + 1 - (i + 1)) fun j => qST G fun u => qD0 G (qBld (some (k + (i + 1), t)) (some (k + (i + 1) + j, u)) k (q :: l)) Z) = qThen G Z q fun Z => qSm (l.length + 1 - i) fun j => qST G fun u => qD0 G (qBld (some (k + 1 + i, t)) (some (k + 1 + i + j, u)) (k + 1) l) Z := by
      rw [qThen_sm fun j Z => qST G fun u => qD0 G (qBld (some (k + 1 + i, t)) (some (k + 1 + i + j, u)) (k + 1) l) Z, show (q :: l).length + 1 - (i + 1) = l.length + 1 - i by simp only [List.length_cons]; omega]
      refine qSm_ext fun j _ => ?_
      rw [qThen_st fun u Z => qD0 G (qBld (some (k + 1 + i, t)) (some (k + 1 + i + j, u)) (k + 1) l) Z]
      refine qST_ext fun u _ => ?_
      rw [qBld_c q l (fun x h => by cases h; show k < k + (i + 1); omega) (fun x h => by cases h; show k < k + (i + 1) + j; omega), qD0_cons, show k + (i + 1) = k + 1 + i by omega]
    rw [a1, a2]
  rw [e, e2]
  simp only [Nat.add_zero, Nat.sub_zero]
theorem qS2_is : ∀ (r : List qK) k Z, qDS G (qDS G (qD0 G)) r Z = qD0 G r Z + qS2 G k r Z := by
  intro r
  induction r with
  | nil => intro k Z; rw [qS2_nil]; rfl
  | cons q l ih =>
    intro k Z
    have h : qThen G Z q (qDS G (qDS G (qD0 G)) l) = qThen G Z q (qD0 G l) + qThen G Z q (qS2 G (k + 1) l) := by
      rw [← qThen_add]
      exact qThen_ext fun Z => ih (k + 1) Z
    rw [qDS_cons, h, qS2_cons, qD0_cons]
    omega
end
