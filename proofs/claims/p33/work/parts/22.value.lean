/-! THE VALUE: what class and reference both compute. Grammars: slots, sets, occurrences, includes, excludes, starts and ends that may lack -/
abbrev qG : Type := (Nat → Nat) × (Nat → Nat → Int32) × (Nat → Nat → Nat) × (Nat → Int32) × (Nat → Int32) × (Nat → Bool) × (Nat → Bool)
def qgN (G : qG) (e : Nat) : Nat := G.1 e
def qgS (G : qG) (e k : Nat) : Int32 := G.2.1 e k
def qgO (G : qG) (e k : Nat) : Nat := G.2.2.1 e k
def qgI (G : qG) (e : Nat) : Int32 := G.2.2.2.1 e
def qgX (G : qG) (e : Nat) : Int32 := G.2.2.2.2.1 e
def qgA (G : qG) (e : Nat) : Bool := G.2.2.2.2.2.1 e
def qgB (G : qG) (e : Nat) : Bool := G.2.2.2.2.2.2 e
def qmany (o : Nat) : Bool := o == 2 || o == 3
def qlack (o : Nat) : Bool := o == 1 || o == 2
def qgHas (G : qG) (e k t : Nat) (s : Bool) : Bool := qt (qgS G e k) t && (!s || qmany (qgO G e k))
def qgEn (G : qG) (e k : Nat) (s : Bool) : Bool := s || qlack (qgO G e k)
def qgBy (G : qG) (e t : Nat) : Nat → Nat → Bool → Option Nat
  | 0, _, _ => none
  | n + 1, k, s => if qgHas G e k t s = true then some k else if qgEn G e k s = true then qgBy G e t n (k + 1) false else none
def qgOn (G : qG) (e : Nat) : Nat → Nat → Bool → Int32
  | 0, _, _ => qn 0
  | n + 1, k, s => (if (!s || qmany (qgO G e k)) = true then qgS G e k else qn 0) ||| (if qgEn G e k s = true then qgOn G e n (k + 1) false else qn 0)
def qgEnd (G : qG) (e : Nat) : Nat → Nat → Bool → Bool
  | 0, _, _ => true
  | n + 1, k, s => qgEn G e k s && qgEnd G e n (k + 1) false
/-- by reach: twice the slot, and one more if some were taken -/
def qrBy (G : qG) (e r t : Nat) : Option Nat := qgBy G e t (qgN G e - r / 2) (r / 2) (r % 2 == 1)
def qrOn (G : qG) (e r : Nat) : Int32 := qgOn G e (qgN G e - r / 2) (r / 2) (r % 2 == 1)
def qrEnd (G : qG) (e r : Nat) : Bool := qgEnd G e (qgN G e - r / 2) (r / 2) (r % 2 == 1)
def qGok (G : qG) : Prop := ∀ e, e < 10 → qgN G e ≤ 6 ∧ (∀ k, k < qgN G e → qS (qgS G e k) ∧ qgO G e k ≤ 3) ∧ (∃ n, n < 1024 ∧ qgI G e = qn n) ∧ (∃ n, n < 1024 ∧ qgX G e = qn n)
/-- what is open, top first: element and reach; the element that was opened last -/
abbrev qZ : Type := List (Nat × Nat) × Option Nat
def qExc (G : qG) (st : List (Nat × Nat)) (t : Nat) : Bool := st.any fun x => qt (qgX G x.1) t
def qInc (G : qG) (st : List (Nat × Nat)) (t : Nat) : Bool := st.any fun x => qt (qgI G x.1) t
def qAcc (G : qG) (Z : qZ) (t : Nat) : Option qZ := match Z.2 with
  | none => if t = 0 then some Z else none
  | some _ => match Z.1 with
    | [] => none
    | x :: st => if qExc G (x :: st) t = true then none else match qrBy G x.1 x.2 t with
      | some k => some ((x.1, 2 * k + 1) :: st, Z.2)
      | none => if qInc G (x :: st) t = true then some Z else none
def qCan (G : qG) (Z : qZ) : Bool := match Z.1 with
  | [] => false
  | x :: _ => qrEnd G x.1 x.2
def qGoes (G : qG) (Z : qZ) : Int32 := match Z.1 with
  | [] => qn 0
  | x :: _ => qrOn G x.1 x.2
def qOnly (s : Int32) : Option Nat := (List.range 10).find? fun k => decide (s = qn (2 ^ k))
def qWant (G : qG) (Z : qZ) : Option Nat := match qOnly (qGoes G Z) with
  | none => none
  | some k => if qCan G Z = true ∨ 20 ≤ Z.1.length ∨ qgA G k = false ∨ qgN G k = 0 ∨ qExc G Z.1 k = true then none else some k
def qEnter (G : qG) (Z : qZ) (e : Nat) : qZ := (if qgN G e = 0 then Z.1 else (e, 0) :: Z.1, some e)
def qMay (G : qG) (Z : qZ) : Bool := match Z.1 with
  | x :: _ :: _ => qgB G x.1 && qrEnd G x.1 x.2
  | _ => false
def qZok (G : qG) (Z : qZ) : Prop := Z.1.length ≤ 20 ∧ (∀ x ∈ Z.1, x.1 < 10 ∧ x.2 < 2 * qgN G x.1) ∧ (∀ e, Z.2 = some e → e < 10) ∧ (Z.2 = none → Z.1 = [])
/-- a thing: kind, parent, letter, place, whether its start tag was put in -/
abbrev qT : Type := Nat × Option Nat × Nat × Nat × Bool
/-- a reading: state, numbers of the open things (top first), things (the newest first), end tags put in, start tags put in, errors (the newest first) -/
abbrev qV : Type := qZ × List Nat × List qT × Nat × Nat × List (Nat × Nat)
def qErr (k p : Nat) (V : qV) : qV := (V.1, V.2.1, V.2.2.1, V.2.2.2.1, V.2.2.2.2.1, (k, p) :: V.2.2.2.2.2)
def qPut (kind letter p : Nat) (b : Bool) (V : qV) : qV := (V.1, V.2.1, (kind, V.2.1.head?, letter, p, b) :: V.2.2.1, V.2.2.2.1, V.2.2.2.2.1, V.2.2.2.2.2)
def qOpen (G : qG) (e p : Nat) (b : Bool) (V : qV) : qV := (qEnter G V.1 e, if qgN G e = 0 then V.2.1 else V.2.2.1.length :: V.2.1, (e, V.2.1.head?, 60, p, b) :: V.2.2.1, V.2.2.2.1, (if b = true then V.2.2.2.2.1 + 1 else V.2.2.2.2.1), V.2.2.2.2.2)
def qShut (V : qV) : qV := ((V.1.1.tail, V.1.2), V.2.1.tail, V.2.2.1, V.2.2.2.1 + 1, V.2.2.2.2.1, V.2.2.2.2.2)
def qTo (Z : qZ) (V : qV) : qV := (Z, V.2)
/-- a thing is read: rounds, tags put in so far -/
def qRead (G : qG) (t l p : Nat) : Nat → Nat → qV → Option qV
  | 0, _, _ => none
  | n + 1, put, V => if 300 ≤ V.2.2.1.length ∨ t < 10 ∧ 20 ≤ V.1.1.length then some (qErr 6 p V) else
    match qAcc G V.1 t with
    | some Z => some (if t < 10 then qOpen G t p false (qTo Z V) else qPut 10 l p false (qTo Z V))
    | none => if V.1.2 = none ∧ qgA G 0 = true then qRead G t l p n put (qOpen G 0 p true V) else
      match (if put < 8 then qWant G V.1 else none) with
      | some e => qRead G t l p n (put + 1) (qOpen G e p true (qTo ((qAcc G V.1 e).getD V.1) V))
      | none => if qMay G V.1 = true then qRead G t l p n put (qShut V) else some (qErr 0 p V)
def qRd (G : qG) (t l p : Nat) (V : qV) : qV := (qRead G t l p 100 0 V).getD V
/-- the current element is closed -/
def qEnd1 (G : qG) (p : Nat) (put : Bool) (V : qV) : qV :=
  let V1 := if qCan G V.1 = true then V else qErr 2 p V
  let V2 := if put = true then (if qgB G ((V.1.1.head?).getD (0, 0)).1 = true then V1 else qErr 3 p V1) else V1
  ((V.1.1.tail, V.1.2), V.2.1.tail, V.2.2.1, (if put = true then V.2.2.2.1 + 1 else V.2.2.2.1), V.2.2.2.2.1, V2.2.2.2.2.2)
def qClose (G : qG) (p to : Nat) (w : Bool) : Nat → qV → qV
  | 0, V => V
  | n + 1, V => if V.1.1.length ≤ to then V else qClose G p to w n (qEnd1 G p (decide (to + 1 < V.1.1.length) || !w) V)
def qShutTo (G : qG) (p to : Nat) (w : Bool) (V : qV) : qV := qClose G p to w V.1.1.length V
def qLast : List (Nat × Nat) → Nat → Option Nat
  | [], _ => none
  | x :: st, e => if x.1 = e then some st.length else qLast st e
/-- tokens: sort and value -/
abbrev qK : Type := Nat × Int32
def qKok (k : qK) : Prop := k.1 ≤ 8 ∧ (k.1 = 0 ∨ k.1 = 1 → ∃ n, n < 10 ∧ k.2 = qn n) ∧ (k.1 = 4 → ∃ n, 32 ≤ n ∧ n < 127 ∧ k.2 = qn n) ∧ (k.1 = 6 → ∃ n, n < 6 ∧ k.2 = qn n) ∧ (k.1 = 7 → ∃ n, n < 4 ∧ k.2 = qn n)
def qSo (ks : List qK) (i : Nat) : Option Nat := (ks[i]?).map fun k => k.1
def qAhead (ks : List qK) (i : Nat) : Option Nat := if i = 0 then none else qSo ks (i - 1)
def qLine (ks : List qK) (i : Nat) : Bool := qAhead ks i = some 0 || qAhead ks i = some 2 || qSo ks (i + 1) = some 1 || qSo ks (i + 1) = some 3
def qTok (G : qG) (ent : Nat → Nat → qV → qV) (ks : List qK) (i p : Nat) (s : Nat) (v : Int32) (V : qV) : qV :=
  if s = 0 then qRd G v.toNatClampNeg 60 p V
  else if s = 1 then (match qLast V.1.1 v.toNatClampNeg with
    | none => qErr 1 p V
    | some to => qShutTo G p to true V)
  else if s = 2 then (match V.1.2 with
    | none => qErr 1 p V
    | some e => qRd G e 60 p V)
  else if s = 3 then (match V.1.1 with
    | [] => qErr 1 p V
    | _ :: st => qShutTo G p st.length true V)
  else if s = 4 then qRd G 10 v.toNatClampNeg p V
  else if s = 5 then (if qLine ks i = true then V else qRd G 10 32 p V)
  else if s = 6 then ent v.toNatClampNeg p V
  else qErr 5 p V
def qPlain (s : Nat) (v : Int32) : Nat := if s = 4 then v.toNatClampNeg else if s = 5 then 32 else 42
/-- in a row: open MARKs whose switch is INCLUDE, those from the first other one on, what that one's switch is, the reading -/
abbrev qQ : Type := Nat × Nat × Nat × qV
def qStep (G : qG) (sw : Nat → Nat) (ent : Nat → Nat → qV → qV) (ks : List qK) (i p : Nat) (Q : qQ) : qQ := match ks[i]? with
  | none => Q
  | some (s, v) =>
    if 0 < Q.2.1 then
      (Q.1, (if s = 7 then Q.2.1 + 1 else if s = 8 then Q.2.1 - 1 else Q.2.1), Q.2.2.1, (if 0 < (if s = 7 then Q.2.1 + 1 else if s = 8 then Q.2.1 - 1 else Q.2.1) ∧ Q.2.2.1 = 2 then qRd G 10 (qPlain s v) p Q.2.2.2 else Q.2.2.2))
    else if s = 7 then (if sw v.toNatClampNeg = 0 then (Q.1 + 1, 0, 0, Q.2.2.2) else (Q.1, 1, sw v.toNatClampNeg, Q.2.2.2))
    else if s = 8 ∧ 0 < Q.1 then (Q.1 - 1, 0, Q.2.2.1, Q.2.2.2)
    else (Q.1, 0, Q.2.2.1, qTok G ent ks i p s v Q.2.2.2)
/-- tokens still to come, place in the row; the states behind the tokens of the text, the newest first -/
def qLoop (G : qG) (sw : Nat → Nat) (ent : Nat → Nat → qV → qV) (ks : List qK) (p : Option Nat) : Nat → Nat → qQ × List (qZ × Nat) → qQ × List (qZ × Nat)
  | 0, _, X => X
  | n + 1, i, X =>
    let Q := qStep G sw ent ks i (p.getD i) X.1
    qLoop G sw ent ks p n (i + 1) (Q, if p = none then (Q.2.2.2.1, Q.1 + Q.2.1) :: X.2 else X.2)
def qErrs (k p : Nat) : Nat → qV → qV
  | 0, V => V
  | n + 1, V => qErrs k p n (qErr k p V)
def qRow (G : qG) (sw : Nat → Nat) (ent : Nat → Nat → qV → qV) (ks : List qK) (p : Option Nat) (V : qV) (X : List (qZ × Nat)) : qV × List (qZ × Nat) :=
  let Y := qLoop G sw ent ks p ks.length 0 ((0, 0, 1, V), X)
  (qErrs 5 (p.getD ks.length) (Y.1.1 + Y.1.2.1) Y.1.2.2.2, Y.2)
/-- entities: within two, within one, in the text -/
def qEnt2 : Nat → Nat → qV → qV := fun _ p V => qErr 4 p V
def qEnt1 (G : qG) (sw : Nat → Nat) (en : Nat → List qK) (e0 : Nat) : Nat → Nat → qV → qV := fun e p V => if e = e0 then qErr 4 p V else (qRow G sw qEnt2 (en e) (some p) V []).1
def qEnt0 (G : qG) (sw : Nat → Nat) (en : Nat → List qK) : Nat → Nat → qV → qV := fun e p V => (qRow G sw (qEnt1 G sw en e) (en e) (some p) V []).1
def qZ0 : qZ := ([], none)
def qV0 : qV := (qZ0, [], [], 0, 0, [])
/-- a text is read: the reading ahead of the last closing, the states -/
def qGo (G : qG) (sw : Nat → Nat) (en : Nat → List qK) (ks : List qK) : qV × List (qZ × Nat) := qRow G sw (qEnt0 G sw en) ks none qV0 [(qZ0, 0)]
def qAll {α : Type} (P : Nat → α → Prop) : List α → Prop
  | [] => True
  | x :: l => P l.length x ∧ qAll P l
theorem qAll_mono {α : Type} {P R : Nat → α → Prop} : ∀ {l : List α}, qAll P l → (∀ j x, j < l.length → x ∈ l → P j x → R j x) → qAll R l := by
  intro l
  induction l with
  | nil => intro _ _; exact True.intro
  | cons a l ih =>
    intro h k
    exact ⟨k _ _ (by simp) (by simp) h.1, ih h.2 fun j x hj hx hp => k j x (by simp; omega) (by simp [hx]) hp⟩
theorem qAll_get {α : Type} {P : Nat → α → Prop} : ∀ {l : List α}, qAll P l → ∀ j, j < l.length → ∃ x, x ∈ l ∧ l[l.length - 1 - j]? = some x ∧ P j x := by
  intro l
  induction l with
  | nil => intro _ j hj; simp at hj
  | cons a l ih =>
    intro h j hj
    rcases Nat.lt_or_ge j l.length with h1 | h1
    · obtain ⟨x, hx, hg, hp⟩ := ih h.2 j h1
      refine ⟨x, by simp [hx], ?_, hp⟩
      rw [show (a :: l).length - 1 - j = (l.length - 1 - j) + 1 by simp; omega, List.getElem?_cons_succ]
      exact hg
    · have hj : j = l.length := by simp at hj; omega
      subst hj
      refine ⟨a, by simp, ?_, h.1⟩
      simp
