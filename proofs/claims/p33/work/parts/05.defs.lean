def gtb : List Cond := lw_tbl.filter goodWord
theorem gtb_in {w : Cond} (h : w ∈ lw_tbl) (g : goodWord w = true) : w ∈ gtb := List.mem_filter.mpr ⟨h, g⟩
theorem gtb_good {ws : List Cond} (h : ∀ w ∈ ws, w ∈ gtb) : GoodIn gtb ws := fun w hw => ⟨h w hw, good_of_word (List.mem_filter.mp (h w hw)).2⟩
/-- the words that speak of nest mates: they stay for another reason than those of gtb -/
def znest : Cond → Bool
  | .fieldLinkNest .. => true
  | .methodLinkNest .. => true
  | _ => false
def znw : List Cond := lw_tbl.filter znest
theorem znw_in {w : Cond} (i : Nat) (h : lw_tbl[i]? = some w) (g : znest w = true) : w ∈ znw := List.mem_filter.mpr ⟨List.mem_of_getElem? h, g⟩
/-- a field, as a method's class links it: class ci, place k -/
def zFl (own : String) (index ci k : Nat) : Prop :=
  vwCl[ci]? = some (zcl ci) ∧ ci < 100 ∧ k < (zcl ci).2.2 ∧ (∀ w ∈ u_ws (zcl ci).1 (zcl ci).2.1 (zcl ci).2.2, w ∈ gtb) ∧ (∀ j, j < (zcl ci).2.2 → parseFieldDescriptor ((zcl ci).2.1 j).2.2.1 = some (zty ci j)) ∧
  (∀ a, a < (zcl ci).2.2 → ∀ b, b < (zcl ci).2.2 → a ≠ b → ((zcl ci).2.1 a).2.1 ≠ ((zcl ci).2.1 b).2.1) ∧
  ((Cond.fieldLink own index ((zcl ci).2.1 k).1 ((zcl ci).2.1 k).2.1 ((zcl ci).2.1 k).2.2.1) ∈ gtb ∨ ∃ host : String, (Cond.fieldLinkNest own index ((zcl ci).2.1 k).1 ((zcl ci).2.1 k).2.1 ((zcl ci).2.1 k).2.2.1 host) ∈ znw)
/-- a method, as the tables have it -/
def zMd (y : MethodName) (bytes : ByteArray) (maxL : Nat) (ret : Option FieldType) (n : Nat) : Prop :=
  (Cond.code y bytes maxL ret) ∈ gtb ∧ (Cond.initialized y.cls) ∈ gtb ∧ (y.cls ≠ "java/lang/invoke/MethodHandle" ∧ y.cls ≠ "java/lang/invoke/VarHandle" ∧ (parseMethodDescriptor y.desc).map (fun d => d.parameters.length) = some n) ∧ maxL ≤ 45
def zNm : List String := ["java/lang/RuntimeException", "java/lang/Exception"]
def zEx : Nat → String
  | 1 => "java/lang/IndexOutOfBoundsException"
  | 2 => "java/lang/IllegalArgumentException"
  | _ => "java/lang/IllegalStateException"
def zIc : Nat → Nat
  | 1 => 217
  | 2 => 59
  | _ => 76
