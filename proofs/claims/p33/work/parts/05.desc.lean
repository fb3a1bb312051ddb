/-! descriptors of many parameters: read parameter by parameter -/
theorem zpE (n : Nat) (cs : List Char) : ClassFile.parametersPrefix n (')' :: cs) = some ([], cs) := by cases n <;> rfl
theorem zpI {n : Nat} {cs r : List Char} {ts : List FieldType} (h : ClassFile.parametersPrefix n cs = some (ts, r)) : ClassFile.parametersPrefix (n + 1) ('I' :: cs) = some (.int :: ts, r) := by
  unfold ClassFile.parametersPrefix
  simp [ClassFile.fieldTypePrefix, h]
theorem zpZ {n : Nat} {cs r : List Char} {ts : List FieldType} (h : ClassFile.parametersPrefix n cs = some (ts, r)) : ClassFile.parametersPrefix (n + 1) ('Z' :: cs) = some (.boolean :: ts, r) := by
  unfold ClassFile.parametersPrefix
  simp [ClassFile.fieldTypePrefix, h]
theorem zpAI {n : Nat} {cs r : List Char} {ts : List FieldType} (h : ClassFile.parametersPrefix n cs = some (ts, r)) : ClassFile.parametersPrefix (n + 1) ('[' :: 'I' :: cs) = some (.array .int :: ts, r) := by
  unfold ClassFile.parametersPrefix
  simp [ClassFile.fieldTypePrefix, h]
theorem zpAJ {n : Nat} {cs r : List Char} {ts : List FieldType} (h : ClassFile.parametersPrefix n cs = some (ts, r)) : ClassFile.parametersPrefix (n + 1) ('[' :: 'J' :: cs) = some (.array .long :: ts, r) := by
  unfold ClassFile.parametersPrefix
  simp [ClassFile.fieldTypePrefix, h]
theorem zpD {s : String} {cs : List Char} {ts : List FieldType} {n : Nat} (h : s.toList = '(' :: cs) (hp : ClassFile.parametersPrefix 255 cs = some (ts, ['V'])) (hu : (ts.map ClassFile.FieldType.units).sum ≤ 255) (hn : ts.length = n) : (parseMethodDescriptor s).map (fun d => d.parameters.length) = some n := by
  unfold ClassFile.parseMethodDescriptor
  rw [h]
  simp only [hp, Option.bind_eq_bind, Option.bind_some]
  rw [if_pos (by exact hu)]
  simp [hn]
