/-! BOTH: what a new one holds -/
def qG0 : qG := (fun _ => 0, fun _ _ => 0, fun _ _ => 0, fun _ => 0, fun _ => 0, fun _ => false, fun _ => false)
def qA0 : qA := (qG0, fun _ => 0, fun _ => [], [], 0)
theorem qA0_ok : qAok qA0 := ⟨fun e _ => ⟨Nat.zero_le 6, fun k h => absurd h (Nat.not_lt_zero k), ⟨0, by omega, rfl⟩, ⟨0, by omega, rfl⟩⟩, ⟨fun i _ => ⟨Nat.zero_le 6, fun k h => by cases h⟩, fun i _ => Nat.zero_le 2⟩, Nat.zero_le 60, fun k h => by cases h⟩
theorem qA0_F : qFA qA0 = (qV0, [(qZ0, 0)]) := rfl
set_option maxRecDepth 1000000 in
theorem qC1_G : ∀ e, e < 10 → qC1.1 (8 + 6 * e) 3 = 0 ∧ qC1.1 4 e = 0 ∧ qC1.1 5 e = 0 ∧ qC1.1 6 e = 0 ∧ qC1.1 7 e = 0 := by decide +kernel
set_option maxRecDepth 1000000 in
theorem qC1_E : (∀ i, i < 6 → qC1.1 (73 + 3 * i) 2 = 0) ∧ (∀ i, i < 4 → qC1.1 72 i = 0) ∧ qC1.1 68 2 = 0 := by decide +kernel
set_option maxRecDepth 1000000 in
theorem qC1_V : qC1.1 92 5 = 0 ∧ qC1.1 91 9 = 0 ∧ qC1.1 91 8 = 0 ∧ qC1.1 91 15 = 0 ∧ qC1.1 98 2 = 0 ∧ qC1.1 91 16 = 0 ∧ qC1.1 110 3 = 0 ∧ qC1.1 110 4 = -1 ∧ qC1.1 110 5 = 0 := by decide +kernel
theorem qCA_0 {I : Nat → Nat → Int32} (hG : ∀ e, e < 10 → I (8 + 6 * e) 3 = 0 ∧ I 4 e = 0 ∧ I 5 e = 0 ∧ I 6 e = 0 ∧ I 7 e = 0) (hE : (∀ i, i < 6 → I (73 + 3 * i) 2 = 0) ∧ (∀ i, i < 4 → I 72 i = 0) ∧ I 68 2 = 0) (hV : I 92 5 = 0 ∧ I 91 9 = 0 ∧ I 91 8 = 0 ∧ I 91 15 = 0 ∧ I 98 2 = 0 ∧ I 91 16 = 0 ∧ I 110 3 = 0 ∧ I 110 4 = -1 ∧ I 110 5 = 0) : qCA false I qA0 := by
  obtain ⟨v1, v2, v3, v4, v5, v6, v7, v8, v9⟩ := hV
  refine ⟨qA0_ok, ⟨fun e he => ?_, ⟨fun i hi => ⟨hE.1 i hi, fun j k h => by cases h⟩, fun i hi => hE.2.1 i hi, fun j q h => by cases h⟩, ⟨hE.2.2, fun j k h => by cases h⟩⟩, ?_, ?_, ⟨v5, fun j k h => by cases h⟩, v6⟩
  · obtain ⟨g1, g2, g3, g4, g5⟩ := hG e he
    exact ⟨g1, fun k h => absurd h (Nat.not_lt_zero k), fun r h => absurd h (Nat.not_lt_zero r), g2, g3, g4, g5⟩
  · rw [qA0_F]
    exact ⟨v1, True.intro, v2, v3, True.intro, v4⟩
  · rw [qA0_F]
    exact ⟨⟨⟨v7, v8, True.intro⟩, v9⟩, True.intro⟩
theorem qC1_A : qCA false qC1.1 qA0 := qCA_0 qC1_G qC1_E qC1_V
set_option maxRecDepth 1000000 in
theorem qD1_G : ∀ e, e < 10 → qD1.1 4 e = 0 ∧ qD1.1 5 e = 0 ∧ qD1.1 6 e = 0 ∧ qD1.1 7 e = 0 ∧ qD1.1 8 e = 0 := by decide +kernel
set_option maxRecDepth 1000000 in
theorem qD1_E : (∀ i, i < 6 → qD1.1 11 i = 0) ∧ (∀ i, i < 4 → qD1.1 12 i = 0) ∧ qD1.1 1 13 = 0 ∧ qD1.1 1 14 = 0 := by decide +kernel
theorem qD1_A : ∃ J, fX8_init 1 (qM0 8) = some (0, qD J) ∧ qRA J qA0 := by
  have hG : qRG qG0 qD1.1 := fun e he => by
    obtain ⟨g1, g2, g3, g4, g5⟩ := qD1_G e he
    exact ⟨g1, fun k h => absurd h (Nat.not_lt_zero k), g2, g3, g4, g5⟩
  have hE : qREn (fun _ => 0) (fun _ => []) qD1.1 := ⟨fun e he => ⟨qD1_E.1 e he, fun j k h => by cases h⟩, fun i hi => qD1_E.2.1 i hi⟩
  have hT : qRT qD1.1 [] := ⟨qD1_E.2.2.1, fun j k h => by cases h⟩
  obtain ⟨hg, hEk, hn, hk⟩ := qA0_ok
  obtain ⟨J, j1, j2, j3, j4, j5⟩ := rReadsText hg hEk hk hn hG hE hT
  have j14 : J 1 14 = qn 0 := by rw [j5.2 14 (by omega) (by omega) (by omega) (by omega) (by omega) (by omega) (by omega) (by omega) (by omega) (by omega)]; exact qD1_E.2.2.2
  refine ⟨J, ?_, qA0_ok, qRG_fr hG fun a h1 h2 => by rw [j5.1 a (by omega) (by omega)], qREn_fr hE fun a h1 h2 => by rw [j5.1 a (by omega) (by omega)], ⟨?_, fun j k h => by cases h⟩, ?_, j3, j14, j4⟩
  · rw [qAlloc_init, qD1_is, qzb_some, qD1_eq, j1, qzb_some]
  · rw [j5.2 13 (by omega) (by omega) (by omega) (by omega) (by omega) (by omega) (by omega) (by omega) (by omega) (by omega)]; exact qD1_E.2.2.1
  · obtain ⟨z, h2, h3, h4, h5, h6, h7, h8, h9⟩ := j2
    exact ⟨h3, h4, h5, h7, h8⟩
