section
set_option maxRecDepth 100000
theorem gi {w : Cond} (i : Nat) (h : lw_tbl[i]? = some w) (g : goodWord w = true) : w ∈ gtb := gtb_in (List.mem_of_getElem? h) g
theorem zcI0 : vwCl[0]? = some (zcl 0) ∧ 0 < 100 := ⟨rfl, by decide⟩
set_option maxRecDepth 100000 in
theorem zcU0 : ∀ w ∈ u_ws (zcl 0).1 (zcl 0).2.1 (zcl 0).2.2, w ∈ gtb := by
  have h : ∀ i, i < 5 → lw_tbl[([111, 113, 115, 117, 119] : List Nat).getD i 0]? = some (u_lay (zcl 0).1 (zcl 0).2.1 i) ∧ goodWord (u_lay (zcl 0).1 (zcl 0).2.1 i) = true := by decide +kernel
  intro w hw
  obtain ⟨i, hi, rfl⟩ := List.mem_map.mp hw
  exact gi _ (h i (List.mem_range.mp hi)).1 (h i (List.mem_range.mp hi)).2
theorem zcT0 : ∀ j, j < (zcl 0).2.2 → parseFieldDescriptor ((zcl 0).2.1 j).2.2.1 = some (zty 0 j) := tyX0_ok
theorem zcN0 : ∀ a, a < (zcl 0).2.2 → ∀ b, b < (zcl 0).2.2 → a ≠ b → ((zcl 0).2.1 a).2.1 ≠ ((zcl 0).2.1 b).2.1 := nmX0
theorem zcD0 : ∀ j, j < (zcl 0).2.2 → defaultValue (zty 0 j) = if zrt (zty 0 j) = true then .null else .int 0 := by decide +kernel
theorem zcV0 : (Cond.instantiable (zcl 0).1 (zcl 0).2.2) ∈ gtb := gi 51 rfl rfl
theorem zcK0 : (Cond.initialized (zcl 0).1) ∈ gtb := gi 19 rfl rfl
theorem zcI1 : vwCl[1]? = some (zcl 1) ∧ 1 < 100 := ⟨rfl, by decide⟩
set_option maxRecDepth 100000 in
theorem zcU1 : ∀ w ∈ u_ws (zcl 1).1 (zcl 1).2.1 (zcl 1).2.2, w ∈ gtb := by
  have h : ∀ i, i < 7 → lw_tbl[([76, 78, 80, 82, 84, 86, 88] : List Nat).getD i 0]? = some (u_lay (zcl 1).1 (zcl 1).2.1 i) ∧ goodWord (u_lay (zcl 1).1 (zcl 1).2.1 i) = true := by decide +kernel
  intro w hw
  obtain ⟨i, hi, rfl⟩ := List.mem_map.mp hw
  exact gi _ (h i (List.mem_range.mp hi)).1 (h i (List.mem_range.mp hi)).2
theorem zcT1 : ∀ j, j < (zcl 1).2.2 → parseFieldDescriptor ((zcl 1).2.1 j).2.2.1 = some (zty 1 j) := tyX1_ok
theorem zcN1 : ∀ a, a < (zcl 1).2.2 → ∀ b, b < (zcl 1).2.2 → a ≠ b → ((zcl 1).2.1 a).2.1 ≠ ((zcl 1).2.1 b).2.1 := nmX1
theorem zcD1 : ∀ j, j < (zcl 1).2.2 → defaultValue (zty 1 j) = if zrt (zty 1 j) = true then .null else .int 0 := by decide +kernel
theorem zcV1 : (Cond.instantiable (zcl 1).1 (zcl 1).2.2) ∈ gtb := gi 58 rfl rfl
theorem zcK1 : (Cond.initialized (zcl 1).1) ∈ gtb := gi 20 rfl rfl
theorem zcI2 : vwCl[2]? = some (zcl 2) ∧ 2 < 100 := ⟨rfl, by decide⟩
set_option maxRecDepth 100000 in
theorem zcU2 : ∀ w ∈ u_ws (zcl 2).1 (zcl 2).2.1 (zcl 2).2.2, w ∈ gtb := by
  have h : ∀ i, i < 17 → lw_tbl[([243, 245, 247, 249, 251, 253, 255, 257, 259, 261, 263, 265, 267, 269, 271, 273, 275] : List Nat).getD i 0]? = some (u_lay (zcl 2).1 (zcl 2).2.1 i) ∧ goodWord (u_lay (zcl 2).1 (zcl 2).2.1 i) = true := by decide +kernel
  intro w hw
  obtain ⟨i, hi, rfl⟩ := List.mem_map.mp hw
  exact gi _ (h i (List.mem_range.mp hi)).1 (h i (List.mem_range.mp hi)).2
theorem zcT2 : ∀ j, j < (zcl 2).2.2 → parseFieldDescriptor ((zcl 2).2.1 j).2.2.1 = some (zty 2 j) := tyX2_ok
theorem zcN2 : ∀ a, a < (zcl 2).2.2 → ∀ b, b < (zcl 2).2.2 → a ≠ b → ((zcl 2).2.1 a).2.1 ≠ ((zcl 2).2.1 b).2.1 := nmX2
theorem zcD2 : ∀ j, j < (zcl 2).2.2 → defaultValue (zty 2 j) = if zrt (zty 2 j) = true then .null else .int 0 := by decide +kernel
theorem zcV2 : (Cond.instantiable (zcl 2).1 (zcl 2).2.2) ∈ gtb := gi 144 rfl rfl
theorem zcK2 : (Cond.initialized (zcl 2).1) ∈ gtb := gi 22 rfl rfl
theorem zcI3 : vwCl[3]? = some (zcl 3) ∧ 3 < 100 := ⟨rfl, by decide⟩
set_option maxRecDepth 100000 in
theorem zcU3 : ∀ w ∈ u_ws (zcl 3).1 (zcl 3).2.1 (zcl 3).2.2, w ∈ gtb := by
  have h : ∀ i, i < 3 → lw_tbl[([135, 137, 139] : List Nat).getD i 0]? = some (u_lay (zcl 3).1 (zcl 3).2.1 i) ∧ goodWord (u_lay (zcl 3).1 (zcl 3).2.1 i) = true := by decide +kernel
  intro w hw
  obtain ⟨i, hi, rfl⟩ := List.mem_map.mp hw
  exact gi _ (h i (List.mem_range.mp hi)).1 (h i (List.mem_range.mp hi)).2
theorem zcT3 : ∀ j, j < (zcl 3).2.2 → parseFieldDescriptor ((zcl 3).2.1 j).2.2.1 = some (zty 3 j) := tyX3_ok
theorem zcN3 : ∀ a, a < (zcl 3).2.2 → ∀ b, b < (zcl 3).2.2 → a ≠ b → ((zcl 3).2.1 a).2.1 ≠ ((zcl 3).2.1 b).2.1 := nmX3
theorem zcD3 : ∀ j, j < (zcl 3).2.2 → defaultValue (zty 3 j) = if zrt (zty 3 j) = true then .null else .int 0 := by decide +kernel
theorem zcV3 : (Cond.instantiable (zcl 3).1 (zcl 3).2.2) ∈ gtb := gi 123 rfl rfl
theorem zcK3 : (Cond.initialized (zcl 3).1) ∈ gtb := gi 21 rfl rfl
theorem zcI4 : vwCl[4]? = some (zcl 4) ∧ 4 < 100 := ⟨rfl, by decide⟩
set_option maxRecDepth 100000 in
theorem zcU4 : ∀ w ∈ u_ws (zcl 4).1 (zcl 4).2.1 (zcl 4).2.2, w ∈ gtb := by
  have h : ∀ i, i < 6 → lw_tbl[([205, 207, 209, 211, 213, 215] : List Nat).getD i 0]? = some (u_lay (zcl 4).1 (zcl 4).2.1 i) ∧ goodWord (u_lay (zcl 4).1 (zcl 4).2.1 i) = true := by decide +kernel
  intro w hw
  obtain ⟨i, hi, rfl⟩ := List.mem_map.mp hw
  exact gi _ (h i (List.mem_range.mp hi)).1 (h i (List.mem_range.mp hi)).2
theorem zcT4 : ∀ j, j < (zcl 4).2.2 → parseFieldDescriptor ((zcl 4).2.1 j).2.2.1 = some (zty 4 j) := tyX4_ok
theorem zcN4 : ∀ a, a < (zcl 4).2.2 → ∀ b, b < (zcl 4).2.2 → a ≠ b → ((zcl 4).2.1 a).2.1 ≠ ((zcl 4).2.1 b).2.1 := nmX4
theorem zcD4 : ∀ j, j < (zcl 4).2.2 → defaultValue (zty 4 j) = if zrt (zty 4 j) = true then .null else .int 0 := by decide +kernel
theorem zcV4 : (Cond.instantiable (zcl 4).1 (zcl 4).2.2) ∈ gtb := gi 189 rfl rfl
theorem zcK4 : (Cond.initialized (zcl 4).1) ∈ gtb := gi 24 rfl rfl
theorem zcI5 : vwCl[5]? = some (zcl 5) ∧ 5 < 100 := ⟨rfl, by decide⟩
set_option maxRecDepth 100000 in
theorem zcU5 : ∀ w ∈ u_ws (zcl 5).1 (zcl 5).2.1 (zcl 5).2.2, w ∈ gtb := by
  have h : ∀ i, i < 6 → lw_tbl[([171, 173, 175, 177, 179, 181] : List Nat).getD i 0]? = some (u_lay (zcl 5).1 (zcl 5).2.1 i) ∧ goodWord (u_lay (zcl 5).1 (zcl 5).2.1 i) = true := by decide +kernel
  intro w hw
  obtain ⟨i, hi, rfl⟩ := List.mem_map.mp hw
  exact gi _ (h i (List.mem_range.mp hi)).1 (h i (List.mem_range.mp hi)).2
theorem zcT5 : ∀ j, j < (zcl 5).2.2 → parseFieldDescriptor ((zcl 5).2.1 j).2.2.1 = some (zty 5 j) := tyX5_ok
theorem zcN5 : ∀ a, a < (zcl 5).2.2 → ∀ b, b < (zcl 5).2.2 → a ≠ b → ((zcl 5).2.1 a).2.1 ≠ ((zcl 5).2.1 b).2.1 := nmX5
theorem zcD5 : ∀ j, j < (zcl 5).2.2 → defaultValue (zty 5 j) = if zrt (zty 5 j) = true then .null else .int 0 := by decide +kernel
theorem zcV5 : (Cond.instantiable (zcl 5).1 (zcl 5).2.2) ∈ gtb := gi 150 rfl rfl
theorem zcK5 : (Cond.initialized (zcl 5).1) ∈ gtb := gi 23 rfl rfl
theorem zcI6 : vwCl[6]? = some (zcl 6) ∧ 6 < 100 := ⟨rfl, by decide⟩
set_option maxRecDepth 100000 in
theorem zcU6 : ∀ w ∈ u_ws (zcl 6).1 (zcl 6).2.1 (zcl 6).2.2, w ∈ gtb := by
  have h : ∀ i, i < 4 → lw_tbl[([289, 291, 293, 295] : List Nat).getD i 0]? = some (u_lay (zcl 6).1 (zcl 6).2.1 i) ∧ goodWord (u_lay (zcl 6).1 (zcl 6).2.1 i) = true := by decide +kernel
  intro w hw
  obtain ⟨i, hi, rfl⟩ := List.mem_map.mp hw
  exact gi _ (h i (List.mem_range.mp hi)).1 (h i (List.mem_range.mp hi)).2
theorem zcT6 : ∀ j, j < (zcl 6).2.2 → parseFieldDescriptor ((zcl 6).2.1 j).2.2.1 = some (zty 6 j) := tyX6_ok
theorem zcN6 : ∀ a, a < (zcl 6).2.2 → ∀ b, b < (zcl 6).2.2 → a ≠ b → ((zcl 6).2.1 a).2.1 ≠ ((zcl 6).2.1 b).2.1 := nmX6
theorem zcD6 : ∀ j, j < (zcl 6).2.2 → defaultValue (zty 6 j) = if zrt (zty 6 j) = true then .null else .int 0 := by decide +kernel
theorem zcV6 : (Cond.instantiable (zcl 6).1 (zcl 6).2.2) ∈ gtb := gi 279 rfl rfl
theorem zcK6 : (Cond.initialized (zcl 6).1) ∈ gtb := gi 25 rfl rfl
theorem zcI7 : vwCl[7]? = some (zcl 7) ∧ 7 < 100 := ⟨rfl, by decide⟩
set_option maxRecDepth 100000 in
theorem zcU7 : ∀ w ∈ u_ws (zcl 7).1 (zcl 7).2.1 (zcl 7).2.2, w ∈ gtb := by
  have h : ∀ i, i < 6 → lw_tbl[([304, 306, 308, 310, 312, 314] : List Nat).getD i 0]? = some (u_lay (zcl 7).1 (zcl 7).2.1 i) ∧ goodWord (u_lay (zcl 7).1 (zcl 7).2.1 i) = true := by decide +kernel
  intro w hw
  obtain ⟨i, hi, rfl⟩ := List.mem_map.mp hw
  exact gi _ (h i (List.mem_range.mp hi)).1 (h i (List.mem_range.mp hi)).2
theorem zcT7 : ∀ j, j < (zcl 7).2.2 → parseFieldDescriptor ((zcl 7).2.1 j).2.2.1 = some (zty 7 j) := tyX7_ok
theorem zcN7 : ∀ a, a < (zcl 7).2.2 → ∀ b, b < (zcl 7).2.2 → a ≠ b → ((zcl 7).2.1 a).2.1 ≠ ((zcl 7).2.1 b).2.1 := nmX7
theorem zcD7 : ∀ j, j < (zcl 7).2.2 → defaultValue (zty 7 j) = if zrt (zty 7 j) = true then .null else .int 0 := by decide +kernel
theorem zcV7 : (Cond.instantiable (zcl 7).1 (zcl 7).2.2) ∈ gtb := gi 43 rfl rfl
theorem zcK7 : (Cond.initialized (zcl 7).1) ∈ gtb := gi 18 rfl rfl
theorem zf_RX0_11 : zFl RX0 11 0 0 := ⟨zcI0.1, zcI0.2, by decide, zcU0, zcT0, zcN0, Or.inl (gi 93 rfl rfl)⟩
theorem zfl_RX0_11 : (Cond.fieldLink RX0 11 ((zcl 0).2.1 0).1 ((zcl 0).2.1 0).2.1 ((zcl 0).2.1 0).2.2.1) ∈ gtb := gi 93 rfl rfl
theorem zf_RX0_17 : zFl RX0 17 0 1 := ⟨zcI0.1, zcI0.2, by decide, zcU0, zcT0, zcN0, Or.inl (gi 97 rfl rfl)⟩
theorem zfl_RX0_17 : (Cond.fieldLink RX0 17 ((zcl 0).2.1 1).1 ((zcl 0).2.1 1).2.1 ((zcl 0).2.1 1).2.2.1) ∈ gtb := gi 97 rfl rfl
theorem zf_RX0_21 : zFl RX0 21 0 2 := ⟨zcI0.1, zcI0.2, by decide, zcU0, zcT0, zcN0, Or.inl (gi 100 rfl rfl)⟩
theorem zfl_RX0_21 : (Cond.fieldLink RX0 21 ((zcl 0).2.1 2).1 ((zcl 0).2.1 2).2.1 ((zcl 0).2.1 2).2.2.1) ∈ gtb := gi 100 rfl rfl
theorem zf_RX0_24 : zFl RX0 24 0 3 := ⟨zcI0.1, zcI0.2, by decide, zcU0, zcT0, zcN0, Or.inl (gi 103 rfl rfl)⟩
theorem zfl_RX0_24 : (Cond.fieldLink RX0 24 ((zcl 0).2.1 3).1 ((zcl 0).2.1 3).2.1 ((zcl 0).2.1 3).2.2.1) ∈ gtb := gi 103 rfl rfl
theorem zf_RX0_28 : zFl RX0 28 0 4 := ⟨zcI0.1, zcI0.2, by decide, zcU0, zcT0, zcN0, Or.inl (gi 107 rfl rfl)⟩
theorem zfl_RX0_28 : (Cond.fieldLink RX0 28 ((zcl 0).2.1 4).1 ((zcl 0).2.1 4).2.1 ((zcl 0).2.1 4).2.2.1) ∈ gtb := gi 107 rfl rfl
theorem zf_RX1_9 : zFl RX1 9 1 0 := ⟨zcI1.1, zcI1.2, by decide, zcU1, zcT1, zcN1, Or.inl (gi 63 rfl rfl)⟩
theorem zfl_RX1_9 : (Cond.fieldLink RX1 9 ((zcl 1).2.1 0).1 ((zcl 1).2.1 0).2.1 ((zcl 1).2.1 0).2.2.1) ∈ gtb := gi 63 rfl rfl
theorem zf_RX1_15 : zFl RX1 15 1 1 := ⟨zcI1.1, zcI1.2, by decide, zcU1, zcT1, zcN1, Or.inl (gi 64 rfl rfl)⟩
theorem zfl_RX1_15 : (Cond.fieldLink RX1 15 ((zcl 1).2.1 1).1 ((zcl 1).2.1 1).2.1 ((zcl 1).2.1 1).2.2.1) ∈ gtb := gi 64 rfl rfl
theorem zf_RX1_19 : zFl RX1 19 1 2 := ⟨zcI1.1, zcI1.2, by decide, zcU1, zcT1, zcN1, Or.inl (gi 65 rfl rfl)⟩
theorem zfl_RX1_19 : (Cond.fieldLink RX1 19 ((zcl 1).2.1 2).1 ((zcl 1).2.1 2).2.1 ((zcl 1).2.1 2).2.2.1) ∈ gtb := gi 65 rfl rfl
theorem zf_RX1_22 : zFl RX1 22 1 4 := ⟨zcI1.1, zcI1.2, by decide, zcU1, zcT1, zcN1, Or.inl (gi 70 rfl rfl)⟩
theorem zfl_RX1_22 : (Cond.fieldLink RX1 22 ((zcl 1).2.1 4).1 ((zcl 1).2.1 4).2.1 ((zcl 1).2.1 4).2.2.1) ∈ gtb := gi 70 rfl rfl
theorem zf_RX1_25 : zFl RX1 25 1 5 := ⟨zcI1.1, zcI1.2, by decide, zcU1, zcT1, zcN1, Or.inl (gi 72 rfl rfl)⟩
theorem zfl_RX1_25 : (Cond.fieldLink RX1 25 ((zcl 1).2.1 5).1 ((zcl 1).2.1 5).2.1 ((zcl 1).2.1 5).2.2.1) ∈ gtb := gi 72 rfl rfl
theorem zf_RX1_28 : zFl RX1 28 1 3 := ⟨zcI1.1, zcI1.2, by decide, zcU1, zcT1, zcN1, Or.inl (gi 66 rfl rfl)⟩
theorem zf_RX1_35 : zFl RX1 35 1 6 := ⟨zcI1.1, zcI1.2, by decide, zcU1, zcT1, zcN1, Or.inl (gi 75 rfl rfl)⟩
theorem zf_RX2_12 : zFl RX2 12 2 4 := ⟨zcI2.1, zcI2.2, by decide, zcU2, zcT2, zcN2, Or.inl (gi 222 rfl rfl)⟩
theorem zfl_RX2_12 : (Cond.fieldLink RX2 12 ((zcl 2).2.1 4).1 ((zcl 2).2.1 4).2.1 ((zcl 2).2.1 4).2.2.1) ∈ gtb := gi 222 rfl rfl
theorem zf_RX2_23 : zFl RX2 23 2 5 := ⟨zcI2.1, zcI2.2, by decide, zcU2, zcT2, zcN2, Or.inl (gi 224 rfl rfl)⟩
theorem zfl_RX2_23 : (Cond.fieldLink RX2 23 ((zcl 2).2.1 5).1 ((zcl 2).2.1 5).2.1 ((zcl 2).2.1 5).2.2.1) ∈ gtb := gi 224 rfl rfl
theorem zf_RX2_27 : zFl RX2 27 2 6 := ⟨zcI2.1, zcI2.2, by decide, zcU2, zcT2, zcN2, Or.inl (gi 226 rfl rfl)⟩
theorem zfl_RX2_27 : (Cond.fieldLink RX2 27 ((zcl 2).2.1 6).1 ((zcl 2).2.1 6).2.1 ((zcl 2).2.1 6).2.2.1) ∈ gtb := gi 226 rfl rfl
theorem zf_RX2_31 : zFl RX2 31 2 7 := ⟨zcI2.1, zcI2.2, by decide, zcU2, zcT2, zcN2, Or.inl (gi 228 rfl rfl)⟩
theorem zfl_RX2_31 : (Cond.fieldLink RX2 31 ((zcl 2).2.1 7).1 ((zcl 2).2.1 7).2.1 ((zcl 2).2.1 7).2.2.1) ∈ gtb := gi 228 rfl rfl
theorem zf_RX2_34 : zFl RX2 34 2 11 := ⟨zcI2.1, zcI2.2, by decide, zcU2, zcT2, zcN2, Or.inl (gi 235 rfl rfl)⟩
theorem zfl_RX2_34 : (Cond.fieldLink RX2 34 ((zcl 2).2.1 11).1 ((zcl 2).2.1 11).2.1 ((zcl 2).2.1 11).2.2.1) ∈ gtb := gi 235 rfl rfl
theorem zf_RX2_39 : zFl RX2 39 2 12 := ⟨zcI2.1, zcI2.2, by decide, zcU2, zcT2, zcN2, Or.inl (gi 236 rfl rfl)⟩
theorem zf_RX2_43 : zFl RX2 43 2 13 := ⟨zcI2.1, zcI2.2, by decide, zcU2, zcT2, zcN2, Or.inl (gi 238 rfl rfl)⟩
theorem zf_RX2_46 : zFl RX2 46 2 14 := ⟨zcI2.1, zcI2.2, by decide, zcU2, zcT2, zcN2, Or.inl (gi 239 rfl rfl)⟩
theorem zfl_RX2_46 : (Cond.fieldLink RX2 46 ((zcl 2).2.1 14).1 ((zcl 2).2.1 14).2.1 ((zcl 2).2.1 14).2.2.1) ∈ gtb := gi 239 rfl rfl
theorem zf_RX2_49 : zFl RX2 49 2 0 := ⟨zcI2.1, zcI2.2, by decide, zcU2, zcT2, zcN2, Or.inl (gi 218 rfl rfl)⟩
theorem zfl_RX2_49 : (Cond.fieldLink RX2 49 ((zcl 2).2.1 0).1 ((zcl 2).2.1 0).2.1 ((zcl 2).2.1 0).2.2.1) ∈ gtb := gi 218 rfl rfl
theorem zf_RX2_53 : zFl RX2 53 2 1 := ⟨zcI2.1, zcI2.2, by decide, zcU2, zcT2, zcN2, Or.inl (gi 219 rfl rfl)⟩
theorem zfl_RX2_53 : (Cond.fieldLink RX2 53 ((zcl 2).2.1 1).1 ((zcl 2).2.1 1).2.1 ((zcl 2).2.1 1).2.2.1) ∈ gtb := gi 219 rfl rfl
theorem zf_RX2_56 : zFl RX2 56 2 2 := ⟨zcI2.1, zcI2.2, by decide, zcU2, zcT2, zcN2, Or.inl (gi 220 rfl rfl)⟩
theorem zfl_RX2_56 : (Cond.fieldLink RX2 56 ((zcl 2).2.1 2).1 ((zcl 2).2.1 2).2.1 ((zcl 2).2.1 2).2.2.1) ∈ gtb := gi 220 rfl rfl
theorem zf_RX2_60 : zFl RX2 60 2 3 := ⟨zcI2.1, zcI2.2, by decide, zcU2, zcT2, zcN2, Or.inl (gi 221 rfl rfl)⟩
theorem zfl_RX2_60 : (Cond.fieldLink RX2 60 ((zcl 2).2.1 3).1 ((zcl 2).2.1 3).2.1 ((zcl 2).2.1 3).2.2.1) ∈ gtb := gi 221 rfl rfl
theorem zf_RX2_66 : zFl RX2 66 2 10 := ⟨zcI2.1, zcI2.2, by decide, zcU2, zcT2, zcN2, Or.inl (gi 234 rfl rfl)⟩
theorem zfl_RX2_66 : (Cond.fieldLink RX2 66 ((zcl 2).2.1 10).1 ((zcl 2).2.1 10).2.1 ((zcl 2).2.1 10).2.2.1) ∈ gtb := gi 234 rfl rfl
theorem zf_RX2_70 : zFl RX2 70 3 2 := ⟨zcI3.1, zcI3.2, by decide, zcU3, zcT3, zcN3, Or.inr ⟨"OmitMarkup", znw_in 132 rfl rfl⟩⟩
theorem zf_RX2_74 : zFl RX2 74 2 16 := ⟨zcI2.1, zcI2.2, by decide, zcU2, zcT2, zcN2, Or.inl (gi 241 rfl rfl)⟩
theorem zf_RX2_77 : zFl RX2 77 5 5 := ⟨zcI5.1, zcI5.2, by decide, zcU5, zcT5, zcN5, Or.inr ⟨"OmitMarkup", znw_in 169 rfl rfl⟩⟩
theorem zf_RX2_78 : zFl RX2 78 2 8 := ⟨zcI2.1, zcI2.2, by decide, zcU2, zcT2, zcN2, Or.inl (gi 230 rfl rfl)⟩
theorem zf_RX2_81 : zFl RX2 81 2 9 := ⟨zcI2.1, zcI2.2, by decide, zcU2, zcT2, zcN2, Or.inl (gi 232 rfl rfl)⟩
theorem zf_RX2_110 : zFl RX2 110 4 5 := ⟨zcI4.1, zcI4.2, by decide, zcU4, zcT4, zcN4, Or.inr ⟨"OmitMarkup", znw_in 204 rfl rfl⟩⟩
theorem zf_RX2_117 : zFl RX2 117 3 0 := ⟨zcI3.1, zcI3.2, by decide, zcU3, zcT3, zcN3, Or.inr ⟨"OmitMarkup", znw_in 129 rfl rfl⟩⟩
theorem zf_RX2_120 : zFl RX2 120 3 1 := ⟨zcI3.1, zcI3.2, by decide, zcU3, zcT3, zcN3, Or.inr ⟨"OmitMarkup", znw_in 131 rfl rfl⟩⟩
theorem zf_RX2_123 : zFl RX2 123 2 15 := ⟨zcI2.1, zcI2.2, by decide, zcU2, zcT2, zcN2, Or.inl (gi 240 rfl rfl)⟩
theorem zf_RX2_145 : zFl RX2 145 4 4 := ⟨zcI4.1, zcI4.2, by decide, zcU4, zcT4, zcN4, Or.inr ⟨"OmitMarkup", znw_in 202 rfl rfl⟩⟩
theorem zf_RX2_165 : zFl RX2 165 4 3 := ⟨zcI4.1, zcI4.2, by decide, zcU4, zcT4, zcN4, Or.inr ⟨"OmitMarkup", znw_in 199 rfl rfl⟩⟩
theorem zf_RX2_179 : zFl RX2 179 0 3 := ⟨zcI0.1, zcI0.2, by decide, zcU0, zcT0, zcN0, Or.inr ⟨"OmitMarkup", znw_in 105 rfl rfl⟩⟩
theorem zf_RX2_201 : zFl RX2 201 0 4 := ⟨zcI0.1, zcI0.2, by decide, zcU0, zcT0, zcN0, Or.inr ⟨"OmitMarkup", znw_in 110 rfl rfl⟩⟩
theorem zf_RX2_204 : zFl RX2 204 4 1 := ⟨zcI4.1, zcI4.2, by decide, zcU4, zcT4, zcN4, Or.inr ⟨"OmitMarkup", znw_in 196 rfl rfl⟩⟩
theorem zf_RX2_207 : zFl RX2 207 5 1 := ⟨zcI5.1, zcI5.2, by decide, zcU5, zcT5, zcN5, Or.inr ⟨"OmitMarkup", znw_in 159 rfl rfl⟩⟩
theorem zf_RX2_214 : zFl RX2 214 5 0 := ⟨zcI5.1, zcI5.2, by decide, zcU5, zcT5, zcN5, Or.inr ⟨"OmitMarkup", znw_in 156 rfl rfl⟩⟩
theorem zf_RX2_217 : zFl RX2 217 5 2 := ⟨zcI5.1, zcI5.2, by decide, zcU5, zcT5, zcN5, Or.inr ⟨"OmitMarkup", znw_in 162 rfl rfl⟩⟩
theorem zf_RX2_225 : zFl RX2 225 0 0 := ⟨zcI0.1, zcI0.2, by decide, zcU0, zcT0, zcN0, Or.inr ⟨"OmitMarkup", znw_in 96 rfl rfl⟩⟩
theorem zf_RX2_229 : zFl RX2 229 1 3 := ⟨zcI1.1, zcI1.2, by decide, zcU1, zcT1, zcN1, Or.inr ⟨"OmitMarkup", znw_in 69 rfl rfl⟩⟩
theorem zf_RX3_9 : zFl RX3 9 3 0 := ⟨zcI3.1, zcI3.2, by decide, zcU3, zcT3, zcN3, Or.inl (gi 128 rfl rfl)⟩
theorem zfl_RX3_9 : (Cond.fieldLink RX3 9 ((zcl 3).2.1 0).1 ((zcl 3).2.1 0).2.1 ((zcl 3).2.1 0).2.2.1) ∈ gtb := gi 128 rfl rfl
theorem zf_RX3_15 : zFl RX3 15 3 1 := ⟨zcI3.1, zcI3.2, by decide, zcU3, zcT3, zcN3, Or.inl (gi 130 rfl rfl)⟩
theorem zfl_RX3_15 : (Cond.fieldLink RX3 15 ((zcl 3).2.1 1).1 ((zcl 3).2.1 1).2.1 ((zcl 3).2.1 1).2.2.1) ∈ gtb := gi 130 rfl rfl
theorem zf_RX3_18 : zFl RX3 18 3 2 := ⟨zcI3.1, zcI3.2, by decide, zcU3, zcT3, zcN3, Or.inl (gi 133 rfl rfl)⟩
theorem zf_RX4_9 : zFl RX4 9 4 1 := ⟨zcI4.1, zcI4.2, by decide, zcU4, zcT4, zcN4, Or.inl (gi 195 rfl rfl)⟩
theorem zfl_RX4_9 : (Cond.fieldLink RX4 9 ((zcl 4).2.1 1).1 ((zcl 4).2.1 1).2.1 ((zcl 4).2.1 1).2.2.1) ∈ gtb := gi 195 rfl rfl
theorem zf_RX4_15 : zFl RX4 15 4 2 := ⟨zcI4.1, zcI4.2, by decide, zcU4, zcT4, zcN4, Or.inl (gi 197 rfl rfl)⟩
theorem zfl_RX4_15 : (Cond.fieldLink RX4 15 ((zcl 4).2.1 2).1 ((zcl 4).2.1 2).2.1 ((zcl 4).2.1 2).2.2.1) ∈ gtb := gi 197 rfl rfl
theorem zf_RX4_18 : zFl RX4 18 4 4 := ⟨zcI4.1, zcI4.2, by decide, zcU4, zcT4, zcN4, Or.inl (gi 201 rfl rfl)⟩
theorem zf_RX4_22 : zFl RX4 22 4 0 := ⟨zcI4.1, zcI4.2, by decide, zcU4, zcT4, zcN4, Or.inl (gi 194 rfl rfl)⟩
theorem zfl_RX4_22 : (Cond.fieldLink RX4 22 ((zcl 4).2.1 0).1 ((zcl 4).2.1 0).2.1 ((zcl 4).2.1 0).2.2.1) ∈ gtb := gi 194 rfl rfl
theorem zf_RX4_26 : zFl RX4 26 4 3 := ⟨zcI4.1, zcI4.2, by decide, zcU4, zcT4, zcN4, Or.inl (gi 198 rfl rfl)⟩
theorem zf_RX4_29 : zFl RX4 29 4 5 := ⟨zcI4.1, zcI4.2, by decide, zcU4, zcT4, zcN4, Or.inl (gi 203 rfl rfl)⟩
theorem zf_RX4_32 : zFl RX4 32 0 0 := ⟨zcI0.1, zcI0.2, by decide, zcU0, zcT0, zcN0, Or.inr ⟨"OmitMarkup", znw_in 95 rfl rfl⟩⟩
theorem zf_RX4_38 : zFl RX4 38 1 5 := ⟨zcI1.1, zcI1.2, by decide, zcU1, zcT1, zcN1, Or.inr ⟨"OmitMarkup", znw_in 73 rfl rfl⟩⟩
theorem zf_RX4_44 : zFl RX4 44 1 4 := ⟨zcI1.1, zcI1.2, by decide, zcU1, zcT1, zcN1, Or.inr ⟨"OmitMarkup", znw_in 71 rfl rfl⟩⟩
theorem zf_RX4_58 : zFl RX4 58 0 2 := ⟨zcI0.1, zcI0.2, by decide, zcU0, zcT0, zcN0, Or.inr ⟨"OmitMarkup", znw_in 102 rfl rfl⟩⟩
theorem zf_RX4_61 : zFl RX4 61 0 1 := ⟨zcI0.1, zcI0.2, by decide, zcU0, zcT0, zcN0, Or.inr ⟨"OmitMarkup", znw_in 99 rfl rfl⟩⟩
theorem zf_RX4_81 : zFl RX4 81 0 3 := ⟨zcI0.1, zcI0.2, by decide, zcU0, zcT0, zcN0, Or.inr ⟨"OmitMarkup", znw_in 106 rfl rfl⟩⟩
theorem zf_RX4_84 : zFl RX4 84 1 3 := ⟨zcI1.1, zcI1.2, by decide, zcU1, zcT1, zcN1, Or.inr ⟨"OmitMarkup", znw_in 68 rfl rfl⟩⟩
theorem zf_RX4_87 : zFl RX4 87 0 4 := ⟨zcI0.1, zcI0.2, by decide, zcU0, zcT0, zcN0, Or.inr ⟨"OmitMarkup", znw_in 109 rfl rfl⟩⟩
theorem zf_RX5_9 : zFl RX5 9 5 0 := ⟨zcI5.1, zcI5.2, by decide, zcU5, zcT5, zcN5, Or.inl (gi 155 rfl rfl)⟩
theorem zfl_RX5_9 : (Cond.fieldLink RX5 9 ((zcl 5).2.1 0).1 ((zcl 5).2.1 0).2.1 ((zcl 5).2.1 0).2.2.1) ∈ gtb := gi 155 rfl rfl
theorem zf_RX5_15 : zFl RX5 15 5 1 := ⟨zcI5.1, zcI5.2, by decide, zcU5, zcT5, zcN5, Or.inl (gi 158 rfl rfl)⟩
theorem zfl_RX5_15 : (Cond.fieldLink RX5 15 ((zcl 5).2.1 1).1 ((zcl 5).2.1 1).2.1 ((zcl 5).2.1 1).2.2.1) ∈ gtb := gi 158 rfl rfl
theorem zf_RX5_18 : zFl RX5 18 5 2 := ⟨zcI5.1, zcI5.2, by decide, zcU5, zcT5, zcN5, Or.inl (gi 161 rfl rfl)⟩
theorem zfl_RX5_18 : (Cond.fieldLink RX5 18 ((zcl 5).2.1 2).1 ((zcl 5).2.1 2).2.1 ((zcl 5).2.1 2).2.2.1) ∈ gtb := gi 161 rfl rfl
theorem zf_RX5_22 : zFl RX5 22 5 3 := ⟨zcI5.1, zcI5.2, by decide, zcU5, zcT5, zcN5, Or.inl (gi 164 rfl rfl)⟩
theorem zfl_RX5_22 : (Cond.fieldLink RX5 22 ((zcl 5).2.1 3).1 ((zcl 5).2.1 3).2.1 ((zcl 5).2.1 3).2.2.1) ∈ gtb := gi 164 rfl rfl
theorem zf_RX5_25 : zFl RX5 25 5 4 := ⟨zcI5.1, zcI5.2, by decide, zcU5, zcT5, zcN5, Or.inl (gi 166 rfl rfl)⟩
theorem zfl_RX5_25 : (Cond.fieldLink RX5 25 ((zcl 5).2.1 4).1 ((zcl 5).2.1 4).2.1 ((zcl 5).2.1 4).2.2.1) ∈ gtb := gi 166 rfl rfl
theorem zf_RX5_29 : zFl RX5 29 5 5 := ⟨zcI5.1, zcI5.2, by decide, zcU5, zcT5, zcN5, Or.inl (gi 168 rfl rfl)⟩
theorem zf_RX6_11 : zFl RX6 11 6 2 := ⟨zcI6.1, zcI6.2, by decide, zcU6, zcT6, zcN6, Or.inl (gi 288 rfl rfl)⟩
theorem zfl_RX6_11 : (Cond.fieldLink RX6 11 ((zcl 6).2.1 2).1 ((zcl 6).2.1 2).2.1 ((zcl 6).2.1 2).2.2.1) ∈ gtb := gi 288 rfl rfl
theorem zf_RX6_17 : zFl RX6 17 6 0 := ⟨zcI6.1, zcI6.2, by decide, zcU6, zcT6, zcN6, Or.inl (gi 286 rfl rfl)⟩
theorem zfl_RX6_17 : (Cond.fieldLink RX6 17 ((zcl 6).2.1 0).1 ((zcl 6).2.1 0).2.1 ((zcl 6).2.1 0).2.2.1) ∈ gtb := gi 286 rfl rfl
theorem zf_RX6_21 : zFl RX6 21 6 1 := ⟨zcI6.1, zcI6.2, by decide, zcU6, zcT6, zcN6, Or.inl (gi 287 rfl rfl)⟩
theorem zfl_RX6_21 : (Cond.fieldLink RX6 21 ((zcl 6).2.1 1).1 ((zcl 6).2.1 1).2.1 ((zcl 6).2.1 1).2.2.1) ∈ gtb := gi 287 rfl rfl
theorem zf_RX7_12 : zFl RX7 12 7 0 := ⟨zcI7.1, zcI7.2, by decide, zcU7, zcT7, zcN7, Or.inl (gi 298 rfl rfl)⟩
theorem zfl_RX7_12 : (Cond.fieldLink RX7 12 ((zcl 7).2.1 0).1 ((zcl 7).2.1 0).2.1 ((zcl 7).2.1 0).2.2.1) ∈ gtb := gi 298 rfl rfl
theorem zf_RX7_21 : zFl RX7 21 7 1 := ⟨zcI7.1, zcI7.2, by decide, zcU7, zcT7, zcN7, Or.inl (gi 299 rfl rfl)⟩
theorem zfl_RX7_21 : (Cond.fieldLink RX7 21 ((zcl 7).2.1 1).1 ((zcl 7).2.1 1).2.1 ((zcl 7).2.1 1).2.2.1) ∈ gtb := gi 299 rfl rfl
theorem zf_RX7_25 : zFl RX7 25 7 2 := ⟨zcI7.1, zcI7.2, by decide, zcU7, zcT7, zcN7, Or.inl (gi 300 rfl rfl)⟩
theorem zfl_RX7_25 : (Cond.fieldLink RX7 25 ((zcl 7).2.1 2).1 ((zcl 7).2.1 2).2.1 ((zcl 7).2.1 2).2.2.1) ∈ gtb := gi 300 rfl rfl
theorem zf_RX7_29 : zFl RX7 29 7 3 := ⟨zcI7.1, zcI7.2, by decide, zcU7, zcT7, zcN7, Or.inl (gi 301 rfl rfl)⟩
theorem zfl_RX7_29 : (Cond.fieldLink RX7 29 ((zcl 7).2.1 3).1 ((zcl 7).2.1 3).2.1 ((zcl 7).2.1 3).2.2.1) ∈ gtb := gi 301 rfl rfl
theorem zf_RX7_38 : zFl RX7 38 7 4 := ⟨zcI7.1, zcI7.2, by decide, zcU7, zcT7, zcN7, Or.inl (gi 302 rfl rfl)⟩
theorem zfl_RX7_38 : (Cond.fieldLink RX7 38 ((zcl 7).2.1 4).1 ((zcl 7).2.1 4).2.1 ((zcl 7).2.1 4).2.2.1) ∈ gtb := gi 302 rfl rfl
theorem zf_RX7_47 : zFl RX7 47 7 5 := ⟨zcI7.1, zcI7.2, by decide, zcU7, zcT7, zcN7, Or.inl (gi 303 rfl rfl)⟩
theorem zfl_RX7_47 : (Cond.fieldLink RX7 47 ((zcl 7).2.1 5).1 ((zcl 7).2.1 5).2.1 ((zcl 7).2.1 5).2.2.1) ∈ gtb := gi 303 rfl rfl
theorem zf_RX7_62 : zFl RX7 62 0 0 := ⟨zcI0.1, zcI0.2, by decide, zcU0, zcT0, zcN0, Or.inr ⟨"OmitMarkup", znw_in 94 rfl rfl⟩⟩
theorem zf_RX7_66 : zFl RX7 66 1 3 := ⟨zcI1.1, zcI1.2, by decide, zcU1, zcT1, zcN1, Or.inr ⟨"OmitMarkup", znw_in 67 rfl rfl⟩⟩
theorem zf_RX7_80 : zFl RX7 80 1 6 := ⟨zcI1.1, zcI1.2, by decide, zcU1, zcT1, zcN1, Or.inr ⟨"OmitMarkup", znw_in 74 rfl rfl⟩⟩
theorem zf_RX7_98 : zFl RX7 98 0 1 := ⟨zcI0.1, zcI0.2, by decide, zcU0, zcT0, zcN0, Or.inr ⟨"OmitMarkup", znw_in 98 rfl rfl⟩⟩
theorem zf_RX7_101 : zFl RX7 101 0 2 := ⟨zcI0.1, zcI0.2, by decide, zcU0, zcT0, zcN0, Or.inr ⟨"OmitMarkup", znw_in 101 rfl rfl⟩⟩
theorem zf_RX7_104 : zFl RX7 104 0 3 := ⟨zcI0.1, zcI0.2, by decide, zcU0, zcT0, zcN0, Or.inr ⟨"OmitMarkup", znw_in 104 rfl rfl⟩⟩
theorem zf_RX7_108 : zFl RX7 108 0 4 := ⟨zcI0.1, zcI0.2, by decide, zcU0, zcT0, zcN0, Or.inr ⟨"OmitMarkup", znw_in 108 rfl rfl⟩⟩
theorem zf_RX7_114 : zFl RX7 114 3 2 := ⟨zcI3.1, zcI3.2, by decide, zcU3, zcT3, zcN3, Or.inr ⟨"OmitMarkup", znw_in 134 rfl rfl⟩⟩
theorem zf_RX7_142 : zFl RX7 142 2 16 := ⟨zcI2.1, zcI2.2, by decide, zcU2, zcT2, zcN2, Or.inr ⟨"OmitMarkup", znw_in 242 rfl rfl⟩⟩
theorem zf_RX7_145 : zFl RX7 145 2 12 := ⟨zcI2.1, zcI2.2, by decide, zcU2, zcT2, zcN2, Or.inr ⟨"OmitMarkup", znw_in 237 rfl rfl⟩⟩
theorem zf_RX7_149 : zFl RX7 149 4 3 := ⟨zcI4.1, zcI4.2, by decide, zcU4, zcT4, zcN4, Or.inr ⟨"OmitMarkup", znw_in 200 rfl rfl⟩⟩
theorem zf_RX7_161 : zFl RX7 161 2 4 := ⟨zcI2.1, zcI2.2, by decide, zcU2, zcT2, zcN2, Or.inr ⟨"OmitMarkup", znw_in 223 rfl rfl⟩⟩
theorem zf_RX7_165 : zFl RX7 165 5 5 := ⟨zcI5.1, zcI5.2, by decide, zcU5, zcT5, zcN5, Or.inr ⟨"OmitMarkup", znw_in 170 rfl rfl⟩⟩
theorem zf_RX7_168 : zFl RX7 168 5 0 := ⟨zcI5.1, zcI5.2, by decide, zcU5, zcT5, zcN5, Or.inr ⟨"OmitMarkup", znw_in 157 rfl rfl⟩⟩
theorem zf_RX7_171 : zFl RX7 171 5 1 := ⟨zcI5.1, zcI5.2, by decide, zcU5, zcT5, zcN5, Or.inr ⟨"OmitMarkup", znw_in 160 rfl rfl⟩⟩
theorem zf_RX7_174 : zFl RX7 174 5 2 := ⟨zcI5.1, zcI5.2, by decide, zcU5, zcT5, zcN5, Or.inr ⟨"OmitMarkup", znw_in 163 rfl rfl⟩⟩
theorem zf_RX7_178 : zFl RX7 178 5 3 := ⟨zcI5.1, zcI5.2, by decide, zcU5, zcT5, zcN5, Or.inr ⟨"OmitMarkup", znw_in 165 rfl rfl⟩⟩
theorem zf_RX7_181 : zFl RX7 181 5 4 := ⟨zcI5.1, zcI5.2, by decide, zcU5, zcT5, zcN5, Or.inr ⟨"OmitMarkup", znw_in 167 rfl rfl⟩⟩
theorem zf_RX7_184 : zFl RX7 184 2 9 := ⟨zcI2.1, zcI2.2, by decide, zcU2, zcT2, zcN2, Or.inr ⟨"OmitMarkup", znw_in 233 rfl rfl⟩⟩
theorem zf_RX7_187 : zFl RX7 187 2 8 := ⟨zcI2.1, zcI2.2, by decide, zcU2, zcT2, zcN2, Or.inr ⟨"OmitMarkup", znw_in 231 rfl rfl⟩⟩
theorem zf_RX7_190 : zFl RX7 190 2 6 := ⟨zcI2.1, zcI2.2, by decide, zcU2, zcT2, zcN2, Or.inr ⟨"OmitMarkup", znw_in 227 rfl rfl⟩⟩
theorem zf_RX7_193 : zFl RX7 193 2 7 := ⟨zcI2.1, zcI2.2, by decide, zcU2, zcT2, zcN2, Or.inr ⟨"OmitMarkup", znw_in 229 rfl rfl⟩⟩
theorem zf_RX7_133 : zFl RX7 133 2 5 := ⟨zcI2.1, zcI2.2, by decide, zcU2, zcT2, zcN2, Or.inr ⟨"OmitMarkup", znw_in 225 rfl rfl⟩⟩
theorem zm_yX0_init : zMd yX0_init cX0_init 2 none 0 := ⟨gi 54 rfl rfl, gi 19 rfl rfl, by decide +kernel, by decide⟩
theorem zi_yX0_init : (Cond.instanceMethod yX0_init) ∈ gtb := gi 53 rfl rfl
theorem zp_yX0_init : plainName yX0_init.cls = true := by decide +kernel
theorem zm_yX1_init : zMd yX1_init cX1_init 1 none 0 := ⟨gi 61 rfl rfl, gi 20 rfl rfl, by decide +kernel, by decide⟩
theorem zi_yX1_init : (Cond.instanceMethod yX1_init) ∈ gtb := gi 60 rfl rfl
theorem zp_yX1_init : plainName yX1_init.cls = true := by decide +kernel
theorem zm_yX1_addSlot : zMd yX1_addSlot cX1_addSlot 3 none 2 := ⟨gi 729 rfl rfl, gi 20 rfl rfl, by decide +kernel, by decide⟩
theorem zi_yX1_addSlot : (Cond.instanceMethod yX1_addSlot) ∈ gtb := gi 727 rfl rfl
theorem ze_yX1_addSlot : (Cond.selects (zcl 1).1 yX1_addSlot yX1_addSlot) ∈ gtb := gi 728 rfl rfl
theorem zp_yX1_addSlot : plainName yX1_addSlot.cls = true := by decide +kernel
theorem zm_yX1_dropLastSlot : zMd yX1_dropLastSlot cX1_dropLastSlot 1 none 0 := ⟨gi 742 rfl rfl, gi 20 rfl rfl, by decide +kernel, by decide⟩
theorem zi_yX1_dropLastSlot : (Cond.instanceMethod yX1_dropLastSlot) ∈ gtb := gi 740 rfl rfl
theorem ze_yX1_dropLastSlot : (Cond.selects (zcl 1).1 yX1_dropLastSlot yX1_dropLastSlot) ∈ gtb := gi 741 rfl rfl
theorem zp_yX1_dropLastSlot : plainName yX1_dropLastSlot.cls = true := by decide +kernel
theorem zm_yX1_dropSlots : zMd yX1_dropSlots cX1_dropSlots 1 none 0 := ⟨gi 702 rfl rfl, gi 20 rfl rfl, by decide +kernel, by decide⟩
theorem zi_yX1_dropSlots : (Cond.instanceMethod yX1_dropSlots) ∈ gtb := gi 700 rfl rfl
theorem ze_yX1_dropSlots : (Cond.selects (zcl 1).1 yX1_dropSlots yX1_dropSlots) ∈ gtb := gi 701 rfl rfl
theorem zp_yX1_dropSlots : plainName yX1_dropSlots.cls = true := by decide +kernel
theorem zm_yX1_slotFor : zMd yX1_slotFor cX1_slotFor 5 (some .int) 2 := ⟨gi 364 rfl rfl, gi 20 rfl rfl, by decide +kernel, by decide⟩
theorem zi_yX1_slotFor : (Cond.instanceMethod yX1_slotFor) ∈ gtb := gi 362 rfl rfl
theorem ze_yX1_slotFor : (Cond.selects (zcl 1).1 yX1_slotFor yX1_slotFor) ∈ gtb := gi 363 rfl rfl
theorem zp_yX1_slotFor : plainName yX1_slotFor.cls = true := by decide +kernel
theorem zm_yX1_workOut : zMd yX1_workOut cX1_workOut 2 none 0 := ⟨gi 733 rfl rfl, gi 20 rfl rfl, by decide +kernel, by decide⟩
theorem zi_yX1_workOut : (Cond.instanceMethod yX1_workOut) ∈ gtb := gi 732 rfl rfl
theorem ze_yX1_workOut : (Cond.selects (zcl 1).1 yX1_workOut yX1_workOut) ∈ gtb := gi 15 rfl rfl
theorem zp_yX1_workOut : plainName yX1_workOut.cls = true := by decide +kernel
theorem zm_yX1_workOutReach : zMd yX1_workOutReach cX1_workOutReach 7 none 1 := ⟨gi 737 rfl rfl, gi 20 rfl rfl, by decide +kernel, by decide⟩
theorem zi_yX1_workOutReach : (Cond.instanceMethod yX1_workOutReach) ∈ gtb := gi 736 rfl rfl
theorem ze_yX1_workOutReach : (Cond.selects (zcl 1).1 yX1_workOutReach yX1_workOutReach) ∈ gtb := gi 16 rfl rfl
theorem zp_yX1_workOutReach : plainName yX1_workOutReach.cls = true := by decide +kernel
theorem zm_yX2_init : zMd yX2_init cX2_init 6 none 4 := ⟨gi 147 rfl rfl, gi 22 rfl rfl, by decide +kernel, by decide⟩
theorem zi_yX2_init : (Cond.instanceMethod yX2_init) ∈ gtb := gi 146 rfl rfl
theorem zp_yX2_init : plainName yX2_init.cls = true := by decide +kernel
theorem zm_yX2_readText : zMd yX2_readText cX2_readText 2 none 0 := ⟨gi 560 rfl rfl, gi 22 rfl rfl, by decide +kernel, by decide⟩
theorem zi_yX2_readText : (Cond.instanceMethod yX2_readText) ∈ gtb := gi 558 rfl rfl
theorem ze_yX2_readText : (Cond.selects (zcl 2).1 yX2_readText yX2_readText) ∈ gtb := gi 559 rfl rfl
theorem zp_yX2_readText : plainName yX2_readText.cls = true := by decide +kernel
theorem zm_yX2_countReadAnew : zMd yX2_countReadAnew cX2_countReadAnew 6 none 3 := ⟨gi 658 rfl rfl, gi 22 rfl rfl, by decide +kernel, by decide⟩
theorem zi_yX2_countReadAnew : (Cond.instanceMethod yX2_countReadAnew) ∈ gtb := gi 656 rfl rfl
theorem ze_yX2_countReadAnew : (Cond.selects (zcl 2).1 yX2_countReadAnew yX2_countReadAnew) ∈ gtb := gi 657 rfl rfl
theorem zp_yX2_countReadAnew : plainName yX2_countReadAnew.cls = true := by decide +kernel
theorem zm_yX2_isAsBefore : zMd yX2_isAsBefore cX2_isAsBefore 3 (some .boolean) 2 := ⟨gi 662 rfl rfl, gi 22 rfl rfl, by decide +kernel, by decide⟩
theorem zi_yX2_isAsBefore : (Cond.instanceMethod yX2_isAsBefore) ∈ gtb := gi 661 rfl rfl
theorem ze_yX2_isAsBefore : (Cond.selects (zcl 2).1 yX2_isAsBefore yX2_isAsBefore) ∈ gtb := gi 14 rfl rfl
theorem zp_yX2_isAsBefore : plainName yX2_isAsBefore.cls = true := by decide +kernel
theorem zm_yX2_goThrough : zMd yX2_goThrough cX2_goThrough 9 none 2 := ⟨gi 568 rfl rfl, gi 22 rfl rfl, by decide +kernel, by decide⟩
theorem zi_yX2_goThrough : (Cond.instanceMethod yX2_goThrough) ∈ gtb := gi 567 rfl rfl
theorem ze_yX2_goThrough : (Cond.selects (zcl 2).1 yX2_goThrough yX2_goThrough) ∈ gtb := gi 3 rfl rfl
theorem zp_yX2_goThrough : plainName yX2_goThrough.cls = true := by decide +kernel
theorem zm_yX2_plainLetter : zMd yX2_plainLetter cX2_plainLetter 2 (some .char) 2 := ⟨gi 571 rfl rfl, gi 22 rfl rfl, by decide +kernel, by decide⟩
theorem zs_yX2_plainLetter : (Cond.static yX2_plainLetter) ∈ gtb := gi 570 rfl rfl
theorem zp_yX2_plainLetter : plainName yX2_plainLetter.cls = true := by decide +kernel
theorem zm_yX2_keepState : zMd yX2_keepState cX2_keepState 3 none 2 := ⟨gi 645 rfl rfl, gi 22 rfl rfl, by decide +kernel, by decide⟩
end
