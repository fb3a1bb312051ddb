theorem gi {w : Cond} (i : Nat) (h : lw_tbl[i]? = some w) (g : goodWord w = true) : w ∈ gtb := gtb_in (List.mem_of_getElem? h) g
theorem zcI0 : vwCl[0]? = some (zcl 0) ∧ 0 < 100 := ⟨rfl, by decide⟩
set_option maxRecDepth 100000 in
theorem zcU0 : ∀ w ∈ u_ws (zcl 0).1 (zcl 0).2.1 (zcl 0).2.2, w ∈ gtb := by
  have h : ∀ i, i < 5 → lw_tbl[([149, 151, 153, 155, 157] : List Nat).getD i 0]? = some (u_lay (zcl 0).1 (zcl 0).2.1 i) ∧ goodWord (u_lay (zcl 0).1 (zcl 0).2.1 i) = true := by decide +kernel
  intro w hw
  obtain ⟨i, hi, rfl⟩ := List.mem_map.mp hw
  exact gi _ (h i (List.mem_range.mp hi)).1 (h i (List.mem_range.mp hi)).2
theorem zcT0 : ∀ j, j < (zcl 0).2.2 → parseFieldDescriptor ((zcl 0).2.1 j).2.2.1 = some (zty 0 j) := tyX0_ok
theorem zcN0 : ∀ a, a < (zcl 0).2.2 → ∀ b, b < (zcl 0).2.2 → a ≠ b → ((zcl 0).2.1 a).2.1 ≠ ((zcl 0).2.1 b).2.1 := nmX0
theorem zcD0 : ∀ j, j < (zcl 0).2.2 → defaultValue (zty 0 j) = if zrt (zty 0 j) = true then .null else .int 0 := by decide +kernel
theorem zcV0 : (Cond.instantiable (zcl 0).1 (zcl 0).2.2) ∈ gtb := gi 87 (by decide +kernel) rfl
theorem zcK0 : (Cond.initialized (zcl 0).1) ∈ gtb := gi 63 (by decide +kernel) rfl
theorem zcI1 : vwCl[1]? = some (zcl 1) ∧ 1 < 100 := ⟨rfl, by decide⟩
set_option maxRecDepth 100000 in
theorem zcU1 : ∀ w ∈ u_ws (zcl 1).1 (zcl 1).2.1 (zcl 1).2.2, w ∈ gtb := by
  have h : ∀ i, i < 7 → lw_tbl[([112, 114, 116, 118, 120, 122, 124] : List Nat).getD i 0]? = some (u_lay (zcl 1).1 (zcl 1).2.1 i) ∧ goodWord (u_lay (zcl 1).1 (zcl 1).2.1 i) = true := by decide +kernel
  intro w hw
  obtain ⟨i, hi, rfl⟩ := List.mem_map.mp hw
  exact gi _ (h i (List.mem_range.mp hi)).1 (h i (List.mem_range.mp hi)).2
theorem zcT1 : ∀ j, j < (zcl 1).2.2 → parseFieldDescriptor ((zcl 1).2.1 j).2.2.1 = some (zty 1 j) := tyX1_ok
theorem zcN1 : ∀ a, a < (zcl 1).2.2 → ∀ b, b < (zcl 1).2.2 → a ≠ b → ((zcl 1).2.1 a).2.1 ≠ ((zcl 1).2.1 b).2.1 := nmX1
theorem zcD1 : ∀ j, j < (zcl 1).2.2 → defaultValue (zty 1 j) = if zrt (zty 1 j) = true then .null else .int 0 := by decide +kernel
theorem zcV1 : (Cond.instantiable (zcl 1).1 (zcl 1).2.2) ∈ gtb := gi 94 (by decide +kernel) rfl
theorem zcK1 : (Cond.initialized (zcl 1).1) ∈ gtb := gi 64 (by decide +kernel) rfl
theorem zcI2 : vwCl[2]? = some (zcl 2) ∧ 2 < 100 := ⟨rfl, by decide⟩
set_option maxRecDepth 100000 in
theorem zcU2 : ∀ w ∈ u_ws (zcl 2).1 (zcl 2).2.1 (zcl 2).2.2, w ∈ gtb := by
  have h : ∀ i, i < 17 → lw_tbl[([287, 289, 291, 293, 295, 297, 299, 301, 303, 305, 307, 309, 311, 313, 315, 317, 319] : List Nat).getD i 0]? = some (u_lay (zcl 2).1 (zcl 2).2.1 i) ∧ goodWord (u_lay (zcl 2).1 (zcl 2).2.1 i) = true := by decide +kernel
  intro w hw
  obtain ⟨i, hi, rfl⟩ := List.mem_map.mp hw
  exact gi _ (h i (List.mem_range.mp hi)).1 (h i (List.mem_range.mp hi)).2
theorem zcT2 : ∀ j, j < (zcl 2).2.2 → parseFieldDescriptor ((zcl 2).2.1 j).2.2.1 = some (zty 2 j) := tyX2_ok
theorem zcN2 : ∀ a, a < (zcl 2).2.2 → ∀ b, b < (zcl 2).2.2 → a ≠ b → ((zcl 2).2.1 a).2.1 ≠ ((zcl 2).2.1 b).2.1 := nmX2
theorem zcD2 : ∀ j, j < (zcl 2).2.2 → defaultValue (zty 2 j) = if zrt (zty 2 j) = true then .null else .int 0 := by decide +kernel
theorem zcV2 : (Cond.instantiable (zcl 2).1 (zcl 2).2.2) ∈ gtb := gi 187 (by decide +kernel) rfl
theorem zcK2 : (Cond.initialized (zcl 2).1) ∈ gtb := gi 66 (by decide +kernel) rfl
theorem zcI3 : vwCl[3]? = some (zcl 3) ∧ 3 < 100 := ⟨rfl, by decide⟩
set_option maxRecDepth 100000 in
theorem zcU3 : ∀ w ∈ u_ws (zcl 3).1 (zcl 3).2.1 (zcl 3).2.2, w ∈ gtb := by
  have h : ∀ i, i < 3 → lw_tbl[([178, 180, 182] : List Nat).getD i 0]? = some (u_lay (zcl 3).1 (zcl 3).2.1 i) ∧ goodWord (u_lay (zcl 3).1 (zcl 3).2.1 i) = true := by decide +kernel
  intro w hw
  obtain ⟨i, hi, rfl⟩ := List.mem_map.mp hw
  exact gi _ (h i (List.mem_range.mp hi)).1 (h i (List.mem_range.mp hi)).2
theorem zcT3 : ∀ j, j < (zcl 3).2.2 → parseFieldDescriptor ((zcl 3).2.1 j).2.2.1 = some (zty 3 j) := tyX3_ok
theorem zcN3 : ∀ a, a < (zcl 3).2.2 → ∀ b, b < (zcl 3).2.2 → a ≠ b → ((zcl 3).2.1 a).2.1 ≠ ((zcl 3).2.1 b).2.1 := nmX3
theorem zcD3 : ∀ j, j < (zcl 3).2.2 → defaultValue (zty 3 j) = if zrt (zty 3 j) = true then .null else .int 0 := by decide +kernel
theorem zcV3 : (Cond.instantiable (zcl 3).1 (zcl 3).2.2) ∈ gtb := gi 161 (by decide +kernel) rfl
theorem zcK3 : (Cond.initialized (zcl 3).1) ∈ gtb := gi 65 (by decide +kernel) rfl
theorem zcI4 : vwCl[4]? = some (zcl 4) ∧ 4 < 100 := ⟨rfl, by decide⟩
set_option maxRecDepth 100000 in
theorem zcU4 : ∀ w ∈ u_ws (zcl 4).1 (zcl 4).2.1 (zcl 4).2.2, w ∈ gtb := by
  have h : ∀ i, i < 6 → lw_tbl[([249, 251, 253, 255, 257, 259] : List Nat).getD i 0]? = some (u_lay (zcl 4).1 (zcl 4).2.1 i) ∧ goodWord (u_lay (zcl 4).1 (zcl 4).2.1 i) = true := by decide +kernel
  intro w hw
  obtain ⟨i, hi, rfl⟩ := List.mem_map.mp hw
  exact gi _ (h i (List.mem_range.mp hi)).1 (h i (List.mem_range.mp hi)).2
theorem zcT4 : ∀ j, j < (zcl 4).2.2 → parseFieldDescriptor ((zcl 4).2.1 j).2.2.1 = some (zty 4 j) := tyX4_ok
theorem zcN4 : ∀ a, a < (zcl 4).2.2 → ∀ b, b < (zcl 4).2.2 → a ≠ b → ((zcl 4).2.1 a).2.1 ≠ ((zcl 4).2.1 b).2.1 := nmX4
theorem zcD4 : ∀ j, j < (zcl 4).2.2 → defaultValue (zty 4 j) = if zrt (zty 4 j) = true then .null else .int 0 := by decide +kernel
theorem zcV4 : (Cond.instantiable (zcl 4).1 (zcl 4).2.2) ∈ gtb := gi 232 (by decide +kernel) rfl
theorem zcK4 : (Cond.initialized (zcl 4).1) ∈ gtb := gi 68 (by decide +kernel) rfl
theorem zcI5 : vwCl[5]? = some (zcl 5) ∧ 5 < 100 := ⟨rfl, by decide⟩
set_option maxRecDepth 100000 in
theorem zcU5 : ∀ w ∈ u_ws (zcl 5).1 (zcl 5).2.1 (zcl 5).2.2, w ∈ gtb := by
  have h : ∀ i, i < 6 → lw_tbl[([214, 216, 218, 220, 222, 224] : List Nat).getD i 0]? = some (u_lay (zcl 5).1 (zcl 5).2.1 i) ∧ goodWord (u_lay (zcl 5).1 (zcl 5).2.1 i) = true := by decide +kernel
  intro w hw
  obtain ⟨i, hi, rfl⟩ := List.mem_map.mp hw
  exact gi _ (h i (List.mem_range.mp hi)).1 (h i (List.mem_range.mp hi)).2
theorem zcT5 : ∀ j, j < (zcl 5).2.2 → parseFieldDescriptor ((zcl 5).2.1 j).2.2.1 = some (zty 5 j) := tyX5_ok
theorem zcN5 : ∀ a, a < (zcl 5).2.2 → ∀ b, b < (zcl 5).2.2 → a ≠ b → ((zcl 5).2.1 a).2.1 ≠ ((zcl 5).2.1 b).2.1 := nmX5
theorem zcD5 : ∀ j, j < (zcl 5).2.2 → defaultValue (zty 5 j) = if zrt (zty 5 j) = true then .null else .int 0 := by decide +kernel
theorem zcV5 : (Cond.instantiable (zcl 5).1 (zcl 5).2.2) ∈ gtb := gi 193 (by decide +kernel) rfl
theorem zcK5 : (Cond.initialized (zcl 5).1) ∈ gtb := gi 67 (by decide +kernel) rfl
theorem zcI6 : vwCl[6]? = some (zcl 6) ∧ 6 < 100 := ⟨rfl, by decide⟩
set_option maxRecDepth 100000 in
theorem zcU6 : ∀ w ∈ u_ws (zcl 6).1 (zcl 6).2.1 (zcl 6).2.2, w ∈ gtb := by
  have h : ∀ i, i < 4 → lw_tbl[([334, 336, 338, 340] : List Nat).getD i 0]? = some (u_lay (zcl 6).1 (zcl 6).2.1 i) ∧ goodWord (u_lay (zcl 6).1 (zcl 6).2.1 i) = true := by decide +kernel
  intro w hw
  obtain ⟨i, hi, rfl⟩ := List.mem_map.mp hw
  exact gi _ (h i (List.mem_range.mp hi)).1 (h i (List.mem_range.mp hi)).2
theorem zcT6 : ∀ j, j < (zcl 6).2.2 → parseFieldDescriptor ((zcl 6).2.1 j).2.2.1 = some (zty 6 j) := tyX6_ok
theorem zcN6 : ∀ a, a < (zcl 6).2.2 → ∀ b, b < (zcl 6).2.2 → a ≠ b → ((zcl 6).2.1 a).2.1 ≠ ((zcl 6).2.1 b).2.1 := nmX6
theorem zcD6 : ∀ j, j < (zcl 6).2.2 → defaultValue (zty 6 j) = if zrt (zty 6 j) = true then .null else .int 0 := by decide +kernel
theorem zcV6 : (Cond.instantiable (zcl 6).1 (zcl 6).2.2) ∈ gtb := gi 323 (by decide +kernel) rfl
theorem zcK6 : (Cond.initialized (zcl 6).1) ∈ gtb := gi 69 (by decide +kernel) rfl
theorem zcI7 : vwCl[7]? = some (zcl 7) ∧ 7 < 100 := ⟨rfl, by decide⟩
set_option maxRecDepth 100000 in
theorem zcU7 : ∀ w ∈ u_ws (zcl 7).1 (zcl 7).2.1 (zcl 7).2.2, w ∈ gtb := by
  have h : ∀ i, i < 6 → lw_tbl[([349, 351, 353, 355, 357, 359] : List Nat).getD i 0]? = some (u_lay (zcl 7).1 (zcl 7).2.1 i) ∧ goodWord (u_lay (zcl 7).1 (zcl 7).2.1 i) = true := by decide +kernel
  intro w hw
  obtain ⟨i, hi, rfl⟩ := List.mem_map.mp hw
  exact gi _ (h i (List.mem_range.mp hi)).1 (h i (List.mem_range.mp hi)).2
theorem zcT7 : ∀ j, j < (zcl 7).2.2 → parseFieldDescriptor ((zcl 7).2.1 j).2.2.1 = some (zty 7 j) := tyX7_ok
theorem zcN7 : ∀ a, a < (zcl 7).2.2 → ∀ b, b < (zcl 7).2.2 → a ≠ b → ((zcl 7).2.1 a).2.1 ≠ ((zcl 7).2.1 b).2.1 := nmX7
theorem zcD7 : ∀ j, j < (zcl 7).2.2 → defaultValue (zty 7 j) = if zrt (zty 7 j) = true then .null else .int 0 := by decide +kernel
theorem zcV7 : (Cond.instantiable (zcl 7).1 (zcl 7).2.2) ∈ gtb := gi 79 (by decide +kernel) rfl
theorem zcK7 : (Cond.initialized (zcl 7).1) ∈ gtb := gi 62 (by decide +kernel) rfl
theorem zcI8 : vwCl[8]? = some (zcl 8) ∧ 8 < 100 := ⟨rfl, by decide⟩
set_option maxRecDepth 100000 in
theorem zcU8 : ∀ w ∈ u_ws (zcl 8).1 (zcl 8).2.1 (zcl 8).2.2, w ∈ gtb := by
  have h : ∀ i, i < 57 → lw_tbl[([1050, 1052, 1054, 1056, 1058, 1060, 1062, 1064, 1066, 1068, 1070, 1072, 1074, 1076, 1078, 1080, 1082, 1084, 1086, 1088, 1090, 1092, 1094, 1096, 1098, 1100, 1102, 1104, 1106, 1108, 1110, 1112, 1114, 1116, 1118, 1120, 1122, 1124, 1126, 1128, 1130, 1132, 1134, 1136, 1138, 1140, 1142, 1144, 1146, 1148, 1150, 1152, 1154, 1156, 1158, 1160, 1162] : List Nat).getD i 0]? = some (u_lay (zcl 8).1 (zcl 8).2.1 i) ∧ goodWord (u_lay (zcl 8).1 (zcl 8).2.1 i) = true := by decide +kernel
  intro w hw
  obtain ⟨i, hi, rfl⟩ := List.mem_map.mp hw
  exact gi _ (h i (List.mem_range.mp hi)).1 (h i (List.mem_range.mp hi)).2
theorem zcT8 : ∀ j, j < (zcl 8).2.2 → parseFieldDescriptor ((zcl 8).2.1 j).2.2.1 = some (zty 8 j) := tyX8_ok
theorem zcN8 : ∀ a, a < (zcl 8).2.2 → ∀ b, b < (zcl 8).2.2 → a ≠ b → ((zcl 8).2.1 a).2.1 ≠ ((zcl 8).2.1 b).2.1 := nmX8
theorem zcD8 : ∀ j, j < (zcl 8).2.2 → defaultValue (zty 8 j) = if zrt (zty 8 j) = true then .null else .int 0 := by decide +kernel
theorem zcV8 : (Cond.instantiable (zcl 8).1 (zcl 8).2.2) ∈ gtb := gi 877 (by decide +kernel) rfl
theorem zcK8 : (Cond.initialized (zcl 8).1) ∈ gtb := gi 70 (by decide +kernel) rfl
theorem zf_RX0_11 : zFl RX0 11 0 0 := ⟨zcI0.1, zcI0.2, by decide, zcU0, zcT0, zcN0, Or.inl (gi 129 (by decide +kernel) rfl)⟩
theorem zfl_RX0_11 : (Cond.fieldLink RX0 11 ((zcl 0).2.1 0).1 ((zcl 0).2.1 0).2.1 ((zcl 0).2.1 0).2.2.1) ∈ gtb := gi 129 (by decide +kernel) rfl
theorem zf_RX0_17 : zFl RX0 17 0 1 := ⟨zcI0.1, zcI0.2, by decide, zcU0, zcT0, zcN0, Or.inl (gi 133 (by decide +kernel) rfl)⟩
theorem zfl_RX0_17 : (Cond.fieldLink RX0 17 ((zcl 0).2.1 1).1 ((zcl 0).2.1 1).2.1 ((zcl 0).2.1 1).2.2.1) ∈ gtb := gi 133 (by decide +kernel) rfl
theorem zf_RX0_21 : zFl RX0 21 0 2 := ⟨zcI0.1, zcI0.2, by decide, zcU0, zcT0, zcN0, Or.inl (gi 136 (by decide +kernel) rfl)⟩
theorem zfl_RX0_21 : (Cond.fieldLink RX0 21 ((zcl 0).2.1 2).1 ((zcl 0).2.1 2).2.1 ((zcl 0).2.1 2).2.2.1) ∈ gtb := gi 136 (by decide +kernel) rfl
theorem zf_RX0_24 : zFl RX0 24 0 3 := ⟨zcI0.1, zcI0.2, by decide, zcU0, zcT0, zcN0, Or.inl (gi 139 (by decide +kernel) rfl)⟩
theorem zfl_RX0_24 : (Cond.fieldLink RX0 24 ((zcl 0).2.1 3).1 ((zcl 0).2.1 3).2.1 ((zcl 0).2.1 3).2.2.1) ∈ gtb := gi 139 (by decide +kernel) rfl
theorem zf_RX0_28 : zFl RX0 28 0 4 := ⟨zcI0.1, zcI0.2, by decide, zcU0, zcT0, zcN0, Or.inl (gi 144 (by decide +kernel) rfl)⟩
theorem zfl_RX0_28 : (Cond.fieldLink RX0 28 ((zcl 0).2.1 4).1 ((zcl 0).2.1 4).2.1 ((zcl 0).2.1 4).2.2.1) ∈ gtb := gi 144 (by decide +kernel) rfl
theorem zf_RX1_9 : zFl RX1 9 1 0 := ⟨zcI1.1, zcI1.2, by decide, zcU1, zcT1, zcN1, Or.inl (gi 99 (by decide +kernel) rfl)⟩
theorem zfl_RX1_9 : (Cond.fieldLink RX1 9 ((zcl 1).2.1 0).1 ((zcl 1).2.1 0).2.1 ((zcl 1).2.1 0).2.2.1) ∈ gtb := gi 99 (by decide +kernel) rfl
theorem zf_RX1_15 : zFl RX1 15 1 1 := ⟨zcI1.1, zcI1.2, by decide, zcU1, zcT1, zcN1, Or.inl (gi 100 (by decide +kernel) rfl)⟩
theorem zfl_RX1_15 : (Cond.fieldLink RX1 15 ((zcl 1).2.1 1).1 ((zcl 1).2.1 1).2.1 ((zcl 1).2.1 1).2.2.1) ∈ gtb := gi 100 (by decide +kernel) rfl
theorem zf_RX1_19 : zFl RX1 19 1 2 := ⟨zcI1.1, zcI1.2, by decide, zcU1, zcT1, zcN1, Or.inl (gi 101 (by decide +kernel) rfl)⟩
theorem zfl_RX1_19 : (Cond.fieldLink RX1 19 ((zcl 1).2.1 2).1 ((zcl 1).2.1 2).2.1 ((zcl 1).2.1 2).2.2.1) ∈ gtb := gi 101 (by decide +kernel) rfl
theorem zf_RX1_22 : zFl RX1 22 1 4 := ⟨zcI1.1, zcI1.2, by decide, zcU1, zcT1, zcN1, Or.inl (gi 106 (by decide +kernel) rfl)⟩
theorem zfl_RX1_22 : (Cond.fieldLink RX1 22 ((zcl 1).2.1 4).1 ((zcl 1).2.1 4).2.1 ((zcl 1).2.1 4).2.2.1) ∈ gtb := gi 106 (by decide +kernel) rfl
theorem zf_RX1_25 : zFl RX1 25 1 5 := ⟨zcI1.1, zcI1.2, by decide, zcU1, zcT1, zcN1, Or.inl (gi 108 (by decide +kernel) rfl)⟩
theorem zfl_RX1_25 : (Cond.fieldLink RX1 25 ((zcl 1).2.1 5).1 ((zcl 1).2.1 5).2.1 ((zcl 1).2.1 5).2.2.1) ∈ gtb := gi 108 (by decide +kernel) rfl
theorem zf_RX1_28 : zFl RX1 28 1 3 := ⟨zcI1.1, zcI1.2, by decide, zcU1, zcT1, zcN1, Or.inl (gi 102 (by decide +kernel) rfl)⟩
theorem zf_RX1_35 : zFl RX1 35 1 6 := ⟨zcI1.1, zcI1.2, by decide, zcU1, zcT1, zcN1, Or.inl (gi 111 (by decide +kernel) rfl)⟩
theorem zf_RX2_12 : zFl RX2 12 2 4 := ⟨zcI2.1, zcI2.2, by decide, zcU2, zcT2, zcN2, Or.inl (gi 266 (by decide +kernel) rfl)⟩
theorem zfl_RX2_12 : (Cond.fieldLink RX2 12 ((zcl 2).2.1 4).1 ((zcl 2).2.1 4).2.1 ((zcl 2).2.1 4).2.2.1) ∈ gtb := gi 266 (by decide +kernel) rfl
theorem zf_RX2_23 : zFl RX2 23 2 5 := ⟨zcI2.1, zcI2.2, by decide, zcU2, zcT2, zcN2, Or.inl (gi 268 (by decide +kernel) rfl)⟩
theorem zfl_RX2_23 : (Cond.fieldLink RX2 23 ((zcl 2).2.1 5).1 ((zcl 2).2.1 5).2.1 ((zcl 2).2.1 5).2.2.1) ∈ gtb := gi 268 (by decide +kernel) rfl
theorem zf_RX2_27 : zFl RX2 27 2 6 := ⟨zcI2.1, zcI2.2, by decide, zcU2, zcT2, zcN2, Or.inl (gi 270 (by decide +kernel) rfl)⟩
theorem zfl_RX2_27 : (Cond.fieldLink RX2 27 ((zcl 2).2.1 6).1 ((zcl 2).2.1 6).2.1 ((zcl 2).2.1 6).2.2.1) ∈ gtb := gi 270 (by decide +kernel) rfl
theorem zf_RX2_31 : zFl RX2 31 2 7 := ⟨zcI2.1, zcI2.2, by decide, zcU2, zcT2, zcN2, Or.inl (gi 272 (by decide +kernel) rfl)⟩
theorem zfl_RX2_31 : (Cond.fieldLink RX2 31 ((zcl 2).2.1 7).1 ((zcl 2).2.1 7).2.1 ((zcl 2).2.1 7).2.2.1) ∈ gtb := gi 272 (by decide +kernel) rfl
theorem zf_RX2_34 : zFl RX2 34 2 11 := ⟨zcI2.1, zcI2.2, by decide, zcU2, zcT2, zcN2, Or.inl (gi 279 (by decide +kernel) rfl)⟩
theorem zfl_RX2_34 : (Cond.fieldLink RX2 34 ((zcl 2).2.1 11).1 ((zcl 2).2.1 11).2.1 ((zcl 2).2.1 11).2.2.1) ∈ gtb := gi 279 (by decide +kernel) rfl
theorem zf_RX2_39 : zFl RX2 39 2 12 := ⟨zcI2.1, zcI2.2, by decide, zcU2, zcT2, zcN2, Or.inl (gi 280 (by decide +kernel) rfl)⟩
theorem zf_RX2_43 : zFl RX2 43 2 13 := ⟨zcI2.1, zcI2.2, by decide, zcU2, zcT2, zcN2, Or.inl (gi 282 (by decide +kernel) rfl)⟩
theorem zf_RX2_46 : zFl RX2 46 2 14 := ⟨zcI2.1, zcI2.2, by decide, zcU2, zcT2, zcN2, Or.inl (gi 283 (by decide +kernel) rfl)⟩
theorem zfl_RX2_46 : (Cond.fieldLink RX2 46 ((zcl 2).2.1 14).1 ((zcl 2).2.1 14).2.1 ((zcl 2).2.1 14).2.2.1) ∈ gtb := gi 283 (by decide +kernel) rfl
theorem zf_RX2_49 : zFl RX2 49 2 0 := ⟨zcI2.1, zcI2.2, by decide, zcU2, zcT2, zcN2, Or.inl (gi 262 (by decide +kernel) rfl)⟩
theorem zfl_RX2_49 : (Cond.fieldLink RX2 49 ((zcl 2).2.1 0).1 ((zcl 2).2.1 0).2.1 ((zcl 2).2.1 0).2.2.1) ∈ gtb := gi 262 (by decide +kernel) rfl
theorem zf_RX2_53 : zFl RX2 53 2 1 := ⟨zcI2.1, zcI2.2, by decide, zcU2, zcT2, zcN2, Or.inl (gi 263 (by decide +kernel) rfl)⟩
theorem zfl_RX2_53 : (Cond.fieldLink RX2 53 ((zcl 2).2.1 1).1 ((zcl 2).2.1 1).2.1 ((zcl 2).2.1 1).2.2.1) ∈ gtb := gi 263 (by decide +kernel) rfl
theorem zf_RX2_56 : zFl RX2 56 2 2 := ⟨zcI2.1, zcI2.2, by decide, zcU2, zcT2, zcN2, Or.inl (gi 264 (by decide +kernel) rfl)⟩
theorem zfl_RX2_56 : (Cond.fieldLink RX2 56 ((zcl 2).2.1 2).1 ((zcl 2).2.1 2).2.1 ((zcl 2).2.1 2).2.2.1) ∈ gtb := gi 264 (by decide +kernel) rfl
theorem zf_RX2_60 : zFl RX2 60 2 3 := ⟨zcI2.1, zcI2.2, by decide, zcU2, zcT2, zcN2, Or.inl (gi 265 (by decide +kernel) rfl)⟩
theorem zfl_RX2_60 : (Cond.fieldLink RX2 60 ((zcl 2).2.1 3).1 ((zcl 2).2.1 3).2.1 ((zcl 2).2.1 3).2.2.1) ∈ gtb := gi 265 (by decide +kernel) rfl
theorem zf_RX2_66 : zFl RX2 66 2 10 := ⟨zcI2.1, zcI2.2, by decide, zcU2, zcT2, zcN2, Or.inl (gi 278 (by decide +kernel) rfl)⟩
theorem zfl_RX2_66 : (Cond.fieldLink RX2 66 ((zcl 2).2.1 10).1 ((zcl 2).2.1 10).2.1 ((zcl 2).2.1 10).2.2.1) ∈ gtb := gi 278 (by decide +kernel) rfl
theorem zf_RX2_70 : zFl RX2 70 3 2 := ⟨zcI3.1, zcI3.2, by decide, zcU3, zcT3, zcN3, Or.inr ⟨"OmitMarkup", znw_in 174 (by decide +kernel) rfl⟩⟩
theorem zf_RX2_74 : zFl RX2 74 2 16 := ⟨zcI2.1, zcI2.2, by decide, zcU2, zcT2, zcN2, Or.inl (gi 285 (by decide +kernel) rfl)⟩
theorem zf_RX2_77 : zFl RX2 77 5 5 := ⟨zcI5.1, zcI5.2, by decide, zcU5, zcT5, zcN5, Or.inr ⟨"OmitMarkup", znw_in 212 (by decide +kernel) rfl⟩⟩
theorem zf_RX2_78 : zFl RX2 78 2 8 := ⟨zcI2.1, zcI2.2, by decide, zcU2, zcT2, zcN2, Or.inl (gi 274 (by decide +kernel) rfl)⟩
theorem zf_RX2_81 : zFl RX2 81 2 9 := ⟨zcI2.1, zcI2.2, by decide, zcU2, zcT2, zcN2, Or.inl (gi 276 (by decide +kernel) rfl)⟩
theorem zf_RX2_110 : zFl RX2 110 4 5 := ⟨zcI4.1, zcI4.2, by decide, zcU4, zcT4, zcN4, Or.inr ⟨"OmitMarkup", znw_in 248 (by decide +kernel) rfl⟩⟩
theorem zf_RX2_117 : zFl RX2 117 3 0 := ⟨zcI3.1, zcI3.2, by decide, zcU3, zcT3, zcN3, Or.inr ⟨"OmitMarkup", znw_in 168 (by decide +kernel) rfl⟩⟩
theorem zf_RX2_120 : zFl RX2 120 3 1 := ⟨zcI3.1, zcI3.2, by decide, zcU3, zcT3, zcN3, Or.inr ⟨"OmitMarkup", znw_in 172 (by decide +kernel) rfl⟩⟩
theorem zf_RX2_123 : zFl RX2 123 2 15 := ⟨zcI2.1, zcI2.2, by decide, zcU2, zcT2, zcN2, Or.inl (gi 284 (by decide +kernel) rfl)⟩
theorem zf_RX2_145 : zFl RX2 145 4 4 := ⟨zcI4.1, zcI4.2, by decide, zcU4, zcT4, zcN4, Or.inr ⟨"OmitMarkup", znw_in 246 (by decide +kernel) rfl⟩⟩
theorem zf_RX2_165 : zFl RX2 165 4 3 := ⟨zcI4.1, zcI4.2, by decide, zcU4, zcT4, zcN4, Or.inr ⟨"OmitMarkup", znw_in 243 (by decide +kernel) rfl⟩⟩
theorem zf_RX2_179 : zFl RX2 179 0 3 := ⟨zcI0.1, zcI0.2, by decide, zcU0, zcT0, zcN0, Or.inr ⟨"OmitMarkup", znw_in 142 (by decide +kernel) rfl⟩⟩
theorem zf_RX2_201 : zFl RX2 201 0 4 := ⟨zcI0.1, zcI0.2, by decide, zcU0, zcT0, zcN0, Or.inr ⟨"OmitMarkup", znw_in 148 (by decide +kernel) rfl⟩⟩
theorem zf_RX2_204 : zFl RX2 204 4 1 := ⟨zcI4.1, zcI4.2, by decide, zcU4, zcT4, zcN4, Or.inr ⟨"OmitMarkup", znw_in 239 (by decide +kernel) rfl⟩⟩
theorem zf_RX2_207 : zFl RX2 207 5 1 := ⟨zcI5.1, zcI5.2, by decide, zcU5, zcT5, zcN5, Or.inr ⟨"OmitMarkup", znw_in 202 (by decide +kernel) rfl⟩⟩
theorem zf_RX2_214 : zFl RX2 214 5 0 := ⟨zcI5.1, zcI5.2, by decide, zcU5, zcT5, zcN5, Or.inr ⟨"OmitMarkup", znw_in 199 (by decide +kernel) rfl⟩⟩
theorem zf_RX2_217 : zFl RX2 217 5 2 := ⟨zcI5.1, zcI5.2, by decide, zcU5, zcT5, zcN5, Or.inr ⟨"OmitMarkup", znw_in 205 (by decide +kernel) rfl⟩⟩
theorem zf_RX2_225 : zFl RX2 225 0 0 := ⟨zcI0.1, zcI0.2, by decide, zcU0, zcT0, zcN0, Or.inr ⟨"OmitMarkup", znw_in 132 (by decide +kernel) rfl⟩⟩
theorem zf_RX2_229 : zFl RX2 229 1 3 := ⟨zcI1.1, zcI1.2, by decide, zcU1, zcT1, zcN1, Or.inr ⟨"OmitMarkup", znw_in 105 (by decide +kernel) rfl⟩⟩
theorem zf_RX3_9 : zFl RX3 9 3 0 := ⟨zcI3.1, zcI3.2, by decide, zcU3, zcT3, zcN3, Or.inl (gi 166 (by decide +kernel) rfl)⟩
theorem zfl_RX3_9 : (Cond.fieldLink RX3 9 ((zcl 3).2.1 0).1 ((zcl 3).2.1 0).2.1 ((zcl 3).2.1 0).2.2.1) ∈ gtb := gi 166 (by decide +kernel) rfl
theorem zf_RX3_15 : zFl RX3 15 3 1 := ⟨zcI3.1, zcI3.2, by decide, zcU3, zcT3, zcN3, Or.inl (gi 170 (by decide +kernel) rfl)⟩
theorem zfl_RX3_15 : (Cond.fieldLink RX3 15 ((zcl 3).2.1 1).1 ((zcl 3).2.1 1).2.1 ((zcl 3).2.1 1).2.2.1) ∈ gtb := gi 170 (by decide +kernel) rfl
theorem zf_RX3_18 : zFl RX3 18 3 2 := ⟨zcI3.1, zcI3.2, by decide, zcU3, zcT3, zcN3, Or.inl (gi 175 (by decide +kernel) rfl)⟩
theorem zf_RX4_9 : zFl RX4 9 4 1 := ⟨zcI4.1, zcI4.2, by decide, zcU4, zcT4, zcN4, Or.inl (gi 238 (by decide +kernel) rfl)⟩
theorem zfl_RX4_9 : (Cond.fieldLink RX4 9 ((zcl 4).2.1 1).1 ((zcl 4).2.1 1).2.1 ((zcl 4).2.1 1).2.2.1) ∈ gtb := gi 238 (by decide +kernel) rfl
theorem zf_RX4_15 : zFl RX4 15 4 2 := ⟨zcI4.1, zcI4.2, by decide, zcU4, zcT4, zcN4, Or.inl (gi 240 (by decide +kernel) rfl)⟩
theorem zfl_RX4_15 : (Cond.fieldLink RX4 15 ((zcl 4).2.1 2).1 ((zcl 4).2.1 2).2.1 ((zcl 4).2.1 2).2.2.1) ∈ gtb := gi 240 (by decide +kernel) rfl
theorem zf_RX4_18 : zFl RX4 18 4 4 := ⟨zcI4.1, zcI4.2, by decide, zcU4, zcT4, zcN4, Or.inl (gi 245 (by decide +kernel) rfl)⟩
theorem zf_RX4_22 : zFl RX4 22 4 0 := ⟨zcI4.1, zcI4.2, by decide, zcU4, zcT4, zcN4, Or.inl (gi 237 (by decide +kernel) rfl)⟩
theorem zfl_RX4_22 : (Cond.fieldLink RX4 22 ((zcl 4).2.1 0).1 ((zcl 4).2.1 0).2.1 ((zcl 4).2.1 0).2.2.1) ∈ gtb := gi 237 (by decide +kernel) rfl
theorem zf_RX4_26 : zFl RX4 26 4 3 := ⟨zcI4.1, zcI4.2, by decide, zcU4, zcT4, zcN4, Or.inl (gi 241 (by decide +kernel) rfl)⟩
theorem zf_RX4_29 : zFl RX4 29 4 5 := ⟨zcI4.1, zcI4.2, by decide, zcU4, zcT4, zcN4, Or.inl (gi 247 (by decide +kernel) rfl)⟩
theorem zf_RX4_32 : zFl RX4 32 0 0 := ⟨zcI0.1, zcI0.2, by decide, zcU0, zcT0, zcN0, Or.inr ⟨"OmitMarkup", znw_in 131 (by decide +kernel) rfl⟩⟩
theorem zf_RX4_38 : zFl RX4 38 1 5 := ⟨zcI1.1, zcI1.2, by decide, zcU1, zcT1, zcN1, Or.inr ⟨"OmitMarkup", znw_in 109 (by decide +kernel) rfl⟩⟩
theorem zf_RX4_44 : zFl RX4 44 1 4 := ⟨zcI1.1, zcI1.2, by decide, zcU1, zcT1, zcN1, Or.inr ⟨"OmitMarkup", znw_in 107 (by decide +kernel) rfl⟩⟩
theorem zf_RX4_58 : zFl RX4 58 0 2 := ⟨zcI0.1, zcI0.2, by decide, zcU0, zcT0, zcN0, Or.inr ⟨"OmitMarkup", znw_in 138 (by decide +kernel) rfl⟩⟩
theorem zf_RX4_61 : zFl RX4 61 0 1 := ⟨zcI0.1, zcI0.2, by decide, zcU0, zcT0, zcN0, Or.inr ⟨"OmitMarkup", znw_in 135 (by decide +kernel) rfl⟩⟩
theorem zf_RX4_81 : zFl RX4 81 0 3 := ⟨zcI0.1, zcI0.2, by decide, zcU0, zcT0, zcN0, Or.inr ⟨"OmitMarkup", znw_in 143 (by decide +kernel) rfl⟩⟩
theorem zf_RX4_84 : zFl RX4 84 1 3 := ⟨zcI1.1, zcI1.2, by decide, zcU1, zcT1, zcN1, Or.inr ⟨"OmitMarkup", znw_in 104 (by decide +kernel) rfl⟩⟩
theorem zf_RX4_87 : zFl RX4 87 0 4 := ⟨zcI0.1, zcI0.2, by decide, zcU0, zcT0, zcN0, Or.inr ⟨"OmitMarkup", znw_in 147 (by decide +kernel) rfl⟩⟩
theorem zf_RX5_9 : zFl RX5 9 5 0 := ⟨zcI5.1, zcI5.2, by decide, zcU5, zcT5, zcN5, Or.inl (gi 198 (by decide +kernel) rfl)⟩
theorem zfl_RX5_9 : (Cond.fieldLink RX5 9 ((zcl 5).2.1 0).1 ((zcl 5).2.1 0).2.1 ((zcl 5).2.1 0).2.2.1) ∈ gtb := gi 198 (by decide +kernel) rfl
theorem zf_RX5_15 : zFl RX5 15 5 1 := ⟨zcI5.1, zcI5.2, by decide, zcU5, zcT5, zcN5, Or.inl (gi 201 (by decide +kernel) rfl)⟩
theorem zfl_RX5_15 : (Cond.fieldLink RX5 15 ((zcl 5).2.1 1).1 ((zcl 5).2.1 1).2.1 ((zcl 5).2.1 1).2.2.1) ∈ gtb := gi 201 (by decide +kernel) rfl
theorem zf_RX5_18 : zFl RX5 18 5 2 := ⟨zcI5.1, zcI5.2, by decide, zcU5, zcT5, zcN5, Or.inl (gi 204 (by decide +kernel) rfl)⟩
theorem zfl_RX5_18 : (Cond.fieldLink RX5 18 ((zcl 5).2.1 2).1 ((zcl 5).2.1 2).2.1 ((zcl 5).2.1 2).2.2.1) ∈ gtb := gi 204 (by decide +kernel) rfl
theorem zf_RX5_22 : zFl RX5 22 5 3 := ⟨zcI5.1, zcI5.2, by decide, zcU5, zcT5, zcN5, Or.inl (gi 207 (by decide +kernel) rfl)⟩
theorem zfl_RX5_22 : (Cond.fieldLink RX5 22 ((zcl 5).2.1 3).1 ((zcl 5).2.1 3).2.1 ((zcl 5).2.1 3).2.2.1) ∈ gtb := gi 207 (by decide +kernel) rfl
theorem zf_RX5_25 : zFl RX5 25 5 4 := ⟨zcI5.1, zcI5.2, by decide, zcU5, zcT5, zcN5, Or.inl (gi 209 (by decide +kernel) rfl)⟩
theorem zfl_RX5_25 : (Cond.fieldLink RX5 25 ((zcl 5).2.1 4).1 ((zcl 5).2.1 4).2.1 ((zcl 5).2.1 4).2.2.1) ∈ gtb := gi 209 (by decide +kernel) rfl
theorem zf_RX5_29 : zFl RX5 29 5 5 := ⟨zcI5.1, zcI5.2, by decide, zcU5, zcT5, zcN5, Or.inl (gi 211 (by decide +kernel) rfl)⟩
theorem zf_RX6_11 : zFl RX6 11 6 2 := ⟨zcI6.1, zcI6.2, by decide, zcU6, zcT6, zcN6, Or.inl (gi 332 (by decide +kernel) rfl)⟩
theorem zfl_RX6_11 : (Cond.fieldLink RX6 11 ((zcl 6).2.1 2).1 ((zcl 6).2.1 2).2.1 ((zcl 6).2.1 2).2.2.1) ∈ gtb := gi 332 (by decide +kernel) rfl
theorem zf_RX6_17 : zFl RX6 17 6 0 := ⟨zcI6.1, zcI6.2, by decide, zcU6, zcT6, zcN6, Or.inl (gi 330 (by decide +kernel) rfl)⟩
theorem zfl_RX6_17 : (Cond.fieldLink RX6 17 ((zcl 6).2.1 0).1 ((zcl 6).2.1 0).2.1 ((zcl 6).2.1 0).2.2.1) ∈ gtb := gi 330 (by decide +kernel) rfl
theorem zf_RX6_21 : zFl RX6 21 6 1 := ⟨zcI6.1, zcI6.2, by decide, zcU6, zcT6, zcN6, Or.inl (gi 331 (by decide +kernel) rfl)⟩
theorem zfl_RX6_21 : (Cond.fieldLink RX6 21 ((zcl 6).2.1 1).1 ((zcl 6).2.1 1).2.1 ((zcl 6).2.1 1).2.2.1) ∈ gtb := gi 331 (by decide +kernel) rfl
theorem zf_RX6_28 : zFl RX6 28 6 3 := ⟨zcI6.1, zcI6.2, by decide, zcU6, zcT6, zcN6, Or.inl (gi 333 (by decide +kernel) rfl)⟩
theorem zf_RX6_39 : zFl RX6 39 3 2 := ⟨zcI3.1, zcI3.2, by decide, zcU3, zcT3, zcN3, Or.inr ⟨"OmitMarkup", znw_in 176 (by decide +kernel) rfl⟩⟩
theorem zf_RX6_44 : zFl RX6 44 3 0 := ⟨zcI3.1, zcI3.2, by decide, zcU3, zcT3, zcN3, Or.inr ⟨"OmitMarkup", znw_in 167 (by decide +kernel) rfl⟩⟩
theorem zf_RX6_48 : zFl RX6 48 3 1 := ⟨zcI3.1, zcI3.2, by decide, zcU3, zcT3, zcN3, Or.inr ⟨"OmitMarkup", znw_in 171 (by decide +kernel) rfl⟩⟩
theorem zf_RX6_55 : zFl RX6 55 4 3 := ⟨zcI4.1, zcI4.2, by decide, zcU4, zcT4, zcN4, Or.inr ⟨"OmitMarkup", znw_in 242 (by decide +kernel) rfl⟩⟩
theorem zf_RX6_58 : zFl RX6 58 0 3 := ⟨zcI0.1, zcI0.2, by decide, zcU0, zcT0, zcN0, Or.inr ⟨"OmitMarkup", znw_in 140 (by decide +kernel) rfl⟩⟩
theorem zf_RX6_64 : zFl RX6 64 0 4 := ⟨zcI0.1, zcI0.2, by decide, zcU0, zcT0, zcN0, Or.inr ⟨"OmitMarkup", znw_in 145 (by decide +kernel) rfl⟩⟩
theorem zf_RX7_12 : zFl RX7 12 7 0 := ⟨zcI7.1, zcI7.2, by decide, zcU7, zcT7, zcN7, Or.inl (gi 343 (by decide +kernel) rfl)⟩
theorem zfl_RX7_12 : (Cond.fieldLink RX7 12 ((zcl 7).2.1 0).1 ((zcl 7).2.1 0).2.1 ((zcl 7).2.1 0).2.2.1) ∈ gtb := gi 343 (by decide +kernel) rfl
theorem zf_RX7_21 : zFl RX7 21 7 1 := ⟨zcI7.1, zcI7.2, by decide, zcU7, zcT7, zcN7, Or.inl (gi 344 (by decide +kernel) rfl)⟩
theorem zfl_RX7_21 : (Cond.fieldLink RX7 21 ((zcl 7).2.1 1).1 ((zcl 7).2.1 1).2.1 ((zcl 7).2.1 1).2.2.1) ∈ gtb := gi 344 (by decide +kernel) rfl
theorem zf_RX7_25 : zFl RX7 25 7 2 := ⟨zcI7.1, zcI7.2, by decide, zcU7, zcT7, zcN7, Or.inl (gi 345 (by decide +kernel) rfl)⟩
theorem zfl_RX7_25 : (Cond.fieldLink RX7 25 ((zcl 7).2.1 2).1 ((zcl 7).2.1 2).2.1 ((zcl 7).2.1 2).2.2.1) ∈ gtb := gi 345 (by decide +kernel) rfl
theorem zf_RX7_29 : zFl RX7 29 7 3 := ⟨zcI7.1, zcI7.2, by decide, zcU7, zcT7, zcN7, Or.inl (gi 346 (by decide +kernel) rfl)⟩
theorem zfl_RX7_29 : (Cond.fieldLink RX7 29 ((zcl 7).2.1 3).1 ((zcl 7).2.1 3).2.1 ((zcl 7).2.1 3).2.2.1) ∈ gtb := gi 346 (by decide +kernel) rfl
theorem zf_RX7_38 : zFl RX7 38 7 4 := ⟨zcI7.1, zcI7.2, by decide, zcU7, zcT7, zcN7, Or.inl (gi 347 (by decide +kernel) rfl)⟩
theorem zfl_RX7_38 : (Cond.fieldLink RX7 38 ((zcl 7).2.1 4).1 ((zcl 7).2.1 4).2.1 ((zcl 7).2.1 4).2.2.1) ∈ gtb := gi 347 (by decide +kernel) rfl
theorem zf_RX7_47 : zFl RX7 47 7 5 := ⟨zcI7.1, zcI7.2, by decide, zcU7, zcT7, zcN7, Or.inl (gi 348 (by decide +kernel) rfl)⟩
theorem zfl_RX7_47 : (Cond.fieldLink RX7 47 ((zcl 7).2.1 5).1 ((zcl 7).2.1 5).2.1 ((zcl 7).2.1 5).2.2.1) ∈ gtb := gi 348 (by decide +kernel) rfl
theorem zf_RX7_62 : zFl RX7 62 0 0 := ⟨zcI0.1, zcI0.2, by decide, zcU0, zcT0, zcN0, Or.inr ⟨"OmitMarkup", znw_in 130 (by decide +kernel) rfl⟩⟩
theorem zf_RX7_66 : zFl RX7 66 1 3 := ⟨zcI1.1, zcI1.2, by decide, zcU1, zcT1, zcN1, Or.inr ⟨"OmitMarkup", znw_in 103 (by decide +kernel) rfl⟩⟩
theorem zf_RX7_80 : zFl RX7 80 1 6 := ⟨zcI1.1, zcI1.2, by decide, zcU1, zcT1, zcN1, Or.inr ⟨"OmitMarkup", znw_in 110 (by decide +kernel) rfl⟩⟩
theorem zf_RX7_98 : zFl RX7 98 0 1 := ⟨zcI0.1, zcI0.2, by decide, zcU0, zcT0, zcN0, Or.inr ⟨"OmitMarkup", znw_in 134 (by decide +kernel) rfl⟩⟩
theorem zf_RX7_101 : zFl RX7 101 0 2 := ⟨zcI0.1, zcI0.2, by decide, zcU0, zcT0, zcN0, Or.inr ⟨"OmitMarkup", znw_in 137 (by decide +kernel) rfl⟩⟩
theorem zf_RX7_104 : zFl RX7 104 0 3 := ⟨zcI0.1, zcI0.2, by decide, zcU0, zcT0, zcN0, Or.inr ⟨"OmitMarkup", znw_in 141 (by decide +kernel) rfl⟩⟩
theorem zf_RX7_108 : zFl RX7 108 0 4 := ⟨zcI0.1, zcI0.2, by decide, zcU0, zcT0, zcN0, Or.inr ⟨"OmitMarkup", znw_in 146 (by decide +kernel) rfl⟩⟩
theorem zf_RX7_114 : zFl RX7 114 3 2 := ⟨zcI3.1, zcI3.2, by decide, zcU3, zcT3, zcN3, Or.inr ⟨"OmitMarkup", znw_in 177 (by decide +kernel) rfl⟩⟩
theorem zf_RX7_133 : zFl RX7 133 2 5 := ⟨zcI2.1, zcI2.2, by decide, zcU2, zcT2, zcN2, Or.inr ⟨"OmitMarkup", znw_in 269 (by decide +kernel) rfl⟩⟩
theorem zf_RX7_142 : zFl RX7 142 2 16 := ⟨zcI2.1, zcI2.2, by decide, zcU2, zcT2, zcN2, Or.inr ⟨"OmitMarkup", znw_in 286 (by decide +kernel) rfl⟩⟩
theorem zf_RX7_145 : zFl RX7 145 2 12 := ⟨zcI2.1, zcI2.2, by decide, zcU2, zcT2, zcN2, Or.inr ⟨"OmitMarkup", znw_in 281 (by decide +kernel) rfl⟩⟩
theorem zf_RX7_149 : zFl RX7 149 4 3 := ⟨zcI4.1, zcI4.2, by decide, zcU4, zcT4, zcN4, Or.inr ⟨"OmitMarkup", znw_in 244 (by decide +kernel) rfl⟩⟩
theorem zf_RX7_161 : zFl RX7 161 2 4 := ⟨zcI2.1, zcI2.2, by decide, zcU2, zcT2, zcN2, Or.inr ⟨"OmitMarkup", znw_in 267 (by decide +kernel) rfl⟩⟩
theorem zf_RX7_165 : zFl RX7 165 5 5 := ⟨zcI5.1, zcI5.2, by decide, zcU5, zcT5, zcN5, Or.inr ⟨"OmitMarkup", znw_in 213 (by decide +kernel) rfl⟩⟩
theorem zf_RX7_168 : zFl RX7 168 5 0 := ⟨zcI5.1, zcI5.2, by decide, zcU5, zcT5, zcN5, Or.inr ⟨"OmitMarkup", znw_in 200 (by decide +kernel) rfl⟩⟩
theorem zf_RX7_171 : zFl RX7 171 5 1 := ⟨zcI5.1, zcI5.2, by decide, zcU5, zcT5, zcN5, Or.inr ⟨"OmitMarkup", znw_in 203 (by decide +kernel) rfl⟩⟩
theorem zf_RX7_174 : zFl RX7 174 5 2 := ⟨zcI5.1, zcI5.2, by decide, zcU5, zcT5, zcN5, Or.inr ⟨"OmitMarkup", znw_in 206 (by decide +kernel) rfl⟩⟩
theorem zf_RX7_178 : zFl RX7 178 5 3 := ⟨zcI5.1, zcI5.2, by decide, zcU5, zcT5, zcN5, Or.inr ⟨"OmitMarkup", znw_in 208 (by decide +kernel) rfl⟩⟩
theorem zf_RX7_181 : zFl RX7 181 5 4 := ⟨zcI5.1, zcI5.2, by decide, zcU5, zcT5, zcN5, Or.inr ⟨"OmitMarkup", znw_in 210 (by decide +kernel) rfl⟩⟩
theorem zf_RX7_184 : zFl RX7 184 2 9 := ⟨zcI2.1, zcI2.2, by decide, zcU2, zcT2, zcN2, Or.inr ⟨"OmitMarkup", znw_in 277 (by decide +kernel) rfl⟩⟩
theorem zf_RX7_187 : zFl RX7 187 2 8 := ⟨zcI2.1, zcI2.2, by decide, zcU2, zcT2, zcN2, Or.inr ⟨"OmitMarkup", znw_in 275 (by decide +kernel) rfl⟩⟩
theorem zf_RX7_190 : zFl RX7 190 2 6 := ⟨zcI2.1, zcI2.2, by decide, zcU2, zcT2, zcN2, Or.inr ⟨"OmitMarkup", znw_in 271 (by decide +kernel) rfl⟩⟩
theorem zf_RX7_193 : zFl RX7 193 2 7 := ⟨zcI2.1, zcI2.2, by decide, zcU2, zcT2, zcN2, Or.inr ⟨"OmitMarkup", znw_in 273 (by decide +kernel) rfl⟩⟩
theorem zf_RX7_196 : zFl RX7 196 3 0 := ⟨zcI3.1, zcI3.2, by decide, zcU3, zcT3, zcN3, Or.inr ⟨"OmitMarkup", znw_in 169 (by decide +kernel) rfl⟩⟩
theorem zf_RX7_199 : zFl RX7 199 3 1 := ⟨zcI3.1, zcI3.2, by decide, zcU3, zcT3, zcN3, Or.inr ⟨"OmitMarkup", znw_in 173 (by decide +kernel) rfl⟩⟩
theorem zf_RX8_7 : zFl RX8 7 8 0 := ⟨zcI8.1, zcI8.2, by decide, zcU8, zcT8, zcN8, Or.inl (gi 993 (by decide +kernel) rfl)⟩
theorem zfl_RX8_7 : (Cond.fieldLink RX8 7 ((zcl 8).2.1 0).1 ((zcl 8).2.1 0).2.1 ((zcl 8).2.1 0).2.2.1) ∈ gtb := gi 993 (by decide +kernel) rfl
theorem zf_RX8_13 : zFl RX8 13 8 1 := ⟨zcI8.1, zcI8.2, by decide, zcU8, zcT8, zcN8, Or.inl (gi 994 (by decide +kernel) rfl)⟩
theorem zfl_RX8_13 : (Cond.fieldLink RX8 13 ((zcl 8).2.1 1).1 ((zcl 8).2.1 1).2.1 ((zcl 8).2.1 1).2.2.1) ∈ gtb := gi 994 (by decide +kernel) rfl
theorem zf_RX8_16 : zFl RX8 16 8 2 := ⟨zcI8.1, zcI8.2, by decide, zcU8, zcT8, zcN8, Or.inl (gi 995 (by decide +kernel) rfl)⟩
theorem zfl_RX8_16 : (Cond.fieldLink RX8 16 ((zcl 8).2.1 2).1 ((zcl 8).2.1 2).2.1 ((zcl 8).2.1 2).2.2.1) ∈ gtb := gi 995 (by decide +kernel) rfl
theorem zf_RX8_19 : zFl RX8 19 8 3 := ⟨zcI8.1, zcI8.2, by decide, zcU8, zcT8, zcN8, Or.inl (gi 996 (by decide +kernel) rfl)⟩
theorem zfl_RX8_19 : (Cond.fieldLink RX8 19 ((zcl 8).2.1 3).1 ((zcl 8).2.1 3).2.1 ((zcl 8).2.1 3).2.2.1) ∈ gtb := gi 996 (by decide +kernel) rfl
theorem zf_RX8_22 : zFl RX8 22 8 4 := ⟨zcI8.1, zcI8.2, by decide, zcU8, zcT8, zcN8, Or.inl (gi 997 (by decide +kernel) rfl)⟩
theorem zfl_RX8_22 : (Cond.fieldLink RX8 22 ((zcl 8).2.1 4).1 ((zcl 8).2.1 4).2.1 ((zcl 8).2.1 4).2.2.1) ∈ gtb := gi 997 (by decide +kernel) rfl
theorem zf_RX8_25 : zFl RX8 25 8 5 := ⟨zcI8.1, zcI8.2, by decide, zcU8, zcT8, zcN8, Or.inl (gi 998 (by decide +kernel) rfl)⟩
theorem zfl_RX8_25 : (Cond.fieldLink RX8 25 ((zcl 8).2.1 5).1 ((zcl 8).2.1 5).2.1 ((zcl 8).2.1 5).2.2.1) ∈ gtb := gi 998 (by decide +kernel) rfl
theorem zf_RX8_29 : zFl RX8 29 8 6 := ⟨zcI8.1, zcI8.2, by decide, zcU8, zcT8, zcN8, Or.inl (gi 999 (by decide +kernel) rfl)⟩
theorem zfl_RX8_29 : (Cond.fieldLink RX8 29 ((zcl 8).2.1 6).1 ((zcl 8).2.1 6).2.1 ((zcl 8).2.1 6).2.2.1) ∈ gtb := gi 999 (by decide +kernel) rfl
theorem zf_RX8_32 : zFl RX8 32 8 7 := ⟨zcI8.1, zcI8.2, by decide, zcU8, zcT8, zcN8, Or.inl (gi 1000 (by decide +kernel) rfl)⟩
theorem zfl_RX8_32 : (Cond.fieldLink RX8 32 ((zcl 8).2.1 7).1 ((zcl 8).2.1 7).2.1 ((zcl 8).2.1 7).2.2.1) ∈ gtb := gi 1000 (by decide +kernel) rfl
theorem zf_RX8_35 : zFl RX8 35 8 8 := ⟨zcI8.1, zcI8.2, by decide, zcU8, zcT8, zcN8, Or.inl (gi 1001 (by decide +kernel) rfl)⟩
theorem zfl_RX8_35 : (Cond.fieldLink RX8 35 ((zcl 8).2.1 8).1 ((zcl 8).2.1 8).2.1 ((zcl 8).2.1 8).2.2.1) ∈ gtb := gi 1001 (by decide +kernel) rfl
theorem zf_RX8_38 : zFl RX8 38 8 9 := ⟨zcI8.1, zcI8.2, by decide, zcU8, zcT8, zcN8, Or.inl (gi 1002 (by decide +kernel) rfl)⟩
theorem zfl_RX8_38 : (Cond.fieldLink RX8 38 ((zcl 8).2.1 9).1 ((zcl 8).2.1 9).2.1 ((zcl 8).2.1 9).2.2.1) ∈ gtb := gi 1002 (by decide +kernel) rfl
theorem zf_RX8_41 : zFl RX8 41 8 10 := ⟨zcI8.1, zcI8.2, by decide, zcU8, zcT8, zcN8, Or.inl (gi 1003 (by decide +kernel) rfl)⟩
theorem zfl_RX8_41 : (Cond.fieldLink RX8 41 ((zcl 8).2.1 10).1 ((zcl 8).2.1 10).2.1 ((zcl 8).2.1 10).2.2.1) ∈ gtb := gi 1003 (by decide +kernel) rfl
theorem zf_RX8_44 : zFl RX8 44 8 11 := ⟨zcI8.1, zcI8.2, by decide, zcU8, zcT8, zcN8, Or.inl (gi 1004 (by decide +kernel) rfl)⟩
theorem zfl_RX8_44 : (Cond.fieldLink RX8 44 ((zcl 8).2.1 11).1 ((zcl 8).2.1 11).2.1 ((zcl 8).2.1 11).2.2.1) ∈ gtb := gi 1004 (by decide +kernel) rfl
theorem zf_RX8_47 : zFl RX8 47 8 12 := ⟨zcI8.1, zcI8.2, by decide, zcU8, zcT8, zcN8, Or.inl (gi 1005 (by decide +kernel) rfl)⟩
theorem zfl_RX8_47 : (Cond.fieldLink RX8 47 ((zcl 8).2.1 12).1 ((zcl 8).2.1 12).2.1 ((zcl 8).2.1 12).2.2.1) ∈ gtb := gi 1005 (by decide +kernel) rfl
theorem zf_RX8_50 : zFl RX8 50 8 15 := ⟨zcI8.1, zcI8.2, by decide, zcU8, zcT8, zcN8, Or.inl (gi 1008 (by decide +kernel) rfl)⟩
theorem zfl_RX8_50 : (Cond.fieldLink RX8 50 ((zcl 8).2.1 15).1 ((zcl 8).2.1 15).2.1 ((zcl 8).2.1 15).2.2.1) ∈ gtb := gi 1008 (by decide +kernel) rfl
theorem zf_RX8_53 : zFl RX8 53 8 16 := ⟨zcI8.1, zcI8.2, by decide, zcU8, zcT8, zcN8, Or.inl (gi 1009 (by decide +kernel) rfl)⟩
theorem zfl_RX8_53 : (Cond.fieldLink RX8 53 ((zcl 8).2.1 16).1 ((zcl 8).2.1 16).2.1 ((zcl 8).2.1 16).2.2.1) ∈ gtb := gi 1009 (by decide +kernel) rfl
theorem zf_RX8_56 : zFl RX8 56 8 19 := ⟨zcI8.1, zcI8.2, by decide, zcU8, zcT8, zcN8, Or.inl (gi 1012 (by decide +kernel) rfl)⟩
theorem zfl_RX8_56 : (Cond.fieldLink RX8 56 ((zcl 8).2.1 19).1 ((zcl 8).2.1 19).2.1 ((zcl 8).2.1 19).2.2.1) ∈ gtb := gi 1012 (by decide +kernel) rfl
theorem zf_RX8_59 : zFl RX8 59 8 20 := ⟨zcI8.1, zcI8.2, by decide, zcU8, zcT8, zcN8, Or.inl (gi 1013 (by decide +kernel) rfl)⟩
theorem zfl_RX8_59 : (Cond.fieldLink RX8 59 ((zcl 8).2.1 20).1 ((zcl 8).2.1 20).2.1 ((zcl 8).2.1 20).2.2.1) ∈ gtb := gi 1013 (by decide +kernel) rfl
theorem zf_RX8_62 : zFl RX8 62 8 21 := ⟨zcI8.1, zcI8.2, by decide, zcU8, zcT8, zcN8, Or.inl (gi 1014 (by decide +kernel) rfl)⟩
theorem zfl_RX8_62 : (Cond.fieldLink RX8 62 ((zcl 8).2.1 21).1 ((zcl 8).2.1 21).2.1 ((zcl 8).2.1 21).2.2.1) ∈ gtb := gi 1014 (by decide +kernel) rfl
theorem zf_RX8_65 : zFl RX8 65 8 22 := ⟨zcI8.1, zcI8.2, by decide, zcU8, zcT8, zcN8, Or.inl (gi 1015 (by decide +kernel) rfl)⟩
theorem zfl_RX8_65 : (Cond.fieldLink RX8 65 ((zcl 8).2.1 22).1 ((zcl 8).2.1 22).2.1 ((zcl 8).2.1 22).2.2.1) ∈ gtb := gi 1015 (by decide +kernel) rfl
theorem zf_RX8_68 : zFl RX8 68 8 26 := ⟨zcI8.1, zcI8.2, by decide, zcU8, zcT8, zcN8, Or.inl (gi 1019 (by decide +kernel) rfl)⟩
theorem zfl_RX8_68 : (Cond.fieldLink RX8 68 ((zcl 8).2.1 26).1 ((zcl 8).2.1 26).2.1 ((zcl 8).2.1 26).2.2.1) ∈ gtb := gi 1019 (by decide +kernel) rfl
theorem zf_RX8_71 : zFl RX8 71 8 27 := ⟨zcI8.1, zcI8.2, by decide, zcU8, zcT8, zcN8, Or.inl (gi 1020 (by decide +kernel) rfl)⟩
theorem zfl_RX8_71 : (Cond.fieldLink RX8 71 ((zcl 8).2.1 27).1 ((zcl 8).2.1 27).2.1 ((zcl 8).2.1 27).2.2.1) ∈ gtb := gi 1020 (by decide +kernel) rfl
theorem zf_RX8_74 : zFl RX8 74 8 28 := ⟨zcI8.1, zcI8.2, by decide, zcU8, zcT8, zcN8, Or.inl (gi 1021 (by decide +kernel) rfl)⟩
theorem zfl_RX8_74 : (Cond.fieldLink RX8 74 ((zcl 8).2.1 28).1 ((zcl 8).2.1 28).2.1 ((zcl 8).2.1 28).2.2.1) ∈ gtb := gi 1021 (by decide +kernel) rfl
theorem zf_RX8_77 : zFl RX8 77 8 29 := ⟨zcI8.1, zcI8.2, by decide, zcU8, zcT8, zcN8, Or.inl (gi 1022 (by decide +kernel) rfl)⟩
theorem zfl_RX8_77 : (Cond.fieldLink RX8 77 ((zcl 8).2.1 29).1 ((zcl 8).2.1 29).2.1 ((zcl 8).2.1 29).2.2.1) ∈ gtb := gi 1022 (by decide +kernel) rfl
theorem zf_RX8_80 : zFl RX8 80 8 30 := ⟨zcI8.1, zcI8.2, by decide, zcU8, zcT8, zcN8, Or.inl (gi 1023 (by decide +kernel) rfl)⟩
theorem zfl_RX8_80 : (Cond.fieldLink RX8 80 ((zcl 8).2.1 30).1 ((zcl 8).2.1 30).2.1 ((zcl 8).2.1 30).2.2.1) ∈ gtb := gi 1023 (by decide +kernel) rfl
theorem zf_RX8_83 : zFl RX8 83 8 34 := ⟨zcI8.1, zcI8.2, by decide, zcU8, zcT8, zcN8, Or.inl (gi 1027 (by decide +kernel) rfl)⟩
theorem zfl_RX8_83 : (Cond.fieldLink RX8 83 ((zcl 8).2.1 34).1 ((zcl 8).2.1 34).2.1 ((zcl 8).2.1 34).2.2.1) ∈ gtb := gi 1027 (by decide +kernel) rfl
theorem zf_RX8_86 : zFl RX8 86 8 35 := ⟨zcI8.1, zcI8.2, by decide, zcU8, zcT8, zcN8, Or.inl (gi 1028 (by decide +kernel) rfl)⟩
theorem zfl_RX8_86 : (Cond.fieldLink RX8 86 ((zcl 8).2.1 35).1 ((zcl 8).2.1 35).2.1 ((zcl 8).2.1 35).2.2.1) ∈ gtb := gi 1028 (by decide +kernel) rfl
theorem zf_RX8_89 : zFl RX8 89 8 37 := ⟨zcI8.1, zcI8.2, by decide, zcU8, zcT8, zcN8, Or.inl (gi 1030 (by decide +kernel) rfl)⟩
theorem zfl_RX8_89 : (Cond.fieldLink RX8 89 ((zcl 8).2.1 37).1 ((zcl 8).2.1 37).2.1 ((zcl 8).2.1 37).2.2.1) ∈ gtb := gi 1030 (by decide +kernel) rfl
theorem zf_RX8_92 : zFl RX8 92 8 38 := ⟨zcI8.1, zcI8.2, by decide, zcU8, zcT8, zcN8, Or.inl (gi 1031 (by decide +kernel) rfl)⟩
theorem zfl_RX8_92 : (Cond.fieldLink RX8 92 ((zcl 8).2.1 38).1 ((zcl 8).2.1 38).2.1 ((zcl 8).2.1 38).2.2.1) ∈ gtb := gi 1031 (by decide +kernel) rfl
theorem zf_RX8_95 : zFl RX8 95 8 39 := ⟨zcI8.1, zcI8.2, by decide, zcU8, zcT8, zcN8, Or.inl (gi 1032 (by decide +kernel) rfl)⟩
theorem zfl_RX8_95 : (Cond.fieldLink RX8 95 ((zcl 8).2.1 39).1 ((zcl 8).2.1 39).2.1 ((zcl 8).2.1 39).2.2.1) ∈ gtb := gi 1032 (by decide +kernel) rfl
theorem zf_RX8_98 : zFl RX8 98 8 40 := ⟨zcI8.1, zcI8.2, by decide, zcU8, zcT8, zcN8, Or.inl (gi 1033 (by decide +kernel) rfl)⟩
theorem zfl_RX8_98 : (Cond.fieldLink RX8 98 ((zcl 8).2.1 40).1 ((zcl 8).2.1 40).2.1 ((zcl 8).2.1 40).2.2.1) ∈ gtb := gi 1033 (by decide +kernel) rfl
theorem zf_RX8_101 : zFl RX8 101 8 42 := ⟨zcI8.1, zcI8.2, by decide, zcU8, zcT8, zcN8, Or.inl (gi 1035 (by decide +kernel) rfl)⟩
theorem zfl_RX8_101 : (Cond.fieldLink RX8 101 ((zcl 8).2.1 42).1 ((zcl 8).2.1 42).2.1 ((zcl 8).2.1 42).2.2.1) ∈ gtb := gi 1035 (by decide +kernel) rfl
theorem zf_RX8_104 : zFl RX8 104 8 43 := ⟨zcI8.1, zcI8.2, by decide, zcU8, zcT8, zcN8, Or.inl (gi 1036 (by decide +kernel) rfl)⟩
theorem zfl_RX8_104 : (Cond.fieldLink RX8 104 ((zcl 8).2.1 43).1 ((zcl 8).2.1 43).2.1 ((zcl 8).2.1 43).2.2.1) ∈ gtb := gi 1036 (by decide +kernel) rfl
theorem zf_RX8_107 : zFl RX8 107 8 44 := ⟨zcI8.1, zcI8.2, by decide, zcU8, zcT8, zcN8, Or.inl (gi 1037 (by decide +kernel) rfl)⟩
theorem zfl_RX8_107 : (Cond.fieldLink RX8 107 ((zcl 8).2.1 44).1 ((zcl 8).2.1 44).2.1 ((zcl 8).2.1 44).2.2.1) ∈ gtb := gi 1037 (by decide +kernel) rfl
theorem zf_RX8_110 : zFl RX8 110 8 45 := ⟨zcI8.1, zcI8.2, by decide, zcU8, zcT8, zcN8, Or.inl (gi 1038 (by decide +kernel) rfl)⟩
theorem zfl_RX8_110 : (Cond.fieldLink RX8 110 ((zcl 8).2.1 45).1 ((zcl 8).2.1 45).2.1 ((zcl 8).2.1 45).2.2.1) ∈ gtb := gi 1038 (by decide +kernel) rfl
theorem zf_RX8_113 : zFl RX8 113 8 46 := ⟨zcI8.1, zcI8.2, by decide, zcU8, zcT8, zcN8, Or.inl (gi 1039 (by decide +kernel) rfl)⟩
theorem zfl_RX8_113 : (Cond.fieldLink RX8 113 ((zcl 8).2.1 46).1 ((zcl 8).2.1 46).2.1 ((zcl 8).2.1 46).2.2.1) ∈ gtb := gi 1039 (by decide +kernel) rfl
theorem zf_RX8_116 : zFl RX8 116 8 47 := ⟨zcI8.1, zcI8.2, by decide, zcU8, zcT8, zcN8, Or.inl (gi 1040 (by decide +kernel) rfl)⟩
theorem zfl_RX8_116 : (Cond.fieldLink RX8 116 ((zcl 8).2.1 47).1 ((zcl 8).2.1 47).2.1 ((zcl 8).2.1 47).2.2.1) ∈ gtb := gi 1040 (by decide +kernel) rfl
theorem zf_RX8_119 : zFl RX8 119 8 48 := ⟨zcI8.1, zcI8.2, by decide, zcU8, zcT8, zcN8, Or.inl (gi 1041 (by decide +kernel) rfl)⟩
theorem zfl_RX8_119 : (Cond.fieldLink RX8 119 ((zcl 8).2.1 48).1 ((zcl 8).2.1 48).2.1 ((zcl 8).2.1 48).2.2.1) ∈ gtb := gi 1041 (by decide +kernel) rfl
theorem zf_RX8_122 : zFl RX8 122 8 49 := ⟨zcI8.1, zcI8.2, by decide, zcU8, zcT8, zcN8, Or.inl (gi 1042 (by decide +kernel) rfl)⟩
theorem zfl_RX8_122 : (Cond.fieldLink RX8 122 ((zcl 8).2.1 49).1 ((zcl 8).2.1 49).2.1 ((zcl 8).2.1 49).2.2.1) ∈ gtb := gi 1042 (by decide +kernel) rfl
theorem zf_RX8_125 : zFl RX8 125 8 50 := ⟨zcI8.1, zcI8.2, by decide, zcU8, zcT8, zcN8, Or.inl (gi 1043 (by decide +kernel) rfl)⟩
theorem zfl_RX8_125 : (Cond.fieldLink RX8 125 ((zcl 8).2.1 50).1 ((zcl 8).2.1 50).2.1 ((zcl 8).2.1 50).2.2.1) ∈ gtb := gi 1043 (by decide +kernel) rfl
theorem zf_RX8_128 : zFl RX8 128 8 51 := ⟨zcI8.1, zcI8.2, by decide, zcU8, zcT8, zcN8, Or.inl (gi 1044 (by decide +kernel) rfl)⟩
theorem zfl_RX8_128 : (Cond.fieldLink RX8 128 ((zcl 8).2.1 51).1 ((zcl 8).2.1 51).2.1 ((zcl 8).2.1 51).2.2.1) ∈ gtb := gi 1044 (by decide +kernel) rfl
theorem zf_RX8_131 : zFl RX8 131 8 53 := ⟨zcI8.1, zcI8.2, by decide, zcU8, zcT8, zcN8, Or.inl (gi 1046 (by decide +kernel) rfl)⟩
theorem zfl_RX8_131 : (Cond.fieldLink RX8 131 ((zcl 8).2.1 53).1 ((zcl 8).2.1 53).2.1 ((zcl 8).2.1 53).2.2.1) ∈ gtb := gi 1046 (by decide +kernel) rfl
theorem zf_RX8_134 : zFl RX8 134 8 54 := ⟨zcI8.1, zcI8.2, by decide, zcU8, zcT8, zcN8, Or.inl (gi 1047 (by decide +kernel) rfl)⟩
theorem zfl_RX8_134 : (Cond.fieldLink RX8 134 ((zcl 8).2.1 54).1 ((zcl 8).2.1 54).2.1 ((zcl 8).2.1 54).2.2.1) ∈ gtb := gi 1047 (by decide +kernel) rfl
theorem zf_RX8_137 : zFl RX8 137 8 55 := ⟨zcI8.1, zcI8.2, by decide, zcU8, zcT8, zcN8, Or.inl (gi 1048 (by decide +kernel) rfl)⟩
theorem zfl_RX8_137 : (Cond.fieldLink RX8 137 ((zcl 8).2.1 55).1 ((zcl 8).2.1 55).2.1 ((zcl 8).2.1 55).2.2.1) ∈ gtb := gi 1048 (by decide +kernel) rfl
theorem zf_RX8_143 : zFl RX8 143 8 56 := ⟨zcI8.1, zcI8.2, by decide, zcU8, zcT8, zcN8, Or.inl (gi 1049 (by decide +kernel) rfl)⟩
theorem zf_RX8_174 : zFl RX8 174 8 13 := ⟨zcI8.1, zcI8.2, by decide, zcU8, zcT8, zcN8, Or.inl (gi 1006 (by decide +kernel) rfl)⟩
theorem zf_RX8_177 : zFl RX8 177 8 14 := ⟨zcI8.1, zcI8.2, by decide, zcU8, zcT8, zcN8, Or.inl (gi 1007 (by decide +kernel) rfl)⟩
theorem zf_RX8_184 : zFl RX8 184 8 36 := ⟨zcI8.1, zcI8.2, by decide, zcU8, zcT8, zcN8, Or.inl (gi 1029 (by decide +kernel) rfl)⟩
theorem zf_RX8_187 : zFl RX8 187 8 31 := ⟨zcI8.1, zcI8.2, by decide, zcU8, zcT8, zcN8, Or.inl (gi 1024 (by decide +kernel) rfl)⟩
theorem zf_RX8_190 : zFl RX8 190 8 23 := ⟨zcI8.1, zcI8.2, by decide, zcU8, zcT8, zcN8, Or.inl (gi 1016 (by decide +kernel) rfl)⟩
theorem zf_RX8_197 : zFl RX8 197 8 33 := ⟨zcI8.1, zcI8.2, by decide, zcU8, zcT8, zcN8, Or.inl (gi 1026 (by decide +kernel) rfl)⟩
theorem zf_RX8_200 : zFl RX8 200 8 25 := ⟨zcI8.1, zcI8.2, by decide, zcU8, zcT8, zcN8, Or.inl (gi 1018 (by decide +kernel) rfl)⟩
theorem zf_RX8_204 : zFl RX8 204 8 24 := ⟨zcI8.1, zcI8.2, by decide, zcU8, zcT8, zcN8, Or.inl (gi 1017 (by decide +kernel) rfl)⟩
theorem zf_RX8_240 : zFl RX8 240 8 32 := ⟨zcI8.1, zcI8.2, by decide, zcU8, zcT8, zcN8, Or.inl (gi 1025 (by decide +kernel) rfl)⟩
theorem zf_RX8_243 : zFl RX8 243 8 17 := ⟨zcI8.1, zcI8.2, by decide, zcU8, zcT8, zcN8, Or.inl (gi 1010 (by decide +kernel) rfl)⟩
theorem zf_RX8_246 : zFl RX8 246 8 41 := ⟨zcI8.1, zcI8.2, by decide, zcU8, zcT8, zcN8, Or.inl (gi 1034 (by decide +kernel) rfl)⟩
theorem zf_RX8_281 : zFl RX8 281 8 18 := ⟨zcI8.1, zcI8.2, by decide, zcU8, zcT8, zcN8, Or.inl (gi 1011 (by decide +kernel) rfl)⟩
theorem zf_RX8_302 : zFl RX8 302 8 52 := ⟨zcI8.1, zcI8.2, by decide, zcU8, zcT8, zcN8, Or.inl (gi 1045 (by decide +kernel) rfl)⟩
theorem zm_yX0_init : zMd yX0_init cX0_init 2 none 0 := ⟨gi 90 (by decide +kernel) rfl, gi 63 (by decide +kernel) rfl, by decide +kernel, by decide⟩
theorem zi_yX0_init : (Cond.instanceMethod yX0_init) ∈ gtb := gi 89 (by decide +kernel) rfl
theorem zp_yX0_init : plainName yX0_init.cls = true := by decide +kernel
theorem zm_yX1_init : zMd yX1_init cX1_init 1 none 0 := ⟨gi 97 (by decide +kernel) rfl, gi 64 (by decide +kernel) rfl, by decide +kernel, by decide⟩
theorem zi_yX1_init : (Cond.instanceMethod yX1_init) ∈ gtb := gi 96 (by decide +kernel) rfl
theorem zp_yX1_init : plainName yX1_init.cls = true := by decide +kernel
theorem zm_yX1_addSlot : zMd yX1_addSlot cX1_addSlot 3 none 2 := ⟨gi 550 (by decide +kernel) rfl, gi 64 (by decide +kernel) rfl, by decide +kernel, by decide⟩
theorem zi_yX1_addSlot : (Cond.instanceMethod yX1_addSlot) ∈ gtb := gi 548 (by decide +kernel) rfl
theorem ze_yX1_addSlot : (Cond.selects (zcl 1).1 yX1_addSlot yX1_addSlot) ∈ gtb := gi 549 (by decide +kernel) rfl
theorem zp_yX1_addSlot : plainName yX1_addSlot.cls = true := by decide +kernel
theorem zm_yX1_dropLastSlot : zMd yX1_dropLastSlot cX1_dropLastSlot 1 none 0 := ⟨gi 571 (by decide +kernel) rfl, gi 64 (by decide +kernel) rfl, by decide +kernel, by decide⟩
theorem zi_yX1_dropLastSlot : (Cond.instanceMethod yX1_dropLastSlot) ∈ gtb := gi 569 (by decide +kernel) rfl
theorem ze_yX1_dropLastSlot : (Cond.selects (zcl 1).1 yX1_dropLastSlot yX1_dropLastSlot) ∈ gtb := gi 570 (by decide +kernel) rfl
theorem zp_yX1_dropLastSlot : plainName yX1_dropLastSlot.cls = true := by decide +kernel
theorem zm_yX1_dropSlots : zMd yX1_dropSlots cX1_dropSlots 1 none 0 := ⟨gi 675 (by decide +kernel) rfl, gi 64 (by decide +kernel) rfl, by decide +kernel, by decide⟩
theorem zi_yX1_dropSlots : (Cond.instanceMethod yX1_dropSlots) ∈ gtb := gi 673 (by decide +kernel) rfl
theorem ze_yX1_dropSlots : (Cond.selects (zcl 1).1 yX1_dropSlots yX1_dropSlots) ∈ gtb := gi 674 (by decide +kernel) rfl
theorem zp_yX1_dropSlots : plainName yX1_dropSlots.cls = true := by decide +kernel
theorem zm_yX1_slotFor : zMd yX1_slotFor cX1_slotFor 5 (some .int) 2 := ⟨gi 425 (by decide +kernel) rfl, gi 64 (by decide +kernel) rfl, by decide +kernel, by decide⟩
theorem zi_yX1_slotFor : (Cond.instanceMethod yX1_slotFor) ∈ gtb := gi 423 (by decide +kernel) rfl
theorem ze_yX1_slotFor : (Cond.selects (zcl 1).1 yX1_slotFor yX1_slotFor) ∈ gtb := gi 424 (by decide +kernel) rfl
theorem zp_yX1_slotFor : plainName yX1_slotFor.cls = true := by decide +kernel
theorem zm_yX1_workOut : zMd yX1_workOut cX1_workOut 2 none 0 := ⟨gi 554 (by decide +kernel) rfl, gi 64 (by decide +kernel) rfl, by decide +kernel, by decide⟩
theorem zi_yX1_workOut : (Cond.instanceMethod yX1_workOut) ∈ gtb := gi 553 (by decide +kernel) rfl
theorem ze_yX1_workOut : (Cond.selects (zcl 1).1 yX1_workOut yX1_workOut) ∈ gtb := gi 3 (by decide +kernel) rfl
theorem zp_yX1_workOut : plainName yX1_workOut.cls = true := by decide +kernel
theorem zm_yX1_workOutReach : zMd yX1_workOutReach cX1_workOutReach 7 none 1 := ⟨gi 558 (by decide +kernel) rfl, gi 64 (by decide +kernel) rfl, by decide +kernel, by decide⟩
theorem zi_yX1_workOutReach : (Cond.instanceMethod yX1_workOutReach) ∈ gtb := gi 557 (by decide +kernel) rfl
theorem ze_yX1_workOutReach : (Cond.selects (zcl 1).1 yX1_workOutReach yX1_workOutReach) ∈ gtb := gi 4 (by decide +kernel) rfl
theorem zp_yX1_workOutReach : plainName yX1_workOutReach.cls = true := by decide +kernel
theorem zm_yX2_init : zMd yX2_init cX2_init 6 none 4 := ⟨gi 190 (by decide +kernel) rfl, gi 66 (by decide +kernel) rfl, by decide +kernel, by decide⟩
theorem zi_yX2_init : (Cond.instanceMethod yX2_init) ∈ gtb := gi 189 (by decide +kernel) rfl
theorem zp_yX2_init : plainName yX2_init.cls = true := by decide +kernel
theorem zm_yX2_readText : zMd yX2_readText cX2_readText 2 none 0 := ⟨gi 575 (by decide +kernel) rfl, gi 66 (by decide +kernel) rfl, by decide +kernel, by decide⟩
theorem zi_yX2_readText : (Cond.instanceMethod yX2_readText) ∈ gtb := gi 573 (by decide +kernel) rfl
theorem ze_yX2_readText : (Cond.selects (zcl 2).1 yX2_readText yX2_readText) ∈ gtb := gi 574 (by decide +kernel) rfl
theorem zp_yX2_readText : plainName yX2_readText.cls = true := by decide +kernel
theorem zm_yX2_countReadAnew : zMd yX2_countReadAnew cX2_countReadAnew 6 none 3 := ⟨gi 733 (by decide +kernel) rfl, gi 66 (by decide +kernel) rfl, by decide +kernel, by decide⟩
theorem zi_yX2_countReadAnew : (Cond.instanceMethod yX2_countReadAnew) ∈ gtb := gi 731 (by decide +kernel) rfl
theorem ze_yX2_countReadAnew : (Cond.selects (zcl 2).1 yX2_countReadAnew yX2_countReadAnew) ∈ gtb := gi 732 (by decide +kernel) rfl
theorem zp_yX2_countReadAnew : plainName yX2_countReadAnew.cls = true := by decide +kernel
theorem zm_yX2_isAsBefore : zMd yX2_isAsBefore cX2_isAsBefore 3 (some .boolean) 2 := ⟨gi 737 (by decide +kernel) rfl, gi 66 (by decide +kernel) rfl, by decide +kernel, by decide⟩
theorem zi_yX2_isAsBefore : (Cond.instanceMethod yX2_isAsBefore) ∈ gtb := gi 736 (by decide +kernel) rfl
theorem ze_yX2_isAsBefore : (Cond.selects (zcl 2).1 yX2_isAsBefore yX2_isAsBefore) ∈ gtb := gi 16 (by decide +kernel) rfl
theorem zp_yX2_isAsBefore : plainName yX2_isAsBefore.cls = true := by decide +kernel
theorem zm_yX2_goThrough : zMd yX2_goThrough cX2_goThrough 9 none 2 := ⟨gi 583 (by decide +kernel) rfl, gi 66 (by decide +kernel) rfl, by decide +kernel, by decide⟩
theorem zi_yX2_goThrough : (Cond.instanceMethod yX2_goThrough) ∈ gtb := gi 582 (by decide +kernel) rfl
theorem ze_yX2_goThrough : (Cond.selects (zcl 2).1 yX2_goThrough yX2_goThrough) ∈ gtb := gi 5 (by decide +kernel) rfl
theorem zp_yX2_goThrough : plainName yX2_goThrough.cls = true := by decide +kernel
theorem zm_yX2_plainLetter : zMd yX2_plainLetter cX2_plainLetter 2 (some .char) 2 := ⟨gi 586 (by decide +kernel) rfl, gi 66 (by decide +kernel) rfl, by decide +kernel, by decide⟩
theorem zs_yX2_plainLetter : (Cond.static yX2_plainLetter) ∈ gtb := gi 585 (by decide +kernel) rfl
theorem zp_yX2_plainLetter : plainName yX2_plainLetter.cls = true := by decide +kernel
theorem zm_yX2_keepState : zMd yX2_keepState cX2_keepState 3 none 2 := ⟨gi 652 (by decide +kernel) rfl, gi 66 (by decide +kernel) rfl, by decide +kernel, by decide⟩
theorem zi_yX2_keepState : (Cond.instanceMethod yX2_keepState) ∈ gtb := gi 651 (by decide +kernel) rfl
theorem ze_yX2_keepState : (Cond.selects (zcl 2).1 yX2_keepState yX2_keepState) ∈ gtb := gi 13 (by decide +kernel) rfl
theorem zp_yX2_keepState : plainName yX2_keepState.cls = true := by decide +kernel
theorem zm_yX2_readToken : zMd yX2_readToken cX2_readToken 5 none 3 := ⟨gi 623 (by decide +kernel) rfl, gi 66 (by decide +kernel) rfl, by decide +kernel, by decide⟩
theorem zi_yX2_readToken : (Cond.instanceMethod yX2_readToken) ∈ gtb := gi 622 (by decide +kernel) rfl
theorem ze_yX2_readToken : (Cond.selects (zcl 2).1 yX2_readToken yX2_readToken) ∈ gtb := gi 9 (by decide +kernel) rfl
theorem zp_yX2_readToken : plainName yX2_readToken.cls = true := by decide +kernel
theorem zm_yX2_isLineLeftOut : zMd yX2_isLineLeftOut cX2_isLineLeftOut 4 (some .boolean) 2 := ⟨gi 640 (by decide +kernel) rfl, gi 66 (by decide +kernel) rfl, by decide +kernel, by decide⟩
theorem zs_yX2_isLineLeftOut : (Cond.static yX2_isLineLeftOut) ∈ gtb := gi 639 (by decide +kernel) rfl
theorem zp_yX2_isLineLeftOut : plainName yX2_isLineLeftOut.cls = true := by decide +kernel
theorem zm_yX2_goThroughEntity : zMd yX2_goThroughEntity cX2_goThroughEntity 5 none 2 := ⟨gi 648 (by decide +kernel) rfl, gi 66 (by decide +kernel) rfl, by decide +kernel, by decide⟩
theorem zi_yX2_goThroughEntity : (Cond.instanceMethod yX2_goThroughEntity) ∈ gtb := gi 647 (by decide +kernel) rfl
theorem ze_yX2_goThroughEntity : (Cond.selects (zcl 2).1 yX2_goThroughEntity yX2_goThroughEntity) ∈ gtb := gi 12 (by decide +kernel) rfl
theorem zp_yX2_goThroughEntity : plainName yX2_goThroughEntity.cls = true := by decide +kernel
theorem zm_yX2_readThing : zMd yX2_readThing cX2_readThing 6 none 2 := ⟨gi 590 (by decide +kernel) rfl, gi 66 (by decide +kernel) rfl, by decide +kernel, by decide⟩
theorem zi_yX2_readThing : (Cond.instanceMethod yX2_readThing) ∈ gtb := gi 589 (by decide +kernel) rfl
theorem ze_yX2_readThing : (Cond.selects (zcl 2).1 yX2_readThing yX2_readThing) ∈ gtb := gi 6 (by decide +kernel) rfl
theorem zp_yX2_readThing : plainName yX2_readThing.cls = true := by decide +kernel
theorem zm_yX2_addThing : zMd yX2_addThing cX2_addThing 6 none 3 := ⟨gi 599 (by decide +kernel) rfl, gi 66 (by decide +kernel) rfl, by decide +kernel, by decide⟩
theorem zi_yX2_addThing : (Cond.instanceMethod yX2_addThing) ∈ gtb := gi 598 (by decide +kernel) rfl
theorem ze_yX2_addThing : (Cond.selects (zcl 2).1 yX2_addThing yX2_addThing) ∈ gtb := gi 8 (by decide +kernel) rfl
theorem zp_yX2_addThing : plainName yX2_addThing.cls = true := by decide +kernel
theorem zm_yX2_closeByTag : zMd yX2_closeByTag cX2_closeByTag 2 none 1 := ⟨gi 631 (by decide +kernel) rfl, gi 66 (by decide +kernel) rfl, by decide +kernel, by decide⟩
theorem zi_yX2_closeByTag : (Cond.instanceMethod yX2_closeByTag) ∈ gtb := gi 630 (by decide +kernel) rfl
theorem ze_yX2_closeByTag : (Cond.selects (zcl 2).1 yX2_closeByTag yX2_closeByTag) ∈ gtb := gi 10 (by decide +kernel) rfl
theorem zp_yX2_closeByTag : plainName yX2_closeByTag.cls = true := by decide +kernel
theorem zm_yX2_closeUpTo : zMd yX2_closeUpTo cX2_closeUpTo 4 none 2 := ⟨gi 635 (by decide +kernel) rfl, gi 66 (by decide +kernel) rfl, by decide +kernel, by decide⟩
theorem zi_yX2_closeUpTo : (Cond.instanceMethod yX2_closeUpTo) ∈ gtb := gi 634 (by decide +kernel) rfl
theorem ze_yX2_closeUpTo : (Cond.selects (zcl 2).1 yX2_closeUpTo yX2_closeUpTo) ∈ gtb := gi 11 (by decide +kernel) rfl
theorem zp_yX2_closeUpTo : plainName yX2_closeUpTo.cls = true := by decide +kernel
theorem zm_yX2_addError : zMd yX2_addError cX2_addError 2 none 1 := ⟨gi 594 (by decide +kernel) rfl, gi 66 (by decide +kernel) rfl, by decide +kernel, by decide⟩
theorem zi_yX2_addError : (Cond.instanceMethod yX2_addError) ∈ gtb := gi 593 (by decide +kernel) rfl
theorem ze_yX2_addError : (Cond.selects (zcl 2).1 yX2_addError yX2_addError) ∈ gtb := gi 7 (by decide +kernel) rfl
theorem zp_yX2_addError : plainName yX2_addError.cls = true := by decide +kernel
theorem zm_yX2_writeNormalForm : zMd yX2_writeNormalForm cX2_writeNormalForm 4 none 0 := ⟨gi 656 (by decide +kernel) rfl, gi 66 (by decide +kernel) rfl, by decide +kernel, by decide⟩
theorem zi_yX2_writeNormalForm : (Cond.instanceMethod yX2_writeNormalForm) ∈ gtb := gi 655 (by decide +kernel) rfl
theorem ze_yX2_writeNormalForm : (Cond.selects (zcl 2).1 yX2_writeNormalForm yX2_writeNormalForm) ∈ gtb := gi 14 (by decide +kernel) rfl
theorem zp_yX2_writeNormalForm : plainName yX2_writeNormalForm.cls = true := by decide +kernel
theorem zm_yX2_writeEnds : zMd yX2_writeEnds cX2_writeEnds 4 (some .int) 2 := ⟨gi 660 (by decide +kernel) rfl, gi 66 (by decide +kernel) rfl, by decide +kernel, by decide⟩
theorem zi_yX2_writeEnds : (Cond.instanceMethod yX2_writeEnds) ∈ gtb := gi 659 (by decide +kernel) rfl
theorem ze_yX2_writeEnds : (Cond.selects (zcl 2).1 yX2_writeEnds yX2_writeEnds) ∈ gtb := gi 15 (by decide +kernel) rfl
theorem zp_yX2_writeEnds : plainName yX2_writeEnds.cls = true := by decide +kernel
theorem zm_yX2_isNormalFormReadAsWritten : zMd yX2_isNormalFormReadAsWritten cX2_isNormalFormReadAsWritten 2 (some .boolean) 0 := ⟨gi 393 (by decide +kernel) rfl, gi 66 (by decide +kernel) rfl, by decide +kernel, by decide⟩
theorem zi_yX2_isNormalFormReadAsWritten : (Cond.instanceMethod yX2_isNormalFormReadAsWritten) ∈ gtb := gi 391 (by decide +kernel) rfl
theorem ze_yX2_isNormalFormReadAsWritten : (Cond.selects (zcl 2).1 yX2_isNormalFormReadAsWritten yX2_isNormalFormReadAsWritten) ∈ gtb := gi 392 (by decide +kernel) rfl
theorem zp_yX2_isNormalFormReadAsWritten : plainName yX2_isNormalFormReadAsWritten.cls = true := by decide +kernel
theorem zm_yX3_init : zMd yX3_init cX3_init 2 none 1 := ⟨gi 164 (by decide +kernel) rfl, gi 65 (by decide +kernel) rfl, by decide +kernel, by decide⟩
theorem zi_yX3_init : (Cond.instanceMethod yX3_init) ∈ gtb := gi 163 (by decide +kernel) rfl
theorem zp_yX3_init : plainName yX3_init.cls = true := by decide +kernel
theorem zm_yX3_sortAt : zMd yX3_sortAt cX3_sortAt 2 (some .int) 1 := ⟨gi 644 (by decide +kernel) rfl, gi 65 (by decide +kernel) rfl, by decide +kernel, by decide⟩
theorem zi_yX3_sortAt : (Cond.instanceMethod yX3_sortAt) ∈ gtb := gi 642 (by decide +kernel) rfl
theorem ze_yX3_sortAt : (Cond.selects (zcl 3).1 yX3_sortAt yX3_sortAt) ∈ gtb := gi 643 (by decide +kernel) rfl
theorem zp_yX3_sortAt : plainName yX3_sortAt.cls = true := by decide +kernel
theorem zm_yX3_putToken : zMd yX3_putToken cX3_putToken 5 none 3 := ⟨gi 664 (by decide +kernel) rfl, gi 65 (by decide +kernel) rfl, by decide +kernel, by decide⟩
theorem zi_yX3_putToken : (Cond.instanceMethod yX3_putToken) ∈ gtb := gi 662 (by decide +kernel) rfl
theorem ze_yX3_putToken : (Cond.selects (zcl 3).1 yX3_putToken yX3_putToken) ∈ gtb := gi 663 (by decide +kernel) rfl
theorem zp_yX3_putToken : plainName yX3_putToken.cls = true := by decide +kernel
theorem zm_yX3_dropToken : zMd yX3_dropToken cX3_dropToken 3 none 1 := ⟨gi 752 (by decide +kernel) rfl, gi 65 (by decide +kernel) rfl, by decide +kernel, by decide⟩
theorem zi_yX3_dropToken : (Cond.instanceMethod yX3_dropToken) ∈ gtb := gi 750 (by decide +kernel) rfl
theorem ze_yX3_dropToken : (Cond.selects (zcl 3).1 yX3_dropToken yX3_dropToken) ∈ gtb := gi 751 (by decide +kernel) rfl
theorem zp_yX3_dropToken : plainName yX3_dropToken.cls = true := by decide +kernel
theorem zm_yX3_copyFrom : zMd yX3_copyFrom cX3_copyFrom 3 none 1 := ⟨gi 764 (by decide +kernel) rfl, gi 65 (by decide +kernel) rfl, by decide +kernel, by decide⟩
theorem zi_yX3_copyFrom : (Cond.instanceMethod yX3_copyFrom) ∈ gtb := gi 762 (by decide +kernel) rfl
theorem ze_yX3_copyFrom : (Cond.selects (zcl 3).1 yX3_copyFrom yX3_copyFrom) ∈ gtb := gi 763 (by decide +kernel) rfl
theorem zp_yX3_copyFrom : plainName yX3_copyFrom.cls = true := by decide +kernel
theorem zm_yX4_init : zMd yX4_init cX4_init 2 none 1 := ⟨gi 235 (by decide +kernel) rfl, gi 68 (by decide +kernel) rfl, by decide +kernel, by decide⟩
theorem zi_yX4_init : (Cond.instanceMethod yX4_init) ∈ gtb := gi 234 (by decide +kernel) rfl
theorem zp_yX4_init : plainName yX4_init.cls = true := by decide +kernel
theorem zm_yX4_restart : zMd yX4_restart cX4_restart 1 none 0 := ⟨gi 397 (by decide +kernel) rfl, gi 68 (by decide +kernel) rfl, by decide +kernel, by decide⟩
theorem zi_yX4_restart : (Cond.instanceMethod yX4_restart) ∈ gtb := gi 395 (by decide +kernel) rfl
theorem ze_yX4_restart : (Cond.selects (zcl 4).1 yX4_restart yX4_restart) ∈ gtb := gi 396 (by decide +kernel) rfl
theorem zp_yX4_restart : plainName yX4_restart.cls = true := by decide +kernel
theorem zm_yX4_copyFrom : zMd yX4_copyFrom cX4_copyFrom 3 none 1 := ⟨gi 579 (by decide +kernel) rfl, gi 68 (by decide +kernel) rfl, by decide +kernel, by decide⟩
theorem zi_yX4_copyFrom : (Cond.instanceMethod yX4_copyFrom) ∈ gtb := gi 577 (by decide +kernel) rfl
theorem ze_yX4_copyFrom : (Cond.selects (zcl 4).1 yX4_copyFrom yX4_copyFrom) ∈ gtb := gi 578 (by decide +kernel) rfl
theorem zp_yX4_copyFrom : plainName yX4_copyFrom.cls = true := by decide +kernel
theorem zm_yX4_isLike : zMd yX4_isLike cX4_isLike 3 (some .boolean) 1 := ⟨gi 741 (by decide +kernel) rfl, gi 68 (by decide +kernel) rfl, by decide +kernel, by decide⟩
theorem zi_yX4_isLike : (Cond.instanceMethod yX4_isLike) ∈ gtb := gi 739 (by decide +kernel) rfl
theorem ze_yX4_isLike : (Cond.selects (zcl 4).1 yX4_isLike yX4_isLike) ∈ gtb := gi 740 (by decide +kernel) rfl
theorem zp_yX4_isLike : plainName yX4_isLike.cls = true := by decide +kernel
theorem zm_yX4_currentElement : zMd yX4_currentElement cX4_currentElement 1 (some .int) 0 := ⟨gi 405 (by decide +kernel) rfl, gi 68 (by decide +kernel) rfl, by decide +kernel, by decide⟩
theorem zi_yX4_currentElement : (Cond.instanceMethod yX4_currentElement) ∈ gtb := gi 403 (by decide +kernel) rfl
theorem ze_yX4_currentElement : (Cond.selects (zcl 4).1 yX4_currentElement yX4_currentElement) ∈ gtb := gi 404 (by decide +kernel) rfl
theorem zp_yX4_currentElement : plainName yX4_currentElement.cls = true := by decide +kernel
theorem zm_yX4_lastOpenOf : zMd yX4_lastOpenOf cX4_lastOpenOf 3 (some .int) 1 := ⟨gi 627 (by decide +kernel) rfl, gi 68 (by decide +kernel) rfl, by decide +kernel, by decide⟩
theorem zi_yX4_lastOpenOf : (Cond.instanceMethod yX4_lastOpenOf) ∈ gtb := gi 625 (by decide +kernel) rfl
theorem ze_yX4_lastOpenOf : (Cond.selects (zcl 4).1 yX4_lastOpenOf yX4_lastOpenOf) ∈ gtb := gi 626 (by decide +kernel) rfl
theorem zp_yX4_lastOpenOf : plainName yX4_lastOpenOf.cls = true := by decide +kernel
theorem zm_yX4_canEnd : zMd yX4_canEnd cX4_canEnd 1 (some .boolean) 0 := ⟨gi 409 (by decide +kernel) rfl, gi 68 (by decide +kernel) rfl, by decide +kernel, by decide⟩
theorem zi_yX4_canEnd : (Cond.instanceMethod yX4_canEnd) ∈ gtb := gi 407 (by decide +kernel) rfl
theorem ze_yX4_canEnd : (Cond.selects (zcl 4).1 yX4_canEnd yX4_canEnd) ∈ gtb := gi 408 (by decide +kernel) rfl
theorem zp_yX4_canEnd : plainName yX4_canEnd.cls = true := by decide +kernel
theorem zm_yX4_goesOnWith : zMd yX4_goesOnWith cX4_goesOnWith 1 (some .int) 0 := ⟨gi 612 (by decide +kernel) rfl, gi 68 (by decide +kernel) rfl, by decide +kernel, by decide⟩
theorem zi_yX4_goesOnWith : (Cond.instanceMethod yX4_goesOnWith) ∈ gtb := gi 610 (by decide +kernel) rfl
theorem ze_yX4_goesOnWith : (Cond.selects (zcl 4).1 yX4_goesOnWith yX4_goesOnWith) ∈ gtb := gi 611 (by decide +kernel) rfl
theorem zp_yX4_goesOnWith : plainName yX4_goesOnWith.cls = true := by decide +kernel
theorem zm_yX4_accept : zMd yX4_accept cX4_accept 3 (some .boolean) 1 := ⟨gi 417 (by decide +kernel) rfl, gi 68 (by decide +kernel) rfl, by decide +kernel, by decide⟩
theorem zi_yX4_accept : (Cond.instanceMethod yX4_accept) ∈ gtb := gi 415 (by decide +kernel) rfl
theorem ze_yX4_accept : (Cond.selects (zcl 4).1 yX4_accept yX4_accept) ∈ gtb := gi 416 (by decide +kernel) rfl
theorem zp_yX4_accept : plainName yX4_accept.cls = true := by decide +kernel
theorem zm_yX4_isExcluded : zMd yX4_isExcluded cX4_isExcluded 3 (some .boolean) 1 := ⟨gi 421 (by decide +kernel) rfl, gi 68 (by decide +kernel) rfl, by decide +kernel, by decide⟩
theorem zi_yX4_isExcluded : (Cond.instanceMethod yX4_isExcluded) ∈ gtb := gi 420 (by decide +kernel) rfl
theorem ze_yX4_isExcluded : (Cond.selects (zcl 4).1 yX4_isExcluded yX4_isExcluded) ∈ gtb := gi 0 (by decide +kernel) rfl
theorem zp_yX4_isExcluded : plainName yX4_isExcluded.cls = true := by decide +kernel
theorem zm_yX4_isIncluded : zMd yX4_isIncluded cX4_isIncluded 3 (some .boolean) 1 := ⟨gi 429 (by decide +kernel) rfl, gi 68 (by decide +kernel) rfl, by decide +kernel, by decide⟩
theorem zi_yX4_isIncluded : (Cond.instanceMethod yX4_isIncluded) ∈ gtb := gi 428 (by decide +kernel) rfl
theorem ze_yX4_isIncluded : (Cond.selects (zcl 4).1 yX4_isIncluded yX4_isIncluded) ∈ gtb := gi 1 (by decide +kernel) rfl
theorem zp_yX4_isIncluded : plainName yX4_isIncluded.cls = true := by decide +kernel
theorem zm_yX4_elementToPutIn : zMd yX4_elementToPutIn cX4_elementToPutIn 3 (some .int) 0 := ⟨gi 608 (by decide +kernel) rfl, gi 68 (by decide +kernel) rfl, by decide +kernel, by decide⟩
theorem zi_yX4_elementToPutIn : (Cond.instanceMethod yX4_elementToPutIn) ∈ gtb := gi 606 (by decide +kernel) rfl
theorem ze_yX4_elementToPutIn : (Cond.selects (zcl 4).1 yX4_elementToPutIn yX4_elementToPutIn) ∈ gtb := gi 607 (by decide +kernel) rfl
theorem zp_yX4_elementToPutIn : plainName yX4_elementToPutIn.cls = true := by decide +kernel
theorem zm_yX4_mayCloseUnasked : zMd yX4_mayCloseUnasked cX4_mayCloseUnasked 1 (some .boolean) 0 := ⟨gi 618 (by decide +kernel) rfl, gi 68 (by decide +kernel) rfl, by decide +kernel, by decide⟩
theorem zi_yX4_mayCloseUnasked : (Cond.instanceMethod yX4_mayCloseUnasked) ∈ gtb := gi 616 (by decide +kernel) rfl
theorem ze_yX4_mayCloseUnasked : (Cond.selects (zcl 4).1 yX4_mayCloseUnasked yX4_mayCloseUnasked) ∈ gtb := gi 617 (by decide +kernel) rfl
theorem zp_yX4_mayCloseUnasked : plainName yX4_mayCloseUnasked.cls = true := by decide +kernel
theorem zm_yX4_enter : zMd yX4_enter cX4_enter 2 none 1 := ⟨gi 433 (by decide +kernel) rfl, gi 68 (by decide +kernel) rfl, by decide +kernel, by decide⟩
theorem zi_yX4_enter : (Cond.instanceMethod yX4_enter) ∈ gtb := gi 431 (by decide +kernel) rfl
theorem ze_yX4_enter : (Cond.selects (zcl 4).1 yX4_enter yX4_enter) ∈ gtb := gi 432 (by decide +kernel) rfl
theorem zp_yX4_enter : plainName yX4_enter.cls = true := by decide +kernel
theorem zm_yX4_leave : zMd yX4_leave cX4_leave 1 none 0 := ⟨gi 413 (by decide +kernel) rfl, gi 68 (by decide +kernel) rfl, by decide +kernel, by decide⟩
theorem zi_yX4_leave : (Cond.instanceMethod yX4_leave) ∈ gtb := gi 411 (by decide +kernel) rfl
theorem ze_yX4_leave : (Cond.selects (zcl 4).1 yX4_leave yX4_leave) ∈ gtb := gi 412 (by decide +kernel) rfl
theorem zp_yX4_leave : plainName yX4_leave.cls = true := by decide +kernel
theorem zm_yX4_readAsWritten : zMd yX4_readAsWritten cX4_readAsWritten 3 (some .boolean) 2 := ⟨gi 401 (by decide +kernel) rfl, gi 68 (by decide +kernel) rfl, by decide +kernel, by decide⟩
theorem zi_yX4_readAsWritten : (Cond.instanceMethod yX4_readAsWritten) ∈ gtb := gi 399 (by decide +kernel) rfl
theorem ze_yX4_readAsWritten : (Cond.selects (zcl 4).1 yX4_readAsWritten yX4_readAsWritten) ∈ gtb := gi 400 (by decide +kernel) rfl
theorem zp_yX4_readAsWritten : plainName yX4_readAsWritten.cls = true := by decide +kernel
theorem zm_yX5_init : zMd yX5_init cX5_init 1 none 0 := ⟨gi 196 (by decide +kernel) rfl, gi 67 (by decide +kernel) rfl, by decide +kernel, by decide⟩
theorem zi_yX5_init : (Cond.instanceMethod yX5_init) ∈ gtb := gi 195 (by decide +kernel) rfl
theorem zp_yX5_init : plainName yX5_init.cls = true := by decide +kernel
theorem zm_yX5_addThing : zMd yX5_addThing cX5_addThing 6 none 5 := ⟨gi 603 (by decide +kernel) rfl, gi 67 (by decide +kernel) rfl, by decide +kernel, by decide⟩
theorem zi_yX5_addThing : (Cond.instanceMethod yX5_addThing) ∈ gtb := gi 601 (by decide +kernel) rfl
theorem ze_yX5_addThing : (Cond.selects (zcl 5).1 yX5_addThing yX5_addThing) ∈ gtb := gi 602 (by decide +kernel) rfl
theorem zp_yX5_addThing : plainName yX5_addThing.cls = true := by decide +kernel
theorem zm_yX6_init : zMd yX6_init cX6_init 4 none 2 := ⟨gi 326 (by decide +kernel) rfl, gi 69 (by decide +kernel) rfl, by decide +kernel, by decide⟩
theorem zi_yX6_init : (Cond.instanceMethod yX6_init) ∈ gtb := gi 325 (by decide +kernel) rfl
theorem zp_yX6_init : plainName yX6_init.cls = true := by decide +kernel
theorem zm_yX6_countWays : zMd yX6_countWays cX6_countWays 1 (some .int) 0 := ⟨gi 864 (by decide +kernel) rfl, gi 69 (by decide +kernel) rfl, by decide +kernel, by decide⟩
theorem zi_yX6_countWays : (Cond.instanceMethod yX6_countWays) ∈ gtb := gi 862 (by decide +kernel) rfl
theorem ze_yX6_countWays : (Cond.selects (zcl 6).1 yX6_countWays yX6_countWays) ∈ gtb := gi 863 (by decide +kernel) rfl
theorem zp_yX6_countWays : plainName yX6_countWays.cls = true := by decide +kernel
theorem zm_yX6_tryFrom : zMd yX6_tryFrom cX6_tryFrom 5 none 2 := ⟨gi 869 (by decide +kernel) rfl, gi 69 (by decide +kernel) rfl, by decide +kernel, by decide⟩
theorem zi_yX6_tryFrom : (Cond.instanceMethod yX6_tryFrom) ∈ gtb := gi 868 (by decide +kernel) rfl
theorem ze_yX6_tryFrom : (Cond.selects (zcl 6).1 yX6_tryFrom yX6_tryFrom) ∈ gtb := gi 17 (by decide +kernel) rfl
theorem zp_yX6_tryFrom : plainName yX6_tryFrom.cls = true := by decide +kernel
theorem zm_yX6_tryToken : zMd yX6_tryToken cX6_tryToken 7 none 5 := ⟨gi 873 (by decide +kernel) rfl, gi 69 (by decide +kernel) rfl, by decide +kernel, by decide⟩
theorem zi_yX6_tryToken : (Cond.instanceMethod yX6_tryToken) ∈ gtb := gi 872 (by decide +kernel) rfl
theorem ze_yX6_tryToken : (Cond.selects (zcl 6).1 yX6_tryToken yX6_tryToken) ∈ gtb := gi 18 (by decide +kernel) rfl
theorem zp_yX6_tryToken : plainName yX6_tryToken.cls = true := by decide +kernel
theorem zm_yX7_init : zMd yX7_init cX7_init 2 none 0 := ⟨gi 82 (by decide +kernel) rfl, gi 62 (by decide +kernel) rfl, by decide +kernel, by decide⟩
theorem zi_yX7_init : (Cond.instanceMethod yX7_init) ∈ gtb := gi 81 (by decide +kernel) rfl
theorem zp_yX7_init : plainName yX7_init.cls = true := by decide +kernel
theorem zm_yX7_slot : zMd yX7_slot cX7_slot 8 (some .int) 4 := ⟨gi 443 (by decide +kernel) rfl, gi 62 (by decide +kernel) rfl, by decide +kernel, by decide⟩
theorem zi_yX7_slot : (Cond.instanceMethod yX7_slot) ∈ gtb := gi 441 (by decide +kernel) rfl
theorem ze_yX7_slot : (Cond.selects (zcl 7).1 yX7_slot yX7_slot) ∈ gtb := gi 442 (by decide +kernel) rfl
theorem zp_yX7_slot : plainName yX7_slot.cls = true := by decide +kernel
theorem zm_yX7_empty : zMd yX7_empty cX7_empty 3 (some .int) 1 := ⟨gi 671 (by decide +kernel) rfl, gi 62 (by decide +kernel) rfl, by decide +kernel, by decide⟩
theorem zi_yX7_empty : (Cond.instanceMethod yX7_empty) ∈ gtb := gi 669 (by decide +kernel) rfl
theorem ze_yX7_empty : (Cond.selects (zcl 7).1 yX7_empty yX7_empty) ∈ gtb := gi 670 (by decide +kernel) rfl
theorem zp_yX7_empty : plainName yX7_empty.cls = true := by decide +kernel
theorem zm_yX7_except : zMd yX7_except cX7_except 4 none 3 := ⟨gi 682 (by decide +kernel) rfl, gi 62 (by decide +kernel) rfl, by decide +kernel, by decide⟩
theorem zi_yX7_except : (Cond.instanceMethod yX7_except) ∈ gtb := gi 680 (by decide +kernel) rfl
theorem ze_yX7_except : (Cond.selects (zcl 7).1 yX7_except yX7_except) ∈ gtb := gi 681 (by decide +kernel) rfl
theorem zp_yX7_except : plainName yX7_except.cls = true := by decide +kernel
theorem zm_yX7_omit : zMd yX7_omit cX7_omit 4 none 3 := ⟨gi 690 (by decide +kernel) rfl, gi 62 (by decide +kernel) rfl, by decide +kernel, by decide⟩
theorem zi_yX7_omit : (Cond.instanceMethod yX7_omit) ∈ gtb := gi 688 (by decide +kernel) rfl
theorem ze_yX7_omit : (Cond.selects (zcl 7).1 yX7_omit yX7_omit) ∈ gtb := gi 689 (by decide +kernel) rfl
theorem zp_yX7_omit : plainName yX7_omit.cls = true := by decide +kernel
theorem zm_yX7_entity : zMd yX7_entity cX7_entity 5 (some .int) 3 := ⟨gi 697 (by decide +kernel) rfl, gi 62 (by decide +kernel) rfl, by decide +kernel, by decide⟩
theorem zi_yX7_entity : (Cond.instanceMethod yX7_entity) ∈ gtb := gi 695 (by decide +kernel) rfl
theorem ze_yX7_entity : (Cond.selects (zcl 7).1 yX7_entity yX7_entity) ∈ gtb := gi 696 (by decide +kernel) rfl
theorem zp_yX7_entity : plainName yX7_entity.cls = true := by decide +kernel
theorem zm_yX7_clear : zMd yX7_clear cX7_clear 3 (some .int) 1 := ⟨gi 713 (by decide +kernel) rfl, gi 62 (by decide +kernel) rfl, by decide +kernel, by decide⟩
theorem zi_yX7_clear : (Cond.instanceMethod yX7_clear) ∈ gtb := gi 711 (by decide +kernel) rfl
theorem ze_yX7_clear : (Cond.selects (zcl 7).1 yX7_clear yX7_clear) ∈ gtb := gi 712 (by decide +kernel) rfl
theorem zp_yX7_clear : plainName yX7_clear.cls = true := by decide +kernel
theorem zm_yX7_flip : zMd yX7_flip cX7_flip 4 (some .int) 2 := ⟨gi 720 (by decide +kernel) rfl, gi 62 (by decide +kernel) rfl, by decide +kernel, by decide⟩
theorem zi_yX7_flip : (Cond.instanceMethod yX7_flip) ∈ gtb := gi 718 (by decide +kernel) rfl
theorem ze_yX7_flip : (Cond.selects (zcl 7).1 yX7_flip yX7_flip) ∈ gtb := gi 719 (by decide +kernel) rfl
theorem zp_yX7_flip : plainName yX7_flip.cls = true := by decide +kernel
theorem zm_yX7_insert : zMd yX7_insert cX7_insert 4 (some .int) 3 := ⟨gi 728 (by decide +kernel) rfl, gi 62 (by decide +kernel) rfl, by decide +kernel, by decide⟩
theorem zi_yX7_insert : (Cond.instanceMethod yX7_insert) ∈ gtb := gi 726 (by decide +kernel) rfl
theorem ze_yX7_insert : (Cond.selects (zcl 7).1 yX7_insert yX7_insert) ∈ gtb := gi 727 (by decide +kernel) rfl
theorem zp_yX7_insert : plainName yX7_insert.cls = true := by decide +kernel
theorem zm_yX7_erase : zMd yX7_erase cX7_erase 2 (some .int) 1 := ⟨gi 748 (by decide +kernel) rfl, gi 62 (by decide +kernel) rfl, by decide +kernel, by decide⟩
theorem zi_yX7_erase : (Cond.instanceMethod yX7_erase) ∈ gtb := gi 746 (by decide +kernel) rfl
theorem ze_yX7_erase : (Cond.selects (zcl 7).1 yX7_erase yX7_erase) ∈ gtb := gi 747 (by decide +kernel) rfl
theorem zp_yX7_erase : plainName yX7_erase.cls = true := by decide +kernel
theorem zm_yX7_normalize : zMd yX7_normalize cX7_normalize 1 (some .int) 0 := ⟨gi 759 (by decide +kernel) rfl, gi 62 (by decide +kernel) rfl, by decide +kernel, by decide⟩
theorem zi_yX7_normalize : (Cond.instanceMethod yX7_normalize) ∈ gtb := gi 757 (by decide +kernel) rfl
theorem ze_yX7_normalize : (Cond.selects (zcl 7).1 yX7_normalize yX7_normalize) ∈ gtb := gi 758 (by decide +kernel) rfl
theorem zp_yX7_normalize : plainName yX7_normalize.cls = true := by decide +kernel
theorem zm_yX7_length : zMd yX7_length cX7_length 1 (some .int) 0 := ⟨gi 365 (by decide +kernel) rfl, gi 62 (by decide +kernel) rfl, by decide +kernel, by decide⟩
theorem zi_yX7_length : (Cond.instanceMethod yX7_length) ∈ gtb := gi 363 (by decide +kernel) rfl
theorem ze_yX7_length : (Cond.selects (zcl 7).1 yX7_length yX7_length) ∈ gtb := gi 364 (by decide +kernel) rfl
theorem zp_yX7_length : plainName yX7_length.cls = true := by decide +kernel
theorem zm_yX7_anew : zMd yX7_anew cX7_anew 1 (some .int) 0 := ⟨gi 369 (by decide +kernel) rfl, gi 62 (by decide +kernel) rfl, by decide +kernel, by decide⟩
theorem zi_yX7_anew : (Cond.instanceMethod yX7_anew) ∈ gtb := gi 367 (by decide +kernel) rfl
theorem ze_yX7_anew : (Cond.selects (zcl 7).1 yX7_anew yX7_anew) ∈ gtb := gi 368 (by decide +kernel) rfl
theorem zp_yX7_anew : plainName yX7_anew.cls = true := by decide +kernel
theorem zm_yX7_open : zMd yX7_open cX7_open 2 (some .int) 1 := ⟨gi 772 (by decide +kernel) rfl, gi 62 (by decide +kernel) rfl, by decide +kernel, by decide⟩
theorem zi_yX7_open : (Cond.instanceMethod yX7_open) ∈ gtb := gi 770 (by decide +kernel) rfl
theorem ze_yX7_open : (Cond.selects (zcl 7).1 yX7_open yX7_open) ∈ gtb := gi 771 (by decide +kernel) rfl
theorem zp_yX7_open : plainName yX7_open.cls = true := by decide +kernel
theorem zm_yX7_current : zMd yX7_current cX7_current 2 (some .int) 1 := ⟨gi 779 (by decide +kernel) rfl, gi 62 (by decide +kernel) rfl, by decide +kernel, by decide⟩
theorem zi_yX7_current : (Cond.instanceMethod yX7_current) ∈ gtb := gi 777 (by decide +kernel) rfl
theorem ze_yX7_current : (Cond.selects (zcl 7).1 yX7_current yX7_current) ∈ gtb := gi 778 (by decide +kernel) rfl
theorem zp_yX7_current : plainName yX7_current.cls = true := by decide +kernel
theorem zm_yX7_next : zMd yX7_next cX7_next 2 (some .int) 1 := ⟨gi 787 (by decide +kernel) rfl, gi 62 (by decide +kernel) rfl, by decide +kernel, by decide⟩
theorem zi_yX7_next : (Cond.instanceMethod yX7_next) ∈ gtb := gi 785 (by decide +kernel) rfl
theorem ze_yX7_next : (Cond.selects (zcl 7).1 yX7_next yX7_next) ∈ gtb := gi 786 (by decide +kernel) rfl
theorem zp_yX7_next : plainName yX7_next.cls = true := by decide +kernel
theorem zm_yX7_things : zMd yX7_things cX7_things 1 (some .int) 0 := ⟨gi 373 (by decide +kernel) rfl, gi 62 (by decide +kernel) rfl, by decide +kernel, by decide⟩
theorem zi_yX7_things : (Cond.instanceMethod yX7_things) ∈ gtb := gi 371 (by decide +kernel) rfl
theorem ze_yX7_things : (Cond.selects (zcl 7).1 yX7_things yX7_things) ∈ gtb := gi 372 (by decide +kernel) rfl
theorem zp_yX7_things : plainName yX7_things.cls = true := by decide +kernel
theorem zm_yX7_kind : zMd yX7_kind cX7_kind 2 (some .int) 1 := ⟨gi 795 (by decide +kernel) rfl, gi 62 (by decide +kernel) rfl, by decide +kernel, by decide⟩
theorem zi_yX7_kind : (Cond.instanceMethod yX7_kind) ∈ gtb := gi 793 (by decide +kernel) rfl
theorem ze_yX7_kind : (Cond.selects (zcl 7).1 yX7_kind yX7_kind) ∈ gtb := gi 794 (by decide +kernel) rfl
theorem zp_yX7_kind : plainName yX7_kind.cls = true := by decide +kernel
theorem zm_yX7_parent : zMd yX7_parent cX7_parent 2 (some .int) 1 := ⟨gi 802 (by decide +kernel) rfl, gi 62 (by decide +kernel) rfl, by decide +kernel, by decide⟩
theorem zi_yX7_parent : (Cond.instanceMethod yX7_parent) ∈ gtb := gi 800 (by decide +kernel) rfl
theorem ze_yX7_parent : (Cond.selects (zcl 7).1 yX7_parent yX7_parent) ∈ gtb := gi 801 (by decide +kernel) rfl
theorem zp_yX7_parent : plainName yX7_parent.cls = true := by decide +kernel
theorem zm_yX7_letter : zMd yX7_letter cX7_letter 2 (some .char) 1 := ⟨gi 809 (by decide +kernel) rfl, gi 62 (by decide +kernel) rfl, by decide +kernel, by decide⟩
theorem zi_yX7_letter : (Cond.instanceMethod yX7_letter) ∈ gtb := gi 807 (by decide +kernel) rfl
theorem ze_yX7_letter : (Cond.selects (zcl 7).1 yX7_letter yX7_letter) ∈ gtb := gi 808 (by decide +kernel) rfl
theorem zp_yX7_letter : plainName yX7_letter.cls = true := by decide +kernel
theorem zm_yX7_placeOf : zMd yX7_placeOf cX7_placeOf 2 (some .int) 1 := ⟨gi 816 (by decide +kernel) rfl, gi 62 (by decide +kernel) rfl, by decide +kernel, by decide⟩
theorem zi_yX7_placeOf : (Cond.instanceMethod yX7_placeOf) ∈ gtb := gi 814 (by decide +kernel) rfl
theorem ze_yX7_placeOf : (Cond.selects (zcl 7).1 yX7_placeOf yX7_placeOf) ∈ gtb := gi 815 (by decide +kernel) rfl
theorem zp_yX7_placeOf : plainName yX7_placeOf.cls = true := by decide +kernel
theorem zm_yX7_isPutIn : zMd yX7_isPutIn cX7_isPutIn 2 (some .boolean) 1 := ⟨gi 823 (by decide +kernel) rfl, gi 62 (by decide +kernel) rfl, by decide +kernel, by decide⟩
theorem zi_yX7_isPutIn : (Cond.instanceMethod yX7_isPutIn) ∈ gtb := gi 821 (by decide +kernel) rfl
theorem ze_yX7_isPutIn : (Cond.selects (zcl 7).1 yX7_isPutIn yX7_isPutIn) ∈ gtb := gi 822 (by decide +kernel) rfl
theorem zp_yX7_isPutIn : plainName yX7_isPutIn.cls = true := by decide +kernel
theorem zm_yX7_endsPutIn : zMd yX7_endsPutIn cX7_endsPutIn 1 (some .int) 0 := ⟨gi 377 (by decide +kernel) rfl, gi 62 (by decide +kernel) rfl, by decide +kernel, by decide⟩
theorem zi_yX7_endsPutIn : (Cond.instanceMethod yX7_endsPutIn) ∈ gtb := gi 375 (by decide +kernel) rfl
theorem ze_yX7_endsPutIn : (Cond.selects (zcl 7).1 yX7_endsPutIn yX7_endsPutIn) ∈ gtb := gi 376 (by decide +kernel) rfl
theorem zp_yX7_endsPutIn : plainName yX7_endsPutIn.cls = true := by decide +kernel
theorem zm_yX7_errors : zMd yX7_errors cX7_errors 1 (some .int) 0 := ⟨gi 381 (by decide +kernel) rfl, gi 62 (by decide +kernel) rfl, by decide +kernel, by decide⟩
theorem zi_yX7_errors : (Cond.instanceMethod yX7_errors) ∈ gtb := gi 379 (by decide +kernel) rfl
theorem ze_yX7_errors : (Cond.selects (zcl 7).1 yX7_errors yX7_errors) ∈ gtb := gi 380 (by decide +kernel) rfl
theorem zp_yX7_errors : plainName yX7_errors.cls = true := by decide +kernel
theorem zm_yX7_errorKind : zMd yX7_errorKind cX7_errorKind 2 (some .int) 1 := ⟨gi 830 (by decide +kernel) rfl, gi 62 (by decide +kernel) rfl, by decide +kernel, by decide⟩
theorem zi_yX7_errorKind : (Cond.instanceMethod yX7_errorKind) ∈ gtb := gi 828 (by decide +kernel) rfl
theorem ze_yX7_errorKind : (Cond.selects (zcl 7).1 yX7_errorKind yX7_errorKind) ∈ gtb := gi 829 (by decide +kernel) rfl
theorem zp_yX7_errorKind : plainName yX7_errorKind.cls = true := by decide +kernel
theorem zm_yX7_errorAt : zMd yX7_errorAt cX7_errorAt 2 (some .int) 1 := ⟨gi 837 (by decide +kernel) rfl, gi 62 (by decide +kernel) rfl, by decide +kernel, by decide⟩
theorem zi_yX7_errorAt : (Cond.instanceMethod yX7_errorAt) ∈ gtb := gi 835 (by decide +kernel) rfl
theorem ze_yX7_errorAt : (Cond.selects (zcl 7).1 yX7_errorAt yX7_errorAt) ∈ gtb := gi 836 (by decide +kernel) rfl
theorem zp_yX7_errorAt : plainName yX7_errorAt.cls = true := by decide +kernel
theorem zm_yX7_normal : zMd yX7_normal cX7_normal 1 (some .int) 0 := ⟨gi 385 (by decide +kernel) rfl, gi 62 (by decide +kernel) rfl, by decide +kernel, by decide⟩
theorem zi_yX7_normal : (Cond.instanceMethod yX7_normal) ∈ gtb := gi 383 (by decide +kernel) rfl
theorem ze_yX7_normal : (Cond.selects (zcl 7).1 yX7_normal yX7_normal) ∈ gtb := gi 384 (by decide +kernel) rfl
theorem zp_yX7_normal : plainName yX7_normal.cls = true := by decide +kernel
theorem zm_yX7_normalSort : zMd yX7_normalSort cX7_normalSort 2 (some .int) 1 := ⟨gi 844 (by decide +kernel) rfl, gi 62 (by decide +kernel) rfl, by decide +kernel, by decide⟩
theorem zi_yX7_normalSort : (Cond.instanceMethod yX7_normalSort) ∈ gtb := gi 842 (by decide +kernel) rfl
theorem ze_yX7_normalSort : (Cond.selects (zcl 7).1 yX7_normalSort yX7_normalSort) ∈ gtb := gi 843 (by decide +kernel) rfl
theorem zp_yX7_normalSort : plainName yX7_normalSort.cls = true := by decide +kernel
theorem zm_yX7_normalValue : zMd yX7_normalValue cX7_normalValue 2 (some .int) 1 := ⟨gi 851 (by decide +kernel) rfl, gi 62 (by decide +kernel) rfl, by decide +kernel, by decide⟩
theorem zi_yX7_normalValue : (Cond.instanceMethod yX7_normalValue) ∈ gtb := gi 849 (by decide +kernel) rfl
theorem ze_yX7_normalValue : (Cond.selects (zcl 7).1 yX7_normalValue yX7_normalValue) ∈ gtb := gi 850 (by decide +kernel) rfl
theorem zp_yX7_normalValue : plainName yX7_normalValue.cls = true := by decide +kernel
theorem zm_yX7_isSame : zMd yX7_isSame cX7_isSame 1 (some .boolean) 0 := ⟨gi 389 (by decide +kernel) rfl, gi 62 (by decide +kernel) rfl, by decide +kernel, by decide⟩
theorem zi_yX7_isSame : (Cond.instanceMethod yX7_isSame) ∈ gtb := gi 387 (by decide +kernel) rfl
theorem ze_yX7_isSame : (Cond.selects (zcl 7).1 yX7_isSame yX7_isSame) ∈ gtb := gi 388 (by decide +kernel) rfl
theorem zp_yX7_isSame : plainName yX7_isSame.cls = true := by decide +kernel
theorem zm_yX7_ways : zMd yX7_ways cX7_ways 3 (some .int) 0 := ⟨gi 858 (by decide +kernel) rfl, gi 62 (by decide +kernel) rfl, by decide +kernel, by decide⟩
theorem zi_yX7_ways : (Cond.instanceMethod yX7_ways) ∈ gtb := gi 856 (by decide +kernel) rfl
theorem ze_yX7_ways : (Cond.selects (zcl 7).1 yX7_ways yX7_ways) ∈ gtb := gi 857 (by decide +kernel) rfl
theorem zp_yX7_ways : plainName yX7_ways.cls = true := by decide +kernel
theorem zm_yX7_checkIndex : zMd yX7_checkIndex cX7_checkIndex 2 none 2 := ⟨gi 446 (by decide +kernel) rfl, gi 62 (by decide +kernel) rfl, by decide +kernel, by decide⟩
theorem zs_yX7_checkIndex : (Cond.static yX7_checkIndex) ∈ gtb := gi 445 (by decide +kernel) rfl
theorem zp_yX7_checkIndex : plainName yX7_checkIndex.cls = true := by decide +kernel
theorem zm_yX7_checkToken : zMd yX7_checkToken cX7_checkToken 2 none 2 := ⟨gi 700 (by decide +kernel) rfl, gi 62 (by decide +kernel) rfl, by decide +kernel, by decide⟩
theorem zs_yX7_checkToken : (Cond.static yX7_checkToken) ∈ gtb := gi 699 (by decide +kernel) rfl
theorem zp_yX7_checkToken : plainName yX7_checkToken.cls = true := by decide +kernel
theorem zm_yX7_isValueOf : zMd yX7_isValueOf cX7_isValueOf 2 (some .boolean) 2 := ⟨gi 703 (by decide +kernel) rfl, gi 62 (by decide +kernel) rfl, by decide +kernel, by decide⟩
theorem zs_yX7_isValueOf : (Cond.static yX7_isValueOf) ∈ gtb := gi 702 (by decide +kernel) rfl
theorem zp_yX7_isValueOf : plainName yX7_isValueOf.cls = true := by decide +kernel
theorem zm_yX7_lowestOf : zMd yX7_lowestOf cX7_lowestOf 1 (some .int) 1 := ⟨gi 561 (by decide +kernel) rfl, gi 62 (by decide +kernel) rfl, by decide +kernel, by decide⟩
theorem zs_yX7_lowestOf : (Cond.static yX7_lowestOf) ∈ gtb := gi 560 (by decide +kernel) rfl
theorem zp_yX7_lowestOf : plainName yX7_lowestOf.cls = true := by decide +kernel
theorem zm_yX8_init : zMd yX8_init cX8_init 1 none 0 := ⟨gi 880 (by decide +kernel) rfl, gi 70 (by decide +kernel) rfl, by decide +kernel, by decide⟩
theorem zi_yX8_init : (Cond.instanceMethod yX8_init) ∈ gtb := gi 879 (by decide +kernel) rfl
theorem zp_yX8_init : plainName yX8_init.cls = true := by decide +kernel
theorem zm_yX8_thrown : zMd yX8_thrown cX8_thrown 1 (some .int) 0 := ⟨gi 1168 (by decide +kernel) rfl, gi 70 (by decide +kernel) rfl, by decide +kernel, by decide⟩
theorem zi_yX8_thrown : (Cond.instanceMethod yX8_thrown) ∈ gtb := gi 1166 (by decide +kernel) rfl
theorem ze_yX8_thrown : (Cond.selects (zcl 8).1 yX8_thrown yX8_thrown) ∈ gtb := gi 1167 (by decide +kernel) rfl
theorem zp_yX8_thrown : plainName yX8_thrown.cls = true := by decide +kernel
theorem zm_yX8_in : zMd yX8_in cX8_in 3 (some .boolean) 3 := ⟨gi 912 (by decide +kernel) rfl, gi 70 (by decide +kernel) rfl, by decide +kernel, by decide⟩
theorem zs_yX8_in : (Cond.static yX8_in) ∈ gtb := gi 911 (by decide +kernel) rfl
theorem zp_yX8_in : plainName yX8_in.cls = true := by decide +kernel
theorem zm_yX8_goes : zMd yX8_goes cX8_goes 4 (some .boolean) 3 := ⟨gi 1176 (by decide +kernel) rfl, gi 70 (by decide +kernel) rfl, by decide +kernel, by decide⟩
theorem zi_yX8_goes : (Cond.instanceMethod yX8_goes) ∈ gtb := gi 1175 (by decide +kernel) rfl
theorem ze_yX8_goes : (Cond.selects (zcl 8).1 yX8_goes yX8_goes) ∈ gtb := gi 46 (by decide +kernel) rfl
theorem zp_yX8_goes : plainName yX8_goes.cls = true := by decide +kernel
theorem zm_yX8_hasEnough : zMd yX8_hasEnough cX8_hasEnough 3 (some .boolean) 2 := ⟨gi 952 (by decide +kernel) rfl, gi 70 (by decide +kernel) rfl, by decide +kernel, by decide⟩
theorem zi_yX8_hasEnough : (Cond.instanceMethod yX8_hasEnough) ∈ gtb := gi 951 (by decide +kernel) rfl
theorem ze_yX8_hasEnough : (Cond.selects (zcl 8).1 yX8_hasEnough yX8_hasEnough) ∈ gtb := gi 35 (by decide +kernel) rfl
theorem zp_yX8_hasEnough : plainName yX8_hasEnough.cls = true := by decide +kernel
theorem zm_yX8_hasThing : zMd yX8_hasThing cX8_hasThing 4 (some .boolean) 3 := ⟨gi 948 (by decide +kernel) rfl, gi 70 (by decide +kernel) rfl, by decide +kernel, by decide⟩
theorem zi_yX8_hasThing : (Cond.instanceMethod yX8_hasThing) ∈ gtb := gi 947 (by decide +kernel) rfl
theorem ze_yX8_hasThing : (Cond.selects (zcl 8).1 yX8_hasThing yX8_hasThing) ∈ gtb := gi 34 (by decide +kernel) rfl
theorem zp_yX8_hasThing : plainName yX8_hasThing.cls = true := by decide +kernel
theorem zm_yX8_goesBy : zMd yX8_goesBy cX8_goesBy 8 (some .int) 4 := ⟨gi 944 (by decide +kernel) rfl, gi 70 (by decide +kernel) rfl, by decide +kernel, by decide⟩
theorem zi_yX8_goesBy : (Cond.instanceMethod yX8_goesBy) ∈ gtb := gi 943 (by decide +kernel) rfl
theorem ze_yX8_goesBy : (Cond.selects (zcl 8).1 yX8_goesBy yX8_goesBy) ∈ gtb := gi 33 (by decide +kernel) rfl
theorem zp_yX8_goesBy : plainName yX8_goesBy.cls = true := by decide +kernel
theorem zm_yX8_goesOn : zMd yX8_goesOn cX8_goesOn 6 (some .int) 3 := ⟨gi 980 (by decide +kernel) rfl, gi 70 (by decide +kernel) rfl, by decide +kernel, by decide⟩
theorem zi_yX8_goesOn : (Cond.instanceMethod yX8_goesOn) ∈ gtb := gi 979 (by decide +kernel) rfl
theorem ze_yX8_goesOn : (Cond.selects (zcl 8).1 yX8_goesOn yX8_goesOn) ∈ gtb := gi 42 (by decide +kernel) rfl
theorem zp_yX8_goesOn : plainName yX8_goesOn.cls = true := by decide +kernel
theorem zm_yX8_canEnd : zMd yX8_canEnd cX8_canEnd 6 (some .boolean) 3 := ⟨gi 976 (by decide +kernel) rfl, gi 70 (by decide +kernel) rfl, by decide +kernel, by decide⟩
theorem zi_yX8_canEnd : (Cond.instanceMethod yX8_canEnd) ∈ gtb := gi 975 (by decide +kernel) rfl
theorem ze_yX8_canEnd : (Cond.selects (zcl 8).1 yX8_canEnd yX8_canEnd) ∈ gtb := gi 41 (by decide +kernel) rfl
theorem zp_yX8_canEnd : plainName yX8_canEnd.cls = true := by decide +kernel
theorem zm_yX8_isDouble : zMd yX8_isDouble cX8_isDouble 9 (some .boolean) 4 := ⟨gi 1180 (by decide +kernel) rfl, gi 70 (by decide +kernel) rfl, by decide +kernel, by decide⟩
theorem zi_yX8_isDouble : (Cond.instanceMethod yX8_isDouble) ∈ gtb := gi 1179 (by decide +kernel) rfl
theorem ze_yX8_isDouble : (Cond.selects (zcl 8).1 yX8_isDouble yX8_isDouble) ∈ gtb := gi 47 (by decide +kernel) rfl
theorem zp_yX8_isDouble : plainName yX8_isDouble.cls = true := by decide +kernel
theorem zm_yX8_slot : zMd yX8_slot cX8_slot 9 (some .int) 4 := ⟨gi 1172 (by decide +kernel) rfl, gi 70 (by decide +kernel) rfl, by decide +kernel, by decide⟩
theorem zi_yX8_slot : (Cond.instanceMethod yX8_slot) ∈ gtb := gi 1170 (by decide +kernel) rfl
theorem ze_yX8_slot : (Cond.selects (zcl 8).1 yX8_slot yX8_slot) ∈ gtb := gi 1171 (by decide +kernel) rfl
theorem zp_yX8_slot : plainName yX8_slot.cls = true := by decide +kernel
theorem zm_yX8_allAnew : zMd yX8_allAnew cX8_allAnew 1 none 0 := ⟨gi 1184 (by decide +kernel) rfl, gi 70 (by decide +kernel) rfl, by decide +kernel, by decide⟩
theorem zi_yX8_allAnew : (Cond.instanceMethod yX8_allAnew) ∈ gtb := gi 1183 (by decide +kernel) rfl
theorem ze_yX8_allAnew : (Cond.selects (zcl 8).1 yX8_allAnew yX8_allAnew) ∈ gtb := gi 48 (by decide +kernel) rfl
theorem zp_yX8_allAnew : plainName yX8_allAnew.cls = true := by decide +kernel
theorem zm_yX8_empty : zMd yX8_empty cX8_empty 3 (some .int) 1 := ⟨gi 1188 (by decide +kernel) rfl, gi 70 (by decide +kernel) rfl, by decide +kernel, by decide⟩
theorem zi_yX8_empty : (Cond.instanceMethod yX8_empty) ∈ gtb := gi 1186 (by decide +kernel) rfl
theorem ze_yX8_empty : (Cond.selects (zcl 8).1 yX8_empty yX8_empty) ∈ gtb := gi 1187 (by decide +kernel) rfl
theorem zp_yX8_empty : plainName yX8_empty.cls = true := by decide +kernel
theorem zm_yX8_except : zMd yX8_except cX8_except 4 none 3 := ⟨gi 1192 (by decide +kernel) rfl, gi 70 (by decide +kernel) rfl, by decide +kernel, by decide⟩
theorem zi_yX8_except : (Cond.instanceMethod yX8_except) ∈ gtb := gi 1190 (by decide +kernel) rfl
theorem ze_yX8_except : (Cond.selects (zcl 8).1 yX8_except yX8_except) ∈ gtb := gi 1191 (by decide +kernel) rfl
theorem zp_yX8_except : plainName yX8_except.cls = true := by decide +kernel
theorem zm_yX8_omit : zMd yX8_omit cX8_omit 4 none 3 := ⟨gi 1196 (by decide +kernel) rfl, gi 70 (by decide +kernel) rfl, by decide +kernel, by decide⟩
theorem zi_yX8_omit : (Cond.instanceMethod yX8_omit) ∈ gtb := gi 1194 (by decide +kernel) rfl
theorem ze_yX8_omit : (Cond.selects (zcl 8).1 yX8_omit yX8_omit) ∈ gtb := gi 1195 (by decide +kernel) rfl
theorem zp_yX8_omit : plainName yX8_omit.cls = true := by decide +kernel
theorem zm_yX8_isToken : zMd yX8_isToken cX8_isToken 2 (some .boolean) 2 := ⟨gi 1203 (by decide +kernel) rfl, gi 70 (by decide +kernel) rfl, by decide +kernel, by decide⟩
theorem zs_yX8_isToken : (Cond.static yX8_isToken) ∈ gtb := gi 1202 (by decide +kernel) rfl
theorem zp_yX8_isToken : plainName yX8_isToken.cls = true := by decide +kernel
theorem zm_yX8_entity : zMd yX8_entity cX8_entity 5 (some .int) 3 := ⟨gi 1200 (by decide +kernel) rfl, gi 70 (by decide +kernel) rfl, by decide +kernel, by decide⟩
theorem zi_yX8_entity : (Cond.instanceMethod yX8_entity) ∈ gtb := gi 1198 (by decide +kernel) rfl
theorem ze_yX8_entity : (Cond.selects (zcl 8).1 yX8_entity yX8_entity) ∈ gtb := gi 1199 (by decide +kernel) rfl
theorem zp_yX8_entity : plainName yX8_entity.cls = true := by decide +kernel
theorem zm_yX8_clear : zMd yX8_clear cX8_clear 3 (some .int) 1 := ⟨gi 1207 (by decide +kernel) rfl, gi 70 (by decide +kernel) rfl, by decide +kernel, by decide⟩
theorem zi_yX8_clear : (Cond.instanceMethod yX8_clear) ∈ gtb := gi 1205 (by decide +kernel) rfl
theorem ze_yX8_clear : (Cond.selects (zcl 8).1 yX8_clear yX8_clear) ∈ gtb := gi 1206 (by decide +kernel) rfl
theorem zp_yX8_clear : plainName yX8_clear.cls = true := by decide +kernel
theorem zm_yX8_flip : zMd yX8_flip cX8_flip 4 (some .int) 2 := ⟨gi 1211 (by decide +kernel) rfl, gi 70 (by decide +kernel) rfl, by decide +kernel, by decide⟩
theorem zi_yX8_flip : (Cond.instanceMethod yX8_flip) ∈ gtb := gi 1209 (by decide +kernel) rfl
theorem ze_yX8_flip : (Cond.selects (zcl 8).1 yX8_flip yX8_flip) ∈ gtb := gi 1210 (by decide +kernel) rfl
theorem zp_yX8_flip : plainName yX8_flip.cls = true := by decide +kernel
theorem zm_yX8_fails : zMd yX8_fails cX8_fails 2 none 1 := ⟨gi 901 (by decide +kernel) rfl, gi 70 (by decide +kernel) rfl, by decide +kernel, by decide⟩
theorem zi_yX8_fails : (Cond.instanceMethod yX8_fails) ∈ gtb := gi 900 (by decide +kernel) rfl
theorem ze_yX8_fails : (Cond.selects (zcl 8).1 yX8_fails yX8_fails) ∈ gtb := gi 23 (by decide +kernel) rfl
theorem zp_yX8_fails : plainName yX8_fails.cls = true := by decide +kernel
theorem zm_yX8_puts : zMd yX8_puts cX8_puts 4 none 3 := ⟨gi 964 (by decide +kernel) rfl, gi 70 (by decide +kernel) rfl, by decide +kernel, by decide⟩
theorem zi_yX8_puts : (Cond.instanceMethod yX8_puts) ∈ gtb := gi 963 (by decide +kernel) rfl
theorem ze_yX8_puts : (Cond.selects (zcl 8).1 yX8_puts yX8_puts) ∈ gtb := gi 38 (by decide +kernel) rfl
theorem zp_yX8_puts : plainName yX8_puts.cls = true := by decide +kernel
theorem zm_yX8_opensElement : zMd yX8_opensElement cX8_opensElement 3 none 2 := ⟨gi 960 (by decide +kernel) rfl, gi 70 (by decide +kernel) rfl, by decide +kernel, by decide⟩
theorem zi_yX8_opensElement : (Cond.instanceMethod yX8_opensElement) ∈ gtb := gi 959 (by decide +kernel) rfl
theorem ze_yX8_opensElement : (Cond.selects (zcl 8).1 yX8_opensElement yX8_opensElement) ∈ gtb := gi 37 (by decide +kernel) rfl
theorem zp_yX8_opensElement : plainName yX8_opensElement.cls = true := by decide +kernel
theorem zm_yX8_isExcluded : zMd yX8_isExcluded cX8_isExcluded 4 (some .boolean) 1 := ⟨gi 940 (by decide +kernel) rfl, gi 70 (by decide +kernel) rfl, by decide +kernel, by decide⟩
theorem zi_yX8_isExcluded : (Cond.instanceMethod yX8_isExcluded) ∈ gtb := gi 939 (by decide +kernel) rfl
theorem ze_yX8_isExcluded : (Cond.selects (zcl 8).1 yX8_isExcluded yX8_isExcluded) ∈ gtb := gi 32 (by decide +kernel) rfl
theorem zp_yX8_isExcluded : plainName yX8_isExcluded.cls = true := by decide +kernel
theorem zm_yX8_isIncluded : zMd yX8_isIncluded cX8_isIncluded 4 (some .boolean) 1 := ⟨gi 956 (by decide +kernel) rfl, gi 70 (by decide +kernel) rfl, by decide +kernel, by decide⟩
theorem zi_yX8_isIncluded : (Cond.instanceMethod yX8_isIncluded) ∈ gtb := gi 955 (by decide +kernel) rfl
theorem ze_yX8_isIncluded : (Cond.selects (zcl 8).1 yX8_isIncluded yX8_isIncluded) ∈ gtb := gi 36 (by decide +kernel) rfl
theorem zp_yX8_isIncluded : plainName yX8_isIncluded.cls = true := by decide +kernel
theorem zm_yX8_isAccepted : zMd yX8_isAccepted cX8_isAccepted 4 (some .boolean) 1 := ⟨gi 936 (by decide +kernel) rfl, gi 70 (by decide +kernel) rfl, by decide +kernel, by decide⟩
theorem zi_yX8_isAccepted : (Cond.instanceMethod yX8_isAccepted) ∈ gtb := gi 935 (by decide +kernel) rfl
theorem ze_yX8_isAccepted : (Cond.selects (zcl 8).1 yX8_isAccepted yX8_isAccepted) ∈ gtb := gi 31 (by decide +kernel) rfl
theorem zp_yX8_isAccepted : plainName yX8_isAccepted.cls = true := by decide +kernel
theorem zm_yX8_canEndTop : zMd yX8_canEndTop cX8_canEndTop 1 (some .boolean) 0 := ⟨gi 972 (by decide +kernel) rfl, gi 70 (by decide +kernel) rfl, by decide +kernel, by decide⟩
theorem zi_yX8_canEndTop : (Cond.instanceMethod yX8_canEndTop) ∈ gtb := gi 971 (by decide +kernel) rfl
theorem ze_yX8_canEndTop : (Cond.selects (zcl 8).1 yX8_canEndTop yX8_canEndTop) ∈ gtb := gi 40 (by decide +kernel) rfl
theorem zp_yX8_canEndTop : plainName yX8_canEndTop.cls = true := by decide +kernel
theorem zm_yX8_wanted : zMd yX8_wanted cX8_wanted 4 (some .int) 0 := ⟨gi 968 (by decide +kernel) rfl, gi 70 (by decide +kernel) rfl, by decide +kernel, by decide⟩
theorem zi_yX8_wanted : (Cond.instanceMethod yX8_wanted) ∈ gtb := gi 967 (by decide +kernel) rfl
theorem ze_yX8_wanted : (Cond.selects (zcl 8).1 yX8_wanted yX8_wanted) ∈ gtb := gi 39 (by decide +kernel) rfl
theorem zp_yX8_wanted : plainName yX8_wanted.cls = true := by decide +kernel
theorem zm_yX8_readsThing : zMd yX8_readsThing cX8_readsThing 5 none 2 := ⟨gi 932 (by decide +kernel) rfl, gi 70 (by decide +kernel) rfl, by decide +kernel, by decide⟩
theorem zi_yX8_readsThing : (Cond.instanceMethod yX8_readsThing) ∈ gtb := gi 931 (by decide +kernel) rfl
theorem ze_yX8_readsThing : (Cond.selects (zcl 8).1 yX8_readsThing yX8_readsThing) ∈ gtb := gi 30 (by decide +kernel) rfl
theorem zp_yX8_readsThing : plainName yX8_readsThing.cls = true := by decide +kernel
theorem zm_yX8_closesTo : zMd yX8_closesTo cX8_closesTo 4 none 2 := ⟨gi 988 (by decide +kernel) rfl, gi 70 (by decide +kernel) rfl, by decide +kernel, by decide⟩
theorem zi_yX8_closesTo : (Cond.instanceMethod yX8_closesTo) ∈ gtb := gi 987 (by decide +kernel) rfl
theorem ze_yX8_closesTo : (Cond.selects (zcl 8).1 yX8_closesTo yX8_closesTo) ∈ gtb := gi 44 (by decide +kernel) rfl
theorem zp_yX8_closesTo : plainName yX8_closesTo.cls = true := by decide +kernel
theorem zm_yX8_levelLength : zMd yX8_levelLength cX8_levelLength 2 (some .int) 1 := ⟨gi 897 (by decide +kernel) rfl, gi 70 (by decide +kernel) rfl, by decide +kernel, by decide⟩
theorem zi_yX8_levelLength : (Cond.instanceMethod yX8_levelLength) ∈ gtb := gi 896 (by decide +kernel) rfl
theorem ze_yX8_levelLength : (Cond.selects (zcl 8).1 yX8_levelLength yX8_levelLength) ∈ gtb := gi 22 (by decide +kernel) rfl
theorem zp_yX8_levelLength : plainName yX8_levelLength.cls = true := by decide +kernel
theorem zm_yX8_sortAt : zMd yX8_sortAt cX8_sortAt 2 (some .int) 1 := ⟨gi 909 (by decide +kernel) rfl, gi 70 (by decide +kernel) rfl, by decide +kernel, by decide⟩
theorem zi_yX8_sortAt : (Cond.instanceMethod yX8_sortAt) ∈ gtb := gi 908 (by decide +kernel) rfl
theorem ze_yX8_sortAt : (Cond.selects (zcl 8).1 yX8_sortAt yX8_sortAt) ∈ gtb := gi 25 (by decide +kernel) rfl
theorem zp_yX8_sortAt : plainName yX8_sortAt.cls = true := by decide +kernel
theorem zm_yX8_valueAt : zMd yX8_valueAt cX8_valueAt 2 (some .int) 1 := ⟨gi 916 (by decide +kernel) rfl, gi 70 (by decide +kernel) rfl, by decide +kernel, by decide⟩
theorem zi_yX8_valueAt : (Cond.instanceMethod yX8_valueAt) ∈ gtb := gi 915 (by decide +kernel) rfl
theorem ze_yX8_valueAt : (Cond.selects (zcl 8).1 yX8_valueAt yX8_valueAt) ∈ gtb := gi 26 (by decide +kernel) rfl
theorem zp_yX8_valueAt : plainName yX8_valueAt.cls = true := by decide +kernel
theorem zm_yX8_mode : zMd yX8_mode cX8_mode 1 (some .int) 0 := ⟨gi 920 (by decide +kernel) rfl, gi 70 (by decide +kernel) rfl, by decide +kernel, by decide⟩
theorem zi_yX8_mode : (Cond.instanceMethod yX8_mode) ∈ gtb := gi 919 (by decide +kernel) rfl
theorem ze_yX8_mode : (Cond.selects (zcl 8).1 yX8_mode yX8_mode) ∈ gtb := gi 27 (by decide +kernel) rfl
theorem zp_yX8_mode : plainName yX8_mode.cls = true := by decide +kernel
theorem zm_yX8_opensMark : zMd yX8_opensMark cX8_opensMark 2 none 1 := ⟨gi 924 (by decide +kernel) rfl, gi 70 (by decide +kernel) rfl, by decide +kernel, by decide⟩
theorem zi_yX8_opensMark : (Cond.instanceMethod yX8_opensMark) ∈ gtb := gi 923 (by decide +kernel) rfl
theorem ze_yX8_opensMark : (Cond.selects (zcl 8).1 yX8_opensMark yX8_opensMark) ∈ gtb := gi 28 (by decide +kernel) rfl
theorem zp_yX8_opensMark : plainName yX8_opensMark.cls = true := by decide +kernel
theorem zm_yX8_readsPlain : zMd yX8_readsPlain cX8_readsPlain 4 none 2 := ⟨gi 928 (by decide +kernel) rfl, gi 70 (by decide +kernel) rfl, by decide +kernel, by decide⟩
theorem zi_yX8_readsPlain : (Cond.instanceMethod yX8_readsPlain) ∈ gtb := gi 927 (by decide +kernel) rfl
theorem ze_yX8_readsPlain : (Cond.selects (zcl 8).1 yX8_readsPlain yX8_readsPlain) ∈ gtb := gi 29 (by decide +kernel) rfl
theorem zp_yX8_readsPlain : plainName yX8_readsPlain.cls = true := by decide +kernel
theorem zm_yX8_readsEnd : zMd yX8_readsEnd cX8_readsEnd 5 none 2 := ⟨gi 984 (by decide +kernel) rfl, gi 70 (by decide +kernel) rfl, by decide +kernel, by decide⟩
theorem zi_yX8_readsEnd : (Cond.instanceMethod yX8_readsEnd) ∈ gtb := gi 983 (by decide +kernel) rfl
theorem ze_yX8_readsEnd : (Cond.selects (zcl 8).1 yX8_readsEnd yX8_readsEnd) ∈ gtb := gi 43 (by decide +kernel) rfl
theorem zp_yX8_readsEnd : plainName yX8_readsEnd.cls = true := by decide +kernel
theorem zm_yX8_readsLine : zMd yX8_readsLine cX8_readsLine 4 none 1 := ⟨gi 992 (by decide +kernel) rfl, gi 70 (by decide +kernel) rfl, by decide +kernel, by decide⟩
theorem zi_yX8_readsLine : (Cond.instanceMethod yX8_readsLine) ∈ gtb := gi 991 (by decide +kernel) rfl
theorem ze_yX8_readsLine : (Cond.selects (zcl 8).1 yX8_readsLine yX8_readsLine) ∈ gtb := gi 45 (by decide +kernel) rfl
theorem zp_yX8_readsLine : plainName yX8_readsLine.cls = true := by decide +kernel
theorem zm_yX8_readsToken : zMd yX8_readsToken cX8_readsToken 5 none 0 := ⟨gi 905 (by decide +kernel) rfl, gi 70 (by decide +kernel) rfl, by decide +kernel, by decide⟩
theorem zi_yX8_readsToken : (Cond.instanceMethod yX8_readsToken) ∈ gtb := gi 904 (by decide +kernel) rfl
theorem ze_yX8_readsToken : (Cond.selects (zcl 8).1 yX8_readsToken yX8_readsToken) ∈ gtb := gi 24 (by decide +kernel) rfl
theorem zp_yX8_readsToken : plainName yX8_readsToken.cls = true := by decide +kernel
theorem zm_yX8_keepsState : zMd yX8_keepsState cX8_keepsState 3 none 0 := ⟨gi 893 (by decide +kernel) rfl, gi 70 (by decide +kernel) rfl, by decide +kernel, by decide⟩
theorem zi_yX8_keepsState : (Cond.instanceMethod yX8_keepsState) ∈ gtb := gi 892 (by decide +kernel) rfl
theorem ze_yX8_keepsState : (Cond.selects (zcl 8).1 yX8_keepsState yX8_keepsState) ∈ gtb := gi 21 (by decide +kernel) rfl
theorem zp_yX8_keepsState : plainName yX8_keepsState.cls = true := by decide +kernel
theorem zm_yX8_readsRow : zMd yX8_readsRow cX8_readsRow 2 none 0 := ⟨gi 889 (by decide +kernel) rfl, gi 70 (by decide +kernel) rfl, by decide +kernel, by decide⟩
theorem zi_yX8_readsRow : (Cond.instanceMethod yX8_readsRow) ∈ gtb := gi 888 (by decide +kernel) rfl
theorem ze_yX8_readsRow : (Cond.selects (zcl 8).1 yX8_readsRow yX8_readsRow) ∈ gtb := gi 20 (by decide +kernel) rfl
theorem zp_yX8_readsRow : plainName yX8_readsRow.cls = true := by decide +kernel
theorem zm_yX8_readsText : zMd yX8_readsText cX8_readsText 2 none 0 := ⟨gi 885 (by decide +kernel) rfl, gi 70 (by decide +kernel) rfl, by decide +kernel, by decide⟩
theorem zi_yX8_readsText : (Cond.instanceMethod yX8_readsText) ∈ gtb := gi 884 (by decide +kernel) rfl
theorem ze_yX8_readsText : (Cond.selects (zcl 8).1 yX8_readsText yX8_readsText) ∈ gtb := gi 19 (by decide +kernel) rfl
theorem zp_yX8_readsText : plainName yX8_readsText.cls = true := by decide +kernel
theorem zm_yX8_keepsOld : zMd yX8_keepsOld cX8_keepsOld 3 none 0 := ⟨gi 1219 (by decide +kernel) rfl, gi 70 (by decide +kernel) rfl, by decide +kernel, by decide⟩
theorem zi_yX8_keepsOld : (Cond.instanceMethod yX8_keepsOld) ∈ gtb := gi 1218 (by decide +kernel) rfl
theorem ze_yX8_keepsOld : (Cond.selects (zcl 8).1 yX8_keepsOld yX8_keepsOld) ∈ gtb := gi 49 (by decide +kernel) rfl
theorem zp_yX8_keepsOld : plainName yX8_keepsOld.cls = true := by decide +kernel
theorem zm_yX8_isAsBefore : zMd yX8_isAsBefore cX8_isAsBefore 5 (some .boolean) 2 := ⟨gi 1227 (by decide +kernel) rfl, gi 70 (by decide +kernel) rfl, by decide +kernel, by decide⟩
theorem zi_yX8_isAsBefore : (Cond.instanceMethod yX8_isAsBefore) ∈ gtb := gi 1226 (by decide +kernel) rfl
theorem ze_yX8_isAsBefore : (Cond.selects (zcl 8).1 yX8_isAsBefore yX8_isAsBefore) ∈ gtb := gi 51 (by decide +kernel) rfl
theorem zp_yX8_isAsBefore : plainName yX8_isAsBefore.cls = true := by decide +kernel
theorem zm_yX8_tells : zMd yX8_tells cX8_tells 6 none 2 := ⟨gi 1223 (by decide +kernel) rfl, gi 70 (by decide +kernel) rfl, by decide +kernel, by decide⟩
theorem zi_yX8_tells : (Cond.instanceMethod yX8_tells) ∈ gtb := gi 1222 (by decide +kernel) rfl
theorem ze_yX8_tells : (Cond.selects (zcl 8).1 yX8_tells yX8_tells) ∈ gtb := gi 50 (by decide +kernel) rfl
theorem zp_yX8_tells : plainName yX8_tells.cls = true := by decide +kernel
theorem zm_yX8_insert : zMd yX8_insert cX8_insert 5 (some .int) 3 := ⟨gi 1215 (by decide +kernel) rfl, gi 70 (by decide +kernel) rfl, by decide +kernel, by decide⟩
theorem zi_yX8_insert : (Cond.instanceMethod yX8_insert) ∈ gtb := gi 1213 (by decide +kernel) rfl
theorem ze_yX8_insert : (Cond.selects (zcl 8).1 yX8_insert yX8_insert) ∈ gtb := gi 1214 (by decide +kernel) rfl
theorem zp_yX8_insert : plainName yX8_insert.cls = true := by decide +kernel
theorem zm_yX8_erase : zMd yX8_erase cX8_erase 3 (some .int) 1 := ⟨gi 1231 (by decide +kernel) rfl, gi 70 (by decide +kernel) rfl, by decide +kernel, by decide⟩
theorem zi_yX8_erase : (Cond.instanceMethod yX8_erase) ∈ gtb := gi 1229 (by decide +kernel) rfl
theorem ze_yX8_erase : (Cond.selects (zcl 8).1 yX8_erase yX8_erase) ∈ gtb := gi 1230 (by decide +kernel) rfl
theorem zp_yX8_erase : plainName yX8_erase.cls = true := by decide +kernel
theorem zm_yX8_forms : zMd yX8_forms cX8_forms 4 none 0 := ⟨gi 1239 (by decide +kernel) rfl, gi 70 (by decide +kernel) rfl, by decide +kernel, by decide⟩
theorem zi_yX8_forms : (Cond.instanceMethod yX8_forms) ∈ gtb := gi 1238 (by decide +kernel) rfl
theorem ze_yX8_forms : (Cond.selects (zcl 8).1 yX8_forms yX8_forms) ∈ gtb := gi 52 (by decide +kernel) rfl
theorem zp_yX8_forms : plainName yX8_forms.cls = true := by decide +kernel
theorem zm_yX8_writes : zMd yX8_writes cX8_writes 3 none 2 := ⟨gi 1243 (by decide +kernel) rfl, gi 70 (by decide +kernel) rfl, by decide +kernel, by decide⟩
theorem zi_yX8_writes : (Cond.instanceMethod yX8_writes) ∈ gtb := gi 1242 (by decide +kernel) rfl
theorem ze_yX8_writes : (Cond.selects (zcl 8).1 yX8_writes yX8_writes) ∈ gtb := gi 53 (by decide +kernel) rfl
theorem zp_yX8_writes : plainName yX8_writes.cls = true := by decide +kernel
theorem zm_yX8_normalize : zMd yX8_normalize cX8_normalize 2 (some .int) 0 := ⟨gi 1235 (by decide +kernel) rfl, gi 70 (by decide +kernel) rfl, by decide +kernel, by decide⟩
theorem zi_yX8_normalize : (Cond.instanceMethod yX8_normalize) ∈ gtb := gi 1233 (by decide +kernel) rfl
theorem ze_yX8_normalize : (Cond.selects (zcl 8).1 yX8_normalize yX8_normalize) ∈ gtb := gi 1234 (by decide +kernel) rfl
theorem zp_yX8_normalize : plainName yX8_normalize.cls = true := by decide +kernel
theorem zm_yX8_length : zMd yX8_length cX8_length 1 (some .int) 0 := ⟨gi 1247 (by decide +kernel) rfl, gi 70 (by decide +kernel) rfl, by decide +kernel, by decide⟩
theorem zi_yX8_length : (Cond.instanceMethod yX8_length) ∈ gtb := gi 1245 (by decide +kernel) rfl
theorem ze_yX8_length : (Cond.selects (zcl 8).1 yX8_length yX8_length) ∈ gtb := gi 1246 (by decide +kernel) rfl
theorem zp_yX8_length : plainName yX8_length.cls = true := by decide +kernel
theorem zm_yX8_anew : zMd yX8_anew cX8_anew 1 (some .int) 0 := ⟨gi 1251 (by decide +kernel) rfl, gi 70 (by decide +kernel) rfl, by decide +kernel, by decide⟩
theorem zi_yX8_anew : (Cond.instanceMethod yX8_anew) ∈ gtb := gi 1249 (by decide +kernel) rfl
theorem ze_yX8_anew : (Cond.selects (zcl 8).1 yX8_anew yX8_anew) ∈ gtb := gi 1250 (by decide +kernel) rfl
theorem zp_yX8_anew : plainName yX8_anew.cls = true := by decide +kernel
theorem zm_yX8_open : zMd yX8_open cX8_open 2 (some .int) 1 := ⟨gi 1255 (by decide +kernel) rfl, gi 70 (by decide +kernel) rfl, by decide +kernel, by decide⟩
theorem zi_yX8_open : (Cond.instanceMethod yX8_open) ∈ gtb := gi 1253 (by decide +kernel) rfl
theorem ze_yX8_open : (Cond.selects (zcl 8).1 yX8_open yX8_open) ∈ gtb := gi 1254 (by decide +kernel) rfl
theorem zp_yX8_open : plainName yX8_open.cls = true := by decide +kernel
theorem zm_yX8_codeAt : zMd yX8_codeAt cX8_codeAt 2 (some .int) 1 := ⟨gi 1263 (by decide +kernel) rfl, gi 70 (by decide +kernel) rfl, by decide +kernel, by decide⟩
theorem zi_yX8_codeAt : (Cond.instanceMethod yX8_codeAt) ∈ gtb := gi 1262 (by decide +kernel) rfl
theorem ze_yX8_codeAt : (Cond.selects (zcl 8).1 yX8_codeAt yX8_codeAt) ∈ gtb := gi 54 (by decide +kernel) rfl
theorem zp_yX8_codeAt : plainName yX8_codeAt.cls = true := by decide +kernel
theorem zm_yX8_current : zMd yX8_current cX8_current 2 (some .int) 1 := ⟨gi 1259 (by decide +kernel) rfl, gi 70 (by decide +kernel) rfl, by decide +kernel, by decide⟩
theorem zi_yX8_current : (Cond.instanceMethod yX8_current) ∈ gtb := gi 1257 (by decide +kernel) rfl
theorem ze_yX8_current : (Cond.selects (zcl 8).1 yX8_current yX8_current) ∈ gtb := gi 1258 (by decide +kernel) rfl
theorem zp_yX8_current : plainName yX8_current.cls = true := by decide +kernel
theorem zm_yX8_next : zMd yX8_next cX8_next 3 (some .int) 1 := ⟨gi 1267 (by decide +kernel) rfl, gi 70 (by decide +kernel) rfl, by decide +kernel, by decide⟩
theorem zi_yX8_next : (Cond.instanceMethod yX8_next) ∈ gtb := gi 1265 (by decide +kernel) rfl
theorem ze_yX8_next : (Cond.selects (zcl 8).1 yX8_next yX8_next) ∈ gtb := gi 1266 (by decide +kernel) rfl
theorem zp_yX8_next : plainName yX8_next.cls = true := by decide +kernel
theorem zm_yX8_isThing : zMd yX8_isThing cX8_isThing 2 (some .boolean) 1 := ⟨gi 1279 (by decide +kernel) rfl, gi 70 (by decide +kernel) rfl, by decide +kernel, by decide⟩
theorem zi_yX8_isThing : (Cond.instanceMethod yX8_isThing) ∈ gtb := gi 1278 (by decide +kernel) rfl
theorem ze_yX8_isThing : (Cond.selects (zcl 8).1 yX8_isThing yX8_isThing) ∈ gtb := gi 55 (by decide +kernel) rfl
theorem zp_yX8_isThing : plainName yX8_isThing.cls = true := by decide +kernel
theorem zm_yX8_things : zMd yX8_things cX8_things 1 (some .int) 0 := ⟨gi 1271 (by decide +kernel) rfl, gi 70 (by decide +kernel) rfl, by decide +kernel, by decide⟩
theorem zi_yX8_things : (Cond.instanceMethod yX8_things) ∈ gtb := gi 1269 (by decide +kernel) rfl
theorem ze_yX8_things : (Cond.selects (zcl 8).1 yX8_things yX8_things) ∈ gtb := gi 1270 (by decide +kernel) rfl
theorem zp_yX8_things : plainName yX8_things.cls = true := by decide +kernel
theorem zm_yX8_kind : zMd yX8_kind cX8_kind 2 (some .int) 1 := ⟨gi 1275 (by decide +kernel) rfl, gi 70 (by decide +kernel) rfl, by decide +kernel, by decide⟩
theorem zi_yX8_kind : (Cond.instanceMethod yX8_kind) ∈ gtb := gi 1273 (by decide +kernel) rfl
theorem ze_yX8_kind : (Cond.selects (zcl 8).1 yX8_kind yX8_kind) ∈ gtb := gi 1274 (by decide +kernel) rfl
theorem zp_yX8_kind : plainName yX8_kind.cls = true := by decide +kernel
theorem zm_yX8_parent : zMd yX8_parent cX8_parent 2 (some .int) 1 := ⟨gi 1283 (by decide +kernel) rfl, gi 70 (by decide +kernel) rfl, by decide +kernel, by decide⟩
theorem zi_yX8_parent : (Cond.instanceMethod yX8_parent) ∈ gtb := gi 1281 (by decide +kernel) rfl
theorem ze_yX8_parent : (Cond.selects (zcl 8).1 yX8_parent yX8_parent) ∈ gtb := gi 1282 (by decide +kernel) rfl
theorem zp_yX8_parent : plainName yX8_parent.cls = true := by decide +kernel
theorem zm_yX8_letter : zMd yX8_letter cX8_letter 2 (some .char) 1 := ⟨gi 1287 (by decide +kernel) rfl, gi 70 (by decide +kernel) rfl, by decide +kernel, by decide⟩
theorem zi_yX8_letter : (Cond.instanceMethod yX8_letter) ∈ gtb := gi 1285 (by decide +kernel) rfl
theorem ze_yX8_letter : (Cond.selects (zcl 8).1 yX8_letter yX8_letter) ∈ gtb := gi 1286 (by decide +kernel) rfl
theorem zp_yX8_letter : plainName yX8_letter.cls = true := by decide +kernel
theorem zm_yX8_placeOf : zMd yX8_placeOf cX8_placeOf 2 (some .int) 1 := ⟨gi 1291 (by decide +kernel) rfl, gi 70 (by decide +kernel) rfl, by decide +kernel, by decide⟩
theorem zi_yX8_placeOf : (Cond.instanceMethod yX8_placeOf) ∈ gtb := gi 1289 (by decide +kernel) rfl
theorem ze_yX8_placeOf : (Cond.selects (zcl 8).1 yX8_placeOf yX8_placeOf) ∈ gtb := gi 1290 (by decide +kernel) rfl
theorem zp_yX8_placeOf : plainName yX8_placeOf.cls = true := by decide +kernel
theorem zm_yX8_isPutIn : zMd yX8_isPutIn cX8_isPutIn 2 (some .boolean) 1 := ⟨gi 1295 (by decide +kernel) rfl, gi 70 (by decide +kernel) rfl, by decide +kernel, by decide⟩
theorem zi_yX8_isPutIn : (Cond.instanceMethod yX8_isPutIn) ∈ gtb := gi 1293 (by decide +kernel) rfl
theorem ze_yX8_isPutIn : (Cond.selects (zcl 8).1 yX8_isPutIn yX8_isPutIn) ∈ gtb := gi 1294 (by decide +kernel) rfl
theorem zp_yX8_isPutIn : plainName yX8_isPutIn.cls = true := by decide +kernel
theorem zm_yX8_endsPutIn : zMd yX8_endsPutIn cX8_endsPutIn 1 (some .int) 0 := ⟨gi 1299 (by decide +kernel) rfl, gi 70 (by decide +kernel) rfl, by decide +kernel, by decide⟩
theorem zi_yX8_endsPutIn : (Cond.instanceMethod yX8_endsPutIn) ∈ gtb := gi 1297 (by decide +kernel) rfl
theorem ze_yX8_endsPutIn : (Cond.selects (zcl 8).1 yX8_endsPutIn yX8_endsPutIn) ∈ gtb := gi 1298 (by decide +kernel) rfl
theorem zp_yX8_endsPutIn : plainName yX8_endsPutIn.cls = true := by decide +kernel
theorem zm_yX8_errors : zMd yX8_errors cX8_errors 1 (some .int) 0 := ⟨gi 1303 (by decide +kernel) rfl, gi 70 (by decide +kernel) rfl, by decide +kernel, by decide⟩
theorem zi_yX8_errors : (Cond.instanceMethod yX8_errors) ∈ gtb := gi 1301 (by decide +kernel) rfl
theorem ze_yX8_errors : (Cond.selects (zcl 8).1 yX8_errors yX8_errors) ∈ gtb := gi 1302 (by decide +kernel) rfl
theorem zp_yX8_errors : plainName yX8_errors.cls = true := by decide +kernel
theorem zm_yX8_errorKind : zMd yX8_errorKind cX8_errorKind 2 (some .int) 1 := ⟨gi 1307 (by decide +kernel) rfl, gi 70 (by decide +kernel) rfl, by decide +kernel, by decide⟩
theorem zi_yX8_errorKind : (Cond.instanceMethod yX8_errorKind) ∈ gtb := gi 1305 (by decide +kernel) rfl
theorem ze_yX8_errorKind : (Cond.selects (zcl 8).1 yX8_errorKind yX8_errorKind) ∈ gtb := gi 1306 (by decide +kernel) rfl
theorem zp_yX8_errorKind : plainName yX8_errorKind.cls = true := by decide +kernel
theorem zm_yX8_errorAt : zMd yX8_errorAt cX8_errorAt 2 (some .int) 1 := ⟨gi 1311 (by decide +kernel) rfl, gi 70 (by decide +kernel) rfl, by decide +kernel, by decide⟩
theorem zi_yX8_errorAt : (Cond.instanceMethod yX8_errorAt) ∈ gtb := gi 1309 (by decide +kernel) rfl
theorem ze_yX8_errorAt : (Cond.selects (zcl 8).1 yX8_errorAt yX8_errorAt) ∈ gtb := gi 1310 (by decide +kernel) rfl
theorem zp_yX8_errorAt : plainName yX8_errorAt.cls = true := by decide +kernel
theorem zm_yX8_normal : zMd yX8_normal cX8_normal 1 (some .int) 0 := ⟨gi 1315 (by decide +kernel) rfl, gi 70 (by decide +kernel) rfl, by decide +kernel, by decide⟩
theorem zi_yX8_normal : (Cond.instanceMethod yX8_normal) ∈ gtb := gi 1313 (by decide +kernel) rfl
theorem ze_yX8_normal : (Cond.selects (zcl 8).1 yX8_normal yX8_normal) ∈ gtb := gi 1314 (by decide +kernel) rfl
theorem zp_yX8_normal : plainName yX8_normal.cls = true := by decide +kernel
theorem zm_yX8_normalSort : zMd yX8_normalSort cX8_normalSort 2 (some .int) 1 := ⟨gi 1319 (by decide +kernel) rfl, gi 70 (by decide +kernel) rfl, by decide +kernel, by decide⟩
theorem zi_yX8_normalSort : (Cond.instanceMethod yX8_normalSort) ∈ gtb := gi 1317 (by decide +kernel) rfl
theorem ze_yX8_normalSort : (Cond.selects (zcl 8).1 yX8_normalSort yX8_normalSort) ∈ gtb := gi 1318 (by decide +kernel) rfl
theorem zp_yX8_normalSort : plainName yX8_normalSort.cls = true := by decide +kernel
theorem zm_yX8_normalValue : zMd yX8_normalValue cX8_normalValue 2 (some .int) 1 := ⟨gi 1323 (by decide +kernel) rfl, gi 70 (by decide +kernel) rfl, by decide +kernel, by decide⟩
theorem zi_yX8_normalValue : (Cond.instanceMethod yX8_normalValue) ∈ gtb := gi 1321 (by decide +kernel) rfl
theorem ze_yX8_normalValue : (Cond.selects (zcl 8).1 yX8_normalValue yX8_normalValue) ∈ gtb := gi 1322 (by decide +kernel) rfl
theorem zp_yX8_normalValue : plainName yX8_normalValue.cls = true := by decide +kernel
theorem zm_yX8_isClean : zMd yX8_isClean cX8_isClean 1 (some .boolean) 0 := ⟨gi 1331 (by decide +kernel) rfl, gi 70 (by decide +kernel) rfl, by decide +kernel, by decide⟩
theorem zi_yX8_isClean : (Cond.instanceMethod yX8_isClean) ∈ gtb := gi 1330 (by decide +kernel) rfl
theorem ze_yX8_isClean : (Cond.selects (zcl 8).1 yX8_isClean yX8_isClean) ∈ gtb := gi 56 (by decide +kernel) rfl
theorem zp_yX8_isClean : plainName yX8_isClean.cls = true := by decide +kernel
theorem zm_yX8_isSame : zMd yX8_isSame cX8_isSame 4 (some .boolean) 0 := ⟨gi 1327 (by decide +kernel) rfl, gi 70 (by decide +kernel) rfl, by decide +kernel, by decide⟩
theorem zi_yX8_isSame : (Cond.instanceMethod yX8_isSame) ∈ gtb := gi 1325 (by decide +kernel) rfl
theorem ze_yX8_isSame : (Cond.selects (zcl 8).1 yX8_isSame yX8_isSame) ∈ gtb := gi 1326 (by decide +kernel) rfl
theorem zp_yX8_isSame : plainName yX8_isSame.cls = true := by decide +kernel
theorem zm_yX8_isTag : zMd yX8_isTag cX8_isTag 2 (some .boolean) 1 := ⟨gi 1351 (by decide +kernel) rfl, gi 70 (by decide +kernel) rfl, by decide +kernel, by decide⟩
theorem zi_yX8_isTag : (Cond.instanceMethod yX8_isTag) ∈ gtb := gi 1350 (by decide +kernel) rfl
theorem ze_yX8_isTag : (Cond.selects (zcl 8).1 yX8_isTag yX8_isTag) ∈ gtb := gi 60 (by decide +kernel) rfl
theorem zp_yX8_isTag : plainName yX8_isTag.cls = true := by decide +kernel
theorem zm_yX8_adds : zMd yX8_adds cX8_adds 3 none 2 := ⟨gi 1347 (by decide +kernel) rfl, gi 70 (by decide +kernel) rfl, by decide +kernel, by decide⟩
theorem zi_yX8_adds : (Cond.instanceMethod yX8_adds) ∈ gtb := gi 1346 (by decide +kernel) rfl
theorem ze_yX8_adds : (Cond.selects (zcl 8).1 yX8_adds yX8_adds) ∈ gtb := gi 59 (by decide +kernel) rfl
theorem zp_yX8_adds : plainName yX8_adds.cls = true := by decide +kernel
theorem zm_yX8_isWay : zMd yX8_isWay cX8_isWay 6 (some .boolean) 4 := ⟨gi 1343 (by decide +kernel) rfl, gi 70 (by decide +kernel) rfl, by decide +kernel, by decide⟩
theorem zi_yX8_isWay : (Cond.instanceMethod yX8_isWay) ∈ gtb := gi 1342 (by decide +kernel) rfl
theorem ze_yX8_isWay : (Cond.selects (zcl 8).1 yX8_isWay yX8_isWay) ∈ gtb := gi 58 (by decide +kernel) rfl
theorem zp_yX8_isWay : plainName yX8_isWay.cls = true := by decide +kernel
theorem zm_yX8_countWays : zMd yX8_countWays cX8_countWays 5 (some .int) 0 := ⟨gi 1339 (by decide +kernel) rfl, gi 70 (by decide +kernel) rfl, by decide +kernel, by decide⟩
theorem zi_yX8_countWays : (Cond.instanceMethod yX8_countWays) ∈ gtb := gi 1338 (by decide +kernel) rfl
theorem ze_yX8_countWays : (Cond.selects (zcl 8).1 yX8_countWays yX8_countWays) ∈ gtb := gi 57 (by decide +kernel) rfl
theorem zp_yX8_countWays : plainName yX8_countWays.cls = true := by decide +kernel
theorem zm_yX8_ways : zMd yX8_ways cX8_ways 3 (some .int) 0 := ⟨gi 1335 (by decide +kernel) rfl, gi 70 (by decide +kernel) rfl, by decide +kernel, by decide⟩
theorem zi_yX8_ways : (Cond.instanceMethod yX8_ways) ∈ gtb := gi 1333 (by decide +kernel) rfl
theorem ze_yX8_ways : (Cond.selects (zcl 8).1 yX8_ways yX8_ways) ∈ gtb := gi 1334 (by decide +kernel) rfl
theorem zp_yX8_ways : plainName yX8_ways.cls = true := by decide +kernel
theorem zm_yJ6_bitCount_0f7a4 : zMd yJ6_bitCount_0f7a4 cJ6_bitCount_0f7a4 1 (some .int) 1 := ⟨gi 564 (by decide +kernel) rfl, gi 77 (by decide +kernel) rfl, by decide +kernel, by decide⟩
theorem zs_yJ6_bitCount_0f7a4 : (Cond.static yJ6_bitCount_0f7a4) ∈ gtb := gi 563 (by decide +kernel) rfl
theorem zp_yJ6_bitCount_0f7a4 : plainName yJ6_bitCount_0f7a4.cls = true := by decide +kernel
theorem zi_obj : (Cond.instanceMethod Lib.objectInit) ∈ gtb := gi 84 (by decide +kernel) rfl
theorem zm_obj : (Cond.code Lib.objectInit ⟨#[0xb1]⟩ 1 none) ∈ gtb := gi 85 (by decide +kernel) rfl
theorem zl_RX0_3 : (Cond.methodLink RX0 3 Lib.objectInit) ∈ gtb := gi 91 (by decide +kernel) rfl
theorem zk_RX0_9 : (Cond.classLink RX0 9 (zcl 1).1) ∈ gtb := gi 92 (by decide +kernel) rfl
theorem zl_RX0_31 : (Cond.methodLinkNest RX0 31 yX1_init "OmitMarkup") ∈ znw := znw_in 95 (by decide +kernel) rfl
theorem zl_RX1_3 : (Cond.methodLink RX1 3 Lib.objectInit) ∈ gtb := gi 98 (by decide +kernel) rfl
theorem zl_RX1_32 : (Cond.methodLink RX1 32 yX1_workOut) ∈ gtb := gi 551 (by decide +kernel) rfl
theorem zl_RX1_38 : (Cond.methodLink RX1 38 yX1_workOutReach) ∈ gtb := gi 555 (by decide +kernel) rfl
theorem zl_RX2_3 : (Cond.methodLink RX2 3 Lib.objectInit) ∈ gtb := gi 191 (by decide +kernel) rfl
theorem zk_RX2_9 : (Cond.classLink RX2 9 (zcl 5).1) ∈ gtb := gi 192 (by decide +kernel) rfl
theorem zl_RX2_11 : (Cond.methodLinkNest RX2 11 yX5_init "OmitMarkup") ∈ znw := znw_in 194 (by decide +kernel) rfl
theorem zk_RX2_18 : (Cond.classLink RX2 18 (zcl 3).1) ∈ gtb := gi 228 (by decide +kernel) rfl
theorem zl_RX2_20 : (Cond.methodLink RX2 20 yX3_init) ∈ gtb := gi 229 (by decide +kernel) rfl
theorem zk_RX2_37 : (Cond.classLink RX2 37 (zcl 4).1) ∈ gtb := gi 230 (by decide +kernel) rfl
theorem zl_RX2_63 : (Cond.methodLink RX2 63 yX4_init) ∈ gtb := gi 233 (by decide +kernel) rfl
theorem zl_RX2_84 : (Cond.methodLink RX2 84 yX4_restart) ∈ gtb := gi 394 (by decide +kernel) rfl
theorem zl_RX2_87 : (Cond.methodLink RX2 87 yX4_copyFrom) ∈ gtb := gi 576 (by decide +kernel) rfl
theorem zl_RX2_91 : (Cond.methodLink RX2 91 yX2_goThrough) ∈ gtb := gi 580 (by decide +kernel) rfl
theorem zl_RX2_95 : (Cond.methodLink RX2 95 yX2_closeUpTo) ∈ gtb := gi 632 (by decide +kernel) rfl
theorem zl_RX2_99 : (Cond.methodLink RX2 99 yX2_writeNormalForm) ∈ gtb := gi 653 (by decide +kernel) rfl
theorem zl_RX2_102 : (Cond.methodLink RX2 102 yX3_sortAt) ∈ gtb := gi 641 (by decide +kernel) rfl
theorem zl_RX2_106 : (Cond.methodLink RX2 106 yX2_isAsBefore) ∈ gtb := gi 734 (by decide +kernel) rfl
theorem zl_RX2_113 : (Cond.methodLink RX2 113 yX4_isLike) ∈ gtb := gi 738 (by decide +kernel) rfl
theorem zl_RX2_126 : (Cond.methodLink RX2 126 yX2_plainLetter) ∈ gtb := gi 584 (by decide +kernel) rfl
theorem zl_RX2_130 : (Cond.methodLink RX2 130 yX2_readThing) ∈ gtb := gi 587 (by decide +kernel) rfl
theorem zl_RX2_134 : (Cond.methodLink RX2 134 yX2_readToken) ∈ gtb := gi 620 (by decide +kernel) rfl
theorem zl_RX2_138 : (Cond.methodLink RX2 138 yX2_keepState) ∈ gtb := gi 649 (by decide +kernel) rfl
theorem zl_RX2_142 : (Cond.methodLink RX2 142 yX2_addError) ∈ gtb := gi 591 (by decide +kernel) rfl
theorem zl_RX2_148 : (Cond.methodLink RX2 148 yX4_lastOpenOf) ∈ gtb := gi 624 (by decide +kernel) rfl
theorem zl_RX2_151 : (Cond.methodLink RX2 151 yX2_closeByTag) ∈ gtb := gi 628 (by decide +kernel) rfl
theorem zl_RX2_154 : (Cond.methodLink RX2 154 yX4_currentElement) ∈ gtb := gi 637 (by decide +kernel) rfl
theorem zl_RX2_158 : (Cond.methodLink RX2 158 yX2_isLineLeftOut) ∈ gtb := gi 638 (by decide +kernel) rfl
theorem zl_RX2_162 : (Cond.methodLink RX2 162 yX2_goThroughEntity) ∈ gtb := gi 645 (by decide +kernel) rfl
theorem zl_RX2_168 : (Cond.methodLink RX2 168 yX4_accept) ∈ gtb := gi 595 (by decide +kernel) rfl
theorem zl_RX2_172 : (Cond.methodLink RX2 172 yX2_addThing) ∈ gtb := gi 596 (by decide +kernel) rfl
theorem zl_RX2_176 : (Cond.methodLink RX2 176 yX4_elementToPutIn) ∈ gtb := gi 605 (by decide +kernel) rfl
theorem zl_RX2_185 : (Cond.methodLink RX2 185 yX4_mayCloseUnasked) ∈ gtb := gi 615 (by decide +kernel) rfl
theorem zl_RX2_189 : (Cond.methodLink RX2 189 yX4_leave) ∈ gtb := gi 619 (by decide +kernel) rfl
theorem zl_RX2_192 : (Cond.methodLink RX2 192 yX5_addThing) ∈ gtb := gi 600 (by decide +kernel) rfl
theorem zl_RX2_195 : (Cond.methodLink RX2 195 yX4_enter) ∈ gtb := gi 604 (by decide +kernel) rfl
theorem zl_RX2_198 : (Cond.methodLink RX2 198 yX4_canEnd) ∈ gtb := gi 636 (by decide +kernel) rfl
theorem zl_RX2_210 : (Cond.methodLink RX2 210 yX2_writeEnds) ∈ gtb := gi 657 (by decide +kernel) rfl
theorem zl_RX2_221 : (Cond.methodLink RX2 221 yX3_putToken) ∈ gtb := gi 661 (by decide +kernel) rfl
theorem zl_RX2_234 : (Cond.methodLink RX2 234 yX4_readAsWritten) ∈ gtb := gi 398 (by decide +kernel) rfl
theorem zl_RX3_3 : (Cond.methodLink RX3 3 Lib.objectInit) ∈ gtb := gi 165 (by decide +kernel) rfl
theorem zl_RX3_22 : (Cond.methodLink RX3 22 yX3_putToken) ∈ gtb := gi 765 (by decide +kernel) rfl
theorem zl_RX4_3 : (Cond.methodLink RX4 3 Lib.objectInit) ∈ gtb := gi 236 (by decide +kernel) rfl
theorem zl_RX4_47 : (Cond.methodLink RX4 47 yX4_isExcluded) ∈ gtb := gi 418 (by decide +kernel) rfl
theorem zl_RX4_51 : (Cond.methodLink RX4 51 yX1_slotFor) ∈ gtb := gi 422 (by decide +kernel) rfl
theorem zl_RX4_55 : (Cond.methodLink RX4 55 yX4_isIncluded) ∈ gtb := gi 426 (by decide +kernel) rfl
theorem zl_RX4_64 : (Cond.methodLink RX4 64 yX4_goesOnWith) ∈ gtb := gi 609 (by decide +kernel) rfl
theorem zl_RX4_68 : (Cond.methodLink RX4 68 yJ6_bitCount_0f7a4) ∈ gtb := gi 613 (by decide +kernel) rfl
theorem zl_RX4_74 : (Cond.methodLink RX4 74 yX4_canEnd) ∈ gtb := gi 406 (by decide +kernel) rfl
theorem zl_RX4_78 : (Cond.methodLinkNest RX4 78 yX7_lowestOf "OmitMarkup") ∈ znw := znw_in 614 (by decide +kernel) rfl
theorem zl_RX4_90 : (Cond.methodLink RX4 90 yX4_currentElement) ∈ gtb := gi 402 (by decide +kernel) rfl
theorem zl_RX4_93 : (Cond.methodLink RX4 93 yX4_leave) ∈ gtb := gi 410 (by decide +kernel) rfl
theorem zl_RX4_96 : (Cond.methodLink RX4 96 yX4_accept) ∈ gtb := gi 414 (by decide +kernel) rfl
theorem zl_RX4_99 : (Cond.methodLink RX4 99 yX4_enter) ∈ gtb := gi 430 (by decide +kernel) rfl
theorem zl_RX5_3 : (Cond.methodLink RX5 3 Lib.objectInit) ∈ gtb := gi 197 (by decide +kernel) rfl
theorem zl_RX6_3 : (Cond.methodLink RX6 3 Lib.objectInit) ∈ gtb := gi 327 (by decide +kernel) rfl
theorem zk_RX6_9 : (Cond.classLink RX6 9 (zcl 4).1) ∈ gtb := gi 328 (by decide +kernel) rfl
theorem zl_RX6_25 : (Cond.methodLink RX6 25 yX4_init) ∈ gtb := gi 329 (by decide +kernel) rfl
theorem zl_RX6_32 : (Cond.methodLink RX6 32 yX4_restart) ∈ gtb := gi 865 (by decide +kernel) rfl
theorem zl_RX6_35 : (Cond.methodLink RX6 35 yX6_tryFrom) ∈ gtb := gi 866 (by decide +kernel) rfl
theorem zl_RX6_51 : (Cond.methodLink RX6 51 yX6_tryToken) ∈ gtb := gi 870 (by decide +kernel) rfl
theorem zl_RX6_67 : (Cond.methodLink RX6 67 yX4_copyFrom) ∈ gtb := gi 874 (by decide +kernel) rfl
theorem zl_RX6_71 : (Cond.methodLink RX6 71 yX4_readAsWritten) ∈ gtb := gi 875 (by decide +kernel) rfl
theorem zl_RX7_3 : (Cond.methodLink RX7 3 Lib.objectInit) ∈ gtb := gi 83 (by decide +kernel) rfl
theorem zk_RX7_9 : (Cond.classLink RX7 9 (zcl 0).1) ∈ gtb := gi 86 (by decide +kernel) rfl
theorem zl_RX7_11 : (Cond.methodLink RX7 11 yX0_init) ∈ gtb := gi 88 (by decide +kernel) rfl
theorem zk_RX7_16 : (Cond.classLink RX7 16 (zcl 3).1) ∈ gtb := gi 160 (by decide +kernel) rfl
theorem zl_RX7_18 : (Cond.methodLink RX7 18 yX3_init) ∈ gtb := gi 162 (by decide +kernel) rfl
theorem zk_RX7_33 : (Cond.classLink RX7 33 (zcl 2).1) ∈ gtb := gi 186 (by decide +kernel) rfl
theorem zl_RX7_35 : (Cond.methodLink RX7 35 yX2_init) ∈ gtb := gi 188 (by decide +kernel) rfl
theorem zk_RX7_42 : (Cond.classLink RX7 42 (zcl 6).1) ∈ gtb := gi 322 (by decide +kernel) rfl
theorem zl_RX7_44 : (Cond.methodLink RX7 44 yX6_init) ∈ gtb := gi 324 (by decide +kernel) rfl
theorem zl_RX7_51 : (Cond.methodLink RX7 51 yX7_checkIndex) ∈ gtb := gi 444 (by decide +kernel) rfl
theorem zk_RX7_55 : (Cond.classLink RX7 55 (zEx 2)) ∈ gtb := gi 515 (by decide +kernel) rfl
theorem zk_RX7_72 : (Cond.classLink RX7 72 (zEx 3)) ∈ gtb := gi 531 (by decide +kernel) rfl
theorem zl_RX7_77 : (Cond.methodLink RX7 77 yX1_addSlot) ∈ gtb := gi 547 (by decide +kernel) rfl
theorem zl_RX7_83 : (Cond.methodLink RX7 83 yX7_lowestOf) ∈ gtb := gi 559 (by decide +kernel) rfl
theorem zl_RX7_87 : (Cond.methodLink RX7 87 yX1_dropLastSlot) ∈ gtb := gi 568 (by decide +kernel) rfl
theorem zl_RX7_90 : (Cond.methodLink RX7 90 yX2_readText) ∈ gtb := gi 572 (by decide +kernel) rfl
theorem zl_RX7_93 : (Cond.methodLink RX7 93 yX1_dropSlots) ∈ gtb := gi 672 (by decide +kernel) rfl
theorem zl_RX7_111 : (Cond.methodLink RX7 111 yX7_checkToken) ∈ gtb := gi 698 (by decide +kernel) rfl
theorem zl_RX7_119 : (Cond.methodLink RX7 119 yX3_putToken) ∈ gtb := gi 706 (by decide +kernel) rfl
theorem zl_RX7_127 : (Cond.methodLink RX7 127 yX2_countReadAnew) ∈ gtb := gi 730 (by decide +kernel) rfl
theorem zl_RX7_130 : (Cond.methodLink RX7 130 yX3_dropToken) ∈ gtb := gi 749 (by decide +kernel) rfl
theorem zl_RX7_138 : (Cond.methodLink RX7 138 yX3_copyFrom) ∈ gtb := gi 761 (by decide +kernel) rfl
theorem zl_RX7_154 : (Cond.methodLink RX7 154 yX4_currentElement) ∈ gtb := gi 780 (by decide +kernel) rfl
theorem zl_RX7_158 : (Cond.methodLink RX7 158 yX4_goesOnWith) ∈ gtb := gi 788 (by decide +kernel) rfl
theorem zl_RX7_202 : (Cond.methodLink RX7 202 yX2_isNormalFormReadAsWritten) ∈ gtb := gi 390 (by decide +kernel) rfl
theorem zl_RX7_210 : (Cond.methodLink RX7 210 yX6_countWays) ∈ gtb := gi 861 (by decide +kernel) rfl
theorem zk_RX7_213 : (Cond.classLink RX7 213 (zEx 1)) ∈ gtb := gi 447 (by decide +kernel) rfl
theorem zl_RX7_218 : (Cond.methodLink RX7 218 yX7_isValueOf) ∈ gtb := gi 701 (by decide +kernel) rfl
theorem zl_RX7_224 : (Cond.methodLink RX7 224 yJ6_bitCount_0f7a4) ∈ gtb := gi 562 (by decide +kernel) rfl
theorem zl_RX8_1 : (Cond.methodLink RX8 1 Lib.objectInit) ∈ gtb := gi 881 (by decide +kernel) rfl
theorem zl_RX8_140 : (Cond.methodLink RX8 140 yX8_readsText) ∈ gtb := gi 882 (by decide +kernel) rfl
theorem zl_RX8_147 : (Cond.methodLink RX8 147 yX8_hasThing) ∈ gtb := gi 945 (by decide +kernel) rfl
theorem zl_RX8_151 : (Cond.methodLink RX8 151 yX8_hasEnough) ∈ gtb := gi 949 (by decide +kernel) rfl
theorem zl_RX8_155 : (Cond.methodLink RX8 155 yX8_goesBy) ∈ gtb := gi 941 (by decide +kernel) rfl
theorem zl_RX8_159 : (Cond.methodLink RX8 159 yX8_in) ∈ gtb := gi 910 (by decide +kernel) rfl
theorem zl_RX8_163 : (Cond.methodLink RX8 163 yX8_goes) ∈ gtb := gi 1173 (by decide +kernel) rfl
theorem zl_RX8_167 : (Cond.methodLink RX8 167 yX8_isDouble) ∈ gtb := gi 1177 (by decide +kernel) rfl
theorem zl_RX8_171 : (Cond.methodLink RX8 171 yX8_allAnew) ∈ gtb := gi 1181 (by decide +kernel) rfl
theorem zl_RX8_180 : (Cond.methodLink RX8 180 yX8_isToken) ∈ gtb := gi 1201 (by decide +kernel) rfl
theorem zl_RX8_193 : (Cond.methodLink RX8 193 yX8_puts) ∈ gtb := gi 961 (by decide +kernel) rfl
theorem zl_RX8_207 : (Cond.methodLink RX8 207 yX8_isExcluded) ∈ gtb := gi 937 (by decide +kernel) rfl
theorem zl_RX8_211 : (Cond.methodLink RX8 211 yX8_isIncluded) ∈ gtb := gi 953 (by decide +kernel) rfl
theorem zl_RX8_214 : (Cond.methodLink RX8 214 yX8_canEnd) ∈ gtb := gi 973 (by decide +kernel) rfl
theorem zl_RX8_217 : (Cond.methodLink RX8 217 yX8_canEndTop) ∈ gtb := gi 969 (by decide +kernel) rfl
theorem zl_RX8_221 : (Cond.methodLink RX8 221 yX8_goesOn) ∈ gtb := gi 977 (by decide +kernel) rfl
theorem zl_RX8_225 : (Cond.methodLink RX8 225 yX8_fails) ∈ gtb := gi 898 (by decide +kernel) rfl
theorem zl_RX8_229 : (Cond.methodLink RX8 229 yX8_isAccepted) ∈ gtb := gi 933 (by decide +kernel) rfl
theorem zl_RX8_232 : (Cond.methodLink RX8 232 yX8_opensElement) ∈ gtb := gi 957 (by decide +kernel) rfl
theorem zl_RX8_236 : (Cond.methodLink RX8 236 yX8_wanted) ∈ gtb := gi 965 (by decide +kernel) rfl
theorem zl_RX8_249 : (Cond.methodLink RX8 249 yX8_levelLength) ∈ gtb := gi 894 (by decide +kernel) rfl
theorem zl_RX8_253 : (Cond.methodLink RX8 253 yX8_mode) ∈ gtb := gi 917 (by decide +kernel) rfl
theorem zl_RX8_256 : (Cond.methodLink RX8 256 yX8_readsThing) ∈ gtb := gi 929 (by decide +kernel) rfl
theorem zl_RX8_260 : (Cond.methodLink RX8 260 yX8_opensMark) ∈ gtb := gi 921 (by decide +kernel) rfl
theorem zl_RX8_263 : (Cond.methodLink RX8 263 yX8_closesTo) ∈ gtb := gi 985 (by decide +kernel) rfl
theorem zl_RX8_266 : (Cond.methodLink RX8 266 yX8_sortAt) ∈ gtb := gi 906 (by decide +kernel) rfl
theorem zl_RX8_269 : (Cond.methodLink RX8 269 yX8_valueAt) ∈ gtb := gi 913 (by decide +kernel) rfl
theorem zl_RX8_272 : (Cond.methodLink RX8 272 yX8_readsPlain) ∈ gtb := gi 925 (by decide +kernel) rfl
theorem zl_RX8_275 : (Cond.methodLink RX8 275 yX8_readsEnd) ∈ gtb := gi 981 (by decide +kernel) rfl
theorem zl_RX8_278 : (Cond.methodLink RX8 278 yX8_readsLine) ∈ gtb := gi 989 (by decide +kernel) rfl
theorem zl_RX8_284 : (Cond.methodLink RX8 284 yX8_keepsState) ∈ gtb := gi 890 (by decide +kernel) rfl
theorem zl_RX8_287 : (Cond.methodLink RX8 287 yX8_readsToken) ∈ gtb := gi 902 (by decide +kernel) rfl
theorem zl_RX8_290 : (Cond.methodLink RX8 290 yX8_readsRow) ∈ gtb := gi 886 (by decide +kernel) rfl
theorem zl_RX8_293 : (Cond.methodLink RX8 293 yX8_isAsBefore) ∈ gtb := gi 1224 (by decide +kernel) rfl
theorem zl_RX8_296 : (Cond.methodLink RX8 296 yX8_keepsOld) ∈ gtb := gi 1216 (by decide +kernel) rfl
theorem zl_RX8_299 : (Cond.methodLink RX8 299 yX8_tells) ∈ gtb := gi 1220 (by decide +kernel) rfl
theorem zl_RX8_305 : (Cond.methodLink RX8 305 yX8_writes) ∈ gtb := gi 1240 (by decide +kernel) rfl
theorem zl_RX8_308 : (Cond.methodLink RX8 308 yX8_forms) ∈ gtb := gi 1236 (by decide +kernel) rfl
theorem zl_RX8_311 : (Cond.methodLink RX8 311 yX8_codeAt) ∈ gtb := gi 1260 (by decide +kernel) rfl
theorem zl_RX8_314 : (Cond.methodLink RX8 314 yX8_isThing) ∈ gtb := gi 1276 (by decide +kernel) rfl
theorem zl_RX8_317 : (Cond.methodLink RX8 317 yX8_isClean) ∈ gtb := gi 1328 (by decide +kernel) rfl
theorem zl_RX8_320 : (Cond.methodLink RX8 320 yX8_adds) ∈ gtb := gi 1344 (by decide +kernel) rfl
theorem zl_RX8_323 : (Cond.methodLink RX8 323 yX8_isWay) ∈ gtb := gi 1340 (by decide +kernel) rfl
theorem zl_RX8_327 : (Cond.methodLink RX8 327 yX8_isTag) ∈ gtb := gi 1348 (by decide +kernel) rfl
theorem zl_RX8_330 : (Cond.methodLink RX8 330 yX8_countWays) ∈ gtb := gi 1336 (by decide +kernel) rfl
theorem zd_RJ6_265 : (Cond.constant RJ6 265 1431655765) ∈ gtb := gi 565 (by decide +kernel) rfl
theorem zd_RJ6_266 : (Cond.constant RJ6 266 858993459) ∈ gtb := gi 566 (by decide +kernel) rfl
theorem zd_RJ6_267 : (Cond.constant RJ6 267 252645135) ∈ gtb := gi 567 (by decide +kernel) rfl
theorem zxK1 : (Cond.initialized (zEx 1)) ∈ gtb := gi 74 (by decide +kernel) rfl
theorem zxK2 : (Cond.initialized (zEx 2)) ∈ gtb := gi 75 (by decide +kernel) rfl
theorem zxK3 : (Cond.initialized (zEx 3)) ∈ gtb := gi 76 (by decide +kernel) rfl
theorem zar_int : (Cond.arrayClass .int) ∈ gtb := gi 127 (by decide +kernel) rfl
theorem zar_boolean : (Cond.arrayClass .boolean) ∈ gtb := gi 128 (by decide +kernel) rfl
theorem zar_char : (Cond.arrayClass .char) ∈ gtb := gi 227 (by decide +kernel) rfl
theorem zar_byte : (Cond.arrayClass .byte) ∈ gtb := gi 514 (by decide +kernel) rfl
theorem zar_long : (Cond.arrayClass .long) ∈ gtb := gi 1352 (by decide +kernel) rfl
