/-! THE REFERENCE'S REGION as its constructor makes it, ahead of its first reading: cells 1 .. 44 -/
set_option maxRecDepth 100000 in
def qAlloc (x0 : Nat) (M : zM) : Option (Int32 × zM) := zg (1 ≤ x0) (zlet (zsN M 100 60) fun M4 => (zlet (M.2.2.2 + 1) fun u2 => (zg (zk M4 x0 = 8) (zlet (zsR M4 x0 0 u2) fun M7 => (zlet (zsN M7 100 60) fun M11 => (zlet (M7.2.2.2 + 1) fun u9 => (zlet (zsR M11 x0 1 u9) fun M13 => (zlet (zsN M13 100 10) fun M17 => (zlet (M13.2.2.2 + 1) fun u15 => (zlet (zsR M17 x0 2 u15) fun M19 => (zlet (zsN M19 100 10) fun M23 => (zlet (M19.2.2.2 + 1) fun u21 => (zlet (zsR M23 x0 3 u21) fun M25 => (zlet (zsN M25 100 10) fun M29 => (zlet (M25.2.2.2 + 1) fun u27 => (zlet (zsR M29 x0 4 u27) fun M31 => (zlet (zsN M31 101 10) fun M35 => (zlet (M31.2.2.2 + 1) fun u33 => (zlet (zsR M35 x0 5 u33) fun M37 => (zlet (zsN M37 101 10) fun M41 => (zlet (M37.2.2.2 + 1) fun u39 => (zlet (zsR M41 x0 6 u39) fun M43 => (zlet (zsN M43 100 36) fun M47 => (zlet (M43.2.2.2 + 1) fun u45 => (zlet (zsR M47 x0 7 u45) fun M49 => (zlet (zsN M49 100 36) fun M53 => (zlet (M49.2.2.2 + 1) fun u51 => (zlet (zsR M53 x0 8 u51) fun M55 => (zlet (zsN M55 100 6) fun M59 => (zlet (M55.2.2.2 + 1) fun u57 => (zlet (zsR M59 x0 9 u57) fun M61 => (zlet (zsN M61 100 4) fun M65 => (zlet (M61.2.2.2 + 1) fun u63 => (zlet (zsR M65 x0 10 u63) fun M67 => (zlet (zsN M67 100 60) fun M71 => (zlet (M67.2.2.2 + 1) fun u69 => (zlet (zsR M71 x0 11 u69) fun M73 => (zlet (zsN M73 100 60) fun M77 => (zlet (M73.2.2.2 + 1) fun u75 => (zlet (zsR M77 x0 12 u75) fun M79 => (zlet (zsN M79 100 620) fun M83 => (zlet (M79.2.2.2 + 1) fun u81 => (zlet (zsR M83 x0 15 u81) fun M85 => (zlet (zsN M85 100 620) fun M89 => (zlet (M85.2.2.2 + 1) fun u87 => (zlet (zsR M89 x0 16 u87) fun M91 => (zlet (zsN M91 100 20) fun M95 => (zlet (M91.2.2.2 + 1) fun u93 => (zlet (zsR M95 x0 19 u93) fun M97 => (zlet (zsN M97 100 20) fun M101 => (zlet (M97.2.2.2 + 1) fun u99 => (zlet (zsR M101 x0 20 u99) fun M103 => (zlet (zsN M103 101 20) fun M107 => (zlet (M103.2.2.2 + 1) fun u105 => (zlet (zsR M107 x0 21 u105) fun M109 => (zlet (zsN M109 100 20) fun M113 => (zlet (M109.2.2.2 + 1) fun u111 => (zlet (zsR M113 x0 22 u111) fun M115 => (zlet (zsN M115 100 300) fun M119 => (zlet (M115.2.2.2 + 1) fun u117 => (zlet (zsR M119 x0 26 u117) fun M121 => (zlet (zsN M121 100 300) fun M125 => (zlet (M121.2.2.2 + 1) fun u123 => (zlet (zsR M125 x0 27 u123) fun M127 => (zlet (zsN M127 100 300) fun M131 => (zlet (M127.2.2.2 + 1) fun u129 => (zlet (zsR M131 x0 28 u129) fun M133 => (zlet (zsN M133 100 300) fun M137 => (zlet (M133.2.2.2 + 1) fun u135 => (zlet (zsR M137 x0 29 u135) fun M139 => (zlet (zsN M139 101 300) fun M143 => (zlet (M139.2.2.2 + 1) fun u141 => (zlet (zsR M143 x0 30 u141) fun M145 => (zlet (zsN M145 100 6000) fun M149 => (zlet (M145.2.2.2 + 1) fun u147 => (zlet (zsR M149 x0 34 u147) fun M151 => (zlet (zsN M151 100 6000) fun M155 => (zlet (M151.2.2.2 + 1) fun u153 => (zlet (zsR M155 x0 35 u153) fun M157 => (zlet (zsN M157 100 3) fun M161 => (zlet (M157.2.2.2 + 1) fun u159 => (zlet (zsR M161 x0 37 u159) fun M163 => (zlet (zsN M163 100 3) fun M167 => (zlet (M163.2.2.2 + 1) fun u165 => (zlet (zsR M167 x0 38 u165) fun M169 => (zlet (zsN M169 100 3) fun M173 => (zlet (M169.2.2.2 + 1) fun u171 => (zlet (zsR M173 x0 39 u171) fun M175 => (zlet (zsN M175 100 1860) fun M179 => (zlet (M175.2.2.2 + 1) fun u177 => (zlet (zsR M179 x0 40 u177) fun M181 => (zlet (zsN M181 100 61) fun M185 => (zlet (M181.2.2.2 + 1) fun u183 => (zlet (zsR M185 x0 42 u183) fun M187 => (zlet (zsN M187 100 1220) fun M191 => (zlet (M187.2.2.2 + 1) fun u189 => (zlet (zsR M191 x0 43 u189) fun M193 => (zlet (zsN M193 100 61) fun M197 => (zlet (M193.2.2.2 + 1) fun u195 => (zlet (zsR M197 x0 44 u195) fun M199 => (zlet (zsN M199 100 61) fun M203 => (zlet (M199.2.2.2 + 1) fun u201 => (zlet (zsR M203 x0 45 u201) fun M205 => (zlet (zsN M205 100 61) fun M209 => (zlet (M205.2.2.2 + 1) fun u207 => (zlet (zsR M209 x0 46 u207) fun M211 => (zlet (zsN M211 100 1220) fun M215 => (zlet (M211.2.2.2 + 1) fun u213 => (zlet (zsR M215 x0 47 u213) fun M217 => (zlet (zsN M217 100 61) fun M221 => (zlet (M217.2.2.2 + 1) fun u219 => (zlet (zsR M221 x0 48 u219) fun M223 => (zlet (zsN M223 100 61) fun M227 => (zlet (M223.2.2.2 + 1) fun u225 => (zlet (zsR M227 x0 49 u225) fun M229 => (zlet (zsN M229 100 620) fun M233 => (zlet (M229.2.2.2 + 1) fun u231 => (zlet (zsR M233 x0 50 u231) fun M235 => (zlet (zsN M235 100 620) fun M239 => (zlet (M235.2.2.2 + 1) fun u237 => (zlet (zsR M239 x0 51 u237) fun M241 => (zlet (zsN M241 100 300) fun M245 => (zlet (M241.2.2.2 + 1) fun u243 => (zlet (zsR M245 x0 53 u243) fun M247 => (zlet (zsN M247 100 300) fun M251 => (zlet (M247.2.2.2 + 1) fun u249 => (zlet (zsR M251 x0 54 u249) fun M253 => (zlet (zsN M253 100 300) fun M257 => (zlet (M253.2.2.2 + 1) fun u255 => (zlet (zsR M257 x0 55 u255) fun M259 => (some (0, M259))))))))))))))))))))))))))))))))))))))))))))))))))))))))))))))))))))))))))))))))))))))))))))))))))))))))))))))))))))))))))))))))))))
theorem qzb_zg {c : Prop} [Decidable c] (k : Option (Int32 × zM)) (f : Int32 → zM → Option (Int32 × zM)) : zb (zg c k) f = zg c (zb k f) := by
  unfold zg
  split
  · rfl
  · rfl
theorem qzb_zlet {α : Type} (x : α) (g : α → Option (Int32 × zM)) (f : Int32 → zM → Option (Int32 × zM)) : zb (zlet x g) f = zlet x fun y => zb (g y) f := rfl
theorem qzb_some (r : Int32) (M : zM) {β : Type} (f : Int32 → zM → Option β) : zb (some (r, M)) f = f r M := rfl
set_option maxRecDepth 100000 in
theorem qAlloc_init (x0 : Nat) (M : zM) : fX8_init x0 M = zb (qAlloc x0 M) fun _ M2 => zb (fX8_readsText x0 M2) fun _ M3 => some (0, M3) := by
  unfold qAlloc fX8_init
  simp only [qzb_zg, qzb_zlet, qzb_some]
def qD1 : zM := match qAlloc 1 (qM0 8) with
  | some q => q.2
  | none => qM0 8
set_option maxRecDepth 1000000 in
theorem qD1_0 : (qAlloc 1 (qM0 8)).map (fun q => q.1) = some 0 := by decide +kernel
theorem qD1_is : qAlloc 1 (qM0 8) = some (0, qD1) := by
  have h := qD1_0
  unfold qD1
  cases e : qAlloc 1 (qM0 8) with
  | none => rw [e] at h; cases h
  | some q => rw [e] at h; simp at h; rw [← h]
set_option maxRecDepth 1000000 in
theorem qD1_n : qD1.2.2.2 = 44 := by decide +kernel
/-- its tables, held so that nothing counts them out again -/
theorem qTD_ex : ∃ T : (Nat → Nat → Nat) × (Nat → Nat × Nat), T = (qD1.2.1, qD1.2.2.1) := ⟨_, rfl⟩
noncomputable def qTD : (Nat → Nat → Nat) × (Nat → Nat × Nat) := Classical.choose qTD_ex
theorem qTD_is : qTD = (qD1.2.1, qD1.2.2.1) := Classical.choose_spec qTD_ex
noncomputable def qDH : Nat → Nat × Nat := qTD.2
noncomputable def qDR : Nat → Nat → Nat := qTD.1
theorem qDH_is : qDH = qD1.2.2.1 := by unfold qDH; rw [qTD_is]
theorem qDR_is : qDR = qD1.2.1 := by unfold qDR; rw [qTD_is]
noncomputable def qD (I : Nat → Nat → Int32) : zM := (I, qDR, qDH, 44)
theorem qD1_eq : qD1 = qD qD1.1 := by
  unfold qD
  rw [qDR_is, qDH_is, ← qD1_n]
theorem qD_I (I : Nat → Nat → Int32) (a k : Nat) : zI (qD I) a k = I a k := rfl
theorem qD_s (I : Nat → Nat → Int32) (a k : Nat) (v : Int32) : zsI (qD I) a k v = qD (qU I a k v) := rfl
theorem qD_k0 {I : Nat → Nat → Int32} {a c n : Nat} (h : qDH a = (c, n)) (h1 : 1 ≤ a) (h2 : a ≤ 44) : zk (qD I) a = c := by
  unfold zk qD
  dsimp only
  rw [if_pos ⟨h1, h2⟩, h]
theorem qD_l0 {I : Nat → Nat → Int32} {a c n : Nat} (h : qDH a = (c, n)) : zl (qD I) a = n := by
  unfold zl qD
  dsimp only
  rw [h]
theorem qD_r0 {I : Nat → Nat → Int32} {a k v : Nat} (h : qDR a k = v) : zR (qD I) a k = v := by
  unfold zR qD
  dsimp only
  rw [h]
set_option maxRecDepth 1000000 in
theorem quK0_0 : qD1.2.2.1 1 = (8, 0) ∧ qD1.2.2.1 2 = (100, 60) ∧ qD1.2.2.1 3 = (100, 60) ∧ qD1.2.2.1 4 = (100, 10) ∧ qD1.2.2.1 5 = (100, 10) ∧ qD1.2.2.1 6 = (100, 10) ∧ qD1.2.2.1 7 = (101, 10) ∧ qD1.2.2.1 8 = (101, 10) ∧ qD1.2.2.1 9 = (100, 36) ∧ qD1.2.2.1 10 = (100, 36) := by decide +kernel
set_option maxRecDepth 1000000 in
theorem quK0_1 : qD1.2.2.1 11 = (100, 6) ∧ qD1.2.2.1 12 = (100, 4) ∧ qD1.2.2.1 13 = (100, 60) ∧ qD1.2.2.1 14 = (100, 60) ∧ qD1.2.2.1 15 = (100, 620) ∧ qD1.2.2.1 16 = (100, 620) ∧ qD1.2.2.1 17 = (100, 20) ∧ qD1.2.2.1 18 = (100, 20) ∧ qD1.2.2.1 19 = (101, 20) ∧ qD1.2.2.1 20 = (100, 20) := by decide +kernel
set_option maxRecDepth 1000000 in
theorem quK0_2 : qD1.2.2.1 21 = (100, 300) ∧ qD1.2.2.1 22 = (100, 300) ∧ qD1.2.2.1 23 = (100, 300) ∧ qD1.2.2.1 24 = (100, 300) ∧ qD1.2.2.1 25 = (101, 300) ∧ qD1.2.2.1 26 = (100, 6000) ∧ qD1.2.2.1 27 = (100, 6000) ∧ qD1.2.2.1 28 = (100, 3) ∧ qD1.2.2.1 29 = (100, 3) ∧ qD1.2.2.1 30 = (100, 3) := by decide +kernel
set_option maxRecDepth 1000000 in
theorem quK0_3 : qD1.2.2.1 31 = (100, 1860) ∧ qD1.2.2.1 32 = (100, 61) ∧ qD1.2.2.1 33 = (100, 1220) ∧ qD1.2.2.1 34 = (100, 61) ∧ qD1.2.2.1 35 = (100, 61) ∧ qD1.2.2.1 36 = (100, 61) ∧ qD1.2.2.1 37 = (100, 1220) ∧ qD1.2.2.1 38 = (100, 61) ∧ qD1.2.2.1 39 = (100, 61) ∧ qD1.2.2.1 40 = (100, 620) := by decide +kernel
set_option maxRecDepth 1000000 in
theorem quK0_4 : qD1.2.2.1 41 = (100, 620) ∧ qD1.2.2.1 42 = (100, 300) ∧ qD1.2.2.1 43 = (100, 300) ∧ qD1.2.2.1 44 = (100, 300) := by decide +kernel
theorem quK0 : qDH 1 = (8, 0) ∧ qDH 2 = (100, 60) ∧ qDH 3 = (100, 60) ∧ qDH 4 = (100, 10) ∧ qDH 5 = (100, 10) ∧ qDH 6 = (100, 10) ∧ qDH 7 = (101, 10) ∧ qDH 8 = (101, 10) ∧ qDH 9 = (100, 36) ∧ qDH 10 = (100, 36) := by rw [qDH_is]; exact quK0_0
theorem quK1 : qDH 11 = (100, 6) ∧ qDH 12 = (100, 4) ∧ qDH 13 = (100, 60) ∧ qDH 14 = (100, 60) ∧ qDH 15 = (100, 620) ∧ qDH 16 = (100, 620) ∧ qDH 17 = (100, 20) ∧ qDH 18 = (100, 20) ∧ qDH 19 = (101, 20) ∧ qDH 20 = (100, 20) := by rw [qDH_is]; exact quK0_1
theorem quK2 : qDH 21 = (100, 300) ∧ qDH 22 = (100, 300) ∧ qDH 23 = (100, 300) ∧ qDH 24 = (100, 300) ∧ qDH 25 = (101, 300) ∧ qDH 26 = (100, 6000) ∧ qDH 27 = (100, 6000) ∧ qDH 28 = (100, 3) ∧ qDH 29 = (100, 3) ∧ qDH 30 = (100, 3) := by rw [qDH_is]; exact quK0_2
theorem quK3 : qDH 31 = (100, 1860) ∧ qDH 32 = (100, 61) ∧ qDH 33 = (100, 1220) ∧ qDH 34 = (100, 61) ∧ qDH 35 = (100, 61) ∧ qDH 36 = (100, 61) ∧ qDH 37 = (100, 1220) ∧ qDH 38 = (100, 61) ∧ qDH 39 = (100, 61) ∧ qDH 40 = (100, 620) := by rw [qDH_is]; exact quK0_3
theorem quK4 : qDH 41 = (100, 620) ∧ qDH 42 = (100, 300) ∧ qDH 43 = (100, 300) ∧ qDH 44 = (100, 300) := by rw [qDH_is]; exact quK0_4
set_option maxRecDepth 1000000 in
theorem quR0_0 : qD1.2.1 1 0 = 2 ∧ qD1.2.1 1 1 = 3 ∧ qD1.2.1 1 2 = 4 ∧ qD1.2.1 1 3 = 5 ∧ qD1.2.1 1 4 = 6 ∧ qD1.2.1 1 5 = 7 ∧ qD1.2.1 1 6 = 8 ∧ qD1.2.1 1 7 = 9 ∧ qD1.2.1 1 8 = 10 ∧ qD1.2.1 1 9 = 11 := by decide +kernel
set_option maxRecDepth 1000000 in
theorem quR0_1 : qD1.2.1 1 10 = 12 ∧ qD1.2.1 1 11 = 13 ∧ qD1.2.1 1 12 = 14 ∧ qD1.2.1 1 15 = 15 ∧ qD1.2.1 1 16 = 16 ∧ qD1.2.1 1 19 = 17 ∧ qD1.2.1 1 20 = 18 ∧ qD1.2.1 1 21 = 19 ∧ qD1.2.1 1 22 = 20 ∧ qD1.2.1 1 26 = 21 := by decide +kernel
set_option maxRecDepth 1000000 in
theorem quR0_2 : qD1.2.1 1 27 = 22 ∧ qD1.2.1 1 28 = 23 ∧ qD1.2.1 1 29 = 24 ∧ qD1.2.1 1 30 = 25 ∧ qD1.2.1 1 34 = 26 ∧ qD1.2.1 1 35 = 27 ∧ qD1.2.1 1 37 = 28 ∧ qD1.2.1 1 38 = 29 ∧ qD1.2.1 1 39 = 30 ∧ qD1.2.1 1 40 = 31 := by decide +kernel
set_option maxRecDepth 1000000 in
theorem quR0_3 : qD1.2.1 1 42 = 32 ∧ qD1.2.1 1 43 = 33 ∧ qD1.2.1 1 44 = 34 ∧ qD1.2.1 1 45 = 35 ∧ qD1.2.1 1 46 = 36 ∧ qD1.2.1 1 47 = 37 ∧ qD1.2.1 1 48 = 38 ∧ qD1.2.1 1 49 = 39 ∧ qD1.2.1 1 50 = 40 ∧ qD1.2.1 1 51 = 41 := by decide +kernel
set_option maxRecDepth 1000000 in
theorem quR0_4 : qD1.2.1 1 53 = 42 ∧ qD1.2.1 1 54 = 43 ∧ qD1.2.1 1 55 = 44 := by decide +kernel
theorem quR0 : qDR 1 0 = 2 ∧ qDR 1 1 = 3 ∧ qDR 1 2 = 4 ∧ qDR 1 3 = 5 ∧ qDR 1 4 = 6 ∧ qDR 1 5 = 7 ∧ qDR 1 6 = 8 ∧ qDR 1 7 = 9 ∧ qDR 1 8 = 10 ∧ qDR 1 9 = 11 := by rw [qDR_is]; exact quR0_0
theorem quR1 : qDR 1 10 = 12 ∧ qDR 1 11 = 13 ∧ qDR 1 12 = 14 ∧ qDR 1 15 = 15 ∧ qDR 1 16 = 16 ∧ qDR 1 19 = 17 ∧ qDR 1 20 = 18 ∧ qDR 1 21 = 19 ∧ qDR 1 22 = 20 ∧ qDR 1 26 = 21 := by rw [qDR_is]; exact quR0_1
theorem quR2 : qDR 1 27 = 22 ∧ qDR 1 28 = 23 ∧ qDR 1 29 = 24 ∧ qDR 1 30 = 25 ∧ qDR 1 34 = 26 ∧ qDR 1 35 = 27 ∧ qDR 1 37 = 28 ∧ qDR 1 38 = 29 ∧ qDR 1 39 = 30 ∧ qDR 1 40 = 31 := by rw [qDR_is]; exact quR0_2
theorem quR3 : qDR 1 42 = 32 ∧ qDR 1 43 = 33 ∧ qDR 1 44 = 34 ∧ qDR 1 45 = 35 ∧ qDR 1 46 = 36 ∧ qDR 1 47 = 37 ∧ qDR 1 48 = 38 ∧ qDR 1 49 = 39 ∧ qDR 1 50 = 40 ∧ qDR 1 51 = 41 := by rw [qDR_is]; exact quR0_3
theorem quR4 : qDR 1 53 = 42 ∧ qDR 1 54 = 43 ∧ qDR 1 55 = 44 := by rw [qDR_is]; exact quR0_4
theorem qdk_1 (I : Nat → Nat → Int32) : zk (qD I) 1 = 8 := qD_k0 (n := 0) quK0.1 (by decide) (by decide)
theorem qdk_2 (I : Nat → Nat → Int32) : zk (qD I) 2 = 100 := qD_k0 (n := 60) quK0.2.1 (by decide) (by decide)
theorem qdl_2 (I : Nat → Nat → Int32) : zl (qD I) 2 = 60 := qD_l0 (c := 100) quK0.2.1
theorem qdk_3 (I : Nat → Nat → Int32) : zk (qD I) 3 = 100 := qD_k0 (n := 60) quK0.2.2.1 (by decide) (by decide)
theorem qdl_3 (I : Nat → Nat → Int32) : zl (qD I) 3 = 60 := qD_l0 (c := 100) quK0.2.2.1
theorem qdk_4 (I : Nat → Nat → Int32) : zk (qD I) 4 = 100 := qD_k0 (n := 10) quK0.2.2.2.1 (by decide) (by decide)
theorem qdl_4 (I : Nat → Nat → Int32) : zl (qD I) 4 = 10 := qD_l0 (c := 100) quK0.2.2.2.1
theorem qdk_5 (I : Nat → Nat → Int32) : zk (qD I) 5 = 100 := qD_k0 (n := 10) quK0.2.2.2.2.1 (by decide) (by decide)
theorem qdl_5 (I : Nat → Nat → Int32) : zl (qD I) 5 = 10 := qD_l0 (c := 100) quK0.2.2.2.2.1
theorem qdk_6 (I : Nat → Nat → Int32) : zk (qD I) 6 = 100 := qD_k0 (n := 10) quK0.2.2.2.2.2.1 (by decide) (by decide)
theorem qdl_6 (I : Nat → Nat → Int32) : zl (qD I) 6 = 10 := qD_l0 (c := 100) quK0.2.2.2.2.2.1
theorem qdk_7 (I : Nat → Nat → Int32) : zk (qD I) 7 = 101 := qD_k0 (n := 10) quK0.2.2.2.2.2.2.1 (by decide) (by decide)
theorem qdl_7 (I : Nat → Nat → Int32) : zl (qD I) 7 = 10 := qD_l0 (c := 101) quK0.2.2.2.2.2.2.1
theorem qdk_8 (I : Nat → Nat → Int32) : zk (qD I) 8 = 101 := qD_k0 (n := 10) quK0.2.2.2.2.2.2.2.1 (by decide) (by decide)
theorem qdl_8 (I : Nat → Nat → Int32) : zl (qD I) 8 = 10 := qD_l0 (c := 101) quK0.2.2.2.2.2.2.2.1
theorem qdk_9 (I : Nat → Nat → Int32) : zk (qD I) 9 = 100 := qD_k0 (n := 36) quK0.2.2.2.2.2.2.2.2.1 (by decide) (by decide)
theorem qdl_9 (I : Nat → Nat → Int32) : zl (qD I) 9 = 36 := qD_l0 (c := 100) quK0.2.2.2.2.2.2.2.2.1
theorem qdk_10 (I : Nat → Nat → Int32) : zk (qD I) 10 = 100 := qD_k0 (n := 36) quK0.2.2.2.2.2.2.2.2.2 (by decide) (by decide)
theorem qdl_10 (I : Nat → Nat → Int32) : zl (qD I) 10 = 36 := qD_l0 (c := 100) quK0.2.2.2.2.2.2.2.2.2
theorem qdk_11 (I : Nat → Nat → Int32) : zk (qD I) 11 = 100 := qD_k0 (n := 6) quK1.1 (by decide) (by decide)
theorem qdl_11 (I : Nat → Nat → Int32) : zl (qD I) 11 = 6 := qD_l0 (c := 100) quK1.1
theorem qdk_12 (I : Nat → Nat → Int32) : zk (qD I) 12 = 100 := qD_k0 (n := 4) quK1.2.1 (by decide) (by decide)
theorem qdl_12 (I : Nat → Nat → Int32) : zl (qD I) 12 = 4 := qD_l0 (c := 100) quK1.2.1
theorem qdk_13 (I : Nat → Nat → Int32) : zk (qD I) 13 = 100 := qD_k0 (n := 60) quK1.2.2.1 (by decide) (by decide)
theorem qdl_13 (I : Nat → Nat → Int32) : zl (qD I) 13 = 60 := qD_l0 (c := 100) quK1.2.2.1
theorem qdk_14 (I : Nat → Nat → Int32) : zk (qD I) 14 = 100 := qD_k0 (n := 60) quK1.2.2.2.1 (by decide) (by decide)
theorem qdl_14 (I : Nat → Nat → Int32) : zl (qD I) 14 = 60 := qD_l0 (c := 100) quK1.2.2.2.1
theorem qdk_15 (I : Nat → Nat → Int32) : zk (qD I) 15 = 100 := qD_k0 (n := 620) quK1.2.2.2.2.1 (by decide) (by decide)
theorem qdl_15 (I : Nat → Nat → Int32) : zl (qD I) 15 = 620 := qD_l0 (c := 100) quK1.2.2.2.2.1
theorem qdk_16 (I : Nat → Nat → Int32) : zk (qD I) 16 = 100 := qD_k0 (n := 620) quK1.2.2.2.2.2.1 (by decide) (by decide)
theorem qdl_16 (I : Nat → Nat → Int32) : zl (qD I) 16 = 620 := qD_l0 (c := 100) quK1.2.2.2.2.2.1
theorem qdk_17 (I : Nat → Nat → Int32) : zk (qD I) 17 = 100 := qD_k0 (n := 20) quK1.2.2.2.2.2.2.1 (by decide) (by decide)
theorem qdl_17 (I : Nat → Nat → Int32) : zl (qD I) 17 = 20 := qD_l0 (c := 100) quK1.2.2.2.2.2.2.1
theorem qdk_18 (I : Nat → Nat → Int32) : zk (qD I) 18 = 100 := qD_k0 (n := 20) quK1.2.2.2.2.2.2.2.1 (by decide) (by decide)
theorem qdl_18 (I : Nat → Nat → Int32) : zl (qD I) 18 = 20 := qD_l0 (c := 100) quK1.2.2.2.2.2.2.2.1
theorem qdk_19 (I : Nat → Nat → Int32) : zk (qD I) 19 = 101 := qD_k0 (n := 20) quK1.2.2.2.2.2.2.2.2.1 (by decide) (by decide)
theorem qdl_19 (I : Nat → Nat → Int32) : zl (qD I) 19 = 20 := qD_l0 (c := 101) quK1.2.2.2.2.2.2.2.2.1
theorem qdk_20 (I : Nat → Nat → Int32) : zk (qD I) 20 = 100 := qD_k0 (n := 20) quK1.2.2.2.2.2.2.2.2.2 (by decide) (by decide)
theorem qdl_20 (I : Nat → Nat → Int32) : zl (qD I) 20 = 20 := qD_l0 (c := 100) quK1.2.2.2.2.2.2.2.2.2
theorem qdk_21 (I : Nat → Nat → Int32) : zk (qD I) 21 = 100 := qD_k0 (n := 300) quK2.1 (by decide) (by decide)
theorem qdl_21 (I : Nat → Nat → Int32) : zl (qD I) 21 = 300 := qD_l0 (c := 100) quK2.1
theorem qdk_22 (I : Nat → Nat → Int32) : zk (qD I) 22 = 100 := qD_k0 (n := 300) quK2.2.1 (by decide) (by decide)
theorem qdl_22 (I : Nat → Nat → Int32) : zl (qD I) 22 = 300 := qD_l0 (c := 100) quK2.2.1
theorem qdk_23 (I : Nat → Nat → Int32) : zk (qD I) 23 = 100 := qD_k0 (n := 300) quK2.2.2.1 (by decide) (by decide)
theorem qdl_23 (I : Nat → Nat → Int32) : zl (qD I) 23 = 300 := qD_l0 (c := 100) quK2.2.2.1
theorem qdk_24 (I : Nat → Nat → Int32) : zk (qD I) 24 = 100 := qD_k0 (n := 300) quK2.2.2.2.1 (by decide) (by decide)
theorem qdl_24 (I : Nat → Nat → Int32) : zl (qD I) 24 = 300 := qD_l0 (c := 100) quK2.2.2.2.1
theorem qdk_25 (I : Nat → Nat → Int32) : zk (qD I) 25 = 101 := qD_k0 (n := 300) quK2.2.2.2.2.1 (by decide) (by decide)
theorem qdl_25 (I : Nat → Nat → Int32) : zl (qD I) 25 = 300 := qD_l0 (c := 101) quK2.2.2.2.2.1
theorem qdk_26 (I : Nat → Nat → Int32) : zk (qD I) 26 = 100 := qD_k0 (n := 6000) quK2.2.2.2.2.2.1 (by decide) (by decide)
theorem qdl_26 (I : Nat → Nat → Int32) : zl (qD I) 26 = 6000 := qD_l0 (c := 100) quK2.2.2.2.2.2.1
theorem qdk_27 (I : Nat → Nat → Int32) : zk (qD I) 27 = 100 := qD_k0 (n := 6000) quK2.2.2.2.2.2.2.1 (by decide) (by decide)
theorem qdl_27 (I : Nat → Nat → Int32) : zl (qD I) 27 = 6000 := qD_l0 (c := 100) quK2.2.2.2.2.2.2.1
theorem qdk_28 (I : Nat → Nat → Int32) : zk (qD I) 28 = 100 := qD_k0 (n := 3) quK2.2.2.2.2.2.2.2.1 (by decide) (by decide)
theorem qdl_28 (I : Nat → Nat → Int32) : zl (qD I) 28 = 3 := qD_l0 (c := 100) quK2.2.2.2.2.2.2.2.1
theorem qdk_29 (I : Nat → Nat → Int32) : zk (qD I) 29 = 100 := qD_k0 (n := 3) quK2.2.2.2.2.2.2.2.2.1 (by decide) (by decide)
theorem qdl_29 (I : Nat → Nat → Int32) : zl (qD I) 29 = 3 := qD_l0 (c := 100) quK2.2.2.2.2.2.2.2.2.1
theorem qdk_30 (I : Nat → Nat → Int32) : zk (qD I) 30 = 100 := qD_k0 (n := 3) quK2.2.2.2.2.2.2.2.2.2 (by decide) (by decide)
theorem qdl_30 (I : Nat → Nat → Int32) : zl (qD I) 30 = 3 := qD_l0 (c := 100) quK2.2.2.2.2.2.2.2.2.2
theorem qdk_31 (I : Nat → Nat → Int32) : zk (qD I) 31 = 100 := qD_k0 (n := 1860) quK3.1 (by decide) (by decide)
theorem qdl_31 (I : Nat → Nat → Int32) : zl (qD I) 31 = 1860 := qD_l0 (c := 100) quK3.1
theorem qdk_32 (I : Nat → Nat → Int32) : zk (qD I) 32 = 100 := qD_k0 (n := 61) quK3.2.1 (by decide) (by decide)
theorem qdl_32 (I : Nat → Nat → Int32) : zl (qD I) 32 = 61 := qD_l0 (c := 100) quK3.2.1
theorem qdk_33 (I : Nat → Nat → Int32) : zk (qD I) 33 = 100 := qD_k0 (n := 1220) quK3.2.2.1 (by decide) (by decide)
theorem qdl_33 (I : Nat → Nat → Int32) : zl (qD I) 33 = 1220 := qD_l0 (c := 100) quK3.2.2.1
theorem qdk_34 (I : Nat → Nat → Int32) : zk (qD I) 34 = 100 := qD_k0 (n := 61) quK3.2.2.2.1 (by decide) (by decide)
theorem qdl_34 (I : Nat → Nat → Int32) : zl (qD I) 34 = 61 := qD_l0 (c := 100) quK3.2.2.2.1
theorem qdk_35 (I : Nat → Nat → Int32) : zk (qD I) 35 = 100 := qD_k0 (n := 61) quK3.2.2.2.2.1 (by decide) (by decide)
theorem qdl_35 (I : Nat → Nat → Int32) : zl (qD I) 35 = 61 := qD_l0 (c := 100) quK3.2.2.2.2.1
theorem qdk_36 (I : Nat → Nat → Int32) : zk (qD I) 36 = 100 := qD_k0 (n := 61) quK3.2.2.2.2.2.1 (by decide) (by decide)
theorem qdl_36 (I : Nat → Nat → Int32) : zl (qD I) 36 = 61 := qD_l0 (c := 100) quK3.2.2.2.2.2.1
theorem qdk_37 (I : Nat → Nat → Int32) : zk (qD I) 37 = 100 := qD_k0 (n := 1220) quK3.2.2.2.2.2.2.1 (by decide) (by decide)
theorem qdl_37 (I : Nat → Nat → Int32) : zl (qD I) 37 = 1220 := qD_l0 (c := 100) quK3.2.2.2.2.2.2.1
theorem qdk_38 (I : Nat → Nat → Int32) : zk (qD I) 38 = 100 := qD_k0 (n := 61) quK3.2.2.2.2.2.2.2.1 (by decide) (by decide)
theorem qdl_38 (I : Nat → Nat → Int32) : zl (qD I) 38 = 61 := qD_l0 (c := 100) quK3.2.2.2.2.2.2.2.1
theorem qdk_39 (I : Nat → Nat → Int32) : zk (qD I) 39 = 100 := qD_k0 (n := 61) quK3.2.2.2.2.2.2.2.2.1 (by decide) (by decide)
theorem qdl_39 (I : Nat → Nat → Int32) : zl (qD I) 39 = 61 := qD_l0 (c := 100) quK3.2.2.2.2.2.2.2.2.1
theorem qdk_40 (I : Nat → Nat → Int32) : zk (qD I) 40 = 100 := qD_k0 (n := 620) quK3.2.2.2.2.2.2.2.2.2 (by decide) (by decide)
theorem qdl_40 (I : Nat → Nat → Int32) : zl (qD I) 40 = 620 := qD_l0 (c := 100) quK3.2.2.2.2.2.2.2.2.2
theorem qdk_41 (I : Nat → Nat → Int32) : zk (qD I) 41 = 100 := qD_k0 (n := 620) quK4.1 (by decide) (by decide)
theorem qdl_41 (I : Nat → Nat → Int32) : zl (qD I) 41 = 620 := qD_l0 (c := 100) quK4.1
theorem qdk_42 (I : Nat → Nat → Int32) : zk (qD I) 42 = 100 := qD_k0 (n := 300) quK4.2.1 (by decide) (by decide)
theorem qdl_42 (I : Nat → Nat → Int32) : zl (qD I) 42 = 300 := qD_l0 (c := 100) quK4.2.1
theorem qdk_43 (I : Nat → Nat → Int32) : zk (qD I) 43 = 100 := qD_k0 (n := 300) quK4.2.2.1 (by decide) (by decide)
theorem qdl_43 (I : Nat → Nat → Int32) : zl (qD I) 43 = 300 := qD_l0 (c := 100) quK4.2.2.1
theorem qdk_44 (I : Nat → Nat → Int32) : zk (qD I) 44 = 100 := qD_k0 (n := 300) quK4.2.2.2 (by decide) (by decide)
theorem qdl_44 (I : Nat → Nat → Int32) : zl (qD I) 44 = 300 := qD_l0 (c := 100) quK4.2.2.2
theorem qdr_0 (I : Nat → Nat → Int32) : zR (qD I) 1 0 = 2 := qD_r0 quR0.1
theorem qdr_1 (I : Nat → Nat → Int32) : zR (qD I) 1 1 = 3 := qD_r0 quR0.2.1
theorem qdr_2 (I : Nat → Nat → Int32) : zR (qD I) 1 2 = 4 := qD_r0 quR0.2.2.1
theorem qdr_3 (I : Nat → Nat → Int32) : zR (qD I) 1 3 = 5 := qD_r0 quR0.2.2.2.1
theorem qdr_4 (I : Nat → Nat → Int32) : zR (qD I) 1 4 = 6 := qD_r0 quR0.2.2.2.2.1
theorem qdr_5 (I : Nat → Nat → Int32) : zR (qD I) 1 5 = 7 := qD_r0 quR0.2.2.2.2.2.1
theorem qdr_6 (I : Nat → Nat → Int32) : zR (qD I) 1 6 = 8 := qD_r0 quR0.2.2.2.2.2.2.1
theorem qdr_7 (I : Nat → Nat → Int32) : zR (qD I) 1 7 = 9 := qD_r0 quR0.2.2.2.2.2.2.2.1
theorem qdr_8 (I : Nat → Nat → Int32) : zR (qD I) 1 8 = 10 := qD_r0 quR0.2.2.2.2.2.2.2.2.1
theorem qdr_9 (I : Nat → Nat → Int32) : zR (qD I) 1 9 = 11 := qD_r0 quR0.2.2.2.2.2.2.2.2.2
theorem qdr_10 (I : Nat → Nat → Int32) : zR (qD I) 1 10 = 12 := qD_r0 quR1.1
theorem qdr_11 (I : Nat → Nat → Int32) : zR (qD I) 1 11 = 13 := qD_r0 quR1.2.1
theorem qdr_12 (I : Nat → Nat → Int32) : zR (qD I) 1 12 = 14 := qD_r0 quR1.2.2.1
theorem qdr_15 (I : Nat → Nat → Int32) : zR (qD I) 1 15 = 15 := qD_r0 quR1.2.2.2.1
theorem qdr_16 (I : Nat → Nat → Int32) : zR (qD I) 1 16 = 16 := qD_r0 quR1.2.2.2.2.1
theorem qdr_19 (I : Nat → Nat → Int32) : zR (qD I) 1 19 = 17 := qD_r0 quR1.2.2.2.2.2.1
theorem qdr_20 (I : Nat → Nat → Int32) : zR (qD I) 1 20 = 18 := qD_r0 quR1.2.2.2.2.2.2.1
theorem qdr_21 (I : Nat → Nat → Int32) : zR (qD I) 1 21 = 19 := qD_r0 quR1.2.2.2.2.2.2.2.1
theorem qdr_22 (I : Nat → Nat → Int32) : zR (qD I) 1 22 = 20 := qD_r0 quR1.2.2.2.2.2.2.2.2.1
theorem qdr_26 (I : Nat → Nat → Int32) : zR (qD I) 1 26 = 21 := qD_r0 quR1.2.2.2.2.2.2.2.2.2
theorem qdr_27 (I : Nat → Nat → Int32) : zR (qD I) 1 27 = 22 := qD_r0 quR2.1
theorem qdr_28 (I : Nat → Nat → Int32) : zR (qD I) 1 28 = 23 := qD_r0 quR2.2.1
theorem qdr_29 (I : Nat → Nat → Int32) : zR (qD I) 1 29 = 24 := qD_r0 quR2.2.2.1
theorem qdr_30 (I : Nat → Nat → Int32) : zR (qD I) 1 30 = 25 := qD_r0 quR2.2.2.2.1
theorem qdr_34 (I : Nat → Nat → Int32) : zR (qD I) 1 34 = 26 := qD_r0 quR2.2.2.2.2.1
theorem qdr_35 (I : Nat → Nat → Int32) : zR (qD I) 1 35 = 27 := qD_r0 quR2.2.2.2.2.2.1
theorem qdr_37 (I : Nat → Nat → Int32) : zR (qD I) 1 37 = 28 := qD_r0 quR2.2.2.2.2.2.2.1
theorem qdr_38 (I : Nat → Nat → Int32) : zR (qD I) 1 38 = 29 := qD_r0 quR2.2.2.2.2.2.2.2.1
theorem qdr_39 (I : Nat → Nat → Int32) : zR (qD I) 1 39 = 30 := qD_r0 quR2.2.2.2.2.2.2.2.2.1
theorem qdr_40 (I : Nat → Nat → Int32) : zR (qD I) 1 40 = 31 := qD_r0 quR2.2.2.2.2.2.2.2.2.2
theorem qdr_42 (I : Nat → Nat → Int32) : zR (qD I) 1 42 = 32 := qD_r0 quR3.1
theorem qdr_43 (I : Nat → Nat → Int32) : zR (qD I) 1 43 = 33 := qD_r0 quR3.2.1
theorem qdr_44 (I : Nat → Nat → Int32) : zR (qD I) 1 44 = 34 := qD_r0 quR3.2.2.1
theorem qdr_45 (I : Nat → Nat → Int32) : zR (qD I) 1 45 = 35 := qD_r0 quR3.2.2.2.1
theorem qdr_46 (I : Nat → Nat → Int32) : zR (qD I) 1 46 = 36 := qD_r0 quR3.2.2.2.2.1
theorem qdr_47 (I : Nat → Nat → Int32) : zR (qD I) 1 47 = 37 := qD_r0 quR3.2.2.2.2.2.1
theorem qdr_48 (I : Nat → Nat → Int32) : zR (qD I) 1 48 = 38 := qD_r0 quR3.2.2.2.2.2.2.1
theorem qdr_49 (I : Nat → Nat → Int32) : zR (qD I) 1 49 = 39 := qD_r0 quR3.2.2.2.2.2.2.2.1
theorem qdr_50 (I : Nat → Nat → Int32) : zR (qD I) 1 50 = 40 := qD_r0 quR3.2.2.2.2.2.2.2.2.1
theorem qdr_51 (I : Nat → Nat → Int32) : zR (qD I) 1 51 = 41 := qD_r0 quR3.2.2.2.2.2.2.2.2.2
theorem qdr_53 (I : Nat → Nat → Int32) : zR (qD I) 1 53 = 42 := qD_r0 quR4.1
theorem qdr_54 (I : Nat → Nat → Int32) : zR (qD I) 1 54 = 43 := qD_r0 quR4.2.1
theorem qdr_55 (I : Nat → Nat → Int32) : zR (qD I) 1 55 = 44 := qD_r0 quR4.2.2
