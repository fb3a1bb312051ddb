def zhC (M : zM) (w : Nat → Int64) : List Nat → Nat → Int32 → Option (Int32 × zM × (Nat → Int64))
  | [], _, _ => none
  | c :: cs, i, k => if i = c then some (k, M, w) else zhC M w cs i (k + 1)
def zhS (cs : List Nat) (w : Nat → Int64) (f : Int32 → Nat → Int64) (x : Option (Nat × Int32 × zM)) : Option (Int32 × zM × (Nat → Int64)) := match x with
  | none => none
  | some q => if q.1 = 0 then some (0, q.2.2, f q.2.1) else zhC q.2.2 w cs q.1 1
theorem zhS_of {cs : List Nat} {w : Nat → Int64} {f : Int32 → Nat → Int64} {x : Option (Nat × Int32 × zM)} {r : Int32 × zM × (Nat → Int64)} (h : zhS cs w f x = some r) : ∃ q, x = some q ∧ (if q.1 = 0 then some (0, q.2.2, f q.2.1) else zhC q.2.2 w cs q.1 1) = some r := by
  cases x with
  | none => cases h
  | some q => exact ⟨q, rfl, h⟩
theorem zl_RL_7 : (Cond.methodLink RL 7 yX7_slot) ∈ gtb := gi 440 (by decide +kernel) rfl
theorem zl_RL_19 : (Cond.methodLink RL 19 yX7_empty) ∈ gtb := gi 668 (by decide +kernel) rfl
theorem zl_RL_23 : (Cond.methodLink RL 23 yX7_except) ∈ gtb := gi 679 (by decide +kernel) rfl
theorem zl_RL_27 : (Cond.methodLink RL 27 yX7_omit) ∈ gtb := gi 687 (by decide +kernel) rfl
theorem zl_RL_31 : (Cond.methodLink RL 31 yX7_entity) ∈ gtb := gi 694 (by decide +kernel) rfl
theorem zl_RL_35 : (Cond.methodLink RL 35 yX7_clear) ∈ gtb := gi 710 (by decide +kernel) rfl
theorem zl_RL_38 : (Cond.methodLink RL 38 yX7_flip) ∈ gtb := gi 717 (by decide +kernel) rfl
theorem zl_RL_42 : (Cond.methodLink RL 42 yX7_insert) ∈ gtb := gi 725 (by decide +kernel) rfl
theorem zl_RL_45 : (Cond.methodLink RL 45 yX7_erase) ∈ gtb := gi 745 (by decide +kernel) rfl
theorem zl_RL_48 : (Cond.methodLink RL 48 yX7_normalize) ∈ gtb := gi 756 (by decide +kernel) rfl
theorem zl_RL_52 : (Cond.methodLink RL 52 yX7_open) ∈ gtb := gi 769 (by decide +kernel) rfl
theorem zl_RL_55 : (Cond.methodLink RL 55 yX7_current) ∈ gtb := gi 776 (by decide +kernel) rfl
theorem zl_RL_58 : (Cond.methodLink RL 58 yX7_next) ∈ gtb := gi 784 (by decide +kernel) rfl
theorem zl_RL_61 : (Cond.methodLink RL 61 yX7_kind) ∈ gtb := gi 792 (by decide +kernel) rfl
theorem zl_RL_64 : (Cond.methodLink RL 64 yX7_parent) ∈ gtb := gi 799 (by decide +kernel) rfl
theorem zl_RL_67 : (Cond.methodLink RL 67 yX7_letter) ∈ gtb := gi 806 (by decide +kernel) rfl
theorem zl_RL_71 : (Cond.methodLink RL 71 yX7_placeOf) ∈ gtb := gi 813 (by decide +kernel) rfl
theorem zl_RL_74 : (Cond.methodLink RL 74 yX7_isPutIn) ∈ gtb := gi 820 (by decide +kernel) rfl
theorem zl_RL_78 : (Cond.methodLink RL 78 yX7_errorKind) ∈ gtb := gi 827 (by decide +kernel) rfl
theorem zl_RL_81 : (Cond.methodLink RL 81 yX7_errorAt) ∈ gtb := gi 834 (by decide +kernel) rfl
theorem zl_RL_84 : (Cond.methodLink RL 84 yX7_normalSort) ∈ gtb := gi 841 (by decide +kernel) rfl
theorem zl_RL_87 : (Cond.methodLink RL 87 yX7_normalValue) ∈ gtb := gi 848 (by decide +kernel) rfl
theorem zl_RL_90 : (Cond.methodLink RL 90 yX7_ways) ∈ gtb := gi 855 (by decide +kernel) rfl
theorem zl_RL_93 : (Cond.methodLink RL 93 yX7_init) ∈ gtb := gi 80 (by decide +kernel) rfl
theorem zl_RL_96 : (Cond.methodLink RL 96 yX8_init) ∈ gtb := gi 878 (by decide +kernel) rfl
theorem zl_RL_97 : (Cond.methodLink RL 97 yL_slot) ∈ gtb := gi 434 (by decide +kernel) rfl
theorem zl_RL_102 : (Cond.methodLink RL 102 yX8_slot) ∈ gtb := gi 1169 (by decide +kernel) rfl
theorem zl_RL_103 : (Cond.methodLink RL 103 yX8_thrown) ∈ gtb := gi 1165 (by decide +kernel) rfl
theorem zl_RL_106 : (Cond.methodLink RL 106 yL_empty) ∈ gtb := gi 665 (by decide +kernel) rfl
theorem zl_RL_109 : (Cond.methodLink RL 109 yX8_empty) ∈ gtb := gi 1185 (by decide +kernel) rfl
theorem zl_RL_110 : (Cond.methodLink RL 110 yL_except) ∈ gtb := gi 676 (by decide +kernel) rfl
theorem zl_RL_113 : (Cond.methodLink RL 113 yX8_except) ∈ gtb := gi 1189 (by decide +kernel) rfl
theorem zl_RL_114 : (Cond.methodLink RL 114 yL_omit) ∈ gtb := gi 684 (by decide +kernel) rfl
theorem zl_RL_117 : (Cond.methodLink RL 117 yX8_omit) ∈ gtb := gi 1193 (by decide +kernel) rfl
theorem zl_RL_118 : (Cond.methodLink RL 118 yL_entity) ∈ gtb := gi 691 (by decide +kernel) rfl
theorem zl_RL_121 : (Cond.methodLink RL 121 yX8_entity) ∈ gtb := gi 1197 (by decide +kernel) rfl
theorem zl_RL_122 : (Cond.methodLink RL 122 yL_clear) ∈ gtb := gi 707 (by decide +kernel) rfl
theorem zl_RL_124 : (Cond.methodLink RL 124 yX8_clear) ∈ gtb := gi 1204 (by decide +kernel) rfl
theorem zl_RL_125 : (Cond.methodLink RL 125 yL_flip) ∈ gtb := gi 714 (by decide +kernel) rfl
theorem zl_RL_128 : (Cond.methodLink RL 128 yX8_flip) ∈ gtb := gi 1208 (by decide +kernel) rfl
theorem zl_RL_129 : (Cond.methodLink RL 129 yL_insert) ∈ gtb := gi 722 (by decide +kernel) rfl
theorem zl_RL_131 : (Cond.methodLink RL 131 yX8_insert) ∈ gtb := gi 1212 (by decide +kernel) rfl
theorem zl_RL_132 : (Cond.methodLink RL 132 yL_erase) ∈ gtb := gi 742 (by decide +kernel) rfl
theorem zl_RL_134 : (Cond.methodLink RL 134 yX8_erase) ∈ gtb := gi 1228 (by decide +kernel) rfl
theorem zl_RL_135 : (Cond.methodLink RL 135 yL_normalize) ∈ gtb := gi 753 (by decide +kernel) rfl
theorem zl_RL_138 : (Cond.methodLink RL 138 yX8_normalize) ∈ gtb := gi 1232 (by decide +kernel) rfl
theorem zl_RL_139 : (Cond.methodLink RL 139 yX7_length) ∈ gtb := gi 362 (by decide +kernel) rfl
theorem zl_RL_142 : (Cond.methodLink RL 142 yX8_length) ∈ gtb := gi 1244 (by decide +kernel) rfl
theorem zl_RL_143 : (Cond.methodLink RL 143 yX7_anew) ∈ gtb := gi 366 (by decide +kernel) rfl
theorem zl_RL_146 : (Cond.methodLink RL 146 yX8_anew) ∈ gtb := gi 1248 (by decide +kernel) rfl
theorem zl_RL_147 : (Cond.methodLink RL 147 yL_open) ∈ gtb := gi 766 (by decide +kernel) rfl
theorem zl_RL_149 : (Cond.methodLink RL 149 yX8_open) ∈ gtb := gi 1252 (by decide +kernel) rfl
theorem zl_RL_150 : (Cond.methodLink RL 150 yL_current) ∈ gtb := gi 773 (by decide +kernel) rfl
theorem zl_RL_152 : (Cond.methodLink RL 152 yX8_current) ∈ gtb := gi 1256 (by decide +kernel) rfl
theorem zl_RL_153 : (Cond.methodLink RL 153 yL_next) ∈ gtb := gi 781 (by decide +kernel) rfl
theorem zl_RL_155 : (Cond.methodLink RL 155 yX8_next) ∈ gtb := gi 1264 (by decide +kernel) rfl
theorem zl_RL_156 : (Cond.methodLink RL 156 yX7_things) ∈ gtb := gi 370 (by decide +kernel) rfl
theorem zl_RL_159 : (Cond.methodLink RL 159 yX8_things) ∈ gtb := gi 1268 (by decide +kernel) rfl
theorem zl_RL_160 : (Cond.methodLink RL 160 yL_kind) ∈ gtb := gi 789 (by decide +kernel) rfl
theorem zl_RL_162 : (Cond.methodLink RL 162 yX8_kind) ∈ gtb := gi 1272 (by decide +kernel) rfl
theorem zl_RL_163 : (Cond.methodLink RL 163 yL_parent) ∈ gtb := gi 796 (by decide +kernel) rfl
theorem zl_RL_165 : (Cond.methodLink RL 165 yX8_parent) ∈ gtb := gi 1280 (by decide +kernel) rfl
theorem zl_RL_166 : (Cond.methodLink RL 166 yL_letter) ∈ gtb := gi 803 (by decide +kernel) rfl
theorem zl_RL_168 : (Cond.methodLink RL 168 yX8_letter) ∈ gtb := gi 1284 (by decide +kernel) rfl
theorem zl_RL_169 : (Cond.methodLink RL 169 yL_placeOf) ∈ gtb := gi 810 (by decide +kernel) rfl
theorem zl_RL_171 : (Cond.methodLink RL 171 yX8_placeOf) ∈ gtb := gi 1288 (by decide +kernel) rfl
theorem zl_RL_172 : (Cond.methodLink RL 172 yL_isPutIn) ∈ gtb := gi 817 (by decide +kernel) rfl
theorem zl_RL_174 : (Cond.methodLink RL 174 yX8_isPutIn) ∈ gtb := gi 1292 (by decide +kernel) rfl
theorem zl_RL_175 : (Cond.methodLink RL 175 yX7_endsPutIn) ∈ gtb := gi 374 (by decide +kernel) rfl
theorem zl_RL_178 : (Cond.methodLink RL 178 yX8_endsPutIn) ∈ gtb := gi 1296 (by decide +kernel) rfl
theorem zl_RL_179 : (Cond.methodLink RL 179 yX7_errors) ∈ gtb := gi 378 (by decide +kernel) rfl
theorem zl_RL_182 : (Cond.methodLink RL 182 yX8_errors) ∈ gtb := gi 1300 (by decide +kernel) rfl
theorem zl_RL_183 : (Cond.methodLink RL 183 yL_errorKind) ∈ gtb := gi 824 (by decide +kernel) rfl
theorem zl_RL_185 : (Cond.methodLink RL 185 yX8_errorKind) ∈ gtb := gi 1304 (by decide +kernel) rfl
theorem zl_RL_186 : (Cond.methodLink RL 186 yL_errorAt) ∈ gtb := gi 831 (by decide +kernel) rfl
theorem zl_RL_188 : (Cond.methodLink RL 188 yX8_errorAt) ∈ gtb := gi 1308 (by decide +kernel) rfl
theorem zl_RL_189 : (Cond.methodLink RL 189 yX7_normal) ∈ gtb := gi 382 (by decide +kernel) rfl
theorem zl_RL_192 : (Cond.methodLink RL 192 yX8_normal) ∈ gtb := gi 1312 (by decide +kernel) rfl
theorem zl_RL_193 : (Cond.methodLink RL 193 yL_normalSort) ∈ gtb := gi 838 (by decide +kernel) rfl
theorem zl_RL_195 : (Cond.methodLink RL 195 yX8_normalSort) ∈ gtb := gi 1316 (by decide +kernel) rfl
theorem zl_RL_196 : (Cond.methodLink RL 196 yL_normalValue) ∈ gtb := gi 845 (by decide +kernel) rfl
theorem zl_RL_198 : (Cond.methodLink RL 198 yX8_normalValue) ∈ gtb := gi 1320 (by decide +kernel) rfl
theorem zl_RL_199 : (Cond.methodLink RL 199 yX7_isSame) ∈ gtb := gi 386 (by decide +kernel) rfl
theorem zl_RL_203 : (Cond.methodLink RL 203 yX8_isSame) ∈ gtb := gi 1324 (by decide +kernel) rfl
theorem zl_RL_204 : (Cond.methodLink RL 204 yL_ways) ∈ gtb := gi 852 (by decide +kernel) rfl
theorem zl_RL_206 : (Cond.methodLink RL 206 yX8_ways) ∈ gtb := gi 1332 (by decide +kernel) rfl
theorem zk_RL_8 : (Cond.classLink RL 8 (zcl 7).1) ∈ gtb := gi 78 (by decide +kernel) rfl
theorem zk_RL_13 : (Cond.classLink RL 13 (zEx 1)) ∈ gtb := gi 437 (by decide +kernel) rfl
theorem zk_RL_15 : (Cond.classLink RL 15 (zEx 2)) ∈ gtb := gi 438 (by decide +kernel) rfl
theorem zk_RL_17 : (Cond.classLink RL 17 (zEx 3)) ∈ gtb := gi 439 (by decide +kernel) rfl
theorem zk_RL_94 : (Cond.classLink RL 94 (zcl 8).1) ∈ gtb := gi 876 (by decide +kernel) rfl
theorem zcast1 : (Cond.castable (zEx 1) (zEx 1)) ∈ zFw := by decide +kernel
theorem zcast2 : (Cond.castable (zEx 2) (zEx 2)) ∈ zFw := by decide +kernel
theorem zcast3 : (Cond.castable (zEx 3) (zEx 3)) ∈ zFw := by decide +kernel
def fL_slot (x0 : Nat) (x1 : Int32) (x2 : Int32) (x3 : Int32) (x4 : Int32) (M : zM) (w : Nat → Int64) : Option (Int32 × zM × (Nat → Int64)) := zg (zk M x0 = 7) (zhS [1, 2, 3] w (fun r => vp_updL w 0 r.toInt64) (fX7_slot x0 x1 x2 x3 x4 M))
theorem zg_yL_slot : (Cond.codeWith yL_slot cL_slot 7 (some .int) [(0, 14, 17, 13), (0, 14, 21, 15), (0, 14, 25, 17)]) ∈ gtb := gi 436 (by decide +kernel) rfl
theorem zs_yL_slot : (Cond.static yL_slot) ∈ gtb := gi 435 (by decide +kernel) rfl
theorem zp_yL_slot : plainName yL_slot.cls = true := by decide +kernel
set_option maxHeartbeats 4000000 in
set_option maxRecDepth 100000 in
theorem vL_slot (l : Launch) (hl0 : l.stackTraces = false) (D : va_G) (T : Nat → ClassId) (b ao : Nat) (x0 : Nat) (x1 : Int32) (x2 : Int32) (x3 : Int32) (x4 : Int32) (M : zM) (w : Nat → Int64) (k : Int32) (M' : zM) (w' : Nat → Int64) (hao : b + M.2.2.2 < ao) (h : fL_slot x0 x1 x2 x3 x4 M w = some (k, M', w')) : zhMet l D T b ao yL_slot cL_slot 7 [(0, 14, 17, 13), (0, 14, 21, 15), (0, 14, 25, 17)] 123 2 12 [zr b x0, .int x1, .int x2, .int x3, .int x4, .ref ao] M w k M' w' := by
  unfold fL_slot at h
  obtain ⟨g1, h⟩ := zg_of h
  obtain ⟨o1, e9, h⟩ := zhS_of h
  have hx0 : zr b x0 = .ref (b + x0) := zr_pos (zk_1 g1 (by decide)).1
  intro sz
  refine va_MetW zp_yL_slot rfl ?_
  intro p e s m args below meth c s₁ B hml hv
  obtain ⟨rfl, hsz, hP, hO, hK, hU, hNw, hNC⟩ := hv
  subst hsz
  have hx := B.exec
  have hb := B.bytes
  have hr := B.returns
  have hlocks := B.notSynchronized
  have hts0 := atoms_spec (ws := Cond.codeWith yL_slot cL_slot 7 (some .int) [(0, 14, 17, 13), (0, 14, 21, 15), (0, 14, 25, 17)] :: gtb) B.pre
  have hts : ∀ w ∈ gtb, w.before _ s = true := fun w hw => hts0 w (List.mem_cons_of_mem _ hw)
  have hown : s.vm.findClass RL = some m.cls := findClass_of_methodNamed B.named
  have htab := vx_table (x := yL_slot) B (hts0 _ List.mem_cons_self)
  have hA : ∀ q : Nat, s.heap.size ≤ q → zAo b M.2.2.2 ao s.heap.size q := fun q h => Or.inr (Or.inr h)
  have hY : zY D T b false true M.2.2.2 M s s.heap (zAo b M.2.2.2 ao s.heap.size) [] := ⟨hP, zD_of (fun r h1 h2 => Or.inl ⟨by omega, by omega⟩), va_S.rf, fun hg => absurd hg Bool.false_ne_true, ⟨fun _ => hU, fun hg => absurd hg Bool.false_ne_true, hNw⟩, fun _ => rfl⟩
  have hAo : zAo b M.2.2.2 ao s.heap.size ao := Or.inr (Or.inl rfl)
  have hcat : zc1 [zr b x0, .int x1, .int x2, .int x3, .int x4, .ref ao] := ⟨zr_cat _ _, rfl, rfl, rfl, rfl, rfl, trivial⟩
  have hlen : (lg_sl [zr b x0, .int x1, .int x2, .int x3, .int x4, .ref ao]).length ≤ 7 := by rw [zarg_len _ hcat]; exact Nat.le_of_ble_eq_true rfl
  have hl := lv_entry ([zr b x0, .int x1, .int x2, .int x3, .int x4, .ref ao]) (n := 7) hlen
  rw [lg_entry_eq]
  rw [zarg_eq _ 0 hcat] at hl
  generalize (lg_sl [zr b x0, .int x1, .int x2, .int x3, .int x4, .ref ao] ++ List.replicate (7 - (lg_sl [zr b x0, .int x1, .int x2, .int x3, .int x4, .ref ao]).length) Slot.unset).toArray = ls at hl ⊢
  have hl : lv_has ls 7 [(0, zr b x0), (1, .int x1), (2, .int x2), (3, .int x3), (4, .int x4), (5, .ref ao)] := hl
  rw [hx0] at hl
  refine lv_aload hx hb dL_slot_0 (lv_at hl 5 rfl) ?_
  refine lv_iconst (v := 0) hx hb dL_slot_2 (by decide) ?_
  refine lv_aload_n hx hb dL_slot_3 rfl (lv_at hl 0 rfl) ?_
  refine lv_iload_n hx hb dL_slot_4 rfl (lv_at hl 1 rfl) ?_
  refine lv_iload_n hx hb dL_slot_5 rfl (lv_at hl 2 rfl) ?_
  refine lv_iload_n hx hb dL_slot_6 rfl (lv_at hl 3 rfl) ?_
  refine lv_iload hx hb dL_slot_7 (lv_at hl 4 rfl) ?_
  refine zH_calli hx hb hml hown hts rfl hK hA hY hO hao hl (As := [.int x1, .int x2, .int x3, .int x4]) (rest := [.int 0, .ref ao]) (vX7_slot l hl0 D T b x0 x1 x2 x3 x4 M _ e9) zm_yX7_slot zl_RL_7 zi_yX7_slot ze_yX7_slot zcI7 g1 rfl (by simp [Value.category]) (by decide) (Nat.le_of_ble_eq_true rfl) (Nat.le_of_ble_eq_true rfl) dL_slot_9 (by rw [hx0]; rfl) (fun hne H1 locs1 q9 ce hY1 hO1 hce hcv hcl => ?_) (fun h0 H1 locs1 hY1 hO1 => ?_)
  · replace h := z_f hne h
    by_cases c0 : o1.1 = 1
    · replace h := z_t c0 h
      cases h
      rw [c0] at hcl
      refine zH_catch (i := 1) (j := 0) hown hts hU.2.2.1 hNC htab [1, 2, 3] rfl rfl (fun k hk => absurd hk (Nat.not_lt_zero _)) ⟨by decide, by decide⟩ (fun k q i9 f1 f2 => by match k, f1, f2 with | 0, f1, f2 => cases f1; cases f2; exact ⟨by decide, by decide, by decide, zk_RL_13⟩ | 1, f1, f2 => cases f1; cases f2; exact ⟨by decide, by decide, by decide, zk_RL_15⟩ | 2, f1, f2 => cases f1; cases f2; exact ⟨by decide, by decide, by decide, zk_RL_17⟩ | n + 3, f1, _ => simp at f1) zcast1 hce hcv hcl (fun x hx9 => ?_)
      cases hx9
      refine lv_astore hx hb dL_slot_17 hl (by decide) rfl (fun ls hl => ?_)
      refine lv_iconst (v := 1) hx hb dL_slot_19 (by decide) ?_
      refine W.widen (k := 2) (n := 12) (by decide) (by decide) ?_
      exact W.iret (v := 1) hx hb hr (fun t ht hW => ⟨⟨1, (), rfl, by decide, by rw [ht]; exact hY1.1, by rw [ht]; exact hO1, va_K.moved hW.alike hK, hY1.2.2.2.2.2 rfl⟩, hY1.2.2.1.F ht⟩) hY1.2.2.1.2.2 dL_slot_20 hlocks
    · replace h := z_f c0 h
      by_cases c1 : o1.1 = 2
      · replace h := z_t c1 h
        cases h
        rw [c1] at hcl
        refine zH_catch (i := 2) (j := 1) hown hts hU.2.2.1 hNC htab [1, 2, 3] rfl rfl (fun k hk => by match k, hk with | 0, _ => exact ⟨1, rfl, by decide, by decide, by decide⟩ | n + 1, hk => omega) ⟨by decide, by decide⟩ (fun k q i9 f1 f2 => by match k, f1, f2 with | 0, f1, f2 => cases f1; cases f2; exact ⟨by decide, by decide, by decide, zk_RL_13⟩ | 1, f1, f2 => cases f1; cases f2; exact ⟨by decide, by decide, by decide, zk_RL_15⟩ | 2, f1, f2 => cases f1; cases f2; exact ⟨by decide, by decide, by decide, zk_RL_17⟩ | n + 3, f1, _ => simp at f1) zcast2 hce hcv hcl (fun x hx9 => ?_)
        cases hx9
        refine lv_astore hx hb dL_slot_21 hl (by decide) rfl (fun ls hl => ?_)
        refine lv_iconst (v := 2) hx hb dL_slot_23 (by decide) ?_
        refine W.widen (k := 2) (n := 12) (by decide) (by decide) ?_
        exact W.iret (v := 2) hx hb hr (fun t ht hW => ⟨⟨2, (), rfl, by decide, by rw [ht]; exact hY1.1, by rw [ht]; exact hO1, va_K.moved hW.alike hK, hY1.2.2.2.2.2 rfl⟩, hY1.2.2.1.F ht⟩) hY1.2.2.1.2.2 dL_slot_24 hlocks
      · replace h := z_f c1 h
        by_cases c2 : o1.1 = 3
        · replace h := z_t c2 h
          cases h
          rw [c2] at hcl
          refine zH_catch (i := 3) (j := 2) hown hts hU.2.2.1 hNC htab [1, 2, 3] rfl rfl (fun k hk => by match k, hk with | 0, _ => exact ⟨1, rfl, by decide, by decide, by decide⟩ | 1, _ => exact ⟨2, rfl, by decide, by decide, by decide⟩ | n + 2, hk => omega) ⟨by decide, by decide⟩ (fun k q i9 f1 f2 => by match k, f1, f2 with | 0, f1, f2 => cases f1; cases f2; exact ⟨by decide, by decide, by decide, zk_RL_13⟩ | 1, f1, f2 => cases f1; cases f2; exact ⟨by decide, by decide, by decide, zk_RL_15⟩ | 2, f1, f2 => cases f1; cases f2; exact ⟨by decide, by decide, by decide, zk_RL_17⟩ | n + 3, f1, _ => simp at f1) zcast3 hce hcv hcl (fun x hx9 => ?_)
          cases hx9
          refine lv_astore hx hb dL_slot_25 hl (by decide) rfl (fun ls hl => ?_)
          refine lv_iconst (v := 3) hx hb dL_slot_27 (by decide) ?_
          refine W.widen (k := 2) (n := 12) (by decide) (by decide) ?_
          exact W.iret (v := 3) hx hb hr (fun t ht hW => ⟨⟨3, (), rfl, by decide, by rw [ht]; exact hY1.1, by rw [ht]; exact hO1, va_K.moved hW.alike hK, hY1.2.2.2.2.2 rfl⟩, hY1.2.2.1.F ht⟩) hY1.2.2.1.2.2 dL_slot_28 hlocks
        · replace h := z_f c2 h
          cases h
  · replace h := z_t h0 h
    cases h
    have hao1 : b + o1.2.2.2.2.2 < ao := by rw [hY1.2.2.2.2.2 rfl]; exact hao
    refine lv_i2l hx hb dL_slot_12 rfl ?_
    refine zH_out hx hb hK hY1 hO1 hao1 hAo dL_slot_13 (fun H2 locs2 hY2 hO2 => ?_)
    refine lv_goto (tgt := 29) hx hb dL_slot_14 (by decide) ?_
    refine lv_iconst (v := 0) hx hb dL_slot_29 (by decide) ?_
    refine W.widen (k := 2) (n := 12) (by decide) (by decide) ?_
    exact W.iret (v := 0) hx hb hr (fun t ht hW => ⟨⟨0, (), rfl, rfl, by rw [ht]; exact hY2.1, by rw [ht]; exact hO2, va_K.moved hW.alike hK, hY2.2.2.2.2.2 rfl⟩, hY2.2.2.1.F ht⟩) hY2.2.2.1.2.2 dL_slot_30 hlocks
def fL_empty (x0 : Nat) (x1 : Int32) (M : zM) (w : Nat → Int64) : Option (Int32 × zM × (Nat → Int64)) := zg (zk M x0 = 7) (zhS [1] w (fun r => vp_updL w 0 r.toInt64) (fX7_empty x0 x1 M))
theorem zg_yL_empty : (Cond.codeWith yL_empty cL_empty 4 (some .int) [(0, 9, 12, 13)]) ∈ gtb := gi 667 (by decide +kernel) rfl
theorem zs_yL_empty : (Cond.static yL_empty) ∈ gtb := gi 666 (by decide +kernel) rfl
theorem zp_yL_empty : plainName yL_empty.cls = true := by decide +kernel
set_option maxHeartbeats 4000000 in
set_option maxRecDepth 100000 in
theorem vL_empty (l : Launch) (hl0 : l.stackTraces = false) (D : va_G) (T : Nat → ClassId) (b ao : Nat) (x0 : Nat) (x1 : Int32) (M : zM) (w : Nat → Int64) (k : Int32) (M' : zM) (w' : Nat → Int64) (hao : b + M.2.2.2 < ao) (h : fL_empty x0 x1 M w = some (k, M', w')) : zhMet l D T b ao yL_empty cL_empty 4 [(0, 9, 12, 13)] 123 1 6 [zr b x0, .int x1, .ref ao] M w k M' w' := by
  unfold fL_empty at h
  obtain ⟨g1, h⟩ := zg_of h
  obtain ⟨o1, e9, h⟩ := zhS_of h
  have hx0 : zr b x0 = .ref (b + x0) := zr_pos (zk_1 g1 (by decide)).1
  intro sz
  refine va_MetW zp_yL_empty rfl ?_
  intro p e s m args below meth c s₁ B hml hv
  obtain ⟨rfl, hsz, hP, hO, hK, hU, hNw, hNC⟩ := hv
  subst hsz
  have hx := B.exec
  have hb := B.bytes
  have hr := B.returns
  have hlocks := B.notSynchronized
  have hts0 := atoms_spec (ws := Cond.codeWith yL_empty cL_empty 4 (some .int) [(0, 9, 12, 13)] :: gtb) B.pre
  have hts : ∀ w ∈ gtb, w.before _ s = true := fun w hw => hts0 w (List.mem_cons_of_mem _ hw)
  have hown : s.vm.findClass RL = some m.cls := findClass_of_methodNamed B.named
  have htab := vx_table (x := yL_empty) B (hts0 _ List.mem_cons_self)
  have hA : ∀ q : Nat, s.heap.size ≤ q → zAo b M.2.2.2 ao s.heap.size q := fun q h => Or.inr (Or.inr h)
  have hY : zY D T b false true M.2.2.2 M s s.heap (zAo b M.2.2.2 ao s.heap.size) [] := ⟨hP, zD_of (fun r h1 h2 => Or.inl ⟨by omega, by omega⟩), va_S.rf, fun hg => absurd hg Bool.false_ne_true, ⟨fun _ => hU, fun hg => absurd hg Bool.false_ne_true, hNw⟩, fun _ => rfl⟩
  have hAo : zAo b M.2.2.2 ao s.heap.size ao := Or.inr (Or.inl rfl)
  have hcat : zc1 [zr b x0, .int x1, .ref ao] := ⟨zr_cat _ _, rfl, rfl, trivial⟩
  have hlen : (lg_sl [zr b x0, .int x1, .ref ao]).length ≤ 4 := by rw [zarg_len _ hcat]; exact Nat.le_of_ble_eq_true rfl
  have hl := lv_entry ([zr b x0, .int x1, .ref ao]) (n := 4) hlen
  rw [lg_entry_eq]
  rw [zarg_eq _ 0 hcat] at hl
  generalize (lg_sl [zr b x0, .int x1, .ref ao] ++ List.replicate (4 - (lg_sl [zr b x0, .int x1, .ref ao]).length) Slot.unset).toArray = ls at hl ⊢
  have hl : lv_has ls 4 [(0, zr b x0), (1, .int x1), (2, .ref ao)] := hl
  rw [hx0] at hl
  refine lv_aload_n hx hb dL_empty_0 rfl (lv_at hl 2 rfl) ?_
  refine lv_iconst (v := 0) hx hb dL_empty_1 (by decide) ?_
  refine lv_aload_n hx hb dL_empty_2 rfl (lv_at hl 0 rfl) ?_
  refine lv_iload_n hx hb dL_empty_3 rfl (lv_at hl 1 rfl) ?_
  refine zH_calli hx hb hml hown hts rfl hK hA hY hO hao hl (As := [.int x1]) (rest := [.int 0, .ref ao]) (vX7_empty l hl0 D T b x0 x1 M _ e9) zm_yX7_empty zl_RL_19 zi_yX7_empty ze_yX7_empty zcI7 g1 rfl (by simp [Value.category]) (by decide) (Nat.le_of_ble_eq_true rfl) (Nat.le_of_ble_eq_true rfl) dL_empty_4 (by rw [hx0]; rfl) (fun hne H1 locs1 q9 ce hY1 hO1 hce hcv hcl => ?_) (fun h0 H1 locs1 hY1 hO1 => ?_)
  · replace h := z_f hne h
    by_cases c0 : o1.1 = 1
    · replace h := z_t c0 h
      cases h
      rw [c0] at hcl
      refine zH_catch (i := 1) (j := 0) hown hts hU.2.2.1 hNC htab [1] rfl rfl (fun k hk => absurd hk (Nat.not_lt_zero _)) ⟨by decide, by decide⟩ (fun k q i9 f1 f2 => by match k, f1, f2 with | 0, f1, f2 => cases f1; cases f2; exact ⟨by decide, by decide, by decide, zk_RL_13⟩ | n + 1, f1, _ => simp at f1) zcast1 hce hcv hcl (fun x hx9 => ?_)
      cases hx9
      refine lv_astore_n hx hb dL_empty_12 rfl hl (by decide) rfl (fun ls hl => ?_)
      refine lv_iconst (v := 1) hx hb dL_empty_13 (by decide) ?_
      refine W.widen (k := 1) (n := 6) (by decide) (by decide) ?_
      exact W.iret (v := 1) hx hb hr (fun t ht hW => ⟨⟨1, (), rfl, by decide, by rw [ht]; exact hY1.1, by rw [ht]; exact hO1, va_K.moved hW.alike hK, hY1.2.2.2.2.2 rfl⟩, hY1.2.2.1.F ht⟩) hY1.2.2.1.2.2 dL_empty_14 hlocks
    · replace h := z_f c0 h
      cases h
  · replace h := z_t h0 h
    cases h
    have hao1 : b + o1.2.2.2.2.2 < ao := by rw [hY1.2.2.2.2.2 rfl]; exact hao
    refine lv_i2l hx hb dL_empty_7 rfl ?_
    refine zH_out hx hb hK hY1 hO1 hao1 hAo dL_empty_8 (fun H2 locs2 hY2 hO2 => ?_)
    refine lv_goto (tgt := 15) hx hb dL_empty_9 (by decide) ?_
    refine lv_iconst (v := 0) hx hb dL_empty_15 (by decide) ?_
    refine W.widen (k := 1) (n := 6) (by decide) (by decide) ?_
    exact W.iret (v := 0) hx hb hr (fun t ht hW => ⟨⟨0, (), rfl, rfl, by rw [ht]; exact hY2.1, by rw [ht]; exact hO2, va_K.moved hW.alike hK, hY2.2.2.2.2.2 rfl⟩, hY2.2.2.1.F ht⟩) hY2.2.2.1.2.2 dL_empty_16 hlocks
def fL_except (x0 : Nat) (x1 : Int32) (x2 : Int32) (x3 : Int32) (M : zM) (w : Nat → Int64) : Option (Int32 × zM × (Nat → Int64)) := zg (zk M x0 = 7) (zhS [1, 2] w (fun _ => w) (fX7_except x0 x1 x2 x3 M))
theorem zg_yL_except : (Cond.codeWith yL_except cL_except 5 (some .int) [(0, 7, 10, 13), (0, 7, 14, 15)]) ∈ gtb := gi 678 (by decide +kernel) rfl
theorem zs_yL_except : (Cond.static yL_except) ∈ gtb := gi 677 (by decide +kernel) rfl
theorem zp_yL_except : plainName yL_except.cls = true := by decide +kernel
set_option maxHeartbeats 4000000 in
set_option maxRecDepth 100000 in
theorem vL_except (l : Launch) (hl0 : l.stackTraces = false) (D : va_G) (T : Nat → ClassId) (b ao : Nat) (x0 : Nat) (x1 : Int32) (x2 : Int32) (x3 : Int32) (M : zM) (w : Nat → Int64) (k : Int32) (M' : zM) (w' : Nat → Int64) (hao : b + M.2.2.2 < ao) (h : fL_except x0 x1 x2 x3 M w = some (k, M', w')) : zhMet l D T b ao yL_except cL_except 5 [(0, 7, 10, 13), (0, 7, 14, 15)] 123 2 12 [zr b x0, .int x1, .int x2, .int x3] M w k M' w' := by
  unfold fL_except at h
  obtain ⟨g1, h⟩ := zg_of h
  obtain ⟨o1, e9, h⟩ := zhS_of h
  have hx0 : zr b x0 = .ref (b + x0) := zr_pos (zk_1 g1 (by decide)).1
  intro sz
  refine va_MetW zp_yL_except rfl ?_
  intro p e s m args below meth c s₁ B hml hv
  obtain ⟨rfl, hsz, hP, hO, hK, hU, hNw, hNC⟩ := hv
  subst hsz
  have hx := B.exec
  have hb := B.bytes
  have hr := B.returns
  have hlocks := B.notSynchronized
  have hts0 := atoms_spec (ws := Cond.codeWith yL_except cL_except 5 (some .int) [(0, 7, 10, 13), (0, 7, 14, 15)] :: gtb) B.pre
  have hts : ∀ w ∈ gtb, w.before _ s = true := fun w hw => hts0 w (List.mem_cons_of_mem _ hw)
  have hown : s.vm.findClass RL = some m.cls := findClass_of_methodNamed B.named
  have htab := vx_table (x := yL_except) B (hts0 _ List.mem_cons_self)
  have hA : ∀ q : Nat, s.heap.size ≤ q → zAo b M.2.2.2 ao s.heap.size q := fun q h => Or.inr (Or.inr h)
  have hY : zY D T b false true M.2.2.2 M s s.heap (zAo b M.2.2.2 ao s.heap.size) [] := ⟨hP, zD_of (fun r h1 h2 => Or.inl ⟨by omega, by omega⟩), va_S.rf, fun hg => absurd hg Bool.false_ne_true, ⟨fun _ => hU, fun hg => absurd hg Bool.false_ne_true, hNw⟩, fun _ => rfl⟩
  have hAo : zAo b M.2.2.2 ao s.heap.size ao := Or.inr (Or.inl rfl)
  have hcat : zc1 [zr b x0, .int x1, .int x2, .int x3] := ⟨zr_cat _ _, rfl, rfl, rfl, trivial⟩
  have hlen : (lg_sl [zr b x0, .int x1, .int x2, .int x3]).length ≤ 5 := by rw [zarg_len _ hcat]; exact Nat.le_of_ble_eq_true rfl
  have hl := lv_entry ([zr b x0, .int x1, .int x2, .int x3]) (n := 5) hlen
  rw [lg_entry_eq]
  rw [zarg_eq _ 0 hcat] at hl
  generalize (lg_sl [zr b x0, .int x1, .int x2, .int x3] ++ List.replicate (5 - (lg_sl [zr b x0, .int x1, .int x2, .int x3]).length) Slot.unset).toArray = ls at hl ⊢
  have hl : lv_has ls 5 [(0, zr b x0), (1, .int x1), (2, .int x2), (3, .int x3)] := hl
  rw [hx0] at hl
  refine lv_aload_n hx hb dL_except_0 rfl (lv_at hl 0 rfl) ?_
  refine lv_iload_n hx hb dL_except_1 rfl (lv_at hl 1 rfl) ?_
  refine lv_iload_n hx hb dL_except_2 rfl (lv_at hl 2 rfl) ?_
  refine lv_iload_n hx hb dL_except_3 rfl (lv_at hl 3 rfl) ?_
  refine zH_callv hx hb hml hown hts rfl hK hA hY hO hao hl (As := [.int x1, .int x2, .int x3]) (rest := []) (vX7_except l hl0 D T b x0 x1 x2 x3 M _ e9) zm_yX7_except zl_RL_23 zi_yX7_except ze_yX7_except zcI7 g1 rfl (by simp [Value.category]) (by decide) (Nat.le_of_ble_eq_true rfl) (Nat.le_of_ble_eq_true rfl) dL_except_4 (by rw [hx0]; rfl) (fun hne H1 locs1 q9 ce hY1 hO1 hce hcv hcl => ?_) (fun h0 H1 locs1 hY1 hO1 => ?_)
  · replace h := z_f hne h
    by_cases c0 : o1.1 = 1
    · replace h := z_t c0 h
      cases h
      rw [c0] at hcl
      refine zH_catch (i := 1) (j := 0) hown hts hU.2.2.1 hNC htab [1, 2] rfl rfl (fun k hk => absurd hk (Nat.not_lt_zero _)) ⟨by decide, by decide⟩ (fun k q i9 f1 f2 => by match k, f1, f2 with | 0, f1, f2 => cases f1; cases f2; exact ⟨by decide, by decide, by decide, zk_RL_13⟩ | 1, f1, f2 => cases f1; cases f2; exact ⟨by decide, by decide, by decide, zk_RL_15⟩ | n + 2, f1, _ => simp at f1) zcast1 hce hcv hcl (fun x hx9 => ?_)
      cases hx9
      refine lv_astore hx hb dL_except_10 hl (by decide) rfl (fun ls hl => ?_)
      refine lv_iconst (v := 1) hx hb dL_except_12 (by decide) ?_
      refine W.widen (k := 2) (n := 12) (by decide) (by decide) ?_
      exact W.iret (v := 1) hx hb hr (fun t ht hW => ⟨⟨1, (), rfl, by decide, by rw [ht]; exact hY1.1, by rw [ht]; exact hO1, va_K.moved hW.alike hK, hY1.2.2.2.2.2 rfl⟩, hY1.2.2.1.F ht⟩) hY1.2.2.1.2.2 dL_except_13 hlocks
    · replace h := z_f c0 h
      by_cases c1 : o1.1 = 2
      · replace h := z_t c1 h
        cases h
        rw [c1] at hcl
        refine zH_catch (i := 2) (j := 1) hown hts hU.2.2.1 hNC htab [1, 2] rfl rfl (fun k hk => by match k, hk with | 0, _ => exact ⟨1, rfl, by decide, by decide, by decide⟩ | n + 1, hk => omega) ⟨by decide, by decide⟩ (fun k q i9 f1 f2 => by match k, f1, f2 with | 0, f1, f2 => cases f1; cases f2; exact ⟨by decide, by decide, by decide, zk_RL_13⟩ | 1, f1, f2 => cases f1; cases f2; exact ⟨by decide, by decide, by decide, zk_RL_15⟩ | n + 2, f1, _ => simp at f1) zcast2 hce hcv hcl (fun x hx9 => ?_)
        cases hx9
        refine lv_astore hx hb dL_except_14 hl (by decide) rfl (fun ls hl => ?_)
        refine lv_iconst (v := 2) hx hb dL_except_16 (by decide) ?_
        refine W.widen (k := 2) (n := 12) (by decide) (by decide) ?_
        exact W.iret (v := 2) hx hb hr (fun t ht hW => ⟨⟨2, (), rfl, by decide, by rw [ht]; exact hY1.1, by rw [ht]; exact hO1, va_K.moved hW.alike hK, hY1.2.2.2.2.2 rfl⟩, hY1.2.2.1.F ht⟩) hY1.2.2.1.2.2 dL_except_17 hlocks
      · replace h := z_f c1 h
        cases h
  · replace h := z_t h0 h
    cases h
    have hao1 : b + o1.2.2.2.2.2 < ao := by rw [hY1.2.2.2.2.2 rfl]; exact hao
    refine lv_goto (tgt := 18) hx hb dL_except_7 (by decide) ?_
    refine lv_iconst (v := 0) hx hb dL_except_18 (by decide) ?_
    refine W.widen (k := 2) (n := 12) (by decide) (by decide) ?_
    exact W.iret (v := 0) hx hb hr (fun t ht hW => ⟨⟨0, (), rfl, rfl, by rw [ht]; exact hY1.1, by rw [ht]; exact hO1, va_K.moved hW.alike hK, hY1.2.2.2.2.2 rfl⟩, hY1.2.2.1.F ht⟩) hY1.2.2.1.2.2 dL_except_19 hlocks
def fL_omit (x0 : Nat) (x1 : Int32) (x2 : Int32) (x3 : Int32) (M : zM) (w : Nat → Int64) : Option (Int32 × zM × (Nat → Int64)) := zg (zk M x0 = 7) (zhS [1] w (fun _ => w) (fX7_omit x0 x1 x2 x3 M))
theorem zg_yL_omit : (Cond.codeWith yL_omit cL_omit 5 (some .int) [(0, 7, 10, 13)]) ∈ gtb := gi 686 (by decide +kernel) rfl
theorem zs_yL_omit : (Cond.static yL_omit) ∈ gtb := gi 685 (by decide +kernel) rfl
theorem zp_yL_omit : plainName yL_omit.cls = true := by decide +kernel
set_option maxHeartbeats 4000000 in
set_option maxRecDepth 100000 in
theorem vL_omit (l : Launch) (hl0 : l.stackTraces = false) (D : va_G) (T : Nat → ClassId) (b ao : Nat) (x0 : Nat) (x1 : Int32) (x2 : Int32) (x3 : Int32) (M : zM) (w : Nat → Int64) (k : Int32) (M' : zM) (w' : Nat → Int64) (hao : b + M.2.2.2 < ao) (h : fL_omit x0 x1 x2 x3 M w = some (k, M', w')) : zhMet l D T b ao yL_omit cL_omit 5 [(0, 7, 10, 13)] 123 1 6 [zr b x0, .int x1, .int x2, .int x3] M w k M' w' := by
  unfold fL_omit at h
  obtain ⟨g1, h⟩ := zg_of h
  obtain ⟨o1, e9, h⟩ := zhS_of h
  have hx0 : zr b x0 = .ref (b + x0) := zr_pos (zk_1 g1 (by decide)).1
  intro sz
  refine va_MetW zp_yL_omit rfl ?_
  intro p e s m args below meth c s₁ B hml hv
  obtain ⟨rfl, hsz, hP, hO, hK, hU, hNw, hNC⟩ := hv
  subst hsz
  have hx := B.exec
  have hb := B.bytes
  have hr := B.returns
  have hlocks := B.notSynchronized
  have hts0 := atoms_spec (ws := Cond.codeWith yL_omit cL_omit 5 (some .int) [(0, 7, 10, 13)] :: gtb) B.pre
  have hts : ∀ w ∈ gtb, w.before _ s = true := fun w hw => hts0 w (List.mem_cons_of_mem _ hw)
  have hown : s.vm.findClass RL = some m.cls := findClass_of_methodNamed B.named
  have htab := vx_table (x := yL_omit) B (hts0 _ List.mem_cons_self)
  have hA : ∀ q : Nat, s.heap.size ≤ q → zAo b M.2.2.2 ao s.heap.size q := fun q h => Or.inr (Or.inr h)
  have hY : zY D T b false true M.2.2.2 M s s.heap (zAo b M.2.2.2 ao s.heap.size) [] := ⟨hP, zD_of (fun r h1 h2 => Or.inl ⟨by omega, by omega⟩), va_S.rf, fun hg => absurd hg Bool.false_ne_true, ⟨fun _ => hU, fun hg => absurd hg Bool.false_ne_true, hNw⟩, fun _ => rfl⟩
  have hAo : zAo b M.2.2.2 ao s.heap.size ao := Or.inr (Or.inl rfl)
  have hcat : zc1 [zr b x0, .int x1, .int x2, .int x3] := ⟨zr_cat _ _, rfl, rfl, rfl, trivial⟩
  have hlen : (lg_sl [zr b x0, .int x1, .int x2, .int x3]).length ≤ 5 := by rw [zarg_len _ hcat]; exact Nat.le_of_ble_eq_true rfl
  have hl := lv_entry ([zr b x0, .int x1, .int x2, .int x3]) (n := 5) hlen
  rw [lg_entry_eq]
  rw [zarg_eq _ 0 hcat] at hl
  generalize (lg_sl [zr b x0, .int x1, .int x2, .int x3] ++ List.replicate (5 - (lg_sl [zr b x0, .int x1, .int x2, .int x3]).length) Slot.unset).toArray = ls at hl ⊢
  have hl : lv_has ls 5 [(0, zr b x0), (1, .int x1), (2, .int x2), (3, .int x3)] := hl
  rw [hx0] at hl
  refine lv_aload_n hx hb dL_omit_0 rfl (lv_at hl 0 rfl) ?_
  refine lv_iload_n hx hb dL_omit_1 rfl (lv_at hl 1 rfl) ?_
  refine lv_iload_n hx hb dL_omit_2 rfl (lv_at hl 2 rfl) ?_
  refine lv_iload_n hx hb dL_omit_3 rfl (lv_at hl 3 rfl) ?_
  refine zH_callv hx hb hml hown hts rfl hK hA hY hO hao hl (As := [.int x1, .int x2, .int x3]) (rest := []) (vX7_omit l hl0 D T b x0 x1 x2 x3 M _ e9) zm_yX7_omit zl_RL_27 zi_yX7_omit ze_yX7_omit zcI7 g1 rfl (by simp [Value.category]) (by decide) (Nat.le_of_ble_eq_true rfl) (Nat.le_of_ble_eq_true rfl) dL_omit_4 (by rw [hx0]; rfl) (fun hne H1 locs1 q9 ce hY1 hO1 hce hcv hcl => ?_) (fun h0 H1 locs1 hY1 hO1 => ?_)
  · replace h := z_f hne h
    by_cases c0 : o1.1 = 1
    · replace h := z_t c0 h
      cases h
      rw [c0] at hcl
      refine zH_catch (i := 1) (j := 0) hown hts hU.2.2.1 hNC htab [1] rfl rfl (fun k hk => absurd hk (Nat.not_lt_zero _)) ⟨by decide, by decide⟩ (fun k q i9 f1 f2 => by match k, f1, f2 with | 0, f1, f2 => cases f1; cases f2; exact ⟨by decide, by decide, by decide, zk_RL_13⟩ | n + 1, f1, _ => simp at f1) zcast1 hce hcv hcl (fun x hx9 => ?_)
      cases hx9
      refine lv_astore hx hb dL_omit_10 hl (by decide) rfl (fun ls hl => ?_)
      refine lv_iconst (v := 1) hx hb dL_omit_12 (by decide) ?_
      refine W.widen (k := 1) (n := 6) (by decide) (by decide) ?_
      exact W.iret (v := 1) hx hb hr (fun t ht hW => ⟨⟨1, (), rfl, by decide, by rw [ht]; exact hY1.1, by rw [ht]; exact hO1, va_K.moved hW.alike hK, hY1.2.2.2.2.2 rfl⟩, hY1.2.2.1.F ht⟩) hY1.2.2.1.2.2 dL_omit_13 hlocks
    · replace h := z_f c0 h
      cases h
  · replace h := z_t h0 h
    cases h
    have hao1 : b + o1.2.2.2.2.2 < ao := by rw [hY1.2.2.2.2.2 rfl]; exact hao
    refine lv_goto (tgt := 14) hx hb dL_omit_7 (by decide) ?_
    refine lv_iconst (v := 0) hx hb dL_omit_14 (by decide) ?_
    refine W.widen (k := 1) (n := 6) (by decide) (by decide) ?_
    exact W.iret (v := 0) hx hb hr (fun t ht hW => ⟨⟨0, (), rfl, rfl, by rw [ht]; exact hY1.1, by rw [ht]; exact hO1, va_K.moved hW.alike hK, hY1.2.2.2.2.2 rfl⟩, hY1.2.2.1.F ht⟩) hY1.2.2.1.2.2 dL_omit_15 hlocks
def fL_entity (x0 : Nat) (x1 : Int32) (x2 : Int32) (x3 : Int32) (M : zM) (w : Nat → Int64) : Option (Int32 × zM × (Nat → Int64)) := zg (zk M x0 = 7) (zhS [1, 2, 3] w (fun r => vp_updL w 0 r.toInt64) (fX7_entity x0 x1 x2 x3 M))
theorem zg_yL_entity : (Cond.codeWith yL_entity cL_entity 6 (some .int) [(0, 12, 15, 13), (0, 12, 19, 15), (0, 12, 23, 17)]) ∈ gtb := gi 693 (by decide +kernel) rfl
theorem zs_yL_entity : (Cond.static yL_entity) ∈ gtb := gi 692 (by decide +kernel) rfl
theorem zp_yL_entity : plainName yL_entity.cls = true := by decide +kernel
set_option maxHeartbeats 4000000 in
set_option maxRecDepth 100000 in
theorem vL_entity (l : Launch) (hl0 : l.stackTraces = false) (D : va_G) (T : Nat → ClassId) (b ao : Nat) (x0 : Nat) (x1 : Int32) (x2 : Int32) (x3 : Int32) (M : zM) (w : Nat → Int64) (k : Int32) (M' : zM) (w' : Nat → Int64) (hao : b + M.2.2.2 < ao) (h : fL_entity x0 x1 x2 x3 M w = some (k, M', w')) : zhMet l D T b ao yL_entity cL_entity 6 [(0, 12, 15, 13), (0, 12, 19, 15), (0, 12, 23, 17)] 123 3 18 [zr b x0, .int x1, .int x2, .int x3, .ref ao] M w k M' w' := by
  unfold fL_entity at h
  obtain ⟨g1, h⟩ := zg_of h
  obtain ⟨o1, e9, h⟩ := zhS_of h
  have hx0 : zr b x0 = .ref (b + x0) := zr_pos (zk_1 g1 (by decide)).1
  intro sz
  refine va_MetW zp_yL_entity rfl ?_
  intro p e s m args below meth c s₁ B hml hv
  obtain ⟨rfl, hsz, hP, hO, hK, hU, hNw, hNC⟩ := hv
  subst hsz
  have hx := B.exec
  have hb := B.bytes
  have hr := B.returns
  have hlocks := B.notSynchronized
  have hts0 := atoms_spec (ws := Cond.codeWith yL_entity cL_entity 6 (some .int) [(0, 12, 15, 13), (0, 12, 19, 15), (0, 12, 23, 17)] :: gtb) B.pre
  have hts : ∀ w ∈ gtb, w.before _ s = true := fun w hw => hts0 w (List.mem_cons_of_mem _ hw)
  have hown : s.vm.findClass RL = some m.cls := findClass_of_methodNamed B.named
  have htab := vx_table (x := yL_entity) B (hts0 _ List.mem_cons_self)
  have hA : ∀ q : Nat, s.heap.size ≤ q → zAo b M.2.2.2 ao s.heap.size q := fun q h => Or.inr (Or.inr h)
  have hY : zY D T b false true M.2.2.2 M s s.heap (zAo b M.2.2.2 ao s.heap.size) [] := ⟨hP, zD_of (fun r h1 h2 => Or.inl ⟨by omega, by omega⟩), va_S.rf, fun hg => absurd hg Bool.false_ne_true, ⟨fun _ => hU, fun hg => absurd hg Bool.false_ne_true, hNw⟩, fun _ => rfl⟩
  have hAo : zAo b M.2.2.2 ao s.heap.size ao := Or.inr (Or.inl rfl)
  have hcat : zc1 [zr b x0, .int x1, .int x2, .int x3, .ref ao] := ⟨zr_cat _ _, rfl, rfl, rfl, rfl, trivial⟩
  have hlen : (lg_sl [zr b x0, .int x1, .int x2, .int x3, .ref ao]).length ≤ 6 := by rw [zarg_len _ hcat]; exact Nat.le_of_ble_eq_true rfl
  have hl := lv_entry ([zr b x0, .int x1, .int x2, .int x3, .ref ao]) (n := 6) hlen
  rw [lg_entry_eq]
  rw [zarg_eq _ 0 hcat] at hl
  generalize (lg_sl [zr b x0, .int x1, .int x2, .int x3, .ref ao] ++ List.replicate (6 - (lg_sl [zr b x0, .int x1, .int x2, .int x3, .ref ao]).length) Slot.unset).toArray = ls at hl ⊢
  have hl : lv_has ls 6 [(0, zr b x0), (1, .int x1), (2, .int x2), (3, .int x3), (4, .ref ao)] := hl
  rw [hx0] at hl
  refine lv_aload hx hb dL_entity_0 (lv_at hl 4 rfl) ?_
  refine lv_iconst (v := 0) hx hb dL_entity_2 (by decide) ?_
  refine lv_aload_n hx hb dL_entity_3 rfl (lv_at hl 0 rfl) ?_
  refine lv_iload_n hx hb dL_entity_4 rfl (lv_at hl 1 rfl) ?_
  refine lv_iload_n hx hb dL_entity_5 rfl (lv_at hl 2 rfl) ?_
  refine lv_iload_n hx hb dL_entity_6 rfl (lv_at hl 3 rfl) ?_
  refine zH_calli hx hb hml hown hts rfl hK hA hY hO hao hl (As := [.int x1, .int x2, .int x3]) (rest := [.int 0, .ref ao]) (vX7_entity l hl0 D T b x0 x1 x2 x3 M _ e9) zm_yX7_entity zl_RL_31 zi_yX7_entity ze_yX7_entity zcI7 g1 rfl (by simp [Value.category]) (by decide) (Nat.le_of_ble_eq_true rfl) (Nat.le_of_ble_eq_true rfl) dL_entity_7 (by rw [hx0]; rfl) (fun hne H1 locs1 q9 ce hY1 hO1 hce hcv hcl => ?_) (fun h0 H1 locs1 hY1 hO1 => ?_)
  · replace h := z_f hne h
    by_cases c0 : o1.1 = 1
    · replace h := z_t c0 h
      cases h
      rw [c0] at hcl
      refine zH_catch (i := 1) (j := 0) hown hts hU.2.2.1 hNC htab [1, 2, 3] rfl rfl (fun k hk => absurd hk (Nat.not_lt_zero _)) ⟨by decide, by decide⟩ (fun k q i9 f1 f2 => by match k, f1, f2 with | 0, f1, f2 => cases f1; cases f2; exact ⟨by decide, by decide, by decide, zk_RL_13⟩ | 1, f1, f2 => cases f1; cases f2; exact ⟨by decide, by decide, by decide, zk_RL_15⟩ | 2, f1, f2 => cases f1; cases f2; exact ⟨by decide, by decide, by decide, zk_RL_17⟩ | n + 3, f1, _ => simp at f1) zcast1 hce hcv hcl (fun x hx9 => ?_)
      cases hx9
      refine lv_astore hx hb dL_entity_15 hl (by decide) rfl (fun ls hl => ?_)
      refine lv_iconst (v := 1) hx hb dL_entity_17 (by decide) ?_
      refine W.widen (k := 3) (n := 18) (by decide) (by decide) ?_
      exact W.iret (v := 1) hx hb hr (fun t ht hW => ⟨⟨1, (), rfl, by decide, by rw [ht]; exact hY1.1, by rw [ht]; exact hO1, va_K.moved hW.alike hK, hY1.2.2.2.2.2 rfl⟩, hY1.2.2.1.F ht⟩) hY1.2.2.1.2.2 dL_entity_18 hlocks
    · replace h := z_f c0 h
      by_cases c1 : o1.1 = 2
      · replace h := z_t c1 h
        cases h
        rw [c1] at hcl
        refine zH_catch (i := 2) (j := 1) hown hts hU.2.2.1 hNC htab [1, 2, 3] rfl rfl (fun k hk => by match k, hk with | 0, _ => exact ⟨1, rfl, by decide, by decide, by decide⟩ | n + 1, hk => omega) ⟨by decide, by decide⟩ (fun k q i9 f1 f2 => by match k, f1, f2 with | 0, f1, f2 => cases f1; cases f2; exact ⟨by decide, by decide, by decide, zk_RL_13⟩ | 1, f1, f2 => cases f1; cases f2; exact ⟨by decide, by decide, by decide, zk_RL_15⟩ | 2, f1, f2 => cases f1; cases f2; exact ⟨by decide, by decide, by decide, zk_RL_17⟩ | n + 3, f1, _ => simp at f1) zcast2 hce hcv hcl (fun x hx9 => ?_)
        cases hx9
        refine lv_astore hx hb dL_entity_19 hl (by decide) rfl (fun ls hl => ?_)
        refine lv_iconst (v := 2) hx hb dL_entity_21 (by decide) ?_
        refine W.widen (k := 3) (n := 18) (by decide) (by decide) ?_
        exact W.iret (v := 2) hx hb hr (fun t ht hW => ⟨⟨2, (), rfl, by decide, by rw [ht]; exact hY1.1, by rw [ht]; exact hO1, va_K.moved hW.alike hK, hY1.2.2.2.2.2 rfl⟩, hY1.2.2.1.F ht⟩) hY1.2.2.1.2.2 dL_entity_22 hlocks
      · replace h := z_f c1 h
        by_cases c2 : o1.1 = 3
        · replace h := z_t c2 h
          cases h
          rw [c2] at hcl
          refine zH_catch (i := 3) (j := 2) hown hts hU.2.2.1 hNC htab [1, 2, 3] rfl rfl (fun k hk => by match k, hk with | 0, _ => exact ⟨1, rfl, by decide, by decide, by decide⟩ | 1, _ => exact ⟨2, rfl, by decide, by decide, by decide⟩ | n + 2, hk => omega) ⟨by decide, by decide⟩ (fun k q i9 f1 f2 => by match k, f1, f2 with | 0, f1, f2 => cases f1; cases f2; exact ⟨by decide, by decide, by decide, zk_RL_13⟩ | 1, f1, f2 => cases f1; cases f2; exact ⟨by decide, by decide, by decide, zk_RL_15⟩ | 2, f1, f2 => cases f1; cases f2; exact ⟨by decide, by decide, by decide, zk_RL_17⟩ | n + 3, f1, _ => simp at f1) zcast3 hce hcv hcl (fun x hx9 => ?_)
          cases hx9
          refine lv_astore hx hb dL_entity_23 hl (by decide) rfl (fun ls hl => ?_)
          refine lv_iconst (v := 3) hx hb dL_entity_25 (by decide) ?_
          refine W.widen (k := 3) (n := 18) (by decide) (by decide) ?_
          exact W.iret (v := 3) hx hb hr (fun t ht hW => ⟨⟨3, (), rfl, by decide, by rw [ht]; exact hY1.1, by rw [ht]; exact hO1, va_K.moved hW.alike hK, hY1.2.2.2.2.2 rfl⟩, hY1.2.2.1.F ht⟩) hY1.2.2.1.2.2 dL_entity_26 hlocks
        · replace h := z_f c2 h
          cases h
  · replace h := z_t h0 h
    cases h
    have hao1 : b + o1.2.2.2.2.2 < ao := by rw [hY1.2.2.2.2.2 rfl]; exact hao
    refine lv_i2l hx hb dL_entity_10 rfl ?_
    refine zH_out hx hb hK hY1 hO1 hao1 hAo dL_entity_11 (fun H2 locs2 hY2 hO2 => ?_)
    refine lv_goto (tgt := 27) hx hb dL_entity_12 (by decide) ?_
    refine lv_iconst (v := 0) hx hb dL_entity_27 (by decide) ?_
    refine W.widen (k := 3) (n := 18) (by decide) (by decide) ?_
    exact W.iret (v := 0) hx hb hr (fun t ht hW => ⟨⟨0, (), rfl, rfl, by rw [ht]; exact hY2.1, by rw [ht]; exact hO2, va_K.moved hW.alike hK, hY2.2.2.2.2.2 rfl⟩, hY2.2.2.1.F ht⟩) hY2.2.2.1.2.2 dL_entity_28 hlocks
def fL_clear (x0 : Nat) (x1 : Int32) (M : zM) (w : Nat → Int64) : Option (Int32 × zM × (Nat → Int64)) := zg (zk M x0 = 7) (zhS [1] w (fun r => vp_updL w 0 r.toInt64) (fX7_clear x0 x1 M))
theorem zg_yL_clear : (Cond.codeWith yL_clear cL_clear 4 (some .int) [(0, 9, 12, 13)]) ∈ gtb := gi 709 (by decide +kernel) rfl
theorem zs_yL_clear : (Cond.static yL_clear) ∈ gtb := gi 708 (by decide +kernel) rfl
theorem zp_yL_clear : plainName yL_clear.cls = true := by decide +kernel
set_option maxHeartbeats 4000000 in
set_option maxRecDepth 100000 in
theorem vL_clear (l : Launch) (hl0 : l.stackTraces = false) (D : va_G) (T : Nat → ClassId) (b ao : Nat) (x0 : Nat) (x1 : Int32) (M : zM) (w : Nat → Int64) (k : Int32) (M' : zM) (w' : Nat → Int64) (hao : b + M.2.2.2 < ao) (h : fL_clear x0 x1 M w = some (k, M', w')) : zhMet l D T b ao yL_clear cL_clear 4 [(0, 9, 12, 13)] 123 1 6 [zr b x0, .int x1, .ref ao] M w k M' w' := by
  unfold fL_clear at h
  obtain ⟨g1, h⟩ := zg_of h
  obtain ⟨o1, e9, h⟩ := zhS_of h
  have hx0 : zr b x0 = .ref (b + x0) := zr_pos (zk_1 g1 (by decide)).1
  intro sz
  refine va_MetW zp_yL_clear rfl ?_
  intro p e s m args below meth c s₁ B hml hv
  obtain ⟨rfl, hsz, hP, hO, hK, hU, hNw, hNC⟩ := hv
  subst hsz
  have hx := B.exec
  have hb := B.bytes
  have hr := B.returns
  have hlocks := B.notSynchronized
  have hts0 := atoms_spec (ws := Cond.codeWith yL_clear cL_clear 4 (some .int) [(0, 9, 12, 13)] :: gtb) B.pre
  have hts : ∀ w ∈ gtb, w.before _ s = true := fun w hw => hts0 w (List.mem_cons_of_mem _ hw)
  have hown : s.vm.findClass RL = some m.cls := findClass_of_methodNamed B.named
  have htab := vx_table (x := yL_clear) B (hts0 _ List.mem_cons_self)
  have hA : ∀ q : Nat, s.heap.size ≤ q → zAo b M.2.2.2 ao s.heap.size q := fun q h => Or.inr (Or.inr h)
  have hY : zY D T b false true M.2.2.2 M s s.heap (zAo b M.2.2.2 ao s.heap.size) [] := ⟨hP, zD_of (fun r h1 h2 => Or.inl ⟨by omega, by omega⟩), va_S.rf, fun hg => absurd hg Bool.false_ne_true, ⟨fun _ => hU, fun hg => absurd hg Bool.false_ne_true, hNw⟩, fun _ => rfl⟩
  have hAo : zAo b M.2.2.2 ao s.heap.size ao := Or.inr (Or.inl rfl)
  have hcat : zc1 [zr b x0, .int x1, .ref ao] := ⟨zr_cat _ _, rfl, rfl, trivial⟩
  have hlen : (lg_sl [zr b x0, .int x1, .ref ao]).length ≤ 4 := by rw [zarg_len _ hcat]; exact Nat.le_of_ble_eq_true rfl
  have hl := lv_entry ([zr b x0, .int x1, .ref ao]) (n := 4) hlen
  rw [lg_entry_eq]
  rw [zarg_eq _ 0 hcat] at hl
  generalize (lg_sl [zr b x0, .int x1, .ref ao] ++ List.replicate (4 - (lg_sl [zr b x0, .int x1, .ref ao]).length) Slot.unset).toArray = ls at hl ⊢
  have hl : lv_has ls 4 [(0, zr b x0), (1, .int x1), (2, .ref ao)] := hl
  rw [hx0] at hl
  refine lv_aload_n hx hb dL_clear_0 rfl (lv_at hl 2 rfl) ?_
  refine lv_iconst (v := 0) hx hb dL_clear_1 (by decide) ?_
  refine lv_aload_n hx hb dL_clear_2 rfl (lv_at hl 0 rfl) ?_
  refine lv_iload_n hx hb dL_clear_3 rfl (lv_at hl 1 rfl) ?_
  refine zH_calli hx hb hml hown hts rfl hK hA hY hO hao hl (As := [.int x1]) (rest := [.int 0, .ref ao]) (vX7_clear l hl0 D T b x0 x1 M _ e9) zm_yX7_clear zl_RL_35 zi_yX7_clear ze_yX7_clear zcI7 g1 rfl (by simp [Value.category]) (by decide) (Nat.le_of_ble_eq_true rfl) (Nat.le_of_ble_eq_true rfl) dL_clear_4 (by rw [hx0]; rfl) (fun hne H1 locs1 q9 ce hY1 hO1 hce hcv hcl => ?_) (fun h0 H1 locs1 hY1 hO1 => ?_)
  · replace h := z_f hne h
    by_cases c0 : o1.1 = 1
    · replace h := z_t c0 h
      cases h
      rw [c0] at hcl
      refine zH_catch (i := 1) (j := 0) hown hts hU.2.2.1 hNC htab [1] rfl rfl (fun k hk => absurd hk (Nat.not_lt_zero _)) ⟨by decide, by decide⟩ (fun k q i9 f1 f2 => by match k, f1, f2 with | 0, f1, f2 => cases f1; cases f2; exact ⟨by decide, by decide, by decide, zk_RL_13⟩ | n + 1, f1, _ => simp at f1) zcast1 hce hcv hcl (fun x hx9 => ?_)
      cases hx9
      refine lv_astore_n hx hb dL_clear_12 rfl hl (by decide) rfl (fun ls hl => ?_)
      refine lv_iconst (v := 1) hx hb dL_clear_13 (by decide) ?_
      refine W.widen (k := 1) (n := 6) (by decide) (by decide) ?_
      exact W.iret (v := 1) hx hb hr (fun t ht hW => ⟨⟨1, (), rfl, by decide, by rw [ht]; exact hY1.1, by rw [ht]; exact hO1, va_K.moved hW.alike hK, hY1.2.2.2.2.2 rfl⟩, hY1.2.2.1.F ht⟩) hY1.2.2.1.2.2 dL_clear_14 hlocks
    · replace h := z_f c0 h
      cases h
  · replace h := z_t h0 h
    cases h
    have hao1 : b + o1.2.2.2.2.2 < ao := by rw [hY1.2.2.2.2.2 rfl]; exact hao
    refine lv_i2l hx hb dL_clear_7 rfl ?_
    refine zH_out hx hb hK hY1 hO1 hao1 hAo dL_clear_8 (fun H2 locs2 hY2 hO2 => ?_)
    refine lv_goto (tgt := 15) hx hb dL_clear_9 (by decide) ?_
    refine lv_iconst (v := 0) hx hb dL_clear_15 (by decide) ?_
    refine W.widen (k := 1) (n := 6) (by decide) (by decide) ?_
    exact W.iret (v := 0) hx hb hr (fun t ht hW => ⟨⟨0, (), rfl, rfl, by rw [ht]; exact hY2.1, by rw [ht]; exact hO2, va_K.moved hW.alike hK, hY2.2.2.2.2.2 rfl⟩, hY2.2.2.1.F ht⟩) hY2.2.2.1.2.2 dL_clear_16 hlocks
def fL_flip (x0 : Nat) (x1 : Int32) (x2 : Int32) (M : zM) (w : Nat → Int64) : Option (Int32 × zM × (Nat → Int64)) := zg (zk M x0 = 7) (zhS [1, 2] w (fun r => vp_updL w 0 r.toInt64) (fX7_flip x0 x1 x2 M))
theorem zg_yL_flip : (Cond.codeWith yL_flip cL_flip 5 (some .int) [(0, 10, 13, 13), (0, 10, 17, 15)]) ∈ gtb := gi 716 (by decide +kernel) rfl
theorem zs_yL_flip : (Cond.static yL_flip) ∈ gtb := gi 715 (by decide +kernel) rfl
theorem zp_yL_flip : plainName yL_flip.cls = true := by decide +kernel
set_option maxHeartbeats 4000000 in
set_option maxRecDepth 100000 in
theorem vL_flip (l : Launch) (hl0 : l.stackTraces = false) (D : va_G) (T : Nat → ClassId) (b ao : Nat) (x0 : Nat) (x1 : Int32) (x2 : Int32) (M : zM) (w : Nat → Int64) (k : Int32) (M' : zM) (w' : Nat → Int64) (hao : b + M.2.2.2 < ao) (h : fL_flip x0 x1 x2 M w = some (k, M', w')) : zhMet l D T b ao yL_flip cL_flip 5 [(0, 10, 13, 13), (0, 10, 17, 15)] 123 2 12 [zr b x0, .int x1, .int x2, .ref ao] M w k M' w' := by
  unfold fL_flip at h
  obtain ⟨g1, h⟩ := zg_of h
  obtain ⟨o1, e9, h⟩ := zhS_of h
  have hx0 : zr b x0 = .ref (b + x0) := zr_pos (zk_1 g1 (by decide)).1
  intro sz
  refine va_MetW zp_yL_flip rfl ?_
  intro p e s m args below meth c s₁ B hml hv
  obtain ⟨rfl, hsz, hP, hO, hK, hU, hNw, hNC⟩ := hv
  subst hsz
  have hx := B.exec
  have hb := B.bytes
  have hr := B.returns
  have hlocks := B.notSynchronized
  have hts0 := atoms_spec (ws := Cond.codeWith yL_flip cL_flip 5 (some .int) [(0, 10, 13, 13), (0, 10, 17, 15)] :: gtb) B.pre
  have hts : ∀ w ∈ gtb, w.before _ s = true := fun w hw => hts0 w (List.mem_cons_of_mem _ hw)
  have hown : s.vm.findClass RL = some m.cls := findClass_of_methodNamed B.named
  have htab := vx_table (x := yL_flip) B (hts0 _ List.mem_cons_self)
  have hA : ∀ q : Nat, s.heap.size ≤ q → zAo b M.2.2.2 ao s.heap.size q := fun q h => Or.inr (Or.inr h)
  have hY : zY D T b false true M.2.2.2 M s s.heap (zAo b M.2.2.2 ao s.heap.size) [] := ⟨hP, zD_of (fun r h1 h2 => Or.inl ⟨by omega, by omega⟩), va_S.rf, fun hg => absurd hg Bool.false_ne_true, ⟨fun _ => hU, fun hg => absurd hg Bool.false_ne_true, hNw⟩, fun _ => rfl⟩
  have hAo : zAo b M.2.2.2 ao s.heap.size ao := Or.inr (Or.inl rfl)
  have hcat : zc1 [zr b x0, .int x1, .int x2, .ref ao] := ⟨zr_cat _ _, rfl, rfl, rfl, trivial⟩
  have hlen : (lg_sl [zr b x0, .int x1, .int x2, .ref ao]).length ≤ 5 := by rw [zarg_len _ hcat]; exact Nat.le_of_ble_eq_true rfl
  have hl := lv_entry ([zr b x0, .int x1, .int x2, .ref ao]) (n := 5) hlen
  rw [lg_entry_eq]
  rw [zarg_eq _ 0 hcat] at hl
  generalize (lg_sl [zr b x0, .int x1, .int x2, .ref ao] ++ List.replicate (5 - (lg_sl [zr b x0, .int x1, .int x2, .ref ao]).length) Slot.unset).toArray = ls at hl ⊢
  have hl : lv_has ls 5 [(0, zr b x0), (1, .int x1), (2, .int x2), (3, .ref ao)] := hl
  rw [hx0] at hl
  refine lv_aload_n hx hb dL_flip_0 rfl (lv_at hl 3 rfl) ?_
  refine lv_iconst (v := 0) hx hb dL_flip_1 (by decide) ?_
  refine lv_aload_n hx hb dL_flip_2 rfl (lv_at hl 0 rfl) ?_
  refine lv_iload_n hx hb dL_flip_3 rfl (lv_at hl 1 rfl) ?_
  refine lv_iload_n hx hb dL_flip_4 rfl (lv_at hl 2 rfl) ?_
  refine zH_calli hx hb hml hown hts rfl hK hA hY hO hao hl (As := [.int x1, .int x2]) (rest := [.int 0, .ref ao]) (vX7_flip l hl0 D T b x0 x1 x2 M _ e9) zm_yX7_flip zl_RL_38 zi_yX7_flip ze_yX7_flip zcI7 g1 rfl (by simp [Value.category]) (by decide) (Nat.le_of_ble_eq_true rfl) (Nat.le_of_ble_eq_true rfl) dL_flip_5 (by rw [hx0]; rfl) (fun hne H1 locs1 q9 ce hY1 hO1 hce hcv hcl => ?_) (fun h0 H1 locs1 hY1 hO1 => ?_)
  · replace h := z_f hne h
    by_cases c0 : o1.1 = 1
    · replace h := z_t c0 h
      cases h
      rw [c0] at hcl
      refine zH_catch (i := 1) (j := 0) hown hts hU.2.2.1 hNC htab [1, 2] rfl rfl (fun k hk => absurd hk (Nat.not_lt_zero _)) ⟨by decide, by decide⟩ (fun k q i9 f1 f2 => by match k, f1, f2 with | 0, f1, f2 => cases f1; cases f2; exact ⟨by decide, by decide, by decide, zk_RL_13⟩ | 1, f1, f2 => cases f1; cases f2; exact ⟨by decide, by decide, by decide, zk_RL_15⟩ | n + 2, f1, _ => simp at f1) zcast1 hce hcv hcl (fun x hx9 => ?_)
      cases hx9
      refine lv_astore hx hb dL_flip_13 hl (by decide) rfl (fun ls hl => ?_)
      refine lv_iconst (v := 1) hx hb dL_flip_15 (by decide) ?_
      refine W.widen (k := 2) (n := 12) (by decide) (by decide) ?_
      exact W.iret (v := 1) hx hb hr (fun t ht hW => ⟨⟨1, (), rfl, by decide, by rw [ht]; exact hY1.1, by rw [ht]; exact hO1, va_K.moved hW.alike hK, hY1.2.2.2.2.2 rfl⟩, hY1.2.2.1.F ht⟩) hY1.2.2.1.2.2 dL_flip_16 hlocks
    · replace h := z_f c0 h
      by_cases c1 : o1.1 = 2
      · replace h := z_t c1 h
        cases h
        rw [c1] at hcl
        refine zH_catch (i := 2) (j := 1) hown hts hU.2.2.1 hNC htab [1, 2] rfl rfl (fun k hk => by match k, hk with | 0, _ => exact ⟨1, rfl, by decide, by decide, by decide⟩ | n + 1, hk => omega) ⟨by decide, by decide⟩ (fun k q i9 f1 f2 => by match k, f1, f2 with | 0, f1, f2 => cases f1; cases f2; exact ⟨by decide, by decide, by decide, zk_RL_13⟩ | 1, f1, f2 => cases f1; cases f2; exact ⟨by decide, by decide, by decide, zk_RL_15⟩ | n + 2, f1, _ => simp at f1) zcast2 hce hcv hcl (fun x hx9 => ?_)
        cases hx9
        refine lv_astore hx hb dL_flip_17 hl (by decide) rfl (fun ls hl => ?_)
        refine lv_iconst (v := 2) hx hb dL_flip_19 (by decide) ?_
        refine W.widen (k := 2) (n := 12) (by decide) (by decide) ?_
        exact W.iret (v := 2) hx hb hr (fun t ht hW => ⟨⟨2, (), rfl, by decide, by rw [ht]; exact hY1.1, by rw [ht]; exact hO1, va_K.moved hW.alike hK, hY1.2.2.2.2.2 rfl⟩, hY1.2.2.1.F ht⟩) hY1.2.2.1.2.2 dL_flip_20 hlocks
      · replace h := z_f c1 h
        cases h
  · replace h := z_t h0 h
    cases h
    have hao1 : b + o1.2.2.2.2.2 < ao := by rw [hY1.2.2.2.2.2 rfl]; exact hao
    refine lv_i2l hx hb dL_flip_8 rfl ?_
    refine zH_out hx hb hK hY1 hO1 hao1 hAo dL_flip_9 (fun H2 locs2 hY2 hO2 => ?_)
    refine lv_goto (tgt := 21) hx hb dL_flip_10 (by decide) ?_
    refine lv_iconst (v := 0) hx hb dL_flip_21 (by decide) ?_
    refine W.widen (k := 2) (n := 12) (by decide) (by decide) ?_
    exact W.iret (v := 0) hx hb hr (fun t ht hW => ⟨⟨0, (), rfl, rfl, by rw [ht]; exact hY2.1, by rw [ht]; exact hO2, va_K.moved hW.alike hK, hY2.2.2.2.2.2 rfl⟩, hY2.2.2.1.F ht⟩) hY2.2.2.1.2.2 dL_flip_22 hlocks
def fL_insert (x0 : Nat) (x1 : Int32) (x2 : Int32) (x3 : Int32) (M : zM) (w : Nat → Int64) : Option (Int32 × zM × (Nat → Int64)) := zg (zk M x0 = 7) (zhS [1, 2, 3] w (fun r => vp_updL w 0 r.toInt64) (fX7_insert x0 x1 x2 x3 M))
theorem zg_yL_insert : (Cond.codeWith yL_insert cL_insert 6 (some .int) [(0, 12, 15, 13), (0, 12, 19, 15), (0, 12, 23, 17)]) ∈ gtb := gi 724 (by decide +kernel) rfl
theorem zs_yL_insert : (Cond.static yL_insert) ∈ gtb := gi 723 (by decide +kernel) rfl
theorem zp_yL_insert : plainName yL_insert.cls = true := by decide +kernel
set_option maxHeartbeats 4000000 in
set_option maxRecDepth 100000 in
theorem vL_insert (l : Launch) (hl0 : l.stackTraces = false) (D : va_G) (T : Nat → ClassId) (b ao : Nat) (x0 : Nat) (x1 : Int32) (x2 : Int32) (x3 : Int32) (M : zM) (w : Nat → Int64) (k : Int32) (M' : zM) (w' : Nat → Int64) (hao : b + M.2.2.2 < ao) (h : fL_insert x0 x1 x2 x3 M w = some (k, M', w')) : zhMet l D T b ao yL_insert cL_insert 6 [(0, 12, 15, 13), (0, 12, 19, 15), (0, 12, 23, 17)] 123 3 18 [zr b x0, .int x1, .int x2, .int x3, .ref ao] M w k M' w' := by
  unfold fL_insert at h
  obtain ⟨g1, h⟩ := zg_of h
  obtain ⟨o1, e9, h⟩ := zhS_of h
  have hx0 : zr b x0 = .ref (b + x0) := zr_pos (zk_1 g1 (by decide)).1
  intro sz
  refine va_MetW zp_yL_insert rfl ?_
  intro p e s m args below meth c s₁ B hml hv
  obtain ⟨rfl, hsz, hP, hO, hK, hU, hNw, hNC⟩ := hv
  subst hsz
  have hx := B.exec
  have hb := B.bytes
  have hr := B.returns
  have hlocks := B.notSynchronized
  have hts0 := atoms_spec (ws := Cond.codeWith yL_insert cL_insert 6 (some .int) [(0, 12, 15, 13), (0, 12, 19, 15), (0, 12, 23, 17)] :: gtb) B.pre
  have hts : ∀ w ∈ gtb, w.before _ s = true := fun w hw => hts0 w (List.mem_cons_of_mem _ hw)
  have hown : s.vm.findClass RL = some m.cls := findClass_of_methodNamed B.named
  have htab := vx_table (x := yL_insert) B (hts0 _ List.mem_cons_self)
  have hA : ∀ q : Nat, s.heap.size ≤ q → zAo b M.2.2.2 ao s.heap.size q := fun q h => Or.inr (Or.inr h)
  have hY : zY D T b false true M.2.2.2 M s s.heap (zAo b M.2.2.2 ao s.heap.size) [] := ⟨hP, zD_of (fun r h1 h2 => Or.inl ⟨by omega, by omega⟩), va_S.rf, fun hg => absurd hg Bool.false_ne_true, ⟨fun _ => hU, fun hg => absurd hg Bool.false_ne_true, hNw⟩, fun _ => rfl⟩
  have hAo : zAo b M.2.2.2 ao s.heap.size ao := Or.inr (Or.inl rfl)
  have hcat : zc1 [zr b x0, .int x1, .int x2, .int x3, .ref ao] := ⟨zr_cat _ _, rfl, rfl, rfl, rfl, trivial⟩
  have hlen : (lg_sl [zr b x0, .int x1, .int x2, .int x3, .ref ao]).length ≤ 6 := by rw [zarg_len _ hcat]; exact Nat.le_of_ble_eq_true rfl
  have hl := lv_entry ([zr b x0, .int x1, .int x2, .int x3, .ref ao]) (n := 6) hlen
  rw [lg_entry_eq]
  rw [zarg_eq _ 0 hcat] at hl
  generalize (lg_sl [zr b x0, .int x1, .int x2, .int x3, .ref ao] ++ List.replicate (6 - (lg_sl [zr b x0, .int x1, .int x2, .int x3, .ref ao]).length) Slot.unset).toArray = ls at hl ⊢
  have hl : lv_has ls 6 [(0, zr b x0), (1, .int x1), (2, .int x2), (3, .int x3), (4, .ref ao)] := hl
  rw [hx0] at hl
  refine lv_aload hx hb dL_insert_0 (lv_at hl 4 rfl) ?_
  refine lv_iconst (v := 0) hx hb dL_insert_2 (by decide) ?_
  refine lv_aload_n hx hb dL_insert_3 rfl (lv_at hl 0 rfl) ?_
  refine lv_iload_n hx hb dL_insert_4 rfl (lv_at hl 1 rfl) ?_
  refine lv_iload_n hx hb dL_insert_5 rfl (lv_at hl 2 rfl) ?_
  refine lv_iload_n hx hb dL_insert_6 rfl (lv_at hl 3 rfl) ?_
  refine zH_calli hx hb hml hown hts rfl hK hA hY hO hao hl (As := [.int x1, .int x2, .int x3]) (rest := [.int 0, .ref ao]) (vX7_insert l hl0 D T b x0 x1 x2 x3 M _ e9) zm_yX7_insert zl_RL_42 zi_yX7_insert ze_yX7_insert zcI7 g1 rfl (by simp [Value.category]) (by decide) (Nat.le_of_ble_eq_true rfl) (Nat.le_of_ble_eq_true rfl) dL_insert_7 (by rw [hx0]; rfl) (fun hne H1 locs1 q9 ce hY1 hO1 hce hcv hcl => ?_) (fun h0 H1 locs1 hY1 hO1 => ?_)
  · replace h := z_f hne h
    by_cases c0 : o1.1 = 1
    · replace h := z_t c0 h
      cases h
      rw [c0] at hcl
      refine zH_catch (i := 1) (j := 0) hown hts hU.2.2.1 hNC htab [1, 2, 3] rfl rfl (fun k hk => absurd hk (Nat.not_lt_zero _)) ⟨by decide, by decide⟩ (fun k q i9 f1 f2 => by match k, f1, f2 with | 0, f1, f2 => cases f1; cases f2; exact ⟨by decide, by decide, by decide, zk_RL_13⟩ | 1, f1, f2 => cases f1; cases f2; exact ⟨by decide, by decide, by decide, zk_RL_15⟩ | 2, f1, f2 => cases f1; cases f2; exact ⟨by decide, by decide, by decide, zk_RL_17⟩ | n + 3, f1, _ => simp at f1) zcast1 hce hcv hcl (fun x hx9 => ?_)
      cases hx9
      refine lv_astore hx hb dL_insert_15 hl (by decide) rfl (fun ls hl => ?_)
      refine lv_iconst (v := 1) hx hb dL_insert_17 (by decide) ?_
      refine W.widen (k := 3) (n := 18) (by decide) (by decide) ?_
      exact W.iret (v := 1) hx hb hr (fun t ht hW => ⟨⟨1, (), rfl, by decide, by rw [ht]; exact hY1.1, by rw [ht]; exact hO1, va_K.moved hW.alike hK, hY1.2.2.2.2.2 rfl⟩, hY1.2.2.1.F ht⟩) hY1.2.2.1.2.2 dL_insert_18 hlocks
    · replace h := z_f c0 h
      by_cases c1 : o1.1 = 2
      · replace h := z_t c1 h
        cases h
        rw [c1] at hcl
        refine zH_catch (i := 2) (j := 1) hown hts hU.2.2.1 hNC htab [1, 2, 3] rfl rfl (fun k hk => by match k, hk with | 0, _ => exact ⟨1, rfl, by decide, by decide, by decide⟩ | n + 1, hk => omega) ⟨by decide, by decide⟩ (fun k q i9 f1 f2 => by match k, f1, f2 with | 0, f1, f2 => cases f1; cases f2; exact ⟨by decide, by decide, by decide, zk_RL_13⟩ | 1, f1, f2 => cases f1; cases f2; exact ⟨by decide, by decide, by decide, zk_RL_15⟩ | 2, f1, f2 => cases f1; cases f2; exact ⟨by decide, by decide, by decide, zk_RL_17⟩ | n + 3, f1, _ => simp at f1) zcast2 hce hcv hcl (fun x hx9 => ?_)
        cases hx9
        refine lv_astore hx hb dL_insert_19 hl (by decide) rfl (fun ls hl => ?_)
        refine lv_iconst (v := 2) hx hb dL_insert_21 (by decide) ?_
        refine W.widen (k := 3) (n := 18) (by decide) (by decide) ?_
        exact W.iret (v := 2) hx hb hr (fun t ht hW => ⟨⟨2, (), rfl, by decide, by rw [ht]; exact hY1.1, by rw [ht]; exact hO1, va_K.moved hW.alike hK, hY1.2.2.2.2.2 rfl⟩, hY1.2.2.1.F ht⟩) hY1.2.2.1.2.2 dL_insert_22 hlocks
      · replace h := z_f c1 h
        by_cases c2 : o1.1 = 3
        · replace h := z_t c2 h
          cases h
          rw [c2] at hcl
          refine zH_catch (i := 3) (j := 2) hown hts hU.2.2.1 hNC htab [1, 2, 3] rfl rfl (fun k hk => by match k, hk with | 0, _ => exact ⟨1, rfl, by decide, by decide, by decide⟩ | 1, _ => exact ⟨2, rfl, by decide, by decide, by decide⟩ | n + 2, hk => omega) ⟨by decide, by decide⟩ (fun k q i9 f1 f2 => by match k, f1, f2 with | 0, f1, f2 => cases f1; cases f2; exact ⟨by decide, by decide, by decide, zk_RL_13⟩ | 1, f1, f2 => cases f1; cases f2; exact ⟨by decide, by decide, by decide, zk_RL_15⟩ | 2, f1, f2 => cases f1; cases f2; exact ⟨by decide, by decide, by decide, zk_RL_17⟩ | n + 3, f1, _ => simp at f1) zcast3 hce hcv hcl (fun x hx9 => ?_)
          cases hx9
          refine lv_astore hx hb dL_insert_23 hl (by decide) rfl (fun ls hl => ?_)
          refine lv_iconst (v := 3) hx hb dL_insert_25 (by decide) ?_
          refine W.widen (k := 3) (n := 18) (by decide) (by decide) ?_
          exact W.iret (v := 3) hx hb hr (fun t ht hW => ⟨⟨3, (), rfl, by decide, by rw [ht]; exact hY1.1, by rw [ht]; exact hO1, va_K.moved hW.alike hK, hY1.2.2.2.2.2 rfl⟩, hY1.2.2.1.F ht⟩) hY1.2.2.1.2.2 dL_insert_26 hlocks
        · replace h := z_f c2 h
          cases h
  · replace h := z_t h0 h
    cases h
    have hao1 : b + o1.2.2.2.2.2 < ao := by rw [hY1.2.2.2.2.2 rfl]; exact hao
    refine lv_i2l hx hb dL_insert_10 rfl ?_
    refine zH_out hx hb hK hY1 hO1 hao1 hAo dL_insert_11 (fun H2 locs2 hY2 hO2 => ?_)
    refine lv_goto (tgt := 27) hx hb dL_insert_12 (by decide) ?_
    refine lv_iconst (v := 0) hx hb dL_insert_27 (by decide) ?_
    refine W.widen (k := 3) (n := 18) (by decide) (by decide) ?_
    exact W.iret (v := 0) hx hb hr (fun t ht hW => ⟨⟨0, (), rfl, rfl, by rw [ht]; exact hY2.1, by rw [ht]; exact hO2, va_K.moved hW.alike hK, hY2.2.2.2.2.2 rfl⟩, hY2.2.2.1.F ht⟩) hY2.2.2.1.2.2 dL_insert_28 hlocks
def fL_erase (x0 : Nat) (x1 : Int32) (M : zM) (w : Nat → Int64) : Option (Int32 × zM × (Nat → Int64)) := zg (zk M x0 = 7) (zhS [1] w (fun r => vp_updL w 0 r.toInt64) (fX7_erase x0 x1 M))
theorem zg_yL_erase : (Cond.codeWith yL_erase cL_erase 4 (some .int) [(0, 9, 12, 13)]) ∈ gtb := gi 744 (by decide +kernel) rfl
theorem zs_yL_erase : (Cond.static yL_erase) ∈ gtb := gi 743 (by decide +kernel) rfl
theorem zp_yL_erase : plainName yL_erase.cls = true := by decide +kernel
set_option maxHeartbeats 4000000 in
set_option maxRecDepth 100000 in
theorem vL_erase (l : Launch) (hl0 : l.stackTraces = false) (D : va_G) (T : Nat → ClassId) (b ao : Nat) (x0 : Nat) (x1 : Int32) (M : zM) (w : Nat → Int64) (k : Int32) (M' : zM) (w' : Nat → Int64) (hao : b + M.2.2.2 < ao) (h : fL_erase x0 x1 M w = some (k, M', w')) : zhMet l D T b ao yL_erase cL_erase 4 [(0, 9, 12, 13)] 123 1 6 [zr b x0, .int x1, .ref ao] M w k M' w' := by
  unfold fL_erase at h
  obtain ⟨g1, h⟩ := zg_of h
  obtain ⟨o1, e9, h⟩ := zhS_of h
  have hx0 : zr b x0 = .ref (b + x0) := zr_pos (zk_1 g1 (by decide)).1
  intro sz
  refine va_MetW zp_yL_erase rfl ?_
  intro p e s m args below meth c s₁ B hml hv
  obtain ⟨rfl, hsz, hP, hO, hK, hU, hNw, hNC⟩ := hv
  subst hsz
  have hx := B.exec
  have hb := B.bytes
  have hr := B.returns
  have hlocks := B.notSynchronized
  have hts0 := atoms_spec (ws := Cond.codeWith yL_erase cL_erase 4 (some .int) [(0, 9, 12, 13)] :: gtb) B.pre
  have hts : ∀ w ∈ gtb, w.before _ s = true := fun w hw => hts0 w (List.mem_cons_of_mem _ hw)
  have hown : s.vm.findClass RL = some m.cls := findClass_of_methodNamed B.named
  have htab := vx_table (x := yL_erase) B (hts0 _ List.mem_cons_self)
  have hA : ∀ q : Nat, s.heap.size ≤ q → zAo b M.2.2.2 ao s.heap.size q := fun q h => Or.inr (Or.inr h)
  have hY : zY D T b false true M.2.2.2 M s s.heap (zAo b M.2.2.2 ao s.heap.size) [] := ⟨hP, zD_of (fun r h1 h2 => Or.inl ⟨by omega, by omega⟩), va_S.rf, fun hg => absurd hg Bool.false_ne_true, ⟨fun _ => hU, fun hg => absurd hg Bool.false_ne_true, hNw⟩, fun _ => rfl⟩
  have hAo : zAo b M.2.2.2 ao s.heap.size ao := Or.inr (Or.inl rfl)
  have hcat : zc1 [zr b x0, .int x1, .ref ao] := ⟨zr_cat _ _, rfl, rfl, trivial⟩
  have hlen : (lg_sl [zr b x0, .int x1, .ref ao]).length ≤ 4 := by rw [zarg_len _ hcat]; exact Nat.le_of_ble_eq_true rfl
  have hl := lv_entry ([zr b x0, .int x1, .ref ao]) (n := 4) hlen
  rw [lg_entry_eq]
  rw [zarg_eq _ 0 hcat] at hl
  generalize (lg_sl [zr b x0, .int x1, .ref ao] ++ List.replicate (4 - (lg_sl [zr b x0, .int x1, .ref ao]).length) Slot.unset).toArray = ls at hl ⊢
  have hl : lv_has ls 4 [(0, zr b x0), (1, .int x1), (2, .ref ao)] := hl
  rw [hx0] at hl
  refine lv_aload_n hx hb dL_erase_0 rfl (lv_at hl 2 rfl) ?_
  refine lv_iconst (v := 0) hx hb dL_erase_1 (by decide) ?_
  refine lv_aload_n hx hb dL_erase_2 rfl (lv_at hl 0 rfl) ?_
  refine lv_iload_n hx hb dL_erase_3 rfl (lv_at hl 1 rfl) ?_
  refine zH_calli hx hb hml hown hts rfl hK hA hY hO hao hl (As := [.int x1]) (rest := [.int 0, .ref ao]) (vX7_erase l hl0 D T b x0 x1 M _ e9) zm_yX7_erase zl_RL_45 zi_yX7_erase ze_yX7_erase zcI7 g1 rfl (by simp [Value.category]) (by decide) (Nat.le_of_ble_eq_true rfl) (Nat.le_of_ble_eq_true rfl) dL_erase_4 (by rw [hx0]; rfl) (fun hne H1 locs1 q9 ce hY1 hO1 hce hcv hcl => ?_) (fun h0 H1 locs1 hY1 hO1 => ?_)
  · replace h := z_f hne h
    by_cases c0 : o1.1 = 1
    · replace h := z_t c0 h
      cases h
      rw [c0] at hcl
      refine zH_catch (i := 1) (j := 0) hown hts hU.2.2.1 hNC htab [1] rfl rfl (fun k hk => absurd hk (Nat.not_lt_zero _)) ⟨by decide, by decide⟩ (fun k q i9 f1 f2 => by match k, f1, f2 with | 0, f1, f2 => cases f1; cases f2; exact ⟨by decide, by decide, by decide, zk_RL_13⟩ | n + 1, f1, _ => simp at f1) zcast1 hce hcv hcl (fun x hx9 => ?_)
      cases hx9
      refine lv_astore_n hx hb dL_erase_12 rfl hl (by decide) rfl (fun ls hl => ?_)
      refine lv_iconst (v := 1) hx hb dL_erase_13 (by decide) ?_
      refine W.widen (k := 1) (n := 6) (by decide) (by decide) ?_
      exact W.iret (v := 1) hx hb hr (fun t ht hW => ⟨⟨1, (), rfl, by decide, by rw [ht]; exact hY1.1, by rw [ht]; exact hO1, va_K.moved hW.alike hK, hY1.2.2.2.2.2 rfl⟩, hY1.2.2.1.F ht⟩) hY1.2.2.1.2.2 dL_erase_14 hlocks
    · replace h := z_f c0 h
      cases h
  · replace h := z_t h0 h
    cases h
    have hao1 : b + o1.2.2.2.2.2 < ao := by rw [hY1.2.2.2.2.2 rfl]; exact hao
    refine lv_i2l hx hb dL_erase_7 rfl ?_
    refine zH_out hx hb hK hY1 hO1 hao1 hAo dL_erase_8 (fun H2 locs2 hY2 hO2 => ?_)
    refine lv_goto (tgt := 15) hx hb dL_erase_9 (by decide) ?_
    refine lv_iconst (v := 0) hx hb dL_erase_15 (by decide) ?_
    refine W.widen (k := 1) (n := 6) (by decide) (by decide) ?_
    exact W.iret (v := 0) hx hb hr (fun t ht hW => ⟨⟨0, (), rfl, rfl, by rw [ht]; exact hY2.1, by rw [ht]; exact hO2, va_K.moved hW.alike hK, hY2.2.2.2.2.2 rfl⟩, hY2.2.2.1.F ht⟩) hY2.2.2.1.2.2 dL_erase_16 hlocks
def fL_normalize (x0 : Nat) (M : zM) (w : Nat → Int64) : Option (Int32 × zM × (Nat → Int64)) := zg (zk M x0 = 7) (zhS [3] w (fun r => vp_updL w 0 r.toInt64) (fX7_normalize x0 M))
theorem zg_yL_normalize : (Cond.codeWith yL_normalize cL_normalize 3 (some .int) [(0, 8, 11, 17)]) ∈ gtb := gi 755 (by decide +kernel) rfl
theorem zs_yL_normalize : (Cond.static yL_normalize) ∈ gtb := gi 754 (by decide +kernel) rfl
theorem zp_yL_normalize : plainName yL_normalize.cls = true := by decide +kernel
set_option maxHeartbeats 4000000 in
set_option maxRecDepth 100000 in
theorem vL_normalize (l : Launch) (hl0 : l.stackTraces = false) (D : va_G) (T : Nat → ClassId) (b ao : Nat) (x0 : Nat) (M : zM) (w : Nat → Int64) (k : Int32) (M' : zM) (w' : Nat → Int64) (hao : b + M.2.2.2 < ao) (h : fL_normalize x0 M w = some (k, M', w')) : zhMet l D T b ao yL_normalize cL_normalize 3 [(0, 8, 11, 17)] 123 1 6 [zr b x0, .ref ao] M w k M' w' := by
  unfold fL_normalize at h
  obtain ⟨g1, h⟩ := zg_of h
  obtain ⟨o1, e9, h⟩ := zhS_of h
  have hx0 : zr b x0 = .ref (b + x0) := zr_pos (zk_1 g1 (by decide)).1
  intro sz
  refine va_MetW zp_yL_normalize rfl ?_
  intro p e s m args below meth c s₁ B hml hv
  obtain ⟨rfl, hsz, hP, hO, hK, hU, hNw, hNC⟩ := hv
  subst hsz
  have hx := B.exec
  have hb := B.bytes
  have hr := B.returns
  have hlocks := B.notSynchronized
  have hts0 := atoms_spec (ws := Cond.codeWith yL_normalize cL_normalize 3 (some .int) [(0, 8, 11, 17)] :: gtb) B.pre
  have hts : ∀ w ∈ gtb, w.before _ s = true := fun w hw => hts0 w (List.mem_cons_of_mem _ hw)
  have hown : s.vm.findClass RL = some m.cls := findClass_of_methodNamed B.named
  have htab := vx_table (x := yL_normalize) B (hts0 _ List.mem_cons_self)
  have hA : ∀ q : Nat, s.heap.size ≤ q → zAo b M.2.2.2 ao s.heap.size q := fun q h => Or.inr (Or.inr h)
  have hY : zY D T b false true M.2.2.2 M s s.heap (zAo b M.2.2.2 ao s.heap.size) [] := ⟨hP, zD_of (fun r h1 h2 => Or.inl ⟨by omega, by omega⟩), va_S.rf, fun hg => absurd hg Bool.false_ne_true, ⟨fun _ => hU, fun hg => absurd hg Bool.false_ne_true, hNw⟩, fun _ => rfl⟩
  have hAo : zAo b M.2.2.2 ao s.heap.size ao := Or.inr (Or.inl rfl)
  have hcat : zc1 [zr b x0, .ref ao] := ⟨zr_cat _ _, rfl, trivial⟩
  have hlen : (lg_sl [zr b x0, .ref ao]).length ≤ 3 := by rw [zarg_len _ hcat]; exact Nat.le_of_ble_eq_true rfl
  have hl := lv_entry ([zr b x0, .ref ao]) (n := 3) hlen
  rw [lg_entry_eq]
  rw [zarg_eq _ 0 hcat] at hl
  generalize (lg_sl [zr b x0, .ref ao] ++ List.replicate (3 - (lg_sl [zr b x0, .ref ao]).length) Slot.unset).toArray = ls at hl ⊢
  have hl : lv_has ls 3 [(0, zr b x0), (1, .ref ao)] := hl
  rw [hx0] at hl
  refine lv_aload_n hx hb dL_normalize_0 rfl (lv_at hl 1 rfl) ?_
  refine lv_iconst (v := 0) hx hb dL_normalize_1 (by decide) ?_
  refine lv_aload_n hx hb dL_normalize_2 rfl (lv_at hl 0 rfl) ?_
  refine zH_calli hx hb hml hown hts rfl hK hA hY hO hao hl (As := []) (rest := [.int 0, .ref ao]) (vX7_normalize l hl0 D T b x0 M _ e9) zm_yX7_normalize zl_RL_48 zi_yX7_normalize ze_yX7_normalize zcI7 g1 rfl (by simp [Value.category]) (by decide) (Nat.le_of_ble_eq_true rfl) (Nat.le_of_ble_eq_true rfl) dL_normalize_3 (by rw [hx0]; rfl) (fun hne H1 locs1 q9 ce hY1 hO1 hce hcv hcl => ?_) (fun h0 H1 locs1 hY1 hO1 => ?_)
  · replace h := z_f hne h
    by_cases c0 : o1.1 = 3
    · replace h := z_t c0 h
      cases h
      rw [c0] at hcl
      refine zH_catch (i := 3) (j := 0) hown hts hU.2.2.1 hNC htab [3] rfl rfl (fun k hk => absurd hk (Nat.not_lt_zero _)) ⟨by decide, by decide⟩ (fun k q i9 f1 f2 => by match k, f1, f2 with | 0, f1, f2 => cases f1; cases f2; exact ⟨by decide, by decide, by decide, zk_RL_17⟩ | n + 1, f1, _ => simp at f1) zcast3 hce hcv hcl (fun x hx9 => ?_)
      cases hx9
      refine lv_astore_n hx hb dL_normalize_11 rfl hl (by decide) rfl (fun ls hl => ?_)
      refine lv_iconst (v := 1) hx hb dL_normalize_12 (by decide) ?_
      refine W.widen (k := 1) (n := 6) (by decide) (by decide) ?_
      exact W.iret (v := 1) hx hb hr (fun t ht hW => ⟨⟨1, (), rfl, by decide, by rw [ht]; exact hY1.1, by rw [ht]; exact hO1, va_K.moved hW.alike hK, hY1.2.2.2.2.2 rfl⟩, hY1.2.2.1.F ht⟩) hY1.2.2.1.2.2 dL_normalize_13 hlocks
    · replace h := z_f c0 h
      cases h
  · replace h := z_t h0 h
    cases h
    have hao1 : b + o1.2.2.2.2.2 < ao := by rw [hY1.2.2.2.2.2 rfl]; exact hao
    refine lv_i2l hx hb dL_normalize_6 rfl ?_
    refine zH_out hx hb hK hY1 hO1 hao1 hAo dL_normalize_7 (fun H2 locs2 hY2 hO2 => ?_)
    refine lv_goto (tgt := 14) hx hb dL_normalize_8 (by decide) ?_
    refine lv_iconst (v := 0) hx hb dL_normalize_14 (by decide) ?_
    refine W.widen (k := 1) (n := 6) (by decide) (by decide) ?_
    exact W.iret (v := 0) hx hb hr (fun t ht hW => ⟨⟨0, (), rfl, rfl, by rw [ht]; exact hY2.1, by rw [ht]; exact hO2, va_K.moved hW.alike hK, hY2.2.2.2.2.2 rfl⟩, hY2.2.2.1.F ht⟩) hY2.2.2.1.2.2 dL_normalize_15 hlocks
def fL_open (x0 : Nat) (x1 : Int32) (M : zM) (w : Nat → Int64) : Option (Int32 × zM × (Nat → Int64)) := zg (zk M x0 = 7) (zhS [1] w (fun r => vp_updL w 0 r.toInt64) (fX7_open x0 x1 M))
theorem zg_yL_open : (Cond.codeWith yL_open cL_open 4 (some .int) [(0, 9, 12, 13)]) ∈ gtb := gi 768 (by decide +kernel) rfl
theorem zs_yL_open : (Cond.static yL_open) ∈ gtb := gi 767 (by decide +kernel) rfl
theorem zp_yL_open : plainName yL_open.cls = true := by decide +kernel
set_option maxHeartbeats 4000000 in
set_option maxRecDepth 100000 in
theorem vL_open (l : Launch) (hl0 : l.stackTraces = false) (D : va_G) (T : Nat → ClassId) (b ao : Nat) (x0 : Nat) (x1 : Int32) (M : zM) (w : Nat → Int64) (k : Int32) (M' : zM) (w' : Nat → Int64) (hao : b + M.2.2.2 < ao) (h : fL_open x0 x1 M w = some (k, M', w')) : zhMet l D T b ao yL_open cL_open 4 [(0, 9, 12, 13)] 8 1 6 [zr b x0, .int x1, .ref ao] M w k M' w' := by
  unfold fL_open at h
  obtain ⟨g1, h⟩ := zg_of h
  obtain ⟨o1, e9, h⟩ := zhS_of h
  have hx0 : zr b x0 = .ref (b + x0) := zr_pos (zk_1 g1 (by decide)).1
  intro sz
  refine va_MetW zp_yL_open rfl ?_
  intro p e s m args below meth c s₁ B hml hv
  obtain ⟨rfl, hsz, hP, hO, hK, hU, hNw, hNC⟩ := hv
  subst hsz
  have hx := B.exec
  have hb := B.bytes
  have hr := B.returns
  have hlocks := B.notSynchronized
  have hts0 := atoms_spec (ws := Cond.codeWith yL_open cL_open 4 (some .int) [(0, 9, 12, 13)] :: gtb) B.pre
  have hts : ∀ w ∈ gtb, w.before _ s = true := fun w hw => hts0 w (List.mem_cons_of_mem _ hw)
  have hown : s.vm.findClass RL = some m.cls := findClass_of_methodNamed B.named
  have htab := vx_table (x := yL_open) B (hts0 _ List.mem_cons_self)
  have hA : ∀ q : Nat, s.heap.size ≤ q → zAo b M.2.2.2 ao s.heap.size q := fun q h => Or.inr (Or.inr h)
  have hY : zY D T b false true M.2.2.2 M s s.heap (zAo b M.2.2.2 ao s.heap.size) [] := ⟨hP, zD_of (fun r h1 h2 => Or.inl ⟨by omega, by omega⟩), va_S.rf, fun hg => absurd hg Bool.false_ne_true, ⟨fun _ => hU, fun hg => absurd hg Bool.false_ne_true, hNw⟩, fun _ => rfl⟩
  have hAo : zAo b M.2.2.2 ao s.heap.size ao := Or.inr (Or.inl rfl)
  have hcat : zc1 [zr b x0, .int x1, .ref ao] := ⟨zr_cat _ _, rfl, rfl, trivial⟩
  have hlen : (lg_sl [zr b x0, .int x1, .ref ao]).length ≤ 4 := by rw [zarg_len _ hcat]; exact Nat.le_of_ble_eq_true rfl
  have hl := lv_entry ([zr b x0, .int x1, .ref ao]) (n := 4) hlen
  rw [lg_entry_eq]
  rw [zarg_eq _ 0 hcat] at hl
  generalize (lg_sl [zr b x0, .int x1, .ref ao] ++ List.replicate (4 - (lg_sl [zr b x0, .int x1, .ref ao]).length) Slot.unset).toArray = ls at hl ⊢
  have hl : lv_has ls 4 [(0, zr b x0), (1, .int x1), (2, .ref ao)] := hl
  rw [hx0] at hl
  refine lv_aload_n hx hb dL_open_0 rfl (lv_at hl 2 rfl) ?_
  refine lv_iconst (v := 0) hx hb dL_open_1 (by decide) ?_
  refine lv_aload_n hx hb dL_open_2 rfl (lv_at hl 0 rfl) ?_
  refine lv_iload_n hx hb dL_open_3 rfl (lv_at hl 1 rfl) ?_
  refine zH_calli hx hb hml hown hts rfl hK hA hY hO hao hl (As := [.int x1]) (rest := [.int 0, .ref ao]) (vX7_open l hl0 D T b x0 x1 M _ e9) zm_yX7_open zl_RL_52 zi_yX7_open ze_yX7_open zcI7 g1 rfl (by simp [Value.category]) (by decide) (Nat.le_of_ble_eq_true rfl) (Nat.le_of_ble_eq_true rfl) dL_open_4 (by rw [hx0]; rfl) (fun hne H1 locs1 q9 ce hY1 hO1 hce hcv hcl => ?_) (fun h0 H1 locs1 hY1 hO1 => ?_)
  · replace h := z_f hne h
    by_cases c0 : o1.1 = 1
    · replace h := z_t c0 h
      cases h
      rw [c0] at hcl
      refine zH_catch (i := 1) (j := 0) hown hts hU.2.2.1 hNC htab [1] rfl rfl (fun k hk => absurd hk (Nat.not_lt_zero _)) ⟨by decide, by decide⟩ (fun k q i9 f1 f2 => by match k, f1, f2 with | 0, f1, f2 => cases f1; cases f2; exact ⟨by decide, by decide, by decide, zk_RL_13⟩ | n + 1, f1, _ => simp at f1) zcast1 hce hcv hcl (fun x hx9 => ?_)
      cases hx9
      refine lv_astore_n hx hb dL_open_12 rfl hl (by decide) rfl (fun ls hl => ?_)
      refine lv_iconst (v := 1) hx hb dL_open_13 (by decide) ?_
      refine W.widen (k := 1) (n := 6) (by decide) (by decide) ?_
      exact W.iret (v := 1) hx hb hr (fun t ht hW => ⟨⟨1, (), rfl, by decide, by rw [ht]; exact hY1.1, by rw [ht]; exact hO1, va_K.moved hW.alike hK, hY1.2.2.2.2.2 rfl⟩, hY1.2.2.1.F ht⟩) hY1.2.2.1.2.2 dL_open_14 hlocks
    · replace h := z_f c0 h
      cases h
  · replace h := z_t h0 h
    cases h
    have hao1 : b + o1.2.2.2.2.2 < ao := by rw [hY1.2.2.2.2.2 rfl]; exact hao
    refine lv_i2l hx hb dL_open_7 rfl ?_
    refine zH_out hx hb hK hY1 hO1 hao1 hAo dL_open_8 (fun H2 locs2 hY2 hO2 => ?_)
    refine lv_goto (tgt := 15) hx hb dL_open_9 (by decide) ?_
    refine lv_iconst (v := 0) hx hb dL_open_15 (by decide) ?_
    refine W.widen (k := 1) (n := 6) (by decide) (by decide) ?_
    exact W.iret (v := 0) hx hb hr (fun t ht hW => ⟨⟨0, (), rfl, rfl, by rw [ht]; exact hY2.1, by rw [ht]; exact hO2, va_K.moved hW.alike hK, hY2.2.2.2.2.2 rfl⟩, hY2.2.2.1.F ht⟩) hY2.2.2.1.2.2 dL_open_16 hlocks
def fL_current (x0 : Nat) (x1 : Int32) (M : zM) (w : Nat → Int64) : Option (Int32 × zM × (Nat → Int64)) := zg (zk M x0 = 7) (zhS [1] w (fun r => vp_updL w 0 r.toInt64) (fX7_current x0 x1 M))
theorem zg_yL_current : (Cond.codeWith yL_current cL_current 4 (some .int) [(0, 9, 12, 13)]) ∈ gtb := gi 775 (by decide +kernel) rfl
theorem zs_yL_current : (Cond.static yL_current) ∈ gtb := gi 774 (by decide +kernel) rfl
theorem zp_yL_current : plainName yL_current.cls = true := by decide +kernel
set_option maxHeartbeats 4000000 in
set_option maxRecDepth 100000 in
theorem vL_current (l : Launch) (hl0 : l.stackTraces = false) (D : va_G) (T : Nat → ClassId) (b ao : Nat) (x0 : Nat) (x1 : Int32) (M : zM) (w : Nat → Int64) (k : Int32) (M' : zM) (w' : Nat → Int64) (hao : b + M.2.2.2 < ao) (h : fL_current x0 x1 M w = some (k, M', w')) : zhMet l D T b ao yL_current cL_current 4 [(0, 9, 12, 13)] 8 1 6 [zr b x0, .int x1, .ref ao] M w k M' w' := by
  unfold fL_current at h
  obtain ⟨g1, h⟩ := zg_of h
  obtain ⟨o1, e9, h⟩ := zhS_of h
  have hx0 : zr b x0 = .ref (b + x0) := zr_pos (zk_1 g1 (by decide)).1
  intro sz
  refine va_MetW zp_yL_current rfl ?_
  intro p e s m args below meth c s₁ B hml hv
  obtain ⟨rfl, hsz, hP, hO, hK, hU, hNw, hNC⟩ := hv
  subst hsz
  have hx := B.exec
  have hb := B.bytes
  have hr := B.returns
  have hlocks := B.notSynchronized
  have hts0 := atoms_spec (ws := Cond.codeWith yL_current cL_current 4 (some .int) [(0, 9, 12, 13)] :: gtb) B.pre
  have hts : ∀ w ∈ gtb, w.before _ s = true := fun w hw => hts0 w (List.mem_cons_of_mem _ hw)
  have hown : s.vm.findClass RL = some m.cls := findClass_of_methodNamed B.named
  have htab := vx_table (x := yL_current) B (hts0 _ List.mem_cons_self)
  have hA : ∀ q : Nat, s.heap.size ≤ q → zAo b M.2.2.2 ao s.heap.size q := fun q h => Or.inr (Or.inr h)
  have hY : zY D T b false true M.2.2.2 M s s.heap (zAo b M.2.2.2 ao s.heap.size) [] := ⟨hP, zD_of (fun r h1 h2 => Or.inl ⟨by omega, by omega⟩), va_S.rf, fun hg => absurd hg Bool.false_ne_true, ⟨fun _ => hU, fun hg => absurd hg Bool.false_ne_true, hNw⟩, fun _ => rfl⟩
  have hAo : zAo b M.2.2.2 ao s.heap.size ao := Or.inr (Or.inl rfl)
  have hcat : zc1 [zr b x0, .int x1, .ref ao] := ⟨zr_cat _ _, rfl, rfl, trivial⟩
  have hlen : (lg_sl [zr b x0, .int x1, .ref ao]).length ≤ 4 := by rw [zarg_len _ hcat]; exact Nat.le_of_ble_eq_true rfl
  have hl := lv_entry ([zr b x0, .int x1, .ref ao]) (n := 4) hlen
  rw [lg_entry_eq]
  rw [zarg_eq _ 0 hcat] at hl
  generalize (lg_sl [zr b x0, .int x1, .ref ao] ++ List.replicate (4 - (lg_sl [zr b x0, .int x1, .ref ao]).length) Slot.unset).toArray = ls at hl ⊢
  have hl : lv_has ls 4 [(0, zr b x0), (1, .int x1), (2, .ref ao)] := hl
  rw [hx0] at hl
  refine lv_aload_n hx hb dL_current_0 rfl (lv_at hl 2 rfl) ?_
  refine lv_iconst (v := 0) hx hb dL_current_1 (by decide) ?_
  refine lv_aload_n hx hb dL_current_2 rfl (lv_at hl 0 rfl) ?_
  refine lv_iload_n hx hb dL_current_3 rfl (lv_at hl 1 rfl) ?_
  refine zH_calli hx hb hml hown hts rfl hK hA hY hO hao hl (As := [.int x1]) (rest := [.int 0, .ref ao]) (vX7_current l hl0 D T b x0 x1 M _ e9) zm_yX7_current zl_RL_55 zi_yX7_current ze_yX7_current zcI7 g1 rfl (by simp [Value.category]) (by decide) (Nat.le_of_ble_eq_true rfl) (Nat.le_of_ble_eq_true rfl) dL_current_4 (by rw [hx0]; rfl) (fun hne H1 locs1 q9 ce hY1 hO1 hce hcv hcl => ?_) (fun h0 H1 locs1 hY1 hO1 => ?_)
  · replace h := z_f hne h
    by_cases c0 : o1.1 = 1
    · replace h := z_t c0 h
      cases h
      rw [c0] at hcl
      refine zH_catch (i := 1) (j := 0) hown hts hU.2.2.1 hNC htab [1] rfl rfl (fun k hk => absurd hk (Nat.not_lt_zero _)) ⟨by decide, by decide⟩ (fun k q i9 f1 f2 => by match k, f1, f2 with | 0, f1, f2 => cases f1; cases f2; exact ⟨by decide, by decide, by decide, zk_RL_13⟩ | n + 1, f1, _ => simp at f1) zcast1 hce hcv hcl (fun x hx9 => ?_)
      cases hx9
      refine lv_astore_n hx hb dL_current_12 rfl hl (by decide) rfl (fun ls hl => ?_)
      refine lv_iconst (v := 1) hx hb dL_current_13 (by decide) ?_
      refine W.widen (k := 1) (n := 6) (by decide) (by decide) ?_
      exact W.iret (v := 1) hx hb hr (fun t ht hW => ⟨⟨1, (), rfl, by decide, by rw [ht]; exact hY1.1, by rw [ht]; exact hO1, va_K.moved hW.alike hK, hY1.2.2.2.2.2 rfl⟩, hY1.2.2.1.F ht⟩) hY1.2.2.1.2.2 dL_current_14 hlocks
    · replace h := z_f c0 h
      cases h
  · replace h := z_t h0 h
    cases h
    have hao1 : b + o1.2.2.2.2.2 < ao := by rw [hY1.2.2.2.2.2 rfl]; exact hao
    refine lv_i2l hx hb dL_current_7 rfl ?_
    refine zH_out hx hb hK hY1 hO1 hao1 hAo dL_current_8 (fun H2 locs2 hY2 hO2 => ?_)
    refine lv_goto (tgt := 15) hx hb dL_current_9 (by decide) ?_
    refine lv_iconst (v := 0) hx hb dL_current_15 (by decide) ?_
    refine W.widen (k := 1) (n := 6) (by decide) (by decide) ?_
    exact W.iret (v := 0) hx hb hr (fun t ht hW => ⟨⟨0, (), rfl, rfl, by rw [ht]; exact hY2.1, by rw [ht]; exact hO2, va_K.moved hW.alike hK, hY2.2.2.2.2.2 rfl⟩, hY2.2.2.1.F ht⟩) hY2.2.2.1.2.2 dL_current_16 hlocks
def fL_next (x0 : Nat) (x1 : Int32) (M : zM) (w : Nat → Int64) : Option (Int32 × zM × (Nat → Int64)) := zg (zk M x0 = 7) (zhS [1] w (fun r => vp_updL w 0 r.toInt64) (fX7_next x0 x1 M))
theorem zg_yL_next : (Cond.codeWith yL_next cL_next 4 (some .int) [(0, 9, 12, 13)]) ∈ gtb := gi 783 (by decide +kernel) rfl
theorem zs_yL_next : (Cond.static yL_next) ∈ gtb := gi 782 (by decide +kernel) rfl
theorem zp_yL_next : plainName yL_next.cls = true := by decide +kernel
set_option maxHeartbeats 4000000 in
set_option maxRecDepth 100000 in
theorem vL_next (l : Launch) (hl0 : l.stackTraces = false) (D : va_G) (T : Nat → ClassId) (b ao : Nat) (x0 : Nat) (x1 : Int32) (M : zM) (w : Nat → Int64) (k : Int32) (M' : zM) (w' : Nat → Int64) (hao : b + M.2.2.2 < ao) (h : fL_next x0 x1 M w = some (k, M', w')) : zhMet l D T b ao yL_next cL_next 4 [(0, 9, 12, 13)] 8 1 6 [zr b x0, .int x1, .ref ao] M w k M' w' := by
  unfold fL_next at h
  obtain ⟨g1, h⟩ := zg_of h
  obtain ⟨o1, e9, h⟩ := zhS_of h
  have hx0 : zr b x0 = .ref (b + x0) := zr_pos (zk_1 g1 (by decide)).1
  intro sz
  refine va_MetW zp_yL_next rfl ?_
  intro p e s m args below meth c s₁ B hml hv
  obtain ⟨rfl, hsz, hP, hO, hK, hU, hNw, hNC⟩ := hv
  subst hsz
  have hx := B.exec
  have hb := B.bytes
  have hr := B.returns
  have hlocks := B.notSynchronized
  have hts0 := atoms_spec (ws := Cond.codeWith yL_next cL_next 4 (some .int) [(0, 9, 12, 13)] :: gtb) B.pre
  have hts : ∀ w ∈ gtb, w.before _ s = true := fun w hw => hts0 w (List.mem_cons_of_mem _ hw)
  have hown : s.vm.findClass RL = some m.cls := findClass_of_methodNamed B.named
  have htab := vx_table (x := yL_next) B (hts0 _ List.mem_cons_self)
  have hA : ∀ q : Nat, s.heap.size ≤ q → zAo b M.2.2.2 ao s.heap.size q := fun q h => Or.inr (Or.inr h)
  have hY : zY D T b false true M.2.2.2 M s s.heap (zAo b M.2.2.2 ao s.heap.size) [] := ⟨hP, zD_of (fun r h1 h2 => Or.inl ⟨by omega, by omega⟩), va_S.rf, fun hg => absurd hg Bool.false_ne_true, ⟨fun _ => hU, fun hg => absurd hg Bool.false_ne_true, hNw⟩, fun _ => rfl⟩
  have hAo : zAo b M.2.2.2 ao s.heap.size ao := Or.inr (Or.inl rfl)
  have hcat : zc1 [zr b x0, .int x1, .ref ao] := ⟨zr_cat _ _, rfl, rfl, trivial⟩
  have hlen : (lg_sl [zr b x0, .int x1, .ref ao]).length ≤ 4 := by rw [zarg_len _ hcat]; exact Nat.le_of_ble_eq_true rfl
  have hl := lv_entry ([zr b x0, .int x1, .ref ao]) (n := 4) hlen
  rw [lg_entry_eq]
  rw [zarg_eq _ 0 hcat] at hl
  generalize (lg_sl [zr b x0, .int x1, .ref ao] ++ List.replicate (4 - (lg_sl [zr b x0, .int x1, .ref ao]).length) Slot.unset).toArray = ls at hl ⊢
  have hl : lv_has ls 4 [(0, zr b x0), (1, .int x1), (2, .ref ao)] := hl
  rw [hx0] at hl
  refine lv_aload_n hx hb dL_next_0 rfl (lv_at hl 2 rfl) ?_
  refine lv_iconst (v := 0) hx hb dL_next_1 (by decide) ?_
  refine lv_aload_n hx hb dL_next_2 rfl (lv_at hl 0 rfl) ?_
  refine lv_iload_n hx hb dL_next_3 rfl (lv_at hl 1 rfl) ?_
  refine zH_calli hx hb hml hown hts rfl hK hA hY hO hao hl (As := [.int x1]) (rest := [.int 0, .ref ao]) (vX7_next l hl0 D T b x0 x1 M _ e9) zm_yX7_next zl_RL_58 zi_yX7_next ze_yX7_next zcI7 g1 rfl (by simp [Value.category]) (by decide) (Nat.le_of_ble_eq_true rfl) (Nat.le_of_ble_eq_true rfl) dL_next_4 (by rw [hx0]; rfl) (fun hne H1 locs1 q9 ce hY1 hO1 hce hcv hcl => ?_) (fun h0 H1 locs1 hY1 hO1 => ?_)
  · replace h := z_f hne h
    by_cases c0 : o1.1 = 1
    · replace h := z_t c0 h
      cases h
      rw [c0] at hcl
      refine zH_catch (i := 1) (j := 0) hown hts hU.2.2.1 hNC htab [1] rfl rfl (fun k hk => absurd hk (Nat.not_lt_zero _)) ⟨by decide, by decide⟩ (fun k q i9 f1 f2 => by match k, f1, f2 with | 0, f1, f2 => cases f1; cases f2; exact ⟨by decide, by decide, by decide, zk_RL_13⟩ | n + 1, f1, _ => simp at f1) zcast1 hce hcv hcl (fun x hx9 => ?_)
      cases hx9
      refine lv_astore_n hx hb dL_next_12 rfl hl (by decide) rfl (fun ls hl => ?_)
      refine lv_iconst (v := 1) hx hb dL_next_13 (by decide) ?_
      refine W.widen (k := 1) (n := 6) (by decide) (by decide) ?_
      exact W.iret (v := 1) hx hb hr (fun t ht hW => ⟨⟨1, (), rfl, by decide, by rw [ht]; exact hY1.1, by rw [ht]; exact hO1, va_K.moved hW.alike hK, hY1.2.2.2.2.2 rfl⟩, hY1.2.2.1.F ht⟩) hY1.2.2.1.2.2 dL_next_14 hlocks
    · replace h := z_f c0 h
      cases h
  · replace h := z_t h0 h
    cases h
    have hao1 : b + o1.2.2.2.2.2 < ao := by rw [hY1.2.2.2.2.2 rfl]; exact hao
    refine lv_i2l hx hb dL_next_7 rfl ?_
    refine zH_out hx hb hK hY1 hO1 hao1 hAo dL_next_8 (fun H2 locs2 hY2 hO2 => ?_)
    refine lv_goto (tgt := 15) hx hb dL_next_9 (by decide) ?_
    refine lv_iconst (v := 0) hx hb dL_next_15 (by decide) ?_
    refine W.widen (k := 1) (n := 6) (by decide) (by decide) ?_
    exact W.iret (v := 0) hx hb hr (fun t ht hW => ⟨⟨0, (), rfl, rfl, by rw [ht]; exact hY2.1, by rw [ht]; exact hO2, va_K.moved hW.alike hK, hY2.2.2.2.2.2 rfl⟩, hY2.2.2.1.F ht⟩) hY2.2.2.1.2.2 dL_next_16 hlocks
def fL_kind (x0 : Nat) (x1 : Int32) (M : zM) (w : Nat → Int64) : Option (Int32 × zM × (Nat → Int64)) := zg (zk M x0 = 7) (zhS [1] w (fun r => vp_updL w 0 r.toInt64) (fX7_kind x0 x1 M))
theorem zg_yL_kind : (Cond.codeWith yL_kind cL_kind 4 (some .int) [(0, 9, 12, 13)]) ∈ gtb := gi 791 (by decide +kernel) rfl
theorem zs_yL_kind : (Cond.static yL_kind) ∈ gtb := gi 790 (by decide +kernel) rfl
theorem zp_yL_kind : plainName yL_kind.cls = true := by decide +kernel
set_option maxHeartbeats 4000000 in
set_option maxRecDepth 100000 in
theorem vL_kind (l : Launch) (hl0 : l.stackTraces = false) (D : va_G) (T : Nat → ClassId) (b ao : Nat) (x0 : Nat) (x1 : Int32) (M : zM) (w : Nat → Int64) (k : Int32) (M' : zM) (w' : Nat → Int64) (hao : b + M.2.2.2 < ao) (h : fL_kind x0 x1 M w = some (k, M', w')) : zhMet l D T b ao yL_kind cL_kind 4 [(0, 9, 12, 13)] 8 1 6 [zr b x0, .int x1, .ref ao] M w k M' w' := by
  unfold fL_kind at h
  obtain ⟨g1, h⟩ := zg_of h
  obtain ⟨o1, e9, h⟩ := zhS_of h
  have hx0 : zr b x0 = .ref (b + x0) := zr_pos (zk_1 g1 (by decide)).1
  intro sz
  refine va_MetW zp_yL_kind rfl ?_
  intro p e s m args below meth c s₁ B hml hv
  obtain ⟨rfl, hsz, hP, hO, hK, hU, hNw, hNC⟩ := hv
  subst hsz
  have hx := B.exec
  have hb := B.bytes
  have hr := B.returns
  have hlocks := B.notSynchronized
  have hts0 := atoms_spec (ws := Cond.codeWith yL_kind cL_kind 4 (some .int) [(0, 9, 12, 13)] :: gtb) B.pre
  have hts : ∀ w ∈ gtb, w.before _ s = true := fun w hw => hts0 w (List.mem_cons_of_mem _ hw)
  have hown : s.vm.findClass RL = some m.cls := findClass_of_methodNamed B.named
  have htab := vx_table (x := yL_kind) B (hts0 _ List.mem_cons_self)
  have hA : ∀ q : Nat, s.heap.size ≤ q → zAo b M.2.2.2 ao s.heap.size q := fun q h => Or.inr (Or.inr h)
  have hY : zY D T b false true M.2.2.2 M s s.heap (zAo b M.2.2.2 ao s.heap.size) [] := ⟨hP, zD_of (fun r h1 h2 => Or.inl ⟨by omega, by omega⟩), va_S.rf, fun hg => absurd hg Bool.false_ne_true, ⟨fun _ => hU, fun hg => absurd hg Bool.false_ne_true, hNw⟩, fun _ => rfl⟩
  have hAo : zAo b M.2.2.2 ao s.heap.size ao := Or.inr (Or.inl rfl)
  have hcat : zc1 [zr b x0, .int x1, .ref ao] := ⟨zr_cat _ _, rfl, rfl, trivial⟩
  have hlen : (lg_sl [zr b x0, .int x1, .ref ao]).length ≤ 4 := by rw [zarg_len _ hcat]; exact Nat.le_of_ble_eq_true rfl
  have hl := lv_entry ([zr b x0, .int x1, .ref ao]) (n := 4) hlen
  rw [lg_entry_eq]
  rw [zarg_eq _ 0 hcat] at hl
  generalize (lg_sl [zr b x0, .int x1, .ref ao] ++ List.replicate (4 - (lg_sl [zr b x0, .int x1, .ref ao]).length) Slot.unset).toArray = ls at hl ⊢
  have hl : lv_has ls 4 [(0, zr b x0), (1, .int x1), (2, .ref ao)] := hl
  rw [hx0] at hl
  refine lv_aload_n hx hb dL_kind_0 rfl (lv_at hl 2 rfl) ?_
  refine lv_iconst (v := 0) hx hb dL_kind_1 (by decide) ?_
  refine lv_aload_n hx hb dL_kind_2 rfl (lv_at hl 0 rfl) ?_
  refine lv_iload_n hx hb dL_kind_3 rfl (lv_at hl 1 rfl) ?_
  refine zH_calli hx hb hml hown hts rfl hK hA hY hO hao hl (As := [.int x1]) (rest := [.int 0, .ref ao]) (vX7_kind l hl0 D T b x0 x1 M _ e9) zm_yX7_kind zl_RL_61 zi_yX7_kind ze_yX7_kind zcI7 g1 rfl (by simp [Value.category]) (by decide) (Nat.le_of_ble_eq_true rfl) (Nat.le_of_ble_eq_true rfl) dL_kind_4 (by rw [hx0]; rfl) (fun hne H1 locs1 q9 ce hY1 hO1 hce hcv hcl => ?_) (fun h0 H1 locs1 hY1 hO1 => ?_)
  · replace h := z_f hne h
    by_cases c0 : o1.1 = 1
    · replace h := z_t c0 h
      cases h
      rw [c0] at hcl
      refine zH_catch (i := 1) (j := 0) hown hts hU.2.2.1 hNC htab [1] rfl rfl (fun k hk => absurd hk (Nat.not_lt_zero _)) ⟨by decide, by decide⟩ (fun k q i9 f1 f2 => by match k, f1, f2 with | 0, f1, f2 => cases f1; cases f2; exact ⟨by decide, by decide, by decide, zk_RL_13⟩ | n + 1, f1, _ => simp at f1) zcast1 hce hcv hcl (fun x hx9 => ?_)
      cases hx9
      refine lv_astore_n hx hb dL_kind_12 rfl hl (by decide) rfl (fun ls hl => ?_)
      refine lv_iconst (v := 1) hx hb dL_kind_13 (by decide) ?_
      refine W.widen (k := 1) (n := 6) (by decide) (by decide) ?_
      exact W.iret (v := 1) hx hb hr (fun t ht hW => ⟨⟨1, (), rfl, by decide, by rw [ht]; exact hY1.1, by rw [ht]; exact hO1, va_K.moved hW.alike hK, hY1.2.2.2.2.2 rfl⟩, hY1.2.2.1.F ht⟩) hY1.2.2.1.2.2 dL_kind_14 hlocks
    · replace h := z_f c0 h
      cases h
  · replace h := z_t h0 h
    cases h
    have hao1 : b + o1.2.2.2.2.2 < ao := by rw [hY1.2.2.2.2.2 rfl]; exact hao
    refine lv_i2l hx hb dL_kind_7 rfl ?_
    refine zH_out hx hb hK hY1 hO1 hao1 hAo dL_kind_8 (fun H2 locs2 hY2 hO2 => ?_)
    refine lv_goto (tgt := 15) hx hb dL_kind_9 (by decide) ?_
    refine lv_iconst (v := 0) hx hb dL_kind_15 (by decide) ?_
    refine W.widen (k := 1) (n := 6) (by decide) (by decide) ?_
    exact W.iret (v := 0) hx hb hr (fun t ht hW => ⟨⟨0, (), rfl, rfl, by rw [ht]; exact hY2.1, by rw [ht]; exact hO2, va_K.moved hW.alike hK, hY2.2.2.2.2.2 rfl⟩, hY2.2.2.1.F ht⟩) hY2.2.2.1.2.2 dL_kind_16 hlocks
def fL_parent (x0 : Nat) (x1 : Int32) (M : zM) (w : Nat → Int64) : Option (Int32 × zM × (Nat → Int64)) := zg (zk M x0 = 7) (zhS [1] w (fun r => vp_updL w 0 r.toInt64) (fX7_parent x0 x1 M))
theorem zg_yL_parent : (Cond.codeWith yL_parent cL_parent 4 (some .int) [(0, 9, 12, 13)]) ∈ gtb := gi 798 (by decide +kernel) rfl
theorem zs_yL_parent : (Cond.static yL_parent) ∈ gtb := gi 797 (by decide +kernel) rfl
theorem zp_yL_parent : plainName yL_parent.cls = true := by decide +kernel
set_option maxHeartbeats 4000000 in
set_option maxRecDepth 100000 in
theorem vL_parent (l : Launch) (hl0 : l.stackTraces = false) (D : va_G) (T : Nat → ClassId) (b ao : Nat) (x0 : Nat) (x1 : Int32) (M : zM) (w : Nat → Int64) (k : Int32) (M' : zM) (w' : Nat → Int64) (hao : b + M.2.2.2 < ao) (h : fL_parent x0 x1 M w = some (k, M', w')) : zhMet l D T b ao yL_parent cL_parent 4 [(0, 9, 12, 13)] 8 1 6 [zr b x0, .int x1, .ref ao] M w k M' w' := by
  unfold fL_parent at h
  obtain ⟨g1, h⟩ := zg_of h
  obtain ⟨o1, e9, h⟩ := zhS_of h
  have hx0 : zr b x0 = .ref (b + x0) := zr_pos (zk_1 g1 (by decide)).1
  intro sz
  refine va_MetW zp_yL_parent rfl ?_
  intro p e s m args below meth c s₁ B hml hv
  obtain ⟨rfl, hsz, hP, hO, hK, hU, hNw, hNC⟩ := hv
  subst hsz
  have hx := B.exec
  have hb := B.bytes
  have hr := B.returns
  have hlocks := B.notSynchronized
  have hts0 := atoms_spec (ws := Cond.codeWith yL_parent cL_parent 4 (some .int) [(0, 9, 12, 13)] :: gtb) B.pre
  have hts : ∀ w ∈ gtb, w.before _ s = true := fun w hw => hts0 w (List.mem_cons_of_mem _ hw)
  have hown : s.vm.findClass RL = some m.cls := findClass_of_methodNamed B.named
  have htab := vx_table (x := yL_parent) B (hts0 _ List.mem_cons_self)
  have hA : ∀ q : Nat, s.heap.size ≤ q → zAo b M.2.2.2 ao s.heap.size q := fun q h => Or.inr (Or.inr h)
  have hY : zY D T b false true M.2.2.2 M s s.heap (zAo b M.2.2.2 ao s.heap.size) [] := ⟨hP, zD_of (fun r h1 h2 => Or.inl ⟨by omega, by omega⟩), va_S.rf, fun hg => absurd hg Bool.false_ne_true, ⟨fun _ => hU, fun hg => absurd hg Bool.false_ne_true, hNw⟩, fun _ => rfl⟩
  have hAo : zAo b M.2.2.2 ao s.heap.size ao := Or.inr (Or.inl rfl)
  have hcat : zc1 [zr b x0, .int x1, .ref ao] := ⟨zr_cat _ _, rfl, rfl, trivial⟩
  have hlen : (lg_sl [zr b x0, .int x1, .ref ao]).length ≤ 4 := by rw [zarg_len _ hcat]; exact Nat.le_of_ble_eq_true rfl
  have hl := lv_entry ([zr b x0, .int x1, .ref ao]) (n := 4) hlen
  rw [lg_entry_eq]
  rw [zarg_eq _ 0 hcat] at hl
  generalize (lg_sl [zr b x0, .int x1, .ref ao] ++ List.replicate (4 - (lg_sl [zr b x0, .int x1, .ref ao]).length) Slot.unset).toArray = ls at hl ⊢
  have hl : lv_has ls 4 [(0, zr b x0), (1, .int x1), (2, .ref ao)] := hl
  rw [hx0] at hl
  refine lv_aload_n hx hb dL_parent_0 rfl (lv_at hl 2 rfl) ?_
  refine lv_iconst (v := 0) hx hb dL_parent_1 (by decide) ?_
  refine lv_aload_n hx hb dL_parent_2 rfl (lv_at hl 0 rfl) ?_
  refine lv_iload_n hx hb dL_parent_3 rfl (lv_at hl 1 rfl) ?_
  refine zH_calli hx hb hml hown hts rfl hK hA hY hO hao hl (As := [.int x1]) (rest := [.int 0, .ref ao]) (vX7_parent l hl0 D T b x0 x1 M _ e9) zm_yX7_parent zl_RL_64 zi_yX7_parent ze_yX7_parent zcI7 g1 rfl (by simp [Value.category]) (by decide) (Nat.le_of_ble_eq_true rfl) (Nat.le_of_ble_eq_true rfl) dL_parent_4 (by rw [hx0]; rfl) (fun hne H1 locs1 q9 ce hY1 hO1 hce hcv hcl => ?_) (fun h0 H1 locs1 hY1 hO1 => ?_)
  · replace h := z_f hne h
    by_cases c0 : o1.1 = 1
    · replace h := z_t c0 h
      cases h
      rw [c0] at hcl
      refine zH_catch (i := 1) (j := 0) hown hts hU.2.2.1 hNC htab [1] rfl rfl (fun k hk => absurd hk (Nat.not_lt_zero _)) ⟨by decide, by decide⟩ (fun k q i9 f1 f2 => by match k, f1, f2 with | 0, f1, f2 => cases f1; cases f2; exact ⟨by decide, by decide, by decide, zk_RL_13⟩ | n + 1, f1, _ => simp at f1) zcast1 hce hcv hcl (fun x hx9 => ?_)
      cases hx9
      refine lv_astore_n hx hb dL_parent_12 rfl hl (by decide) rfl (fun ls hl => ?_)
      refine lv_iconst (v := 1) hx hb dL_parent_13 (by decide) ?_
      refine W.widen (k := 1) (n := 6) (by decide) (by decide) ?_
      exact W.iret (v := 1) hx hb hr (fun t ht hW => ⟨⟨1, (), rfl, by decide, by rw [ht]; exact hY1.1, by rw [ht]; exact hO1, va_K.moved hW.alike hK, hY1.2.2.2.2.2 rfl⟩, hY1.2.2.1.F ht⟩) hY1.2.2.1.2.2 dL_parent_14 hlocks
    · replace h := z_f c0 h
      cases h
  · replace h := z_t h0 h
    cases h
    have hao1 : b + o1.2.2.2.2.2 < ao := by rw [hY1.2.2.2.2.2 rfl]; exact hao
    refine lv_i2l hx hb dL_parent_7 rfl ?_
    refine zH_out hx hb hK hY1 hO1 hao1 hAo dL_parent_8 (fun H2 locs2 hY2 hO2 => ?_)
    refine lv_goto (tgt := 15) hx hb dL_parent_9 (by decide) ?_
    refine lv_iconst (v := 0) hx hb dL_parent_15 (by decide) ?_
    refine W.widen (k := 1) (n := 6) (by decide) (by decide) ?_
    exact W.iret (v := 0) hx hb hr (fun t ht hW => ⟨⟨0, (), rfl, rfl, by rw [ht]; exact hY2.1, by rw [ht]; exact hO2, va_K.moved hW.alike hK, hY2.2.2.2.2.2 rfl⟩, hY2.2.2.1.F ht⟩) hY2.2.2.1.2.2 dL_parent_16 hlocks
def fL_letter (x0 : Nat) (x1 : Int32) (M : zM) (w : Nat → Int64) : Option (Int32 × zM × (Nat → Int64)) := zg (zk M x0 = 7) (zhS [1] w (fun r => vp_updL w 0 r.toInt64) (fX7_letter x0 x1 M))
theorem zg_yL_letter : (Cond.codeWith yL_letter cL_letter 4 (some .int) [(0, 9, 12, 13)]) ∈ gtb := gi 805 (by decide +kernel) rfl
theorem zs_yL_letter : (Cond.static yL_letter) ∈ gtb := gi 804 (by decide +kernel) rfl
theorem zp_yL_letter : plainName yL_letter.cls = true := by decide +kernel
set_option maxHeartbeats 4000000 in
set_option maxRecDepth 100000 in
theorem vL_letter (l : Launch) (hl0 : l.stackTraces = false) (D : va_G) (T : Nat → ClassId) (b ao : Nat) (x0 : Nat) (x1 : Int32) (M : zM) (w : Nat → Int64) (k : Int32) (M' : zM) (w' : Nat → Int64) (hao : b + M.2.2.2 < ao) (h : fL_letter x0 x1 M w = some (k, M', w')) : zhMet l D T b ao yL_letter cL_letter 4 [(0, 9, 12, 13)] 8 1 6 [zr b x0, .int x1, .ref ao] M w k M' w' := by
  unfold fL_letter at h
  obtain ⟨g1, h⟩ := zg_of h
  obtain ⟨o1, e9, h⟩ := zhS_of h
  have hx0 : zr b x0 = .ref (b + x0) := zr_pos (zk_1 g1 (by decide)).1
  intro sz
  refine va_MetW zp_yL_letter rfl ?_
  intro p e s m args below meth c s₁ B hml hv
  obtain ⟨rfl, hsz, hP, hO, hK, hU, hNw, hNC⟩ := hv
  subst hsz
  have hx := B.exec
  have hb := B.bytes
  have hr := B.returns
  have hlocks := B.notSynchronized
  have hts0 := atoms_spec (ws := Cond.codeWith yL_letter cL_letter 4 (some .int) [(0, 9, 12, 13)] :: gtb) B.pre
  have hts : ∀ w ∈ gtb, w.before _ s = true := fun w hw => hts0 w (List.mem_cons_of_mem _ hw)
  have hown : s.vm.findClass RL = some m.cls := findClass_of_methodNamed B.named
  have htab := vx_table (x := yL_letter) B (hts0 _ List.mem_cons_self)
  have hA : ∀ q : Nat, s.heap.size ≤ q → zAo b M.2.2.2 ao s.heap.size q := fun q h => Or.inr (Or.inr h)
  have hY : zY D T b false true M.2.2.2 M s s.heap (zAo b M.2.2.2 ao s.heap.size) [] := ⟨hP, zD_of (fun r h1 h2 => Or.inl ⟨by omega, by omega⟩), va_S.rf, fun hg => absurd hg Bool.false_ne_true, ⟨fun _ => hU, fun hg => absurd hg Bool.false_ne_true, hNw⟩, fun _ => rfl⟩
  have hAo : zAo b M.2.2.2 ao s.heap.size ao := Or.inr (Or.inl rfl)
  have hcat : zc1 [zr b x0, .int x1, .ref ao] := ⟨zr_cat _ _, rfl, rfl, trivial⟩
  have hlen : (lg_sl [zr b x0, .int x1, .ref ao]).length ≤ 4 := by rw [zarg_len _ hcat]; exact Nat.le_of_ble_eq_true rfl
  have hl := lv_entry ([zr b x0, .int x1, .ref ao]) (n := 4) hlen
  rw [lg_entry_eq]
  rw [zarg_eq _ 0 hcat] at hl
  generalize (lg_sl [zr b x0, .int x1, .ref ao] ++ List.replicate (4 - (lg_sl [zr b x0, .int x1, .ref ao]).length) Slot.unset).toArray = ls at hl ⊢
  have hl : lv_has ls 4 [(0, zr b x0), (1, .int x1), (2, .ref ao)] := hl
  rw [hx0] at hl
  refine lv_aload_n hx hb dL_letter_0 rfl (lv_at hl 2 rfl) ?_
  refine lv_iconst (v := 0) hx hb dL_letter_1 (by decide) ?_
  refine lv_aload_n hx hb dL_letter_2 rfl (lv_at hl 0 rfl) ?_
  refine lv_iload_n hx hb dL_letter_3 rfl (lv_at hl 1 rfl) ?_
  refine zH_calli hx hb hml hown hts rfl hK hA hY hO hao hl (As := [.int x1]) (rest := [.int 0, .ref ao]) (vX7_letter l hl0 D T b x0 x1 M _ e9) zm_yX7_letter zl_RL_67 zi_yX7_letter ze_yX7_letter zcI7 g1 rfl (by simp [Value.category]) (by decide) (Nat.le_of_ble_eq_true rfl) (Nat.le_of_ble_eq_true rfl) dL_letter_4 (by rw [hx0]; rfl) (fun hne H1 locs1 q9 ce hY1 hO1 hce hcv hcl => ?_) (fun h0 H1 locs1 hY1 hO1 => ?_)
  · replace h := z_f hne h
    by_cases c0 : o1.1 = 1
    · replace h := z_t c0 h
      cases h
      rw [c0] at hcl
      refine zH_catch (i := 1) (j := 0) hown hts hU.2.2.1 hNC htab [1] rfl rfl (fun k hk => absurd hk (Nat.not_lt_zero _)) ⟨by decide, by decide⟩ (fun k q i9 f1 f2 => by match k, f1, f2 with | 0, f1, f2 => cases f1; cases f2; exact ⟨by decide, by decide, by decide, zk_RL_13⟩ | n + 1, f1, _ => simp at f1) zcast1 hce hcv hcl (fun x hx9 => ?_)
      cases hx9
      refine lv_astore_n hx hb dL_letter_12 rfl hl (by decide) rfl (fun ls hl => ?_)
      refine lv_iconst (v := 1) hx hb dL_letter_13 (by decide) ?_
      refine W.widen (k := 1) (n := 6) (by decide) (by decide) ?_
      exact W.iret (v := 1) hx hb hr (fun t ht hW => ⟨⟨1, (), rfl, by decide, by rw [ht]; exact hY1.1, by rw [ht]; exact hO1, va_K.moved hW.alike hK, hY1.2.2.2.2.2 rfl⟩, hY1.2.2.1.F ht⟩) hY1.2.2.1.2.2 dL_letter_14 hlocks
    · replace h := z_f c0 h
      cases h
  · replace h := z_t h0 h
    cases h
    have hao1 : b + o1.2.2.2.2.2 < ao := by rw [hY1.2.2.2.2.2 rfl]; exact hao
    refine lv_i2l hx hb dL_letter_7 rfl ?_
    refine zH_out hx hb hK hY1 hO1 hao1 hAo dL_letter_8 (fun H2 locs2 hY2 hO2 => ?_)
    refine lv_goto (tgt := 15) hx hb dL_letter_9 (by decide) ?_
    refine lv_iconst (v := 0) hx hb dL_letter_15 (by decide) ?_
    refine W.widen (k := 1) (n := 6) (by decide) (by decide) ?_
    exact W.iret (v := 0) hx hb hr (fun t ht hW => ⟨⟨0, (), rfl, rfl, by rw [ht]; exact hY2.1, by rw [ht]; exact hO2, va_K.moved hW.alike hK, hY2.2.2.2.2.2 rfl⟩, hY2.2.2.1.F ht⟩) hY2.2.2.1.2.2 dL_letter_16 hlocks
def fL_placeOf (x0 : Nat) (x1 : Int32) (M : zM) (w : Nat → Int64) : Option (Int32 × zM × (Nat → Int64)) := zg (zk M x0 = 7) (zhS [1] w (fun r => vp_updL w 0 r.toInt64) (fX7_placeOf x0 x1 M))
theorem zg_yL_placeOf : (Cond.codeWith yL_placeOf cL_placeOf 4 (some .int) [(0, 9, 12, 13)]) ∈ gtb := gi 812 (by decide +kernel) rfl
theorem zs_yL_placeOf : (Cond.static yL_placeOf) ∈ gtb := gi 811 (by decide +kernel) rfl
theorem zp_yL_placeOf : plainName yL_placeOf.cls = true := by decide +kernel
set_option maxHeartbeats 4000000 in
set_option maxRecDepth 100000 in
theorem vL_placeOf (l : Launch) (hl0 : l.stackTraces = false) (D : va_G) (T : Nat → ClassId) (b ao : Nat) (x0 : Nat) (x1 : Int32) (M : zM) (w : Nat → Int64) (k : Int32) (M' : zM) (w' : Nat → Int64) (hao : b + M.2.2.2 < ao) (h : fL_placeOf x0 x1 M w = some (k, M', w')) : zhMet l D T b ao yL_placeOf cL_placeOf 4 [(0, 9, 12, 13)] 8 1 6 [zr b x0, .int x1, .ref ao] M w k M' w' := by
  unfold fL_placeOf at h
  obtain ⟨g1, h⟩ := zg_of h
  obtain ⟨o1, e9, h⟩ := zhS_of h
  have hx0 : zr b x0 = .ref (b + x0) := zr_pos (zk_1 g1 (by decide)).1
  intro sz
  refine va_MetW zp_yL_placeOf rfl ?_
  intro p e s m args below meth c s₁ B hml hv
  obtain ⟨rfl, hsz, hP, hO, hK, hU, hNw, hNC⟩ := hv
  subst hsz
  have hx := B.exec
  have hb := B.bytes
  have hr := B.returns
  have hlocks := B.notSynchronized
  have hts0 := atoms_spec (ws := Cond.codeWith yL_placeOf cL_placeOf 4 (some .int) [(0, 9, 12, 13)] :: gtb) B.pre
  have hts : ∀ w ∈ gtb, w.before _ s = true := fun w hw => hts0 w (List.mem_cons_of_mem _ hw)
  have hown : s.vm.findClass RL = some m.cls := findClass_of_methodNamed B.named
  have htab := vx_table (x := yL_placeOf) B (hts0 _ List.mem_cons_self)
  have hA : ∀ q : Nat, s.heap.size ≤ q → zAo b M.2.2.2 ao s.heap.size q := fun q h => Or.inr (Or.inr h)
  have hY : zY D T b false true M.2.2.2 M s s.heap (zAo b M.2.2.2 ao s.heap.size) [] := ⟨hP, zD_of (fun r h1 h2 => Or.inl ⟨by omega, by omega⟩), va_S.rf, fun hg => absurd hg Bool.false_ne_true, ⟨fun _ => hU, fun hg => absurd hg Bool.false_ne_true, hNw⟩, fun _ => rfl⟩
  have hAo : zAo b M.2.2.2 ao s.heap.size ao := Or.inr (Or.inl rfl)
  have hcat : zc1 [zr b x0, .int x1, .ref ao] := ⟨zr_cat _ _, rfl, rfl, trivial⟩
  have hlen : (lg_sl [zr b x0, .int x1, .ref ao]).length ≤ 4 := by rw [zarg_len _ hcat]; exact Nat.le_of_ble_eq_true rfl
  have hl := lv_entry ([zr b x0, .int x1, .ref ao]) (n := 4) hlen
  rw [lg_entry_eq]
  rw [zarg_eq _ 0 hcat] at hl
  generalize (lg_sl [zr b x0, .int x1, .ref ao] ++ List.replicate (4 - (lg_sl [zr b x0, .int x1, .ref ao]).length) Slot.unset).toArray = ls at hl ⊢
  have hl : lv_has ls 4 [(0, zr b x0), (1, .int x1), (2, .ref ao)] := hl
  rw [hx0] at hl
  refine lv_aload_n hx hb dL_placeOf_0 rfl (lv_at hl 2 rfl) ?_
  refine lv_iconst (v := 0) hx hb dL_placeOf_1 (by decide) ?_
  refine lv_aload_n hx hb dL_placeOf_2 rfl (lv_at hl 0 rfl) ?_
  refine lv_iload_n hx hb dL_placeOf_3 rfl (lv_at hl 1 rfl) ?_
  refine zH_calli hx hb hml hown hts rfl hK hA hY hO hao hl (As := [.int x1]) (rest := [.int 0, .ref ao]) (vX7_placeOf l hl0 D T b x0 x1 M _ e9) zm_yX7_placeOf zl_RL_71 zi_yX7_placeOf ze_yX7_placeOf zcI7 g1 rfl (by simp [Value.category]) (by decide) (Nat.le_of_ble_eq_true rfl) (Nat.le_of_ble_eq_true rfl) dL_placeOf_4 (by rw [hx0]; rfl) (fun hne H1 locs1 q9 ce hY1 hO1 hce hcv hcl => ?_) (fun h0 H1 locs1 hY1 hO1 => ?_)
  · replace h := z_f hne h
    by_cases c0 : o1.1 = 1
    · replace h := z_t c0 h
      cases h
      rw [c0] at hcl
      refine zH_catch (i := 1) (j := 0) hown hts hU.2.2.1 hNC htab [1] rfl rfl (fun k hk => absurd hk (Nat.not_lt_zero _)) ⟨by decide, by decide⟩ (fun k q i9 f1 f2 => by match k, f1, f2 with | 0, f1, f2 => cases f1; cases f2; exact ⟨by decide, by decide, by decide, zk_RL_13⟩ | n + 1, f1, _ => simp at f1) zcast1 hce hcv hcl (fun x hx9 => ?_)
      cases hx9
      refine lv_astore_n hx hb dL_placeOf_12 rfl hl (by decide) rfl (fun ls hl => ?_)
      refine lv_iconst (v := 1) hx hb dL_placeOf_13 (by decide) ?_
      refine W.widen (k := 1) (n := 6) (by decide) (by decide) ?_
      exact W.iret (v := 1) hx hb hr (fun t ht hW => ⟨⟨1, (), rfl, by decide, by rw [ht]; exact hY1.1, by rw [ht]; exact hO1, va_K.moved hW.alike hK, hY1.2.2.2.2.2 rfl⟩, hY1.2.2.1.F ht⟩) hY1.2.2.1.2.2 dL_placeOf_14 hlocks
    · replace h := z_f c0 h
      cases h
  · replace h := z_t h0 h
    cases h
    have hao1 : b + o1.2.2.2.2.2 < ao := by rw [hY1.2.2.2.2.2 rfl]; exact hao
    refine lv_i2l hx hb dL_placeOf_7 rfl ?_
    refine zH_out hx hb hK hY1 hO1 hao1 hAo dL_placeOf_8 (fun H2 locs2 hY2 hO2 => ?_)
    refine lv_goto (tgt := 15) hx hb dL_placeOf_9 (by decide) ?_
    refine lv_iconst (v := 0) hx hb dL_placeOf_15 (by decide) ?_
    refine W.widen (k := 1) (n := 6) (by decide) (by decide) ?_
    exact W.iret (v := 0) hx hb hr (fun t ht hW => ⟨⟨0, (), rfl, rfl, by rw [ht]; exact hY2.1, by rw [ht]; exact hO2, va_K.moved hW.alike hK, hY2.2.2.2.2.2 rfl⟩, hY2.2.2.1.F ht⟩) hY2.2.2.1.2.2 dL_placeOf_16 hlocks
def fL_isPutIn (x0 : Nat) (x1 : Int32) (M : zM) (w : Nat → Int64) : Option (Int32 × zM × (Nat → Int64)) := zg (zk M x0 = 7) (zhS [1] w (fun r => vp_updL w 0 (if r = 0 then 0 else 1)) (fX7_isPutIn x0 x1 M))
theorem zg_yL_isPutIn : (Cond.codeWith yL_isPutIn cL_isPutIn 4 (some .int) [(0, 16, 19, 13)]) ∈ gtb := gi 819 (by decide +kernel) rfl
theorem zs_yL_isPutIn : (Cond.static yL_isPutIn) ∈ gtb := gi 818 (by decide +kernel) rfl
theorem zp_yL_isPutIn : plainName yL_isPutIn.cls = true := by decide +kernel
set_option maxHeartbeats 4000000 in
set_option maxRecDepth 100000 in
theorem vL_isPutIn (l : Launch) (hl0 : l.stackTraces = false) (D : va_G) (T : Nat → ClassId) (b ao : Nat) (x0 : Nat) (x1 : Int32) (M : zM) (w : Nat → Int64) (k : Int32) (M' : zM) (w' : Nat → Int64) (hao : b + M.2.2.2 < ao) (h : fL_isPutIn x0 x1 M w = some (k, M', w')) : zhMet l D T b ao yL_isPutIn cL_isPutIn 4 [(0, 16, 19, 13)] 8 1 6 [zr b x0, .int x1, .ref ao] M w k M' w' := by
  unfold fL_isPutIn at h
  obtain ⟨g1, h⟩ := zg_of h
  obtain ⟨o1, e9, h⟩ := zhS_of h
  have hx0 : zr b x0 = .ref (b + x0) := zr_pos (zk_1 g1 (by decide)).1
  intro sz
  refine va_MetW zp_yL_isPutIn rfl ?_
  intro p e s m args below meth c s₁ B hml hv
  obtain ⟨rfl, hsz, hP, hO, hK, hU, hNw, hNC⟩ := hv
  subst hsz
  have hx := B.exec
  have hb := B.bytes
  have hr := B.returns
  have hlocks := B.notSynchronized
  have hts0 := atoms_spec (ws := Cond.codeWith yL_isPutIn cL_isPutIn 4 (some .int) [(0, 16, 19, 13)] :: gtb) B.pre
  have hts : ∀ w ∈ gtb, w.before _ s = true := fun w hw => hts0 w (List.mem_cons_of_mem _ hw)
  have hown : s.vm.findClass RL = some m.cls := findClass_of_methodNamed B.named
  have htab := vx_table (x := yL_isPutIn) B (hts0 _ List.mem_cons_self)
  have hA : ∀ q : Nat, s.heap.size ≤ q → zAo b M.2.2.2 ao s.heap.size q := fun q h => Or.inr (Or.inr h)
  have hY : zY D T b false true M.2.2.2 M s s.heap (zAo b M.2.2.2 ao s.heap.size) [] := ⟨hP, zD_of (fun r h1 h2 => Or.inl ⟨by omega, by omega⟩), va_S.rf, fun hg => absurd hg Bool.false_ne_true, ⟨fun _ => hU, fun hg => absurd hg Bool.false_ne_true, hNw⟩, fun _ => rfl⟩
  have hAo : zAo b M.2.2.2 ao s.heap.size ao := Or.inr (Or.inl rfl)
  have hcat : zc1 [zr b x0, .int x1, .ref ao] := ⟨zr_cat _ _, rfl, rfl, trivial⟩
  have hlen : (lg_sl [zr b x0, .int x1, .ref ao]).length ≤ 4 := by rw [zarg_len _ hcat]; exact Nat.le_of_ble_eq_true rfl
  have hl := lv_entry ([zr b x0, .int x1, .ref ao]) (n := 4) hlen
  rw [lg_entry_eq]
  rw [zarg_eq _ 0 hcat] at hl
  generalize (lg_sl [zr b x0, .int x1, .ref ao] ++ List.replicate (4 - (lg_sl [zr b x0, .int x1, .ref ao]).length) Slot.unset).toArray = ls at hl ⊢
  have hl : lv_has ls 4 [(0, zr b x0), (1, .int x1), (2, .ref ao)] := hl
  rw [hx0] at hl
  refine lv_aload_n hx hb dL_isPutIn_0 rfl (lv_at hl 2 rfl) ?_
  refine lv_iconst (v := 0) hx hb dL_isPutIn_1 (by decide) ?_
  refine lv_aload_n hx hb dL_isPutIn_2 rfl (lv_at hl 0 rfl) ?_
  refine lv_iload_n hx hb dL_isPutIn_3 rfl (lv_at hl 1 rfl) ?_
  refine zH_calli hx hb hml hown hts rfl hK hA hY hO hao hl (As := [.int x1]) (rest := [.int 0, .ref ao]) (vX7_isPutIn l hl0 D T b x0 x1 M _ e9) zm_yX7_isPutIn zl_RL_74 zi_yX7_isPutIn ze_yX7_isPutIn zcI7 g1 rfl (by simp [Value.category]) (by decide) (Nat.le_of_ble_eq_true rfl) (Nat.le_of_ble_eq_true rfl) dL_isPutIn_4 (by rw [hx0]; rfl) (fun hne H1 locs1 q9 ce hY1 hO1 hce hcv hcl => ?_) (fun h0 H1 locs1 hY1 hO1 => ?_)
  · replace h := z_f hne h
    by_cases c0 : o1.1 = 1
    · replace h := z_t c0 h
      cases h
      rw [c0] at hcl
      refine zH_catch (i := 1) (j := 0) hown hts hU.2.2.1 hNC htab [1] rfl rfl (fun k hk => absurd hk (Nat.not_lt_zero _)) ⟨by decide, by decide⟩ (fun k q i9 f1 f2 => by match k, f1, f2 with | 0, f1, f2 => cases f1; cases f2; exact ⟨by decide, by decide, by decide, zk_RL_13⟩ | n + 1, f1, _ => simp at f1) zcast1 hce hcv hcl (fun x hx9 => ?_)
      cases hx9
      refine lv_astore_n hx hb dL_isPutIn_19 rfl hl (by decide) rfl (fun ls hl => ?_)
      refine lv_iconst (v := 1) hx hb dL_isPutIn_20 (by decide) ?_
      refine W.widen (k := 1) (n := 6) (by decide) (by decide) ?_
      exact W.iret (v := 1) hx hb hr (fun t ht hW => ⟨⟨1, (), rfl, by decide, by rw [ht]; exact hY1.1, by rw [ht]; exact hO1, va_K.moved hW.alike hK, hY1.2.2.2.2.2 rfl⟩, hY1.2.2.1.F ht⟩) hY1.2.2.1.2.2 dL_isPutIn_21 hlocks
    · replace h := z_f c0 h
      cases h
  · replace h := z_t h0 h
    cases h
    have hao1 : b + o1.2.2.2.2.2 < ao := by rw [hY1.2.2.2.2.2 rfl]; exact hao
    refine lv_if_eq (tgt := 14) hx hb dL_isPutIn_7 (by decide) (fun c9 => ?_) (fun c9 => ?_)
    · rw [if_pos c9]
      refine lv_lconst (v := 0) hx hb dL_isPutIn_14 (by decide) ?_
      refine zH_out hx hb hK hY1 hO1 hao1 hAo dL_isPutIn_15 (fun H2 locs2 hY2 hO2 => ?_)
      refine lv_goto (tgt := 22) hx hb dL_isPutIn_16 (by decide) ?_
      refine lv_iconst (v := 0) hx hb dL_isPutIn_22 (by decide) ?_
      refine W.widen (k := 1) (n := 6) (by decide) (by decide) ?_
      exact W.iret (v := 0) hx hb hr (fun t ht hW => ⟨⟨0, (), rfl, rfl, by rw [ht]; exact hY2.1, by rw [ht]; exact hO2, va_K.moved hW.alike hK, hY2.2.2.2.2.2 rfl⟩, hY2.2.2.1.F ht⟩) hY2.2.2.1.2.2 dL_isPutIn_23 hlocks
    · rw [if_neg c9]
      refine lv_lconst (v := 1) hx hb dL_isPutIn_10 (by decide) ?_
      refine lv_goto (tgt := 15) hx hb dL_isPutIn_11 (by decide) ?_
      refine zH_out hx hb hK hY1 hO1 hao1 hAo dL_isPutIn_15 (fun H2 locs2 hY2 hO2 => ?_)
      refine lv_goto (tgt := 22) hx hb dL_isPutIn_16 (by decide) ?_
      refine lv_iconst (v := 0) hx hb dL_isPutIn_22 (by decide) ?_
      refine W.widen (k := 1) (n := 6) (by decide) (by decide) ?_
      exact W.iret (v := 0) hx hb hr (fun t ht hW => ⟨⟨0, (), rfl, rfl, by rw [ht]; exact hY2.1, by rw [ht]; exact hO2, va_K.moved hW.alike hK, hY2.2.2.2.2.2 rfl⟩, hY2.2.2.1.F ht⟩) hY2.2.2.1.2.2 dL_isPutIn_23 hlocks
def fL_errorKind (x0 : Nat) (x1 : Int32) (M : zM) (w : Nat → Int64) : Option (Int32 × zM × (Nat → Int64)) := zg (zk M x0 = 7) (zhS [1] w (fun r => vp_updL w 0 r.toInt64) (fX7_errorKind x0 x1 M))
theorem zg_yL_errorKind : (Cond.codeWith yL_errorKind cL_errorKind 4 (some .int) [(0, 9, 12, 13)]) ∈ gtb := gi 826 (by decide +kernel) rfl
theorem zs_yL_errorKind : (Cond.static yL_errorKind) ∈ gtb := gi 825 (by decide +kernel) rfl
theorem zp_yL_errorKind : plainName yL_errorKind.cls = true := by decide +kernel
set_option maxHeartbeats 4000000 in
set_option maxRecDepth 100000 in
theorem vL_errorKind (l : Launch) (hl0 : l.stackTraces = false) (D : va_G) (T : Nat → ClassId) (b ao : Nat) (x0 : Nat) (x1 : Int32) (M : zM) (w : Nat → Int64) (k : Int32) (M' : zM) (w' : Nat → Int64) (hao : b + M.2.2.2 < ao) (h : fL_errorKind x0 x1 M w = some (k, M', w')) : zhMet l D T b ao yL_errorKind cL_errorKind 4 [(0, 9, 12, 13)] 8 1 6 [zr b x0, .int x1, .ref ao] M w k M' w' := by
  unfold fL_errorKind at h
  obtain ⟨g1, h⟩ := zg_of h
  obtain ⟨o1, e9, h⟩ := zhS_of h
  have hx0 : zr b x0 = .ref (b + x0) := zr_pos (zk_1 g1 (by decide)).1
  intro sz
  refine va_MetW zp_yL_errorKind rfl ?_
  intro p e s m args below meth c s₁ B hml hv
  obtain ⟨rfl, hsz, hP, hO, hK, hU, hNw, hNC⟩ := hv
  subst hsz
  have hx := B.exec
  have hb := B.bytes
  have hr := B.returns
  have hlocks := B.notSynchronized
  have hts0 := atoms_spec (ws := Cond.codeWith yL_errorKind cL_errorKind 4 (some .int) [(0, 9, 12, 13)] :: gtb) B.pre
  have hts : ∀ w ∈ gtb, w.before _ s = true := fun w hw => hts0 w (List.mem_cons_of_mem _ hw)
  have hown : s.vm.findClass RL = some m.cls := findClass_of_methodNamed B.named
  have htab := vx_table (x := yL_errorKind) B (hts0 _ List.mem_cons_self)
  have hA : ∀ q : Nat, s.heap.size ≤ q → zAo b M.2.2.2 ao s.heap.size q := fun q h => Or.inr (Or.inr h)
  have hY : zY D T b false true M.2.2.2 M s s.heap (zAo b M.2.2.2 ao s.heap.size) [] := ⟨hP, zD_of (fun r h1 h2 => Or.inl ⟨by omega, by omega⟩), va_S.rf, fun hg => absurd hg Bool.false_ne_true, ⟨fun _ => hU, fun hg => absurd hg Bool.false_ne_true, hNw⟩, fun _ => rfl⟩
  have hAo : zAo b M.2.2.2 ao s.heap.size ao := Or.inr (Or.inl rfl)
  have hcat : zc1 [zr b x0, .int x1, .ref ao] := ⟨zr_cat _ _, rfl, rfl, trivial⟩
  have hlen : (lg_sl [zr b x0, .int x1, .ref ao]).length ≤ 4 := by rw [zarg_len _ hcat]; exact Nat.le_of_ble_eq_true rfl
  have hl := lv_entry ([zr b x0, .int x1, .ref ao]) (n := 4) hlen
  rw [lg_entry_eq]
  rw [zarg_eq _ 0 hcat] at hl
  generalize (lg_sl [zr b x0, .int x1, .ref ao] ++ List.replicate (4 - (lg_sl [zr b x0, .int x1, .ref ao]).length) Slot.unset).toArray = ls at hl ⊢
  have hl : lv_has ls 4 [(0, zr b x0), (1, .int x1), (2, .ref ao)] := hl
  rw [hx0] at hl
  refine lv_aload_n hx hb dL_errorKind_0 rfl (lv_at hl 2 rfl) ?_
  refine lv_iconst (v := 0) hx hb dL_errorKind_1 (by decide) ?_
  refine lv_aload_n hx hb dL_errorKind_2 rfl (lv_at hl 0 rfl) ?_
  refine lv_iload_n hx hb dL_errorKind_3 rfl (lv_at hl 1 rfl) ?_
  refine zH_calli hx hb hml hown hts rfl hK hA hY hO hao hl (As := [.int x1]) (rest := [.int 0, .ref ao]) (vX7_errorKind l hl0 D T b x0 x1 M _ e9) zm_yX7_errorKind zl_RL_78 zi_yX7_errorKind ze_yX7_errorKind zcI7 g1 rfl (by simp [Value.category]) (by decide) (Nat.le_of_ble_eq_true rfl) (Nat.le_of_ble_eq_true rfl) dL_errorKind_4 (by rw [hx0]; rfl) (fun hne H1 locs1 q9 ce hY1 hO1 hce hcv hcl => ?_) (fun h0 H1 locs1 hY1 hO1 => ?_)
  · replace h := z_f hne h
    by_cases c0 : o1.1 = 1
    · replace h := z_t c0 h
      cases h
      rw [c0] at hcl
      refine zH_catch (i := 1) (j := 0) hown hts hU.2.2.1 hNC htab [1] rfl rfl (fun k hk => absurd hk (Nat.not_lt_zero _)) ⟨by decide, by decide⟩ (fun k q i9 f1 f2 => by match k, f1, f2 with | 0, f1, f2 => cases f1; cases f2; exact ⟨by decide, by decide, by decide, zk_RL_13⟩ | n + 1, f1, _ => simp at f1) zcast1 hce hcv hcl (fun x hx9 => ?_)
      cases hx9
      refine lv_astore_n hx hb dL_errorKind_12 rfl hl (by decide) rfl (fun ls hl => ?_)
      refine lv_iconst (v := 1) hx hb dL_errorKind_13 (by decide) ?_
      refine W.widen (k := 1) (n := 6) (by decide) (by decide) ?_
      exact W.iret (v := 1) hx hb hr (fun t ht hW => ⟨⟨1, (), rfl, by decide, by rw [ht]; exact hY1.1, by rw [ht]; exact hO1, va_K.moved hW.alike hK, hY1.2.2.2.2.2 rfl⟩, hY1.2.2.1.F ht⟩) hY1.2.2.1.2.2 dL_errorKind_14 hlocks
    · replace h := z_f c0 h
      cases h
  · replace h := z_t h0 h
    cases h
    have hao1 : b + o1.2.2.2.2.2 < ao := by rw [hY1.2.2.2.2.2 rfl]; exact hao
    refine lv_i2l hx hb dL_errorKind_7 rfl ?_
    refine zH_out hx hb hK hY1 hO1 hao1 hAo dL_errorKind_8 (fun H2 locs2 hY2 hO2 => ?_)
    refine lv_goto (tgt := 15) hx hb dL_errorKind_9 (by decide) ?_
    refine lv_iconst (v := 0) hx hb dL_errorKind_15 (by decide) ?_
    refine W.widen (k := 1) (n := 6) (by decide) (by decide) ?_
    exact W.iret (v := 0) hx hb hr (fun t ht hW => ⟨⟨0, (), rfl, rfl, by rw [ht]; exact hY2.1, by rw [ht]; exact hO2, va_K.moved hW.alike hK, hY2.2.2.2.2.2 rfl⟩, hY2.2.2.1.F ht⟩) hY2.2.2.1.2.2 dL_errorKind_16 hlocks
def fL_errorAt (x0 : Nat) (x1 : Int32) (M : zM) (w : Nat → Int64) : Option (Int32 × zM × (Nat → Int64)) := zg (zk M x0 = 7) (zhS [1] w (fun r => vp_updL w 0 r.toInt64) (fX7_errorAt x0 x1 M))
theorem zg_yL_errorAt : (Cond.codeWith yL_errorAt cL_errorAt 4 (some .int) [(0, 9, 12, 13)]) ∈ gtb := gi 833 (by decide +kernel) rfl
theorem zs_yL_errorAt : (Cond.static yL_errorAt) ∈ gtb := gi 832 (by decide +kernel) rfl
theorem zp_yL_errorAt : plainName yL_errorAt.cls = true := by decide +kernel
set_option maxHeartbeats 4000000 in
set_option maxRecDepth 100000 in
theorem vL_errorAt (l : Launch) (hl0 : l.stackTraces = false) (D : va_G) (T : Nat → ClassId) (b ao : Nat) (x0 : Nat) (x1 : Int32) (M : zM) (w : Nat → Int64) (k : Int32) (M' : zM) (w' : Nat → Int64) (hao : b + M.2.2.2 < ao) (h : fL_errorAt x0 x1 M w = some (k, M', w')) : zhMet l D T b ao yL_errorAt cL_errorAt 4 [(0, 9, 12, 13)] 8 1 6 [zr b x0, .int x1, .ref ao] M w k M' w' := by
  unfold fL_errorAt at h
  obtain ⟨g1, h⟩ := zg_of h
  obtain ⟨o1, e9, h⟩ := zhS_of h
  have hx0 : zr b x0 = .ref (b + x0) := zr_pos (zk_1 g1 (by decide)).1
  intro sz
  refine va_MetW zp_yL_errorAt rfl ?_
  intro p e s m args below meth c s₁ B hml hv
  obtain ⟨rfl, hsz, hP, hO, hK, hU, hNw, hNC⟩ := hv
  subst hsz
  have hx := B.exec
  have hb := B.bytes
  have hr := B.returns
  have hlocks := B.notSynchronized
  have hts0 := atoms_spec (ws := Cond.codeWith yL_errorAt cL_errorAt 4 (some .int) [(0, 9, 12, 13)] :: gtb) B.pre
  have hts : ∀ w ∈ gtb, w.before _ s = true := fun w hw => hts0 w (List.mem_cons_of_mem _ hw)
  have hown : s.vm.findClass RL = some m.cls := findClass_of_methodNamed B.named
  have htab := vx_table (x := yL_errorAt) B (hts0 _ List.mem_cons_self)
  have hA : ∀ q : Nat, s.heap.size ≤ q → zAo b M.2.2.2 ao s.heap.size q := fun q h => Or.inr (Or.inr h)
  have hY : zY D T b false true M.2.2.2 M s s.heap (zAo b M.2.2.2 ao s.heap.size) [] := ⟨hP, zD_of (fun r h1 h2 => Or.inl ⟨by omega, by omega⟩), va_S.rf, fun hg => absurd hg Bool.false_ne_true, ⟨fun _ => hU, fun hg => absurd hg Bool.false_ne_true, hNw⟩, fun _ => rfl⟩
  have hAo : zAo b M.2.2.2 ao s.heap.size ao := Or.inr (Or.inl rfl)
  have hcat : zc1 [zr b x0, .int x1, .ref ao] := ⟨zr_cat _ _, rfl, rfl, trivial⟩
  have hlen : (lg_sl [zr b x0, .int x1, .ref ao]).length ≤ 4 := by rw [zarg_len _ hcat]; exact Nat.le_of_ble_eq_true rfl
  have hl := lv_entry ([zr b x0, .int x1, .ref ao]) (n := 4) hlen
  rw [lg_entry_eq]
  rw [zarg_eq _ 0 hcat] at hl
  generalize (lg_sl [zr b x0, .int x1, .ref ao] ++ List.replicate (4 - (lg_sl [zr b x0, .int x1, .ref ao]).length) Slot.unset).toArray = ls at hl ⊢
  have hl : lv_has ls 4 [(0, zr b x0), (1, .int x1), (2, .ref ao)] := hl
  rw [hx0] at hl
  refine lv_aload_n hx hb dL_errorAt_0 rfl (lv_at hl 2 rfl) ?_
  refine lv_iconst (v := 0) hx hb dL_errorAt_1 (by decide) ?_
  refine lv_aload_n hx hb dL_errorAt_2 rfl (lv_at hl 0 rfl) ?_
  refine lv_iload_n hx hb dL_errorAt_3 rfl (lv_at hl 1 rfl) ?_
  refine zH_calli hx hb hml hown hts rfl hK hA hY hO hao hl (As := [.int x1]) (rest := [.int 0, .ref ao]) (vX7_errorAt l hl0 D T b x0 x1 M _ e9) zm_yX7_errorAt zl_RL_81 zi_yX7_errorAt ze_yX7_errorAt zcI7 g1 rfl (by simp [Value.category]) (by decide) (Nat.le_of_ble_eq_true rfl) (Nat.le_of_ble_eq_true rfl) dL_errorAt_4 (by rw [hx0]; rfl) (fun hne H1 locs1 q9 ce hY1 hO1 hce hcv hcl => ?_) (fun h0 H1 locs1 hY1 hO1 => ?_)
  · replace h := z_f hne h
    by_cases c0 : o1.1 = 1
    · replace h := z_t c0 h
      cases h
      rw [c0] at hcl
      refine zH_catch (i := 1) (j := 0) hown hts hU.2.2.1 hNC htab [1] rfl rfl (fun k hk => absurd hk (Nat.not_lt_zero _)) ⟨by decide, by decide⟩ (fun k q i9 f1 f2 => by match k, f1, f2 with | 0, f1, f2 => cases f1; cases f2; exact ⟨by decide, by decide, by decide, zk_RL_13⟩ | n + 1, f1, _ => simp at f1) zcast1 hce hcv hcl (fun x hx9 => ?_)
      cases hx9
      refine lv_astore_n hx hb dL_errorAt_12 rfl hl (by decide) rfl (fun ls hl => ?_)
      refine lv_iconst (v := 1) hx hb dL_errorAt_13 (by decide) ?_
      refine W.widen (k := 1) (n := 6) (by decide) (by decide) ?_
      exact W.iret (v := 1) hx hb hr (fun t ht hW => ⟨⟨1, (), rfl, by decide, by rw [ht]; exact hY1.1, by rw [ht]; exact hO1, va_K.moved hW.alike hK, hY1.2.2.2.2.2 rfl⟩, hY1.2.2.1.F ht⟩) hY1.2.2.1.2.2 dL_errorAt_14 hlocks
    · replace h := z_f c0 h
      cases h
  · replace h := z_t h0 h
    cases h
    have hao1 : b + o1.2.2.2.2.2 < ao := by rw [hY1.2.2.2.2.2 rfl]; exact hao
    refine lv_i2l hx hb dL_errorAt_7 rfl ?_
    refine zH_out hx hb hK hY1 hO1 hao1 hAo dL_errorAt_8 (fun H2 locs2 hY2 hO2 => ?_)
    refine lv_goto (tgt := 15) hx hb dL_errorAt_9 (by decide) ?_
    refine lv_iconst (v := 0) hx hb dL_errorAt_15 (by decide) ?_
    refine W.widen (k := 1) (n := 6) (by decide) (by decide) ?_
    exact W.iret (v := 0) hx hb hr (fun t ht hW => ⟨⟨0, (), rfl, rfl, by rw [ht]; exact hY2.1, by rw [ht]; exact hO2, va_K.moved hW.alike hK, hY2.2.2.2.2.2 rfl⟩, hY2.2.2.1.F ht⟩) hY2.2.2.1.2.2 dL_errorAt_16 hlocks
def fL_normalSort (x0 : Nat) (x1 : Int32) (M : zM) (w : Nat → Int64) : Option (Int32 × zM × (Nat → Int64)) := zg (zk M x0 = 7) (zhS [1] w (fun r => vp_updL w 0 r.toInt64) (fX7_normalSort x0 x1 M))
theorem zg_yL_normalSort : (Cond.codeWith yL_normalSort cL_normalSort 4 (some .int) [(0, 9, 12, 13)]) ∈ gtb := gi 840 (by decide +kernel) rfl
theorem zs_yL_normalSort : (Cond.static yL_normalSort) ∈ gtb := gi 839 (by decide +kernel) rfl
theorem zp_yL_normalSort : plainName yL_normalSort.cls = true := by decide +kernel
set_option maxHeartbeats 4000000 in
set_option maxRecDepth 100000 in
theorem vL_normalSort (l : Launch) (hl0 : l.stackTraces = false) (D : va_G) (T : Nat → ClassId) (b ao : Nat) (x0 : Nat) (x1 : Int32) (M : zM) (w : Nat → Int64) (k : Int32) (M' : zM) (w' : Nat → Int64) (hao : b + M.2.2.2 < ao) (h : fL_normalSort x0 x1 M w = some (k, M', w')) : zhMet l D T b ao yL_normalSort cL_normalSort 4 [(0, 9, 12, 13)] 8 1 6 [zr b x0, .int x1, .ref ao] M w k M' w' := by
  unfold fL_normalSort at h
  obtain ⟨g1, h⟩ := zg_of h
  obtain ⟨o1, e9, h⟩ := zhS_of h
  have hx0 : zr b x0 = .ref (b + x0) := zr_pos (zk_1 g1 (by decide)).1
  intro sz
  refine va_MetW zp_yL_normalSort rfl ?_
  intro p e s m args below meth c s₁ B hml hv
  obtain ⟨rfl, hsz, hP, hO, hK, hU, hNw, hNC⟩ := hv
  subst hsz
  have hx := B.exec
  have hb := B.bytes
  have hr := B.returns
  have hlocks := B.notSynchronized
  have hts0 := atoms_spec (ws := Cond.codeWith yL_normalSort cL_normalSort 4 (some .int) [(0, 9, 12, 13)] :: gtb) B.pre
  have hts : ∀ w ∈ gtb, w.before _ s = true := fun w hw => hts0 w (List.mem_cons_of_mem _ hw)
  have hown : s.vm.findClass RL = some m.cls := findClass_of_methodNamed B.named
  have htab := vx_table (x := yL_normalSort) B (hts0 _ List.mem_cons_self)
  have hA : ∀ q : Nat, s.heap.size ≤ q → zAo b M.2.2.2 ao s.heap.size q := fun q h => Or.inr (Or.inr h)
  have hY : zY D T b false true M.2.2.2 M s s.heap (zAo b M.2.2.2 ao s.heap.size) [] := ⟨hP, zD_of (fun r h1 h2 => Or.inl ⟨by omega, by omega⟩), va_S.rf, fun hg => absurd hg Bool.false_ne_true, ⟨fun _ => hU, fun hg => absurd hg Bool.false_ne_true, hNw⟩, fun _ => rfl⟩
  have hAo : zAo b M.2.2.2 ao s.heap.size ao := Or.inr (Or.inl rfl)
  have hcat : zc1 [zr b x0, .int x1, .ref ao] := ⟨zr_cat _ _, rfl, rfl, trivial⟩
  have hlen : (lg_sl [zr b x0, .int x1, .ref ao]).length ≤ 4 := by rw [zarg_len _ hcat]; exact Nat.le_of_ble_eq_true rfl
  have hl := lv_entry ([zr b x0, .int x1, .ref ao]) (n := 4) hlen
  rw [lg_entry_eq]
  rw [zarg_eq _ 0 hcat] at hl
  generalize (lg_sl [zr b x0, .int x1, .ref ao] ++ List.replicate (4 - (lg_sl [zr b x0, .int x1, .ref ao]).length) Slot.unset).toArray = ls at hl ⊢
  have hl : lv_has ls 4 [(0, zr b x0), (1, .int x1), (2, .ref ao)] := hl
  rw [hx0] at hl
  refine lv_aload_n hx hb dL_normalSort_0 rfl (lv_at hl 2 rfl) ?_
  refine lv_iconst (v := 0) hx hb dL_normalSort_1 (by decide) ?_
  refine lv_aload_n hx hb dL_normalSort_2 rfl (lv_at hl 0 rfl) ?_
  refine lv_iload_n hx hb dL_normalSort_3 rfl (lv_at hl 1 rfl) ?_
  refine zH_calli hx hb hml hown hts rfl hK hA hY hO hao hl (As := [.int x1]) (rest := [.int 0, .ref ao]) (vX7_normalSort l hl0 D T b x0 x1 M _ e9) zm_yX7_normalSort zl_RL_84 zi_yX7_normalSort ze_yX7_normalSort zcI7 g1 rfl (by simp [Value.category]) (by decide) (Nat.le_of_ble_eq_true rfl) (Nat.le_of_ble_eq_true rfl) dL_normalSort_4 (by rw [hx0]; rfl) (fun hne H1 locs1 q9 ce hY1 hO1 hce hcv hcl => ?_) (fun h0 H1 locs1 hY1 hO1 => ?_)
  · replace h := z_f hne h
    by_cases c0 : o1.1 = 1
    · replace h := z_t c0 h
      cases h
      rw [c0] at hcl
      refine zH_catch (i := 1) (j := 0) hown hts hU.2.2.1 hNC htab [1] rfl rfl (fun k hk => absurd hk (Nat.not_lt_zero _)) ⟨by decide, by decide⟩ (fun k q i9 f1 f2 => by match k, f1, f2 with | 0, f1, f2 => cases f1; cases f2; exact ⟨by decide, by decide, by decide, zk_RL_13⟩ | n + 1, f1, _ => simp at f1) zcast1 hce hcv hcl (fun x hx9 => ?_)
      cases hx9
      refine lv_astore_n hx hb dL_normalSort_12 rfl hl (by decide) rfl (fun ls hl => ?_)
      refine lv_iconst (v := 1) hx hb dL_normalSort_13 (by decide) ?_
      refine W.widen (k := 1) (n := 6) (by decide) (by decide) ?_
      exact W.iret (v := 1) hx hb hr (fun t ht hW => ⟨⟨1, (), rfl, by decide, by rw [ht]; exact hY1.1, by rw [ht]; exact hO1, va_K.moved hW.alike hK, hY1.2.2.2.2.2 rfl⟩, hY1.2.2.1.F ht⟩) hY1.2.2.1.2.2 dL_normalSort_14 hlocks
    · replace h := z_f c0 h
      cases h
  · replace h := z_t h0 h
    cases h
    have hao1 : b + o1.2.2.2.2.2 < ao := by rw [hY1.2.2.2.2.2 rfl]; exact hao
    refine lv_i2l hx hb dL_normalSort_7 rfl ?_
    refine zH_out hx hb hK hY1 hO1 hao1 hAo dL_normalSort_8 (fun H2 locs2 hY2 hO2 => ?_)
    refine lv_goto (tgt := 15) hx hb dL_normalSort_9 (by decide) ?_
    refine lv_iconst (v := 0) hx hb dL_normalSort_15 (by decide) ?_
    refine W.widen (k := 1) (n := 6) (by decide) (by decide) ?_
    exact W.iret (v := 0) hx hb hr (fun t ht hW => ⟨⟨0, (), rfl, rfl, by rw [ht]; exact hY2.1, by rw [ht]; exact hO2, va_K.moved hW.alike hK, hY2.2.2.2.2.2 rfl⟩, hY2.2.2.1.F ht⟩) hY2.2.2.1.2.2 dL_normalSort_16 hlocks
def fL_normalValue (x0 : Nat) (x1 : Int32) (M : zM) (w : Nat → Int64) : Option (Int32 × zM × (Nat → Int64)) := zg (zk M x0 = 7) (zhS [1] w (fun r => vp_updL w 0 r.toInt64) (fX7_normalValue x0 x1 M))
theorem zg_yL_normalValue : (Cond.codeWith yL_normalValue cL_normalValue 4 (some .int) [(0, 9, 12, 13)]) ∈ gtb := gi 847 (by decide +kernel) rfl
theorem zs_yL_normalValue : (Cond.static yL_normalValue) ∈ gtb := gi 846 (by decide +kernel) rfl
theorem zp_yL_normalValue : plainName yL_normalValue.cls = true := by decide +kernel
set_option maxHeartbeats 4000000 in
set_option maxRecDepth 100000 in
theorem vL_normalValue (l : Launch) (hl0 : l.stackTraces = false) (D : va_G) (T : Nat → ClassId) (b ao : Nat) (x0 : Nat) (x1 : Int32) (M : zM) (w : Nat → Int64) (k : Int32) (M' : zM) (w' : Nat → Int64) (hao : b + M.2.2.2 < ao) (h : fL_normalValue x0 x1 M w = some (k, M', w')) : zhMet l D T b ao yL_normalValue cL_normalValue 4 [(0, 9, 12, 13)] 8 1 6 [zr b x0, .int x1, .ref ao] M w k M' w' := by
  unfold fL_normalValue at h
  obtain ⟨g1, h⟩ := zg_of h
  obtain ⟨o1, e9, h⟩ := zhS_of h
  have hx0 : zr b x0 = .ref (b + x0) := zr_pos (zk_1 g1 (by decide)).1
  intro sz
  refine va_MetW zp_yL_normalValue rfl ?_
  intro p e s m args below meth c s₁ B hml hv
  obtain ⟨rfl, hsz, hP, hO, hK, hU, hNw, hNC⟩ := hv
  subst hsz
  have hx := B.exec
  have hb := B.bytes
  have hr := B.returns
  have hlocks := B.notSynchronized
  have hts0 := atoms_spec (ws := Cond.codeWith yL_normalValue cL_normalValue 4 (some .int) [(0, 9, 12, 13)] :: gtb) B.pre
  have hts : ∀ w ∈ gtb, w.before _ s = true := fun w hw => hts0 w (List.mem_cons_of_mem _ hw)
  have hown : s.vm.findClass RL = some m.cls := findClass_of_methodNamed B.named
  have htab := vx_table (x := yL_normalValue) B (hts0 _ List.mem_cons_self)
  have hA : ∀ q : Nat, s.heap.size ≤ q → zAo b M.2.2.2 ao s.heap.size q := fun q h => Or.inr (Or.inr h)
  have hY : zY D T b false true M.2.2.2 M s s.heap (zAo b M.2.2.2 ao s.heap.size) [] := ⟨hP, zD_of (fun r h1 h2 => Or.inl ⟨by omega, by omega⟩), va_S.rf, fun hg => absurd hg Bool.false_ne_true, ⟨fun _ => hU, fun hg => absurd hg Bool.false_ne_true, hNw⟩, fun _ => rfl⟩
  have hAo : zAo b M.2.2.2 ao s.heap.size ao := Or.inr (Or.inl rfl)
  have hcat : zc1 [zr b x0, .int x1, .ref ao] := ⟨zr_cat _ _, rfl, rfl, trivial⟩
  have hlen : (lg_sl [zr b x0, .int x1, .ref ao]).length ≤ 4 := by rw [zarg_len _ hcat]; exact Nat.le_of_ble_eq_true rfl
  have hl := lv_entry ([zr b x0, .int x1, .ref ao]) (n := 4) hlen
  rw [lg_entry_eq]
  rw [zarg_eq _ 0 hcat] at hl
  generalize (lg_sl [zr b x0, .int x1, .ref ao] ++ List.replicate (4 - (lg_sl [zr b x0, .int x1, .ref ao]).length) Slot.unset).toArray = ls at hl ⊢
  have hl : lv_has ls 4 [(0, zr b x0), (1, .int x1), (2, .ref ao)] := hl
  rw [hx0] at hl
  refine lv_aload_n hx hb dL_normalValue_0 rfl (lv_at hl 2 rfl) ?_
  refine lv_iconst (v := 0) hx hb dL_normalValue_1 (by decide) ?_
  refine lv_aload_n hx hb dL_normalValue_2 rfl (lv_at hl 0 rfl) ?_
  refine lv_iload_n hx hb dL_normalValue_3 rfl (lv_at hl 1 rfl) ?_
  refine zH_calli hx hb hml hown hts rfl hK hA hY hO hao hl (As := [.int x1]) (rest := [.int 0, .ref ao]) (vX7_normalValue l hl0 D T b x0 x1 M _ e9) zm_yX7_normalValue zl_RL_87 zi_yX7_normalValue ze_yX7_normalValue zcI7 g1 rfl (by simp [Value.category]) (by decide) (Nat.le_of_ble_eq_true rfl) (Nat.le_of_ble_eq_true rfl) dL_normalValue_4 (by rw [hx0]; rfl) (fun hne H1 locs1 q9 ce hY1 hO1 hce hcv hcl => ?_) (fun h0 H1 locs1 hY1 hO1 => ?_)
  · replace h := z_f hne h
    by_cases c0 : o1.1 = 1
    · replace h := z_t c0 h
      cases h
      rw [c0] at hcl
      refine zH_catch (i := 1) (j := 0) hown hts hU.2.2.1 hNC htab [1] rfl rfl (fun k hk => absurd hk (Nat.not_lt_zero _)) ⟨by decide, by decide⟩ (fun k q i9 f1 f2 => by match k, f1, f2 with | 0, f1, f2 => cases f1; cases f2; exact ⟨by decide, by decide, by decide, zk_RL_13⟩ | n + 1, f1, _ => simp at f1) zcast1 hce hcv hcl (fun x hx9 => ?_)
      cases hx9
      refine lv_astore_n hx hb dL_normalValue_12 rfl hl (by decide) rfl (fun ls hl => ?_)
      refine lv_iconst (v := 1) hx hb dL_normalValue_13 (by decide) ?_
      refine W.widen (k := 1) (n := 6) (by decide) (by decide) ?_
      exact W.iret (v := 1) hx hb hr (fun t ht hW => ⟨⟨1, (), rfl, by decide, by rw [ht]; exact hY1.1, by rw [ht]; exact hO1, va_K.moved hW.alike hK, hY1.2.2.2.2.2 rfl⟩, hY1.2.2.1.F ht⟩) hY1.2.2.1.2.2 dL_normalValue_14 hlocks
    · replace h := z_f c0 h
      cases h
  · replace h := z_t h0 h
    cases h
    have hao1 : b + o1.2.2.2.2.2 < ao := by rw [hY1.2.2.2.2.2 rfl]; exact hao
    refine lv_i2l hx hb dL_normalValue_7 rfl ?_
    refine zH_out hx hb hK hY1 hO1 hao1 hAo dL_normalValue_8 (fun H2 locs2 hY2 hO2 => ?_)
    refine lv_goto (tgt := 15) hx hb dL_normalValue_9 (by decide) ?_
    refine lv_iconst (v := 0) hx hb dL_normalValue_15 (by decide) ?_
    refine W.widen (k := 1) (n := 6) (by decide) (by decide) ?_
    exact W.iret (v := 0) hx hb hr (fun t ht hW => ⟨⟨0, (), rfl, rfl, by rw [ht]; exact hY2.1, by rw [ht]; exact hO2, va_K.moved hW.alike hK, hY2.2.2.2.2.2 rfl⟩, hY2.2.2.1.F ht⟩) hY2.2.2.1.2.2 dL_normalValue_16 hlocks
def fL_ways (x0 : Nat) (M : zM) (w : Nat → Int64) : Option (Int32 × zM × (Nat → Int64)) := zg (zk M x0 = 7) (zhS [3] w (fun r => vp_updL w 0 r.toInt64) (fX7_ways x0 M))
theorem zg_yL_ways : (Cond.codeWith yL_ways cL_ways 3 (some .int) [(0, 8, 11, 17)]) ∈ gtb := gi 854 (by decide +kernel) rfl
theorem zs_yL_ways : (Cond.static yL_ways) ∈ gtb := gi 853 (by decide +kernel) rfl
theorem zp_yL_ways : plainName yL_ways.cls = true := by decide +kernel
set_option maxHeartbeats 4000000 in
set_option maxRecDepth 100000 in
theorem vL_ways (l : Launch) (hl0 : l.stackTraces = false) (D : va_G) (T : Nat → ClassId) (b ao : Nat) (x0 : Nat) (M : zM) (w : Nat → Int64) (k : Int32) (M' : zM) (w' : Nat → Int64) (hao : b + M.2.2.2 < ao) (h : fL_ways x0 M w = some (k, M', w')) : zhMet l D T b ao yL_ways cL_ways 3 [(0, 8, 11, 17)] 243 1 6 [zr b x0, .ref ao] M w k M' w' := by
  unfold fL_ways at h
  obtain ⟨g1, h⟩ := zg_of h
  obtain ⟨o1, e9, h⟩ := zhS_of h
  have hx0 : zr b x0 = .ref (b + x0) := zr_pos (zk_1 g1 (by decide)).1
  intro sz
  refine va_MetW zp_yL_ways rfl ?_
  intro p e s m args below meth c s₁ B hml hv
  obtain ⟨rfl, hsz, hP, hO, hK, hU, hNw, hNC⟩ := hv
  subst hsz
  have hx := B.exec
  have hb := B.bytes
  have hr := B.returns
  have hlocks := B.notSynchronized
  have hts0 := atoms_spec (ws := Cond.codeWith yL_ways cL_ways 3 (some .int) [(0, 8, 11, 17)] :: gtb) B.pre
  have hts : ∀ w ∈ gtb, w.before _ s = true := fun w hw => hts0 w (List.mem_cons_of_mem _ hw)
  have hown : s.vm.findClass RL = some m.cls := findClass_of_methodNamed B.named
  have htab := vx_table (x := yL_ways) B (hts0 _ List.mem_cons_self)
  have hA : ∀ q : Nat, s.heap.size ≤ q → zAo b M.2.2.2 ao s.heap.size q := fun q h => Or.inr (Or.inr h)
  have hY : zY D T b false true M.2.2.2 M s s.heap (zAo b M.2.2.2 ao s.heap.size) [] := ⟨hP, zD_of (fun r h1 h2 => Or.inl ⟨by omega, by omega⟩), va_S.rf, fun hg => absurd hg Bool.false_ne_true, ⟨fun _ => hU, fun hg => absurd hg Bool.false_ne_true, hNw⟩, fun _ => rfl⟩
  have hAo : zAo b M.2.2.2 ao s.heap.size ao := Or.inr (Or.inl rfl)
  have hcat : zc1 [zr b x0, .ref ao] := ⟨zr_cat _ _, rfl, trivial⟩
  have hlen : (lg_sl [zr b x0, .ref ao]).length ≤ 3 := by rw [zarg_len _ hcat]; exact Nat.le_of_ble_eq_true rfl
  have hl := lv_entry ([zr b x0, .ref ao]) (n := 3) hlen
  rw [lg_entry_eq]
  rw [zarg_eq _ 0 hcat] at hl
  generalize (lg_sl [zr b x0, .ref ao] ++ List.replicate (3 - (lg_sl [zr b x0, .ref ao]).length) Slot.unset).toArray = ls at hl ⊢
  have hl : lv_has ls 3 [(0, zr b x0), (1, .ref ao)] := hl
  rw [hx0] at hl
  refine lv_aload_n hx hb dL_ways_0 rfl (lv_at hl 1 rfl) ?_
  refine lv_iconst (v := 0) hx hb dL_ways_1 (by decide) ?_
  refine lv_aload_n hx hb dL_ways_2 rfl (lv_at hl 0 rfl) ?_
  refine zH_calli hx hb hml hown hts rfl hK hA hY hO hao hl (As := []) (rest := [.int 0, .ref ao]) (vX7_ways l hl0 D T b x0 M _ e9) zm_yX7_ways zl_RL_90 zi_yX7_ways ze_yX7_ways zcI7 g1 rfl (by simp [Value.category]) (by decide) (Nat.le_of_ble_eq_true rfl) (Nat.le_of_ble_eq_true rfl) dL_ways_3 (by rw [hx0]; rfl) (fun hne H1 locs1 q9 ce hY1 hO1 hce hcv hcl => ?_) (fun h0 H1 locs1 hY1 hO1 => ?_)
  · replace h := z_f hne h
    by_cases c0 : o1.1 = 3
    · replace h := z_t c0 h
      cases h
      rw [c0] at hcl
      refine zH_catch (i := 3) (j := 0) hown hts hU.2.2.1 hNC htab [3] rfl rfl (fun k hk => absurd hk (Nat.not_lt_zero _)) ⟨by decide, by decide⟩ (fun k q i9 f1 f2 => by match k, f1, f2 with | 0, f1, f2 => cases f1; cases f2; exact ⟨by decide, by decide, by decide, zk_RL_17⟩ | n + 1, f1, _ => simp at f1) zcast3 hce hcv hcl (fun x hx9 => ?_)
      cases hx9
      refine lv_astore_n hx hb dL_ways_11 rfl hl (by decide) rfl (fun ls hl => ?_)
      refine lv_iconst (v := 1) hx hb dL_ways_12 (by decide) ?_
      refine W.widen (k := 1) (n := 6) (by decide) (by decide) ?_
      exact W.iret (v := 1) hx hb hr (fun t ht hW => ⟨⟨1, (), rfl, by decide, by rw [ht]; exact hY1.1, by rw [ht]; exact hO1, va_K.moved hW.alike hK, hY1.2.2.2.2.2 rfl⟩, hY1.2.2.1.F ht⟩) hY1.2.2.1.2.2 dL_ways_13 hlocks
    · replace h := z_f c0 h
      cases h
  · replace h := z_t h0 h
    cases h
    have hao1 : b + o1.2.2.2.2.2 < ao := by rw [hY1.2.2.2.2.2 rfl]; exact hao
    refine lv_i2l hx hb dL_ways_6 rfl ?_
    refine zH_out hx hb hK hY1 hO1 hao1 hAo dL_ways_7 (fun H2 locs2 hY2 hO2 => ?_)
    refine lv_goto (tgt := 14) hx hb dL_ways_8 (by decide) ?_
    refine lv_iconst (v := 0) hx hb dL_ways_14 (by decide) ?_
    refine W.widen (k := 1) (n := 6) (by decide) (by decide) ?_
    exact W.iret (v := 0) hx hb hr (fun t ht hW => ⟨⟨0, (), rfl, rfl, by rw [ht]; exact hY2.1, by rw [ht]; exact hO2, va_K.moved hW.alike hK, hY2.2.2.2.2.2 rfl⟩, hY2.2.2.1.F ht⟩) hY2.2.2.1.2.2 dL_ways_15 hlocks
