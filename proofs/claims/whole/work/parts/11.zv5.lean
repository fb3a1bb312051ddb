theorem zt_ot (i : Nat) (hi : i < 4) : ∀ w ∈ vx_atS RX7 (zIc i) (zEx i) zNm, vx_ot w = true := by
  have h : ∀ j, j < 4 → ((vx_atS RX7 (zIc j) (zEx j) zNm).all vx_ot) = true := by decide +kernel
  exact fun w hw => List.all_eq_true.mp (h i hi) w hw
theorem zt_fw (i : Nat) (h1 : 1 ≤ i) (h4 : i < 4) : ∀ w ∈ (vx_atS RX7 (zIc i) (zEx i) zNm).filter (fun w => !goodWord w), w ∈ zFw := by
  intro w hw
  unfold zFw
  rw [List.filter_append, List.filter_append]
  rcases (show i = 1 ∨ i = 2 ∨ i = 3 by omega) with e | e | e <;> subst e
  · exact List.mem_append_left _ hw
  · exact List.mem_append_right _ (List.mem_append_left _ hw)
  · exact List.mem_append_right _ (List.mem_append_right _ hw)
theorem zt_fit (i : Nat) (hi : i < 4) : Bundle.fit (zEx i) = true ∧ ∀ n ∈ zNm, Bundle.fit n = true := by
  have h : ∀ j, j < 4 → (Bundle.fit (zEx j) = true ∧ (zNm.all Bundle.fit) = true) := by decide +kernel
  exact ⟨(h i hi).1, fun n hn => List.all_eq_true.mp (h i hi).2 n hn⟩
theorem zV_throw {l : Launch} {cc : ByteArray} {nL : Nat} {ret : Option FieldType} {ini : Bool} {K mc ms : Nat} {D : va_G} {T : Nat → ClassId} {b n0 : Nat} {o : Nat × Int32 × zM} {cells slots pc : Nat} {lv : List (Nat × Value)} {st : List Value} {M : zM} {ik is ic : Nat} {text : String} {r : Int32} (i : Nat) (hl : l.stackTraces = false) (h1 : 1 ≤ i) (h4 : i < 4) (hic : zIc i = ic) (hk : (Cond.classLink RX7 ik (zEx i)) ∈ gtb) (hini : (Cond.initialized (zEx i)) ∈ gtb) (hstr : (is, text) ∈ zStr)
    (d0 : decode cc pc = .ok (.new ik, 3)) (d3 : decode cc (pc + 3) = .ok (.dup, 1)) (d4 : decode cc (pc + 4) = .ok (.ldc is, 2)) (d6 : decode cc (pc + 6) = .ok (.invokespecial ic, 3)) (d9 : decode cc (pc + 9) = .ok (.athrow, 1)) (hK : 6 ≤ K) (hcat : (st.map fun v => v.category).sum ≤ 8) (hmc : cells + 1 ≤ mc) (hms : slots + 6 ≤ ms) (ho : o = (i, r, M)) :
    zV true l RX7 cc nL ret ini K mc ms D T b false n0 o cells slots pc lv st M := by
  subst hic
  subst ho
  intro p e R s m args below meth c H locs A ls hX hY hc hl9
  have hR : R = zRm K mc ms := hX.2.2.2.2.2.2.2.2.2.1
  have hKK := hX.2.2.2.2.2.2.2.2.2.2.1
  obtain ⟨hU, hN, hFw, hSt⟩ := hY.2.2.2.2.1.1 rfl
  obtain ⟨sa, hsa⟩ := hSt _ hstr
  refine vx_throwS (names := zNm) (sa := sa) (A := A) hX.1 hX.2.1 hl hX.2.2.2.1 (zt_fit i h4).1 (zt_fit i h4).2 (hX.2.2.2.2.1 _ hk) (hX.2.2.2.2.1 _ hini) hsa ?_ ?_ hU hN hY.2.2.1 (by rw [hX.2.2.1]; exact hl9.1) d0 d3 d4 d6 d9 (fun x hx => (hX.2.2.2.2.2.2.2.2.1 x hx).elim) (by rw [hR]; show 2 + 3 < K; omega) (by rw [hR]; show _ + (13 * 3 + 43) ≤ 64 * K; omega) (by rw [hR]; exact hmc) (by rw [hR]; exact hms) hX.2.2.2.2.2.1 (fun t hv hz hq => ?_) hY.2.2.1.2.2 hmc hms
  · refine vx_hat (B := zFw) (fun w hw => hX.2.2.2.2.1 _ (zt_sub i h4 w hw)) (zt_fw i h1 h4) (fun w hw => ?_)
    have h9 := List.all_eq_true.mp zFw_ok w hw
    simp only [Bool.and_eq_true] at h9
    exact vx_ot_at (State.WarmedH.refl s) rfl (by unfold vx_ot; rw [h9.1]; rfl) (hFw w hw)
  · intro w hw
    rcases List.mem_cons.mp hw with e | e
    · rw [e]; rfl
    · rcases List.mem_cons.mp e with e | e
      · rw [e]; rfl
      · exact zt_ot i h4 w e
  · refine ⟨(), by show ¬ i = 0; omega, ⟨rfl, hY.1.kept (fun k q hk9 => hq q.1 ((hY.1 k q hk9).lt)), va_K.moved hv hKK, fun hg => absurd hg Bool.false_ne_true, hY.2.2.2.2.2⟩, Nat.le_trans hY.2.2.1.1 hz, fun q g1 g2 => ?_⟩
    rw [hq q (Nat.lt_of_lt_of_le g1 hY.2.2.1.1)]
    exact hY.2.2.1.2.1 q g1 g2
