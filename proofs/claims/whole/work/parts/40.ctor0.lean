/-! constructors: helpers -/
theorem eFl_w {own : String} {idx ci j : Nat} {C : String} {T : u_T} {N : Nat} (h : eFl own idx ci j) (hq : vwCl[ci]? = some (C, T, N)) : Cond.fieldLink own idx C (T j).2.1 (T j).2.2.1 ∈ eTb := by
  obtain ⟨q, h1, h2, h3, h4⟩ := h
  have e : q = (C, T, N) := Option.some.inj (h1.symm.trans hq)
  subst e
  exact h4
theorem arr_i {D : va_G} {cy : Nat → ClassId} {cA : ClassId} {s : State} (h : va_K D vwCl (eT cy ++ [(cA, .int)]) s) : cA = cy 1 := by
  have a : s.vm.findClass ("[" ++ FieldType.int.toString) = some cA := (h.2 4 (cA, .int) rfl).2
  have b : s.vm.findClass ("[" ++ FieldType.int.toString) = some (cy 1) := (h.2 1 (cy 1, .int) rfl).2
  exact Option.some.inj (a.symm.trans b)
theorem arr_b {D : va_G} {cy : Nat → ClassId} {cA : ClassId} {s : State} (h : va_K D vwCl (eT cy ++ [(cA, .byte)]) s) : cA = cy 0 := by
  have a : s.vm.findClass ("[" ++ FieldType.byte.toString) = some cA := (h.2 4 (cA, .byte) rfl).2
  have b : s.vm.findClass ("[" ++ FieldType.byte.toString) = some (cy 0) := (h.2 0 (cy 0, .byte) rfl).2
  exact Option.some.inj (a.symm.trans b)
theorem arr_q {D : va_G} {cy : Nat → ClassId} {cA : ClassId} {s : State} (h : va_K D vwCl (eT cy ++ [(cA, .object "EclipseSeats$Hill")]) s) : cA = cy 3 := by
  obtain ⟨k1, c1, a1, a2, a3, a⟩ := (h.2 4 (cA, .object "EclipseSeats$Hill") rfl).2
  obtain ⟨k2, c2, b1, b2, b3, b⟩ := (h.2 3 (cy 3, .object "EclipseSeats$Hill") rfl).2
  exact Option.some.inj (a.symm.trans b)
theorem upd_zero (k : Nat) : upd (fun _ => 0) k 0 = fun _ => 0 := by
  funext j; unfold upd; split <;> rfl
/-! constructors, printed by wip/gen/cwalk.py -/
theorem wo_X0 : Cond.methodLink RX0 3 objectInit ∈ eTb := (eTm (List.mem_of_getElem? (i := 213) (by decide +kernel)) (by decide +kernel))
theorem wk_X0 : Cond.code yX0_init cX0_init 1 none ∈ eTb := (eTm (List.mem_of_getElem? (i := 212) (by decide +kernel)) (by decide +kernel))
theorem wm_X0 : Cond.instanceMethod yX0_init ∈ eTb := (eTm (List.mem_of_getElem? (i := 211) (by decide +kernel)) (by decide +kernel))
theorem wi_X0 : Cond.initialized RX0 ∈ eTb := (eTm (List.mem_of_getElem? (i := 70) (by decide +kernel)) (by decide +kernel))
theorem wn_X0 : Cond.instantiable RX0 4 ∈ eTb := (eTm (List.mem_of_getElem? (i := 209) (by decide +kernel)) (by decide +kernel))
theorem wo_X1 : Cond.methodLink RX1 3 objectInit ∈ eTb := (eTm (List.mem_of_getElem? (i := 232) (by decide +kernel)) (by decide +kernel))
theorem wk_X1 : Cond.code yX1_init cX1_init 1 none ∈ eTb := (eTm (List.mem_of_getElem? (i := 231) (by decide +kernel)) (by decide +kernel))
theorem wm_X1 : Cond.instanceMethod yX1_init ∈ eTb := (eTm (List.mem_of_getElem? (i := 230) (by decide +kernel)) (by decide +kernel))
theorem wi_X1 : Cond.initialized RX1 ∈ eTb := (eTm (List.mem_of_getElem? (i := 71) (by decide +kernel)) (by decide +kernel))
theorem wn_X1 : Cond.instantiable RX1 1 ∈ eTb := (eTm (List.mem_of_getElem? (i := 228) (by decide +kernel)) (by decide +kernel))
theorem wo_X2 : Cond.methodLink RX2 3 objectInit ∈ eTb := (eTm (List.mem_of_getElem? (i := 93) (by decide +kernel)) (by decide +kernel))
theorem wk_X2 : Cond.code yX2_init cX2_init 1 none ∈ eTb := (eTm (List.mem_of_getElem? (i := 92) (by decide +kernel)) (by decide +kernel))
theorem wm_X2 : Cond.instanceMethod yX2_init ∈ eTb := (eTm (List.mem_of_getElem? (i := 91) (by decide +kernel)) (by decide +kernel))
theorem wi_X2 : Cond.initialized RX2 ∈ eTb := (eTm (List.mem_of_getElem? (i := 67) (by decide +kernel)) (by decide +kernel))
theorem wn_X2 : Cond.instantiable RX2 13 ∈ eTb := (eTm (List.mem_of_getElem? (i := 89) (by decide +kernel)) (by decide +kernel))
theorem wo_X4 : Cond.methodLink RX4 5 objectInit ∈ eTb := (eTm (List.mem_of_getElem? (i := 194) (by decide +kernel)) (by decide +kernel))
theorem wk_X4 : Cond.code yX4_init cX4_init 1 none ∈ eTb := (eTm (List.mem_of_getElem? (i := 193) (by decide +kernel)) (by decide +kernel))
theorem wm_X4 : Cond.instanceMethod yX4_init ∈ eTb := (eTm (List.mem_of_getElem? (i := 192) (by decide +kernel)) (by decide +kernel))
theorem wi_X4 : Cond.initialized RX4 ∈ eTb := (eTm (List.mem_of_getElem? (i := 69) (by decide +kernel)) (by decide +kernel))
theorem wn_X4 : Cond.instantiable RX4 4 ∈ eTb := (eTm (List.mem_of_getElem? (i := 190) (by decide +kernel)) (by decide +kernel))
theorem wo_X5 : Cond.methodLink RX5 3 objectInit ∈ eTb := (eTm (List.mem_of_getElem? (i := 166) (by decide +kernel)) (by decide +kernel))
theorem wk_X5 : Cond.code yX5_init cX5_init 1 none ∈ eTb := (eTm (List.mem_of_getElem? (i := 165) (by decide +kernel)) (by decide +kernel))
theorem wm_X5 : Cond.instanceMethod yX5_init ∈ eTb := (eTm (List.mem_of_getElem? (i := 164) (by decide +kernel)) (by decide +kernel))
theorem wi_X5 : Cond.initialized RX5 ∈ eTb := (eTm (List.mem_of_getElem? (i := 68) (by decide +kernel)) (by decide +kernel))
theorem wn_X5 : Cond.instantiable RX5 6 ∈ eTb := (eTm (List.mem_of_getElem? (i := 162) (by decide +kernel)) (by decide +kernel))
theorem wo_X6 : Cond.methodLink RX6 3 objectInit ∈ eTb := (eTm (List.mem_of_getElem? (i := 85) (by decide +kernel)) (by decide +kernel))
theorem wk_X6 : Cond.code yX6_init cX6_init 1 none ∈ eTb := (eTm (List.mem_of_getElem? (i := 84) (by decide +kernel)) (by decide +kernel))
theorem wm_X6 : Cond.instanceMethod yX6_init ∈ eTb := (eTm (List.mem_of_getElem? (i := 83) (by decide +kernel)) (by decide +kernel))
theorem wi_X6 : Cond.initialized RX6 ∈ eTb := (eTm (List.mem_of_getElem? (i := 66) (by decide +kernel)) (by decide +kernel))
theorem wn_X6 : Cond.instantiable RX6 12 ∈ eTb := (eTm (List.mem_of_getElem? (i := 81) (by decide +kernel)) (by decide +kernel))
theorem wo_X7 : Cond.methodLink RX7 7 objectInit ∈ eTb := (eTm (List.mem_of_getElem? (i := 743) (by decide +kernel)) (by decide +kernel))
theorem wk_X7 : Cond.code yX7_init cX7_init 1 none ∈ eTb := (eTm (List.mem_of_getElem? (i := 742) (by decide +kernel)) (by decide +kernel))
theorem wm_X7 : Cond.instanceMethod yX7_init ∈ eTb := (eTm (List.mem_of_getElem? (i := 741) (by decide +kernel)) (by decide +kernel))
theorem wi_X7 : Cond.initialized RX7 ∈ eTb := (eTm (List.mem_of_getElem? (i := 72) (by decide +kernel)) (by decide +kernel))
theorem wn_X7 : Cond.instantiable RX7 32 ∈ eTb := (eTm (List.mem_of_getElem? (i := 739) (by decide +kernel)) (by decide +kernel))
theorem wo_inst : Cond.instanceMethod objectInit ∈ eTb := (eTm (List.mem_of_getElem? (i := 86) (by decide +kernel)) (by decide +kernel))
theorem wo_code : Cond.code objectInit ⟨#[0xb1]⟩ 1 none ∈ eTb := (eTm (List.mem_of_getElem? (i := 87) (by decide +kernel)) (by decide +kernel))
theorem wa_int : Cond.arrayClass .int ∈ eTb := (eTm (List.mem_of_getElem? (i := 159) (by decide +kernel)) (by decide +kernel))
theorem wa_byte : Cond.arrayClass .byte ∈ eTb := (eTm (List.mem_of_getElem? (i := 188) (by decide +kernel)) (by decide +kernel))
theorem wl_L_7 : Cond.classLink RL 7 RX6 ∈ eTb := (eTm (List.mem_of_getElem? (i := 80) (by decide +kernel)) (by decide +kernel))
theorem wl_X6_9 : Cond.classLink RX6 9 RX2 ∈ eTb := (eTm (List.mem_of_getElem? (i := 88) (by decide +kernel)) (by decide +kernel))
theorem wl_X6_23 : Cond.classLink RX6 23 RX5 ∈ eTb := (eTm (List.mem_of_getElem? (i := 161) (by decide +kernel)) (by decide +kernel))
theorem wl_X6_30 : Cond.classLink RX6 30 RX4 ∈ eTb := (eTm (List.mem_of_getElem? (i := 189) (by decide +kernel)) (by decide +kernel))
theorem wl_X6_37 : Cond.classLink RX6 37 RX0 ∈ eTb := (eTm (List.mem_of_getElem? (i := 208) (by decide +kernel)) (by decide +kernel))
theorem wl_X6_44 : Cond.classLink RX6 44 RX1 ∈ eTb := (eTm (List.mem_of_getElem? (i := 227) (by decide +kernel)) (by decide +kernel))
theorem wl_L_10 : Cond.classLink RL 10 RX7 ∈ eTb := (eTm (List.mem_of_getElem? (i := 738) (by decide +kernel)) (by decide +kernel))
theorem wb_X7_begin : eCalV RX7 75 2 mX7_begin := cvX7_75
theorem wsV_good {own : String} {idx n : Nat} {M : eM} (w : eCalV own idx n M) : GoodIn eTb (wsV own idx M.1.cls M.1 (Cond.code M.1 M.2.1 M.2.2.1 M.2.2.2.1 :: eTb)) := by
  obtain ⟨⟨w1, w2, w3, w4, w5⟩, -⟩ := w
  have hG := eGoodIn w5
  intro v hv
  rcases List.mem_append.mp hv with h | h
  · have hm : v ∈ eTb := by
      simp only [List.mem_cons, List.not_mem_nil, or_false] at h
      rcases h with rfl | rfl | rfl | rfl
      · exact w1
      · exact w2
      · exact w3
      · exact w4
    exact ⟨hm, good_of_word (eGood hm)⟩
  · exact hG v h
