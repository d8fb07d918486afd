/-! String constants: the JDK's own methods over them (printed by wip/gen/strgen.py) -/
theorem dJ0_length_8abf5_0 : decode cJ0_length_8abf5 0 = .ok (.aload_n 0, 1) := by decide +kernel
theorem dJ0_length_8abf5_1 : decode cJ0_length_8abf5 1 = .ok (.getfield 9, 3) := by decide +kernel
theorem dJ0_length_8abf5_4 : decode cJ0_length_8abf5 4 = .ok (.arraylength, 1) := by decide +kernel
theorem dJ0_length_8abf5_5 : decode cJ0_length_8abf5 5 = .ok (.aload_n 0, 1) := by decide +kernel
theorem dJ0_length_8abf5_6 : decode cJ0_length_8abf5 6 = .ok (.invokevirtual 335, 3) := by decide +kernel
theorem dJ0_length_8abf5_9 : decode cJ0_length_8abf5 9 = .ok (.ishr, 1) := by decide +kernel
theorem dJ0_length_8abf5_10 : decode cJ0_length_8abf5 10 = .ok (.ireturn, 1) := by decide +kernel
theorem dJ0_coder_7d493_0 : decode cJ0_coder_7d493 0 = .ok (.getstatic 38, 3) := by decide +kernel
theorem dJ0_coder_7d493_3 : decode cJ0_coder_7d493 3 = .ok (.ifCond .eq 10, 3) := by decide +kernel
theorem dJ0_coder_7d493_6 : decode cJ0_coder_7d493 6 = .ok (.aload_n 0, 1) := by decide +kernel
theorem dJ0_coder_7d493_7 : decode cJ0_coder_7d493 7 = .ok (.getfield 15, 3) := by decide +kernel
theorem dJ0_coder_7d493_10 : decode cJ0_coder_7d493 10 = .ok (.goto 4, 3) := by decide +kernel
theorem dJ0_coder_7d493_13 : decode cJ0_coder_7d493 13 = .ok (.iconst 1, 1) := by decide +kernel
theorem dJ0_coder_7d493_14 : decode cJ0_coder_7d493 14 = .ok (.ireturn, 1) := by decide +kernel
theorem dJ0_charAt_5068e_0 : decode cJ0_charAt_5068e 0 = .ok (.aload_n 0, 1) := by decide +kernel
theorem dJ0_charAt_5068e_1 : decode cJ0_charAt_5068e 1 = .ok (.invokevirtual 492, 3) := by decide +kernel
theorem dJ0_charAt_5068e_4 : decode cJ0_charAt_5068e 4 = .ok (.ifCond .eq 12, 3) := by decide +kernel
theorem dJ0_charAt_5068e_7 : decode cJ0_charAt_5068e 7 = .ok (.aload_n 0, 1) := by decide +kernel
theorem dJ0_charAt_5068e_8 : decode cJ0_charAt_5068e 8 = .ok (.getfield 9, 3) := by decide +kernel
theorem dJ0_charAt_5068e_11 : decode cJ0_charAt_5068e 11 = .ok (.iload_n 1, 1) := by decide +kernel
theorem dJ0_charAt_5068e_12 : decode cJ0_charAt_5068e 12 = .ok (.invokestatic 495, 3) := by decide +kernel
theorem dJ0_charAt_5068e_15 : decode cJ0_charAt_5068e 15 = .ok (.ireturn, 1) := by decide +kernel
theorem dJ0_isLatin1_aae02_0 : decode cJ0_isLatin1_aae02 0 = .ok (.getstatic 38, 3) := by decide +kernel
theorem dJ0_isLatin1_aae02_3 : decode cJ0_isLatin1_aae02 3 = .ok (.ifCond .eq 14, 3) := by decide +kernel
theorem dJ0_isLatin1_aae02_6 : decode cJ0_isLatin1_aae02 6 = .ok (.aload_n 0, 1) := by decide +kernel
theorem dJ0_isLatin1_aae02_7 : decode cJ0_isLatin1_aae02 7 = .ok (.getfield 15, 3) := by decide +kernel
theorem dJ0_isLatin1_aae02_10 : decode cJ0_isLatin1_aae02 10 = .ok (.ifCond .ne 7, 3) := by decide +kernel
theorem dJ0_isLatin1_aae02_13 : decode cJ0_isLatin1_aae02 13 = .ok (.iconst 1, 1) := by decide +kernel
theorem dJ0_isLatin1_aae02_14 : decode cJ0_isLatin1_aae02 14 = .ok (.goto 4, 3) := by decide +kernel
theorem dJ0_isLatin1_aae02_17 : decode cJ0_isLatin1_aae02 17 = .ok (.iconst 0, 1) := by decide +kernel
theorem dJ0_isLatin1_aae02_18 : decode cJ0_isLatin1_aae02 18 = .ok (.ireturn, 1) := by decide +kernel
theorem dJ1_charAt_3b067_0 : decode cJ1_charAt_3b067 0 = .ok (.iload_n 1, 1) := by decide +kernel
theorem dJ1_charAt_3b067_1 : decode cJ1_charAt_3b067 1 = .ok (.aload_n 0, 1) := by decide +kernel
theorem dJ1_charAt_3b067_2 : decode cJ1_charAt_3b067 2 = .ok (.arraylength, 1) := by decide +kernel
theorem dJ1_charAt_3b067_3 : decode cJ1_charAt_3b067 3 = .ok (.invokestatic 9, 3) := by decide +kernel
theorem dJ1_charAt_3b067_6 : decode cJ1_charAt_3b067 6 = .ok (.aload_n 0, 1) := by decide +kernel
theorem dJ1_charAt_3b067_7 : decode cJ1_charAt_3b067 7 = .ok (.iload_n 1, 1) := by decide +kernel
theorem dJ1_charAt_3b067_8 : decode cJ1_charAt_3b067 8 = .ok (.baload, 1) := by decide +kernel
theorem dJ1_charAt_3b067_9 : decode cJ1_charAt_3b067 9 = .ok (.sipush 255, 3) := by decide +kernel
theorem dJ1_charAt_3b067_12 : decode cJ1_charAt_3b067 12 = .ok (.iand, 1) := by decide +kernel
theorem dJ1_charAt_3b067_13 : decode cJ1_charAt_3b067 13 = .ok (.i2c, 1) := by decide +kernel
theorem dJ1_charAt_3b067_14 : decode cJ1_charAt_3b067 14 = .ok (.ireturn, 1) := by decide +kernel
theorem dJ0_checkIndex_df160_0 : decode cJ0_checkIndex_df160 0 = .ok (.iload_n 0, 1) := by decide +kernel
theorem dJ0_checkIndex_df160_1 : decode cJ0_checkIndex_df160 1 = .ok (.iload_n 1, 1) := by decide +kernel
theorem dJ0_checkIndex_df160_2 : decode cJ0_checkIndex_df160 2 = .ok (.getstatic 1053, 3) := by decide +kernel
theorem dJ0_checkIndex_df160_5 : decode cJ0_checkIndex_df160 5 = .ok (.invokestatic 1059, 3) := by decide +kernel
theorem dJ0_checkIndex_df160_8 : decode cJ0_checkIndex_df160 8 = .ok (.pop, 1) := by decide +kernel
theorem dJ0_checkIndex_df160_9 : decode cJ0_checkIndex_df160 9 = .ok (.return_, 1) := by decide +kernel
theorem dJ3_checkIndex_8e157_0 : decode cJ3_checkIndex_8e157 0 = .ok (.iload_n 0, 1) := by decide +kernel
theorem dJ3_checkIndex_8e157_1 : decode cJ3_checkIndex_8e157 1 = .ok (.ifCond .lt 8, 3) := by decide +kernel
theorem dJ3_checkIndex_8e157_4 : decode cJ3_checkIndex_8e157 4 = .ok (.iload_n 0, 1) := by decide +kernel
theorem dJ3_checkIndex_8e157_5 : decode cJ3_checkIndex_8e157 5 = .ok (.iload_n 1, 1) := by decide +kernel
theorem dJ3_checkIndex_8e157_6 : decode cJ3_checkIndex_8e157 6 = .ok (.if_icmp .lt 10, 3) := by decide +kernel
theorem dJ3_checkIndex_8e157_16 : decode cJ3_checkIndex_8e157 16 = .ok (.iload_n 0, 1) := by decide +kernel
theorem dJ3_checkIndex_8e157_17 : decode cJ3_checkIndex_8e157 17 = .ok (.ireturn, 1) := by decide +kernel
theorem wf_value : Cond.fieldLink RJ0 9 "java/lang/String" "value" "[B" ∈ eTb := (eTm (List.mem_of_getElem? (i := 1196) (by decide +kernel)) (by decide +kernel))
theorem wf_coder : Cond.fieldLink RJ0 15 "java/lang/String" "coder" "B" ∈ eTb := (eTm (List.mem_of_getElem? (i := 1197) (by decide +kernel)) (by decide +kernel))
theorem wf_compact : Cond.fieldLink RJ0 38 "java/lang/String" "COMPACT_STRINGS" "Z" ∈ eTb := (eTm (List.mem_of_getElem? (i := 362) (by decide +kernel)) (by decide +kernel))
theorem wf_sio : Cond.fieldLink RJ0 1053 "jdk/internal/util/Preconditions" "SIOOBE_FORMATTER" "Ljava/util/function/BiFunction;" ∈ eTb := (eTm (List.mem_of_getElem? (i := 378) (by decide +kernel)) (by decide +kernel))
theorem cvX5_112 : eCalV RX5 112 0 mJ0_length_8abf5 := ⟨⟨(eTm (List.mem_of_getElem? (i := 354) (by decide +kernel)) (by decide +kernel)), (eTm (List.mem_of_getElem? (i := 355) (by decide +kernel)) (by decide +kernel)), (eTm (List.mem_of_getElem? (i := 356) (by decide +kernel)) (by decide +kernel)), (eTm (List.mem_of_getElem? (i := 74) (by decide +kernel)) (by decide +kernel)), (eTm (List.mem_of_getElem? (i := 357) (by decide +kernel)) (by decide +kernel))⟩, rfl, rfl, by decide +kernel, by decide +kernel, by decide +kernel⟩
theorem cvX5_117 : eCalV RX5 117 1 mJ0_charAt_5068e := ⟨⟨(eTm (List.mem_of_getElem? (i := 364) (by decide +kernel)) (by decide +kernel)), (eTm (List.mem_of_getElem? (i := 365) (by decide +kernel)) (by decide +kernel)), (eTm (List.mem_of_getElem? (i := 366) (by decide +kernel)) (by decide +kernel)), (eTm (List.mem_of_getElem? (i := 74) (by decide +kernel)) (by decide +kernel)), (eTm (List.mem_of_getElem? (i := 367) (by decide +kernel)) (by decide +kernel))⟩, rfl, rfl, by decide +kernel, by decide +kernel, by decide +kernel⟩
theorem cvJ0_335 : eCalV RJ0 335 0 mJ0_coder_7d493 := ⟨⟨(eTm (List.mem_of_getElem? (i := 358) (by decide +kernel)) (by decide +kernel)), (eTm (List.mem_of_getElem? (i := 359) (by decide +kernel)) (by decide +kernel)), (eTm (List.mem_of_getElem? (i := 360) (by decide +kernel)) (by decide +kernel)), (eTm (List.mem_of_getElem? (i := 74) (by decide +kernel)) (by decide +kernel)), (eTm (List.mem_of_getElem? (i := 361) (by decide +kernel)) (by decide +kernel))⟩, rfl, rfl, by decide +kernel, by decide +kernel, by decide +kernel⟩
theorem cvJ0_492 : eCalV RJ0 492 0 mJ0_isLatin1_aae02 := ⟨⟨(eTm (List.mem_of_getElem? (i := 368) (by decide +kernel)) (by decide +kernel)), (eTm (List.mem_of_getElem? (i := 369) (by decide +kernel)) (by decide +kernel)), (eTm (List.mem_of_getElem? (i := 370) (by decide +kernel)) (by decide +kernel)), (eTm (List.mem_of_getElem? (i := 74) (by decide +kernel)) (by decide +kernel)), (eTm (List.mem_of_getElem? (i := 371) (by decide +kernel)) (by decide +kernel))⟩, rfl, rfl, by decide +kernel, by decide +kernel, by decide +kernel⟩
theorem csJ0_495 : eCalS RJ0 495 2 mJ1_charAt_3b067 := ⟨⟨(eTm (List.mem_of_getElem? (i := 372) (by decide +kernel)) (by decide +kernel)), (eTm (List.mem_of_getElem? (i := 373) (by decide +kernel)) (by decide +kernel)), (eTm (List.mem_of_getElem? (i := 75) (by decide +kernel)) (by decide +kernel)), (eTm (List.mem_of_getElem? (i := 374) (by decide +kernel)) (by decide +kernel))⟩, rfl, rfl, by decide +kernel, by decide +kernel, by decide +kernel⟩
theorem csJ1_9 : eCalS RJ1 9 2 mJ0_checkIndex_df160 := ⟨⟨(eTm (List.mem_of_getElem? (i := 375) (by decide +kernel)) (by decide +kernel)), (eTm (List.mem_of_getElem? (i := 376) (by decide +kernel)) (by decide +kernel)), (eTm (List.mem_of_getElem? (i := 74) (by decide +kernel)) (by decide +kernel)), (eTm (List.mem_of_getElem? (i := 377) (by decide +kernel)) (by decide +kernel))⟩, rfl, rfl, by decide +kernel, by decide +kernel, by decide +kernel⟩
theorem csJ0_1059 : eCalS RJ0 1059 3 mJ3_checkIndex_8e157 := ⟨⟨(eTm (List.mem_of_getElem? (i := 380) (by decide +kernel)) (by decide +kernel)), (eTm (List.mem_of_getElem? (i := 381) (by decide +kernel)) (by decide +kernel)), (eTm (List.mem_of_getElem? (i := 76) (by decide +kernel)) (by decide +kernel)), (eTm (List.mem_of_getElem? (i := 382) (by decide +kernel)) (by decide +kernel))⟩, rfl, rfl, by decide +kernel, by decide +kernel, by decide +kernel⟩
theorem CX.str {X : eX} {B : eB} {A : Nat → Prop} {R : Room} {own : String} {cc : ByteArray} {nL kc ks : Nat} (C : CX X B A R own cc nL kc ks) : eS B.2.2 A (xS X) (xS X).heap := C.2.2.2.2.2.2.2.1
section ESTR
variable {X : eX} {B : eB} {A : Nat → Prop} {R : Room} {own : String} {cc : ByteArray} {nL kc ks : Nat} {Q : State → Prop} {σ τ : eSt} {pc nx : Nat} {ls : List (Option Value)} {st : List Value} {r : Option Value}
theorem ww_ldcs {i idx : Nat} {tx : String} (C : CX X B A R own cc nL kc ks) (d : decode cc pc = .ok (.ldc idx, 2)) (hn : pc + 2 = nx) (hz : vk_R own idx tx (B.2.2 i) (xS X)) (k : WW X B A nL kc ks Q σ nx ls (.ref i :: st)) : WW X B A nL kc ks Q σ pc ls st := by
  subst hn
  intro H locs la hP hD hS hl
  exact va_ldcS C.1 C.2.1 C.2.2.2.1 hz d (k H locs la hP hD hS hl)
theorem ww_gets {C0 n d0 : String} {v : Int32} {index : Nat} (C : CX X B A R own cc nL kc ks) (hZ : va_Z C0 n d0 (.int v) A (xS X) (xS X).heap) (hw : Cond.fieldLink own index C0 n d0 ∈ eTb) (d : decode cc pc = .ok (.getstatic index, 3)) (hn : pc + 3 = nx) (k : WW X B A nL kc ks Q σ nx ls (.int v :: st)) : WW X B A nL kc ks Q σ pc ls st := by
  subst hn
  intro H locs la hP hD hS hl
  exact va_gets C.1 C.2.1 hZ hS C.2.2.2.1 (C.2.2.2.2.1 _ hw) (fun x h => h) d (k H locs la hP hD hS hl)
theorem ww_gval {i index : Nat} (hi : i < 5) (C : CX X B A R own cc nL kc ks) (hw : Cond.fieldLink own index "java/lang/String" "value" "[B" ∈ eTb) (d : decode cc pc = .ok (.getfield index, 3)) (hn : pc + 3 = nx) (k : WW X B A nL kc ks Q σ nx ls (.ref (1100 + i) :: st)) : WW X B A nL kc ks Q σ pc ls (.ref (1000 + i) :: st) := by
  subst hn
  intro H locs la hP hD hS hl
  exact vk_getf C.1 C.2.1 (C.str.1.1 i hi).2.2.1 hS C.2.2.2.1 (C.2.2.2.2.1 _ hw) (fun x h => h) d (k H locs la hP hD hS hl)
theorem ww_gcod {i index : Nat} (hi : i < 5) (C : CX X B A R own cc nL kc ks) (hw : Cond.fieldLink own index "java/lang/String" "coder" "B" ∈ eTb) (d : decode cc pc = .ok (.getfield index, 3)) (hn : pc + 3 = nx) (k : WW X B A nL kc ks Q σ nx ls (.int 0 :: st)) : WW X B A nL kc ks Q σ pc ls (.ref (1000 + i) :: st) := by
  subst hn
  intro H locs la hP hD hS hl
  exact vk_getf C.1 C.2.1 (C.str.1.1 i hi).2.1 hS C.2.2.2.1 (C.2.2.2.2.1 _ hw) (fun x h => h) d (k H locs la hP hD hS hl)
theorem ww_slen {i : Nat} (hi : i < 5) (C : CX X B A R own cc nL kc ks) (d : decode cc pc = .ok (.arraylength, 1)) (hn : pc + 1 = nx) (k : WW X B A nL kc ks Q σ nx ls (.int (Int32.ofNat (eLen.getD i 0)) :: st)) : WW X B A nL kc ks Q σ pc ls (.ref (1100 + i) :: st) := by
  subst hn
  intro H locs la hP hD hS hl
  exact va_tlen C.1 C.2.1 (C.str.1.1 i hi).2.2.2 hS rfl d (k H locs la hP hD hS hl)
theorem ww_sbald {i : Nat} {x : Int32} (hi : i < 5) (C : CX X B A R own cc nL kc ks) (d : decode cc pc = .ok (.baload, 1)) (hn : pc + 1 = nx) (hx : vp_in x (eLen.getD i 0)) (k : WW X B A nL kc ks Q σ nx ls (.int ((eByt.getD i []).getD x.toNatClampNeg 0) :: st)) : WW X B A nL kc ks Q σ pc ls (.int x :: .ref (1100 + i) :: st) := by
  subst hn
  intro H locs la hP hD hS hl
  exact va_tb C.1 C.2.1 (C.str.1.1 i hi).2.2.2 hS hx rfl d (k H locs la hP hD hS hl)
theorem ww_i2cv {x v : Int32} (C : CX X B A R own cc nL kc ks) (d : decode cc pc = .ok (.i2c, 1)) (hv : (x.toUInt32 % 65536).toInt32 = v) (hn : pc + 1 = nx) (k : WW X B A nL kc ks Q σ nx ls (.int v :: st)) : WW X B A nL kc ks Q σ pc ls (.int x :: st) := by
  subst hn
  intro H locs la hP hD hS hl
  exact lv_i2c C.1 C.2.1 d hv (k H locs la hP hD hS hl)
theorem ww_nret {v : Int32} {ty : FieldType} (C : CX X B A R own cc nL 0 0) (hA : A = eAA B (xS X).heap.size) (hr : (xMeth X).sig.returnType = some ty) (hk : (xMeth X).locks = false) (d : decode cc pc = .ok (.ireturn, 1)) (hn : narrow ty (.int v) = .int v) (e : r = some (.int v)) (e2 : τ = σ) : WW X B A nL 0 0 (eFin X B r τ) σ pc ls [.int v] := by
  subst e; subst e2; subst hA
  intro H locs la hP hD hS hl
  exact W.zret (v := v) C.1 C.2.1 hr hn (fun t ht hW => ⟨⟨rfl, by rw [ht]; exact hP, hD.weaken (fun _ _ _ _ => trivial)⟩, hS.F ht⟩) hS.2.2 d hk
/-- a call upon a String constant -/
theorem ww_callVS {M : eM} {idx n i : Nat} {As : List Value} (hi : i < 5) (C : CX X B A R own cc nL kc ks) (d : decode cc pc = .ok (.invokevirtual idx, 3)) (hn : pc + 3 = nx) (w : eCalV own idx n M) (hq1 : "java/lang/String" = M.1.cls) (hR : eRm R M) (hlen : As.length = n) (hst : (st.map fun v => v.category).sum ≤ 8)
    (hrun : Run (xLa X) B M (.ref (1000 + i) :: As) σ r τ) (kk : WW X B A nL kc ks Q τ nx ls (r.toList ++ st)) : WW X B A nL kc ks Q σ pc ls (As.reverse ++ .ref (1000 + i) :: st) := by
  subst hn
  intro H locs la hP hD hS hl
  obtain ⟨⟨w1, w2, w3, w4, w5⟩, m1, m2, m3, m4, m5⟩ := w
  have hts := C.2.2.2.2.1
  have hrv := vk_recv C.str.1 hi hS
  rw [hq1] at hrv
  refine ww_back (av := .ref (1000 + i) :: As) C hD hS hl (va_runV (As := As.map (eV B.2.2)) (C := M.1.cls) (bytes := M.2.1) (maxL := M.2.2.1) (ret := M.2.2.2.1) (n := n) (Ts := eTb) ⟨C.1, C.2.1, C.2.2.1, C.2.2.2.1, hts⟩ (hrun H.size) (cwV n hts ?_ rfl m1 m2 ⟨rfl, m3, m4, m5⟩ (by rw [C.2.2.2.2.2.2.2.2.2.2]; exact hR)) ⟨eP_blind, hrv, eP_at C hP hD hS⟩ rfl (by rw [List.length_map]; exact hlen) hl.1 ?_ ?_ d (by rw [C.2.2.2.2.2.2.2.2.2.2]; exact ⟨C.2.2.2.2.2.2.2.2.1, C.2.2.2.2.2.2.2.2.2.1⟩)) kk
  · have hG := eGoodIn w5
    intro v hv
    rcases List.mem_append.mp hv with h | h
    · have hm : v ∈ eTb := by
        simp only [List.mem_cons, List.not_mem_nil, or_false] at h
        rcases h with rfl | rfl | rfl | rfl
        · exact w1
        · exact w2
        · exact w3
        · exact w4
      exact ⟨hm, good_of_word (eGood hm)⟩
    · exact hG v h
  · simp [List.map_reverse, eV]
  · exact lv_room (by rw [eCat]; exact hst)
/-- a static call with arguments as the machine has them -/
def ePc (B : eB) (av : List Value) (σ : eSt) (sz : Nat) : Array Value → State → Prop := va_Pc av (fun U => U.heap.size = sz ∧ va_P B.1 vwCl (eW B σ) U.heap ∧ va_K B.1 vwCl (eT B.2.1) U ∧ va_D (fun _ => True) (eW B σ) ∧ eS B.2.2 (eAA B sz) U U.heap)
theorem ePc_blind {av : List Value} {sz : Nat} : FrameBlind (ePc B av σ sz) := by
  intro a U g mk q
  obtain ⟨q0, q1, q2, q3, q4, q5⟩ := q
  exact ⟨q0, q1, q2, va_K.moved (u := U) (U := U.calling g mk a) (Vm.Alike.refl U.vm) q3, q4, eS_same (u := U) (U := U.calling g mk a) rfl q5⟩
theorem ww_callSC {M : eM} {idx n : Nat} {As : List Value} {H : Heap} {locs : List Loc} {la : Array Slot} (C : CX X B A R own cc nL kc ks) (hP : va_P B.1 vwCl (eW B σ) H) (hD : va_D A (eW B σ)) (hS : va_S A (xS X).heap H locs) (hl : eLv B.2.2 la nL ls) (d : decode cc pc = .ok (.invokestatic idx, 3)) (w : eCalS own idx n M) (hR : eRm R M) (hlen : As.length = n) (hst : (st.map fun v => v.category).sum ≤ 8)
    (hrun : ∀ sz : Nat, Met (xLa X) M.1 (Cond.code M.1 M.2.1 M.2.2.1 M.2.2.2.1 :: eTb) M.2.2.2.2 (ePc B As σ sz) (eQ B r τ sz) 0 0 (eAA B sz)) (kk : WW X B A nL kc ks Q τ (pc + 3) ls (r.toList ++ st)) : eWm X H locs kc ks Q (F0 (xM X) pc la (As.reverse ++ st.map (eV B.2.2))) := by
  obtain ⟨⟨w1, w2, w3, w5⟩, m1, m2, m3, m4, m5⟩ := w
  have hts := C.2.2.2.2.1
  refine ww_back (av := []) C hD hS hl (va_runS (As := As) (bytes := M.2.1) (maxL := M.2.2.1) (ret := M.2.2.2.1) (n := n) (Ts := eTb) ⟨C.1, C.2.1, C.2.2.1, C.2.2.2.1, hts⟩ (hrun H.size) (va_cwS n hts ?_ rfl m1 m2 ⟨m3, m4, m5⟩ (by rw [C.2.2.2.2.2.2.2.2.2.2]; exact hR)) ⟨ePc_blind, fun U hU hW => ⟨rfl, (eP_at (av := []) C hP hD hS U hU hW).2⟩⟩ rfl hlen hl.1 ?_ ?_ d (by rw [C.2.2.2.2.2.2.2.2.2.2]; exact ⟨C.2.2.2.2.2.2.2.2.1, C.2.2.2.2.2.2.2.2.2.1⟩)) kk
  · have hG := eGoodIn w5
    intro v hv
    rcases List.mem_append.mp hv with h | h
    · have hm : v ∈ eTb := by
        simp only [List.mem_cons, List.not_mem_nil, or_false] at h
        rcases h with rfl | rfl | rfl
        · exact w1
        · exact w2
        · exact w3
      exact ⟨hm, good_of_word (eGood hm)⟩
    · exact hG v h
  · rfl
  · exact lv_room (by rw [eCat]; exact hst)
theorem runC_intro {l : Launch} {M : eM} {av : List Value} {σ' : eSt} (hy : plainName M.1.cls = true) (hc : M.2.2.2.2.cells = 0) (hs : M.2.2.2.2.slots = 0) (hlen : (lg_sl av).length ≤ M.2.2.1) (hls : ∀ (i : Nat) (v : Value), ls[i]? = some (some v) → (i, eV B.2.2 v) ∈ lv_args 0 av)
    (body : ∀ (X : eX) (A : Nat → Prop), CX X B A M.2.2.2.2 M.1.cls M.2.1 M.2.2.1 0 0 → xLa X = l → A = eAA B (xS X).heap.size → (xMeth X).sig.returnType = M.2.2.2.1 → (xMeth X).locks = false → WW X B A M.2.2.1 0 0 (eFin X B r σ') σ 0 ls []) (sz : Nat) : Met l M.1 (Cond.code M.1 M.2.1 M.2.2.1 M.2.2.2.1 :: eTb) M.2.2.2.2 (ePc B av σ sz) (eQ B r σ' sz) 0 0 (eAA B sz) := by
  refine Met.ofW (cc := M.2.1) (maxL := M.2.2.1) (ret := M.2.2.2.1) hy rfl ?_
  intro p e s m args below meth c s₁ B0 hml hv
  obtain ⟨rfl, hsz, hP, hK, hD0, hSt⟩ := hv
  subst hsz
  have hts := atoms_spec (ws := Cond.code M.1 M.2.1 M.2.2.1 M.2.2.2.1 :: eTb) B0.pre
  have hown : s.vm.findClass M.1.cls = some m.cls := findClass_of_methodNamed B0.named
  have hD : va_D (eAA B s.heap.size) (eW B σ) := eW_Ad hD0
  have hl := lv_entry av (n := M.2.2.1) hlen
  have hlv : eLv B.2.2 ((lg_sl av ++ List.replicate (M.2.2.1 - (lg_sl av).length) Slot.unset).toArray) M.2.2.1 ls := ⟨hl.1, hl.2.1, fun i v hi => hl.2.2 _ (hls i v hi)⟩
  rw [lg_entry_eq]
  exact body (p, l, e, (headSpec (Cond.code M.1 M.2.1 M.2.2.1 M.2.2.2.1 :: eTb) M.2.2.2.2).room, s, m, av.toArray, below, meth, c) (eAA B s.heap.size)
    ⟨B0.exec, B0.bytes, hml, hown, fun w hw => hts w (List.mem_cons_of_mem _ hw), hK, fun q hq => hq, hSt, Nat.zero_le _, Nat.zero_le _, rfl⟩ rfl rfl B0.returns B0.notSynchronized s.heap [] _ hP hD va_S.rf hlv
end ESTR
section ZSTR
variable {l : Launch} {B : eB} {ζ : zSt}
/-- Preconditions.checkIndex, where the index is in its range -/
theorem run_J3_check {i n : Int} (hi : 0 ≤ i ∧ i < n) (hn : n ≤ 2147483647) {v : Value} (hv : v = .null ∨ ∃ t, v = .ref t) (sz : Nat) : Met l yJ3_checkIndex_8e157 (Cond.code yJ3_checkIndex_8e157 cJ3_checkIndex_8e157 3 (some .int) :: eTb) mJ3_checkIndex_8e157.2.2.2.2 (ePc B [zi i, zi n, v] (zz ζ) sz) (eQ B (some (zi i)) (zz ζ) sz) 0 0 (eAA B sz) := by
  refine runC_intro (M := mJ3_checkIndex_8e157) (ls := [some (zi i), some (zi n), none]) (by decide) rfl rfl ?_ ?_ ?_ sz
  · rcases hv with rfl | ⟨t, rfl⟩ <;> exact Nat.le_refl 3
  · intro j w hj
    match j, hj with
    | 0, hj =>
      have : zi i = w := by simpa using hj
      subst this
      exact List.mem_cons_self
    | 1, hj =>
      have : zi n = w := by simpa using hj
      subst this
      exact List.mem_cons_of_mem _ List.mem_cons_self
    | 2, hj => simp at hj
    | j + 3, hj => simp at hj
  · intro X A C hX hA hr hk
    replace C : CX X B A mJ3_checkIndex_8e157.2.2.2.2 RJ3 cJ3_checkIndex_8e157 3 0 0 := C
    have hr : (xMeth X).sig.returnType = some .int := hr
    change ZW X B A 3 0 0 (eFin X B (some (zi i)) (zz ζ)) ζ 0 [some (zi i), some (zi n), none] []
    refine zw_iload_n (i := 0) (nx := 1) C dJ3_checkIndex_8e157_0 rfl rfl rfl ?_
    refine zw_if_lt (tgt := 9) (nx := 4) C dJ3_checkIndex_8e157_1 rfl rfl (by omega) (fun h => by exfalso; omega) (fun _ => ?_)
    refine zw_iload_n (i := 0) (nx := 5) C dJ3_checkIndex_8e157_4 rfl rfl rfl ?_
    refine zw_iload_n (i := 1) (nx := 6) C dJ3_checkIndex_8e157_5 rfl rfl rfl ?_
    refine zw_icmp_lt (tgt := 16) (nx := 9) C dJ3_checkIndex_8e157_6 rfl rfl (by omega) (fun _ => ?_) (fun h => by exfalso; omega)
    refine zw_iload_n (i := 0) (nx := 17) C dJ3_checkIndex_8e157_16 rfl rfl rfl ?_
    exact zw_iret C hA hr hk dJ3_checkIndex_8e157_17 rfl rfl
theorem run_J0_checkIndex {i n : Int} (hi : 0 ≤ i ∧ i < n) (hn : n ≤ 2147483647) : zRun l B mJ0_checkIndex_df160 [zi i, zi n] ζ none ζ := by
  refine zrun_intro (M := mJ0_checkIndex_df160) (ls := [some (zi i), some (zi n)]) (by decide) rfl rfl rfl (Nat.le_of_ble_eq_true rfl) ?_
  intro X A C hX hA hr hk
  replace C : CX X B A mJ0_checkIndex_df160.2.2.2.2 RJ0 cJ0_checkIndex_df160 2 0 0 := C
  have hr : (xMeth X).sig.returnType = none := hr
  change ZW X B A 2 0 0 _ _ 0 [some (zi i), some (zi n)] []
  refine zw_iload_n (i := 0) (nx := 1) C dJ0_checkIndex_df160_0 rfl rfl rfl ?_
  refine zw_iload_n (i := 1) (nx := 2) C dJ0_checkIndex_df160_1 rfl rfl rfl ?_
  have tl : ZW X B A 2 0 0 (eFin X B none (zz ζ)) ζ 8 [some (zi i), some (zi n)] [zi i] := by
    refine zw_pop (nx := 9) C dJ0_checkIndex_df160_8 rfl rfl ?_
    exact zw_vret C hA hr hk dJ0_checkIndex_df160_9 rfl rfl
  intro H locs la hP hD hS hl
  rcases C.str.2.2.2.1 with hz | ⟨t, hz⟩
  · refine va_gets C.1 C.2.1 hz hS C.2.2.2.1 (C.2.2.2.2.1 _ wf_sio) (fun x h => h) dJ0_checkIndex_df160_2 ?_
    exact ww_callSC (M := mJ3_checkIndex_8e157) (As := [zi i, zi n, .null]) (r := some (zi i)) (τ := zz ζ) (st := []) C hP hD hS hl dJ0_checkIndex_df160_5 csJ0_1059 ⟨Nat.le_of_ble_eq_true rfl, Nat.le_of_ble_eq_true rfl⟩ rfl (Nat.le_of_ble_eq_true rfl) (fun sz => run_J3_check hi hn (Or.inl rfl) sz) tl
  · refine va_gets C.1 C.2.1 hz hS C.2.2.2.1 (C.2.2.2.2.1 _ wf_sio) (fun x h => h) dJ0_checkIndex_df160_2 ?_
    exact ww_callSC (M := mJ3_checkIndex_8e157) (As := [zi i, zi n, .ref t]) (r := some (zi i)) (τ := zz ζ) (st := []) C hP hD hS hl dJ0_checkIndex_df160_5 csJ0_1059 ⟨Nat.le_of_ble_eq_true rfl, Nat.le_of_ble_eq_true rfl⟩ rfl (Nat.le_of_ble_eq_true rfl) (fun sz => run_J3_check hi hn (Or.inr ⟨t, rfl⟩) sz) tl
/-- a constant's letters -/
def eWrd : List (List Int) := [[104, 105, 108, 108], [100, 97, 114, 107], [104, 101, 105, 103, 104, 116, 115], [111, 110, 101], [115, 101, 97, 116]]
def eChr (i k : Nat) : Int := (eWrd.getD i []).getD k 0
theorem eChr_ok : ∀ i, i < 5 → ∀ k, k < eLen.getD i 0 → (eByt.getD i []).getD k 0 = iI (eChr i k) ∧ (((iI (eChr i k) &&& iI 255).toUInt32 % 65536).toInt32 = iI (eChr i k)) ∧ narrow .char (zi (eChr i k)) = zi (eChr i k) ∧ 0 ≤ eChr i k ∧ eChr i k ≤ 127 := by decide +kernel
theorem eLen_ok : ∀ i, i < 5 → 0 < eLen.getD i 0 ∧ eLen.getD i 0 ≤ 7 := by decide
theorem run_J0_coder {i : Nat} (hi : i < 5) : zRun l B mJ0_coder_7d493 [.ref (1000 + i)] ζ (some (zi 0)) ζ := by
  refine zrun_intro (M := mJ0_coder_7d493) (ls := [some (.ref (1000 + i))]) (by decide) rfl rfl rfl (Nat.le_of_ble_eq_true rfl) ?_
  intro X A C hX hA hr hk
  replace C : CX X B A mJ0_coder_7d493.2.2.2.2 RJ0 cJ0_coder_7d493 1 0 0 := C
  have hr : (xMeth X).sig.returnType = some .byte := hr
  change ZW X B A 1 0 0 _ _ 0 [some (.ref (1000 + i))] []
  refine ww_gets (nx := 3) C C.str.2.2.1 wf_compact dJ0_coder_7d493_0 rfl ?_
  change ZW X B A 1 0 0 _ ζ 3 [some (.ref (1000 + i))] [zi 1]
  refine zw_if_eq (tgt := 13) (nx := 6) C dJ0_coder_7d493_3 rfl rfl (by omega) (fun h => by exfalso; omega) (fun _ => ?_)
  refine zw_aload_n (i := 0) (nx := 7) C dJ0_coder_7d493_6 rfl rfl rfl ?_
  refine ww_gcod (nx := 10) hi C wf_coder dJ0_coder_7d493_7 rfl ?_
  change ZW X B A 1 0 0 _ ζ 10 [some (.ref (1000 + i))] [zi 0]
  refine zw_goto (nx := 14) C dJ0_coder_7d493_10 rfl ?_
  exact ww_nret C hA hr hk dJ0_coder_7d493_14 rfl rfl rfl
theorem run_J0_isLatin1 {i : Nat} (hi : i < 5) : zRun l B mJ0_isLatin1_aae02 [.ref (1000 + i)] ζ (some (zi 1)) ζ := by
  refine zrun_intro (M := mJ0_isLatin1_aae02) (ls := [some (.ref (1000 + i))]) (by decide) rfl rfl rfl (Nat.le_of_ble_eq_true rfl) ?_
  intro X A C hX hA hr hk
  replace C : CX X B A mJ0_isLatin1_aae02.2.2.2.2 RJ0 cJ0_isLatin1_aae02 1 0 0 := C
  have hr : (xMeth X).sig.returnType = some .boolean := hr
  change ZW X B A 1 0 0 _ _ 0 [some (.ref (1000 + i))] []
  refine ww_gets (nx := 3) C C.str.2.2.1 wf_compact dJ0_isLatin1_aae02_0 rfl ?_
  change ZW X B A 1 0 0 _ ζ 3 [some (.ref (1000 + i))] [zi 1]
  refine zw_if_eq (tgt := 17) (nx := 6) C dJ0_isLatin1_aae02_3 rfl rfl (by omega) (fun h => by exfalso; omega) (fun _ => ?_)
  refine zw_aload_n (i := 0) (nx := 7) C dJ0_isLatin1_aae02_6 rfl rfl rfl ?_
  refine ww_gcod (nx := 10) hi C wf_coder dJ0_isLatin1_aae02_7 rfl ?_
  change ZW X B A 1 0 0 _ ζ 10 [some (.ref (1000 + i))] [zi 0]
  refine zw_if_ne (tgt := 17) (nx := 13) C dJ0_isLatin1_aae02_10 rfl rfl (by omega) (fun h => by exfalso; omega) (fun _ => ?_)
  refine zw_iconst (nx := 14) C dJ0_isLatin1_aae02_13 rfl ?_
  refine zw_goto (nx := 18) C dJ0_isLatin1_aae02_14 rfl ?_
  exact ww_nret C hA hr hk dJ0_isLatin1_aae02_18 rfl rfl rfl
theorem iI_sh0 {n : Nat} (h : n < 8) : iI (n : Int) >>> (iI 0 &&& 31) = iI (n : Int) := by
  revert n; decide +kernel
theorem run_J0_length {i : Nat} (hi : i < 5) : zRun l B mJ0_length_8abf5 [.ref (1000 + i)] ζ (some (zi (eLen.getD i 0))) ζ := by
  refine zrun_intro (M := mJ0_length_8abf5) (ls := [some (.ref (1000 + i))]) (by decide) rfl rfl rfl (Nat.le_of_ble_eq_true rfl) ?_
  intro X A C hX hA hr hk
  replace C : CX X B A mJ0_length_8abf5.2.2.2.2 RJ0 cJ0_length_8abf5 1 0 0 := C
  have hr : (xMeth X).sig.returnType = some .int := hr
  change ZW X B A 1 0 0 _ _ 0 [some (.ref (1000 + i))] []
  have hL := eLen_ok i hi
  refine zw_aload_n (i := 0) (nx := 1) C dJ0_length_8abf5_0 rfl rfl rfl ?_
  refine ww_gval (nx := 4) hi C wf_value dJ0_length_8abf5_1 rfl ?_
  refine ww_slen (nx := 5) hi C dJ0_length_8abf5_4 rfl ?_
  rw [show Int32.ofNat (eLen.getD i 0) = iI ((eLen.getD i 0 : Nat) : Int) from (iI_n _).symm]
  change ZW X B A 1 0 0 _ ζ 5 [some (.ref (1000 + i))] [zi ((eLen.getD i 0 : Nat) : Int)]
  refine zw_aload_n (i := 0) (nx := 6) C dJ0_length_8abf5_5 rfl rfl rfl ?_
  refine ww_callVS (nx := 9) (M := mJ0_coder_7d493) (As := []) hi C dJ0_length_8abf5_6 rfl cvJ0_335 rfl ⟨Nat.le_of_ble_eq_true rfl, Nat.le_of_ble_eq_true rfl⟩ rfl (Nat.le_of_ble_eq_true rfl) (run_J0_coder (ζ := ζ) hi) ?_
  change ZW X B A 1 0 0 _ ζ 9 [some (.ref (1000 + i))] [zi 0, zi ((eLen.getD i 0 : Nat) : Int)]
  refine zw_ishr (c := ((eLen.getD i 0 : Nat) : Int)) (nx := 10) C dJ0_length_8abf5_9 (iI_sh0 (by omega)) rfl ?_
  exact zw_iret C hA hr hk dJ0_length_8abf5_10 rfl rfl
theorem run_J1_charAt {i k : Nat} (hi : i < 5) (hk0 : k < eLen.getD i 0) : zRun l B mJ1_charAt_3b067 [.ref (1100 + i), zi k] ζ (some (zi (eChr i k))) ζ := by
  refine zrun_intro (M := mJ1_charAt_3b067) (ls := [some (.ref (1100 + i)), some (zi k)]) (by decide) rfl rfl rfl (Nat.le_of_ble_eq_true rfl) ?_
  intro X A C hX hA hr hk
  replace C : CX X B A mJ1_charAt_3b067.2.2.2.2 RJ1 cJ1_charAt_3b067 2 0 0 := C
  have hr : (xMeth X).sig.returnType = some .char := hr
  change ZW X B A 2 0 0 _ _ 0 [some (.ref (1100 + i)), some (zi k)] []
  have hL := eLen_ok i hi
  obtain ⟨c1, c2, c3, c4⟩ := eChr_ok i hi k hk0
  refine zw_iload_n (i := 1) (nx := 1) C dJ1_charAt_3b067_0 rfl rfl rfl ?_
  refine zw_aload_n (i := 0) (nx := 2) C dJ1_charAt_3b067_1 rfl rfl rfl ?_
  refine ww_slen (nx := 3) hi C dJ1_charAt_3b067_2 rfl ?_
  rw [show Int32.ofNat (eLen.getD i 0) = iI ((eLen.getD i 0 : Nat) : Int) from (iI_n _).symm]
  change ZW X B A 2 0 0 _ ζ 3 [some (.ref (1100 + i)), some (zi k)] [zi ((eLen.getD i 0 : Nat) : Int), zi k]
  refine zw_cS20 (nx := 6) C dJ1_charAt_3b067_3 rfl csJ1_9 ⟨Nat.le_of_ble_eq_true rfl, Nat.le_of_ble_eq_true rfl⟩ (Nat.le_of_ble_eq_true rfl) (run_J0_checkIndex (by omega) (by omega)) ?_
  refine zw_aload_n (i := 0) (nx := 7) C dJ1_charAt_3b067_6 rfl rfl rfl ?_
  refine zw_iload_n (i := 1) (nx := 8) C dJ1_charAt_3b067_7 rfl rfl rfl ?_
  have hz := iI_in (z := (k : Int)) (i := k) (n := eLen.getD i 0) ⟨rfl, hk0⟩ (by omega)
  refine ww_sbald (nx := 9) hi C dJ1_charAt_3b067_8 rfl hz.1 ?_
  rw [hz.2, c1]
  change ZW X B A 2 0 0 _ ζ 9 [some (.ref (1100 + i)), some (zi k)] [zi (eChr i k)]
  refine zw_sipush (v := 255) (nx := 12) C dJ1_charAt_3b067_9 (by decide) rfl ?_
  refine ww_iand (nx := 13) C dJ1_charAt_3b067_12 rfl ?_
  refine ww_i2cv (nx := 14) C dJ1_charAt_3b067_13 c2 rfl ?_
  exact ww_nret C hA hr hk dJ1_charAt_3b067_14 c3 rfl rfl
theorem run_J0_charAt {i k : Nat} (hi : i < 5) (hk0 : k < eLen.getD i 0) : zRun l B mJ0_charAt_5068e [.ref (1000 + i), zi k] ζ (some (zi (eChr i k))) ζ := by
  refine zrun_intro (M := mJ0_charAt_5068e) (ls := [some (.ref (1000 + i)), some (zi k)]) (by decide) rfl rfl rfl (Nat.le_of_ble_eq_true rfl) ?_
  intro X A C hX hA hr hk
  replace C : CX X B A mJ0_charAt_5068e.2.2.2.2 RJ0 cJ0_charAt_5068e 2 0 0 := C
  have hr : (xMeth X).sig.returnType = some .char := hr
  change ZW X B A 2 0 0 _ _ 0 [some (.ref (1000 + i)), some (zi k)] []
  obtain ⟨c1, c2, c3, c4⟩ := eChr_ok i hi k hk0
  refine zw_aload_n (i := 0) (nx := 1) C dJ0_charAt_5068e_0 rfl rfl rfl ?_
  refine ww_callVS (nx := 4) (M := mJ0_isLatin1_aae02) (As := []) hi C dJ0_charAt_5068e_1 rfl cvJ0_492 rfl ⟨Nat.le_of_ble_eq_true rfl, Nat.le_of_ble_eq_true rfl⟩ rfl (Nat.le_of_ble_eq_true rfl) (run_J0_isLatin1 (ζ := ζ) hi) ?_
  change ZW X B A 2 0 0 _ ζ 4 [some (.ref (1000 + i)), some (zi k)] [zi 1]
  refine zw_if_eq (tgt := 16) (nx := 7) C dJ0_charAt_5068e_4 rfl rfl (by omega) (fun h => by exfalso; omega) (fun _ => ?_)
  refine zw_aload_n (i := 0) (nx := 8) C dJ0_charAt_5068e_7 rfl rfl rfl ?_
  refine ww_gval (nx := 11) hi C wf_value dJ0_charAt_5068e_8 rfl ?_
  change ZW X B A 2 0 0 _ ζ 11 [some (.ref (1000 + i)), some (zi k)] [.ref (1100 + i)]
  refine zw_iload_n (i := 1) (nx := 12) C dJ0_charAt_5068e_11 rfl rfl rfl ?_
  refine zw_cS21 (nx := 15) C dJ0_charAt_5068e_12 rfl csJ0_495 ⟨Nat.le_of_ble_eq_true rfl, Nat.le_of_ble_eq_true rfl⟩ (Nat.le_of_ble_eq_true rfl) (run_J1_charAt hi hk0) ?_
  exact ww_nret C hA hr hk dJ0_charAt_5068e_15 c3 rfl rfl
end ZSTR
section ZS2
variable {X : eX} {B : eB} {A : Nat → Prop} {R : Room} {own : String} {cc : ByteArray} {nL kc ks : Nat} {Q : State → Prop} {ζ τ : zSt} {pc nx : Nat} {ls : List (Option Value)} {st : List Value}
theorem zw_ldcs {i idx : Nat} {tx : String} (C : CX X B A R own cc nL kc ks) (d : decode cc pc = .ok (.ldc idx, 2)) (hn : pc + 2 = nx) (hz : vk_R own idx tx (B.2.2 i) (xS X)) (k : ZW X B A nL kc ks Q ζ nx ls (.ref i :: st)) : ZW X B A nL kc ks Q ζ pc ls st := ww_ldcs C d hn hz k
theorem zw_cW01 {v : Value} {M : eM} {idx i : Nat} (hi : i < 5) (C : CX X B A R own cc nL kc ks) (d : decode cc pc = .ok (.invokevirtual idx, 3)) (hn : pc + 3 = nx) (w : eCalV own idx 0 M) (hq1 : "java/lang/String" = M.1.cls) (hR : eRm R M) (hst : (st.map fun v => v.category).sum ≤ 8) (hrun : zRun (xLa X) B M [.ref (1000 + i)] ζ (some v) τ) (k : ZW X B A nL kc ks Q τ nx ls (v :: st)) : ZW X B A nL kc ks Q ζ pc ls (.ref (1000 + i) :: st) := ww_callVS (As := []) hi C d hn w hq1 hR rfl hst hrun k
theorem zw_cW11 {a1 v : Value} {M : eM} {idx i : Nat} (hi : i < 5) (C : CX X B A R own cc nL kc ks) (d : decode cc pc = .ok (.invokevirtual idx, 3)) (hn : pc + 3 = nx) (w : eCalV own idx 1 M) (hq1 : "java/lang/String" = M.1.cls) (hR : eRm R M) (hst : (st.map fun v => v.category).sum ≤ 8) (hrun : zRun (xLa X) B M [.ref (1000 + i), a1] ζ (some v) τ) (k : ZW X B A nL kc ks Q τ nx ls (v :: st)) : ZW X B A nL kc ks Q ζ pc ls (a1 :: .ref (1000 + i) :: st) := ww_callVS (As := [a1]) hi C d hn w hq1 hR rfl hst hrun k
end ZS2
