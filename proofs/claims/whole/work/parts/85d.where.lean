/-! the reference's wordHere -/
theorem wE_f {T : Nat → Int} {t s i : Nat} {P : Prop} (he : wE T t s i = true ↔ P) (hn : ¬ P) : wE T t s i = false := by
  cases hw : wE T t s i with
  | false => rfl
  | true => exact absurd (he.mp hw) hn
theorem wd_2 {T : Nat → Int} {t s : Nat} (h : wE T t s 2 = true) : wd T t s = 2 := wd_is (i := 2) (by decide) h
theorem wd_3 {T : Nat → Int} {t s : Nat} (h : wE T t s 3 = true) : wd T t s = 3 := wd_is (i := 3) (by decide) h
theorem wd_0 {T : Nat → Int} {t s : Nat} (h : wE T t s 0 = true) : wd T t s = 0 := wd_is (i := 0) (by decide) h
theorem wd_1 {T : Nat → Int} {t s : Nat} (h : wE T t s 1 = true) : wd T t s = 1 := wd_is (i := 1) (by decide) h
theorem wd_4 {T : Nat → Int} {t s : Nat} (h : wE T t s 4 = true) : wd T t s = 4 := wd_is (i := 4) (by decide) h
theorem wd_f {T : Nat → Int} {t s : Nat} (h0 : wE T t s 0 = false) (h1 : wE T t s 1 = false) (h2 : wE T t s 2 = false) (h3 : wE T t s 3 = false) (h4 : wE T t s 4 = false) : wd T t s = -1 := wd_no (fun i hi => by
  rcases (show i = 0 ∨ i = 1 ∨ i = 2 ∨ i = 3 ∨ i = 4 by omega) with rfl | rfl | rfl | rfl | rfl
  · exact h0
  · exact h1
  · exact h2
  · exact h3
  · exact h4)
theorem wd_7 {T : Nat → Int} {t s : Nat} (hn : lE T t s - s = 7) (h : ¬ ((T s = 104 ∧ T (s + 1) = 101 ∧ T (s + 2) = 105 ∧ T (s + 3) = 103) ∧ T (s + 4) = 104 ∧ T (s + 5) = 116 ∧ T (s + 6) = 115)) : wd T t s = -1 :=
  wd_f (wE_f wE_0 (fun q => absurd (hn.symm.trans q.1) (by decide))) (wE_f wE_1 (fun q => absurd (hn.symm.trans q.1) (by decide))) (wE_f wE_2 (fun q => h q.2)) (wE_f wE_3 (fun q => absurd (hn.symm.trans q.1) (by decide))) (wE_f wE_4 (fun q => absurd (hn.symm.trans q.1) (by decide)))
theorem wd_33 {T : Nat → Int} {t s : Nat} (hn : lE T t s - s = 3) (h : ¬ (T s = 111 ∧ T (s + 1) = 110 ∧ T (s + 2) = 101)) : wd T t s = -1 :=
  wd_f (wE_f wE_0 (fun q => absurd (hn.symm.trans q.1) (by decide))) (wE_f wE_1 (fun q => absurd (hn.symm.trans q.1) (by decide))) (wE_f wE_2 (fun q => absurd (hn.symm.trans q.1) (by decide))) (wE_f wE_3 (fun q => h q.2)) (wE_f wE_4 (fun q => absurd (hn.symm.trans q.1) (by decide)))
theorem wd_o {T : Nat → Int} {t s : Nat} (h7 : lE T t s - s ≠ 7) (h3 : lE T t s - s ≠ 3) (h4 : lE T t s - s ≠ 4) : wd T t s = -1 :=
  wd_f (wE_f wE_0 (fun q => h4 q.1)) (wE_f wE_1 (fun q => h4 q.1)) (wE_f wE_2 (fun q => h7 q.1)) (wE_f wE_3 (fun q => h3 q.1)) (wE_f wE_4 (fun q => h4 q.1))
section TextMd
variable {l : Launch} {B : eB} {ζ : zSt} {t : Nat} {T : Nat → Int}
set_option maxHeartbeats 400000 in
theorem wh_o (hx : TXm ζ t T) {s : Nat} (hi : ζ.1 52 16 = s) (hst : s ≤ t) (h7 : lE T t s - s ≠ 7) (h3 : lE T t s - s ≠ 3) (h4 : lE T t s - s ≠ 4) : zRun l B mX7_wordHere [.ref 52] ζ (some (zi (wd T t s))) ζ := by
  have sz := run_X7_wordSize (l := l) (B := B) hx hi hst
  have hl := (lE_bd T hst).2
  have ht := hx.1.2
  rw [wd_o h7 h3 h4]
  have hn : lE T t s - s ≤ 150 := by omega
  generalize lE T t s - s = n at sz h7 h3 h4 hn
  clear hx hl
  refine zrun_intro (M := mX7_wordHere) (ls := [some (.ref 52), none]) (by decide) rfl rfl rfl (Nat.le_of_ble_eq_true rfl) ?_
  intro X A C hX hA hr hk
  replace C : CX X B A mX7_wordHere.2.2.2.2 RX7 cX7_wordHere 2 0 0 := C
  have hr : (xMeth X).sig.returnType = (some .int) := hr
  change ZW X B A 2 0 0 _ _ 0 [some (.ref 52), none] []
  subst hX
  refine zw_aload_n (i := 0) (nx := 1) C dX7_wordHere_0 rfl rfl rfl ?_
  refine zw_cV01 (nx := 4) C dX7_wordHere_1 rfl cvX7_123 rfl rfl ⟨Nat.le_of_ble_eq_true rfl, Nat.le_of_ble_eq_true rfl⟩ rfl rfl (Nat.le_of_ble_eq_true rfl) sz ?_
  refine zw_ist1 (nx := 5) C (eIst_n dX7_wordHere_4 rfl rfl) (Nat.le_of_ble_eq_true rfl) rfl ?_
  refine zw_iload_n (i := 1) (nx := 6) C dX7_wordHere_5 rfl rfl rfl ?_
  refine zw_bipush (v := 7) (nx := 8) C dX7_wordHere_6 (by decide) rfl ?_
  refine zw_icmp_ne (tgt := 59) (nx := 11) C dX7_wordHere_8 rfl rfl (by omega) (fun h8 => ?_) (fun h8 => by exfalso; omega)
  refine zw_iload_n (i := 1) (nx := 60) C dX7_wordHere_59 rfl rfl rfl ?_
  refine zw_iconst (nx := 61) C dX7_wordHere_60 rfl ?_
  refine zw_icmp_ne (tgt := 96) (nx := 64) C dX7_wordHere_61 rfl rfl (by omega) (fun h61 => ?_) (fun h61 => by exfalso; omega)
  refine zw_iload_n (i := 1) (nx := 97) C dX7_wordHere_96 rfl rfl rfl ?_
  refine zw_iconst (nx := 98) C dX7_wordHere_97 rfl ?_
  refine zw_icmp_eq (tgt := 105) (nx := 101) C dX7_wordHere_98 rfl rfl (by omega) (fun h98 => by exfalso; omega) (fun h98 => ?_)
  refine zw_iconst (nx := 102) C dX7_wordHere_101 rfl ?_
  refine zw_goto (nx := 163) C dX7_wordHere_102 rfl ?_
  exact zw_iret C hA hr hk dX7_wordHere_163 rfl rfl
set_option maxHeartbeats 400000 in
theorem wh_7 (hx : TXm ζ t T) {s : Nat} (hi : ζ.1 52 16 = s) (hst : s ≤ t) (hn : lE T t s - s = 7) : zRun l B mX7_wordHere [.ref 52] ζ (some (zi (wd T t s))) ζ := by
  have sz : zRun l B mX7_wordSize [.ref 52] ζ (some (zi 7)) ζ := by
    have := run_X7_wordSize (l := l) (B := B) hx hi hst
    rw [hn] at this
    exact this
  have hl := (lE_bd T hst).2
  have hs : s + 7 ≤ t := by omega
  have r4 : zRun l B mX7_letter [.ref 52, zi 4] ζ (some (zi (T (s + 4)))) ζ := run_X7_letter hx (k := 4) hi (by omega)
  have b4 : 0 ≤ T (s + 4) ∧ T (s + 4) ≤ 127 := (hx.2 (s + 4) (by omega)).2
  have r5 : zRun l B mX7_letter [.ref 52, zi 5] ζ (some (zi (T (s + 5)))) ζ := run_X7_letter hx (k := 5) hi (by omega)
  have b5 : 0 ≤ T (s + 5) ∧ T (s + 5) ≤ 127 := (hx.2 (s + 5) (by omega)).2
  have r6 : zRun l B mX7_letter [.ref 52, zi 6] ζ (some (zi (T (s + 6)))) ζ := run_X7_letter hx (k := 6) hi (by omega)
  have b6 : 0 ≤ T (s + 6) ∧ T (s + 6) ≤ 127 := (hx.2 (s + 6) (by omega)).2
  have rs := run_X7_spells (l := l) (B := B) hx hi (by omega) (a := 104) (b := 101) (c := 105) (d := 103) (by decide) (by decide) (by decide) (by decide)
  by_cases gA : T s = 104 ∧ T (s + 1) = 101 ∧ T (s + 2) = 105 ∧ T (s + 3) = 103
  · rw [decide_eq_true gA] at rs
    replace rs : zRun l B mX7_spells [.ref 52, zi 104, zi 101, zi 105, zi 103] ζ (some (zi 1)) ζ := rs
    by_cases g4 : T (s + 4) = 104
    · by_cases g5 : T (s + 5) = 116
      · by_cases g6 : T (s + 6) = 115
        · rw [wd_2 (wE_2.mpr ⟨hn, gA, g4, g5, g6⟩)]
          clear hx gA hn hl hi hst hs
          refine zrun_intro (M := mX7_wordHere) (ls := [some (.ref 52), none]) (by decide) rfl rfl rfl (Nat.le_of_ble_eq_true rfl) ?_
          intro X A C hX hA hr hk
          replace C : CX X B A mX7_wordHere.2.2.2.2 RX7 cX7_wordHere 2 0 0 := C
          have hr : (xMeth X).sig.returnType = (some .int) := hr
          change ZW X B A 2 0 0 _ _ 0 [some (.ref 52), none] []
          subst hX
          refine zw_aload_n (i := 0) (nx := 1) C dX7_wordHere_0 rfl rfl rfl ?_
          refine zw_cV01 (nx := 4) C dX7_wordHere_1 rfl cvX7_123 rfl rfl ⟨Nat.le_of_ble_eq_true rfl, Nat.le_of_ble_eq_true rfl⟩ rfl rfl (Nat.le_of_ble_eq_true rfl) sz ?_
          refine zw_ist1 (nx := 5) C (eIst_n dX7_wordHere_4 rfl rfl) (Nat.le_of_ble_eq_true rfl) rfl ?_
          refine zw_iload_n (i := 1) (nx := 6) C dX7_wordHere_5 rfl rfl rfl ?_
          refine zw_bipush (v := 7) (nx := 8) C dX7_wordHere_6 (by decide) rfl ?_
          refine zw_icmp_ne (tgt := 59) (nx := 11) C dX7_wordHere_8 rfl rfl (by omega) (fun h8 => by exfalso; omega) (fun h8 => ?_)
          refine zw_aload_n (i := 0) (nx := 12) C dX7_wordHere_11 rfl rfl rfl ?_
          refine zw_bipush (v := 104) (nx := 14) C dX7_wordHere_12 (by decide) rfl ?_
          refine zw_bipush (v := 101) (nx := 16) C dX7_wordHere_14 (by decide) rfl ?_
          refine zw_bipush (v := 105) (nx := 18) C dX7_wordHere_16 (by decide) rfl ?_
          refine zw_bipush (v := 103) (nx := 20) C dX7_wordHere_18 (by decide) rfl ?_
          refine zw_cV41 (nx := 23) C dX7_wordHere_20 rfl cvX7_126 rfl rfl ⟨Nat.le_of_ble_eq_true rfl, Nat.le_of_ble_eq_true rfl⟩ rfl rfl (Nat.le_of_ble_eq_true rfl) rs ?_
          refine zw_if_eq (tgt := 59) (nx := 26) C dX7_wordHere_23 rfl rfl (by omega) (fun h23 => by exfalso; omega) (fun h23 => ?_)
          refine zw_aload_n (i := 0) (nx := 27) C dX7_wordHere_26 rfl rfl rfl ?_
          refine zw_iconst (nx := 28) C dX7_wordHere_27 rfl ?_
          refine zw_cV11 (nx := 31) C dX7_wordHere_28 rfl cvX7_119 rfl rfl ⟨Nat.le_of_ble_eq_true rfl, Nat.le_of_ble_eq_true rfl⟩ rfl rfl (Nat.le_of_ble_eq_true rfl) r4 ?_
          refine zw_bipush (v := 104) (nx := 33) C dX7_wordHere_31 (by decide) rfl ?_
          refine zw_icmp_ne (tgt := 59) (nx := 36) C dX7_wordHere_33 rfl rfl (by omega) (fun h33 => by exfalso; omega) (fun h33 => ?_)
          refine zw_aload_n (i := 0) (nx := 37) C dX7_wordHere_36 rfl rfl rfl ?_
          refine zw_iconst (nx := 38) C dX7_wordHere_37 rfl ?_
          refine zw_cV11 (nx := 41) C dX7_wordHere_38 rfl cvX7_119 rfl rfl ⟨Nat.le_of_ble_eq_true rfl, Nat.le_of_ble_eq_true rfl⟩ rfl rfl (Nat.le_of_ble_eq_true rfl) r5 ?_
          refine zw_bipush (v := 116) (nx := 43) C dX7_wordHere_41 (by decide) rfl ?_
          refine zw_icmp_ne (tgt := 59) (nx := 46) C dX7_wordHere_43 rfl rfl (by omega) (fun h43 => by exfalso; omega) (fun h43 => ?_)
          refine zw_aload_n (i := 0) (nx := 47) C dX7_wordHere_46 rfl rfl rfl ?_
          refine zw_bipush (v := 6) (nx := 49) C dX7_wordHere_47 (by decide) rfl ?_
          refine zw_cV11 (nx := 52) C dX7_wordHere_49 rfl cvX7_119 rfl rfl ⟨Nat.le_of_ble_eq_true rfl, Nat.le_of_ble_eq_true rfl⟩ rfl rfl (Nat.le_of_ble_eq_true rfl) r6 ?_
          refine zw_bipush (v := 115) (nx := 54) C dX7_wordHere_52 (by decide) rfl ?_
          refine zw_icmp_ne (tgt := 59) (nx := 57) C dX7_wordHere_54 rfl rfl (by omega) (fun h54 => by exfalso; omega) (fun h54 => ?_)
          refine zw_iconst (nx := 58) C dX7_wordHere_57 rfl ?_
          exact zw_iret C hA hr hk dX7_wordHere_58 rfl rfl
        · rw [wd_7 hn (fun q => g6 q.2.2.2)]
          clear hx gA hn hl hi hst hs
          refine zrun_intro (M := mX7_wordHere) (ls := [some (.ref 52), none]) (by decide) rfl rfl rfl (Nat.le_of_ble_eq_true rfl) ?_
          intro X A C hX hA hr hk
          replace C : CX X B A mX7_wordHere.2.2.2.2 RX7 cX7_wordHere 2 0 0 := C
          have hr : (xMeth X).sig.returnType = (some .int) := hr
          change ZW X B A 2 0 0 _ _ 0 [some (.ref 52), none] []
          subst hX
          refine zw_aload_n (i := 0) (nx := 1) C dX7_wordHere_0 rfl rfl rfl ?_
          refine zw_cV01 (nx := 4) C dX7_wordHere_1 rfl cvX7_123 rfl rfl ⟨Nat.le_of_ble_eq_true rfl, Nat.le_of_ble_eq_true rfl⟩ rfl rfl (Nat.le_of_ble_eq_true rfl) sz ?_
          refine zw_ist1 (nx := 5) C (eIst_n dX7_wordHere_4 rfl rfl) (Nat.le_of_ble_eq_true rfl) rfl ?_
          refine zw_iload_n (i := 1) (nx := 6) C dX7_wordHere_5 rfl rfl rfl ?_
          refine zw_bipush (v := 7) (nx := 8) C dX7_wordHere_6 (by decide) rfl ?_
          refine zw_icmp_ne (tgt := 59) (nx := 11) C dX7_wordHere_8 rfl rfl (by omega) (fun h8 => by exfalso; omega) (fun h8 => ?_)
          refine zw_aload_n (i := 0) (nx := 12) C dX7_wordHere_11 rfl rfl rfl ?_
          refine zw_bipush (v := 104) (nx := 14) C dX7_wordHere_12 (by decide) rfl ?_
          refine zw_bipush (v := 101) (nx := 16) C dX7_wordHere_14 (by decide) rfl ?_
          refine zw_bipush (v := 105) (nx := 18) C dX7_wordHere_16 (by decide) rfl ?_
          refine zw_bipush (v := 103) (nx := 20) C dX7_wordHere_18 (by decide) rfl ?_
          refine zw_cV41 (nx := 23) C dX7_wordHere_20 rfl cvX7_126 rfl rfl ⟨Nat.le_of_ble_eq_true rfl, Nat.le_of_ble_eq_true rfl⟩ rfl rfl (Nat.le_of_ble_eq_true rfl) rs ?_
          refine zw_if_eq (tgt := 59) (nx := 26) C dX7_wordHere_23 rfl rfl (by omega) (fun h23 => by exfalso; omega) (fun h23 => ?_)
          refine zw_aload_n (i := 0) (nx := 27) C dX7_wordHere_26 rfl rfl rfl ?_
          refine zw_iconst (nx := 28) C dX7_wordHere_27 rfl ?_
          refine zw_cV11 (nx := 31) C dX7_wordHere_28 rfl cvX7_119 rfl rfl ⟨Nat.le_of_ble_eq_true rfl, Nat.le_of_ble_eq_true rfl⟩ rfl rfl (Nat.le_of_ble_eq_true rfl) r4 ?_
          refine zw_bipush (v := 104) (nx := 33) C dX7_wordHere_31 (by decide) rfl ?_
          refine zw_icmp_ne (tgt := 59) (nx := 36) C dX7_wordHere_33 rfl rfl (by omega) (fun h33 => by exfalso; omega) (fun h33 => ?_)
          refine zw_aload_n (i := 0) (nx := 37) C dX7_wordHere_36 rfl rfl rfl ?_
          refine zw_iconst (nx := 38) C dX7_wordHere_37 rfl ?_
          refine zw_cV11 (nx := 41) C dX7_wordHere_38 rfl cvX7_119 rfl rfl ⟨Nat.le_of_ble_eq_true rfl, Nat.le_of_ble_eq_true rfl⟩ rfl rfl (Nat.le_of_ble_eq_true rfl) r5 ?_
          refine zw_bipush (v := 116) (nx := 43) C dX7_wordHere_41 (by decide) rfl ?_
          refine zw_icmp_ne (tgt := 59) (nx := 46) C dX7_wordHere_43 rfl rfl (by omega) (fun h43 => by exfalso; omega) (fun h43 => ?_)
          refine zw_aload_n (i := 0) (nx := 47) C dX7_wordHere_46 rfl rfl rfl ?_
          refine zw_bipush (v := 6) (nx := 49) C dX7_wordHere_47 (by decide) rfl ?_
          refine zw_cV11 (nx := 52) C dX7_wordHere_49 rfl cvX7_119 rfl rfl ⟨Nat.le_of_ble_eq_true rfl, Nat.le_of_ble_eq_true rfl⟩ rfl rfl (Nat.le_of_ble_eq_true rfl) r6 ?_
          refine zw_bipush (v := 115) (nx := 54) C dX7_wordHere_52 (by decide) rfl ?_
          refine zw_icmp_ne (tgt := 59) (nx := 57) C dX7_wordHere_54 rfl rfl (by omega) (fun h54 => ?_) (fun h54 => by exfalso; omega)
          refine zw_iload_n (i := 1) (nx := 60) C dX7_wordHere_59 rfl rfl rfl ?_
          refine zw_iconst (nx := 61) C dX7_wordHere_60 rfl ?_
          refine zw_icmp_ne (tgt := 96) (nx := 64) C dX7_wordHere_61 rfl rfl (by omega) (fun h61 => ?_) (fun h61 => by exfalso; omega)
          refine zw_iload_n (i := 1) (nx := 97) C dX7_wordHere_96 rfl rfl rfl ?_
          refine zw_iconst (nx := 98) C dX7_wordHere_97 rfl ?_
          refine zw_icmp_eq (tgt := 105) (nx := 101) C dX7_wordHere_98 rfl rfl (by omega) (fun h98 => by exfalso; omega) (fun h98 => ?_)
          refine zw_iconst (nx := 102) C dX7_wordHere_101 rfl ?_
          refine zw_goto (nx := 163) C dX7_wordHere_102 rfl ?_
          exact zw_iret C hA hr hk dX7_wordHere_163 rfl rfl
      · rw [wd_7 hn (fun q => g5 q.2.2.1)]
        clear hx gA hn hl hi hst hs
        refine zrun_intro (M := mX7_wordHere) (ls := [some (.ref 52), none]) (by decide) rfl rfl rfl (Nat.le_of_ble_eq_true rfl) ?_
        intro X A C hX hA hr hk
        replace C : CX X B A mX7_wordHere.2.2.2.2 RX7 cX7_wordHere 2 0 0 := C
        have hr : (xMeth X).sig.returnType = (some .int) := hr
        change ZW X B A 2 0 0 _ _ 0 [some (.ref 52), none] []
        subst hX
        refine zw_aload_n (i := 0) (nx := 1) C dX7_wordHere_0 rfl rfl rfl ?_
        refine zw_cV01 (nx := 4) C dX7_wordHere_1 rfl cvX7_123 rfl rfl ⟨Nat.le_of_ble_eq_true rfl, Nat.le_of_ble_eq_true rfl⟩ rfl rfl (Nat.le_of_ble_eq_true rfl) sz ?_
        refine zw_ist1 (nx := 5) C (eIst_n dX7_wordHere_4 rfl rfl) (Nat.le_of_ble_eq_true rfl) rfl ?_
        refine zw_iload_n (i := 1) (nx := 6) C dX7_wordHere_5 rfl rfl rfl ?_
        refine zw_bipush (v := 7) (nx := 8) C dX7_wordHere_6 (by decide) rfl ?_
        refine zw_icmp_ne (tgt := 59) (nx := 11) C dX7_wordHere_8 rfl rfl (by omega) (fun h8 => by exfalso; omega) (fun h8 => ?_)
        refine zw_aload_n (i := 0) (nx := 12) C dX7_wordHere_11 rfl rfl rfl ?_
        refine zw_bipush (v := 104) (nx := 14) C dX7_wordHere_12 (by decide) rfl ?_
        refine zw_bipush (v := 101) (nx := 16) C dX7_wordHere_14 (by decide) rfl ?_
        refine zw_bipush (v := 105) (nx := 18) C dX7_wordHere_16 (by decide) rfl ?_
        refine zw_bipush (v := 103) (nx := 20) C dX7_wordHere_18 (by decide) rfl ?_
        refine zw_cV41 (nx := 23) C dX7_wordHere_20 rfl cvX7_126 rfl rfl ⟨Nat.le_of_ble_eq_true rfl, Nat.le_of_ble_eq_true rfl⟩ rfl rfl (Nat.le_of_ble_eq_true rfl) rs ?_
        refine zw_if_eq (tgt := 59) (nx := 26) C dX7_wordHere_23 rfl rfl (by omega) (fun h23 => by exfalso; omega) (fun h23 => ?_)
        refine zw_aload_n (i := 0) (nx := 27) C dX7_wordHere_26 rfl rfl rfl ?_
        refine zw_iconst (nx := 28) C dX7_wordHere_27 rfl ?_
        refine zw_cV11 (nx := 31) C dX7_wordHere_28 rfl cvX7_119 rfl rfl ⟨Nat.le_of_ble_eq_true rfl, Nat.le_of_ble_eq_true rfl⟩ rfl rfl (Nat.le_of_ble_eq_true rfl) r4 ?_
        refine zw_bipush (v := 104) (nx := 33) C dX7_wordHere_31 (by decide) rfl ?_
        refine zw_icmp_ne (tgt := 59) (nx := 36) C dX7_wordHere_33 rfl rfl (by omega) (fun h33 => by exfalso; omega) (fun h33 => ?_)
        refine zw_aload_n (i := 0) (nx := 37) C dX7_wordHere_36 rfl rfl rfl ?_
        refine zw_iconst (nx := 38) C dX7_wordHere_37 rfl ?_
        refine zw_cV11 (nx := 41) C dX7_wordHere_38 rfl cvX7_119 rfl rfl ⟨Nat.le_of_ble_eq_true rfl, Nat.le_of_ble_eq_true rfl⟩ rfl rfl (Nat.le_of_ble_eq_true rfl) r5 ?_
        refine zw_bipush (v := 116) (nx := 43) C dX7_wordHere_41 (by decide) rfl ?_
        refine zw_icmp_ne (tgt := 59) (nx := 46) C dX7_wordHere_43 rfl rfl (by omega) (fun h43 => ?_) (fun h43 => by exfalso; omega)
        refine zw_iload_n (i := 1) (nx := 60) C dX7_wordHere_59 rfl rfl rfl ?_
        refine zw_iconst (nx := 61) C dX7_wordHere_60 rfl ?_
        refine zw_icmp_ne (tgt := 96) (nx := 64) C dX7_wordHere_61 rfl rfl (by omega) (fun h61 => ?_) (fun h61 => by exfalso; omega)
        refine zw_iload_n (i := 1) (nx := 97) C dX7_wordHere_96 rfl rfl rfl ?_
        refine zw_iconst (nx := 98) C dX7_wordHere_97 rfl ?_
        refine zw_icmp_eq (tgt := 105) (nx := 101) C dX7_wordHere_98 rfl rfl (by omega) (fun h98 => by exfalso; omega) (fun h98 => ?_)
        refine zw_iconst (nx := 102) C dX7_wordHere_101 rfl ?_
        refine zw_goto (nx := 163) C dX7_wordHere_102 rfl ?_
        exact zw_iret C hA hr hk dX7_wordHere_163 rfl rfl
    · rw [wd_7 hn (fun q => g4 q.2.1)]
      clear hx gA hn hl hi hst hs
      refine zrun_intro (M := mX7_wordHere) (ls := [some (.ref 52), none]) (by decide) rfl rfl rfl (Nat.le_of_ble_eq_true rfl) ?_
      intro X A C hX hA hr hk
      replace C : CX X B A mX7_wordHere.2.2.2.2 RX7 cX7_wordHere 2 0 0 := C
      have hr : (xMeth X).sig.returnType = (some .int) := hr
      change ZW X B A 2 0 0 _ _ 0 [some (.ref 52), none] []
      subst hX
      refine zw_aload_n (i := 0) (nx := 1) C dX7_wordHere_0 rfl rfl rfl ?_
      refine zw_cV01 (nx := 4) C dX7_wordHere_1 rfl cvX7_123 rfl rfl ⟨Nat.le_of_ble_eq_true rfl, Nat.le_of_ble_eq_true rfl⟩ rfl rfl (Nat.le_of_ble_eq_true rfl) sz ?_
      refine zw_ist1 (nx := 5) C (eIst_n dX7_wordHere_4 rfl rfl) (Nat.le_of_ble_eq_true rfl) rfl ?_
      refine zw_iload_n (i := 1) (nx := 6) C dX7_wordHere_5 rfl rfl rfl ?_
      refine zw_bipush (v := 7) (nx := 8) C dX7_wordHere_6 (by decide) rfl ?_
      refine zw_icmp_ne (tgt := 59) (nx := 11) C dX7_wordHere_8 rfl rfl (by omega) (fun h8 => by exfalso; omega) (fun h8 => ?_)
      refine zw_aload_n (i := 0) (nx := 12) C dX7_wordHere_11 rfl rfl rfl ?_
      refine zw_bipush (v := 104) (nx := 14) C dX7_wordHere_12 (by decide) rfl ?_
      refine zw_bipush (v := 101) (nx := 16) C dX7_wordHere_14 (by decide) rfl ?_
      refine zw_bipush (v := 105) (nx := 18) C dX7_wordHere_16 (by decide) rfl ?_
      refine zw_bipush (v := 103) (nx := 20) C dX7_wordHere_18 (by decide) rfl ?_
      refine zw_cV41 (nx := 23) C dX7_wordHere_20 rfl cvX7_126 rfl rfl ⟨Nat.le_of_ble_eq_true rfl, Nat.le_of_ble_eq_true rfl⟩ rfl rfl (Nat.le_of_ble_eq_true rfl) rs ?_
      refine zw_if_eq (tgt := 59) (nx := 26) C dX7_wordHere_23 rfl rfl (by omega) (fun h23 => by exfalso; omega) (fun h23 => ?_)
      refine zw_aload_n (i := 0) (nx := 27) C dX7_wordHere_26 rfl rfl rfl ?_
      refine zw_iconst (nx := 28) C dX7_wordHere_27 rfl ?_
      refine zw_cV11 (nx := 31) C dX7_wordHere_28 rfl cvX7_119 rfl rfl ⟨Nat.le_of_ble_eq_true rfl, Nat.le_of_ble_eq_true rfl⟩ rfl rfl (Nat.le_of_ble_eq_true rfl) r4 ?_
      refine zw_bipush (v := 104) (nx := 33) C dX7_wordHere_31 (by decide) rfl ?_
      refine zw_icmp_ne (tgt := 59) (nx := 36) C dX7_wordHere_33 rfl rfl (by omega) (fun h33 => ?_) (fun h33 => by exfalso; omega)
      refine zw_iload_n (i := 1) (nx := 60) C dX7_wordHere_59 rfl rfl rfl ?_
      refine zw_iconst (nx := 61) C dX7_wordHere_60 rfl ?_
      refine zw_icmp_ne (tgt := 96) (nx := 64) C dX7_wordHere_61 rfl rfl (by omega) (fun h61 => ?_) (fun h61 => by exfalso; omega)
      refine zw_iload_n (i := 1) (nx := 97) C dX7_wordHere_96 rfl rfl rfl ?_
      refine zw_iconst (nx := 98) C dX7_wordHere_97 rfl ?_
      refine zw_icmp_eq (tgt := 105) (nx := 101) C dX7_wordHere_98 rfl rfl (by omega) (fun h98 => by exfalso; omega) (fun h98 => ?_)
      refine zw_iconst (nx := 102) C dX7_wordHere_101 rfl ?_
      refine zw_goto (nx := 163) C dX7_wordHere_102 rfl ?_
      exact zw_iret C hA hr hk dX7_wordHere_163 rfl rfl
  · rw [decide_eq_false gA] at rs
    replace rs : zRun l B mX7_spells [.ref 52, zi 104, zi 101, zi 105, zi 103] ζ (some (zi 0)) ζ := rs
    rw [wd_7 hn (fun q => gA q.1)]
    clear hx gA hn hl hi hst hs
    refine zrun_intro (M := mX7_wordHere) (ls := [some (.ref 52), none]) (by decide) rfl rfl rfl (Nat.le_of_ble_eq_true rfl) ?_
    intro X A C hX hA hr hk
    replace C : CX X B A mX7_wordHere.2.2.2.2 RX7 cX7_wordHere 2 0 0 := C
    have hr : (xMeth X).sig.returnType = (some .int) := hr
    change ZW X B A 2 0 0 _ _ 0 [some (.ref 52), none] []
    subst hX
    refine zw_aload_n (i := 0) (nx := 1) C dX7_wordHere_0 rfl rfl rfl ?_
    refine zw_cV01 (nx := 4) C dX7_wordHere_1 rfl cvX7_123 rfl rfl ⟨Nat.le_of_ble_eq_true rfl, Nat.le_of_ble_eq_true rfl⟩ rfl rfl (Nat.le_of_ble_eq_true rfl) sz ?_
    refine zw_ist1 (nx := 5) C (eIst_n dX7_wordHere_4 rfl rfl) (Nat.le_of_ble_eq_true rfl) rfl ?_
    refine zw_iload_n (i := 1) (nx := 6) C dX7_wordHere_5 rfl rfl rfl ?_
    refine zw_bipush (v := 7) (nx := 8) C dX7_wordHere_6 (by decide) rfl ?_
    refine zw_icmp_ne (tgt := 59) (nx := 11) C dX7_wordHere_8 rfl rfl (by omega) (fun h8 => by exfalso; omega) (fun h8 => ?_)
    refine zw_aload_n (i := 0) (nx := 12) C dX7_wordHere_11 rfl rfl rfl ?_
    refine zw_bipush (v := 104) (nx := 14) C dX7_wordHere_12 (by decide) rfl ?_
    refine zw_bipush (v := 101) (nx := 16) C dX7_wordHere_14 (by decide) rfl ?_
    refine zw_bipush (v := 105) (nx := 18) C dX7_wordHere_16 (by decide) rfl ?_
    refine zw_bipush (v := 103) (nx := 20) C dX7_wordHere_18 (by decide) rfl ?_
    refine zw_cV41 (nx := 23) C dX7_wordHere_20 rfl cvX7_126 rfl rfl ⟨Nat.le_of_ble_eq_true rfl, Nat.le_of_ble_eq_true rfl⟩ rfl rfl (Nat.le_of_ble_eq_true rfl) rs ?_
    refine zw_if_eq (tgt := 59) (nx := 26) C dX7_wordHere_23 rfl rfl (by omega) (fun h23 => ?_) (fun h23 => by exfalso; omega)
    refine zw_iload_n (i := 1) (nx := 60) C dX7_wordHere_59 rfl rfl rfl ?_
    refine zw_iconst (nx := 61) C dX7_wordHere_60 rfl ?_
    refine zw_icmp_ne (tgt := 96) (nx := 64) C dX7_wordHere_61 rfl rfl (by omega) (fun h61 => ?_) (fun h61 => by exfalso; omega)
    refine zw_iload_n (i := 1) (nx := 97) C dX7_wordHere_96 rfl rfl rfl ?_
    refine zw_iconst (nx := 98) C dX7_wordHere_97 rfl ?_
    refine zw_icmp_eq (tgt := 105) (nx := 101) C dX7_wordHere_98 rfl rfl (by omega) (fun h98 => by exfalso; omega) (fun h98 => ?_)
    refine zw_iconst (nx := 102) C dX7_wordHere_101 rfl ?_
    refine zw_goto (nx := 163) C dX7_wordHere_102 rfl ?_
    exact zw_iret C hA hr hk dX7_wordHere_163 rfl rfl
set_option maxHeartbeats 400000 in
theorem wh_3 (hx : TXm ζ t T) {s : Nat} (hi : ζ.1 52 16 = s) (hst : s ≤ t) (hn : lE T t s - s = 3) : zRun l B mX7_wordHere [.ref 52] ζ (some (zi (wd T t s))) ζ := by
  have sz : zRun l B mX7_wordSize [.ref 52] ζ (some (zi 3)) ζ := by
    have := run_X7_wordSize (l := l) (B := B) hx hi hst
    rw [hn] at this
    exact this
  have hl := (lE_bd T hst).2
  have hs : s + 3 ≤ t := by omega
  have r0 : zRun l B mX7_letter [.ref 52, zi 0] ζ (some (zi (T s))) ζ := run_X7_letter hx (k := 0) hi (by omega)
  have b0 : 0 ≤ T s ∧ T s ≤ 127 := (hx.2 s (by omega)).2
  have r1 : zRun l B mX7_letter [.ref 52, zi 1] ζ (some (zi (T (s + 1)))) ζ := run_X7_letter hx (k := 1) hi (by omega)
  have b1 : 0 ≤ T (s + 1) ∧ T (s + 1) ≤ 127 := (hx.2 (s + 1) (by omega)).2
  have r2 : zRun l B mX7_letter [.ref 52, zi 2] ζ (some (zi (T (s + 2)))) ζ := run_X7_letter hx (k := 2) hi (by omega)
  have b2 : 0 ≤ T (s + 2) ∧ T (s + 2) ≤ 127 := (hx.2 (s + 2) (by omega)).2
  by_cases g0 : T s = 111
  · by_cases g1 : T (s + 1) = 110
    · by_cases g2 : T (s + 2) = 101
      · rw [wd_3 (wE_3.mpr ⟨hn, g0, g1, g2⟩)]
        clear hx hn hl hi hst hs
        refine zrun_intro (M := mX7_wordHere) (ls := [some (.ref 52), none]) (by decide) rfl rfl rfl (Nat.le_of_ble_eq_true rfl) ?_
        intro X A C hX hA hr hk
        replace C : CX X B A mX7_wordHere.2.2.2.2 RX7 cX7_wordHere 2 0 0 := C
        have hr : (xMeth X).sig.returnType = (some .int) := hr
        change ZW X B A 2 0 0 _ _ 0 [some (.ref 52), none] []
        subst hX
        refine zw_aload_n (i := 0) (nx := 1) C dX7_wordHere_0 rfl rfl rfl ?_
        refine zw_cV01 (nx := 4) C dX7_wordHere_1 rfl cvX7_123 rfl rfl ⟨Nat.le_of_ble_eq_true rfl, Nat.le_of_ble_eq_true rfl⟩ rfl rfl (Nat.le_of_ble_eq_true rfl) sz ?_
        refine zw_ist1 (nx := 5) C (eIst_n dX7_wordHere_4 rfl rfl) (Nat.le_of_ble_eq_true rfl) rfl ?_
        refine zw_iload_n (i := 1) (nx := 6) C dX7_wordHere_5 rfl rfl rfl ?_
        refine zw_bipush (v := 7) (nx := 8) C dX7_wordHere_6 (by decide) rfl ?_
        refine zw_icmp_ne (tgt := 59) (nx := 11) C dX7_wordHere_8 rfl rfl (by omega) (fun h8 => ?_) (fun h8 => by exfalso; omega)
        refine zw_iload_n (i := 1) (nx := 60) C dX7_wordHere_59 rfl rfl rfl ?_
        refine zw_iconst (nx := 61) C dX7_wordHere_60 rfl ?_
        refine zw_icmp_ne (tgt := 96) (nx := 64) C dX7_wordHere_61 rfl rfl (by omega) (fun h61 => by exfalso; omega) (fun h61 => ?_)
        refine zw_aload_n (i := 0) (nx := 65) C dX7_wordHere_64 rfl rfl rfl ?_
        refine zw_iconst (nx := 66) C dX7_wordHere_65 rfl ?_
        refine zw_cV11 (nx := 69) C dX7_wordHere_66 rfl cvX7_119 rfl rfl ⟨Nat.le_of_ble_eq_true rfl, Nat.le_of_ble_eq_true rfl⟩ rfl rfl (Nat.le_of_ble_eq_true rfl) r0 ?_
        refine zw_bipush (v := 111) (nx := 71) C dX7_wordHere_69 (by decide) rfl ?_
        refine zw_icmp_ne (tgt := 96) (nx := 74) C dX7_wordHere_71 rfl rfl (by omega) (fun h71 => by exfalso; omega) (fun h71 => ?_)
        refine zw_aload_n (i := 0) (nx := 75) C dX7_wordHere_74 rfl rfl rfl ?_
        refine zw_iconst (nx := 76) C dX7_wordHere_75 rfl ?_
        refine zw_cV11 (nx := 79) C dX7_wordHere_76 rfl cvX7_119 rfl rfl ⟨Nat.le_of_ble_eq_true rfl, Nat.le_of_ble_eq_true rfl⟩ rfl rfl (Nat.le_of_ble_eq_true rfl) r1 ?_
        refine zw_bipush (v := 110) (nx := 81) C dX7_wordHere_79 (by decide) rfl ?_
        refine zw_icmp_ne (tgt := 96) (nx := 84) C dX7_wordHere_81 rfl rfl (by omega) (fun h81 => by exfalso; omega) (fun h81 => ?_)
        refine zw_aload_n (i := 0) (nx := 85) C dX7_wordHere_84 rfl rfl rfl ?_
        refine zw_iconst (nx := 86) C dX7_wordHere_85 rfl ?_
        refine zw_cV11 (nx := 89) C dX7_wordHere_86 rfl cvX7_119 rfl rfl ⟨Nat.le_of_ble_eq_true rfl, Nat.le_of_ble_eq_true rfl⟩ rfl rfl (Nat.le_of_ble_eq_true rfl) r2 ?_
        refine zw_bipush (v := 101) (nx := 91) C dX7_wordHere_89 (by decide) rfl ?_
        refine zw_icmp_ne (tgt := 96) (nx := 94) C dX7_wordHere_91 rfl rfl (by omega) (fun h91 => by exfalso; omega) (fun h91 => ?_)
        refine zw_iconst (nx := 95) C dX7_wordHere_94 rfl ?_
        exact zw_iret C hA hr hk dX7_wordHere_95 rfl rfl
      · rw [wd_33 hn (fun q => g2 q.2.2)]
        clear hx hn hl hi hst hs
        refine zrun_intro (M := mX7_wordHere) (ls := [some (.ref 52), none]) (by decide) rfl rfl rfl (Nat.le_of_ble_eq_true rfl) ?_
        intro X A C hX hA hr hk
        replace C : CX X B A mX7_wordHere.2.2.2.2 RX7 cX7_wordHere 2 0 0 := C
        have hr : (xMeth X).sig.returnType = (some .int) := hr
        change ZW X B A 2 0 0 _ _ 0 [some (.ref 52), none] []
        subst hX
        refine zw_aload_n (i := 0) (nx := 1) C dX7_wordHere_0 rfl rfl rfl ?_
        refine zw_cV01 (nx := 4) C dX7_wordHere_1 rfl cvX7_123 rfl rfl ⟨Nat.le_of_ble_eq_true rfl, Nat.le_of_ble_eq_true rfl⟩ rfl rfl (Nat.le_of_ble_eq_true rfl) sz ?_
        refine zw_ist1 (nx := 5) C (eIst_n dX7_wordHere_4 rfl rfl) (Nat.le_of_ble_eq_true rfl) rfl ?_
        refine zw_iload_n (i := 1) (nx := 6) C dX7_wordHere_5 rfl rfl rfl ?_
        refine zw_bipush (v := 7) (nx := 8) C dX7_wordHere_6 (by decide) rfl ?_
        refine zw_icmp_ne (tgt := 59) (nx := 11) C dX7_wordHere_8 rfl rfl (by omega) (fun h8 => ?_) (fun h8 => by exfalso; omega)
        refine zw_iload_n (i := 1) (nx := 60) C dX7_wordHere_59 rfl rfl rfl ?_
        refine zw_iconst (nx := 61) C dX7_wordHere_60 rfl ?_
        refine zw_icmp_ne (tgt := 96) (nx := 64) C dX7_wordHere_61 rfl rfl (by omega) (fun h61 => by exfalso; omega) (fun h61 => ?_)
        refine zw_aload_n (i := 0) (nx := 65) C dX7_wordHere_64 rfl rfl rfl ?_
        refine zw_iconst (nx := 66) C dX7_wordHere_65 rfl ?_
        refine zw_cV11 (nx := 69) C dX7_wordHere_66 rfl cvX7_119 rfl rfl ⟨Nat.le_of_ble_eq_true rfl, Nat.le_of_ble_eq_true rfl⟩ rfl rfl (Nat.le_of_ble_eq_true rfl) r0 ?_
        refine zw_bipush (v := 111) (nx := 71) C dX7_wordHere_69 (by decide) rfl ?_
        refine zw_icmp_ne (tgt := 96) (nx := 74) C dX7_wordHere_71 rfl rfl (by omega) (fun h71 => by exfalso; omega) (fun h71 => ?_)
        refine zw_aload_n (i := 0) (nx := 75) C dX7_wordHere_74 rfl rfl rfl ?_
        refine zw_iconst (nx := 76) C dX7_wordHere_75 rfl ?_
        refine zw_cV11 (nx := 79) C dX7_wordHere_76 rfl cvX7_119 rfl rfl ⟨Nat.le_of_ble_eq_true rfl, Nat.le_of_ble_eq_true rfl⟩ rfl rfl (Nat.le_of_ble_eq_true rfl) r1 ?_
        refine zw_bipush (v := 110) (nx := 81) C dX7_wordHere_79 (by decide) rfl ?_
        refine zw_icmp_ne (tgt := 96) (nx := 84) C dX7_wordHere_81 rfl rfl (by omega) (fun h81 => by exfalso; omega) (fun h81 => ?_)
        refine zw_aload_n (i := 0) (nx := 85) C dX7_wordHere_84 rfl rfl rfl ?_
        refine zw_iconst (nx := 86) C dX7_wordHere_85 rfl ?_
        refine zw_cV11 (nx := 89) C dX7_wordHere_86 rfl cvX7_119 rfl rfl ⟨Nat.le_of_ble_eq_true rfl, Nat.le_of_ble_eq_true rfl⟩ rfl rfl (Nat.le_of_ble_eq_true rfl) r2 ?_
        refine zw_bipush (v := 101) (nx := 91) C dX7_wordHere_89 (by decide) rfl ?_
        refine zw_icmp_ne (tgt := 96) (nx := 94) C dX7_wordHere_91 rfl rfl (by omega) (fun h91 => ?_) (fun h91 => by exfalso; omega)
        refine zw_iload_n (i := 1) (nx := 97) C dX7_wordHere_96 rfl rfl rfl ?_
        refine zw_iconst (nx := 98) C dX7_wordHere_97 rfl ?_
        refine zw_icmp_eq (tgt := 105) (nx := 101) C dX7_wordHere_98 rfl rfl (by omega) (fun h98 => by exfalso; omega) (fun h98 => ?_)
        refine zw_iconst (nx := 102) C dX7_wordHere_101 rfl ?_
        refine zw_goto (nx := 163) C dX7_wordHere_102 rfl ?_
        exact zw_iret C hA hr hk dX7_wordHere_163 rfl rfl
    · rw [wd_33 hn (fun q => g1 q.2.1)]
      clear hx hn hl hi hst hs
      refine zrun_intro (M := mX7_wordHere) (ls := [some (.ref 52), none]) (by decide) rfl rfl rfl (Nat.le_of_ble_eq_true rfl) ?_
      intro X A C hX hA hr hk
      replace C : CX X B A mX7_wordHere.2.2.2.2 RX7 cX7_wordHere 2 0 0 := C
      have hr : (xMeth X).sig.returnType = (some .int) := hr
      change ZW X B A 2 0 0 _ _ 0 [some (.ref 52), none] []
      subst hX
      refine zw_aload_n (i := 0) (nx := 1) C dX7_wordHere_0 rfl rfl rfl ?_
      refine zw_cV01 (nx := 4) C dX7_wordHere_1 rfl cvX7_123 rfl rfl ⟨Nat.le_of_ble_eq_true rfl, Nat.le_of_ble_eq_true rfl⟩ rfl rfl (Nat.le_of_ble_eq_true rfl) sz ?_
      refine zw_ist1 (nx := 5) C (eIst_n dX7_wordHere_4 rfl rfl) (Nat.le_of_ble_eq_true rfl) rfl ?_
      refine zw_iload_n (i := 1) (nx := 6) C dX7_wordHere_5 rfl rfl rfl ?_
      refine zw_bipush (v := 7) (nx := 8) C dX7_wordHere_6 (by decide) rfl ?_
      refine zw_icmp_ne (tgt := 59) (nx := 11) C dX7_wordHere_8 rfl rfl (by omega) (fun h8 => ?_) (fun h8 => by exfalso; omega)
      refine zw_iload_n (i := 1) (nx := 60) C dX7_wordHere_59 rfl rfl rfl ?_
      refine zw_iconst (nx := 61) C dX7_wordHere_60 rfl ?_
      refine zw_icmp_ne (tgt := 96) (nx := 64) C dX7_wordHere_61 rfl rfl (by omega) (fun h61 => by exfalso; omega) (fun h61 => ?_)
      refine zw_aload_n (i := 0) (nx := 65) C dX7_wordHere_64 rfl rfl rfl ?_
      refine zw_iconst (nx := 66) C dX7_wordHere_65 rfl ?_
      refine zw_cV11 (nx := 69) C dX7_wordHere_66 rfl cvX7_119 rfl rfl ⟨Nat.le_of_ble_eq_true rfl, Nat.le_of_ble_eq_true rfl⟩ rfl rfl (Nat.le_of_ble_eq_true rfl) r0 ?_
      refine zw_bipush (v := 111) (nx := 71) C dX7_wordHere_69 (by decide) rfl ?_
      refine zw_icmp_ne (tgt := 96) (nx := 74) C dX7_wordHere_71 rfl rfl (by omega) (fun h71 => by exfalso; omega) (fun h71 => ?_)
      refine zw_aload_n (i := 0) (nx := 75) C dX7_wordHere_74 rfl rfl rfl ?_
      refine zw_iconst (nx := 76) C dX7_wordHere_75 rfl ?_
      refine zw_cV11 (nx := 79) C dX7_wordHere_76 rfl cvX7_119 rfl rfl ⟨Nat.le_of_ble_eq_true rfl, Nat.le_of_ble_eq_true rfl⟩ rfl rfl (Nat.le_of_ble_eq_true rfl) r1 ?_
      refine zw_bipush (v := 110) (nx := 81) C dX7_wordHere_79 (by decide) rfl ?_
      refine zw_icmp_ne (tgt := 96) (nx := 84) C dX7_wordHere_81 rfl rfl (by omega) (fun h81 => ?_) (fun h81 => by exfalso; omega)
      refine zw_iload_n (i := 1) (nx := 97) C dX7_wordHere_96 rfl rfl rfl ?_
      refine zw_iconst (nx := 98) C dX7_wordHere_97 rfl ?_
      refine zw_icmp_eq (tgt := 105) (nx := 101) C dX7_wordHere_98 rfl rfl (by omega) (fun h98 => by exfalso; omega) (fun h98 => ?_)
      refine zw_iconst (nx := 102) C dX7_wordHere_101 rfl ?_
      refine zw_goto (nx := 163) C dX7_wordHere_102 rfl ?_
      exact zw_iret C hA hr hk dX7_wordHere_163 rfl rfl
  · rw [wd_33 hn (fun q => g0 q.1)]
    clear hx hn hl hi hst hs
    refine zrun_intro (M := mX7_wordHere) (ls := [some (.ref 52), none]) (by decide) rfl rfl rfl (Nat.le_of_ble_eq_true rfl) ?_
    intro X A C hX hA hr hk
    replace C : CX X B A mX7_wordHere.2.2.2.2 RX7 cX7_wordHere 2 0 0 := C
    have hr : (xMeth X).sig.returnType = (some .int) := hr
    change ZW X B A 2 0 0 _ _ 0 [some (.ref 52), none] []
    subst hX
    refine zw_aload_n (i := 0) (nx := 1) C dX7_wordHere_0 rfl rfl rfl ?_
    refine zw_cV01 (nx := 4) C dX7_wordHere_1 rfl cvX7_123 rfl rfl ⟨Nat.le_of_ble_eq_true rfl, Nat.le_of_ble_eq_true rfl⟩ rfl rfl (Nat.le_of_ble_eq_true rfl) sz ?_
    refine zw_ist1 (nx := 5) C (eIst_n dX7_wordHere_4 rfl rfl) (Nat.le_of_ble_eq_true rfl) rfl ?_
    refine zw_iload_n (i := 1) (nx := 6) C dX7_wordHere_5 rfl rfl rfl ?_
    refine zw_bipush (v := 7) (nx := 8) C dX7_wordHere_6 (by decide) rfl ?_
    refine zw_icmp_ne (tgt := 59) (nx := 11) C dX7_wordHere_8 rfl rfl (by omega) (fun h8 => ?_) (fun h8 => by exfalso; omega)
    refine zw_iload_n (i := 1) (nx := 60) C dX7_wordHere_59 rfl rfl rfl ?_
    refine zw_iconst (nx := 61) C dX7_wordHere_60 rfl ?_
    refine zw_icmp_ne (tgt := 96) (nx := 64) C dX7_wordHere_61 rfl rfl (by omega) (fun h61 => by exfalso; omega) (fun h61 => ?_)
    refine zw_aload_n (i := 0) (nx := 65) C dX7_wordHere_64 rfl rfl rfl ?_
    refine zw_iconst (nx := 66) C dX7_wordHere_65 rfl ?_
    refine zw_cV11 (nx := 69) C dX7_wordHere_66 rfl cvX7_119 rfl rfl ⟨Nat.le_of_ble_eq_true rfl, Nat.le_of_ble_eq_true rfl⟩ rfl rfl (Nat.le_of_ble_eq_true rfl) r0 ?_
    refine zw_bipush (v := 111) (nx := 71) C dX7_wordHere_69 (by decide) rfl ?_
    refine zw_icmp_ne (tgt := 96) (nx := 74) C dX7_wordHere_71 rfl rfl (by omega) (fun h71 => ?_) (fun h71 => by exfalso; omega)
    refine zw_iload_n (i := 1) (nx := 97) C dX7_wordHere_96 rfl rfl rfl ?_
    refine zw_iconst (nx := 98) C dX7_wordHere_97 rfl ?_
    refine zw_icmp_eq (tgt := 105) (nx := 101) C dX7_wordHere_98 rfl rfl (by omega) (fun h98 => by exfalso; omega) (fun h98 => ?_)
    refine zw_iconst (nx := 102) C dX7_wordHere_101 rfl ?_
    refine zw_goto (nx := 163) C dX7_wordHere_102 rfl ?_
    exact zw_iret C hA hr hk dX7_wordHere_163 rfl rfl
set_option maxHeartbeats 400000 in
theorem wh_4 (hx : TXm ζ t T) {s : Nat} (hi : ζ.1 52 16 = s) (hst : s ≤ t) (hn : lE T t s - s = 4) : zRun l B mX7_wordHere [.ref 52] ζ (some (zi (wd T t s))) ζ := by
  have sz : zRun l B mX7_wordSize [.ref 52] ζ (some (zi 4)) ζ := by
    have := run_X7_wordSize (l := l) (B := B) hx hi hst
    rw [hn] at this
    exact this
  have hl := (lE_bd T hst).2
  have hs : s + 4 ≤ t := by omega
  have rs := run_X7_spells (l := l) (B := B) hx hi (by omega) (a := 104) (b := 105) (c := 108) (d := 108) (by decide) (by decide) (by decide) (by decide)
  have ru := run_X7_spells (l := l) (B := B) hx hi (by omega) (a := 100) (b := 97) (c := 114) (d := 107) (by decide) (by decide) (by decide) (by decide)
  have rv := run_X7_spells (l := l) (B := B) hx hi (by omega) (a := 115) (b := 101) (c := 97) (d := 116) (by decide) (by decide) (by decide) (by decide)
  by_cases gA : T s = 104 ∧ T (s + 1) = 105 ∧ T (s + 2) = 108 ∧ T (s + 3) = 108
  · rw [decide_eq_true gA] at rs
    replace rs : zRun l B mX7_spells [.ref 52, zi 104, zi 105, zi 108, zi 108] ζ (some (zi 1)) ζ := rs
    rw [wd_0 (wE_0.mpr ⟨hn, gA⟩)]
    clear hx gA hn hl hi hst hs
    refine zrun_intro (M := mX7_wordHere) (ls := [some (.ref 52), none]) (by decide) rfl rfl rfl (Nat.le_of_ble_eq_true rfl) ?_
    intro X A C hX hA hr hk
    replace C : CX X B A mX7_wordHere.2.2.2.2 RX7 cX7_wordHere 2 0 0 := C
    have hr : (xMeth X).sig.returnType = (some .int) := hr
    change ZW X B A 2 0 0 _ _ 0 [some (.ref 52), none] []
    subst hX
    refine zw_aload_n (i := 0) (nx := 1) C dX7_wordHere_0 rfl rfl rfl ?_
    refine zw_cV01 (nx := 4) C dX7_wordHere_1 rfl cvX7_123 rfl rfl ⟨Nat.le_of_ble_eq_true rfl, Nat.le_of_ble_eq_true rfl⟩ rfl rfl (Nat.le_of_ble_eq_true rfl) sz ?_
    refine zw_ist1 (nx := 5) C (eIst_n dX7_wordHere_4 rfl rfl) (Nat.le_of_ble_eq_true rfl) rfl ?_
    refine zw_iload_n (i := 1) (nx := 6) C dX7_wordHere_5 rfl rfl rfl ?_
    refine zw_bipush (v := 7) (nx := 8) C dX7_wordHere_6 (by decide) rfl ?_
    refine zw_icmp_ne (tgt := 59) (nx := 11) C dX7_wordHere_8 rfl rfl (by omega) (fun h8 => ?_) (fun h8 => by exfalso; omega)
    refine zw_iload_n (i := 1) (nx := 60) C dX7_wordHere_59 rfl rfl rfl ?_
    refine zw_iconst (nx := 61) C dX7_wordHere_60 rfl ?_
    refine zw_icmp_ne (tgt := 96) (nx := 64) C dX7_wordHere_61 rfl rfl (by omega) (fun h61 => ?_) (fun h61 => by exfalso; omega)
    refine zw_iload_n (i := 1) (nx := 97) C dX7_wordHere_96 rfl rfl rfl ?_
    refine zw_iconst (nx := 98) C dX7_wordHere_97 rfl ?_
    refine zw_icmp_eq (tgt := 105) (nx := 101) C dX7_wordHere_98 rfl rfl (by omega) (fun h98 => ?_) (fun h98 => by exfalso; omega)
    refine zw_aload_n (i := 0) (nx := 106) C dX7_wordHere_105 rfl rfl rfl ?_
    refine zw_bipush (v := 104) (nx := 108) C dX7_wordHere_106 (by decide) rfl ?_
    refine zw_bipush (v := 105) (nx := 110) C dX7_wordHere_108 (by decide) rfl ?_
    refine zw_bipush (v := 108) (nx := 112) C dX7_wordHere_110 (by decide) rfl ?_
    refine zw_bipush (v := 108) (nx := 114) C dX7_wordHere_112 (by decide) rfl ?_
    refine zw_cV41 (nx := 117) C dX7_wordHere_114 rfl cvX7_126 rfl rfl ⟨Nat.le_of_ble_eq_true rfl, Nat.le_of_ble_eq_true rfl⟩ rfl rfl (Nat.le_of_ble_eq_true rfl) rs ?_
    refine zw_if_eq (tgt := 124) (nx := 120) C dX7_wordHere_117 rfl rfl (by omega) (fun h117 => by exfalso; omega) (fun h117 => ?_)
    refine zw_iconst (nx := 121) C dX7_wordHere_120 rfl ?_
    refine zw_goto (nx := 163) C dX7_wordHere_121 rfl ?_
    exact zw_iret C hA hr hk dX7_wordHere_163 rfl rfl
  · rw [decide_eq_false gA] at rs
    replace rs : zRun l B mX7_spells [.ref 52, zi 104, zi 105, zi 108, zi 108] ζ (some (zi 0)) ζ := rs
    by_cases gB : T s = 100 ∧ T (s + 1) = 97 ∧ T (s + 2) = 114 ∧ T (s + 3) = 107
    · rw [decide_eq_true gB] at ru
      replace ru : zRun l B mX7_spells [.ref 52, zi 100, zi 97, zi 114, zi 107] ζ (some (zi 1)) ζ := ru
      rw [wd_1 (wE_1.mpr ⟨hn, gB⟩)]
      clear hx gA gB hn hl hi hst hs
      refine zrun_intro (M := mX7_wordHere) (ls := [some (.ref 52), none]) (by decide) rfl rfl rfl (Nat.le_of_ble_eq_true rfl) ?_
      intro X A C hX hA hr hk
      replace C : CX X B A mX7_wordHere.2.2.2.2 RX7 cX7_wordHere 2 0 0 := C
      have hr : (xMeth X).sig.returnType = (some .int) := hr
      change ZW X B A 2 0 0 _ _ 0 [some (.ref 52), none] []
      subst hX
      refine zw_aload_n (i := 0) (nx := 1) C dX7_wordHere_0 rfl rfl rfl ?_
      refine zw_cV01 (nx := 4) C dX7_wordHere_1 rfl cvX7_123 rfl rfl ⟨Nat.le_of_ble_eq_true rfl, Nat.le_of_ble_eq_true rfl⟩ rfl rfl (Nat.le_of_ble_eq_true rfl) sz ?_
      refine zw_ist1 (nx := 5) C (eIst_n dX7_wordHere_4 rfl rfl) (Nat.le_of_ble_eq_true rfl) rfl ?_
      refine zw_iload_n (i := 1) (nx := 6) C dX7_wordHere_5 rfl rfl rfl ?_
      refine zw_bipush (v := 7) (nx := 8) C dX7_wordHere_6 (by decide) rfl ?_
      refine zw_icmp_ne (tgt := 59) (nx := 11) C dX7_wordHere_8 rfl rfl (by omega) (fun h8 => ?_) (fun h8 => by exfalso; omega)
      refine zw_iload_n (i := 1) (nx := 60) C dX7_wordHere_59 rfl rfl rfl ?_
      refine zw_iconst (nx := 61) C dX7_wordHere_60 rfl ?_
      refine zw_icmp_ne (tgt := 96) (nx := 64) C dX7_wordHere_61 rfl rfl (by omega) (fun h61 => ?_) (fun h61 => by exfalso; omega)
      refine zw_iload_n (i := 1) (nx := 97) C dX7_wordHere_96 rfl rfl rfl ?_
      refine zw_iconst (nx := 98) C dX7_wordHere_97 rfl ?_
      refine zw_icmp_eq (tgt := 105) (nx := 101) C dX7_wordHere_98 rfl rfl (by omega) (fun h98 => ?_) (fun h98 => by exfalso; omega)
      refine zw_aload_n (i := 0) (nx := 106) C dX7_wordHere_105 rfl rfl rfl ?_
      refine zw_bipush (v := 104) (nx := 108) C dX7_wordHere_106 (by decide) rfl ?_
      refine zw_bipush (v := 105) (nx := 110) C dX7_wordHere_108 (by decide) rfl ?_
      refine zw_bipush (v := 108) (nx := 112) C dX7_wordHere_110 (by decide) rfl ?_
      refine zw_bipush (v := 108) (nx := 114) C dX7_wordHere_112 (by decide) rfl ?_
      refine zw_cV41 (nx := 117) C dX7_wordHere_114 rfl cvX7_126 rfl rfl ⟨Nat.le_of_ble_eq_true rfl, Nat.le_of_ble_eq_true rfl⟩ rfl rfl (Nat.le_of_ble_eq_true rfl) rs ?_
      refine zw_if_eq (tgt := 124) (nx := 120) C dX7_wordHere_117 rfl rfl (by omega) (fun h117 => ?_) (fun h117 => by exfalso; omega)
      refine zw_aload_n (i := 0) (nx := 125) C dX7_wordHere_124 rfl rfl rfl ?_
      refine zw_bipush (v := 100) (nx := 127) C dX7_wordHere_125 (by decide) rfl ?_
      refine zw_bipush (v := 97) (nx := 129) C dX7_wordHere_127 (by decide) rfl ?_
      refine zw_bipush (v := 114) (nx := 131) C dX7_wordHere_129 (by decide) rfl ?_
      refine zw_bipush (v := 107) (nx := 133) C dX7_wordHere_131 (by decide) rfl ?_
      refine zw_cV41 (nx := 136) C dX7_wordHere_133 rfl cvX7_126 rfl rfl ⟨Nat.le_of_ble_eq_true rfl, Nat.le_of_ble_eq_true rfl⟩ rfl rfl (Nat.le_of_ble_eq_true rfl) ru ?_
      refine zw_if_eq (tgt := 143) (nx := 139) C dX7_wordHere_136 rfl rfl (by omega) (fun h136 => by exfalso; omega) (fun h136 => ?_)
      refine zw_iconst (nx := 140) C dX7_wordHere_139 rfl ?_
      refine zw_goto (nx := 163) C dX7_wordHere_140 rfl ?_
      exact zw_iret C hA hr hk dX7_wordHere_163 rfl rfl
    · rw [decide_eq_false gB] at ru
      replace ru : zRun l B mX7_spells [.ref 52, zi 100, zi 97, zi 114, zi 107] ζ (some (zi 0)) ζ := ru
      by_cases gC : T s = 115 ∧ T (s + 1) = 101 ∧ T (s + 2) = 97 ∧ T (s + 3) = 116
      · rw [decide_eq_true gC] at rv
        replace rv : zRun l B mX7_spells [.ref 52, zi 115, zi 101, zi 97, zi 116] ζ (some (zi 1)) ζ := rv
        rw [wd_4 (wE_4.mpr ⟨hn, gC⟩)]
        clear hx gA gB gC hn hl hi hst hs
        refine zrun_intro (M := mX7_wordHere) (ls := [some (.ref 52), none]) (by decide) rfl rfl rfl (Nat.le_of_ble_eq_true rfl) ?_
        intro X A C hX hA hr hk
        replace C : CX X B A mX7_wordHere.2.2.2.2 RX7 cX7_wordHere 2 0 0 := C
        have hr : (xMeth X).sig.returnType = (some .int) := hr
        change ZW X B A 2 0 0 _ _ 0 [some (.ref 52), none] []
        subst hX
        refine zw_aload_n (i := 0) (nx := 1) C dX7_wordHere_0 rfl rfl rfl ?_
        refine zw_cV01 (nx := 4) C dX7_wordHere_1 rfl cvX7_123 rfl rfl ⟨Nat.le_of_ble_eq_true rfl, Nat.le_of_ble_eq_true rfl⟩ rfl rfl (Nat.le_of_ble_eq_true rfl) sz ?_
        refine zw_ist1 (nx := 5) C (eIst_n dX7_wordHere_4 rfl rfl) (Nat.le_of_ble_eq_true rfl) rfl ?_
        refine zw_iload_n (i := 1) (nx := 6) C dX7_wordHere_5 rfl rfl rfl ?_
        refine zw_bipush (v := 7) (nx := 8) C dX7_wordHere_6 (by decide) rfl ?_
        refine zw_icmp_ne (tgt := 59) (nx := 11) C dX7_wordHere_8 rfl rfl (by omega) (fun h8 => ?_) (fun h8 => by exfalso; omega)
        refine zw_iload_n (i := 1) (nx := 60) C dX7_wordHere_59 rfl rfl rfl ?_
        refine zw_iconst (nx := 61) C dX7_wordHere_60 rfl ?_
        refine zw_icmp_ne (tgt := 96) (nx := 64) C dX7_wordHere_61 rfl rfl (by omega) (fun h61 => ?_) (fun h61 => by exfalso; omega)
        refine zw_iload_n (i := 1) (nx := 97) C dX7_wordHere_96 rfl rfl rfl ?_
        refine zw_iconst (nx := 98) C dX7_wordHere_97 rfl ?_
        refine zw_icmp_eq (tgt := 105) (nx := 101) C dX7_wordHere_98 rfl rfl (by omega) (fun h98 => ?_) (fun h98 => by exfalso; omega)
        refine zw_aload_n (i := 0) (nx := 106) C dX7_wordHere_105 rfl rfl rfl ?_
        refine zw_bipush (v := 104) (nx := 108) C dX7_wordHere_106 (by decide) rfl ?_
        refine zw_bipush (v := 105) (nx := 110) C dX7_wordHere_108 (by decide) rfl ?_
        refine zw_bipush (v := 108) (nx := 112) C dX7_wordHere_110 (by decide) rfl ?_
        refine zw_bipush (v := 108) (nx := 114) C dX7_wordHere_112 (by decide) rfl ?_
        refine zw_cV41 (nx := 117) C dX7_wordHere_114 rfl cvX7_126 rfl rfl ⟨Nat.le_of_ble_eq_true rfl, Nat.le_of_ble_eq_true rfl⟩ rfl rfl (Nat.le_of_ble_eq_true rfl) rs ?_
        refine zw_if_eq (tgt := 124) (nx := 120) C dX7_wordHere_117 rfl rfl (by omega) (fun h117 => ?_) (fun h117 => by exfalso; omega)
        refine zw_aload_n (i := 0) (nx := 125) C dX7_wordHere_124 rfl rfl rfl ?_
        refine zw_bipush (v := 100) (nx := 127) C dX7_wordHere_125 (by decide) rfl ?_
        refine zw_bipush (v := 97) (nx := 129) C dX7_wordHere_127 (by decide) rfl ?_
        refine zw_bipush (v := 114) (nx := 131) C dX7_wordHere_129 (by decide) rfl ?_
        refine zw_bipush (v := 107) (nx := 133) C dX7_wordHere_131 (by decide) rfl ?_
        refine zw_cV41 (nx := 136) C dX7_wordHere_133 rfl cvX7_126 rfl rfl ⟨Nat.le_of_ble_eq_true rfl, Nat.le_of_ble_eq_true rfl⟩ rfl rfl (Nat.le_of_ble_eq_true rfl) ru ?_
        refine zw_if_eq (tgt := 143) (nx := 139) C dX7_wordHere_136 rfl rfl (by omega) (fun h136 => ?_) (fun h136 => by exfalso; omega)
        refine zw_aload_n (i := 0) (nx := 144) C dX7_wordHere_143 rfl rfl rfl ?_
        refine zw_bipush (v := 115) (nx := 146) C dX7_wordHere_144 (by decide) rfl ?_
        refine zw_bipush (v := 101) (nx := 148) C dX7_wordHere_146 (by decide) rfl ?_
        refine zw_bipush (v := 97) (nx := 150) C dX7_wordHere_148 (by decide) rfl ?_
        refine zw_bipush (v := 116) (nx := 152) C dX7_wordHere_150 (by decide) rfl ?_
        refine zw_cV41 (nx := 155) C dX7_wordHere_152 rfl cvX7_126 rfl rfl ⟨Nat.le_of_ble_eq_true rfl, Nat.le_of_ble_eq_true rfl⟩ rfl rfl (Nat.le_of_ble_eq_true rfl) rv ?_
        refine zw_if_eq (tgt := 162) (nx := 158) C dX7_wordHere_155 rfl rfl (by omega) (fun h155 => by exfalso; omega) (fun h155 => ?_)
        refine zw_iconst (nx := 159) C dX7_wordHere_158 rfl ?_
        refine zw_goto (nx := 163) C dX7_wordHere_159 rfl ?_
        exact zw_iret C hA hr hk dX7_wordHere_163 rfl rfl
      · rw [decide_eq_false gC] at rv
        replace rv : zRun l B mX7_spells [.ref 52, zi 115, zi 101, zi 97, zi 116] ζ (some (zi 0)) ζ := rv
        rw [wd_f (wE_f wE_0 (fun q => gA q.2)) (wE_f wE_1 (fun q => gB q.2)) (wE_f wE_2 (fun q => absurd (hn.symm.trans q.1) (by decide))) (wE_f wE_3 (fun q => absurd (hn.symm.trans q.1) (by decide))) (wE_f wE_4 (fun q => gC q.2))]
        clear hx gA gB gC hn hl hi hst hs
        refine zrun_intro (M := mX7_wordHere) (ls := [some (.ref 52), none]) (by decide) rfl rfl rfl (Nat.le_of_ble_eq_true rfl) ?_
        intro X A C hX hA hr hk
        replace C : CX X B A mX7_wordHere.2.2.2.2 RX7 cX7_wordHere 2 0 0 := C
        have hr : (xMeth X).sig.returnType = (some .int) := hr
        change ZW X B A 2 0 0 _ _ 0 [some (.ref 52), none] []
        subst hX
        refine zw_aload_n (i := 0) (nx := 1) C dX7_wordHere_0 rfl rfl rfl ?_
        refine zw_cV01 (nx := 4) C dX7_wordHere_1 rfl cvX7_123 rfl rfl ⟨Nat.le_of_ble_eq_true rfl, Nat.le_of_ble_eq_true rfl⟩ rfl rfl (Nat.le_of_ble_eq_true rfl) sz ?_
        refine zw_ist1 (nx := 5) C (eIst_n dX7_wordHere_4 rfl rfl) (Nat.le_of_ble_eq_true rfl) rfl ?_
        refine zw_iload_n (i := 1) (nx := 6) C dX7_wordHere_5 rfl rfl rfl ?_
        refine zw_bipush (v := 7) (nx := 8) C dX7_wordHere_6 (by decide) rfl ?_
        refine zw_icmp_ne (tgt := 59) (nx := 11) C dX7_wordHere_8 rfl rfl (by omega) (fun h8 => ?_) (fun h8 => by exfalso; omega)
        refine zw_iload_n (i := 1) (nx := 60) C dX7_wordHere_59 rfl rfl rfl ?_
        refine zw_iconst (nx := 61) C dX7_wordHere_60 rfl ?_
        refine zw_icmp_ne (tgt := 96) (nx := 64) C dX7_wordHere_61 rfl rfl (by omega) (fun h61 => ?_) (fun h61 => by exfalso; omega)
        refine zw_iload_n (i := 1) (nx := 97) C dX7_wordHere_96 rfl rfl rfl ?_
        refine zw_iconst (nx := 98) C dX7_wordHere_97 rfl ?_
        refine zw_icmp_eq (tgt := 105) (nx := 101) C dX7_wordHere_98 rfl rfl (by omega) (fun h98 => ?_) (fun h98 => by exfalso; omega)
        refine zw_aload_n (i := 0) (nx := 106) C dX7_wordHere_105 rfl rfl rfl ?_
        refine zw_bipush (v := 104) (nx := 108) C dX7_wordHere_106 (by decide) rfl ?_
        refine zw_bipush (v := 105) (nx := 110) C dX7_wordHere_108 (by decide) rfl ?_
        refine zw_bipush (v := 108) (nx := 112) C dX7_wordHere_110 (by decide) rfl ?_
        refine zw_bipush (v := 108) (nx := 114) C dX7_wordHere_112 (by decide) rfl ?_
        refine zw_cV41 (nx := 117) C dX7_wordHere_114 rfl cvX7_126 rfl rfl ⟨Nat.le_of_ble_eq_true rfl, Nat.le_of_ble_eq_true rfl⟩ rfl rfl (Nat.le_of_ble_eq_true rfl) rs ?_
        refine zw_if_eq (tgt := 124) (nx := 120) C dX7_wordHere_117 rfl rfl (by omega) (fun h117 => ?_) (fun h117 => by exfalso; omega)
        refine zw_aload_n (i := 0) (nx := 125) C dX7_wordHere_124 rfl rfl rfl ?_
        refine zw_bipush (v := 100) (nx := 127) C dX7_wordHere_125 (by decide) rfl ?_
        refine zw_bipush (v := 97) (nx := 129) C dX7_wordHere_127 (by decide) rfl ?_
        refine zw_bipush (v := 114) (nx := 131) C dX7_wordHere_129 (by decide) rfl ?_
        refine zw_bipush (v := 107) (nx := 133) C dX7_wordHere_131 (by decide) rfl ?_
        refine zw_cV41 (nx := 136) C dX7_wordHere_133 rfl cvX7_126 rfl rfl ⟨Nat.le_of_ble_eq_true rfl, Nat.le_of_ble_eq_true rfl⟩ rfl rfl (Nat.le_of_ble_eq_true rfl) ru ?_
        refine zw_if_eq (tgt := 143) (nx := 139) C dX7_wordHere_136 rfl rfl (by omega) (fun h136 => ?_) (fun h136 => by exfalso; omega)
        refine zw_aload_n (i := 0) (nx := 144) C dX7_wordHere_143 rfl rfl rfl ?_
        refine zw_bipush (v := 115) (nx := 146) C dX7_wordHere_144 (by decide) rfl ?_
        refine zw_bipush (v := 101) (nx := 148) C dX7_wordHere_146 (by decide) rfl ?_
        refine zw_bipush (v := 97) (nx := 150) C dX7_wordHere_148 (by decide) rfl ?_
        refine zw_bipush (v := 116) (nx := 152) C dX7_wordHere_150 (by decide) rfl ?_
        refine zw_cV41 (nx := 155) C dX7_wordHere_152 rfl cvX7_126 rfl rfl ⟨Nat.le_of_ble_eq_true rfl, Nat.le_of_ble_eq_true rfl⟩ rfl rfl (Nat.le_of_ble_eq_true rfl) rv ?_
        refine zw_if_eq (tgt := 162) (nx := 158) C dX7_wordHere_155 rfl rfl (by omega) (fun h155 => ?_) (fun h155 => by exfalso; omega)
        refine zw_iconst (nx := 163) C dX7_wordHere_162 rfl ?_
        exact zw_iret C hA hr hk dX7_wordHere_163 rfl rfl
theorem run_X7_wordHere (hx : TXm ζ t T) {s : Nat} (hi : ζ.1 52 16 = s) (hst : s ≤ t) : zRun l B mX7_wordHere [.ref 52] ζ (some (zi (wd T t s))) ζ := by
  by_cases h7 : lE T t s - s = 7
  · exact wh_7 hx hi hst h7
  · by_cases h3 : lE T t s - s = 3
    · exact wh_3 hx hi hst h3
    · by_cases h4 : lE T t s - s = 4
      · exact wh_4 hx hi hst h4
      · exact wh_o hx hi hst h7 h3 h4
end TextMd
