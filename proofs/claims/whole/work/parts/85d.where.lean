/-! the reference's wordHere -/
section TextMd
variable {l : Launch} {B : eB} {ζ : zSt} {t : Nat} {T : Nat → Int}
set_option maxHeartbeats 4000000 in
theorem run_X7_wordHere (hx : TXm ζ t T) {s : Nat} (hi : ζ.1 52 16 = s) (hst : s ≤ t) : zRun l B mX7_wordHere [.ref 52] ζ (some (zi (wd T t s))) ζ := by
  have hl := lE_bd T hst
  have ht := hx.1.2
  have sz := run_X7_wordSize (l := l) (B := B) hx hi hst
  have lt : ∀ k, s + k < t → zRun l B mX7_letter [.ref 52, zi k] ζ (some (zi (T (s + k)))) ζ := fun k hk => run_X7_letter hx hi hk
  have lb : ∀ k, s + k < t → 0 ≤ T (s + k) ∧ T (s + k) ≤ 127 := fun k hk => (hx.2 (s + k) hk).2
  have sp : s + 3 < t → ∀ a b c d : Int, (0 ≤ a ∧ a ≤ 200) → (0 ≤ b ∧ b ≤ 200) → (0 ≤ c ∧ c ≤ 200) → (0 ≤ d ∧ d ≤ 200) → ∀ x : Bool, decide (T s = a ∧ T (s + 1) = b ∧ T (s + 2) = c ∧ T (s + 3) = d) = x → zRun l B mX7_spells [.ref 52, zi a, zi b, zi c, zi d] ζ (some (zi (b2i x))) ζ := fun h a b c d ha hb hc hd x e => by
    rw [← e]; exact run_X7_spells hx hi h ha hb hc hd
  have e0 := wE_0 (T := T) (t := t) (s := s)
  have e1 := wE_1 (T := T) (t := t) (s := s)
  have e2 := wE_2 (T := T) (t := t) (s := s)
  have e3 := wE_3 (T := T) (t := t) (s := s)
  have e4 := wE_4 (T := T) (t := t) (s := s)
  have no2 : ∀ {i : Nat}, i < 5 → ∀ {P : Prop}, (wE T t s i = true ↔ P) → ¬ P → wE T t s i = false := fun hi P he hn => by
    cases hw : wE T t s _ with
    | false => rfl
    | true => exact absurd (he.mp hw) hn
  generalize hn9 : lE T t s - s = n at sz e0 e1 e2 e3 e4
  have hnt : s + n ≤ t := by omega
  refine zrun_intro (M := mX7_wordHere) (ls := [some (.ref 52), none]) (by decide) rfl rfl rfl (Nat.le_of_ble_eq_true rfl) ?_
  intro X A C hX hA hr hk
  replace C : CX X B A mX7_wordHere.2.2.2.2 RX7 cX7_wordHere 2 0 0 := C
  have hr : (xMeth X).sig.returnType = (some .int) := hr
  change ZW X B A 2 0 0 _ _ 0 [some (.ref 52), none] []
  subst hX
  by_cases h7 : n = 7
  · have w3 : wE T t s 3 = false := no2 (by decide) e3 (fun q => absurd (h7.symm.trans q.1) (by decide))
    have w0 : wE T t s 0 = false := no2 (by decide) e0 (fun q => absurd (h7.symm.trans q.1) (by decide))
    have w1 : wE T t s 1 = false := no2 (by decide) e1 (fun q => absurd (h7.symm.trans q.1) (by decide))
    have w4 : wE T t s 4 = false := no2 (by decide) e4 (fun q => absurd (h7.symm.trans q.1) (by decide))
    clear e0 e1 e3 e4
    have r4 : zRun (xLa X) B mX7_letter [.ref 52, zi 4] ζ (some (zi (T (s + 4)))) ζ := lt 4 (by omega)
    have r5 : zRun (xLa X) B mX7_letter [.ref 52, zi 5] ζ (some (zi (T (s + 5)))) ζ := lt 5 (by omega)
    have r6 : zRun (xLa X) B mX7_letter [.ref 52, zi 6] ζ (some (zi (T (s + 6)))) ζ := lt 6 (by omega)
    have b4 := lb 4 (by omega)
    have b5 := lb 5 (by omega)
    have b6 := lb 6 (by omega)
    have out : wE T t s 2 = false → wd T t s = -1 := fun w2 => by unfold wd; rw [w2, w3, w0, w1, w4]; rfl
    by_cases gA : T s = 104 ∧ T (s + 1) = 101 ∧ T (s + 2) = 105 ∧ T (s + 3) = 103
    · have rs := sp (by omega) 104 101 105 103 (by decide) (by decide) (by decide) (by decide) true (decide_eq_true gA)
      replace rs : zRun (xLa X) B mX7_spells [.ref 52, zi 104, zi 101, zi 105, zi 103] ζ (some (zi 1)) ζ := rs
      by_cases g4 : T (s + 4) = 104
      · by_cases g5 : T (s + 5) = 116
        · by_cases g6 : T (s + 6) = 115
          · have w2 : wE T t s 2 = true := e2.mpr ⟨h7, gA, g4, g5, g6⟩
            have ew : wd T t s = 2 := by unfold wd; rw [w2]; rfl
            rw [ew]
            (try clear e0); (try clear e1); (try clear e2); (try clear e3); (try clear e4); (try clear gA); (try clear gB); (try clear gC); (try clear lb); (try clear lt); (try clear sp); (try clear no2)
            refine zw_aload_n (i := 0) (nx := 1) C dX7_wordHere_0 rfl rfl rfl ?_
            refine zw_cV01 (nx := 4) C dX7_wordHere_1 rfl cvX7_123 rfl rfl ⟨Nat.le_of_ble_eq_true rfl, Nat.le_of_ble_eq_true rfl⟩ rfl rfl (Nat.le_of_ble_eq_true rfl) sz ?_
            refine zw_ist1 (nx := 5) C (eIst_n dX7_wordHere_4 rfl rfl) (Nat.le_of_ble_eq_true rfl) rfl ?_
            refine zw_iload_n (i := 1) (nx := 6) C dX7_wordHere_5 rfl rfl rfl ?_
            refine zw_bipush (v := 7) (nx := 8) C dX7_wordHere_6 (by decide) rfl ?_
            refine zw_icmp_ne (tgt := 59) (nx := 11) C dX7_wordHere_8 rfl rfl (by omega) (fun h8 => by exfalso; omega) (fun h8 => ?_)
            refine zw_aload_n (i := 0) (nx := 12) C dX7_wordHere_11 rfl rfl rfl ?_
            refine zw_bipush (v := 104) (nx := 14) C dX7_wordHere_12 (by decide) rfl ?_
            refine zw_bipush (v := 101) (nx := 16) C dX7_wordHere_14 (by decide) rfl ?_
            refine zw_bipush (v := 105) (nx := 18) C dX7_wordHere_16 (by decide) rfl ?_
            refine zw_bipush (v := 103) (nx := 20) C dX7_wordHere_18 (by decide) rfl ?_
            refine zw_cV41 (nx := 23) C dX7_wordHere_20 rfl cvX7_126 rfl rfl ⟨Nat.le_of_ble_eq_true rfl, Nat.le_of_ble_eq_true rfl⟩ rfl rfl (Nat.le_of_ble_eq_true rfl) rs ?_
            refine zw_if_eq (tgt := 59) (nx := 26) C dX7_wordHere_23 rfl rfl (by omega) (fun h23 => by exfalso; omega) (fun h23 => ?_)
            refine zw_aload_n (i := 0) (nx := 27) C dX7_wordHere_26 rfl rfl rfl ?_
            refine zw_iconst (nx := 28) C dX7_wordHere_27 rfl ?_
            refine zw_cV11 (nx := 31) C dX7_wordHere_28 rfl cvX7_119 rfl rfl ⟨Nat.le_of_ble_eq_true rfl, Nat.le_of_ble_eq_true rfl⟩ rfl rfl (Nat.le_of_ble_eq_true rfl) r4 ?_
            refine zw_bipush (v := 104) (nx := 33) C dX7_wordHere_31 (by decide) rfl ?_
            refine zw_icmp_ne (tgt := 59) (nx := 36) C dX7_wordHere_33 rfl rfl (by omega) (fun h33 => by exfalso; omega) (fun h33 => ?_)
            refine zw_aload_n (i := 0) (nx := 37) C dX7_wordHere_36 rfl rfl rfl ?_
            refine zw_iconst (nx := 38) C dX7_wordHere_37 rfl ?_
            refine zw_cV11 (nx := 41) C dX7_wordHere_38 rfl cvX7_119 rfl rfl ⟨Nat.le_of_ble_eq_true rfl, Nat.le_of_ble_eq_true rfl⟩ rfl rfl (Nat.le_of_ble_eq_true rfl) r5 ?_
            refine zw_bipush (v := 116) (nx := 43) C dX7_wordHere_41 (by decide) rfl ?_
            refine zw_icmp_ne (tgt := 59) (nx := 46) C dX7_wordHere_43 rfl rfl (by omega) (fun h43 => by exfalso; omega) (fun h43 => ?_)
            refine zw_aload_n (i := 0) (nx := 47) C dX7_wordHere_46 rfl rfl rfl ?_
            refine zw_bipush (v := 6) (nx := 49) C dX7_wordHere_47 (by decide) rfl ?_
            refine zw_cV11 (nx := 52) C dX7_wordHere_49 rfl cvX7_119 rfl rfl ⟨Nat.le_of_ble_eq_true rfl, Nat.le_of_ble_eq_true rfl⟩ rfl rfl (Nat.le_of_ble_eq_true rfl) r6 ?_
            refine zw_bipush (v := 115) (nx := 54) C dX7_wordHere_52 (by decide) rfl ?_
            refine zw_icmp_ne (tgt := 59) (nx := 57) C dX7_wordHere_54 rfl rfl (by omega) (fun h54 => by exfalso; omega) (fun h54 => ?_)
            refine zw_iconst (nx := 58) C dX7_wordHere_57 rfl ?_
            exact zw_iret C hA hr hk dX7_wordHere_58 rfl rfl
          · rw [out (no2 (by decide) e2 (fun q => g6 q.2.2.2.2))]
            (try clear e0); (try clear e1); (try clear e2); (try clear e3); (try clear e4); (try clear gA); (try clear gB); (try clear gC); (try clear lb); (try clear lt); (try clear sp); (try clear no2)
            refine zw_aload_n (i := 0) (nx := 1) C dX7_wordHere_0 rfl rfl rfl ?_
            refine zw_cV01 (nx := 4) C dX7_wordHere_1 rfl cvX7_123 rfl rfl ⟨Nat.le_of_ble_eq_true rfl, Nat.le_of_ble_eq_true rfl⟩ rfl rfl (Nat.le_of_ble_eq_true rfl) sz ?_
            refine zw_ist1 (nx := 5) C (eIst_n dX7_wordHere_4 rfl rfl) (Nat.le_of_ble_eq_true rfl) rfl ?_
            refine zw_iload_n (i := 1) (nx := 6) C dX7_wordHere_5 rfl rfl rfl ?_
            refine zw_bipush (v := 7) (nx := 8) C dX7_wordHere_6 (by decide) rfl ?_
            refine zw_icmp_ne (tgt := 59) (nx := 11) C dX7_wordHere_8 rfl rfl (by omega) (fun h8 => by exfalso; omega) (fun h8 => ?_)
            refine zw_aload_n (i := 0) (nx := 12) C dX7_wordHere_11 rfl rfl rfl ?_
            refine zw_bipush (v := 104) (nx := 14) C dX7_wordHere_12 (by decide) rfl ?_
            refine zw_bipush (v := 101) (nx := 16) C dX7_wordHere_14 (by decide) rfl ?_
            refine zw_bipush (v := 105) (nx := 18) C dX7_wordHere_16 (by decide) rfl ?_
            refine zw_bipush (v := 103) (nx := 20) C dX7_wordHere_18 (by decide) rfl ?_
            refine zw_cV41 (nx := 23) C dX7_wordHere_20 rfl cvX7_126 rfl rfl ⟨Nat.le_of_ble_eq_true rfl, Nat.le_of_ble_eq_true rfl⟩ rfl rfl (Nat.le_of_ble_eq_true rfl) rs ?_
            refine zw_if_eq (tgt := 59) (nx := 26) C dX7_wordHere_23 rfl rfl (by omega) (fun h23 => by exfalso; omega) (fun h23 => ?_)
            refine zw_aload_n (i := 0) (nx := 27) C dX7_wordHere_26 rfl rfl rfl ?_
            refine zw_iconst (nx := 28) C dX7_wordHere_27 rfl ?_
            refine zw_cV11 (nx := 31) C dX7_wordHere_28 rfl cvX7_119 rfl rfl ⟨Nat.le_of_ble_eq_true rfl, Nat.le_of_ble_eq_true rfl⟩ rfl rfl (Nat.le_of_ble_eq_true rfl) r4 ?_
            refine zw_bipush (v := 104) (nx := 33) C dX7_wordHere_31 (by decide) rfl ?_
            refine zw_icmp_ne (tgt := 59) (nx := 36) C dX7_wordHere_33 rfl rfl (by omega) (fun h33 => by exfalso; omega) (fun h33 => ?_)
            refine zw_aload_n (i := 0) (nx := 37) C dX7_wordHere_36 rfl rfl rfl ?_
            refine zw_iconst (nx := 38) C dX7_wordHere_37 rfl ?_
            refine zw_cV11 (nx := 41) C dX7_wordHere_38 rfl cvX7_119 rfl rfl ⟨Nat.le_of_ble_eq_true rfl, Nat.le_of_ble_eq_true rfl⟩ rfl rfl (Nat.le_of_ble_eq_true rfl) r5 ?_
            refine zw_bipush (v := 116) (nx := 43) C dX7_wordHere_41 (by decide) rfl ?_
            refine zw_icmp_ne (tgt := 59) (nx := 46) C dX7_wordHere_43 rfl rfl (by omega) (fun h43 => by exfalso; omega) (fun h43 => ?_)
            refine zw_aload_n (i := 0) (nx := 47) C dX7_wordHere_46 rfl rfl rfl ?_
            refine zw_bipush (v := 6) (nx := 49) C dX7_wordHere_47 (by decide) rfl ?_
            refine zw_cV11 (nx := 52) C dX7_wordHere_49 rfl cvX7_119 rfl rfl ⟨Nat.le_of_ble_eq_true rfl, Nat.le_of_ble_eq_true rfl⟩ rfl rfl (Nat.le_of_ble_eq_true rfl) r6 ?_
            refine zw_bipush (v := 115) (nx := 54) C dX7_wordHere_52 (by decide) rfl ?_
            refine zw_icmp_ne (tgt := 59) (nx := 57) C dX7_wordHere_54 rfl rfl (by omega) (fun h54 => ?_) (fun h54 => by exfalso; omega)
            refine zw_iload_n (i := 1) (nx := 60) C dX7_wordHere_59 rfl rfl rfl ?_
            refine zw_iconst (nx := 61) C dX7_wordHere_60 rfl ?_
            refine zw_icmp_ne (tgt := 96) (nx := 64) C dX7_wordHere_61 rfl rfl (by omega) (fun h61 => ?_) (fun h61 => by exfalso; omega)
            refine zw_iload_n (i := 1) (nx := 97) C dX7_wordHere_96 rfl rfl rfl ?_
            refine zw_iconst (nx := 98) C dX7_wordHere_97 rfl ?_
            refine zw_icmp_eq (tgt := 105) (nx := 101) C dX7_wordHere_98 rfl rfl (by omega) (fun h98 => by exfalso; omega) (fun h98 => ?_)
            refine zw_iconst (nx := 102) C dX7_wordHere_101 rfl ?_
            refine zw_goto (nx := 163) C dX7_wordHere_102 rfl ?_
            exact zw_iret C hA hr hk dX7_wordHere_163 rfl rfl
        · rw [out (no2 (by decide) e2 (fun q => g5 q.2.2.2.1))]
          (try clear e0); (try clear e1); (try clear e2); (try clear e3); (try clear e4); (try clear gA); (try clear gB); (try clear gC); (try clear lb); (try clear lt); (try clear sp); (try clear no2)
          refine zw_aload_n (i := 0) (nx := 1) C dX7_wordHere_0 rfl rfl rfl ?_
          refine zw_cV01 (nx := 4) C dX7_wordHere_1 rfl cvX7_123 rfl rfl ⟨Nat.le_of_ble_eq_true rfl, Nat.le_of_ble_eq_true rfl⟩ rfl rfl (Nat.le_of_ble_eq_true rfl) sz ?_
          refine zw_ist1 (nx := 5) C (eIst_n dX7_wordHere_4 rfl rfl) (Nat.le_of_ble_eq_true rfl) rfl ?_
          refine zw_iload_n (i := 1) (nx := 6) C dX7_wordHere_5 rfl rfl rfl ?_
          refine zw_bipush (v := 7) (nx := 8) C dX7_wordHere_6 (by decide) rfl ?_
          refine zw_icmp_ne (tgt := 59) (nx := 11) C dX7_wordHere_8 rfl rfl (by omega) (fun h8 => by exfalso; omega) (fun h8 => ?_)
          refine zw_aload_n (i := 0) (nx := 12) C dX7_wordHere_11 rfl rfl rfl ?_
          refine zw_bipush (v := 104) (nx := 14) C dX7_wordHere_12 (by decide) rfl ?_
          refine zw_bipush (v := 101) (nx := 16) C dX7_wordHere_14 (by decide) rfl ?_
          refine zw_bipush (v := 105) (nx := 18) C dX7_wordHere_16 (by decide) rfl ?_
          refine zw_bipush (v := 103) (nx := 20) C dX7_wordHere_18 (by decide) rfl ?_
          refine zw_cV41 (nx := 23) C dX7_wordHere_20 rfl cvX7_126 rfl rfl ⟨Nat.le_of_ble_eq_true rfl, Nat.le_of_ble_eq_true rfl⟩ rfl rfl (Nat.le_of_ble_eq_true rfl) rs ?_
          refine zw_if_eq (tgt := 59) (nx := 26) C dX7_wordHere_23 rfl rfl (by omega) (fun h23 => by exfalso; omega) (fun h23 => ?_)
          refine zw_aload_n (i := 0) (nx := 27) C dX7_wordHere_26 rfl rfl rfl ?_
          refine zw_iconst (nx := 28) C dX7_wordHere_27 rfl ?_
          refine zw_cV11 (nx := 31) C dX7_wordHere_28 rfl cvX7_119 rfl rfl ⟨Nat.le_of_ble_eq_true rfl, Nat.le_of_ble_eq_true rfl⟩ rfl rfl (Nat.le_of_ble_eq_true rfl) r4 ?_
          refine zw_bipush (v := 104) (nx := 33) C dX7_wordHere_31 (by decide) rfl ?_
          refine zw_icmp_ne (tgt := 59) (nx := 36) C dX7_wordHere_33 rfl rfl (by omega) (fun h33 => by exfalso; omega) (fun h33 => ?_)
          refine zw_aload_n (i := 0) (nx := 37) C dX7_wordHere_36 rfl rfl rfl ?_
          refine zw_iconst (nx := 38) C dX7_wordHere_37 rfl ?_
          refine zw_cV11 (nx := 41) C dX7_wordHere_38 rfl cvX7_119 rfl rfl ⟨Nat.le_of_ble_eq_true rfl, Nat.le_of_ble_eq_true rfl⟩ rfl rfl (Nat.le_of_ble_eq_true rfl) r5 ?_
          refine zw_bipush (v := 116) (nx := 43) C dX7_wordHere_41 (by decide) rfl ?_
          refine zw_icmp_ne (tgt := 59) (nx := 46) C dX7_wordHere_43 rfl rfl (by omega) (fun h43 => ?_) (fun h43 => by exfalso; omega)
          refine zw_iload_n (i := 1) (nx := 60) C dX7_wordHere_59 rfl rfl rfl ?_
          refine zw_iconst (nx := 61) C dX7_wordHere_60 rfl ?_
          refine zw_icmp_ne (tgt := 96) (nx := 64) C dX7_wordHere_61 rfl rfl (by omega) (fun h61 => ?_) (fun h61 => by exfalso; omega)
          refine zw_iload_n (i := 1) (nx := 97) C dX7_wordHere_96 rfl rfl rfl ?_
          refine zw_iconst (nx := 98) C dX7_wordHere_97 rfl ?_
          refine zw_icmp_eq (tgt := 105) (nx := 101) C dX7_wordHere_98 rfl rfl (by omega) (fun h98 => by exfalso; omega) (fun h98 => ?_)
          refine zw_iconst (nx := 102) C dX7_wordHere_101 rfl ?_
          refine zw_goto (nx := 163) C dX7_wordHere_102 rfl ?_
          exact zw_iret C hA hr hk dX7_wordHere_163 rfl rfl
      · rw [out (no2 (by decide) e2 (fun q => g4 q.2.2.1))]
        (try clear e0); (try clear e1); (try clear e2); (try clear e3); (try clear e4); (try clear gA); (try clear gB); (try clear gC); (try clear lb); (try clear lt); (try clear sp); (try clear no2)
        refine zw_aload_n (i := 0) (nx := 1) C dX7_wordHere_0 rfl rfl rfl ?_
        refine zw_cV01 (nx := 4) C dX7_wordHere_1 rfl cvX7_123 rfl rfl ⟨Nat.le_of_ble_eq_true rfl, Nat.le_of_ble_eq_true rfl⟩ rfl rfl (Nat.le_of_ble_eq_true rfl) sz ?_
        refine zw_ist1 (nx := 5) C (eIst_n dX7_wordHere_4 rfl rfl) (Nat.le_of_ble_eq_true rfl) rfl ?_
        refine zw_iload_n (i := 1) (nx := 6) C dX7_wordHere_5 rfl rfl rfl ?_
        refine zw_bipush (v := 7) (nx := 8) C dX7_wordHere_6 (by decide) rfl ?_
        refine zw_icmp_ne (tgt := 59) (nx := 11) C dX7_wordHere_8 rfl rfl (by omega) (fun h8 => by exfalso; omega) (fun h8 => ?_)
        refine zw_aload_n (i := 0) (nx := 12) C dX7_wordHere_11 rfl rfl rfl ?_
        refine zw_bipush (v := 104) (nx := 14) C dX7_wordHere_12 (by decide) rfl ?_
        refine zw_bipush (v := 101) (nx := 16) C dX7_wordHere_14 (by decide) rfl ?_
        refine zw_bipush (v := 105) (nx := 18) C dX7_wordHere_16 (by decide) rfl ?_
        refine zw_bipush (v := 103) (nx := 20) C dX7_wordHere_18 (by decide) rfl ?_
        refine zw_cV41 (nx := 23) C dX7_wordHere_20 rfl cvX7_126 rfl rfl ⟨Nat.le_of_ble_eq_true rfl, Nat.le_of_ble_eq_true rfl⟩ rfl rfl (Nat.le_of_ble_eq_true rfl) rs ?_
        refine zw_if_eq (tgt := 59) (nx := 26) C dX7_wordHere_23 rfl rfl (by omega) (fun h23 => by exfalso; omega) (fun h23 => ?_)
        refine zw_aload_n (i := 0) (nx := 27) C dX7_wordHere_26 rfl rfl rfl ?_
        refine zw_iconst (nx := 28) C dX7_wordHere_27 rfl ?_
        refine zw_cV11 (nx := 31) C dX7_wordHere_28 rfl cvX7_119 rfl rfl ⟨Nat.le_of_ble_eq_true rfl, Nat.le_of_ble_eq_true rfl⟩ rfl rfl (Nat.le_of_ble_eq_true rfl) r4 ?_
        refine zw_bipush (v := 104) (nx := 33) C dX7_wordHere_31 (by decide) rfl ?_
        refine zw_icmp_ne (tgt := 59) (nx := 36) C dX7_wordHere_33 rfl rfl (by omega) (fun h33 => ?_) (fun h33 => by exfalso; omega)
        refine zw_iload_n (i := 1) (nx := 60) C dX7_wordHere_59 rfl rfl rfl ?_
        refine zw_iconst (nx := 61) C dX7_wordHere_60 rfl ?_
        refine zw_icmp_ne (tgt := 96) (nx := 64) C dX7_wordHere_61 rfl rfl (by omega) (fun h61 => ?_) (fun h61 => by exfalso; omega)
        refine zw_iload_n (i := 1) (nx := 97) C dX7_wordHere_96 rfl rfl rfl ?_
        refine zw_iconst (nx := 98) C dX7_wordHere_97 rfl ?_
        refine zw_icmp_eq (tgt := 105) (nx := 101) C dX7_wordHere_98 rfl rfl (by omega) (fun h98 => by exfalso; omega) (fun h98 => ?_)
        refine zw_iconst (nx := 102) C dX7_wordHere_101 rfl ?_
        refine zw_goto (nx := 163) C dX7_wordHere_102 rfl ?_
        exact zw_iret C hA hr hk dX7_wordHere_163 rfl rfl
    · have rs := sp (by omega) 104 101 105 103 (by decide) (by decide) (by decide) (by decide) false (decide_eq_false gA)
      replace rs : zRun (xLa X) B mX7_spells [.ref 52, zi 104, zi 101, zi 105, zi 103] ζ (some (zi 0)) ζ := rs
      rw [out (no2 (by decide) e2 (fun q => gA q.2.1))]
      (try clear e0); (try clear e1); (try clear e2); (try clear e3); (try clear e4); (try clear gA); (try clear gB); (try clear gC); (try clear lb); (try clear lt); (try clear sp); (try clear no2)
      refine zw_aload_n (i := 0) (nx := 1) C dX7_wordHere_0 rfl rfl rfl ?_
      refine zw_cV01 (nx := 4) C dX7_wordHere_1 rfl cvX7_123 rfl rfl ⟨Nat.le_of_ble_eq_true rfl, Nat.le_of_ble_eq_true rfl⟩ rfl rfl (Nat.le_of_ble_eq_true rfl) sz ?_
      refine zw_ist1 (nx := 5) C (eIst_n dX7_wordHere_4 rfl rfl) (Nat.le_of_ble_eq_true rfl) rfl ?_
      refine zw_iload_n (i := 1) (nx := 6) C dX7_wordHere_5 rfl rfl rfl ?_
      refine zw_bipush (v := 7) (nx := 8) C dX7_wordHere_6 (by decide) rfl ?_
      refine zw_icmp_ne (tgt := 59) (nx := 11) C dX7_wordHere_8 rfl rfl (by omega) (fun h8 => by exfalso; omega) (fun h8 => ?_)
      refine zw_aload_n (i := 0) (nx := 12) C dX7_wordHere_11 rfl rfl rfl ?_
      refine zw_bipush (v := 104) (nx := 14) C dX7_wordHere_12 (by decide) rfl ?_
      refine zw_bipush (v := 101) (nx := 16) C dX7_wordHere_14 (by decide) rfl ?_
      refine zw_bipush (v := 105) (nx := 18) C dX7_wordHere_16 (by decide) rfl ?_
      refine zw_bipush (v := 103) (nx := 20) C dX7_wordHere_18 (by decide) rfl ?_
      refine zw_cV41 (nx := 23) C dX7_wordHere_20 rfl cvX7_126 rfl rfl ⟨Nat.le_of_ble_eq_true rfl, Nat.le_of_ble_eq_true rfl⟩ rfl rfl (Nat.le_of_ble_eq_true rfl) rs ?_
      refine zw_if_eq (tgt := 59) (nx := 26) C dX7_wordHere_23 rfl rfl (by omega) (fun h23 => ?_) (fun h23 => by exfalso; omega)
      refine zw_iload_n (i := 1) (nx := 60) C dX7_wordHere_59 rfl rfl rfl ?_
      refine zw_iconst (nx := 61) C dX7_wordHere_60 rfl ?_
      refine zw_icmp_ne (tgt := 96) (nx := 64) C dX7_wordHere_61 rfl rfl (by omega) (fun h61 => ?_) (fun h61 => by exfalso; omega)
      refine zw_iload_n (i := 1) (nx := 97) C dX7_wordHere_96 rfl rfl rfl ?_
      refine zw_iconst (nx := 98) C dX7_wordHere_97 rfl ?_
      refine zw_icmp_eq (tgt := 105) (nx := 101) C dX7_wordHere_98 rfl rfl (by omega) (fun h98 => by exfalso; omega) (fun h98 => ?_)
      refine zw_iconst (nx := 102) C dX7_wordHere_101 rfl ?_
      refine zw_goto (nx := 163) C dX7_wordHere_102 rfl ?_
      exact zw_iret C hA hr hk dX7_wordHere_163 rfl rfl
  · have w2 : wE T t s 2 = false := no2 (by decide) e2 (fun q => h7 q.1)
    by_cases h3 : n = 3
    · have w0 : wE T t s 0 = false := no2 (by decide) e0 (fun q => absurd (h3.symm.trans q.1) (by decide))
      have w1 : wE T t s 1 = false := no2 (by decide) e1 (fun q => absurd (h3.symm.trans q.1) (by decide))
      have w4 : wE T t s 4 = false := no2 (by decide) e4 (fun q => absurd (h3.symm.trans q.1) (by decide))
      clear e0 e1 e2 e4
      have r0 : zRun (xLa X) B mX7_letter [.ref 52, zi 0] ζ (some (zi (T s))) ζ := lt 0 (by omega)
      have r1 : zRun (xLa X) B mX7_letter [.ref 52, zi 1] ζ (some (zi (T (s + 1)))) ζ := lt 1 (by omega)
      have r2 : zRun (xLa X) B mX7_letter [.ref 52, zi 2] ζ (some (zi (T (s + 2)))) ζ := lt 2 (by omega)
      have b0 := lb 0 (by omega)
      rw [Nat.add_zero] at b0
      have b1 := lb 1 (by omega)
      have b2 := lb 2 (by omega)
      have out : wE T t s 3 = false → wd T t s = -1 := fun w3 => by unfold wd; rw [w2, w3, w0, w1, w4]; rfl
      by_cases g0 : T s = 111
      · by_cases g1 : T (s + 1) = 110
        · by_cases g2 : T (s + 2) = 101
          · have w3 : wE T t s 3 = true := e3.mpr ⟨h3, g0, g1, g2⟩
            have ew : wd T t s = 3 := by unfold wd; rw [w2, w3]; rfl
            rw [ew]
            (try clear e0); (try clear e1); (try clear e2); (try clear e3); (try clear e4); (try clear gA); (try clear gB); (try clear gC); (try clear lb); (try clear lt); (try clear sp); (try clear no2)
            refine zw_aload_n (i := 0) (nx := 1) C dX7_wordHere_0 rfl rfl rfl ?_
            refine zw_cV01 (nx := 4) C dX7_wordHere_1 rfl cvX7_123 rfl rfl ⟨Nat.le_of_ble_eq_true rfl, Nat.le_of_ble_eq_true rfl⟩ rfl rfl (Nat.le_of_ble_eq_true rfl) sz ?_
            refine zw_ist1 (nx := 5) C (eIst_n dX7_wordHere_4 rfl rfl) (Nat.le_of_ble_eq_true rfl) rfl ?_
            refine zw_iload_n (i := 1) (nx := 6) C dX7_wordHere_5 rfl rfl rfl ?_
            refine zw_bipush (v := 7) (nx := 8) C dX7_wordHere_6 (by decide) rfl ?_
            refine zw_icmp_ne (tgt := 59) (nx := 11) C dX7_wordHere_8 rfl rfl (by omega) (fun h8 => ?_) (fun h8 => by exfalso; omega)
            refine zw_iload_n (i := 1) (nx := 60) C dX7_wordHere_59 rfl rfl rfl ?_
            refine zw_iconst (nx := 61) C dX7_wordHere_60 rfl ?_
            refine zw_icmp_ne (tgt := 96) (nx := 64) C dX7_wordHere_61 rfl rfl (by omega) (fun h61 => by exfalso; omega) (fun h61 => ?_)
            refine zw_aload_n (i := 0) (nx := 65) C dX7_wordHere_64 rfl rfl rfl ?_
            refine zw_iconst (nx := 66) C dX7_wordHere_65 rfl ?_
            refine zw_cV11 (nx := 69) C dX7_wordHere_66 rfl cvX7_119 rfl rfl ⟨Nat.le_of_ble_eq_true rfl, Nat.le_of_ble_eq_true rfl⟩ rfl rfl (Nat.le_of_ble_eq_true rfl) r0 ?_
            refine zw_bipush (v := 111) (nx := 71) C dX7_wordHere_69 (by decide) rfl ?_
            refine zw_icmp_ne (tgt := 96) (nx := 74) C dX7_wordHere_71 rfl rfl (by omega) (fun h71 => by exfalso; omega) (fun h71 => ?_)
            refine zw_aload_n (i := 0) (nx := 75) C dX7_wordHere_74 rfl rfl rfl ?_
            refine zw_iconst (nx := 76) C dX7_wordHere_75 rfl ?_
            refine zw_cV11 (nx := 79) C dX7_wordHere_76 rfl cvX7_119 rfl rfl ⟨Nat.le_of_ble_eq_true rfl, Nat.le_of_ble_eq_true rfl⟩ rfl rfl (Nat.le_of_ble_eq_true rfl) r1 ?_
            refine zw_bipush (v := 110) (nx := 81) C dX7_wordHere_79 (by decide) rfl ?_
            refine zw_icmp_ne (tgt := 96) (nx := 84) C dX7_wordHere_81 rfl rfl (by omega) (fun h81 => by exfalso; omega) (fun h81 => ?_)
            refine zw_aload_n (i := 0) (nx := 85) C dX7_wordHere_84 rfl rfl rfl ?_
            refine zw_iconst (nx := 86) C dX7_wordHere_85 rfl ?_
            refine zw_cV11 (nx := 89) C dX7_wordHere_86 rfl cvX7_119 rfl rfl ⟨Nat.le_of_ble_eq_true rfl, Nat.le_of_ble_eq_true rfl⟩ rfl rfl (Nat.le_of_ble_eq_true rfl) r2 ?_
            refine zw_bipush (v := 101) (nx := 91) C dX7_wordHere_89 (by decide) rfl ?_
            refine zw_icmp_ne (tgt := 96) (nx := 94) C dX7_wordHere_91 rfl rfl (by omega) (fun h91 => by exfalso; omega) (fun h91 => ?_)
            refine zw_iconst (nx := 95) C dX7_wordHere_94 rfl ?_
            exact zw_iret C hA hr hk dX7_wordHere_95 rfl rfl
          · rw [out (no2 (by decide) e3 (fun q => g2 q.2.2.2))]
            (try clear e0); (try clear e1); (try clear e2); (try clear e3); (try clear e4); (try clear gA); (try clear gB); (try clear gC); (try clear lb); (try clear lt); (try clear sp); (try clear no2)
            refine zw_aload_n (i := 0) (nx := 1) C dX7_wordHere_0 rfl rfl rfl ?_
            refine zw_cV01 (nx := 4) C dX7_wordHere_1 rfl cvX7_123 rfl rfl ⟨Nat.le_of_ble_eq_true rfl, Nat.le_of_ble_eq_true rfl⟩ rfl rfl (Nat.le_of_ble_eq_true rfl) sz ?_
            refine zw_ist1 (nx := 5) C (eIst_n dX7_wordHere_4 rfl rfl) (Nat.le_of_ble_eq_true rfl) rfl ?_
            refine zw_iload_n (i := 1) (nx := 6) C dX7_wordHere_5 rfl rfl rfl ?_
            refine zw_bipush (v := 7) (nx := 8) C dX7_wordHere_6 (by decide) rfl ?_
            refine zw_icmp_ne (tgt := 59) (nx := 11) C dX7_wordHere_8 rfl rfl (by omega) (fun h8 => ?_) (fun h8 => by exfalso; omega)
            refine zw_iload_n (i := 1) (nx := 60) C dX7_wordHere_59 rfl rfl rfl ?_
            refine zw_iconst (nx := 61) C dX7_wordHere_60 rfl ?_
            refine zw_icmp_ne (tgt := 96) (nx := 64) C dX7_wordHere_61 rfl rfl (by omega) (fun h61 => by exfalso; omega) (fun h61 => ?_)
            refine zw_aload_n (i := 0) (nx := 65) C dX7_wordHere_64 rfl rfl rfl ?_
            refine zw_iconst (nx := 66) C dX7_wordHere_65 rfl ?_
            refine zw_cV11 (nx := 69) C dX7_wordHere_66 rfl cvX7_119 rfl rfl ⟨Nat.le_of_ble_eq_true rfl, Nat.le_of_ble_eq_true rfl⟩ rfl rfl (Nat.le_of_ble_eq_true rfl) r0 ?_
            refine zw_bipush (v := 111) (nx := 71) C dX7_wordHere_69 (by decide) rfl ?_
            refine zw_icmp_ne (tgt := 96) (nx := 74) C dX7_wordHere_71 rfl rfl (by omega) (fun h71 => by exfalso; omega) (fun h71 => ?_)
            refine zw_aload_n (i := 0) (nx := 75) C dX7_wordHere_74 rfl rfl rfl ?_
            refine zw_iconst (nx := 76) C dX7_wordHere_75 rfl ?_
            refine zw_cV11 (nx := 79) C dX7_wordHere_76 rfl cvX7_119 rfl rfl ⟨Nat.le_of_ble_eq_true rfl, Nat.le_of_ble_eq_true rfl⟩ rfl rfl (Nat.le_of_ble_eq_true rfl) r1 ?_
            refine zw_bipush (v := 110) (nx := 81) C dX7_wordHere_79 (by decide) rfl ?_
            refine zw_icmp_ne (tgt := 96) (nx := 84) C dX7_wordHere_81 rfl rfl (by omega) (fun h81 => by exfalso; omega) (fun h81 => ?_)
            refine zw_aload_n (i := 0) (nx := 85) C dX7_wordHere_84 rfl rfl rfl ?_
            refine zw_iconst (nx := 86) C dX7_wordHere_85 rfl ?_
            refine zw_cV11 (nx := 89) C dX7_wordHere_86 rfl cvX7_119 rfl rfl ⟨Nat.le_of_ble_eq_true rfl, Nat.le_of_ble_eq_true rfl⟩ rfl rfl (Nat.le_of_ble_eq_true rfl) r2 ?_
            refine zw_bipush (v := 101) (nx := 91) C dX7_wordHere_89 (by decide) rfl ?_
            refine zw_icmp_ne (tgt := 96) (nx := 94) C dX7_wordHere_91 rfl rfl (by omega) (fun h91 => ?_) (fun h91 => by exfalso; omega)
            refine zw_iload_n (i := 1) (nx := 97) C dX7_wordHere_96 rfl rfl rfl ?_
            refine zw_iconst (nx := 98) C dX7_wordHere_97 rfl ?_
            refine zw_icmp_eq (tgt := 105) (nx := 101) C dX7_wordHere_98 rfl rfl (by omega) (fun h98 => by exfalso; omega) (fun h98 => ?_)
            refine zw_iconst (nx := 102) C dX7_wordHere_101 rfl ?_
            refine zw_goto (nx := 163) C dX7_wordHere_102 rfl ?_
            exact zw_iret C hA hr hk dX7_wordHere_163 rfl rfl
        · rw [out (no2 (by decide) e3 (fun q => g1 q.2.2.1))]
          (try clear e0); (try clear e1); (try clear e2); (try clear e3); (try clear e4); (try clear gA); (try clear gB); (try clear gC); (try clear lb); (try clear lt); (try clear sp); (try clear no2)
          refine zw_aload_n (i := 0) (nx := 1) C dX7_wordHere_0 rfl rfl rfl ?_
          refine zw_cV01 (nx := 4) C dX7_wordHere_1 rfl cvX7_123 rfl rfl ⟨Nat.le_of_ble_eq_true rfl, Nat.le_of_ble_eq_true rfl⟩ rfl rfl (Nat.le_of_ble_eq_true rfl) sz ?_
          refine zw_ist1 (nx := 5) C (eIst_n dX7_wordHere_4 rfl rfl) (Nat.le_of_ble_eq_true rfl) rfl ?_
          refine zw_iload_n (i := 1) (nx := 6) C dX7_wordHere_5 rfl rfl rfl ?_
          refine zw_bipush (v := 7) (nx := 8) C dX7_wordHere_6 (by decide) rfl ?_
          refine zw_icmp_ne (tgt := 59) (nx := 11) C dX7_wordHere_8 rfl rfl (by omega) (fun h8 => ?_) (fun h8 => by exfalso; omega)
          refine zw_iload_n (i := 1) (nx := 60) C dX7_wordHere_59 rfl rfl rfl ?_
          refine zw_iconst (nx := 61) C dX7_wordHere_60 rfl ?_
          refine zw_icmp_ne (tgt := 96) (nx := 64) C dX7_wordHere_61 rfl rfl (by omega) (fun h61 => by exfalso; omega) (fun h61 => ?_)
          refine zw_aload_n (i := 0) (nx := 65) C dX7_wordHere_64 rfl rfl rfl ?_
          refine zw_iconst (nx := 66) C dX7_wordHere_65 rfl ?_
          refine zw_cV11 (nx := 69) C dX7_wordHere_66 rfl cvX7_119 rfl rfl ⟨Nat.le_of_ble_eq_true rfl, Nat.le_of_ble_eq_true rfl⟩ rfl rfl (Nat.le_of_ble_eq_true rfl) r0 ?_
          refine zw_bipush (v := 111) (nx := 71) C dX7_wordHere_69 (by decide) rfl ?_
          refine zw_icmp_ne (tgt := 96) (nx := 74) C dX7_wordHere_71 rfl rfl (by omega) (fun h71 => by exfalso; omega) (fun h71 => ?_)
          refine zw_aload_n (i := 0) (nx := 75) C dX7_wordHere_74 rfl rfl rfl ?_
          refine zw_iconst (nx := 76) C dX7_wordHere_75 rfl ?_
          refine zw_cV11 (nx := 79) C dX7_wordHere_76 rfl cvX7_119 rfl rfl ⟨Nat.le_of_ble_eq_true rfl, Nat.le_of_ble_eq_true rfl⟩ rfl rfl (Nat.le_of_ble_eq_true rfl) r1 ?_
          refine zw_bipush (v := 110) (nx := 81) C dX7_wordHere_79 (by decide) rfl ?_
          refine zw_icmp_ne (tgt := 96) (nx := 84) C dX7_wordHere_81 rfl rfl (by omega) (fun h81 => ?_) (fun h81 => by exfalso; omega)
          refine zw_iload_n (i := 1) (nx := 97) C dX7_wordHere_96 rfl rfl rfl ?_
          refine zw_iconst (nx := 98) C dX7_wordHere_97 rfl ?_
          refine zw_icmp_eq (tgt := 105) (nx := 101) C dX7_wordHere_98 rfl rfl (by omega) (fun h98 => by exfalso; omega) (fun h98 => ?_)
          refine zw_iconst (nx := 102) C dX7_wordHere_101 rfl ?_
          refine zw_goto (nx := 163) C dX7_wordHere_102 rfl ?_
          exact zw_iret C hA hr hk dX7_wordHere_163 rfl rfl
      · rw [out (no2 (by decide) e3 (fun q => g0 q.2.1))]
        (try clear e0); (try clear e1); (try clear e2); (try clear e3); (try clear e4); (try clear gA); (try clear gB); (try clear gC); (try clear lb); (try clear lt); (try clear sp); (try clear no2)
        refine zw_aload_n (i := 0) (nx := 1) C dX7_wordHere_0 rfl rfl rfl ?_
        refine zw_cV01 (nx := 4) C dX7_wordHere_1 rfl cvX7_123 rfl rfl ⟨Nat.le_of_ble_eq_true rfl, Nat.le_of_ble_eq_true rfl⟩ rfl rfl (Nat.le_of_ble_eq_true rfl) sz ?_
        refine zw_ist1 (nx := 5) C (eIst_n dX7_wordHere_4 rfl rfl) (Nat.le_of_ble_eq_true rfl) rfl ?_
        refine zw_iload_n (i := 1) (nx := 6) C dX7_wordHere_5 rfl rfl rfl ?_
        refine zw_bipush (v := 7) (nx := 8) C dX7_wordHere_6 (by decide) rfl ?_
        refine zw_icmp_ne (tgt := 59) (nx := 11) C dX7_wordHere_8 rfl rfl (by omega) (fun h8 => ?_) (fun h8 => by exfalso; omega)
        refine zw_iload_n (i := 1) (nx := 60) C dX7_wordHere_59 rfl rfl rfl ?_
        refine zw_iconst (nx := 61) C dX7_wordHere_60 rfl ?_
        refine zw_icmp_ne (tgt := 96) (nx := 64) C dX7_wordHere_61 rfl rfl (by omega) (fun h61 => by exfalso; omega) (fun h61 => ?_)
        refine zw_aload_n (i := 0) (nx := 65) C dX7_wordHere_64 rfl rfl rfl ?_
        refine zw_iconst (nx := 66) C dX7_wordHere_65 rfl ?_
        refine zw_cV11 (nx := 69) C dX7_wordHere_66 rfl cvX7_119 rfl rfl ⟨Nat.le_of_ble_eq_true rfl, Nat.le_of_ble_eq_true rfl⟩ rfl rfl (Nat.le_of_ble_eq_true rfl) r0 ?_
        refine zw_bipush (v := 111) (nx := 71) C dX7_wordHere_69 (by decide) rfl ?_
        refine zw_icmp_ne (tgt := 96) (nx := 74) C dX7_wordHere_71 rfl rfl (by omega) (fun h71 => ?_) (fun h71 => by exfalso; omega)
        refine zw_iload_n (i := 1) (nx := 97) C dX7_wordHere_96 rfl rfl rfl ?_
        refine zw_iconst (nx := 98) C dX7_wordHere_97 rfl ?_
        refine zw_icmp_eq (tgt := 105) (nx := 101) C dX7_wordHere_98 rfl rfl (by omega) (fun h98 => by exfalso; omega) (fun h98 => ?_)
        refine zw_iconst (nx := 102) C dX7_wordHere_101 rfl ?_
        refine zw_goto (nx := 163) C dX7_wordHere_102 rfl ?_
        exact zw_iret C hA hr hk dX7_wordHere_163 rfl rfl
    · have w3 : wE T t s 3 = false := no2 (by decide) e3 (fun q => h3 q.1)
      by_cases h4 : n = 4
      · by_cases gA : T s = 104 ∧ T (s + 1) = 105 ∧ T (s + 2) = 108 ∧ T (s + 3) = 108
        · have rs := sp (by omega) 104 105 108 108 (by decide) (by decide) (by decide) (by decide) true (decide_eq_true gA)
          replace rs : zRun (xLa X) B mX7_spells [.ref 52, zi 104, zi 105, zi 108, zi 108] ζ (some (zi 1)) ζ := rs
          have w0 : wE T t s 0 = true := e0.mpr ⟨h4, gA⟩
          have ew : wd T t s = 0 := by unfold wd; rw [w2, w3, w0]; rfl
          rw [ew]
          (try clear e0); (try clear e1); (try clear e2); (try clear e3); (try clear e4); (try clear gA); (try clear gB); (try clear gC); (try clear lb); (try clear lt); (try clear sp); (try clear no2)
          refine zw_aload_n (i := 0) (nx := 1) C dX7_wordHere_0 rfl rfl rfl ?_
          refine zw_cV01 (nx := 4) C dX7_wordHere_1 rfl cvX7_123 rfl rfl ⟨Nat.le_of_ble_eq_true rfl, Nat.le_of_ble_eq_true rfl⟩ rfl rfl (Nat.le_of_ble_eq_true rfl) sz ?_
          refine zw_ist1 (nx := 5) C (eIst_n dX7_wordHere_4 rfl rfl) (Nat.le_of_ble_eq_true rfl) rfl ?_
          refine zw_iload_n (i := 1) (nx := 6) C dX7_wordHere_5 rfl rfl rfl ?_
          refine zw_bipush (v := 7) (nx := 8) C dX7_wordHere_6 (by decide) rfl ?_
          refine zw_icmp_ne (tgt := 59) (nx := 11) C dX7_wordHere_8 rfl rfl (by omega) (fun h8 => ?_) (fun h8 => by exfalso; omega)
          refine zw_iload_n (i := 1) (nx := 60) C dX7_wordHere_59 rfl rfl rfl ?_
          refine zw_iconst (nx := 61) C dX7_wordHere_60 rfl ?_
          refine zw_icmp_ne (tgt := 96) (nx := 64) C dX7_wordHere_61 rfl rfl (by omega) (fun h61 => ?_) (fun h61 => by exfalso; omega)
          refine zw_iload_n (i := 1) (nx := 97) C dX7_wordHere_96 rfl rfl rfl ?_
          refine zw_iconst (nx := 98) C dX7_wordHere_97 rfl ?_
          refine zw_icmp_eq (tgt := 105) (nx := 101) C dX7_wordHere_98 rfl rfl (by omega) (fun h98 => ?_) (fun h98 => by exfalso; omega)
          refine zw_aload_n (i := 0) (nx := 106) C dX7_wordHere_105 rfl rfl rfl ?_
          refine zw_bipush (v := 104) (nx := 108) C dX7_wordHere_106 (by decide) rfl ?_
          refine zw_bipush (v := 105) (nx := 110) C dX7_wordHere_108 (by decide) rfl ?_
          refine zw_bipush (v := 108) (nx := 112) C dX7_wordHere_110 (by decide) rfl ?_
          refine zw_bipush (v := 108) (nx := 114) C dX7_wordHere_112 (by decide) rfl ?_
          refine zw_cV41 (nx := 117) C dX7_wordHere_114 rfl cvX7_126 rfl rfl ⟨Nat.le_of_ble_eq_true rfl, Nat.le_of_ble_eq_true rfl⟩ rfl rfl (Nat.le_of_ble_eq_true rfl) rs ?_
          refine zw_if_eq (tgt := 124) (nx := 120) C dX7_wordHere_117 rfl rfl (by omega) (fun h117 => by exfalso; omega) (fun h117 => ?_)
          refine zw_iconst (nx := 121) C dX7_wordHere_120 rfl ?_
          refine zw_goto (nx := 163) C dX7_wordHere_121 rfl ?_
          exact zw_iret C hA hr hk dX7_wordHere_163 rfl rfl
        · have rs := sp (by omega) 104 105 108 108 (by decide) (by decide) (by decide) (by decide) false (decide_eq_false gA)
          replace rs : zRun (xLa X) B mX7_spells [.ref 52, zi 104, zi 105, zi 108, zi 108] ζ (some (zi 0)) ζ := rs
          have w0 : wE T t s 0 = false := no2 (by decide) e0 (fun q => gA q.2)
          by_cases gB : T s = 100 ∧ T (s + 1) = 97 ∧ T (s + 2) = 114 ∧ T (s + 3) = 107
          · have ru := sp (by omega) 100 97 114 107 (by decide) (by decide) (by decide) (by decide) true (decide_eq_true gB)
            replace ru : zRun (xLa X) B mX7_spells [.ref 52, zi 100, zi 97, zi 114, zi 107] ζ (some (zi 1)) ζ := ru
            have w1 : wE T t s 1 = true := e1.mpr ⟨h4, gB⟩
            have ew : wd T t s = 1 := by unfold wd; rw [w2, w3, w0, w1]; rfl
            rw [ew]
            (try clear e0); (try clear e1); (try clear e2); (try clear e3); (try clear e4); (try clear gA); (try clear gB); (try clear gC); (try clear lb); (try clear lt); (try clear sp); (try clear no2)
            refine zw_aload_n (i := 0) (nx := 1) C dX7_wordHere_0 rfl rfl rfl ?_
            refine zw_cV01 (nx := 4) C dX7_wordHere_1 rfl cvX7_123 rfl rfl ⟨Nat.le_of_ble_eq_true rfl, Nat.le_of_ble_eq_true rfl⟩ rfl rfl (Nat.le_of_ble_eq_true rfl) sz ?_
            refine zw_ist1 (nx := 5) C (eIst_n dX7_wordHere_4 rfl rfl) (Nat.le_of_ble_eq_true rfl) rfl ?_
            refine zw_iload_n (i := 1) (nx := 6) C dX7_wordHere_5 rfl rfl rfl ?_
            refine zw_bipush (v := 7) (nx := 8) C dX7_wordHere_6 (by decide) rfl ?_
            refine zw_icmp_ne (tgt := 59) (nx := 11) C dX7_wordHere_8 rfl rfl (by omega) (fun h8 => ?_) (fun h8 => by exfalso; omega)
            refine zw_iload_n (i := 1) (nx := 60) C dX7_wordHere_59 rfl rfl rfl ?_
            refine zw_iconst (nx := 61) C dX7_wordHere_60 rfl ?_
            refine zw_icmp_ne (tgt := 96) (nx := 64) C dX7_wordHere_61 rfl rfl (by omega) (fun h61 => ?_) (fun h61 => by exfalso; omega)
            refine zw_iload_n (i := 1) (nx := 97) C dX7_wordHere_96 rfl rfl rfl ?_
            refine zw_iconst (nx := 98) C dX7_wordHere_97 rfl ?_
            refine zw_icmp_eq (tgt := 105) (nx := 101) C dX7_wordHere_98 rfl rfl (by omega) (fun h98 => ?_) (fun h98 => by exfalso; omega)
            refine zw_aload_n (i := 0) (nx := 106) C dX7_wordHere_105 rfl rfl rfl ?_
            refine zw_bipush (v := 104) (nx := 108) C dX7_wordHere_106 (by decide) rfl ?_
            refine zw_bipush (v := 105) (nx := 110) C dX7_wordHere_108 (by decide) rfl ?_
            refine zw_bipush (v := 108) (nx := 112) C dX7_wordHere_110 (by decide) rfl ?_
            refine zw_bipush (v := 108) (nx := 114) C dX7_wordHere_112 (by decide) rfl ?_
            refine zw_cV41 (nx := 117) C dX7_wordHere_114 rfl cvX7_126 rfl rfl ⟨Nat.le_of_ble_eq_true rfl, Nat.le_of_ble_eq_true rfl⟩ rfl rfl (Nat.le_of_ble_eq_true rfl) rs ?_
            refine zw_if_eq (tgt := 124) (nx := 120) C dX7_wordHere_117 rfl rfl (by omega) (fun h117 => ?_) (fun h117 => by exfalso; omega)
            refine zw_aload_n (i := 0) (nx := 125) C dX7_wordHere_124 rfl rfl rfl ?_
            refine zw_bipush (v := 100) (nx := 127) C dX7_wordHere_125 (by decide) rfl ?_
            refine zw_bipush (v := 97) (nx := 129) C dX7_wordHere_127 (by decide) rfl ?_
            refine zw_bipush (v := 114) (nx := 131) C dX7_wordHere_129 (by decide) rfl ?_
            refine zw_bipush (v := 107) (nx := 133) C dX7_wordHere_131 (by decide) rfl ?_
            refine zw_cV41 (nx := 136) C dX7_wordHere_133 rfl cvX7_126 rfl rfl ⟨Nat.le_of_ble_eq_true rfl, Nat.le_of_ble_eq_true rfl⟩ rfl rfl (Nat.le_of_ble_eq_true rfl) ru ?_
            refine zw_if_eq (tgt := 143) (nx := 139) C dX7_wordHere_136 rfl rfl (by omega) (fun h136 => by exfalso; omega) (fun h136 => ?_)
            refine zw_iconst (nx := 140) C dX7_wordHere_139 rfl ?_
            refine zw_goto (nx := 163) C dX7_wordHere_140 rfl ?_
            exact zw_iret C hA hr hk dX7_wordHere_163 rfl rfl
          · have ru := sp (by omega) 100 97 114 107 (by decide) (by decide) (by decide) (by decide) false (decide_eq_false gB)
            replace ru : zRun (xLa X) B mX7_spells [.ref 52, zi 100, zi 97, zi 114, zi 107] ζ (some (zi 0)) ζ := ru
            have w1 : wE T t s 1 = false := no2 (by decide) e1 (fun q => gB q.2)
            by_cases gC : T s = 115 ∧ T (s + 1) = 101 ∧ T (s + 2) = 97 ∧ T (s + 3) = 116
            · have rv := sp (by omega) 115 101 97 116 (by decide) (by decide) (by decide) (by decide) true (decide_eq_true gC)
              replace rv : zRun (xLa X) B mX7_spells [.ref 52, zi 115, zi 101, zi 97, zi 116] ζ (some (zi 1)) ζ := rv
              have w4 : wE T t s 4 = true := e4.mpr ⟨h4, gC⟩
              have ew : wd T t s = 4 := by unfold wd; rw [w2, w3, w0, w1, w4]; rfl
              rw [ew]
              (try clear e0); (try clear e1); (try clear e2); (try clear e3); (try clear e4); (try clear gA); (try clear gB); (try clear gC); (try clear lb); (try clear lt); (try clear sp); (try clear no2)
              refine zw_aload_n (i := 0) (nx := 1) C dX7_wordHere_0 rfl rfl rfl ?_
              refine zw_cV01 (nx := 4) C dX7_wordHere_1 rfl cvX7_123 rfl rfl ⟨Nat.le_of_ble_eq_true rfl, Nat.le_of_ble_eq_true rfl⟩ rfl rfl (Nat.le_of_ble_eq_true rfl) sz ?_
              refine zw_ist1 (nx := 5) C (eIst_n dX7_wordHere_4 rfl rfl) (Nat.le_of_ble_eq_true rfl) rfl ?_
              refine zw_iload_n (i := 1) (nx := 6) C dX7_wordHere_5 rfl rfl rfl ?_
              refine zw_bipush (v := 7) (nx := 8) C dX7_wordHere_6 (by decide) rfl ?_
              refine zw_icmp_ne (tgt := 59) (nx := 11) C dX7_wordHere_8 rfl rfl (by omega) (fun h8 => ?_) (fun h8 => by exfalso; omega)
              refine zw_iload_n (i := 1) (nx := 60) C dX7_wordHere_59 rfl rfl rfl ?_
              refine zw_iconst (nx := 61) C dX7_wordHere_60 rfl ?_
              refine zw_icmp_ne (tgt := 96) (nx := 64) C dX7_wordHere_61 rfl rfl (by omega) (fun h61 => ?_) (fun h61 => by exfalso; omega)
              refine zw_iload_n (i := 1) (nx := 97) C dX7_wordHere_96 rfl rfl rfl ?_
              refine zw_iconst (nx := 98) C dX7_wordHere_97 rfl ?_
              refine zw_icmp_eq (tgt := 105) (nx := 101) C dX7_wordHere_98 rfl rfl (by omega) (fun h98 => ?_) (fun h98 => by exfalso; omega)
              refine zw_aload_n (i := 0) (nx := 106) C dX7_wordHere_105 rfl rfl rfl ?_
              refine zw_bipush (v := 104) (nx := 108) C dX7_wordHere_106 (by decide) rfl ?_
              refine zw_bipush (v := 105) (nx := 110) C dX7_wordHere_108 (by decide) rfl ?_
              refine zw_bipush (v := 108) (nx := 112) C dX7_wordHere_110 (by decide) rfl ?_
              refine zw_bipush (v := 108) (nx := 114) C dX7_wordHere_112 (by decide) rfl ?_
              refine zw_cV41 (nx := 117) C dX7_wordHere_114 rfl cvX7_126 rfl rfl ⟨Nat.le_of_ble_eq_true rfl, Nat.le_of_ble_eq_true rfl⟩ rfl rfl (Nat.le_of_ble_eq_true rfl) rs ?_
              refine zw_if_eq (tgt := 124) (nx := 120) C dX7_wordHere_117 rfl rfl (by omega) (fun h117 => ?_) (fun h117 => by exfalso; omega)
              refine zw_aload_n (i := 0) (nx := 125) C dX7_wordHere_124 rfl rfl rfl ?_
              refine zw_bipush (v := 100) (nx := 127) C dX7_wordHere_125 (by decide) rfl ?_
              refine zw_bipush (v := 97) (nx := 129) C dX7_wordHere_127 (by decide) rfl ?_
              refine zw_bipush (v := 114) (nx := 131) C dX7_wordHere_129 (by decide) rfl ?_
              refine zw_bipush (v := 107) (nx := 133) C dX7_wordHere_131 (by decide) rfl ?_
              refine zw_cV41 (nx := 136) C dX7_wordHere_133 rfl cvX7_126 rfl rfl ⟨Nat.le_of_ble_eq_true rfl, Nat.le_of_ble_eq_true rfl⟩ rfl rfl (Nat.le_of_ble_eq_true rfl) ru ?_
              refine zw_if_eq (tgt := 143) (nx := 139) C dX7_wordHere_136 rfl rfl (by omega) (fun h136 => ?_) (fun h136 => by exfalso; omega)
              refine zw_aload_n (i := 0) (nx := 144) C dX7_wordHere_143 rfl rfl rfl ?_
              refine zw_bipush (v := 115) (nx := 146) C dX7_wordHere_144 (by decide) rfl ?_
              refine zw_bipush (v := 101) (nx := 148) C dX7_wordHere_146 (by decide) rfl ?_
              refine zw_bipush (v := 97) (nx := 150) C dX7_wordHere_148 (by decide) rfl ?_
              refine zw_bipush (v := 116) (nx := 152) C dX7_wordHere_150 (by decide) rfl ?_
              refine zw_cV41 (nx := 155) C dX7_wordHere_152 rfl cvX7_126 rfl rfl ⟨Nat.le_of_ble_eq_true rfl, Nat.le_of_ble_eq_true rfl⟩ rfl rfl (Nat.le_of_ble_eq_true rfl) rv ?_
              refine zw_if_eq (tgt := 162) (nx := 158) C dX7_wordHere_155 rfl rfl (by omega) (fun h155 => by exfalso; omega) (fun h155 => ?_)
              refine zw_iconst (nx := 159) C dX7_wordHere_158 rfl ?_
              refine zw_goto (nx := 163) C dX7_wordHere_159 rfl ?_
              exact zw_iret C hA hr hk dX7_wordHere_163 rfl rfl
            · have rv := sp (by omega) 115 101 97 116 (by decide) (by decide) (by decide) (by decide) false (decide_eq_false gC)
              replace rv : zRun (xLa X) B mX7_spells [.ref 52, zi 115, zi 101, zi 97, zi 116] ζ (some (zi 0)) ζ := rv
              have w4 : wE T t s 4 = false := no2 (by decide) e4 (fun q => gC q.2)
              have ew : wd T t s = -1 := by unfold wd; rw [w2, w3, w0, w1, w4]; rfl
              rw [ew]
              (try clear e0); (try clear e1); (try clear e2); (try clear e3); (try clear e4); (try clear gA); (try clear gB); (try clear gC); (try clear lb); (try clear lt); (try clear sp); (try clear no2)
              refine zw_aload_n (i := 0) (nx := 1) C dX7_wordHere_0 rfl rfl rfl ?_
              refine zw_cV01 (nx := 4) C dX7_wordHere_1 rfl cvX7_123 rfl rfl ⟨Nat.le_of_ble_eq_true rfl, Nat.le_of_ble_eq_true rfl⟩ rfl rfl (Nat.le_of_ble_eq_true rfl) sz ?_
              refine zw_ist1 (nx := 5) C (eIst_n dX7_wordHere_4 rfl rfl) (Nat.le_of_ble_eq_true rfl) rfl ?_
              refine zw_iload_n (i := 1) (nx := 6) C dX7_wordHere_5 rfl rfl rfl ?_
              refine zw_bipush (v := 7) (nx := 8) C dX7_wordHere_6 (by decide) rfl ?_
              refine zw_icmp_ne (tgt := 59) (nx := 11) C dX7_wordHere_8 rfl rfl (by omega) (fun h8 => ?_) (fun h8 => by exfalso; omega)
              refine zw_iload_n (i := 1) (nx := 60) C dX7_wordHere_59 rfl rfl rfl ?_
              refine zw_iconst (nx := 61) C dX7_wordHere_60 rfl ?_
              refine zw_icmp_ne (tgt := 96) (nx := 64) C dX7_wordHere_61 rfl rfl (by omega) (fun h61 => ?_) (fun h61 => by exfalso; omega)
              refine zw_iload_n (i := 1) (nx := 97) C dX7_wordHere_96 rfl rfl rfl ?_
              refine zw_iconst (nx := 98) C dX7_wordHere_97 rfl ?_
              refine zw_icmp_eq (tgt := 105) (nx := 101) C dX7_wordHere_98 rfl rfl (by omega) (fun h98 => ?_) (fun h98 => by exfalso; omega)
              refine zw_aload_n (i := 0) (nx := 106) C dX7_wordHere_105 rfl rfl rfl ?_
              refine zw_bipush (v := 104) (nx := 108) C dX7_wordHere_106 (by decide) rfl ?_
              refine zw_bipush (v := 105) (nx := 110) C dX7_wordHere_108 (by decide) rfl ?_
              refine zw_bipush (v := 108) (nx := 112) C dX7_wordHere_110 (by decide) rfl ?_
              refine zw_bipush (v := 108) (nx := 114) C dX7_wordHere_112 (by decide) rfl ?_
              refine zw_cV41 (nx := 117) C dX7_wordHere_114 rfl cvX7_126 rfl rfl ⟨Nat.le_of_ble_eq_true rfl, Nat.le_of_ble_eq_true rfl⟩ rfl rfl (Nat.le_of_ble_eq_true rfl) rs ?_
              refine zw_if_eq (tgt := 124) (nx := 120) C dX7_wordHere_117 rfl rfl (by omega) (fun h117 => ?_) (fun h117 => by exfalso; omega)
              refine zw_aload_n (i := 0) (nx := 125) C dX7_wordHere_124 rfl rfl rfl ?_
              refine zw_bipush (v := 100) (nx := 127) C dX7_wordHere_125 (by decide) rfl ?_
              refine zw_bipush (v := 97) (nx := 129) C dX7_wordHere_127 (by decide) rfl ?_
              refine zw_bipush (v := 114) (nx := 131) C dX7_wordHere_129 (by decide) rfl ?_
              refine zw_bipush (v := 107) (nx := 133) C dX7_wordHere_131 (by decide) rfl ?_
              refine zw_cV41 (nx := 136) C dX7_wordHere_133 rfl cvX7_126 rfl rfl ⟨Nat.le_of_ble_eq_true rfl, Nat.le_of_ble_eq_true rfl⟩ rfl rfl (Nat.le_of_ble_eq_true rfl) ru ?_
              refine zw_if_eq (tgt := 143) (nx := 139) C dX7_wordHere_136 rfl rfl (by omega) (fun h136 => ?_) (fun h136 => by exfalso; omega)
              refine zw_aload_n (i := 0) (nx := 144) C dX7_wordHere_143 rfl rfl rfl ?_
              refine zw_bipush (v := 115) (nx := 146) C dX7_wordHere_144 (by decide) rfl ?_
              refine zw_bipush (v := 101) (nx := 148) C dX7_wordHere_146 (by decide) rfl ?_
              refine zw_bipush (v := 97) (nx := 150) C dX7_wordHere_148 (by decide) rfl ?_
              refine zw_bipush (v := 116) (nx := 152) C dX7_wordHere_150 (by decide) rfl ?_
              refine zw_cV41 (nx := 155) C dX7_wordHere_152 rfl cvX7_126 rfl rfl ⟨Nat.le_of_ble_eq_true rfl, Nat.le_of_ble_eq_true rfl⟩ rfl rfl (Nat.le_of_ble_eq_true rfl) rv ?_
              refine zw_if_eq (tgt := 162) (nx := 158) C dX7_wordHere_155 rfl rfl (by omega) (fun h155 => ?_) (fun h155 => by exfalso; omega)
              refine zw_iconst (nx := 163) C dX7_wordHere_162 rfl ?_
              exact zw_iret C hA hr hk dX7_wordHere_163 rfl rfl
      · have w0 : wE T t s 0 = false := no2 (by decide) e0 (fun q => h4 q.1)
        have w1 : wE T t s 1 = false := no2 (by decide) e1 (fun q => h4 q.1)
        have w4 : wE T t s 4 = false := no2 (by decide) e4 (fun q => h4 q.1)
        have ew : wd T t s = -1 := by unfold wd; rw [w2, w3, w0, w1, w4]; rfl
        rw [ew]
        (try clear e0); (try clear e1); (try clear e2); (try clear e3); (try clear e4); (try clear gA); (try clear gB); (try clear gC); (try clear lb); (try clear lt); (try clear sp); (try clear no2)
        refine zw_aload_n (i := 0) (nx := 1) C dX7_wordHere_0 rfl rfl rfl ?_
        refine zw_cV01 (nx := 4) C dX7_wordHere_1 rfl cvX7_123 rfl rfl ⟨Nat.le_of_ble_eq_true rfl, Nat.le_of_ble_eq_true rfl⟩ rfl rfl (Nat.le_of_ble_eq_true rfl) sz ?_
        refine zw_ist1 (nx := 5) C (eIst_n dX7_wordHere_4 rfl rfl) (Nat.le_of_ble_eq_true rfl) rfl ?_
        refine zw_iload_n (i := 1) (nx := 6) C dX7_wordHere_5 rfl rfl rfl ?_
        refine zw_bipush (v := 7) (nx := 8) C dX7_wordHere_6 (by decide) rfl ?_
        refine zw_icmp_ne (tgt := 59) (nx := 11) C dX7_wordHere_8 rfl rfl (by omega) (fun h8 => ?_) (fun h8 => by exfalso; omega)
        refine zw_iload_n (i := 1) (nx := 60) C dX7_wordHere_59 rfl rfl rfl ?_
        refine zw_iconst (nx := 61) C dX7_wordHere_60 rfl ?_
        refine zw_icmp_ne (tgt := 96) (nx := 64) C dX7_wordHere_61 rfl rfl (by omega) (fun h61 => ?_) (fun h61 => by exfalso; omega)
        refine zw_iload_n (i := 1) (nx := 97) C dX7_wordHere_96 rfl rfl rfl ?_
        refine zw_iconst (nx := 98) C dX7_wordHere_97 rfl ?_
        refine zw_icmp_eq (tgt := 105) (nx := 101) C dX7_wordHere_98 rfl rfl (by omega) (fun h98 => by exfalso; omega) (fun h98 => ?_)
        refine zw_iconst (nx := 102) C dX7_wordHere_101 rfl ?_
        refine zw_goto (nx := 163) C dX7_wordHere_102 rfl ?_
        exact zw_iret C hA hr hk dX7_wordHere_163 rfl rfl
end TextMd
