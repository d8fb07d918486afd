/-! the reference's numbers -/
section TextMc
variable {l : Launch} {B : eB} {ζ : zSt} {t : Nat} {T : Nat → Int}
theorem zU_16 (ζ : zSt) (a v b : Int) : zU (zU (zU ζ 52 16 a) 52 22 v) 52 16 b = zU (zU ζ 52 22 v) 52 16 b := by
  refine Prod.ext (funext fun i => funext fun j => ?_) rfl
  simp only [zU_at]
  by_cases h : i = 52 ∧ j = 16
  · rw [if_pos h, if_pos h]
  · simp only [if_neg h]
set_option maxHeartbeats 4000000 in
theorem run_X7_number (hx : TXm ζ t T) {i : Nat} (hi : ζ.1 52 16 = i) (hit : i ≤ t) {m : Int} (hm : -1 ≤ m ∧ m ≤ 100) :
    (∀ p, pNum T t i m = .inl p → zRun l B mX7_number [.ref 52, zi 0, zi m] ζ (some (zi 0)) (zU ζ 52 16 p)) ∧
    (∀ q, pNum T t i m = .inr q → zRun l B mX7_number [.ref 52, zi 0, zi m] ζ (some (zi 1)) (zU (zU ζ 52 22 q.1) 52 16 q.2)) := by
  have skp := run_X7_skip (l := l) (B := B) hx hi hit
  have hs := sk_bd T hit
  unfold pNum
  generalize sk T t i = s at skp hs
  have hf := fE_bd T hs.2
  have ht := hx.1.2
  have lp : ∀ (r0 : Int) (ζ' : zSt), zAt l B mX7_number (some (zi r0)) ζ' (zU ζ 52 16 s) 77 [some (.ref 52), some (zi 0), some (zi m), some (zi ((fE T t s - s : Nat) : Int)), some (zi (nvr T s (fE T t s - s)))] [] → zRun l B mX7_number [.ref 52, zi 0, zi m] ζ (some (zi r0)) ζ' := by
    intro r0 ζ' K
    refine zrun_intro (M := mX7_number) (ls := [some (.ref 52), some (zi 0), some (zi m), none, none]) (by decide) rfl rfl rfl (Nat.le_of_ble_eq_true rfl) ?_
    intro X A C hX hA hr hk
    replace C : CX X B A mX7_number.2.2.2.2 RX7 cX7_number 5 0 0 := C
    have hr : (xMeth X).sig.returnType = (some .boolean) := hr
    change ZW X B A 5 0 0 _ _ 0 [some (.ref 52), some (zi 0), some (zi m), none, none] []
    subst hX
    have K2 := K X A C rfl hA hr hk
    have hx1 : (zU ζ 52 16 s).1 52 15 = (t : Int) := hx.1.1
    have r2 : (zU ζ 52 16 s).1 52 16 = (s : Int) := rfl
    have loop : ∀ k n : Nat, s + n + k = t → rn isFg T k (s + n) = fE T t s → ZW X B A 5 0 0 (eFin X B (some (zi r0)) (zz ζ')) (zU ζ 52 16 s) 9 [some (.ref 52), some (zi 0), some (zi m), some (zi n), some (zi (nvr T s n))] [] := by
      intro k
      induction k with
      | zero =>
        intro n hn e
        have e2 : fE T t s - s = n := by
          have : rn isFg T 0 (s + n) = s + n := rfl
          omega
        rw [e2] at K2
        refine zw_aload_n (i := 0) (nx := 10) C dX7_number_9 rfl rfl rfl ?_
        refine zw_geti (nx := 13) C dX7_number_10 rfl flX7_110 iq6 rfl rfl rfl rfl ?_
        refine zw_iload_n (i := 3) (nx := 14) C dX7_number_13 rfl rfl rfl ?_
        refine zw_iadd (nx := 15) C dX7_number_14 rfl ?_
        refine zw_aload_n (i := 0) (nx := 16) C dX7_number_15 rfl rfl rfl ?_
        refine zw_geti (nx := 19) C dX7_number_16 rfl flX7_107 iq6 rfl rfl rfl rfl ?_
        refine zw_icmp_ge (tgt := 77) (nx := 22) C dX7_number_19 rfl rfl (by omega) (fun h19 => ?_) (fun h19 => by exfalso; omega)
        exact K2
      | succ k ih =>
        intro n hn e
        obtain ⟨t1, t2⟩ := hx.2 (s + n) (by omega)
        have t1' : (zU ζ 52 16 s).1 63 (s + n) = T (s + n) := t1
        refine zw_aload_n (i := 0) (nx := 10) C dX7_number_9 rfl rfl rfl ?_
        refine zw_geti (nx := 13) C dX7_number_10 rfl flX7_110 iq6 rfl rfl rfl rfl ?_
        refine zw_iload_n (i := 3) (nx := 14) C dX7_number_13 rfl rfl rfl ?_
        refine zw_iadd (nx := 15) C dX7_number_14 rfl ?_
        refine zw_aload_n (i := 0) (nx := 16) C dX7_number_15 rfl rfl rfl ?_
        refine zw_geti (nx := 19) C dX7_number_16 rfl flX7_107 iq6 rfl rfl rfl rfl ?_
        refine zw_icmp_ge (tgt := 77) (nx := 22) C dX7_number_19 rfl rfl (by omega) (fun h19 => by exfalso; omega) (fun h19 => ?_)
        refine zw_aload_n (i := 0) (nx := 23) C dX7_number_22 rfl rfl rfl ?_
        refine zw_getr (nx := 26) C dX7_number_23 rfl flX7_47 iq6 rfl rfl rfl rfl ?_
        refine zw_aload_n (i := 0) (nx := 27) C dX7_number_26 rfl rfl rfl ?_
        refine zw_geti (nx := 30) C dX7_number_27 rfl flX7_110 iq6 rfl rfl rfl rfl ?_
        refine zw_iload_n (i := 3) (nx := 31) C dX7_number_30 rfl rfl rfl ?_
        refine zw_iadd (nx := 32) C dX7_number_31 rfl ?_
        refine zw_iald ((s + n)) (nx := 33) C dX7_number_32 rfl rfl rfl rfl (by omega) ?_
        rw [t1']
        refine zw_cS11 (nx := 36) C dX7_number_33 rfl csX7_133 ⟨Nat.le_of_ble_eq_true rfl, Nat.le_of_ble_eq_true rfl⟩ (Nat.le_of_ble_eq_true rfl) (run_X7_isFigure (by omega)) ?_
        refine zw_ifb_eq (tgt := 77) (nx := 39) C dX7_number_36 rfl rfl (fun h36 => ?_) (fun h36 => ?_)
        · rw [rn_n h36] at e
          have e2 : fE T t s - s = n := by omega
          rw [e2] at K2
          exact K2
        · rw [rn_s h36] at e
          by_cases h2 : n < 2
          · refine zw_iload_n (i := 3) (nx := 40) C dX7_number_39 rfl rfl rfl ?_
            refine zw_iconst (nx := 41) C dX7_number_40 rfl ?_
            refine zw_icmp_ge (tgt := 67) (nx := 44) C dX7_number_41 rfl rfl (by omega) (fun h41 => by exfalso; omega) (fun h41 => ?_)
            refine zw_bipush (v := 10) (nx := 46) C dX7_number_44 (by decide) rfl ?_
            refine zw_iload (nx := 48) C dX7_number_46 rfl rfl ?_
            refine zw_imul (nx := 49) C dX7_number_48 rfl ?_
            refine zw_aload_n (i := 0) (nx := 50) C dX7_number_49 rfl rfl rfl ?_
            refine zw_getr (nx := 53) C dX7_number_50 rfl flX7_47 iq6 rfl rfl rfl rfl ?_
            refine zw_aload_n (i := 0) (nx := 54) C dX7_number_53 rfl rfl rfl ?_
            refine zw_geti (nx := 57) C dX7_number_54 rfl flX7_110 iq6 rfl rfl rfl rfl ?_
            refine zw_iload_n (i := 3) (nx := 58) C dX7_number_57 rfl rfl rfl ?_
            refine zw_iadd (nx := 59) C dX7_number_58 rfl ?_
            refine zw_iald ((s + n)) (nx := 60) C dX7_number_59 rfl rfl rfl rfl (by omega) ?_
            rw [t1']
            refine zw_iadd (nx := 61) C dX7_number_60 rfl ?_
            refine zw_bipush (v := 48) (nx := 63) C dX7_number_61 (by decide) rfl ?_
            refine zw_isub (nx := 64) C dX7_number_63 rfl ?_
            refine zw_goto (nx := 69) C dX7_number_64 rfl ?_
            refine zw_ist4 (nx := 71) C (eIst_w dX7_number_69 rfl) (Nat.le_of_ble_eq_true rfl) rfl ?_
            refine zw_iinc3 (nx := 74) C dX7_number_71 rfl (Nat.le_of_ble_eq_true rfl) rfl ?_
            refine zw_goto (nx := 9) C dX7_number_74 rfl ?_
            rw [show 10 * nvr T s n + T (s + n) - 48 = nvr T s (n + 1) from (if_pos h2).symm]
            exact ih (n + 1) (by omega) e
          · refine zw_iload_n (i := 3) (nx := 40) C dX7_number_39 rfl rfl rfl ?_
            refine zw_iconst (nx := 41) C dX7_number_40 rfl ?_
            refine zw_icmp_ge (tgt := 67) (nx := 44) C dX7_number_41 rfl rfl (by omega) (fun h41 => ?_) (fun h41 => by exfalso; omega)
            refine zw_iload (nx := 69) C dX7_number_67 rfl rfl ?_
            refine zw_ist4 (nx := 71) C (eIst_w dX7_number_69 rfl) (Nat.le_of_ble_eq_true rfl) rfl ?_
            refine zw_iinc3 (nx := 74) C dX7_number_71 rfl (Nat.le_of_ble_eq_true rfl) rfl ?_
            refine zw_goto (nx := 9) C dX7_number_74 rfl ?_
            rw [show nvr T s n = nvr T s (n + 1) from (if_neg h2).symm]
            exact ih (n + 1) (by omega) e
    refine zw_aload_n (i := 0) (nx := 1) C dX7_number_0 rfl rfl rfl ?_
    refine zw_cV00 (nx := 4) C dX7_number_1 rfl cvX7_130 rfl rfl ⟨Nat.le_of_ble_eq_true rfl, Nat.le_of_ble_eq_true rfl⟩ rfl rfl (Nat.le_of_ble_eq_true rfl) skp ?_
    refine zw_iconst (nx := 5) C dX7_number_4 rfl ?_
    refine zw_ist3 (nx := 6) C (eIst_n dX7_number_5 rfl rfl) (Nat.le_of_ble_eq_true rfl) rfl ?_
    refine zw_iconst (nx := 7) C dX7_number_6 rfl ?_
    refine zw_ist4 (nx := 9) C (eIst_w dX7_number_7 rfl) (Nat.le_of_ble_eq_true rfl) rfl ?_
    exact loop (t - s) 0 (by omega) rfl
  have vb := nvr_bd (T := T) (s := s) (n := fE T t s - s) (fun j h1 h2 => (hx.2 j (by omega)).2)
  by_cases c1 : 1 ≤ fE T t s - s ∧ fE T t s - s ≤ 2
  · have ev := nvr_nV (T := T) c1
    rw [ev] at vb
    by_cases c2 : nV T s (fE T t s) ≤ m
    · rw [if_pos ⟨c1, c2⟩]
      refine ⟨fun p h => (by cases h), fun q h => ?_⟩
      cases h
      have dg : ∀ j, s ≤ j → j < fE T t s → 48 ≤ T j ∧ T j ≤ 57 := fun j h1 h2 => of_decide_eq_true (rn_all (P := isFg) (T := T) (t - s) s j h1 h2)
      have n0 : 0 ≤ nV T s (fE T t s) := by
        have a1 := dg s (Nat.le_refl _) (by omega)
        have a2 := dg (fE T t s - 1) (by omega) (by omega)
        unfold nV; split <;> omega
      show zRun l B mX7_number [.ref 52, zi 0, zi m] ζ (some (zi 1)) (zU (zU ζ 52 22 (nV T s (fE T t s))) 52 16 ((fE T t s : Nat) : Int))
      rw [← zU_16 ζ s (nV T s (fE T t s)) ((fE T t s : Nat) : Int), show ((fE T t s : Nat) : Int) = (s : Int) + ((fE T t s - s : Nat) : Int) by omega]
      refine lp 1 _ ?_
      rw [ev]
      intro X A C hX hA hr hk
      replace C : CX X B A mX7_number.2.2.2.2 RX7 cX7_number 5 0 0 := C
      have hr : (xMeth X).sig.returnType = (some .boolean) := hr
      change ZW X B A 5 0 0 _ _ _ _ _
      subst hX
      refine zw_iload_n (i := 3) (nx := 78) C dX7_number_77 rfl rfl rfl ?_
      refine zw_iconst (nx := 79) C dX7_number_78 rfl ?_
      refine zw_iconst (nx := 80) C dX7_number_79 rfl ?_
      refine zw_cS31 (nx := 83) C dX7_number_80 rfl csX7_88 ⟨Nat.le_of_ble_eq_true rfl, Nat.le_of_ble_eq_true rfl⟩ (Nat.le_of_ble_eq_true rfl) (run_X7_in_t (by omega) (by omega) (by omega)) ?_
      refine zw_if_eq (tgt := 96) (nx := 86) C dX7_number_83 rfl rfl (by omega) (fun h83 => by exfalso; omega) (fun h83 => ?_)
      refine zw_iload (nx := 88) C dX7_number_86 rfl rfl ?_
      refine zw_iload_n (i := 1) (nx := 89) C dX7_number_88 rfl rfl rfl ?_
      refine zw_iload_n (i := 2) (nx := 90) C dX7_number_89 rfl rfl rfl ?_
      refine zw_cS31 (nx := 93) C dX7_number_90 rfl csX7_88 ⟨Nat.le_of_ble_eq_true rfl, Nat.le_of_ble_eq_true rfl⟩ (Nat.le_of_ble_eq_true rfl) (run_X7_in_t (by omega) (by omega) (by omega)) ?_
      refine zw_if_ne (tgt := 98) (nx := 96) C dX7_number_93 rfl rfl (by omega) (fun h93 => ?_) (fun h93 => by exfalso; omega)
      refine zw_aload_n (i := 0) (nx := 99) C dX7_number_98 rfl rfl rfl ?_
      refine zw_iload (nx := 101) C dX7_number_99 rfl rfl ?_
      refine zw_puti (nx := 104) C dX7_number_101 rfl flX7_136 ic6 nf6_22 rfl rfl rfl rfl rfl ?_
      refine zw_aload_n (i := 0) (nx := 105) C dX7_number_104 rfl rfl rfl ?_
      refine zw_dup (nx := 106) C dX7_number_105 rfl rfl ?_
      refine zw_geti (nx := 109) C dX7_number_106 rfl flX7_110 iq6 rfl rfl rfl rfl ?_
      rw [show (zU (zU ζ 52 16 s) 52 22 (nV T s (fE T t s))).1 52 16 = (s : Int) from rfl]
      refine zw_iload_n (i := 3) (nx := 110) C dX7_number_109 rfl rfl rfl ?_
      refine zw_iadd (nx := 111) C dX7_number_110 rfl ?_
      refine zw_puti (nx := 114) C dX7_number_111 rfl flX7_110 ic6 nf6_16 rfl rfl rfl rfl rfl ?_
      refine zw_iconst (nx := 115) C dX7_number_114 rfl ?_
      exact zw_zret C hA hr hk dX7_number_115 rfl rfl rfl
    · rw [if_neg (fun q => c2 q.2)]
      refine ⟨fun p h => ?_, fun q h => (by cases h)⟩
      cases h
      refine lp 0 _ ?_
      rw [ev]
      intro X A C hX hA hr hk
      replace C : CX X B A mX7_number.2.2.2.2 RX7 cX7_number 5 0 0 := C
      have hr : (xMeth X).sig.returnType = (some .boolean) := hr
      change ZW X B A 5 0 0 _ _ _ _ _
      subst hX
      refine zw_iload_n (i := 3) (nx := 78) C dX7_number_77 rfl rfl rfl ?_
      refine zw_iconst (nx := 79) C dX7_number_78 rfl ?_
      refine zw_iconst (nx := 80) C dX7_number_79 rfl ?_
      refine zw_cS31 (nx := 83) C dX7_number_80 rfl csX7_88 ⟨Nat.le_of_ble_eq_true rfl, Nat.le_of_ble_eq_true rfl⟩ (Nat.le_of_ble_eq_true rfl) (run_X7_in_t (by omega) (by omega) (by omega)) ?_
      refine zw_if_eq (tgt := 96) (nx := 86) C dX7_number_83 rfl rfl (by omega) (fun h83 => by exfalso; omega) (fun h83 => ?_)
      refine zw_iload (nx := 88) C dX7_number_86 rfl rfl ?_
      refine zw_iload_n (i := 1) (nx := 89) C dX7_number_88 rfl rfl rfl ?_
      refine zw_iload_n (i := 2) (nx := 90) C dX7_number_89 rfl rfl rfl ?_
      refine zw_cS31 (nx := 93) C dX7_number_90 rfl csX7_88 ⟨Nat.le_of_ble_eq_true rfl, Nat.le_of_ble_eq_true rfl⟩ (Nat.le_of_ble_eq_true rfl) (run_X7_in_f (by omega) (by omega) (by omega)) ?_
      refine zw_if_ne (tgt := 98) (nx := 96) C dX7_number_93 rfl rfl (by omega) (fun h93 => by exfalso; omega) (fun h93 => ?_)
      refine zw_iconst (nx := 97) C dX7_number_96 rfl ?_
      exact zw_zret C hA hr hk dX7_number_97 rfl rfl rfl
  · rw [if_neg (fun q => c1 q.1)]
    refine ⟨fun p h => ?_, fun q h => (by cases h)⟩
    cases h
    refine lp 0 _ ?_
    intro X A C hX hA hr hk
    replace C : CX X B A mX7_number.2.2.2.2 RX7 cX7_number 5 0 0 := C
    have hr : (xMeth X).sig.returnType = (some .boolean) := hr
    change ZW X B A 5 0 0 _ _ _ _ _
    subst hX
    refine zw_iload_n (i := 3) (nx := 78) C dX7_number_77 rfl rfl rfl ?_
    refine zw_iconst (nx := 79) C dX7_number_78 rfl ?_
    refine zw_iconst (nx := 80) C dX7_number_79 rfl ?_
    refine zw_cS31 (nx := 83) C dX7_number_80 rfl csX7_88 ⟨Nat.le_of_ble_eq_true rfl, Nat.le_of_ble_eq_true rfl⟩ (Nat.le_of_ble_eq_true rfl) (run_X7_in_f (by omega) (by omega) (by omega)) ?_
    refine zw_if_eq (tgt := 96) (nx := 86) C dX7_number_83 rfl rfl (by omega) (fun h83 => ?_) (fun h83 => by exfalso; omega)
    refine zw_iconst (nx := 97) C dX7_number_96 rfl ?_
    exact zw_zret C hA hr hk dX7_number_97 rfl rfl rfl
theorem run_X7_ends (hx : TXm ζ t T) {i : Nat} (hi : ζ.1 52 16 = i) (hit : i ≤ t) :
    (∀ p, pEnd T t i = .inl p → zRun l B mX7_ends [.ref 52] ζ (some (zi (b2i false))) (zU ζ 52 16 p)) ∧
    (∀ j, pEnd T t i = .inr j → zRun l B mX7_ends [.ref 52] ζ (some (zi (b2i true))) (zU ζ 52 16 j)) := by
  have skp := run_X7_skip (l := l) (B := B) hx hi hit
  have hs := sk_bd T hit
  unfold pEnd
  generalize sk T t i = s at skp hs
  have hxs : TXm (zU ζ 52 16 s) t T := hx
  by_cases c1 : s < t
  · have b4 := (hx.2 s c1).2
    have hre := run_X7_here_in (l := l) (B := B) hxs (i := s) rfl c1
    by_cases c2 : T s = 59
    · rw [if_pos ⟨c1, c2⟩]
      refine ⟨fun p h => (by cases h), fun q h => ?_⟩
      cases h
      refine zrun_intro (M := mX7_ends) (ls := [some (.ref 52)]) (by decide) rfl rfl rfl (Nat.le_of_ble_eq_true rfl) ?_
      intro X A C hX hA hr hk
      replace C : CX X B A mX7_ends.2.2.2.2 RX7 cX7_ends 1 0 0 := C
      have hr : (xMeth X).sig.returnType = (some .boolean) := hr
      change ZW X B A 1 0 0 _ _ 0 [some (.ref 52)] []
      subst hX
      rw [show zU ζ 52 16 ((s + 1 : Nat) : Int) = zU (zU ζ 52 16 s) 52 16 ((s + 1 : Nat) : Int) from (zU_over ζ 52 16 s ((s + 1 : Nat) : Int)).symm]
      refine zw_aload_n (i := 0) (nx := 1) C dX7_ends_0 rfl rfl rfl ?_
      refine zw_cV00 (nx := 4) C dX7_ends_1 rfl cvX7_130 rfl rfl ⟨Nat.le_of_ble_eq_true rfl, Nat.le_of_ble_eq_true rfl⟩ rfl rfl (Nat.le_of_ble_eq_true rfl) skp ?_
      refine zw_aload_n (i := 0) (nx := 5) C dX7_ends_4 rfl rfl rfl ?_
      refine zw_cV01 (nx := 8) C dX7_ends_5 rfl cvX7_113 rfl rfl ⟨Nat.le_of_ble_eq_true rfl, Nat.le_of_ble_eq_true rfl⟩ rfl rfl (Nat.le_of_ble_eq_true rfl) hre ?_
      refine zw_bipush (v := 59) (nx := 10) C dX7_ends_8 (by decide) rfl ?_
      refine zw_icmp_eq (tgt := 15) (nx := 13) C dX7_ends_10 rfl rfl (by omega) (fun h10 => ?_) (fun h10 => by exfalso; omega)
      refine zw_aload_n (i := 0) (nx := 16) C dX7_ends_15 rfl rfl rfl ?_
      refine zw_dup (nx := 17) C dX7_ends_16 rfl rfl ?_
      refine zw_geti (nx := 20) C dX7_ends_17 rfl flX7_110 iq6 rfl rfl rfl rfl ?_
      rw [show (zU ζ 52 16 s).1 52 16 = (s : Int) from rfl]
      refine zw_iconst (nx := 21) C dX7_ends_20 rfl ?_
      refine zw_iadd (nx := 22) C dX7_ends_21 rfl ?_
      refine zw_puti (nx := 25) C dX7_ends_22 rfl flX7_110 ic6 nf6_16 rfl rfl rfl rfl rfl ?_
      refine zw_iconst (nx := 26) C dX7_ends_25 rfl ?_
      exact zw_zret C hA hr hk dX7_ends_26 rfl rfl rfl
    · rw [if_neg (fun q => c2 q.2)]
      refine ⟨fun p h => ?_, fun q h => (by cases h)⟩
      cases h
      refine zrun_intro (M := mX7_ends) (ls := [some (.ref 52)]) (by decide) rfl rfl rfl (Nat.le_of_ble_eq_true rfl) ?_
      intro X A C hX hA hr hk
      replace C : CX X B A mX7_ends.2.2.2.2 RX7 cX7_ends 1 0 0 := C
      have hr : (xMeth X).sig.returnType = (some .boolean) := hr
      change ZW X B A 1 0 0 _ _ 0 [some (.ref 52)] []
      subst hX
      refine zw_aload_n (i := 0) (nx := 1) C dX7_ends_0 rfl rfl rfl ?_
      refine zw_cV00 (nx := 4) C dX7_ends_1 rfl cvX7_130 rfl rfl ⟨Nat.le_of_ble_eq_true rfl, Nat.le_of_ble_eq_true rfl⟩ rfl rfl (Nat.le_of_ble_eq_true rfl) skp ?_
      refine zw_aload_n (i := 0) (nx := 5) C dX7_ends_4 rfl rfl rfl ?_
      refine zw_cV01 (nx := 8) C dX7_ends_5 rfl cvX7_113 rfl rfl ⟨Nat.le_of_ble_eq_true rfl, Nat.le_of_ble_eq_true rfl⟩ rfl rfl (Nat.le_of_ble_eq_true rfl) hre ?_
      refine zw_bipush (v := 59) (nx := 10) C dX7_ends_8 (by decide) rfl ?_
      refine zw_icmp_eq (tgt := 15) (nx := 13) C dX7_ends_10 rfl rfl (by omega) (fun h10 => by exfalso; omega) (fun h10 => ?_)
      refine zw_iconst (nx := 14) C dX7_ends_13 rfl ?_
      exact zw_zret C hA hr hk dX7_ends_14 rfl rfl rfl
  · rw [if_neg (fun q => c1 q.1)]
    refine ⟨fun p h => ?_, fun q h => (by cases h)⟩
    cases h
    have hre := run_X7_here_out (l := l) (B := B) hxs (i := s) rfl (by omega)
    refine zrun_intro (M := mX7_ends) (ls := [some (.ref 52)]) (by decide) rfl rfl rfl (Nat.le_of_ble_eq_true rfl) ?_
    intro X A C hX hA hr hk
    replace C : CX X B A mX7_ends.2.2.2.2 RX7 cX7_ends 1 0 0 := C
    have hr : (xMeth X).sig.returnType = (some .boolean) := hr
    change ZW X B A 1 0 0 _ _ 0 [some (.ref 52)] []
    subst hX
    refine zw_aload_n (i := 0) (nx := 1) C dX7_ends_0 rfl rfl rfl ?_
    refine zw_cV00 (nx := 4) C dX7_ends_1 rfl cvX7_130 rfl rfl ⟨Nat.le_of_ble_eq_true rfl, Nat.le_of_ble_eq_true rfl⟩ rfl rfl (Nat.le_of_ble_eq_true rfl) skp ?_
    refine zw_aload_n (i := 0) (nx := 5) C dX7_ends_4 rfl rfl rfl ?_
    refine zw_cV01 (nx := 8) C dX7_ends_5 rfl cvX7_113 rfl rfl ⟨Nat.le_of_ble_eq_true rfl, Nat.le_of_ble_eq_true rfl⟩ rfl rfl (Nat.le_of_ble_eq_true rfl) hre ?_
    refine zw_bipush (v := 59) (nx := 10) C dX7_ends_8 (by decide) rfl ?_
    refine zw_icmp_eq (tgt := 15) (nx := 13) C dX7_ends_10 rfl rfl (by omega) (fun h10 => by exfalso; omega) (fun h10 => ?_)
    refine zw_iconst (nx := 14) C dX7_ends_13 rfl ?_
    exact zw_zret C hA hr hk dX7_ends_14 rfl rfl rfl
end TextMc
