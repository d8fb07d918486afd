/-! the class's public methods, 1 -/
def bdS (ζ : zSt) : zSt := zU ζ 0 9 (ζ.1 0 9 + 1)
def noS (ζ : zSt) : zSt := zU ζ 0 10 (ζ.1 0 10 + 1)
def fuS (ζ : zSt) : zSt := zU ζ 0 11 (ζ.1 0 11 + 1)
section Pub1
variable {l : Launch} {B : eB} {ζ : zSt}
theorem run_X6_hill_ok {t d : Int} (ht : 0 ≤ t ∧ t ≤ 7) (hd : 0 ≤ d ∧ d ≤ 240) : zRun l B mX6_hill [.ref 0, zi t, zi d] ζ (some (zi (ζ.1 1 3))) (bgS ζ 1 t d) := by
  refine zrun_intro (M := mX6_hill) (ls := [some (.ref 0), some (zi t), some (zi d), none]) (by decide) rfl rfl rfl (Nat.le_of_ble_eq_true rfl) ?_
  intro X A C hX hA hr hk
  replace C : CX X B A mX6_hill.2.2.2.2 RX6 cX6_hill 4 0 0 := C
  have hr : (xMeth X).sig.returnType = (some .int) := hr
  change ZW X B A 4 0 0 _ _ 0 [some (.ref 0), some (zi t), some (zi d), none] []
  refine zw_iload_n (i := 1) (nx := 1) C dX6_hill_0 rfl rfl rfl ?_
  refine zw_iload_n (i := 2) (nx := 2) C dX6_hill_1 rfl rfl rfl ?_
  refine zw_cS21 (nx := 5) C dX6_hill_2 rfl csX6_67 ⟨Nat.le_of_ble_eq_true rfl, Nat.le_of_ble_eq_true rfl⟩ (Nat.le_of_ble_eq_true rfl) (run_X6_isTrack_t ht hd) ?_
  refine zw_if_ne (tgt := 15) (nx := 8) C dX6_hill_5 rfl rfl (by omega) (fun h5 => ?_) (fun h5 => by exfalso; omega)
  refine zw_aload_n (i := 0) (nx := 16) C dX6_hill_15 rfl rfl rfl ?_
  refine zw_getr (nx := 19) C dX6_hill_16 rfl flX6_12 iq5 rfl rfl rfl rfl ?_
  refine zw_geti (nx := 22) C dX6_hill_19 rfl flX6_75 iq2 rfl rfl rfl rfl ?_
  refine zw_ist3 (nx := 23) C (eIst_n dX6_hill_22 rfl rfl) (Nat.le_of_ble_eq_true rfl) rfl ?_
  refine zw_aload_n (i := 0) (nx := 24) C dX6_hill_23 rfl rfl rfl ?_
  refine zw_getr (nx := 27) C dX6_hill_24 rfl flX6_12 iq5 rfl rfl rfl rfl ?_
  refine zw_iload_n (i := 1) (nx := 28) C dX6_hill_27 rfl rfl rfl ?_
  refine zw_iload_n (i := 2) (nx := 29) C dX6_hill_28 rfl rfl rfl ?_
  refine zw_cV20 (nx := 32) C dX6_hill_29 rfl cvX6_78 rfl rfl ⟨Nat.le_of_ble_eq_true rfl, Nat.le_of_ble_eq_true rfl⟩ rfl rfl (Nat.le_of_ble_eq_true rfl) (run_X2_begin1) ?_
  refine zw_iload_n (i := 3) (nx := 33) C dX6_hill_32 rfl rfl rfl ?_
  exact zw_iret C hA hr hk dX6_hill_33 rfl rfl
theorem run_X6_hill_bad {t d : Int} (ht : -2147483648 ≤ t ∧ t ≤ 2147483647) (hd : -2147483648 ≤ d ∧ d ≤ 2147483647) (h : ¬ ((0 ≤ t ∧ t ≤ 7) ∧ (0 ≤ d ∧ d ≤ 240))) : zRun l B mX6_hill [.ref 0, zi t, zi d] ζ (some (zi (-2))) (bdS ζ) := by
  refine zrun_intro (M := mX6_hill) (ls := [some (.ref 0), some (zi t), some (zi d), none]) (by decide) rfl rfl rfl (Nat.le_of_ble_eq_true rfl) ?_
  intro X A C hX hA hr hk
  replace C : CX X B A mX6_hill.2.2.2.2 RX6 cX6_hill 4 0 0 := C
  have hr : (xMeth X).sig.returnType = (some .int) := hr
  change ZW X B A 4 0 0 _ _ 0 [some (.ref 0), some (zi t), some (zi d), none] []
  refine zw_iload_n (i := 1) (nx := 1) C dX6_hill_0 rfl rfl rfl ?_
  refine zw_iload_n (i := 2) (nx := 2) C dX6_hill_1 rfl rfl rfl ?_
  refine zw_cS21 (nx := 5) C dX6_hill_2 rfl csX6_67 ⟨Nat.le_of_ble_eq_true rfl, Nat.le_of_ble_eq_true rfl⟩ (Nat.le_of_ble_eq_true rfl) (run_X6_isTrack_f ht hd h) ?_
  refine zw_if_ne (tgt := 15) (nx := 8) C dX6_hill_5 rfl rfl (by omega) (fun h5 => by exfalso; omega) (fun h5 => ?_)
  refine zw_aload_n (i := 0) (nx := 9) C dX6_hill_8 rfl rfl rfl ?_
  refine zw_bipush (v := -2) (nx := 11) C dX6_hill_9 (by decide) rfl ?_
  refine zw_cV11 (nx := 14) C dX6_hill_11 rfl cvX6_71 rfl rfl ⟨Nat.le_of_ble_eq_true rfl, Nat.le_of_ble_eq_true rfl⟩ rfl rfl (Nat.le_of_ble_eq_true rfl) run_X6_bad ?_
  exact zw_iret C hA hr hk dX6_hill_14 rfl rfl
theorem run_X6_track_ok {t d : Int} (ht : 0 ≤ t ∧ t ≤ 7) (hd : 0 ≤ d ∧ d ≤ 240) : zRun l B mX6_track [.ref 0, zi t, zi d] ζ (some (zi 1)) (zU (zU (zU ζ 1 0 t) 1 1 d) 1 11 0) := by
  refine zrun_intro (M := mX6_track) (ls := [some (.ref 0), some (zi t), some (zi d)]) (by decide) rfl rfl rfl (Nat.le_of_ble_eq_true rfl) ?_
  intro X A C hX hA hr hk
  replace C : CX X B A mX6_track.2.2.2.2 RX6 cX6_track 3 0 0 := C
  have hr : (xMeth X).sig.returnType = (some .int) := hr
  change ZW X B A 3 0 0 _ _ 0 [some (.ref 0), some (zi t), some (zi d)] []
  refine zw_iload_n (i := 1) (nx := 1) C dX6_track_0 rfl rfl rfl ?_
  refine zw_iload_n (i := 2) (nx := 2) C dX6_track_1 rfl rfl rfl ?_
  refine zw_cS21 (nx := 5) C dX6_track_2 rfl csX6_67 ⟨Nat.le_of_ble_eq_true rfl, Nat.le_of_ble_eq_true rfl⟩ (Nat.le_of_ble_eq_true rfl) (run_X6_isTrack_t ht hd) ?_
  refine zw_if_ne (tgt := 15) (nx := 8) C dX6_track_5 rfl rfl (by omega) (fun h5 => ?_) (fun h5 => by exfalso; omega)
  refine zw_aload_n (i := 0) (nx := 16) C dX6_track_15 rfl rfl rfl ?_
  refine zw_getr (nx := 19) C dX6_track_16 rfl flX6_12 iq5 rfl rfl rfl rfl ?_
  refine zw_iload_n (i := 1) (nx := 20) C dX6_track_19 rfl rfl rfl ?_
  refine zw_puti (nx := 23) C dX6_track_20 rfl flX6_82 ic2 nf2_0 rfl rfl rfl rfl rfl ?_
  refine zw_aload_n (i := 0) (nx := 24) C dX6_track_23 rfl rfl rfl ?_
  refine zw_getr (nx := 27) C dX6_track_24 rfl flX6_12 iq5 rfl rfl rfl rfl ?_
  refine zw_iload_n (i := 2) (nx := 28) C dX6_track_27 rfl rfl rfl ?_
  refine zw_puti (nx := 31) C dX6_track_28 rfl flX6_85 ic2 nf2_1 rfl rfl rfl rfl rfl ?_
  refine zw_aload_n (i := 0) (nx := 32) C dX6_track_31 rfl rfl rfl ?_
  refine zw_getr (nx := 35) C dX6_track_32 rfl flX6_12 iq5 rfl rfl rfl rfl ?_
  refine zw_iconst (nx := 36) C dX6_track_35 rfl ?_
  refine zw_puti (nx := 39) C dX6_track_36 rfl flX6_88 ic2 nf2_11 rfl rfl rfl rfl rfl ?_
  refine zw_iconst (nx := 40) C dX6_track_39 rfl ?_
  exact zw_iret C hA hr hk dX6_track_40 rfl rfl
theorem run_X6_track_bad {t d : Int} (ht : -2147483648 ≤ t ∧ t ≤ 2147483647) (hd : -2147483648 ≤ d ∧ d ≤ 2147483647) (h : ¬ ((0 ≤ t ∧ t ≤ 7) ∧ (0 ≤ d ∧ d ≤ 240))) : zRun l B mX6_track [.ref 0, zi t, zi d] ζ (some (zi (-2))) (bdS ζ) := by
  refine zrun_intro (M := mX6_track) (ls := [some (.ref 0), some (zi t), some (zi d)]) (by decide) rfl rfl rfl (Nat.le_of_ble_eq_true rfl) ?_
  intro X A C hX hA hr hk
  replace C : CX X B A mX6_track.2.2.2.2 RX6 cX6_track 3 0 0 := C
  have hr : (xMeth X).sig.returnType = (some .int) := hr
  change ZW X B A 3 0 0 _ _ 0 [some (.ref 0), some (zi t), some (zi d)] []
  refine zw_iload_n (i := 1) (nx := 1) C dX6_track_0 rfl rfl rfl ?_
  refine zw_iload_n (i := 2) (nx := 2) C dX6_track_1 rfl rfl rfl ?_
  refine zw_cS21 (nx := 5) C dX6_track_2 rfl csX6_67 ⟨Nat.le_of_ble_eq_true rfl, Nat.le_of_ble_eq_true rfl⟩ (Nat.le_of_ble_eq_true rfl) (run_X6_isTrack_f ht hd h) ?_
  refine zw_if_ne (tgt := 15) (nx := 8) C dX6_track_5 rfl rfl (by omega) (fun h5 => by exfalso; omega) (fun h5 => ?_)
  refine zw_aload_n (i := 0) (nx := 9) C dX6_track_8 rfl rfl rfl ?_
  refine zw_bipush (v := -2) (nx := 11) C dX6_track_9 (by decide) rfl ?_
  refine zw_cV11 (nx := 14) C dX6_track_11 rfl cvX6_71 rfl rfl ⟨Nat.le_of_ble_eq_true rfl, Nat.le_of_ble_eq_true rfl⟩ rfl rfl (Nat.le_of_ble_eq_true rfl) run_X6_bad ?_
  exact zw_iret C hA hr hk dX6_track_14 rfl rfl
theorem run_X6_height_ok {y : Nat} {h : Int} (hy : y < 8) (hh : 0 ≤ h ∧ h ≤ 9) : zRun l B mX6_height [.ref 0, zi y, zi h] ζ (some (zi (ζ.1 2 y))) (zU (zU ζ 2 y h) 1 11 0) := by
  refine zrun_intro (M := mX6_height) (ls := [some (.ref 0), some (zi y), some (zi h), none]) (by decide) rfl rfl rfl (Nat.le_of_ble_eq_true rfl) ?_
  intro X A C hX hA hr hk
  replace C : CX X B A mX6_height.2.2.2.2 RX6 cX6_height 4 0 0 := C
  have hr : (xMeth X).sig.returnType = (some .int) := hr
  change ZW X B A 4 0 0 _ _ 0 [some (.ref 0), some (zi y), some (zi h), none] []
  refine zw_iload_n (i := 1) (nx := 1) C dX6_height_0 rfl rfl rfl ?_
  refine zw_cS11 (nx := 4) C dX6_height_1 rfl csX6_91 ⟨Nat.le_of_ble_eq_true rfl, Nat.le_of_ble_eq_true rfl⟩ (Nat.le_of_ble_eq_true rfl) (run_X6_isYard_t (by omega)) ?_
  refine zw_if_eq (tgt := 16) (nx := 7) C dX6_height_4 rfl rfl (by omega) (fun h4 => by exfalso; omega) (fun h4 => ?_)
  refine zw_iload_n (i := 2) (nx := 8) C dX6_height_7 rfl rfl rfl ?_
  refine zw_bipush (v := 9) (nx := 10) C dX6_height_8 (by decide) rfl ?_
  refine zw_cS21 (nx := 13) C dX6_height_10 rfl csX6_95 ⟨Nat.le_of_ble_eq_true rfl, Nat.le_of_ble_eq_true rfl⟩ (Nat.le_of_ble_eq_true rfl) (run_X6_within_t (by omega) hh) ?_
  refine zw_if_ne (tgt := 23) (nx := 16) C dX6_height_13 rfl rfl (by omega) (fun h13 => ?_) (fun h13 => by exfalso; omega)
  refine zw_aload_n (i := 0) (nx := 24) C dX6_height_23 rfl rfl rfl ?_
  refine zw_getr (nx := 27) C dX6_height_24 rfl flX6_12 iq5 rfl rfl rfl rfl ?_
  refine zw_getr (nx := 30) C dX6_height_27 rfl flX6_98 iq2 rfl rfl rfl rfl ?_
  refine zw_iload_n (i := 1) (nx := 31) C dX6_height_30 rfl rfl rfl ?_
  refine zw_iald (y) (nx := 32) C dX6_height_31 rfl rfl rfl rfl (by omega) ?_
  refine zw_ist3 (nx := 33) C (eIst_n dX6_height_32 rfl rfl) (Nat.le_of_ble_eq_true rfl) rfl ?_
  refine zw_aload_n (i := 0) (nx := 34) C dX6_height_33 rfl rfl rfl ?_
  refine zw_getr (nx := 37) C dX6_height_34 rfl flX6_12 iq5 rfl rfl rfl rfl ?_
  refine zw_getr (nx := 40) C dX6_height_37 rfl flX6_98 iq2 rfl rfl rfl rfl ?_
  refine zw_iload_n (i := 1) (nx := 41) C dX6_height_40 rfl rfl rfl ?_
  refine zw_iload_n (i := 2) (nx := 42) C dX6_height_41 rfl rfl rfl ?_
  refine zw_iast (y) (nx := 43) C dX6_height_42 rfl rfl rfl rfl (by omega) ?_
  refine zw_aload_n (i := 0) (nx := 44) C dX6_height_43 rfl rfl rfl ?_
  refine zw_getr (nx := 47) C dX6_height_44 rfl flX6_12 iq5 rfl rfl rfl rfl ?_
  refine zw_iconst (nx := 48) C dX6_height_47 rfl ?_
  refine zw_puti (nx := 51) C dX6_height_48 rfl flX6_88 ic2 nf2_11 rfl rfl rfl rfl rfl ?_
  refine zw_iload_n (i := 3) (nx := 52) C dX6_height_51 rfl rfl rfl ?_
  exact zw_iret C hA hr hk dX6_height_52 rfl rfl
theorem run_X6_height_bad {y h : Int} (hy : -2147483648 ≤ y ∧ y ≤ 2147483647) (hh : -2147483648 ≤ h ∧ h ≤ 2147483647) (hn : ¬ ((0 ≤ y ∧ y ≤ 7) ∧ (0 ≤ h ∧ h ≤ 9))) : zRun l B mX6_height [.ref 0, zi y, zi h] ζ (some (zi (-2))) (bdS ζ) := by
  refine zrun_intro (M := mX6_height) (ls := [some (.ref 0), some (zi y), some (zi h), none]) (by decide) rfl rfl rfl (Nat.le_of_ble_eq_true rfl) ?_
  intro X A C hX hA hr hk
  replace C : CX X B A mX6_height.2.2.2.2 RX6 cX6_height 4 0 0 := C
  have hr : (xMeth X).sig.returnType = (some .int) := hr
  change ZW X B A 4 0 0 _ _ 0 [some (.ref 0), some (zi y), some (zi h), none] []
  by_cases h1 : 0 ≤ y ∧ y ≤ 7
  · refine zw_iload_n (i := 1) (nx := 1) C dX6_height_0 rfl rfl rfl ?_
    refine zw_cS11 (nx := 4) C dX6_height_1 rfl csX6_91 ⟨Nat.le_of_ble_eq_true rfl, Nat.le_of_ble_eq_true rfl⟩ (Nat.le_of_ble_eq_true rfl) (run_X6_isYard_t h1) ?_
    refine zw_if_eq (tgt := 16) (nx := 7) C dX6_height_4 rfl rfl (by omega) (fun h4 => by exfalso; omega) (fun h4 => ?_)
    refine zw_iload_n (i := 2) (nx := 8) C dX6_height_7 rfl rfl rfl ?_
    refine zw_bipush (v := 9) (nx := 10) C dX6_height_8 (by decide) rfl ?_
    refine zw_cS21 (nx := 13) C dX6_height_10 rfl csX6_95 ⟨Nat.le_of_ble_eq_true rfl, Nat.le_of_ble_eq_true rfl⟩ (Nat.le_of_ble_eq_true rfl) (run_X6_within_f hh (by omega) (fun q => hn ⟨h1, q⟩)) ?_
    refine zw_if_ne (tgt := 23) (nx := 16) C dX6_height_13 rfl rfl (by omega) (fun h13 => by exfalso; omega) (fun h13 => ?_)
    refine zw_aload_n (i := 0) (nx := 17) C dX6_height_16 rfl rfl rfl ?_
    refine zw_bipush (v := -2) (nx := 19) C dX6_height_17 (by decide) rfl ?_
    refine zw_cV11 (nx := 22) C dX6_height_19 rfl cvX6_71 rfl rfl ⟨Nat.le_of_ble_eq_true rfl, Nat.le_of_ble_eq_true rfl⟩ rfl rfl (Nat.le_of_ble_eq_true rfl) run_X6_bad ?_
    exact zw_iret C hA hr hk dX6_height_22 rfl rfl
  · refine zw_iload_n (i := 1) (nx := 1) C dX6_height_0 rfl rfl rfl ?_
    refine zw_cS11 (nx := 4) C dX6_height_1 rfl csX6_91 ⟨Nat.le_of_ble_eq_true rfl, Nat.le_of_ble_eq_true rfl⟩ (Nat.le_of_ble_eq_true rfl) (run_X6_isYard_f hy h1) ?_
    refine zw_if_eq (tgt := 16) (nx := 7) C dX6_height_4 rfl rfl (by omega) (fun h4 => ?_) (fun h4 => by exfalso; omega)
    refine zw_aload_n (i := 0) (nx := 17) C dX6_height_16 rfl rfl rfl ?_
    refine zw_bipush (v := -2) (nx := 19) C dX6_height_17 (by decide) rfl ?_
    refine zw_cV11 (nx := 22) C dX6_height_19 rfl cvX6_71 rfl rfl ⟨Nat.le_of_ble_eq_true rfl, Nat.le_of_ble_eq_true rfl⟩ rfl rfl (Nat.le_of_ble_eq_true rfl) run_X6_bad ?_
    exact zw_iret C hA hr hk dX6_height_22 rfl rfl
theorem run_X6_one_ok {n : Nat} (hn : n < 5) (hn3 : ζ.1 1 3 = n) {k u : Int} (hk0 : 0 ≤ k ∧ k ≤ 5) (hu : 0 ≤ u ∧ u ≤ 500) : zRun l B mX6_one [.ref 0, zi k, zi u] ζ (some (zi n)) (adS (zU ζ 1 11 0) 1 n k u) := by
  refine zrun_intro (M := mX6_one) (ls := [some (.ref 0), some (zi k), some (zi u)]) (by decide) rfl rfl rfl (Nat.le_of_ble_eq_true rfl) ?_
  intro X A C hX hA hr hk
  replace C : CX X B A mX6_one.2.2.2.2 RX6 cX6_one 3 0 0 := C
  have hr : (xMeth X).sig.returnType = (some .int) := hr
  change ZW X B A 3 0 0 _ _ 0 [some (.ref 0), some (zi k), some (zi u)] []
  refine zw_iload_n (i := 1) (nx := 1) C dX6_one_0 rfl rfl rfl ?_
  refine zw_iconst (nx := 2) C dX6_one_1 rfl ?_
  refine zw_cS21 (nx := 5) C dX6_one_2 rfl csX6_95 ⟨Nat.le_of_ble_eq_true rfl, Nat.le_of_ble_eq_true rfl⟩ (Nat.le_of_ble_eq_true rfl) (run_X6_within_t (by omega) hk0) ?_
  refine zw_if_eq (tgt := 18) (nx := 8) C dX6_one_5 rfl rfl (by omega) (fun h5 => by exfalso; omega) (fun h5 => ?_)
  refine zw_iload_n (i := 2) (nx := 9) C dX6_one_8 rfl rfl rfl ?_
  refine zw_sipush (v := 500) (nx := 12) C dX6_one_9 (by decide) rfl ?_
  refine zw_cS21 (nx := 15) C dX6_one_12 rfl csX6_95 ⟨Nat.le_of_ble_eq_true rfl, Nat.le_of_ble_eq_true rfl⟩ (Nat.le_of_ble_eq_true rfl) (run_X6_within_t (by omega) hu) ?_
  refine zw_if_ne (tgt := 25) (nx := 18) C dX6_one_15 rfl rfl (by omega) (fun h15 => ?_) (fun h15 => by exfalso; omega)
  refine zw_aload_n (i := 0) (nx := 26) C dX6_one_25 rfl rfl rfl ?_
  refine zw_getr (nx := 29) C dX6_one_26 rfl flX6_12 iq5 rfl rfl rfl rfl ?_
  refine zw_geti (nx := 32) C dX6_one_29 rfl flX6_75 iq2 rfl rfl rfl rfl ?_
  refine zw_iconst (nx := 33) C dX6_one_32 rfl ?_
  refine zw_icmp_lt (tgt := 41) (nx := 36) C dX6_one_33 rfl rfl (by omega) (fun h33 => ?_) (fun h33 => by exfalso; omega)
  refine zw_aload_n (i := 0) (nx := 42) C dX6_one_41 rfl rfl rfl ?_
  refine zw_getr (nx := 45) C dX6_one_42 rfl flX6_12 iq5 rfl rfl rfl rfl ?_
  refine zw_iconst (nx := 46) C dX6_one_45 rfl ?_
  refine zw_puti (nx := 49) C dX6_one_46 rfl flX6_88 ic2 nf2_11 rfl rfl rfl rfl rfl ?_
  refine zw_aload_n (i := 0) (nx := 50) C dX6_one_49 rfl rfl rfl ?_
  refine zw_getr (nx := 53) C dX6_one_50 rfl flX6_12 iq5 rfl rfl rfl rfl ?_
  refine zw_iload_n (i := 1) (nx := 54) C dX6_one_53 rfl rfl rfl ?_
  refine zw_iload_n (i := 2) (nx := 55) C dX6_one_54 rfl rfl rfl ?_
  refine zw_cV21 (nx := 58) C dX6_one_55 rfl cvX6_108 rfl rfl ⟨Nat.le_of_ble_eq_true rfl, Nat.le_of_ble_eq_true rfl⟩ rfl rfl (Nat.le_of_ble_eq_true rfl) (run_X2_addBidder1 (ζ := zU ζ 1 11 0) hn hn3 hk0) ?_
  exact zw_iret C hA hr hk dX6_one_58 rfl rfl
theorem run_X6_one_full (hn3 : ζ.1 1 3 = 5) {k u : Int} (hk0 : 0 ≤ k ∧ k ≤ 5) (hu : 0 ≤ u ∧ u ≤ 500) : zRun l B mX6_one [.ref 0, zi k, zi u] ζ (some (zi (-4))) (fuS ζ) := by
  refine zrun_intro (M := mX6_one) (ls := [some (.ref 0), some (zi k), some (zi u)]) (by decide) rfl rfl rfl (Nat.le_of_ble_eq_true rfl) ?_
  intro X A C hX hA hr hk
  replace C : CX X B A mX6_one.2.2.2.2 RX6 cX6_one 3 0 0 := C
  have hr : (xMeth X).sig.returnType = (some .int) := hr
  change ZW X B A 3 0 0 _ _ 0 [some (.ref 0), some (zi k), some (zi u)] []
  refine zw_iload_n (i := 1) (nx := 1) C dX6_one_0 rfl rfl rfl ?_
  refine zw_iconst (nx := 2) C dX6_one_1 rfl ?_
  refine zw_cS21 (nx := 5) C dX6_one_2 rfl csX6_95 ⟨Nat.le_of_ble_eq_true rfl, Nat.le_of_ble_eq_true rfl⟩ (Nat.le_of_ble_eq_true rfl) (run_X6_within_t (by omega) hk0) ?_
  refine zw_if_eq (tgt := 18) (nx := 8) C dX6_one_5 rfl rfl (by omega) (fun h5 => by exfalso; omega) (fun h5 => ?_)
  refine zw_iload_n (i := 2) (nx := 9) C dX6_one_8 rfl rfl rfl ?_
  refine zw_sipush (v := 500) (nx := 12) C dX6_one_9 (by decide) rfl ?_
  refine zw_cS21 (nx := 15) C dX6_one_12 rfl csX6_95 ⟨Nat.le_of_ble_eq_true rfl, Nat.le_of_ble_eq_true rfl⟩ (Nat.le_of_ble_eq_true rfl) (run_X6_within_t (by omega) hu) ?_
  refine zw_if_ne (tgt := 25) (nx := 18) C dX6_one_15 rfl rfl (by omega) (fun h15 => ?_) (fun h15 => by exfalso; omega)
  refine zw_aload_n (i := 0) (nx := 26) C dX6_one_25 rfl rfl rfl ?_
  refine zw_getr (nx := 29) C dX6_one_26 rfl flX6_12 iq5 rfl rfl rfl rfl ?_
  refine zw_geti (nx := 32) C dX6_one_29 rfl flX6_75 iq2 rfl rfl rfl rfl ?_
  refine zw_iconst (nx := 33) C dX6_one_32 rfl ?_
  refine zw_icmp_lt (tgt := 41) (nx := 36) C dX6_one_33 rfl rfl (by omega) (fun h33 => by exfalso; omega) (fun h33 => ?_)
  refine zw_aload_n (i := 0) (nx := 37) C dX6_one_36 rfl rfl rfl ?_
  refine zw_cV01 (nx := 40) C dX6_one_37 rfl cvX6_104 rfl rfl ⟨Nat.le_of_ble_eq_true rfl, Nat.le_of_ble_eq_true rfl⟩ rfl rfl (Nat.le_of_ble_eq_true rfl) run_X6_full ?_
  exact zw_iret C hA hr hk dX6_one_40 rfl rfl
theorem run_X6_one_bad {k u : Int} (hk0 : -2147483648 ≤ k ∧ k ≤ 2147483647) (hu : -2147483648 ≤ u ∧ u ≤ 2147483647) (hn : ¬ ((0 ≤ k ∧ k ≤ 5) ∧ (0 ≤ u ∧ u ≤ 500))) : zRun l B mX6_one [.ref 0, zi k, zi u] ζ (some (zi (-2))) (bdS ζ) := by
  refine zrun_intro (M := mX6_one) (ls := [some (.ref 0), some (zi k), some (zi u)]) (by decide) rfl rfl rfl (Nat.le_of_ble_eq_true rfl) ?_
  intro X A C hX hA hr hk
  replace C : CX X B A mX6_one.2.2.2.2 RX6 cX6_one 3 0 0 := C
  have hr : (xMeth X).sig.returnType = (some .int) := hr
  change ZW X B A 3 0 0 _ _ 0 [some (.ref 0), some (zi k), some (zi u)] []
  by_cases h1 : 0 ≤ k ∧ k ≤ 5
  · refine zw_iload_n (i := 1) (nx := 1) C dX6_one_0 rfl rfl rfl ?_
    refine zw_iconst (nx := 2) C dX6_one_1 rfl ?_
    refine zw_cS21 (nx := 5) C dX6_one_2 rfl csX6_95 ⟨Nat.le_of_ble_eq_true rfl, Nat.le_of_ble_eq_true rfl⟩ (Nat.le_of_ble_eq_true rfl) (run_X6_within_t (by omega) h1) ?_
    refine zw_if_eq (tgt := 18) (nx := 8) C dX6_one_5 rfl rfl (by omega) (fun h5 => by exfalso; omega) (fun h5 => ?_)
    refine zw_iload_n (i := 2) (nx := 9) C dX6_one_8 rfl rfl rfl ?_
    refine zw_sipush (v := 500) (nx := 12) C dX6_one_9 (by decide) rfl ?_
    refine zw_cS21 (nx := 15) C dX6_one_12 rfl csX6_95 ⟨Nat.le_of_ble_eq_true rfl, Nat.le_of_ble_eq_true rfl⟩ (Nat.le_of_ble_eq_true rfl) (run_X6_within_f hu (by omega) (fun q => hn ⟨h1, q⟩)) ?_
    refine zw_if_ne (tgt := 25) (nx := 18) C dX6_one_15 rfl rfl (by omega) (fun h15 => by exfalso; omega) (fun h15 => ?_)
    refine zw_aload_n (i := 0) (nx := 19) C dX6_one_18 rfl rfl rfl ?_
    refine zw_bipush (v := -2) (nx := 21) C dX6_one_19 (by decide) rfl ?_
    refine zw_cV11 (nx := 24) C dX6_one_21 rfl cvX6_71 rfl rfl ⟨Nat.le_of_ble_eq_true rfl, Nat.le_of_ble_eq_true rfl⟩ rfl rfl (Nat.le_of_ble_eq_true rfl) run_X6_bad ?_
    exact zw_iret C hA hr hk dX6_one_24 rfl rfl
  · refine zw_iload_n (i := 1) (nx := 1) C dX6_one_0 rfl rfl rfl ?_
    refine zw_iconst (nx := 2) C dX6_one_1 rfl ?_
    refine zw_cS21 (nx := 5) C dX6_one_2 rfl csX6_95 ⟨Nat.le_of_ble_eq_true rfl, Nat.le_of_ble_eq_true rfl⟩ (Nat.le_of_ble_eq_true rfl) (run_X6_within_f hk0 (by omega) h1) ?_
    refine zw_if_eq (tgt := 18) (nx := 8) C dX6_one_5 rfl rfl (by omega) (fun h5 => ?_) (fun h5 => by exfalso; omega)
    refine zw_aload_n (i := 0) (nx := 19) C dX6_one_18 rfl rfl rfl ?_
    refine zw_bipush (v := -2) (nx := 21) C dX6_one_19 (by decide) rfl ?_
    refine zw_cV11 (nx := 24) C dX6_one_21 rfl cvX6_71 rfl rfl ⟨Nat.le_of_ble_eq_true rfl, Nat.le_of_ble_eq_true rfl⟩ rfl rfl (Nat.le_of_ble_eq_true rfl) run_X6_bad ?_
    exact zw_iret C hA hr hk dX6_one_24 rfl rfl
theorem byte_id {c : Int} (hc : 0 ≤ c ∧ c ≤ 127) : (iI c).toInt8.toInt32 = iI c := by
  obtain ⟨n, rfl⟩ := Int.eq_ofNat_of_zero_le hc.1
  have h : ∀ n : Fin 128, (iI ((n.val : Nat) : Int)).toInt8.toInt32 = iI ((n.val : Nat) : Int) := by decide
  exact h ⟨n, by omega⟩
theorem run_X6_type_ok {t : Nat} (ht : t < 150) (ht3 : ζ.1 39 1 = t) {c : Int} (hc : 0 ≤ c ∧ c ≤ 127) : zRun l B mX6_type [.ref 0, zi c] ζ (some (zi (t + 1))) (zU (zU ζ 40 t c) 39 1 (t + 1)) := by
  refine zrun_intro (M := mX6_type) (ls := [some (.ref 0), some (zi c)]) (by decide) rfl rfl rfl (Nat.le_of_ble_eq_true rfl) ?_
  intro X A C hX hA hr hk
  replace C : CX X B A mX6_type.2.2.2.2 RX6 cX6_type 2 0 0 := C
  have hr : (xMeth X).sig.returnType = (some .int) := hr
  change ZW X B A 2 0 0 _ _ 0 [some (.ref 0), some (zi c)] []
  refine zw_iload_n (i := 1) (nx := 1) C dX6_type_0 rfl rfl rfl ?_
  refine zw_bipush (v := 127) (nx := 3) C dX6_type_1 (by decide) rfl ?_
  refine zw_cS21 (nx := 6) C dX6_type_3 rfl csX6_95 ⟨Nat.le_of_ble_eq_true rfl, Nat.le_of_ble_eq_true rfl⟩ (Nat.le_of_ble_eq_true rfl) (run_X6_within_t (by omega) hc) ?_
  refine zw_if_ne (tgt := 16) (nx := 9) C dX6_type_6 rfl rfl (by omega) (fun h6 => ?_) (fun h6 => by exfalso; omega)
  refine zw_aload_n (i := 0) (nx := 17) C dX6_type_16 rfl rfl rfl ?_
  refine zw_getr (nx := 20) C dX6_type_17 rfl flX6_26 iq5 rfl rfl rfl rfl ?_
  refine zw_geti (nx := 23) C dX6_type_20 rfl flX6_112 iq4 rfl rfl rfl rfl ?_
  refine zw_sipush (v := 150) (nx := 26) C dX6_type_23 (by decide) rfl ?_
  refine zw_icmp_lt (tgt := 34) (nx := 29) C dX6_type_26 rfl rfl (by omega) (fun h26 => ?_) (fun h26 => by exfalso; omega)
  refine zw_aload_n (i := 0) (nx := 35) C dX6_type_34 rfl rfl rfl ?_
  refine zw_getr (nx := 38) C dX6_type_35 rfl flX6_26 iq5 rfl rfl rfl rfl ?_
  refine zw_getr (nx := 41) C dX6_type_38 rfl flX6_115 iq4 rfl rfl rfl rfl ?_
  refine zw_aload_n (i := 0) (nx := 42) C dX6_type_41 rfl rfl rfl ?_
  refine zw_getr (nx := 45) C dX6_type_42 rfl flX6_26 iq5 rfl rfl rfl rfl ?_
  refine zw_geti (nx := 48) C dX6_type_45 rfl flX6_112 iq4 rfl rfl rfl rfl ?_
  refine zw_iload_n (i := 1) (nx := 49) C dX6_type_48 rfl rfl rfl ?_
  refine zw_i2b (c := c) (nx := 50) C dX6_type_49 (by exact byte_id hc) rfl ?_
  refine zw_bast (t) (nx := 51) C dX6_type_50 rfl rfl rfl rfl (by omega) (by rw [vp_nar_byte]; exact byte_id hc) ?_
  refine zw_aload_n (i := 0) (nx := 52) C dX6_type_51 rfl rfl rfl ?_
  refine zw_getr (nx := 55) C dX6_type_52 rfl flX6_26 iq5 rfl rfl rfl rfl ?_
  refine zw_dup (nx := 56) C dX6_type_55 rfl rfl ?_
  refine zw_geti (nx := 59) C dX6_type_56 rfl flX6_112 iq4 rfl rfl rfl rfl ?_
  simp only [zU_at, zCp_at, zR_at, zFill_at, Nat.reduceEqDiff, reduceIte, and_self, and_true, true_and, and_false, false_and]
  rw [ht3]
  refine zw_iconst (nx := 60) C dX6_type_59 rfl ?_
  refine zw_iadd (nx := 61) C dX6_type_60 rfl ?_
  refine zw_puti (nx := 64) C dX6_type_61 rfl flX6_112 ic4 nf4_1 rfl rfl rfl rfl rfl ?_
  refine zw_aload_n (i := 0) (nx := 65) C dX6_type_64 rfl rfl rfl ?_
  refine zw_getr (nx := 68) C dX6_type_65 rfl flX6_26 iq5 rfl rfl rfl rfl ?_
  refine zw_geti (nx := 71) C dX6_type_68 rfl flX6_112 iq4 rfl rfl rfl rfl ?_
  simp only [zU_at, zCp_at, zR_at, zFill_at, Nat.reduceEqDiff, reduceIte, and_self, and_true, true_and, and_false, false_and]
  exact zw_iret C hA hr hk dX6_type_71 rfl rfl
theorem run_X6_type_full (ht3 : ζ.1 39 1 = 150) {c : Int} (hc : 0 ≤ c ∧ c ≤ 127) : zRun l B mX6_type [.ref 0, zi c] ζ (some (zi (-4))) (fuS ζ) := by
  refine zrun_intro (M := mX6_type) (ls := [some (.ref 0), some (zi c)]) (by decide) rfl rfl rfl (Nat.le_of_ble_eq_true rfl) ?_
  intro X A C hX hA hr hk
  replace C : CX X B A mX6_type.2.2.2.2 RX6 cX6_type 2 0 0 := C
  have hr : (xMeth X).sig.returnType = (some .int) := hr
  change ZW X B A 2 0 0 _ _ 0 [some (.ref 0), some (zi c)] []
  refine zw_iload_n (i := 1) (nx := 1) C dX6_type_0 rfl rfl rfl ?_
  refine zw_bipush (v := 127) (nx := 3) C dX6_type_1 (by decide) rfl ?_
  refine zw_cS21 (nx := 6) C dX6_type_3 rfl csX6_95 ⟨Nat.le_of_ble_eq_true rfl, Nat.le_of_ble_eq_true rfl⟩ (Nat.le_of_ble_eq_true rfl) (run_X6_within_t (by omega) hc) ?_
  refine zw_if_ne (tgt := 16) (nx := 9) C dX6_type_6 rfl rfl (by omega) (fun h6 => ?_) (fun h6 => by exfalso; omega)
  refine zw_aload_n (i := 0) (nx := 17) C dX6_type_16 rfl rfl rfl ?_
  refine zw_getr (nx := 20) C dX6_type_17 rfl flX6_26 iq5 rfl rfl rfl rfl ?_
  refine zw_geti (nx := 23) C dX6_type_20 rfl flX6_112 iq4 rfl rfl rfl rfl ?_
  refine zw_sipush (v := 150) (nx := 26) C dX6_type_23 (by decide) rfl ?_
  refine zw_icmp_lt (tgt := 34) (nx := 29) C dX6_type_26 rfl rfl (by omega) (fun h26 => by exfalso; omega) (fun h26 => ?_)
  refine zw_aload_n (i := 0) (nx := 30) C dX6_type_29 rfl rfl rfl ?_
  refine zw_cV01 (nx := 33) C dX6_type_30 rfl cvX6_104 rfl rfl ⟨Nat.le_of_ble_eq_true rfl, Nat.le_of_ble_eq_true rfl⟩ rfl rfl (Nat.le_of_ble_eq_true rfl) run_X6_full ?_
  exact zw_iret C hA hr hk dX6_type_33 rfl rfl
theorem run_X6_type_bad {c : Int} (hc : -2147483648 ≤ c ∧ c ≤ 2147483647) (h : ¬ (0 ≤ c ∧ c ≤ 127)) : zRun l B mX6_type [.ref 0, zi c] ζ (some (zi (-2))) (bdS ζ) := by
  refine zrun_intro (M := mX6_type) (ls := [some (.ref 0), some (zi c)]) (by decide) rfl rfl rfl (Nat.le_of_ble_eq_true rfl) ?_
  intro X A C hX hA hr hk
  replace C : CX X B A mX6_type.2.2.2.2 RX6 cX6_type 2 0 0 := C
  have hr : (xMeth X).sig.returnType = (some .int) := hr
  change ZW X B A 2 0 0 _ _ 0 [some (.ref 0), some (zi c)] []
  refine zw_iload_n (i := 1) (nx := 1) C dX6_type_0 rfl rfl rfl ?_
  refine zw_bipush (v := 127) (nx := 3) C dX6_type_1 (by decide) rfl ?_
  refine zw_cS21 (nx := 6) C dX6_type_3 rfl csX6_95 ⟨Nat.le_of_ble_eq_true rfl, Nat.le_of_ble_eq_true rfl⟩ (Nat.le_of_ble_eq_true rfl) (run_X6_within_f hc (by omega) h) ?_
  refine zw_if_ne (tgt := 16) (nx := 9) C dX6_type_6 rfl rfl (by omega) (fun h6 => by exfalso; omega) (fun h6 => ?_)
  refine zw_aload_n (i := 0) (nx := 10) C dX6_type_9 rfl rfl rfl ?_
  refine zw_bipush (v := -2) (nx := 12) C dX6_type_10 (by decide) rfl ?_
  refine zw_cV11 (nx := 15) C dX6_type_12 rfl cvX6_71 rfl rfl ⟨Nat.le_of_ble_eq_true rfl, Nat.le_of_ble_eq_true rfl⟩ rfl rfl (Nat.le_of_ble_eq_true rfl) run_X6_bad ?_
  exact zw_iret C hA hr hk dX6_type_15 rfl rfl
theorem run_X6_clear : zRun l B mX6_clear [.ref 0] ζ (some (zi (ζ.1 39 1))) (zU ζ 39 1 0) := by
  refine zrun_intro (M := mX6_clear) (ls := [some (.ref 0), none]) (by decide) rfl rfl rfl (Nat.le_of_ble_eq_true rfl) ?_
  intro X A C hX hA hr hk
  replace C : CX X B A mX6_clear.2.2.2.2 RX6 cX6_clear 2 0 0 := C
  have hr : (xMeth X).sig.returnType = (some .int) := hr
  change ZW X B A 2 0 0 _ _ 0 [some (.ref 0), none] []
  refine zw_aload_n (i := 0) (nx := 1) C dX6_clear_0 rfl rfl rfl ?_
  refine zw_getr (nx := 4) C dX6_clear_1 rfl flX6_26 iq5 rfl rfl rfl rfl ?_
  refine zw_geti (nx := 7) C dX6_clear_4 rfl flX6_112 iq4 rfl rfl rfl rfl ?_
  refine zw_ist1 (nx := 8) C (eIst_n dX6_clear_7 rfl rfl) (Nat.le_of_ble_eq_true rfl) rfl ?_
  refine zw_aload_n (i := 0) (nx := 9) C dX6_clear_8 rfl rfl rfl ?_
  refine zw_getr (nx := 12) C dX6_clear_9 rfl flX6_26 iq5 rfl rfl rfl rfl ?_
  refine zw_iconst (nx := 13) C dX6_clear_12 rfl ?_
  refine zw_puti (nx := 16) C dX6_clear_13 rfl flX6_112 ic4 nf4_1 rfl rfl rfl rfl rfl ?_
  refine zw_iload_n (i := 1) (nx := 17) C dX6_clear_16 rfl rfl rfl ?_
  exact zw_iret C hA hr hk dX6_clear_17 rfl rfl
def rem (ζ : zSt) (s : Nat) : zSt := if s < 8 then rmS ζ s else rmS (zU (zCp ζ 9 9 15 0 105) 1 11 7) 7
theorem run_X2_remember {s : Nat} (hs : s ≤ 8) (hs3 : ζ.1 1 11 = s) : zRun l B mX2_remember [.ref 1] ζ none (rem ζ s) := by
  unfold rem
  split
  · rename_i h; exact run_X2_remember_lt h hs3
  · exact run_X2_remember_8 (by omega)
theorem run_X6_leave_bad {n : Nat} (hn : n ≤ 5) (hn3 : ζ.1 1 3 = n) {p : Int} (hp : -2147483648 ≤ p ∧ p ≤ 2147483647) (h : ¬ (0 ≤ p ∧ p < n)) : zRun l B mX6_leave [.ref 0, zi p] ζ (some (zi (-2))) (bdS ζ) := by
  refine zrun_intro (M := mX6_leave) (ls := [some (.ref 0), some (zi p), none]) (by decide) rfl rfl rfl (Nat.le_of_ble_eq_true rfl) ?_
  intro X A C hX hA hr hk
  replace C : CX X B A mX6_leave.2.2.2.2 RX6 cX6_leave 3 0 0 := C
  have hr : (xMeth X).sig.returnType = (some .int) := hr
  change ZW X B A 3 0 0 _ _ 0 [some (.ref 0), some (zi p), none] []
  refine zw_aload_n (i := 0) (nx := 1) C dX6_leave_0 rfl rfl rfl ?_
  refine zw_iload_n (i := 1) (nx := 2) C dX6_leave_1 rfl rfl rfl ?_
  refine zw_cV11 (nx := 5) C dX6_leave_2 rfl cvX6_151 rfl rfl ⟨Nat.le_of_ble_eq_true rfl, Nat.le_of_ble_eq_true rfl⟩ rfl rfl (Nat.le_of_ble_eq_true rfl) (run_X6_isBidder_f hn hn3 hp h) ?_
  refine zw_if_ne (tgt := 15) (nx := 8) C dX6_leave_5 rfl rfl (by omega) (fun h5 => by exfalso; omega) (fun h5 => ?_)
  refine zw_aload_n (i := 0) (nx := 9) C dX6_leave_8 rfl rfl rfl ?_
  refine zw_bipush (v := -2) (nx := 11) C dX6_leave_9 (by decide) rfl ?_
  refine zw_cV11 (nx := 14) C dX6_leave_11 rfl cvX6_71 rfl rfl ⟨Nat.le_of_ble_eq_true rfl, Nat.le_of_ble_eq_true rfl⟩ rfl rfl (Nat.le_of_ble_eq_true rfl) run_X6_bad ?_
  exact zw_iret C hA hr hk dX6_leave_14 rfl rfl
theorem run_X6_leave_no {n p : Nat} (hn : n ≤ 5) (hn3 : ζ.1 1 3 = n) (hp : p < n) (h : ζ.1 7 p = -1) : zRun l B mX6_leave [.ref 0, zi p] ζ (some (zi (-3))) (noS ζ) := by
  refine zrun_intro (M := mX6_leave) (ls := [some (.ref 0), some (zi p), none]) (by decide) rfl rfl rfl (Nat.le_of_ble_eq_true rfl) ?_
  intro X A C hX hA hr hk
  replace C : CX X B A mX6_leave.2.2.2.2 RX6 cX6_leave 3 0 0 := C
  have hr : (xMeth X).sig.returnType = (some .int) := hr
  change ZW X B A 3 0 0 _ _ 0 [some (.ref 0), some (zi p), none] []
  refine zw_aload_n (i := 0) (nx := 1) C dX6_leave_0 rfl rfl rfl ?_
  refine zw_iload_n (i := 1) (nx := 2) C dX6_leave_1 rfl rfl rfl ?_
  refine zw_cV11 (nx := 5) C dX6_leave_2 rfl cvX6_151 rfl rfl ⟨Nat.le_of_ble_eq_true rfl, Nat.le_of_ble_eq_true rfl⟩ rfl rfl (Nat.le_of_ble_eq_true rfl) (run_X6_isBidder_t hn hn3 (by omega)) ?_
  refine zw_if_ne (tgt := 15) (nx := 8) C dX6_leave_5 rfl rfl (by omega) (fun h5 => ?_) (fun h5 => by exfalso; omega)
  refine zw_aload_n (i := 0) (nx := 16) C dX6_leave_15 rfl rfl rfl ?_
  refine zw_getr (nx := 19) C dX6_leave_16 rfl flX6_12 iq5 rfl rfl rfl rfl ?_
  refine zw_getr (nx := 22) C dX6_leave_19 rfl flX6_148 iq2 rfl rfl rfl rfl ?_
  refine zw_iload_n (i := 1) (nx := 23) C dX6_leave_22 rfl rfl rfl ?_
  refine zw_iald (p) (nx := 24) C dX6_leave_23 rfl rfl rfl rfl (by omega) ?_
  refine zw_ist2 (nx := 25) C (eIst_n dX6_leave_24 rfl rfl) (Nat.le_of_ble_eq_true rfl) rfl ?_
  refine zw_iload_n (i := 2) (nx := 26) C dX6_leave_25 rfl rfl rfl ?_
  refine zw_iconst (nx := 27) C dX6_leave_26 rfl ?_
  refine zw_icmp_ne (tgt := 35) (nx := 30) C dX6_leave_27 rfl rfl (by omega) (fun h27 => by exfalso; omega) (fun h27 => ?_)
  refine zw_aload_n (i := 0) (nx := 31) C dX6_leave_30 rfl rfl rfl ?_
  refine zw_cV01 (nx := 34) C dX6_leave_31 rfl cvX6_130 rfl rfl ⟨Nat.le_of_ble_eq_true rfl, Nat.le_of_ble_eq_true rfl⟩ rfl rfl (Nat.le_of_ble_eq_true rfl) run_X6_no ?_
  exact zw_iret C hA hr hk dX6_leave_34 rfl rfl
theorem run_X6_leave_ok {n p s : Nat} (hn : n ≤ 5) (hn3 : ζ.1 1 3 = n) (hp : p < n) (hs : s ≤ 8) (hs3 : ζ.1 1 11 = s) (h : 0 ≤ ζ.1 7 p ∧ ζ.1 7 p ≤ 7) : zRun l B mX6_leave [.ref 0, zi p] ζ (some (zi (ζ.1 7 p))) (zU (rem ζ s) 7 p (-1)) := by
  refine zrun_intro (M := mX6_leave) (ls := [some (.ref 0), some (zi p), none]) (by decide) rfl rfl rfl (Nat.le_of_ble_eq_true rfl) ?_
  intro X A C hX hA hr hk
  replace C : CX X B A mX6_leave.2.2.2.2 RX6 cX6_leave 3 0 0 := C
  have hr : (xMeth X).sig.returnType = (some .int) := hr
  change ZW X B A 3 0 0 _ _ 0 [some (.ref 0), some (zi p), none] []
  refine zw_aload_n (i := 0) (nx := 1) C dX6_leave_0 rfl rfl rfl ?_
  refine zw_iload_n (i := 1) (nx := 2) C dX6_leave_1 rfl rfl rfl ?_
  refine zw_cV11 (nx := 5) C dX6_leave_2 rfl cvX6_151 rfl rfl ⟨Nat.le_of_ble_eq_true rfl, Nat.le_of_ble_eq_true rfl⟩ rfl rfl (Nat.le_of_ble_eq_true rfl) (run_X6_isBidder_t hn hn3 (by omega)) ?_
  refine zw_if_ne (tgt := 15) (nx := 8) C dX6_leave_5 rfl rfl (by omega) (fun h5 => ?_) (fun h5 => by exfalso; omega)
  refine zw_aload_n (i := 0) (nx := 16) C dX6_leave_15 rfl rfl rfl ?_
  refine zw_getr (nx := 19) C dX6_leave_16 rfl flX6_12 iq5 rfl rfl rfl rfl ?_
  refine zw_getr (nx := 22) C dX6_leave_19 rfl flX6_148 iq2 rfl rfl rfl rfl ?_
  refine zw_iload_n (i := 1) (nx := 23) C dX6_leave_22 rfl rfl rfl ?_
  refine zw_iald (p) (nx := 24) C dX6_leave_23 rfl rfl rfl rfl (by omega) ?_
  refine zw_ist2 (nx := 25) C (eIst_n dX6_leave_24 rfl rfl) (Nat.le_of_ble_eq_true rfl) rfl ?_
  refine zw_iload_n (i := 2) (nx := 26) C dX6_leave_25 rfl rfl rfl ?_
  refine zw_iconst (nx := 27) C dX6_leave_26 rfl ?_
  refine zw_icmp_ne (tgt := 35) (nx := 30) C dX6_leave_27 rfl rfl (by omega) (fun h27 => ?_) (fun h27 => by exfalso; omega)
  refine zw_aload_n (i := 0) (nx := 36) C dX6_leave_35 rfl rfl rfl ?_
  refine zw_getr (nx := 39) C dX6_leave_36 rfl flX6_12 iq5 rfl rfl rfl rfl ?_
  refine zw_cV00 (nx := 42) C dX6_leave_39 rfl cvX6_139 rfl rfl ⟨Nat.le_of_ble_eq_true rfl, Nat.le_of_ble_eq_true rfl⟩ rfl rfl (Nat.le_of_ble_eq_true rfl) (run_X2_remember hs hs3) ?_
  refine zw_aload_n (i := 0) (nx := 43) C dX6_leave_42 rfl rfl rfl ?_
  refine zw_getr (nx := 46) C dX6_leave_43 rfl flX6_12 iq5 rfl rfl rfl rfl ?_
  refine zw_getr (nx := 49) C dX6_leave_46 rfl flX6_148 iq2 rfl rfl rfl rfl ?_
  refine zw_iload_n (i := 1) (nx := 50) C dX6_leave_49 rfl rfl rfl ?_
  refine zw_iconst (nx := 51) C dX6_leave_50 rfl ?_
  refine zw_iast (p) (nx := 52) C dX6_leave_51 rfl rfl rfl rfl (by omega) ?_
  refine zw_iload_n (i := 2) (nx := 53) C dX6_leave_52 rfl rfl rfl ?_
  exact zw_iret C hA hr hk dX6_leave_53 rfl rfl
theorem run_X6_moves_bad {n : Nat} (hn : n ≤ 5) (hn3 : ζ.1 1 3 = n) {p y : Int} (hp : -2147483648 ≤ p ∧ p ≤ 2147483647) (hy : -2147483648 ≤ y ∧ y ≤ 2147483647) (h : ¬ ((0 ≤ p ∧ p < n) ∧ (0 ≤ y ∧ y ≤ 7))) : zRun l B mX6_moves [.ref 0, zi p, zi y] ζ (some (zi (-2))) (bdS ζ) := by
  refine zrun_intro (M := mX6_moves) (ls := [some (.ref 0), some (zi p), some (zi y), none]) (by decide) rfl rfl rfl (Nat.le_of_ble_eq_true rfl) ?_
  intro X A C hX hA hr hk
  replace C : CX X B A mX6_moves.2.2.2.2 RX6 cX6_moves 4 0 0 := C
  have hr : (xMeth X).sig.returnType = (some .int) := hr
  change ZW X B A 4 0 0 _ _ 0 [some (.ref 0), some (zi p), some (zi y), none] []
  by_cases h1 : 0 ≤ p ∧ p < n
  · refine zw_aload_n (i := 0) (nx := 1) C dX6_moves_0 rfl rfl rfl ?_
    refine zw_iload_n (i := 1) (nx := 2) C dX6_moves_1 rfl rfl rfl ?_
    refine zw_cV11 (nx := 5) C dX6_moves_2 rfl cvX6_151 rfl rfl ⟨Nat.le_of_ble_eq_true rfl, Nat.le_of_ble_eq_true rfl⟩ rfl rfl (Nat.le_of_ble_eq_true rfl) (run_X6_isBidder_t hn hn3 h1) ?_
    refine zw_if_eq (tgt := 15) (nx := 8) C dX6_moves_5 rfl rfl (by omega) (fun h5 => by exfalso; omega) (fun h5 => ?_)
    refine zw_iload_n (i := 2) (nx := 9) C dX6_moves_8 rfl rfl rfl ?_
    refine zw_cS11 (nx := 12) C dX6_moves_9 rfl csX6_91 ⟨Nat.le_of_ble_eq_true rfl, Nat.le_of_ble_eq_true rfl⟩ (Nat.le_of_ble_eq_true rfl) (run_X6_isYard_f hy (fun q => h ⟨h1, q⟩)) ?_
    refine zw_if_ne (tgt := 22) (nx := 15) C dX6_moves_12 rfl rfl (by omega) (fun h12 => by exfalso; omega) (fun h12 => ?_)
    refine zw_aload_n (i := 0) (nx := 16) C dX6_moves_15 rfl rfl rfl ?_
    refine zw_bipush (v := -2) (nx := 18) C dX6_moves_16 (by decide) rfl ?_
    refine zw_cV11 (nx := 21) C dX6_moves_18 rfl cvX6_71 rfl rfl ⟨Nat.le_of_ble_eq_true rfl, Nat.le_of_ble_eq_true rfl⟩ rfl rfl (Nat.le_of_ble_eq_true rfl) run_X6_bad ?_
    exact zw_iret C hA hr hk dX6_moves_21 rfl rfl
  · refine zw_aload_n (i := 0) (nx := 1) C dX6_moves_0 rfl rfl rfl ?_
    refine zw_iload_n (i := 1) (nx := 2) C dX6_moves_1 rfl rfl rfl ?_
    refine zw_cV11 (nx := 5) C dX6_moves_2 rfl cvX6_151 rfl rfl ⟨Nat.le_of_ble_eq_true rfl, Nat.le_of_ble_eq_true rfl⟩ rfl rfl (Nat.le_of_ble_eq_true rfl) (run_X6_isBidder_f hn hn3 hp h1) ?_
    refine zw_if_eq (tgt := 15) (nx := 8) C dX6_moves_5 rfl rfl (by omega) (fun h5 => ?_) (fun h5 => by exfalso; omega)
    refine zw_aload_n (i := 0) (nx := 16) C dX6_moves_15 rfl rfl rfl ?_
    refine zw_bipush (v := -2) (nx := 18) C dX6_moves_16 (by decide) rfl ?_
    refine zw_cV11 (nx := 21) C dX6_moves_18 rfl cvX6_71 rfl rfl ⟨Nat.le_of_ble_eq_true rfl, Nat.le_of_ble_eq_true rfl⟩ rfl rfl (Nat.le_of_ble_eq_true rfl) run_X6_bad ?_
    exact zw_iret C hA hr hk dX6_moves_21 rfl rfl
theorem run_X6_moves_no {n p y : Nat} (hc : cOk ζ n) (hp : p < n) (hy : y < 8) (h : ζ.1 7 p = -1 ∨ sHol (cV ζ) y 0 n ≠ -1) : zRun l B mX6_moves [.ref 0, zi p, zi y] ζ (some (zi (-3))) (noS ζ) := by
  have hn := hc.1.1
  have hs : -1 ≤ ζ.1 7 p ∧ ζ.1 7 p ≤ 7 := (hc.1.2.2.2.2 p hp).2.2.2
  have hb := sHol_bd (cV ζ) y n 0
  refine zrun_intro (M := mX6_moves) (ls := [some (.ref 0), some (zi p), some (zi y), none]) (by decide) rfl rfl rfl (Nat.le_of_ble_eq_true rfl) ?_
  intro X A C hX hA hr hk
  replace C : CX X B A mX6_moves.2.2.2.2 RX6 cX6_moves 4 0 0 := C
  have hr : (xMeth X).sig.returnType = (some .int) := hr
  change ZW X B A 4 0 0 _ _ 0 [some (.ref 0), some (zi p), some (zi y), none] []
  by_cases h1 : ζ.1 7 p = -1
  · refine zw_aload_n (i := 0) (nx := 1) C dX6_moves_0 rfl rfl rfl ?_
    refine zw_iload_n (i := 1) (nx := 2) C dX6_moves_1 rfl rfl rfl ?_
    refine zw_cV11 (nx := 5) C dX6_moves_2 rfl cvX6_151 rfl rfl ⟨Nat.le_of_ble_eq_true rfl, Nat.le_of_ble_eq_true rfl⟩ rfl rfl (Nat.le_of_ble_eq_true rfl) (run_X6_isBidder_t hn hc.2.1 (by omega)) ?_
    refine zw_if_eq (tgt := 15) (nx := 8) C dX6_moves_5 rfl rfl (by omega) (fun h5 => by exfalso; omega) (fun h5 => ?_)
    refine zw_iload_n (i := 2) (nx := 9) C dX6_moves_8 rfl rfl rfl ?_
    refine zw_cS11 (nx := 12) C dX6_moves_9 rfl csX6_91 ⟨Nat.le_of_ble_eq_true rfl, Nat.le_of_ble_eq_true rfl⟩ (Nat.le_of_ble_eq_true rfl) (run_X6_isYard_t (by omega)) ?_
    refine zw_if_ne (tgt := 22) (nx := 15) C dX6_moves_12 rfl rfl (by omega) (fun h12 => ?_) (fun h12 => by exfalso; omega)
    refine zw_aload_n (i := 0) (nx := 23) C dX6_moves_22 rfl rfl rfl ?_
    refine zw_getr (nx := 26) C dX6_moves_23 rfl flX6_12 iq5 rfl rfl rfl rfl ?_
    refine zw_getr (nx := 29) C dX6_moves_26 rfl flX6_148 iq2 rfl rfl rfl rfl ?_
    refine zw_iload_n (i := 1) (nx := 30) C dX6_moves_29 rfl rfl rfl ?_
    refine zw_iald (p) (nx := 31) C dX6_moves_30 rfl rfl rfl rfl (by omega) ?_
    refine zw_ist3 (nx := 32) C (eIst_n dX6_moves_31 rfl rfl) (Nat.le_of_ble_eq_true rfl) rfl ?_
    refine zw_iload_n (i := 3) (nx := 33) C dX6_moves_32 rfl rfl rfl ?_
    refine zw_iconst (nx := 34) C dX6_moves_33 rfl ?_
    refine zw_icmp_eq (tgt := 49) (nx := 37) C dX6_moves_34 rfl rfl (by omega) (fun h34 => ?_) (fun h34 => by exfalso; omega)
    refine zw_aload_n (i := 0) (nx := 50) C dX6_moves_49 rfl rfl rfl ?_
    refine zw_cV01 (nx := 53) C dX6_moves_50 rfl cvX6_130 rfl rfl ⟨Nat.le_of_ble_eq_true rfl, Nat.le_of_ble_eq_true rfl⟩ rfl rfl (Nat.le_of_ble_eq_true rfl) run_X6_no ?_
    exact zw_iret C hA hr hk dX6_moves_53 rfl rfl
  · refine zw_aload_n (i := 0) (nx := 1) C dX6_moves_0 rfl rfl rfl ?_
    refine zw_iload_n (i := 1) (nx := 2) C dX6_moves_1 rfl rfl rfl ?_
    refine zw_cV11 (nx := 5) C dX6_moves_2 rfl cvX6_151 rfl rfl ⟨Nat.le_of_ble_eq_true rfl, Nat.le_of_ble_eq_true rfl⟩ rfl rfl (Nat.le_of_ble_eq_true rfl) (run_X6_isBidder_t hn hc.2.1 (by omega)) ?_
    refine zw_if_eq (tgt := 15) (nx := 8) C dX6_moves_5 rfl rfl (by omega) (fun h5 => by exfalso; omega) (fun h5 => ?_)
    refine zw_iload_n (i := 2) (nx := 9) C dX6_moves_8 rfl rfl rfl ?_
    refine zw_cS11 (nx := 12) C dX6_moves_9 rfl csX6_91 ⟨Nat.le_of_ble_eq_true rfl, Nat.le_of_ble_eq_true rfl⟩ (Nat.le_of_ble_eq_true rfl) (run_X6_isYard_t (by omega)) ?_
    refine zw_if_ne (tgt := 22) (nx := 15) C dX6_moves_12 rfl rfl (by omega) (fun h12 => ?_) (fun h12 => by exfalso; omega)
    refine zw_aload_n (i := 0) (nx := 23) C dX6_moves_22 rfl rfl rfl ?_
    refine zw_getr (nx := 26) C dX6_moves_23 rfl flX6_12 iq5 rfl rfl rfl rfl ?_
    refine zw_getr (nx := 29) C dX6_moves_26 rfl flX6_148 iq2 rfl rfl rfl rfl ?_
    refine zw_iload_n (i := 1) (nx := 30) C dX6_moves_29 rfl rfl rfl ?_
    refine zw_iald (p) (nx := 31) C dX6_moves_30 rfl rfl rfl rfl (by omega) ?_
    refine zw_ist3 (nx := 32) C (eIst_n dX6_moves_31 rfl rfl) (Nat.le_of_ble_eq_true rfl) rfl ?_
    refine zw_iload_n (i := 3) (nx := 33) C dX6_moves_32 rfl rfl rfl ?_
    refine zw_iconst (nx := 34) C dX6_moves_33 rfl ?_
    refine zw_icmp_eq (tgt := 49) (nx := 37) C dX6_moves_34 rfl rfl (by omega) (fun h34 => by exfalso; omega) (fun h34 => ?_)
    refine zw_aload_n (i := 0) (nx := 38) C dX6_moves_37 rfl rfl rfl ?_
    refine zw_getr (nx := 41) C dX6_moves_38 rfl flX6_12 iq5 rfl rfl rfl rfl ?_
    refine zw_iload_n (i := 2) (nx := 42) C dX6_moves_41 rfl rfl rfl ?_
    refine zw_cV11 (nx := 45) C dX6_moves_42 rfl cvX6_127 rfl rfl ⟨Nat.le_of_ble_eq_true rfl, Nat.le_of_ble_eq_true rfl⟩ rfl rfl (Nat.le_of_ble_eq_true rfl) (run_X2_holder hc (by omega)) ?_
    refine zw_iconst (nx := 46) C dX6_moves_45 rfl ?_
    refine zw_icmp_eq (tgt := 54) (nx := 49) C dX6_moves_46 rfl rfl (by omega) (fun h46 => by exfalso; omega) (fun h46 => ?_)
    refine zw_aload_n (i := 0) (nx := 50) C dX6_moves_49 rfl rfl rfl ?_
    refine zw_cV01 (nx := 53) C dX6_moves_50 rfl cvX6_130 rfl rfl ⟨Nat.le_of_ble_eq_true rfl, Nat.le_of_ble_eq_true rfl⟩ rfl rfl (Nat.le_of_ble_eq_true rfl) run_X6_no ?_
    exact zw_iret C hA hr hk dX6_moves_53 rfl rfl
theorem run_X6_moves_ok {n p y s : Nat} (hc : cOk ζ n) (hp : p < n) (hy : y < 8) (hs : s ≤ 8) (hs3 : ζ.1 1 11 = s) (h : ζ.1 7 p ≠ -1) (h2 : sHol (cV ζ) y 0 n = -1) : zRun l B mX6_moves [.ref 0, zi p, zi y] ζ (some (zi (ζ.1 7 p))) (zU (rem ζ s) 7 p y) := by
  have hn := hc.1.1
  have hs : -1 ≤ ζ.1 7 p ∧ ζ.1 7 p ≤ 7 := (hc.1.2.2.2.2 p hp).2.2.2
  refine zrun_intro (M := mX6_moves) (ls := [some (.ref 0), some (zi p), some (zi y), none]) (by decide) rfl rfl rfl (Nat.le_of_ble_eq_true rfl) ?_
  intro X A C hX hA hr hk
  replace C : CX X B A mX6_moves.2.2.2.2 RX6 cX6_moves 4 0 0 := C
  have hr : (xMeth X).sig.returnType = (some .int) := hr
  change ZW X B A 4 0 0 _ _ 0 [some (.ref 0), some (zi p), some (zi y), none] []
  refine zw_aload_n (i := 0) (nx := 1) C dX6_moves_0 rfl rfl rfl ?_
  refine zw_iload_n (i := 1) (nx := 2) C dX6_moves_1 rfl rfl rfl ?_
  refine zw_cV11 (nx := 5) C dX6_moves_2 rfl cvX6_151 rfl rfl ⟨Nat.le_of_ble_eq_true rfl, Nat.le_of_ble_eq_true rfl⟩ rfl rfl (Nat.le_of_ble_eq_true rfl) (run_X6_isBidder_t hn hc.2.1 (by omega)) ?_
  refine zw_if_eq (tgt := 15) (nx := 8) C dX6_moves_5 rfl rfl (by omega) (fun h5 => by exfalso; omega) (fun h5 => ?_)
  refine zw_iload_n (i := 2) (nx := 9) C dX6_moves_8 rfl rfl rfl ?_
  refine zw_cS11 (nx := 12) C dX6_moves_9 rfl csX6_91 ⟨Nat.le_of_ble_eq_true rfl, Nat.le_of_ble_eq_true rfl⟩ (Nat.le_of_ble_eq_true rfl) (run_X6_isYard_t (by omega)) ?_
  refine zw_if_ne (tgt := 22) (nx := 15) C dX6_moves_12 rfl rfl (by omega) (fun h12 => ?_) (fun h12 => by exfalso; omega)
  refine zw_aload_n (i := 0) (nx := 23) C dX6_moves_22 rfl rfl rfl ?_
  refine zw_getr (nx := 26) C dX6_moves_23 rfl flX6_12 iq5 rfl rfl rfl rfl ?_
  refine zw_getr (nx := 29) C dX6_moves_26 rfl flX6_148 iq2 rfl rfl rfl rfl ?_
  refine zw_iload_n (i := 1) (nx := 30) C dX6_moves_29 rfl rfl rfl ?_
  refine zw_iald (p) (nx := 31) C dX6_moves_30 rfl rfl rfl rfl (by omega) ?_
  refine zw_ist3 (nx := 32) C (eIst_n dX6_moves_31 rfl rfl) (Nat.le_of_ble_eq_true rfl) rfl ?_
  refine zw_iload_n (i := 3) (nx := 33) C dX6_moves_32 rfl rfl rfl ?_
  refine zw_iconst (nx := 34) C dX6_moves_33 rfl ?_
  refine zw_icmp_eq (tgt := 49) (nx := 37) C dX6_moves_34 rfl rfl (by omega) (fun h34 => by exfalso; omega) (fun h34 => ?_)
  refine zw_aload_n (i := 0) (nx := 38) C dX6_moves_37 rfl rfl rfl ?_
  refine zw_getr (nx := 41) C dX6_moves_38 rfl flX6_12 iq5 rfl rfl rfl rfl ?_
  refine zw_iload_n (i := 2) (nx := 42) C dX6_moves_41 rfl rfl rfl ?_
  refine zw_cV11 (nx := 45) C dX6_moves_42 rfl cvX6_127 rfl rfl ⟨Nat.le_of_ble_eq_true rfl, Nat.le_of_ble_eq_true rfl⟩ rfl rfl (Nat.le_of_ble_eq_true rfl) (run_X2_holder hc (by omega)) ?_
  refine zw_iconst (nx := 46) C dX6_moves_45 rfl ?_
  refine zw_icmp_eq (tgt := 54) (nx := 49) C dX6_moves_46 rfl rfl (by omega) (fun h46 => ?_) (fun h46 => by exfalso; omega)
  refine zw_aload_n (i := 0) (nx := 55) C dX6_moves_54 rfl rfl rfl ?_
  refine zw_getr (nx := 58) C dX6_moves_55 rfl flX6_12 iq5 rfl rfl rfl rfl ?_
  refine zw_cV00 (nx := 61) C dX6_moves_58 rfl cvX6_139 rfl rfl ⟨Nat.le_of_ble_eq_true rfl, Nat.le_of_ble_eq_true rfl⟩ rfl rfl (Nat.le_of_ble_eq_true rfl) (run_X2_remember (by assumption) hs3) ?_
  refine zw_aload_n (i := 0) (nx := 62) C dX6_moves_61 rfl rfl rfl ?_
  refine zw_getr (nx := 65) C dX6_moves_62 rfl flX6_12 iq5 rfl rfl rfl rfl ?_
  refine zw_getr (nx := 68) C dX6_moves_65 rfl flX6_148 iq2 rfl rfl rfl rfl ?_
  refine zw_iload_n (i := 1) (nx := 69) C dX6_moves_68 rfl rfl rfl ?_
  refine zw_iload_n (i := 2) (nx := 70) C dX6_moves_69 rfl rfl rfl ?_
  refine zw_iast (p) (nx := 71) C dX6_moves_70 rfl rfl rfl rfl (by omega) ?_
  refine zw_iload_n (i := 3) (nx := 72) C dX6_moves_71 rfl rfl rfl ?_
  exact zw_iret C hA hr hk dX6_moves_72 rfl rfl
theorem run_X6_sell_bad {y : Int} (hy : -2147483648 ≤ y ∧ y ≤ 2147483647) (h : ¬ (0 ≤ y ∧ y ≤ 7)) : zRun l B mX6_sell [.ref 0, zi y] ζ (some (zi (-2))) (bdS ζ) := by
  refine zrun_intro (M := mX6_sell) (ls := [some (.ref 0), some (zi y), none, none]) (by decide) rfl rfl rfl (Nat.le_of_ble_eq_true rfl) ?_
  intro X A C hX hA hr hk
  replace C : CX X B A mX6_sell.2.2.2.2 RX6 cX6_sell 4 0 0 := C
  have hr : (xMeth X).sig.returnType = (some .int) := hr
  change ZW X B A 4 0 0 _ _ 0 [some (.ref 0), some (zi y), none, none] []
  refine zw_iload_n (i := 1) (nx := 1) C dX6_sell_0 rfl rfl rfl ?_
  refine zw_cS11 (nx := 4) C dX6_sell_1 rfl csX6_91 ⟨Nat.le_of_ble_eq_true rfl, Nat.le_of_ble_eq_true rfl⟩ (Nat.le_of_ble_eq_true rfl) (run_X6_isYard_f hy h) ?_
  refine zw_if_ne (tgt := 14) (nx := 7) C dX6_sell_4 rfl rfl (by omega) (fun h4 => by exfalso; omega) (fun h4 => ?_)
  refine zw_aload_n (i := 0) (nx := 8) C dX6_sell_7 rfl rfl rfl ?_
  refine zw_bipush (v := -2) (nx := 10) C dX6_sell_8 (by decide) rfl ?_
  refine zw_cV11 (nx := 13) C dX6_sell_10 rfl cvX6_71 rfl rfl ⟨Nat.le_of_ble_eq_true rfl, Nat.le_of_ble_eq_true rfl⟩ rfl rfl (Nat.le_of_ble_eq_true rfl) run_X6_bad ?_
  exact zw_iret C hA hr hk dX6_sell_13 rfl rfl
theorem run_X6_sell_no {n y : Nat} (hc : cOk ζ n) (hy : y < 8) (h : sHol (cV ζ) y 0 n ≠ -1 ∨ (sTop (sOff (cV ζ) n y) n).1 = -1) : zRun l B mX6_sell [.ref 0, zi y] ζ (some (zi (-3))) (noS ζ) := by
  have hn := hc.1.1
  have hb := sHol_bd (cV ζ) y n 0
  have hbd := sTop_bd (f := sOff (cV ζ) n y) (n := n) (fun p hp => hc.1.off hp hy) n (Nat.le_refl n)
  refine zrun_intro (M := mX6_sell) (ls := [some (.ref 0), some (zi y), none, none]) (by decide) rfl rfl rfl (Nat.le_of_ble_eq_true rfl) ?_
  intro X A C hX hA hr hk
  replace C : CX X B A mX6_sell.2.2.2.2 RX6 cX6_sell 4 0 0 := C
  have hr : (xMeth X).sig.returnType = (some .int) := hr
  change ZW X B A 4 0 0 _ _ 0 [some (.ref 0), some (zi y), none, none] []
  by_cases h1 : sHol (cV ζ) y 0 n = -1
  · refine zw_iload_n (i := 1) (nx := 1) C dX6_sell_0 rfl rfl rfl ?_
    refine zw_cS11 (nx := 4) C dX6_sell_1 rfl csX6_91 ⟨Nat.le_of_ble_eq_true rfl, Nat.le_of_ble_eq_true rfl⟩ (Nat.le_of_ble_eq_true rfl) (run_X6_isYard_t (by omega)) ?_
    refine zw_if_ne (tgt := 14) (nx := 7) C dX6_sell_4 rfl rfl (by omega) (fun h4 => ?_) (fun h4 => by exfalso; omega)
    refine zw_aload_n (i := 0) (nx := 15) C dX6_sell_14 rfl rfl rfl ?_
    refine zw_getr (nx := 18) C dX6_sell_15 rfl flX6_12 iq5 rfl rfl rfl rfl ?_
    refine zw_iload_n (i := 1) (nx := 19) C dX6_sell_18 rfl rfl rfl ?_
    refine zw_cV11 (nx := 22) C dX6_sell_19 rfl cvX6_127 rfl rfl ⟨Nat.le_of_ble_eq_true rfl, Nat.le_of_ble_eq_true rfl⟩ rfl rfl (Nat.le_of_ble_eq_true rfl) (run_X2_holder hc (by omega)) ?_
    refine zw_iconst (nx := 23) C dX6_sell_22 rfl ?_
    refine zw_icmp_eq (tgt := 31) (nx := 26) C dX6_sell_23 rfl rfl (by omega) (fun h23 => ?_) (fun h23 => by exfalso; omega)
    refine zw_aload_n (i := 0) (nx := 32) C dX6_sell_31 rfl rfl rfl ?_
    refine zw_getr (nx := 35) C dX6_sell_32 rfl flX6_12 iq5 rfl rfl rfl rfl ?_
    refine zw_iload_n (i := 1) (nx := 36) C dX6_sell_35 rfl rfl rfl ?_
    refine zw_cV11 (nx := 39) C dX6_sell_36 rfl cvX6_133 rfl rfl ⟨Nat.le_of_ble_eq_true rfl, Nat.le_of_ble_eq_true rfl⟩ rfl rfl (Nat.le_of_ble_eq_true rfl) (run_X2_topBidder hc hy) ?_
    refine zw_ist2 (nx := 40) C (eIst_n dX6_sell_39 rfl rfl) (Nat.le_of_ble_eq_true rfl) rfl ?_
    refine zw_iload_n (i := 2) (nx := 41) C dX6_sell_40 rfl rfl rfl ?_
    refine zw_iconst (nx := 42) C dX6_sell_41 rfl ?_
    refine zw_icmp_ne (tgt := 50) (nx := 45) C dX6_sell_42 rfl rfl (by omega) (fun h42 => by exfalso; omega) (fun h42 => ?_)
    refine zw_aload_n (i := 0) (nx := 46) C dX6_sell_45 rfl rfl rfl ?_
    refine zw_cV01 (nx := 49) C dX6_sell_46 rfl cvX6_130 rfl rfl ⟨Nat.le_of_ble_eq_true rfl, Nat.le_of_ble_eq_true rfl⟩ rfl rfl (Nat.le_of_ble_eq_true rfl) run_X6_no ?_
    exact zw_iret C hA hr hk dX6_sell_49 rfl rfl
  · refine zw_iload_n (i := 1) (nx := 1) C dX6_sell_0 rfl rfl rfl ?_
    refine zw_cS11 (nx := 4) C dX6_sell_1 rfl csX6_91 ⟨Nat.le_of_ble_eq_true rfl, Nat.le_of_ble_eq_true rfl⟩ (Nat.le_of_ble_eq_true rfl) (run_X6_isYard_t (by omega)) ?_
    refine zw_if_ne (tgt := 14) (nx := 7) C dX6_sell_4 rfl rfl (by omega) (fun h4 => ?_) (fun h4 => by exfalso; omega)
    refine zw_aload_n (i := 0) (nx := 15) C dX6_sell_14 rfl rfl rfl ?_
    refine zw_getr (nx := 18) C dX6_sell_15 rfl flX6_12 iq5 rfl rfl rfl rfl ?_
    refine zw_iload_n (i := 1) (nx := 19) C dX6_sell_18 rfl rfl rfl ?_
    refine zw_cV11 (nx := 22) C dX6_sell_19 rfl cvX6_127 rfl rfl ⟨Nat.le_of_ble_eq_true rfl, Nat.le_of_ble_eq_true rfl⟩ rfl rfl (Nat.le_of_ble_eq_true rfl) (run_X2_holder hc (by omega)) ?_
    refine zw_iconst (nx := 23) C dX6_sell_22 rfl ?_
    refine zw_icmp_eq (tgt := 31) (nx := 26) C dX6_sell_23 rfl rfl (by omega) (fun h23 => by exfalso; omega) (fun h23 => ?_)
    refine zw_aload_n (i := 0) (nx := 27) C dX6_sell_26 rfl rfl rfl ?_
    refine zw_cV01 (nx := 30) C dX6_sell_27 rfl cvX6_130 rfl rfl ⟨Nat.le_of_ble_eq_true rfl, Nat.le_of_ble_eq_true rfl⟩ rfl rfl (Nat.le_of_ble_eq_true rfl) run_X6_no ?_
    exact zw_iret C hA hr hk dX6_sell_30 rfl rfl
theorem run_X6_sell_ok {n y s p : Nat} (hc : cOk ζ n) (hy : y < 8) (hs : s ≤ 8) (hs3 : ζ.1 1 11 = s) (h : sHol (cV ζ) y 0 n = -1) (hp : p < n) (h2 : (sTop (sOff (cV ζ) n y) n).1 = p) : zRun l B mX6_sell [.ref 0, zi y] ζ (some (zi p)) (zU (zU (zU (rem ζ s) 5 p ((rem ζ s).1 5 p - sPri (sOff (cV ζ) n y) p n)) 6 p ((rem ζ s).1 6 p + sPri (sOff (cV ζ) n y) p n)) 7 p y) := by
  have hn := hc.1.1
  refine zrun_intro (M := mX6_sell) (ls := [some (.ref 0), some (zi y), none, none]) (by decide) rfl rfl rfl (Nat.le_of_ble_eq_true rfl) ?_
  intro X A C hX hA hr hk
  replace C : CX X B A mX6_sell.2.2.2.2 RX6 cX6_sell 4 0 0 := C
  have hr : (xMeth X).sig.returnType = (some .int) := hr
  change ZW X B A 4 0 0 _ _ 0 [some (.ref 0), some (zi y), none, none] []
  refine zw_iload_n (i := 1) (nx := 1) C dX6_sell_0 rfl rfl rfl ?_
  refine zw_cS11 (nx := 4) C dX6_sell_1 rfl csX6_91 ⟨Nat.le_of_ble_eq_true rfl, Nat.le_of_ble_eq_true rfl⟩ (Nat.le_of_ble_eq_true rfl) (run_X6_isYard_t (by omega)) ?_
  refine zw_if_ne (tgt := 14) (nx := 7) C dX6_sell_4 rfl rfl (by omega) (fun h4 => ?_) (fun h4 => by exfalso; omega)
  refine zw_aload_n (i := 0) (nx := 15) C dX6_sell_14 rfl rfl rfl ?_
  refine zw_getr (nx := 18) C dX6_sell_15 rfl flX6_12 iq5 rfl rfl rfl rfl ?_
  refine zw_iload_n (i := 1) (nx := 19) C dX6_sell_18 rfl rfl rfl ?_
  refine zw_cV11 (nx := 22) C dX6_sell_19 rfl cvX6_127 rfl rfl ⟨Nat.le_of_ble_eq_true rfl, Nat.le_of_ble_eq_true rfl⟩ rfl rfl (Nat.le_of_ble_eq_true rfl) (run_X2_holder hc (by omega)) ?_
  refine zw_iconst (nx := 23) C dX6_sell_22 rfl ?_
  refine zw_icmp_eq (tgt := 31) (nx := 26) C dX6_sell_23 rfl rfl (by omega) (fun h23 => ?_) (fun h23 => by exfalso; omega)
  refine zw_aload_n (i := 0) (nx := 32) C dX6_sell_31 rfl rfl rfl ?_
  refine zw_getr (nx := 35) C dX6_sell_32 rfl flX6_12 iq5 rfl rfl rfl rfl ?_
  refine zw_iload_n (i := 1) (nx := 36) C dX6_sell_35 rfl rfl rfl ?_
  refine zw_cV11 (nx := 39) C dX6_sell_36 rfl cvX6_133 rfl rfl ⟨Nat.le_of_ble_eq_true rfl, Nat.le_of_ble_eq_true rfl⟩ rfl rfl (Nat.le_of_ble_eq_true rfl) (run_X2_topBidder hc hy) ?_
  rw [h2]
  refine zw_ist2 (nx := 40) C (eIst_n dX6_sell_39 rfl rfl) (Nat.le_of_ble_eq_true rfl) rfl ?_
  refine zw_iload_n (i := 2) (nx := 41) C dX6_sell_40 rfl rfl rfl ?_
  refine zw_iconst (nx := 42) C dX6_sell_41 rfl ?_
  refine zw_icmp_ne (tgt := 50) (nx := 45) C dX6_sell_42 rfl rfl (by omega) (fun h42 => ?_) (fun h42 => by exfalso; omega)
  refine zw_aload_n (i := 0) (nx := 51) C dX6_sell_50 rfl rfl rfl ?_
  refine zw_getr (nx := 54) C dX6_sell_51 rfl flX6_12 iq5 rfl rfl rfl rfl ?_
  refine zw_iload_n (i := 1) (nx := 55) C dX6_sell_54 rfl rfl rfl ?_
  refine zw_iload_n (i := 2) (nx := 56) C dX6_sell_55 rfl rfl rfl ?_
  refine zw_cV21 (nx := 59) C dX6_sell_56 rfl cvX6_136 rfl rfl ⟨Nat.le_of_ble_eq_true rfl, Nat.le_of_ble_eq_true rfl⟩ rfl rfl (Nat.le_of_ble_eq_true rfl) (run_X2_price hc hy (by omega)) ?_
  refine zw_ist3 (nx := 60) C (eIst_n dX6_sell_59 rfl rfl) (Nat.le_of_ble_eq_true rfl) rfl ?_
  refine zw_aload_n (i := 0) (nx := 61) C dX6_sell_60 rfl rfl rfl ?_
  refine zw_getr (nx := 64) C dX6_sell_61 rfl flX6_12 iq5 rfl rfl rfl rfl ?_
  refine zw_cV00 (nx := 67) C dX6_sell_64 rfl cvX6_139 rfl rfl ⟨Nat.le_of_ble_eq_true rfl, Nat.le_of_ble_eq_true rfl⟩ rfl rfl (Nat.le_of_ble_eq_true rfl) (run_X2_remember hs hs3) ?_
  refine zw_aload_n (i := 0) (nx := 68) C dX6_sell_67 rfl rfl rfl ?_
  refine zw_getr (nx := 71) C dX6_sell_68 rfl flX6_12 iq5 rfl rfl rfl rfl ?_
  refine zw_getr (nx := 74) C dX6_sell_71 rfl flX6_142 iq2 rfl rfl rfl rfl ?_
  refine zw_iload_n (i := 2) (nx := 75) C dX6_sell_74 rfl rfl rfl ?_
  refine zw_dup2 (nx := 76) C dX6_sell_75 rfl rfl rfl ?_
  refine zw_iald (p) (nx := 77) C dX6_sell_76 rfl rfl rfl rfl (by omega) ?_
  refine zw_iload_n (i := 3) (nx := 78) C dX6_sell_77 rfl rfl rfl ?_
  refine zw_isub (nx := 79) C dX6_sell_78 rfl ?_
  refine zw_iast (p) (nx := 80) C dX6_sell_79 rfl rfl rfl rfl (by omega) ?_
  refine zw_aload_n (i := 0) (nx := 81) C dX6_sell_80 rfl rfl rfl ?_
  refine zw_getr (nx := 84) C dX6_sell_81 rfl flX6_12 iq5 rfl rfl rfl rfl ?_
  refine zw_getr (nx := 87) C dX6_sell_84 rfl flX6_145 iq2 rfl rfl rfl rfl ?_
  refine zw_iload_n (i := 2) (nx := 88) C dX6_sell_87 rfl rfl rfl ?_
  refine zw_dup2 (nx := 89) C dX6_sell_88 rfl rfl rfl ?_
  refine zw_iald (p) (nx := 90) C dX6_sell_89 rfl rfl rfl rfl (by omega) ?_
  refine zw_iload_n (i := 3) (nx := 91) C dX6_sell_90 rfl rfl rfl ?_
  refine zw_iadd (nx := 92) C dX6_sell_91 rfl ?_
  refine zw_iast (p) (nx := 93) C dX6_sell_92 rfl rfl rfl rfl (by omega) ?_
  refine zw_aload_n (i := 0) (nx := 94) C dX6_sell_93 rfl rfl rfl ?_
  refine zw_getr (nx := 97) C dX6_sell_94 rfl flX6_12 iq5 rfl rfl rfl rfl ?_
  refine zw_getr (nx := 100) C dX6_sell_97 rfl flX6_148 iq2 rfl rfl rfl rfl ?_
  refine zw_iload_n (i := 2) (nx := 101) C dX6_sell_100 rfl rfl rfl ?_
  refine zw_iload_n (i := 1) (nx := 102) C dX6_sell_101 rfl rfl rfl ?_
  refine zw_iast (p) (nx := 103) C dX6_sell_102 rfl rfl rfl rfl (by omega) ?_
  refine zw_iload_n (i := 2) (nx := 104) C dX6_sell_103 rfl rfl rfl ?_
  exact zw_iret C hA hr hk dX6_sell_104 rfl rfl
theorem run_X6_undo_no (hs3 : ζ.1 1 11 = 0) : zRun l B mX6_undo [.ref 0] ζ (some (zi (-3))) (noS ζ) := by
  refine zrun_intro (M := mX6_undo) (ls := [some (.ref 0)]) (by decide) rfl rfl rfl (Nat.le_of_ble_eq_true rfl) ?_
  intro X A C hX hA hr hk
  replace C : CX X B A mX6_undo.2.2.2.2 RX6 cX6_undo 1 0 0 := C
  have hr : (xMeth X).sig.returnType = (some .int) := hr
  change ZW X B A 1 0 0 _ _ 0 [some (.ref 0)] []
  refine zw_aload_n (i := 0) (nx := 1) C dX6_undo_0 rfl rfl rfl ?_
  refine zw_getr (nx := 4) C dX6_undo_1 rfl flX6_12 iq5 rfl rfl rfl rfl ?_
  refine zw_geti (nx := 7) C dX6_undo_4 rfl flX6_88 iq2 rfl rfl rfl rfl ?_
  refine zw_if_gt (tgt := 15) (nx := 10) C dX6_undo_7 rfl rfl (by omega) (fun h7 => by exfalso; omega) (fun h7 => ?_)
  refine zw_aload_n (i := 0) (nx := 11) C dX6_undo_10 rfl rfl rfl ?_
  refine zw_cV01 (nx := 14) C dX6_undo_11 rfl cvX6_130 rfl rfl ⟨Nat.le_of_ble_eq_true rfl, Nat.le_of_ble_eq_true rfl⟩ rfl rfl (Nat.le_of_ble_eq_true rfl) run_X6_no ?_
  exact zw_iret C hA hr hk dX6_undo_14 rfl rfl
theorem run_X6_undo_ok {s n : Nat} (hs : s < 8) (hs3 : ζ.1 1 11 = s + 1) (hc : cOk (sbS ζ s) n) : zRun l B mX6_undo [.ref 0] ζ (some (zi (sFree (cV (sbS ζ s)) n))) (sbS ζ s) := by
  refine zrun_intro (M := mX6_undo) (ls := [some (.ref 0)]) (by decide) rfl rfl rfl (Nat.le_of_ble_eq_true rfl) ?_
  intro X A C hX hA hr hk
  replace C : CX X B A mX6_undo.2.2.2.2 RX6 cX6_undo 1 0 0 := C
  have hr : (xMeth X).sig.returnType = (some .int) := hr
  change ZW X B A 1 0 0 _ _ 0 [some (.ref 0)] []
  refine zw_aload_n (i := 0) (nx := 1) C dX6_undo_0 rfl rfl rfl ?_
  refine zw_getr (nx := 4) C dX6_undo_1 rfl flX6_12 iq5 rfl rfl rfl rfl ?_
  refine zw_geti (nx := 7) C dX6_undo_4 rfl flX6_88 iq2 rfl rfl rfl rfl ?_
  refine zw_if_gt (tgt := 15) (nx := 10) C dX6_undo_7 rfl rfl (by omega) (fun h7 => ?_) (fun h7 => by exfalso; omega)
  refine zw_aload_n (i := 0) (nx := 16) C dX6_undo_15 rfl rfl rfl ?_
  refine zw_getr (nx := 19) C dX6_undo_16 rfl flX6_12 iq5 rfl rfl rfl rfl ?_
  refine zw_cV00 (nx := 22) C dX6_undo_19 rfl cvX6_154 rfl rfl ⟨Nat.le_of_ble_eq_true rfl, Nat.le_of_ble_eq_true rfl⟩ rfl rfl (Nat.le_of_ble_eq_true rfl) (run_X2_stepBack hs hs3) ?_
  refine zw_aload_n (i := 0) (nx := 23) C dX6_undo_22 rfl rfl rfl ?_
  refine zw_getr (nx := 26) C dX6_undo_23 rfl flX6_12 iq5 rfl rfl rfl rfl ?_
  refine zw_cV01 (nx := 29) C dX6_undo_26 rfl cvX6_157 rfl rfl ⟨Nat.le_of_ble_eq_true rfl, Nat.le_of_ble_eq_true rfl⟩ rfl rfl (Nat.le_of_ble_eq_true rfl) (run_X2_freeYards hc) ?_
  exact zw_iret C hA hr hk dX6_undo_29 rfl rfl
end Pub1
