/-! the class's own small methods -/
section Help
variable {l : Launch} {B : eB} {ζ : zSt}
theorem run_X6_bad {v : Int} : zRun l B mX6_bad [.ref 0, zi v] ζ (some (zi v)) (zU ζ 0 9 (ζ.1 0 9 + 1)) := by
  refine zrun_intro (M := mX6_bad) (ls := [some (.ref 0), some (zi v)]) (by decide) rfl rfl rfl (Nat.le_of_ble_eq_true rfl) ?_
  intro X A C hX hA hr hk
  replace C : CX X B A mX6_bad.2.2.2.2 RX6 cX6_bad 2 0 0 := C
  have hr : (xMeth X).sig.returnType = (some .int) := hr
  change ZW X B A 2 0 0 _ _ 0 [some (.ref 0), some (zi v)] []
  refine zw_aload_n (i := 0) (nx := 1) C dX6_bad_0 rfl rfl rfl ?_
  refine zw_dup (nx := 2) C dX6_bad_1 rfl rfl ?_
  refine zw_geti (nx := 5) C dX6_bad_2 rfl flX6_58 iq5 rfl rfl rfl rfl ?_
  refine zw_iconst (nx := 6) C dX6_bad_5 rfl ?_
  refine zw_iadd (nx := 7) C dX6_bad_6 rfl ?_
  refine zw_puti (nx := 10) C dX6_bad_7 rfl flX6_58 ic5 nf5_9 rfl rfl rfl rfl rfl ?_
  refine zw_iload_n (i := 1) (nx := 11) C dX6_bad_10 rfl rfl rfl ?_
  exact zw_iret C hA hr hk dX6_bad_11 rfl rfl
theorem run_X6_no : zRun l B mX6_no [.ref 0] ζ (some (zi (-3))) (zU ζ 0 10 (ζ.1 0 10 + 1)) := by
  refine zrun_intro (M := mX6_no) (ls := [some (.ref 0)]) (by decide) rfl rfl rfl (Nat.le_of_ble_eq_true rfl) ?_
  intro X A C hX hA hr hk
  replace C : CX X B A mX6_no.2.2.2.2 RX6 cX6_no 1 0 0 := C
  have hr : (xMeth X).sig.returnType = (some .int) := hr
  change ZW X B A 1 0 0 _ _ 0 [some (.ref 0)] []
  refine zw_aload_n (i := 0) (nx := 1) C dX6_no_0 rfl rfl rfl ?_
  refine zw_dup (nx := 2) C dX6_no_1 rfl rfl ?_
  refine zw_geti (nx := 5) C dX6_no_2 rfl flX6_61 iq5 rfl rfl rfl rfl ?_
  refine zw_iconst (nx := 6) C dX6_no_5 rfl ?_
  refine zw_iadd (nx := 7) C dX6_no_6 rfl ?_
  refine zw_puti (nx := 10) C dX6_no_7 rfl flX6_61 ic5 nf5_10 rfl rfl rfl rfl rfl ?_
  refine zw_bipush (v := -3) (nx := 12) C dX6_no_10 (by decide) rfl ?_
  exact zw_iret C hA hr hk dX6_no_12 rfl rfl
theorem run_X6_full : zRun l B mX6_full [.ref 0] ζ (some (zi (-4))) (zU ζ 0 11 (ζ.1 0 11 + 1)) := by
  refine zrun_intro (M := mX6_full) (ls := [some (.ref 0)]) (by decide) rfl rfl rfl (Nat.le_of_ble_eq_true rfl) ?_
  intro X A C hX hA hr hk
  replace C : CX X B A mX6_full.2.2.2.2 RX6 cX6_full 1 0 0 := C
  have hr : (xMeth X).sig.returnType = (some .int) := hr
  change ZW X B A 1 0 0 _ _ 0 [some (.ref 0)] []
  refine zw_aload_n (i := 0) (nx := 1) C dX6_full_0 rfl rfl rfl ?_
  refine zw_dup (nx := 2) C dX6_full_1 rfl rfl ?_
  refine zw_geti (nx := 5) C dX6_full_2 rfl flX6_64 iq5 rfl rfl rfl rfl ?_
  refine zw_iconst (nx := 6) C dX6_full_5 rfl ?_
  refine zw_iadd (nx := 7) C dX6_full_6 rfl ?_
  refine zw_puti (nx := 10) C dX6_full_7 rfl flX6_64 ic5 nf5_11 rfl rfl rfl rfl rfl ?_
  refine zw_bipush (v := -4) (nx := 12) C dX6_full_10 (by decide) rfl ?_
  exact zw_iret C hA hr hk dX6_full_12 rfl rfl
theorem run_X6_isYard_t {y : Int} (h : 0 ≤ y ∧ y ≤ 7) : zRun l B mX6_isYard [zi y] ζ (some (zi 1)) ζ := by
  refine zrun_intro (M := mX6_isYard) (ls := [some (zi y)]) (by decide) rfl rfl rfl (Nat.le_of_ble_eq_true rfl) ?_
  intro X A C hX hA hr hk
  replace C : CX X B A mX6_isYard.2.2.2.2 RX6 cX6_isYard 1 0 0 := C
  have hr : (xMeth X).sig.returnType = (some .boolean) := hr
  change ZW X B A 1 0 0 _ _ 0 [some (zi y)] []
  refine zw_iload_n (i := 0) (nx := 1) C dX6_isYard_0 rfl rfl rfl ?_
  refine zw_if_lt (tgt := 14) (nx := 4) C dX6_isYard_1 rfl rfl (by omega) (fun h1 => by exfalso; omega) (fun h1 => ?_)
  refine zw_iload_n (i := 0) (nx := 5) C dX6_isYard_4 rfl rfl rfl ?_
  refine zw_bipush (v := 8) (nx := 7) C dX6_isYard_5 (by decide) rfl ?_
  refine zw_icmp_ge (tgt := 14) (nx := 10) C dX6_isYard_7 rfl rfl (by omega) (fun h7 => by exfalso; omega) (fun h7 => ?_)
  refine zw_iconst (nx := 11) C dX6_isYard_10 rfl ?_
  refine zw_goto (nx := 15) C dX6_isYard_11 rfl ?_
  exact zw_zret C hA hr hk dX6_isYard_15 rfl rfl rfl
theorem run_X6_isYard_f {y : Int} (hy : -2147483648 ≤ y ∧ y ≤ 2147483647) (h : ¬ (0 ≤ y ∧ y ≤ 7)) : zRun l B mX6_isYard [zi y] ζ (some (zi 0)) ζ := by
  refine zrun_intro (M := mX6_isYard) (ls := [some (zi y)]) (by decide) rfl rfl rfl (Nat.le_of_ble_eq_true rfl) ?_
  intro X A C hX hA hr hk
  replace C : CX X B A mX6_isYard.2.2.2.2 RX6 cX6_isYard 1 0 0 := C
  have hr : (xMeth X).sig.returnType = (some .boolean) := hr
  change ZW X B A 1 0 0 _ _ 0 [some (zi y)] []
  refine zw_iload_n (i := 0) (nx := 1) C dX6_isYard_0 rfl rfl rfl ?_
  refine zw_if_lt (tgt := 14) (nx := 4) C dX6_isYard_1 rfl rfl (by omega) (fun h1 => ?_) (fun h1 => ?_)
  · refine zw_iconst (nx := 15) C dX6_isYard_14 rfl ?_
    exact zw_zret C hA hr hk dX6_isYard_15 rfl rfl rfl
  · refine zw_iload_n (i := 0) (nx := 5) C dX6_isYard_4 rfl rfl rfl ?_
    refine zw_bipush (v := 8) (nx := 7) C dX6_isYard_5 (by decide) rfl ?_
    refine zw_icmp_ge (tgt := 14) (nx := 10) C dX6_isYard_7 rfl rfl (by omega) (fun h7 => ?_) (fun h7 => by exfalso; omega)
    refine zw_iconst (nx := 15) C dX6_isYard_14 rfl ?_
    exact zw_zret C hA hr hk dX6_isYard_15 rfl rfl rfl
theorem run_X6_within_t {a b : Int} (hb : 0 ≤ b ∧ b ≤ 2147483647) (h : 0 ≤ a ∧ a ≤ b) : zRun l B mX6_within [zi a, zi b] ζ (some (zi 1)) ζ := by
  refine zrun_intro (M := mX6_within) (ls := [some (zi a), some (zi b)]) (by decide) rfl rfl rfl (Nat.le_of_ble_eq_true rfl) ?_
  intro X A C hX hA hr hk
  replace C : CX X B A mX6_within.2.2.2.2 RX6 cX6_within 2 0 0 := C
  have hr : (xMeth X).sig.returnType = (some .boolean) := hr
  change ZW X B A 2 0 0 _ _ 0 [some (zi a), some (zi b)] []
  refine zw_iload_n (i := 0) (nx := 1) C dX6_within_0 rfl rfl rfl ?_
  refine zw_if_lt (tgt := 13) (nx := 4) C dX6_within_1 rfl rfl (by omega) (fun h1 => by exfalso; omega) (fun h1 => ?_)
  refine zw_iload_n (i := 0) (nx := 5) C dX6_within_4 rfl rfl rfl ?_
  refine zw_iload_n (i := 1) (nx := 6) C dX6_within_5 rfl rfl rfl ?_
  refine zw_icmp_gt (tgt := 13) (nx := 9) C dX6_within_6 rfl rfl (by omega) (fun h6 => by exfalso; omega) (fun h6 => ?_)
  refine zw_iconst (nx := 10) C dX6_within_9 rfl ?_
  refine zw_goto (nx := 14) C dX6_within_10 rfl ?_
  exact zw_zret C hA hr hk dX6_within_14 rfl rfl rfl
theorem run_X6_within_f {a b : Int} (ha : -2147483648 ≤ a ∧ a ≤ 2147483647) (hb : 0 ≤ b ∧ b ≤ 2147483647) (h : ¬ (0 ≤ a ∧ a ≤ b)) : zRun l B mX6_within [zi a, zi b] ζ (some (zi 0)) ζ := by
  refine zrun_intro (M := mX6_within) (ls := [some (zi a), some (zi b)]) (by decide) rfl rfl rfl (Nat.le_of_ble_eq_true rfl) ?_
  intro X A C hX hA hr hk
  replace C : CX X B A mX6_within.2.2.2.2 RX6 cX6_within 2 0 0 := C
  have hr : (xMeth X).sig.returnType = (some .boolean) := hr
  change ZW X B A 2 0 0 _ _ 0 [some (zi a), some (zi b)] []
  refine zw_iload_n (i := 0) (nx := 1) C dX6_within_0 rfl rfl rfl ?_
  refine zw_if_lt (tgt := 13) (nx := 4) C dX6_within_1 rfl rfl (by omega) (fun h1 => ?_) (fun h1 => ?_)
  · refine zw_iconst (nx := 14) C dX6_within_13 rfl ?_
    exact zw_zret C hA hr hk dX6_within_14 rfl rfl rfl
  · refine zw_iload_n (i := 0) (nx := 5) C dX6_within_4 rfl rfl rfl ?_
    refine zw_iload_n (i := 1) (nx := 6) C dX6_within_5 rfl rfl rfl ?_
    refine zw_icmp_gt (tgt := 13) (nx := 9) C dX6_within_6 rfl rfl (by omega) (fun h6 => ?_) (fun h6 => by exfalso; omega)
    refine zw_iconst (nx := 14) C dX6_within_13 rfl ?_
    exact zw_zret C hA hr hk dX6_within_14 rfl rfl rfl
theorem run_X6_isTrack_t {t d : Int} (h : 0 ≤ t ∧ t ≤ 7) (hd : 0 ≤ d ∧ d ≤ 240) : zRun l B mX6_isTrack [zi t, zi d] ζ (some (zi 1)) ζ := by
  refine zrun_intro (M := mX6_isTrack) (ls := [some (zi t), some (zi d)]) (by decide) rfl rfl rfl (Nat.le_of_ble_eq_true rfl) ?_
  intro X A C hX hA hr hk
  replace C : CX X B A mX6_isTrack.2.2.2.2 RX6 cX6_isTrack 2 0 0 := C
  have hr : (xMeth X).sig.returnType = (some .boolean) := hr
  change ZW X B A 2 0 0 _ _ 0 [some (zi t), some (zi d)] []
  refine zw_iload_n (i := 0) (nx := 1) C dX6_isTrack_0 rfl rfl rfl ?_
  refine zw_cS11 (nx := 4) C dX6_isTrack_1 rfl csX6_91 ⟨Nat.le_of_ble_eq_true rfl, Nat.le_of_ble_eq_true rfl⟩ (Nat.le_of_ble_eq_true rfl) (run_X6_isYard_t h) ?_
  refine zw_if_eq (tgt := 21) (nx := 7) C dX6_isTrack_4 rfl rfl (by omega) (fun h4 => by exfalso; omega) (fun h4 => ?_)
  refine zw_iload_n (i := 1) (nx := 8) C dX6_isTrack_7 rfl rfl rfl ?_
  refine zw_sipush (v := 240) (nx := 11) C dX6_isTrack_8 (by decide) rfl ?_
  refine zw_cS21 (nx := 14) C dX6_isTrack_11 rfl csX6_95 ⟨Nat.le_of_ble_eq_true rfl, Nat.le_of_ble_eq_true rfl⟩ (Nat.le_of_ble_eq_true rfl) (run_X6_within_t (by omega) hd) ?_
  refine zw_if_eq (tgt := 21) (nx := 17) C dX6_isTrack_14 rfl rfl (by omega) (fun h14 => by exfalso; omega) (fun h14 => ?_)
  refine zw_iconst (nx := 18) C dX6_isTrack_17 rfl ?_
  refine zw_goto (nx := 22) C dX6_isTrack_18 rfl ?_
  exact zw_zret C hA hr hk dX6_isTrack_22 rfl rfl rfl
theorem run_X6_isTrack_f {t d : Int} (ht : -2147483648 ≤ t ∧ t ≤ 2147483647) (hd : -2147483648 ≤ d ∧ d ≤ 2147483647) (h : ¬ ((0 ≤ t ∧ t ≤ 7) ∧ (0 ≤ d ∧ d ≤ 240))) : zRun l B mX6_isTrack [zi t, zi d] ζ (some (zi 0)) ζ := by
  refine zrun_intro (M := mX6_isTrack) (ls := [some (zi t), some (zi d)]) (by decide) rfl rfl rfl (Nat.le_of_ble_eq_true rfl) ?_
  intro X A C hX hA hr hk
  replace C : CX X B A mX6_isTrack.2.2.2.2 RX6 cX6_isTrack 2 0 0 := C
  have hr : (xMeth X).sig.returnType = (some .boolean) := hr
  change ZW X B A 2 0 0 _ _ 0 [some (zi t), some (zi d)] []
  by_cases h1 : 0 ≤ t ∧ t ≤ 7
  · refine zw_iload_n (i := 0) (nx := 1) C dX6_isTrack_0 rfl rfl rfl ?_
    refine zw_cS11 (nx := 4) C dX6_isTrack_1 rfl csX6_91 ⟨Nat.le_of_ble_eq_true rfl, Nat.le_of_ble_eq_true rfl⟩ (Nat.le_of_ble_eq_true rfl) (run_X6_isYard_t h1) ?_
    refine zw_if_eq (tgt := 21) (nx := 7) C dX6_isTrack_4 rfl rfl (by omega) (fun h4 => by exfalso; omega) (fun h4 => ?_)
    refine zw_iload_n (i := 1) (nx := 8) C dX6_isTrack_7 rfl rfl rfl ?_
    refine zw_sipush (v := 240) (nx := 11) C dX6_isTrack_8 (by decide) rfl ?_
    refine zw_cS21 (nx := 14) C dX6_isTrack_11 rfl csX6_95 ⟨Nat.le_of_ble_eq_true rfl, Nat.le_of_ble_eq_true rfl⟩ (Nat.le_of_ble_eq_true rfl) (run_X6_within_f hd (by omega) (fun q => h ⟨h1, q⟩)) ?_
    refine zw_if_eq (tgt := 21) (nx := 17) C dX6_isTrack_14 rfl rfl (by omega) (fun h14 => ?_) (fun h14 => by exfalso; omega)
    refine zw_iconst (nx := 22) C dX6_isTrack_21 rfl ?_
    exact zw_zret C hA hr hk dX6_isTrack_22 rfl rfl rfl
  · refine zw_iload_n (i := 0) (nx := 1) C dX6_isTrack_0 rfl rfl rfl ?_
    refine zw_cS11 (nx := 4) C dX6_isTrack_1 rfl csX6_91 ⟨Nat.le_of_ble_eq_true rfl, Nat.le_of_ble_eq_true rfl⟩ (Nat.le_of_ble_eq_true rfl) (run_X6_isYard_f ht h1) ?_
    refine zw_if_eq (tgt := 21) (nx := 7) C dX6_isTrack_4 rfl rfl (by omega) (fun h4 => ?_) (fun h4 => by exfalso; omega)
    refine zw_iconst (nx := 22) C dX6_isTrack_21 rfl ?_
    exact zw_zret C hA hr hk dX6_isTrack_22 rfl rfl rfl
theorem run_X6_isBidder_t {n : Nat} (hn : n ≤ 5) (hn3 : ζ.1 1 3 = n) {p : Int} (h : 0 ≤ p ∧ p < n) : zRun l B mX6_isBidder [.ref 0, zi p] ζ (some (zi 1)) ζ := by
  refine zrun_intro (M := mX6_isBidder) (ls := [some (.ref 0), some (zi p)]) (by decide) rfl rfl rfl (Nat.le_of_ble_eq_true rfl) ?_
  intro X A C hX hA hr hk
  replace C : CX X B A mX6_isBidder.2.2.2.2 RX6 cX6_isBidder 2 0 0 := C
  have hr : (xMeth X).sig.returnType = (some .boolean) := hr
  change ZW X B A 2 0 0 _ _ 0 [some (.ref 0), some (zi p)] []
  refine zw_iload_n (i := 1) (nx := 1) C dX6_isBidder_0 rfl rfl rfl ?_
  refine zw_if_lt (tgt := 19) (nx := 4) C dX6_isBidder_1 rfl rfl (by omega) (fun h1 => by exfalso; omega) (fun h1 => ?_)
  refine zw_iload_n (i := 1) (nx := 5) C dX6_isBidder_4 rfl rfl rfl ?_
  refine zw_aload_n (i := 0) (nx := 6) C dX6_isBidder_5 rfl rfl rfl ?_
  refine zw_getr (nx := 9) C dX6_isBidder_6 rfl flX6_12 iq5 rfl rfl rfl rfl ?_
  refine zw_geti (nx := 12) C dX6_isBidder_9 rfl flX6_75 iq2 rfl rfl rfl rfl ?_
  refine zw_icmp_ge (tgt := 19) (nx := 15) C dX6_isBidder_12 rfl rfl (by omega) (fun h12 => by exfalso; omega) (fun h12 => ?_)
  refine zw_iconst (nx := 16) C dX6_isBidder_15 rfl ?_
  refine zw_goto (nx := 20) C dX6_isBidder_16 rfl ?_
  exact zw_zret C hA hr hk dX6_isBidder_20 rfl rfl rfl
theorem run_X6_isBidder_f {n : Nat} (hn : n ≤ 5) (hn3 : ζ.1 1 3 = n) {p : Int} (hp : -2147483648 ≤ p ∧ p ≤ 2147483647) (h : ¬ (0 ≤ p ∧ p < n)) : zRun l B mX6_isBidder [.ref 0, zi p] ζ (some (zi 0)) ζ := by
  refine zrun_intro (M := mX6_isBidder) (ls := [some (.ref 0), some (zi p)]) (by decide) rfl rfl rfl (Nat.le_of_ble_eq_true rfl) ?_
  intro X A C hX hA hr hk
  replace C : CX X B A mX6_isBidder.2.2.2.2 RX6 cX6_isBidder 2 0 0 := C
  have hr : (xMeth X).sig.returnType = (some .boolean) := hr
  change ZW X B A 2 0 0 _ _ 0 [some (.ref 0), some (zi p)] []
  refine zw_iload_n (i := 1) (nx := 1) C dX6_isBidder_0 rfl rfl rfl ?_
  refine zw_if_lt (tgt := 19) (nx := 4) C dX6_isBidder_1 rfl rfl (by omega) (fun h1 => ?_) (fun h1 => ?_)
  · refine zw_iconst (nx := 20) C dX6_isBidder_19 rfl ?_
    exact zw_zret C hA hr hk dX6_isBidder_20 rfl rfl rfl
  · refine zw_iload_n (i := 1) (nx := 5) C dX6_isBidder_4 rfl rfl rfl ?_
    refine zw_aload_n (i := 0) (nx := 6) C dX6_isBidder_5 rfl rfl rfl ?_
    refine zw_getr (nx := 9) C dX6_isBidder_6 rfl flX6_12 iq5 rfl rfl rfl rfl ?_
    refine zw_geti (nx := 12) C dX6_isBidder_9 rfl flX6_75 iq2 rfl rfl rfl rfl ?_
    refine zw_icmp_ge (tgt := 19) (nx := 15) C dX6_isBidder_12 rfl rfl (by omega) (fun h12 => ?_) (fun h12 => by exfalso; omega)
    refine zw_iconst (nx := 20) C dX6_isBidder_19 rfl ?_
    exact zw_zret C hA hr hk dX6_isBidder_20 rfl rfl rfl
end Help
