/-! the reference's reads -/
def mV (ζ : zSt) (a b : Nat) : Int := match a with
  | 0 => (match b with | 0 => ζ.1 52 2 | _ => ζ.1 52 3)
  | 1 => ζ.1 54 b
  | 2 => ζ.1 55 b
  | 3 => ζ.1 56 b
  | 4 => ζ.1 57 b
  | _ => ζ.1 58 b
def mOk (ζ : zSt) (n : Nat) : Prop := vOk (mV ζ) n ∧ ζ.1 52 1 = n
section Model1
variable {l : Launch} {B : eB} {ζ : zSt}
theorem run_X7_bad : zRun l B mX7_bad [.ref 52] ζ (some (zi (-2))) (zU ζ 53 0 (ζ.1 53 0 + 1)) := by
  refine zrun_intro (M := mX7_bad) (ls := [some (.ref 52)]) (by decide) rfl rfl rfl (Nat.le_of_ble_eq_true rfl) ?_
  intro X A C hX hA hr hk
  replace C : CX X B A mX7_bad.2.2.2.2 RX7 cX7_bad 1 0 0 := C
  have hr : (xMeth X).sig.returnType = (some .int) := hr
  change ZW X B A 1 0 0 _ _ 0 [some (.ref 52)] []
  refine zw_aload_n (i := 0) (nx := 1) C dX7_bad_0 rfl rfl rfl ?_
  refine zw_getr (nx := 4) C dX7_bad_1 rfl flX7_1 iq6 rfl rfl rfl rfl ?_
  refine zw_iconst (nx := 5) C dX7_bad_4 rfl ?_
  refine zw_dup2 (nx := 6) C dX7_bad_5 rfl rfl rfl ?_
  refine zw_iald (0) (nx := 7) C dX7_bad_6 rfl rfl rfl rfl (by omega) ?_
  refine zw_iconst (nx := 8) C dX7_bad_7 rfl ?_
  refine zw_iadd (nx := 9) C dX7_bad_8 rfl ?_
  refine zw_iast (0) (nx := 10) C dX7_bad_9 rfl rfl rfl rfl (by omega) ?_
  refine zw_bipush (v := -2) (nx := 12) C dX7_bad_10 (by decide) rfl ?_
  exact zw_iret C hA hr hk dX7_bad_12 rfl rfl
theorem run_X7_ten : zRun l B mX7_ten [.ref 52] ζ (some (zi (-10))) (zU ζ 53 0 (ζ.1 53 0 + 1)) := by
  refine zrun_intro (M := mX7_ten) (ls := [some (.ref 52)]) (by decide) rfl rfl rfl (Nat.le_of_ble_eq_true rfl) ?_
  intro X A C hX hA hr hk
  replace C : CX X B A mX7_ten.2.2.2.2 RX7 cX7_ten 1 0 0 := C
  have hr : (xMeth X).sig.returnType = (some .int) := hr
  change ZW X B A 1 0 0 _ _ 0 [some (.ref 52)] []
  refine zw_aload_n (i := 0) (nx := 1) C dX7_ten_0 rfl rfl rfl ?_
  refine zw_getr (nx := 4) C dX7_ten_1 rfl flX7_1 iq6 rfl rfl rfl rfl ?_
  refine zw_iconst (nx := 5) C dX7_ten_4 rfl ?_
  refine zw_dup2 (nx := 6) C dX7_ten_5 rfl rfl rfl ?_
  refine zw_iald (0) (nx := 7) C dX7_ten_6 rfl rfl rfl rfl (by omega) ?_
  refine zw_iconst (nx := 8) C dX7_ten_7 rfl ?_
  refine zw_iadd (nx := 9) C dX7_ten_8 rfl ?_
  refine zw_iast (0) (nx := 10) C dX7_ten_9 rfl rfl rfl rfl (by omega) ?_
  refine zw_bipush (v := -10) (nx := 12) C dX7_ten_10 (by decide) rfl ?_
  exact zw_iret C hA hr hk dX7_ten_12 rfl rfl
theorem run_X7_no : zRun l B mX7_no [.ref 52] ζ (some (zi (-3))) (zU ζ 53 1 (ζ.1 53 1 + 1)) := by
  refine zrun_intro (M := mX7_no) (ls := [some (.ref 52)]) (by decide) rfl rfl rfl (Nat.le_of_ble_eq_true rfl) ?_
  intro X A C hX hA hr hk
  replace C : CX X B A mX7_no.2.2.2.2 RX7 cX7_no 1 0 0 := C
  have hr : (xMeth X).sig.returnType = (some .int) := hr
  change ZW X B A 1 0 0 _ _ 0 [some (.ref 52)] []
  refine zw_aload_n (i := 0) (nx := 1) C dX7_no_0 rfl rfl rfl ?_
  refine zw_getr (nx := 4) C dX7_no_1 rfl flX7_1 iq6 rfl rfl rfl rfl ?_
  refine zw_iconst (nx := 5) C dX7_no_4 rfl ?_
  refine zw_dup2 (nx := 6) C dX7_no_5 rfl rfl rfl ?_
  refine zw_iald (1) (nx := 7) C dX7_no_6 rfl rfl rfl rfl (by omega) ?_
  refine zw_iconst (nx := 8) C dX7_no_7 rfl ?_
  refine zw_iadd (nx := 9) C dX7_no_8 rfl ?_
  refine zw_iast (1) (nx := 10) C dX7_no_9 rfl rfl rfl rfl (by omega) ?_
  refine zw_bipush (v := -3) (nx := 12) C dX7_no_10 (by decide) rfl ?_
  exact zw_iret C hA hr hk dX7_no_12 rfl rfl
theorem run_X7_full : zRun l B mX7_full [.ref 52] ζ (some (zi (-4))) (zU ζ 53 2 (ζ.1 53 2 + 1)) := by
  refine zrun_intro (M := mX7_full) (ls := [some (.ref 52)]) (by decide) rfl rfl rfl (Nat.le_of_ble_eq_true rfl) ?_
  intro X A C hX hA hr hk
  replace C : CX X B A mX7_full.2.2.2.2 RX7 cX7_full 1 0 0 := C
  have hr : (xMeth X).sig.returnType = (some .int) := hr
  change ZW X B A 1 0 0 _ _ 0 [some (.ref 52)] []
  refine zw_aload_n (i := 0) (nx := 1) C dX7_full_0 rfl rfl rfl ?_
  refine zw_getr (nx := 4) C dX7_full_1 rfl flX7_1 iq6 rfl rfl rfl rfl ?_
  refine zw_iconst (nx := 5) C dX7_full_4 rfl ?_
  refine zw_dup2 (nx := 6) C dX7_full_5 rfl rfl rfl ?_
  refine zw_iald (2) (nx := 7) C dX7_full_6 rfl rfl rfl rfl (by omega) ?_
  refine zw_iconst (nx := 8) C dX7_full_7 rfl ?_
  refine zw_iadd (nx := 9) C dX7_full_8 rfl ?_
  refine zw_iast (2) (nx := 10) C dX7_full_9 rfl rfl rfl rfl (by omega) ?_
  refine zw_bipush (v := -4) (nx := 12) C dX7_full_10 (by decide) rfl ?_
  exact zw_iret C hA hr hk dX7_full_12 rfl rfl
theorem run_X7_in_t {v a b : Int} (hv : -2147483648 ≤ v ∧ v ≤ 2147483647) (hab : (-2147483648 ≤ a ∧ a ≤ 2147483647) ∧ (-2147483648 ≤ b ∧ b ≤ 2147483647)) (h : a ≤ v ∧ v ≤ b) : zRun l B mX7_in [zi v, zi a, zi b] ζ (some (zi 1)) ζ := by
  refine zrun_intro (M := mX7_in) (ls := [some (zi v), some (zi a), some (zi b)]) (by decide) rfl rfl rfl (Nat.le_of_ble_eq_true rfl) ?_
  intro X A C hX hA hr hk
  replace C : CX X B A mX7_in.2.2.2.2 RX7 cX7_in 3 0 0 := C
  have hr : (xMeth X).sig.returnType = (some .boolean) := hr
  change ZW X B A 3 0 0 _ _ 0 [some (zi v), some (zi a), some (zi b)] []
  refine zw_iload_n (i := 0) (nx := 1) C dX7_in_0 rfl rfl rfl ?_
  refine zw_iload_n (i := 1) (nx := 2) C dX7_in_1 rfl rfl rfl ?_
  refine zw_icmp_lt (tgt := 14) (nx := 5) C dX7_in_2 rfl rfl (by omega) (fun h2 => by exfalso; omega) (fun h2 => ?_)
  refine zw_iload_n (i := 0) (nx := 6) C dX7_in_5 rfl rfl rfl ?_
  refine zw_iload_n (i := 2) (nx := 7) C dX7_in_6 rfl rfl rfl ?_
  refine zw_icmp_gt (tgt := 14) (nx := 10) C dX7_in_7 rfl rfl (by omega) (fun h7 => by exfalso; omega) (fun h7 => ?_)
  refine zw_iconst (nx := 11) C dX7_in_10 rfl ?_
  refine zw_goto (nx := 15) C dX7_in_11 rfl ?_
  exact zw_zret C hA hr hk dX7_in_15 rfl rfl rfl
theorem run_X7_in_f {v a b : Int} (hv : -2147483648 ≤ v ∧ v ≤ 2147483647) (hab : (-2147483648 ≤ a ∧ a ≤ 2147483647) ∧ (-2147483648 ≤ b ∧ b ≤ 2147483647)) (h : ¬ (a ≤ v ∧ v ≤ b)) : zRun l B mX7_in [zi v, zi a, zi b] ζ (some (zi 0)) ζ := by
  refine zrun_intro (M := mX7_in) (ls := [some (zi v), some (zi a), some (zi b)]) (by decide) rfl rfl rfl (Nat.le_of_ble_eq_true rfl) ?_
  intro X A C hX hA hr hk
  replace C : CX X B A mX7_in.2.2.2.2 RX7 cX7_in 3 0 0 := C
  have hr : (xMeth X).sig.returnType = (some .boolean) := hr
  change ZW X B A 3 0 0 _ _ 0 [some (zi v), some (zi a), some (zi b)] []
  refine zw_iload_n (i := 0) (nx := 1) C dX7_in_0 rfl rfl rfl ?_
  refine zw_iload_n (i := 1) (nx := 2) C dX7_in_1 rfl rfl rfl ?_
  refine zw_icmp_lt (tgt := 14) (nx := 5) C dX7_in_2 rfl rfl (by omega) (fun h2 => ?_) (fun h2 => ?_)
  · refine zw_iconst (nx := 15) C dX7_in_14 rfl ?_
    exact zw_zret C hA hr hk dX7_in_15 rfl rfl rfl
  · refine zw_iload_n (i := 0) (nx := 6) C dX7_in_5 rfl rfl rfl ?_
    refine zw_iload_n (i := 2) (nx := 7) C dX7_in_6 rfl rfl rfl ?_
    refine zw_icmp_gt (tgt := 14) (nx := 10) C dX7_in_7 rfl rfl (by omega) (fun h7 => ?_) (fun h7 => by exfalso; omega)
    refine zw_iconst (nx := 15) C dX7_in_14 rfl ?_
    exact zw_zret C hA hr hk dX7_in_15 rfl rfl rfl
theorem run_X7_isYard_t {y : Int} (h : 0 ≤ y ∧ y ≤ 7) : zRun l B mX7_isYard [zi y] ζ (some (zi 1)) ζ := by
  refine zrun_intro (M := mX7_isYard) (ls := [some (zi y)]) (by decide) rfl rfl rfl (Nat.le_of_ble_eq_true rfl) ?_
  intro X A C hX hA hr hk
  replace C : CX X B A mX7_isYard.2.2.2.2 RX7 cX7_isYard 1 0 0 := C
  have hr : (xMeth X).sig.returnType = (some .boolean) := hr
  change ZW X B A 1 0 0 _ _ 0 [some (zi y)] []
  refine zw_iload_n (i := 0) (nx := 1) C dX7_isYard_0 rfl rfl rfl ?_
  refine zw_iconst (nx := 2) C dX7_isYard_1 rfl ?_
  refine zw_bipush (v := 7) (nx := 4) C dX7_isYard_2 (by decide) rfl ?_
  refine zw_cS31 (nx := 7) C dX7_isYard_4 rfl csX7_88 ⟨Nat.le_of_ble_eq_true rfl, Nat.le_of_ble_eq_true rfl⟩ (Nat.le_of_ble_eq_true rfl) (run_X7_in_t (by omega) (by omega) h) ?_
  exact zw_zret C hA hr hk dX7_isYard_7 rfl rfl rfl
theorem run_X7_isYard_f {y : Int} (hy : -2147483648 ≤ y ∧ y ≤ 2147483647) (h : ¬ (0 ≤ y ∧ y ≤ 7)) : zRun l B mX7_isYard [zi y] ζ (some (zi 0)) ζ := by
  refine zrun_intro (M := mX7_isYard) (ls := [some (zi y)]) (by decide) rfl rfl rfl (Nat.le_of_ble_eq_true rfl) ?_
  intro X A C hX hA hr hk
  replace C : CX X B A mX7_isYard.2.2.2.2 RX7 cX7_isYard 1 0 0 := C
  have hr : (xMeth X).sig.returnType = (some .boolean) := hr
  change ZW X B A 1 0 0 _ _ 0 [some (zi y)] []
  refine zw_iload_n (i := 0) (nx := 1) C dX7_isYard_0 rfl rfl rfl ?_
  refine zw_iconst (nx := 2) C dX7_isYard_1 rfl ?_
  refine zw_bipush (v := 7) (nx := 4) C dX7_isYard_2 (by decide) rfl ?_
  refine zw_cS31 (nx := 7) C dX7_isYard_4 rfl csX7_88 ⟨Nat.le_of_ble_eq_true rfl, Nat.le_of_ble_eq_true rfl⟩ (Nat.le_of_ble_eq_true rfl) (run_X7_in_f hy (by omega) h) ?_
  exact zw_zret C hA hr hk dX7_isYard_7 rfl rfl rfl
theorem run_X7_isOne_t {n : Nat} (hn : n ≤ 5) (hn3 : ζ.1 52 1 = n) {p : Int} (h : 0 ≤ p ∧ p < n) : zRun l B mX7_isOne [.ref 52, zi p] ζ (some (zi 1)) ζ := by
  refine zrun_intro (M := mX7_isOne) (ls := [some (.ref 52), some (zi p)]) (by decide) rfl rfl rfl (Nat.le_of_ble_eq_true rfl) ?_
  intro X A C hX hA hr hk
  replace C : CX X B A mX7_isOne.2.2.2.2 RX7 cX7_isOne 2 0 0 := C
  have hr : (xMeth X).sig.returnType = (some .boolean) := hr
  change ZW X B A 2 0 0 _ _ 0 [some (.ref 52), some (zi p)] []
  refine zw_iload_n (i := 1) (nx := 1) C dX7_isOne_0 rfl rfl rfl ?_
  refine zw_iconst (nx := 2) C dX7_isOne_1 rfl ?_
  refine zw_aload_n (i := 0) (nx := 3) C dX7_isOne_2 rfl rfl rfl ?_
  refine zw_geti (nx := 6) C dX7_isOne_3 rfl flX7_79 iq6 rfl rfl rfl rfl ?_
  refine zw_iconst (nx := 7) C dX7_isOne_6 rfl ?_
  refine zw_isub (nx := 8) C dX7_isOne_7 rfl ?_
  refine zw_cS31 (nx := 11) C dX7_isOne_8 rfl csX7_88 ⟨Nat.le_of_ble_eq_true rfl, Nat.le_of_ble_eq_true rfl⟩ (Nat.le_of_ble_eq_true rfl) (run_X7_in_t (by omega) (by omega) (by omega)) ?_
  exact zw_zret C hA hr hk dX7_isOne_11 rfl rfl rfl
theorem run_X7_isOne_f {n : Nat} (hn : n ≤ 5) (hn3 : ζ.1 52 1 = n) {p : Int} (hp : -2147483648 ≤ p ∧ p ≤ 2147483647) (h : ¬ (0 ≤ p ∧ p < n)) : zRun l B mX7_isOne [.ref 52, zi p] ζ (some (zi 0)) ζ := by
  refine zrun_intro (M := mX7_isOne) (ls := [some (.ref 52), some (zi p)]) (by decide) rfl rfl rfl (Nat.le_of_ble_eq_true rfl) ?_
  intro X A C hX hA hr hk
  replace C : CX X B A mX7_isOne.2.2.2.2 RX7 cX7_isOne 2 0 0 := C
  have hr : (xMeth X).sig.returnType = (some .boolean) := hr
  change ZW X B A 2 0 0 _ _ 0 [some (.ref 52), some (zi p)] []
  refine zw_iload_n (i := 1) (nx := 1) C dX7_isOne_0 rfl rfl rfl ?_
  refine zw_iconst (nx := 2) C dX7_isOne_1 rfl ?_
  refine zw_aload_n (i := 0) (nx := 3) C dX7_isOne_2 rfl rfl rfl ?_
  refine zw_geti (nx := 6) C dX7_isOne_3 rfl flX7_79 iq6 rfl rfl rfl rfl ?_
  refine zw_iconst (nx := 7) C dX7_isOne_6 rfl ?_
  refine zw_isub (nx := 8) C dX7_isOne_7 rfl ?_
  refine zw_cS31 (nx := 11) C dX7_isOne_8 rfl csX7_88 ⟨Nat.le_of_ble_eq_true rfl, Nat.le_of_ble_eq_true rfl⟩ (Nat.le_of_ble_eq_true rfl) (run_X7_in_f hp (by omega) (by omega)) ?_
  exact zw_zret C hA hr hk dX7_isOne_11 rfl rfl rfl
theorem run_X7_lesser {a b : Int} (h : (-2147483648 ≤ a ∧ a ≤ 2147483647) ∧ (-2147483648 ≤ b ∧ b ≤ 2147483647)) : zRun l B mX7_lesser [zi a, zi b] ζ (some (zi (if a < b then a else b))) ζ := by
  refine zrun_intro (M := mX7_lesser) (ls := [some (zi a), some (zi b)]) (by decide) rfl rfl rfl (Nat.le_of_ble_eq_true rfl) ?_
  intro X A C hX hA hr hk
  replace C : CX X B A mX7_lesser.2.2.2.2 RX7 cX7_lesser 2 0 0 := C
  have hr : (xMeth X).sig.returnType = (some .int) := hr
  change ZW X B A 2 0 0 _ _ 0 [some (zi a), some (zi b)] []
  refine zw_iload_n (i := 0) (nx := 1) C dX7_lesser_0 rfl rfl rfl ?_
  refine zw_iload_n (i := 1) (nx := 2) C dX7_lesser_1 rfl rfl rfl ?_
  refine zw_icmp_ge (tgt := 9) (nx := 5) C dX7_lesser_2 rfl rfl (by omega) (fun h2 => ?_) (fun h2 => ?_)
  · refine zw_iload_n (i := 1) (nx := 10) C dX7_lesser_9 rfl rfl rfl ?_
    exact zw_iret C hA hr hk dX7_lesser_10 (zr (if_neg (by omega))) rfl
  · refine zw_iload_n (i := 0) (nx := 6) C dX7_lesser_5 rfl rfl rfl ?_
    refine zw_goto (nx := 10) C dX7_lesser_6 rfl ?_
    exact zw_iret C hA hr hk dX7_lesser_10 (zr (if_pos h2)) rfl
theorem run_X7_worthBy {k s h : Int} (hk0 : 0 ≤ k ∧ k ≤ 5) (hs : 0 ≤ s ∧ s ≤ 240) (hh : 0 ≤ h ∧ h ≤ 9) : zRun l B mX7_worthBy [zi k, zi s, zi h] ζ (some (zi (sWo k s h))) ζ := by
  rcases (show k = 0 ∨ k = 1 ∨ k = 2 ∨ k = 3 ∨ k = 4 ∨ k = 5 by omega) with rfl | rfl | rfl | rfl | rfl | rfl
  · refine zrun_intro (M := mX7_worthBy) (ls := [some (zi 0), some (zi s), some (zi h)]) (by decide) rfl rfl rfl (Nat.le_of_ble_eq_true rfl) ?_
    intro X A C hX hA hr hk
    replace C : CX X B A mX7_worthBy.2.2.2.2 RX7 cX7_worthBy 3 0 0 := C
    have hr : (xMeth X).sig.returnType = (some .int) := hr
    change ZW X B A 3 0 0 _ _ 0 [some (zi 0), some (zi s), some (zi h)] []
    refine zw_iload_n (i := 0) (nx := 1) C dX7_worthBy_0 rfl rfl rfl ?_
    refine zw_tableOut (nx := 70) C dX7_worthBy_1 (by omega) (by omega) rfl ?_
    refine zw_iload_n (i := 1) (nx := 71) C dX7_worthBy_70 rfl rfl rfl ?_
    exact zw_iret C hA hr hk dX7_worthBy_71 (by simp [sWo]) rfl
  · refine zrun_intro (M := mX7_worthBy) (ls := [some (zi 1), some (zi s), some (zi h)]) (by decide) rfl rfl rfl (Nat.le_of_ble_eq_true rfl) ?_
    intro X A C hX hA hr hk
    replace C : CX X B A mX7_worthBy.2.2.2.2 RX7 cX7_worthBy 3 0 0 := C
    have hr : (xMeth X).sig.returnType = (some .int) := hr
    change ZW X B A 3 0 0 _ _ 0 [some (zi 1), some (zi s), some (zi h)] []
    refine zw_iload_n (i := 0) (nx := 1) C dX7_worthBy_0 rfl rfl rfl ?_
    refine zw_tableOut (nx := 70) C dX7_worthBy_1 (by omega) (by omega) rfl ?_
    refine zw_iload_n (i := 1) (nx := 71) C dX7_worthBy_70 rfl rfl rfl ?_
    exact zw_iret C hA hr hk dX7_worthBy_71 (by simp [sWo]) rfl
  · refine zrun_intro (M := mX7_worthBy) (ls := [some (zi 2), some (zi s), some (zi h)]) (by decide) rfl rfl rfl (Nat.le_of_ble_eq_true rfl) ?_
    intro X A C hX hA hr hk
    replace C : CX X B A mX7_worthBy.2.2.2.2 RX7 cX7_worthBy 3 0 0 := C
    have hr : (xMeth X).sig.returnType = (some .int) := hr
    change ZW X B A 3 0 0 _ _ 0 [some (zi 2), some (zi s), some (zi h)] []
    refine zw_iload_n (i := 0) (nx := 1) C dX7_worthBy_0 rfl rfl rfl ?_
    refine zw_tableIn (nx := 32) C dX7_worthBy_1 (by omega) (by omega) (by omega) rfl rfl ?_
    refine zw_iload_n (i := 1) (nx := 33) C dX7_worthBy_32 rfl rfl rfl ?_
    refine zw_iconst (nx := 34) C dX7_worthBy_33 rfl ?_
    refine zw_idiv (nx := 35) C dX7_worthBy_34 (by omega) rfl ?_
    exact zw_iret C hA hr hk dX7_worthBy_35 (by simp [sWo]) rfl
  · refine zrun_intro (M := mX7_worthBy) (ls := [some (zi 3), some (zi s), some (zi h)]) (by decide) rfl rfl rfl (Nat.le_of_ble_eq_true rfl) ?_
    intro X A C hX hA hr hk
    replace C : CX X B A mX7_worthBy.2.2.2.2 RX7 cX7_worthBy 3 0 0 := C
    have hr : (xMeth X).sig.returnType = (some .int) := hr
    change ZW X B A 3 0 0 _ _ 0 [some (zi 3), some (zi s), some (zi h)] []
    refine zw_iload_n (i := 0) (nx := 1) C dX7_worthBy_0 rfl rfl rfl ?_
    refine zw_tableIn (nx := 36) C dX7_worthBy_1 (by omega) (by omega) (by omega) rfl rfl ?_
    refine zw_iload_n (i := 1) (nx := 37) C dX7_worthBy_36 rfl rfl rfl ?_
    refine zw_if_ne (tgt := 44) (nx := 40) C dX7_worthBy_37 rfl rfl (by omega) (fun h37 => ?_) (fun h37 => ?_)
    · refine zw_iload_n (i := 1) (nx := 45) C dX7_worthBy_44 rfl rfl rfl ?_
      refine zw_bipush (v := 20) (nx := 47) C dX7_worthBy_45 (by decide) rfl ?_
      refine zw_iload_n (i := 2) (nx := 48) C dX7_worthBy_47 rfl rfl rfl ?_
      refine zw_imul (nx := 49) C dX7_worthBy_48 rfl ?_
      refine zw_iadd (nx := 50) C dX7_worthBy_49 rfl ?_
      exact zw_iret C hA hr hk dX7_worthBy_50 (by simp [sWo, h37]) rfl
    · refine zw_iconst (nx := 41) C dX7_worthBy_40 rfl ?_
      refine zw_goto (nx := 50) C dX7_worthBy_41 rfl ?_
      exact zw_iret C hA hr hk dX7_worthBy_50 (by simp [sWo, h37]) rfl
  · refine zrun_intro (M := mX7_worthBy) (ls := [some (zi 4), some (zi s), some (zi h)]) (by decide) rfl rfl rfl (Nat.le_of_ble_eq_true rfl) ?_
    intro X A C hX hA hr hk
    replace C : CX X B A mX7_worthBy.2.2.2.2 RX7 cX7_worthBy 3 0 0 := C
    have hr : (xMeth X).sig.returnType = (some .int) := hr
    change ZW X B A 3 0 0 _ _ 0 [some (zi 4), some (zi s), some (zi h)] []
    refine zw_iload_n (i := 0) (nx := 1) C dX7_worthBy_0 rfl rfl rfl ?_
    refine zw_tableIn (nx := 51) C dX7_worthBy_1 (by omega) (by omega) (by omega) rfl rfl ?_
    refine zw_iload_n (i := 1) (nx := 52) C dX7_worthBy_51 rfl rfl rfl ?_
    refine zw_sipush (v := 200) (nx := 55) C dX7_worthBy_52 (by decide) rfl ?_
    refine zw_icmp_ge (tgt := 62) (nx := 58) C dX7_worthBy_55 rfl rfl (by omega) (fun h55 => ?_) (fun h55 => ?_)
    · refine zw_iload_n (i := 1) (nx := 63) C dX7_worthBy_62 rfl rfl rfl ?_
      exact zw_iret C hA hr hk dX7_worthBy_63 (zr (by unfold sWo; omega)) rfl
    · refine zw_iconst (nx := 59) C dX7_worthBy_58 rfl ?_
      refine zw_goto (nx := 63) C dX7_worthBy_59 rfl ?_
      exact zw_iret C hA hr hk dX7_worthBy_63 (by simp [sWo, h55]) rfl
  · refine zrun_intro (M := mX7_worthBy) (ls := [some (zi 5), some (zi s), some (zi h)]) (by decide) rfl rfl rfl (Nat.le_of_ble_eq_true rfl) ?_
    intro X A C hX hA hr hk
    replace C : CX X B A mX7_worthBy.2.2.2.2 RX7 cX7_worthBy 3 0 0 := C
    have hr : (xMeth X).sig.returnType = (some .int) := hr
    change ZW X B A 3 0 0 _ _ 0 [some (zi 5), some (zi s), some (zi h)] []
    refine zw_iload_n (i := 0) (nx := 1) C dX7_worthBy_0 rfl rfl rfl ?_
    refine zw_tableIn (nx := 64) C dX7_worthBy_1 (by omega) (by omega) (by omega) rfl rfl ?_
    refine zw_iconst (nx := 65) C dX7_worthBy_64 rfl ?_
    refine zw_iload_n (i := 1) (nx := 66) C dX7_worthBy_65 rfl rfl rfl ?_
    refine zw_iconst (nx := 67) C dX7_worthBy_66 rfl ?_
    refine zw_idiv (nx := 68) C dX7_worthBy_67 (by omega) rfl ?_
    refine zw_imul (nx := 69) C dX7_worthBy_68 rfl ?_
    exact zw_iret C hA hr hk dX7_worthBy_69 (by simp [sWo]) rfl
theorem run_X7_headBy {k : Int} (hk0 : 0 ≤ k ∧ k ≤ 5) : zRun l B mX7_headBy [zi k] ζ (some (zi (sHd k))) ζ := by
  rcases (show k = 0 ∨ k = 1 ∨ k = 2 ∨ k = 3 ∨ k = 4 ∨ k = 5 by omega) with rfl | rfl | rfl | rfl | rfl | rfl
  · refine zrun_intro (M := mX7_headBy) (ls := [some (zi 0)]) (by decide) rfl rfl rfl (Nat.le_of_ble_eq_true rfl) ?_
    intro X A C hX hA hr hk
    replace C : CX X B A mX7_headBy.2.2.2.2 RX7 cX7_headBy 1 0 0 := C
    have hr : (xMeth X).sig.returnType = (some .int) := hr
    change ZW X B A 1 0 0 _ _ 0 [some (zi 0)] []
    refine zw_iload_n (i := 0) (nx := 1) C dX7_headBy_0 rfl rfl rfl ?_
    refine zw_tableOut (nx := 44) C dX7_headBy_1 (by omega) (by omega) rfl ?_
    refine zw_iconst (nx := 45) C dX7_headBy_44 rfl ?_
    exact zw_iret C hA hr hk dX7_headBy_45 rfl rfl
  · refine zrun_intro (M := mX7_headBy) (ls := [some (zi 1)]) (by decide) rfl rfl rfl (Nat.le_of_ble_eq_true rfl) ?_
    intro X A C hX hA hr hk
    replace C : CX X B A mX7_headBy.2.2.2.2 RX7 cX7_headBy 1 0 0 := C
    have hr : (xMeth X).sig.returnType = (some .int) := hr
    change ZW X B A 1 0 0 _ _ 0 [some (zi 1)] []
    refine zw_iload_n (i := 0) (nx := 1) C dX7_headBy_0 rfl rfl rfl ?_
    refine zw_tableIn (nx := 36) C dX7_headBy_1 (by omega) (by omega) (by omega) rfl rfl ?_
    refine zw_iconst (nx := 37) C dX7_headBy_36 rfl ?_
    exact zw_iret C hA hr hk dX7_headBy_37 rfl rfl
  · refine zrun_intro (M := mX7_headBy) (ls := [some (zi 2)]) (by decide) rfl rfl rfl (Nat.le_of_ble_eq_true rfl) ?_
    intro X A C hX hA hr hk
    replace C : CX X B A mX7_headBy.2.2.2.2 RX7 cX7_headBy 1 0 0 := C
    have hr : (xMeth X).sig.returnType = (some .int) := hr
    change ZW X B A 1 0 0 _ _ 0 [some (zi 2)] []
    refine zw_iload_n (i := 0) (nx := 1) C dX7_headBy_0 rfl rfl rfl ?_
    refine zw_tableIn (nx := 44) C dX7_headBy_1 (by omega) (by omega) (by omega) rfl rfl ?_
    refine zw_iconst (nx := 45) C dX7_headBy_44 rfl ?_
    exact zw_iret C hA hr hk dX7_headBy_45 rfl rfl
  · refine zrun_intro (M := mX7_headBy) (ls := [some (zi 3)]) (by decide) rfl rfl rfl (Nat.le_of_ble_eq_true rfl) ?_
    intro X A C hX hA hr hk
    replace C : CX X B A mX7_headBy.2.2.2.2 RX7 cX7_headBy 1 0 0 := C
    have hr : (xMeth X).sig.returnType = (some .int) := hr
    change ZW X B A 1 0 0 _ _ 0 [some (zi 3)] []
    refine zw_iload_n (i := 0) (nx := 1) C dX7_headBy_0 rfl rfl rfl ?_
    refine zw_tableIn (nx := 38) C dX7_headBy_1 (by omega) (by omega) (by omega) rfl rfl ?_
    refine zw_iconst (nx := 39) C dX7_headBy_38 rfl ?_
    exact zw_iret C hA hr hk dX7_headBy_39 rfl rfl
  · refine zrun_intro (M := mX7_headBy) (ls := [some (zi 4)]) (by decide) rfl rfl rfl (Nat.le_of_ble_eq_true rfl) ?_
    intro X A C hX hA hr hk
    replace C : CX X B A mX7_headBy.2.2.2.2 RX7 cX7_headBy 1 0 0 := C
    have hr : (xMeth X).sig.returnType = (some .int) := hr
    change ZW X B A 1 0 0 _ _ 0 [some (zi 4)] []
    refine zw_iload_n (i := 0) (nx := 1) C dX7_headBy_0 rfl rfl rfl ?_
    refine zw_tableIn (nx := 40) C dX7_headBy_1 (by omega) (by omega) (by omega) rfl rfl ?_
    refine zw_iconst (nx := 41) C dX7_headBy_40 rfl ?_
    exact zw_iret C hA hr hk dX7_headBy_41 rfl rfl
  · refine zrun_intro (M := mX7_headBy) (ls := [some (zi 5)]) (by decide) rfl rfl rfl (Nat.le_of_ble_eq_true rfl) ?_
    intro X A C hX hA hr hk
    replace C : CX X B A mX7_headBy.2.2.2.2 RX7 cX7_headBy 1 0 0 := C
    have hr : (xMeth X).sig.returnType = (some .int) := hr
    change ZW X B A 1 0 0 _ _ 0 [some (zi 5)] []
    refine zw_iload_n (i := 0) (nx := 1) C dX7_headBy_0 rfl rfl rfl ?_
    refine zw_tableIn (nx := 42) C dX7_headBy_1 (by omega) (by omega) (by omega) rfl rfl ?_
    refine zw_iconst (nx := 43) C dX7_headBy_42 rfl ?_
    exact zw_iret C hA hr hk dX7_headBy_43 rfl rfl
theorem run_X7_darkIn' {t d : Int} (ht0 : ζ.1 52 2 = t) (hd0 : ζ.1 52 3 = d) (ht : 0 ≤ t ∧ t ≤ 7) (hd : 0 ≤ d ∧ d ≤ 240) {y : Int} (hy : 0 ≤ y ∧ y ≤ 7) : zRun l B mX7_darkIn [.ref 52, zi y] ζ (some (zi (sDkF t d y))) ζ := by
  refine zrun_intro (M := mX7_darkIn) (ls := [some (.ref 52), some (zi y), none, none]) (by decide) rfl rfl rfl (Nat.le_of_ble_eq_true rfl) ?_
  intro X A C hX hA hr hk
  replace C : CX X B A mX7_darkIn.2.2.2.2 RX7 cX7_darkIn 4 0 0 := C
  have hr : (xMeth X).sig.returnType = (some .int) := hr
  change ZW X B A 4 0 0 _ _ 0 [some (.ref 52), some (zi y), none, none] []
  refine zw_iload_n (i := 1) (nx := 1) C dX7_darkIn_0 rfl rfl rfl ?_
  refine zw_aload_n (i := 0) (nx := 2) C dX7_darkIn_1 rfl rfl rfl ?_
  refine zw_geti (nx := 5) C dX7_darkIn_2 rfl flX7_13 iq6 rfl rfl rfl rfl ?_
  refine zw_icmp_ge (tgt := 17) (nx := 8) C dX7_darkIn_5 rfl rfl (by omega) (fun h5 => ?_) (fun h5 => ?_)
  · refine zw_iload_n (i := 1) (nx := 18) C dX7_darkIn_17 rfl rfl rfl ?_
    refine zw_aload_n (i := 0) (nx := 19) C dX7_darkIn_18 rfl rfl rfl ?_
    refine zw_geti (nx := 22) C dX7_darkIn_19 rfl flX7_13 iq6 rfl rfl rfl rfl ?_
    refine zw_isub (nx := 23) C dX7_darkIn_22 rfl ?_
    refine zw_ist2 (nx := 24) C (eIst_n dX7_darkIn_23 rfl rfl) (Nat.le_of_ble_eq_true rfl) rfl ?_
    refine zw_aload_n (i := 0) (nx := 25) C dX7_darkIn_24 rfl rfl rfl ?_
    refine zw_geti (nx := 28) C dX7_darkIn_25 rfl flX7_17 iq6 rfl rfl rfl rfl ?_
    refine zw_bipush (v := 9) (nx := 30) C dX7_darkIn_28 (by decide) rfl ?_
    refine zw_iload_n (i := 2) (nx := 31) C dX7_darkIn_30 rfl rfl rfl ?_
    refine zw_imul (nx := 32) C dX7_darkIn_31 rfl ?_
    refine zw_isub (nx := 33) C dX7_darkIn_32 rfl ?_
    refine zw_ist3 (nx := 34) C (eIst_n dX7_darkIn_33 rfl rfl) (Nat.le_of_ble_eq_true rfl) rfl ?_
    refine zw_iload_n (i := 3) (nx := 35) C dX7_darkIn_34 rfl rfl rfl ?_
    refine zw_if_ge (tgt := 42) (nx := 38) C dX7_darkIn_35 rfl rfl (by omega) (fun h35 => ?_) (fun h35 => ?_)
    · refine zw_iload_n (i := 3) (nx := 43) C dX7_darkIn_42 rfl rfl rfl ?_
      exact zw_iret C hA hr hk dX7_darkIn_43 (zr (by unfold sDkF; omega)) rfl
    · refine zw_iconst (nx := 39) C dX7_darkIn_38 rfl ?_
      refine zw_goto (nx := 43) C dX7_darkIn_39 rfl ?_
      exact zw_iret C hA hr hk dX7_darkIn_43 (zr (by unfold sDkF; omega)) rfl
  · refine zw_aload_n (i := 0) (nx := 9) C dX7_darkIn_8 rfl rfl rfl ?_
    refine zw_geti (nx := 12) C dX7_darkIn_9 rfl flX7_13 iq6 rfl rfl rfl rfl ?_
    refine zw_iload_n (i := 1) (nx := 13) C dX7_darkIn_12 rfl rfl rfl ?_
    refine zw_isub (nx := 14) C dX7_darkIn_13 rfl ?_
    refine zw_goto (nx := 23) C dX7_darkIn_14 rfl ?_
    refine zw_ist2 (nx := 24) C (eIst_n dX7_darkIn_23 rfl rfl) (Nat.le_of_ble_eq_true rfl) rfl ?_
    refine zw_aload_n (i := 0) (nx := 25) C dX7_darkIn_24 rfl rfl rfl ?_
    refine zw_geti (nx := 28) C dX7_darkIn_25 rfl flX7_17 iq6 rfl rfl rfl rfl ?_
    refine zw_bipush (v := 9) (nx := 30) C dX7_darkIn_28 (by decide) rfl ?_
    refine zw_iload_n (i := 2) (nx := 31) C dX7_darkIn_30 rfl rfl rfl ?_
    refine zw_imul (nx := 32) C dX7_darkIn_31 rfl ?_
    refine zw_isub (nx := 33) C dX7_darkIn_32 rfl ?_
    refine zw_ist3 (nx := 34) C (eIst_n dX7_darkIn_33 rfl rfl) (Nat.le_of_ble_eq_true rfl) rfl ?_
    refine zw_iload_n (i := 3) (nx := 35) C dX7_darkIn_34 rfl rfl rfl ?_
    refine zw_if_ge (tgt := 42) (nx := 38) C dX7_darkIn_35 rfl rfl (by omega) (fun h35 => ?_) (fun h35 => ?_)
    · refine zw_iload_n (i := 3) (nx := 43) C dX7_darkIn_42 rfl rfl rfl ?_
      exact zw_iret C hA hr hk dX7_darkIn_43 (zr (by unfold sDkF; omega)) rfl
    · refine zw_iconst (nx := 39) C dX7_darkIn_38 rfl ?_
      refine zw_goto (nx := 43) C dX7_darkIn_39 rfl ?_
      exact zw_iret C hA hr hk dX7_darkIn_43 (zr (by unfold sDkF; omega)) rfl
theorem run_X7_darkIn {n : Nat} (hc : mOk ζ n) {y : Int} (hy : 0 ≤ y ∧ y ≤ 7) : zRun l B mX7_darkIn [.ref 52, zi y] ζ (some (zi (sDk (mV ζ) y))) ζ := run_X7_darkIn' rfl rfl hc.1.2.1 hc.1.2.2.1 hy
theorem run_X7_who {n : Nat} (hc : mOk ζ n) {y : Int} (hy : -2147483648 ≤ y ∧ y ≤ 2147483647) : zRun l B mX7_who [.ref 52, zi y] ζ (some (zi (sHol (mV ζ) y 0 n))) ζ := by
  obtain ⟨⟨hn, h0, h1, hh, hp⟩, hn3⟩ := hc
  refine zrun_intro (M := mX7_who) (ls := [some (.ref 52), some (zi y), none]) (by decide) rfl rfl rfl (Nat.le_of_ble_eq_true rfl) ?_
  intro X A C hX hA hr hk
  replace C : CX X B A mX7_who.2.2.2.2 RX7 cX7_who 3 0 0 := C
  have hr : (xMeth X).sig.returnType = (some .int) := hr
  change ZW X B A 3 0 0 _ _ 0 [some (.ref 52), some (zi y), none] []
  have loop : ∀ k p : Nat, p + k = n → sHol (mV ζ) y 0 n = sHol (mV ζ) y p k → ZW X B A 3 0 0 (eFin X B (some (zi (sHol (mV ζ) y 0 n))) (zz ζ)) ζ 2 [some (.ref 52), some (zi y), some (zi p)] [] := by
    intro k
    induction k with
    | zero =>
      intro p hpk e
      refine zw_iload_n (i := 2) (nx := 3) C dX7_who_2 rfl rfl rfl ?_
      refine zw_aload_n (i := 0) (nx := 4) C dX7_who_3 rfl rfl rfl ?_
      refine zw_geti (nx := 7) C dX7_who_4 rfl flX7_79 iq6 rfl rfl rfl rfl ?_
      refine zw_icmp_ge (tgt := 28) (nx := 10) C dX7_who_7 rfl rfl (by omega) (fun h7 => ?_) (fun h7 => by exfalso; omega)
      refine zw_iconst (nx := 29) C dX7_who_28 rfl ?_
      exact zw_iret C hA hr hk dX7_who_29 (by rw [e]; rfl) rfl
    | succ k ih =>
      intro p hpk e
      have hs : -1 ≤ ζ.1 58 p ∧ ζ.1 58 p ≤ 7 := (hp p (by omega)).2.2.2
      refine zw_iload_n (i := 2) (nx := 3) C dX7_who_2 rfl rfl rfl ?_
      refine zw_aload_n (i := 0) (nx := 4) C dX7_who_3 rfl rfl rfl ?_
      refine zw_geti (nx := 7) C dX7_who_4 rfl flX7_79 iq6 rfl rfl rfl rfl ?_
      refine zw_icmp_ge (tgt := 28) (nx := 10) C dX7_who_7 rfl rfl (by omega) (fun h7 => by exfalso; omega) (fun h7 => ?_)
      refine zw_aload_n (i := 0) (nx := 11) C dX7_who_10 rfl rfl rfl ?_
      refine zw_getr (nx := 14) C dX7_who_11 rfl flX7_32 iq6 rfl rfl rfl rfl ?_
      refine zw_iload_n (i := 2) (nx := 15) C dX7_who_14 rfl rfl rfl ?_
      refine zw_iald (p) (nx := 16) C dX7_who_15 rfl rfl rfl rfl (by omega) ?_
      refine zw_iload_n (i := 1) (nx := 17) C dX7_who_16 rfl rfl rfl ?_
      refine zw_icmp_ne (tgt := 22) (nx := 20) C dX7_who_17 rfl rfl (by omega) (fun h17 => ?_) (fun h17 => ?_)
      · refine zw_iinc2 (nx := 25) C dX7_who_22 rfl (Nat.le_of_ble_eq_true rfl) rfl ?_
        refine zw_goto (nx := 2) C dX7_who_25 rfl ?_
        exact ih (p + 1) (by omega) (by rw [e]; exact if_neg h17)
      · refine zw_iload_n (i := 2) (nx := 21) C dX7_who_20 rfl rfl rfl ?_
        exact zw_iret C hA hr hk dX7_who_21 (by rw [e]; exact congrArg (fun z => some (zi z)) (if_pos h17)) rfl
  refine zw_iconst (nx := 1) C dX7_who_0 rfl ?_
  refine zw_ist2 (nx := 2) C (eIst_n dX7_who_1 rfl rfl) (Nat.le_of_ble_eq_true rfl) rfl ?_
  exact loop n 0 (by omega) rfl
theorem run_X7_isOpen {n : Nat} (hc : mOk ζ n) {p y : Int} (hp : -2147483648 ≤ p ∧ p ≤ 2147483647) (hy : -2147483648 ≤ y ∧ y ≤ 2147483647) : zRun l B mX7_isOpen [.ref 52, zi p, zi y] ζ (some (zi (b2i (sOpn (mV ζ) n p y)))) ζ := by
  have hb := sHol_bd (mV ζ) y n 0
  have hn := hc.1.1
  refine zrun_intro (M := mX7_isOpen) (ls := [some (.ref 52), some (zi p), some (zi y), none]) (by decide) rfl rfl rfl (Nat.le_of_ble_eq_true rfl) ?_
  intro X A C hX hA hr hk
  replace C : CX X B A mX7_isOpen.2.2.2.2 RX7 cX7_isOpen 4 0 0 := C
  have hr : (xMeth X).sig.returnType = (some .boolean) := hr
  change ZW X B A 4 0 0 _ _ 0 [some (.ref 52), some (zi p), some (zi y), none] []
  refine zw_aload_n (i := 0) (nx := 1) C dX7_isOpen_0 rfl rfl rfl ?_
  refine zw_iload_n (i := 2) (nx := 2) C dX7_isOpen_1 rfl rfl rfl ?_
  refine zw_cV11 (nx := 5) C dX7_isOpen_2 rfl cvX7_193 rfl rfl ⟨Nat.le_of_ble_eq_true rfl, Nat.le_of_ble_eq_true rfl⟩ rfl rfl (Nat.le_of_ble_eq_true rfl) (run_X7_who hc hy) ?_
  refine zw_ist3 (nx := 6) C (eIst_n dX7_isOpen_5 rfl rfl) (Nat.le_of_ble_eq_true rfl) rfl ?_
  refine zw_iload_n (i := 3) (nx := 7) C dX7_isOpen_6 rfl rfl rfl ?_
  refine zw_iconst (nx := 8) C dX7_isOpen_7 rfl ?_
  refine zw_icmp_eq (tgt := 16) (nx := 11) C dX7_isOpen_8 rfl rfl (by omega) (fun h8 => ?_) (fun h8 => ?_)
  · refine zw_iconst (nx := 17) C dX7_isOpen_16 rfl ?_
    refine zw_goto (nx := 21) C dX7_isOpen_17 rfl ?_
    exact zw_bret C hA hr hk dX7_isOpen_21 (by unfold sOpn; rw [decide_eq_true (Or.inl h8)]; rfl) rfl rfl
  · refine zw_iload_n (i := 3) (nx := 12) C dX7_isOpen_11 rfl rfl rfl ?_
    refine zw_iload_n (i := 1) (nx := 13) C dX7_isOpen_12 rfl rfl rfl ?_
    refine zw_icmp_ne (tgt := 20) (nx := 16) C dX7_isOpen_13 rfl rfl (by omega) (fun h13 => ?_) (fun h13 => ?_)
    · refine zw_iconst (nx := 21) C dX7_isOpen_20 rfl ?_
      exact zw_bret C hA hr hk dX7_isOpen_21 (by unfold sOpn; rw [decide_eq_false (by omega)]; rfl) rfl rfl
    · refine zw_iconst (nx := 17) C dX7_isOpen_16 rfl ?_
      refine zw_goto (nx := 21) C dX7_isOpen_17 rfl ?_
      exact zw_bret C hA hr hk dX7_isOpen_21 (by unfold sOpn; rw [decide_eq_true (Or.inr h13)]; rfl) rfl rfl
theorem run_X7_free {n : Nat} (hc : mOk ζ n) : zRun l B mX7_free [.ref 52] ζ (some (zi (sFree (mV ζ) n))) ζ := by
  obtain ⟨⟨hn, h0, h1, hh, hp⟩, hn3⟩ := hc
  refine zrun_intro (M := mX7_free) (ls := [some (.ref 52), none, none]) (by decide) rfl rfl rfl (Nat.le_of_ble_eq_true rfl) ?_
  intro X A C hX hA hr hk
  replace C : CX X B A mX7_free.2.2.2.2 RX7 cX7_free 3 0 0 := C
  have hr : (xMeth X).sig.returnType = (some .int) := hr
  change ZW X B A 3 0 0 _ _ 0 [some (.ref 52), none, none] []
  have loop : ∀ k p : Nat, p + k = n → ZW X B A 3 0 0 (eFin X B (some (zi (sFree (mV ζ) n))) (zz ζ)) ζ 5 [some (.ref 52), some (zi (sFree (mV ζ) p)), some (zi p)] [] := by
    intro k
    induction k with
    | zero =>
      intro p hpk
      have e : p = n := by omega
      subst e
      refine zw_iload_n (i := 2) (nx := 6) C dX7_free_5 rfl rfl rfl ?_
      refine zw_aload_n (i := 0) (nx := 7) C dX7_free_6 rfl rfl rfl ?_
      refine zw_geti (nx := 10) C dX7_free_7 rfl flX7_79 iq6 rfl rfl rfl rfl ?_
      refine zw_icmp_ge (tgt := 37) (nx := 13) C dX7_free_10 rfl rfl (by omega) (fun h10 => ?_) (fun h10 => by exfalso; omega)
      refine zw_iload_n (i := 1) (nx := 38) C dX7_free_37 rfl rfl rfl ?_
      exact zw_iret C hA hr hk dX7_free_38 rfl rfl
    | succ k ih =>
      intro p hpk
      have hs : -1 ≤ ζ.1 58 p ∧ ζ.1 58 p ≤ 7 := (hp p (by omega)).2.2.2
      refine zw_iload_n (i := 2) (nx := 6) C dX7_free_5 rfl rfl rfl ?_
      refine zw_aload_n (i := 0) (nx := 7) C dX7_free_6 rfl rfl rfl ?_
      refine zw_geti (nx := 10) C dX7_free_7 rfl flX7_79 iq6 rfl rfl rfl rfl ?_
      refine zw_icmp_ge (tgt := 37) (nx := 13) C dX7_free_10 rfl rfl (by omega) (fun h10 => by exfalso; omega) (fun h10 => ?_)
      refine zw_iload_n (i := 1) (nx := 14) C dX7_free_13 rfl rfl rfl ?_
      refine zw_aload_n (i := 0) (nx := 15) C dX7_free_14 rfl rfl rfl ?_
      refine zw_getr (nx := 18) C dX7_free_15 rfl flX7_32 iq6 rfl rfl rfl rfl ?_
      refine zw_iload_n (i := 2) (nx := 19) C dX7_free_18 rfl rfl rfl ?_
      refine zw_iald (p) (nx := 20) C dX7_free_19 rfl rfl rfl rfl (by omega) ?_
      refine zw_iconst (nx := 21) C dX7_free_20 rfl ?_
      refine zw_icmp_ne (tgt := 28) (nx := 24) C dX7_free_21 rfl rfl (by omega) (fun h21 => ?_) (fun h21 => ?_)
      · have e : sFree (mV ζ) (p + 1) = sFree (mV ζ) p - 1 := if_neg h21
        refine zw_iconst (nx := 29) C dX7_free_28 rfl ?_
        refine zw_isub (nx := 30) C dX7_free_29 rfl ?_
        refine zw_ist1 (nx := 31) C (eIst_n dX7_free_30 rfl rfl) (Nat.le_of_ble_eq_true rfl) rfl ?_
        rw [← e]
        refine zw_iinc2 (nx := 34) C dX7_free_31 rfl (Nat.le_of_ble_eq_true rfl) rfl ?_
        refine zw_goto (nx := 5) C dX7_free_34 rfl ?_
        exact ih (p + 1) (by omega)
      · have e : sFree (mV ζ) (p + 1) = sFree (mV ζ) p - 0 := by rw [Int.sub_zero]; exact if_pos h21
        refine zw_iconst (nx := 25) C dX7_free_24 rfl ?_
        refine zw_goto (nx := 29) C dX7_free_25 rfl ?_
        refine zw_isub (nx := 30) C dX7_free_29 rfl ?_
        refine zw_ist1 (nx := 31) C (eIst_n dX7_free_30 rfl rfl) (Nat.le_of_ble_eq_true rfl) rfl ?_
        rw [← e]
        refine zw_iinc2 (nx := 34) C dX7_free_31 rfl (Nat.le_of_ble_eq_true rfl) rfl ?_
        refine zw_goto (nx := 5) C dX7_free_34 rfl ?_
        exact ih (p + 1) (by omega)
  refine zw_bipush (v := 8) (nx := 2) C dX7_free_0 (by decide) rfl ?_
  refine zw_ist1 (nx := 3) C (eIst_n dX7_free_2 rfl rfl) (Nat.le_of_ble_eq_true rfl) rfl ?_
  refine zw_iconst (nx := 4) C dX7_free_3 rfl ?_
  refine zw_ist2 (nx := 5) C (eIst_n dX7_free_4 rfl rfl) (Nat.le_of_ble_eq_true rfl) rfl ?_
  exact loop n 0 (by omega)
theorem run_X7_allPaid {n : Nat} (hc : mOk ζ n) : zRun l B mX7_allPaid [.ref 52] ζ (some (zi (sSum (mV ζ 4) n))) ζ := by
  have hn3 := hc.2
  have hn := hc.1.1
  refine zrun_intro (M := mX7_allPaid) (ls := [some (.ref 52), none, none]) (by decide) rfl rfl rfl (Nat.le_of_ble_eq_true rfl) ?_
  intro X A C hX hA hr hk
  replace C : CX X B A mX7_allPaid.2.2.2.2 RX7 cX7_allPaid 3 0 0 := C
  have hr : (xMeth X).sig.returnType = (some .int) := hr
  change ZW X B A 3 0 0 _ _ 0 [some (.ref 52), none, none] []
  have loop : ∀ k p : Nat, p + k = n → ZW X B A 3 0 0 (eFin X B (some (zi (sSum (mV ζ 4) n))) (zz ζ)) ζ 4 [some (.ref 52), some (zi (sSum (mV ζ 4) p)), some (zi p)] [] := by
    intro k
    induction k with
    | zero =>
      intro p hpk
      have e : p = n := by omega
      subst e
      refine zw_iload_n (i := 2) (nx := 5) C dX7_allPaid_4 rfl rfl rfl ?_
      refine zw_aload_n (i := 0) (nx := 6) C dX7_allPaid_5 rfl rfl rfl ?_
      refine zw_geti (nx := 9) C dX7_allPaid_6 rfl flX7_79 iq6 rfl rfl rfl rfl ?_
      refine zw_icmp_ge (tgt := 27) (nx := 12) C dX7_allPaid_9 rfl rfl (by omega) (fun h9 => ?_) (fun h9 => by exfalso; omega)
      refine zw_iload_n (i := 1) (nx := 28) C dX7_allPaid_27 rfl rfl rfl ?_
      exact zw_iret C hA hr hk dX7_allPaid_28 rfl rfl
    | succ k ih =>
      intro p hpk
      refine zw_iload_n (i := 2) (nx := 5) C dX7_allPaid_4 rfl rfl rfl ?_
      refine zw_aload_n (i := 0) (nx := 6) C dX7_allPaid_5 rfl rfl rfl ?_
      refine zw_geti (nx := 9) C dX7_allPaid_6 rfl flX7_79 iq6 rfl rfl rfl rfl ?_
      refine zw_icmp_ge (tgt := 27) (nx := 12) C dX7_allPaid_9 rfl rfl (by omega) (fun h9 => by exfalso; omega) (fun h9 => ?_)
      refine zw_iload_n (i := 1) (nx := 13) C dX7_allPaid_12 rfl rfl rfl ?_
      refine zw_aload_n (i := 0) (nx := 14) C dX7_allPaid_13 rfl rfl rfl ?_
      refine zw_getr (nx := 17) C dX7_allPaid_14 rfl flX7_29 iq6 rfl rfl rfl rfl ?_
      refine zw_iload_n (i := 2) (nx := 18) C dX7_allPaid_17 rfl rfl rfl ?_
      refine zw_iald (p) (nx := 19) C dX7_allPaid_18 rfl rfl rfl rfl (by omega) ?_
      refine zw_iadd (nx := 20) C dX7_allPaid_19 rfl ?_
      refine zw_ist1 (nx := 21) C (eIst_n dX7_allPaid_20 rfl rfl) (Nat.le_of_ble_eq_true rfl) rfl ?_
      refine zw_iinc2 (nx := 24) C dX7_allPaid_21 rfl (Nat.le_of_ble_eq_true rfl) rfl ?_
      refine zw_goto (nx := 4) C dX7_allPaid_24 rfl ?_
      exact ih (p + 1) (by omega)
  refine zw_iconst (nx := 1) C dX7_allPaid_0 rfl ?_
  refine zw_ist1 (nx := 2) C (eIst_n dX7_allPaid_1 rfl rfl) (Nat.le_of_ble_eq_true rfl) rfl ?_
  refine zw_iconst (nx := 3) C dX7_allPaid_2 rfl ?_
  refine zw_ist2 (nx := 4) C (eIst_n dX7_allPaid_3 rfl rfl) (Nat.le_of_ble_eq_true rfl) rfl ?_
  exact loop n 0 (by omega)
set_option maxHeartbeats 4000000 in
theorem run_X7_seen {n : Nat} (hc : mOk ζ n) {p : Nat} (hp : p < n) : zRun l B mX7_seen [.ref 52, zi p] ζ (some (zi (sNow (mV ζ) n p))) ζ := by
  have hc' := hc
  obtain ⟨⟨hn, h0, h1, hh, hq⟩, hn3⟩ := hc'
  have hs : -1 ≤ ζ.1 58 p ∧ ζ.1 58 p ≤ 7 := (hq p hp).2.2.2
  refine zrun_intro (M := mX7_seen) (ls := [some (.ref 52), some (zi p), none, none, none, none]) (by decide) rfl rfl rfl (Nat.le_of_ble_eq_true rfl) ?_
  intro X A C hX hA hr hk
  replace C : CX X B A mX7_seen.2.2.2.2 RX7 cX7_seen 6 0 0 := C
  have hr : (xMeth X).sig.returnType = (some .int) := hr
  change ZW X B A 6 0 0 _ _ 0 [some (.ref 52), some (zi p), none, none, none, none] []
  refine zw_aload_n (i := 0) (nx := 1) C dX7_seen_0 rfl rfl rfl ?_
  refine zw_getr (nx := 4) C dX7_seen_1 rfl flX7_32 iq6 rfl rfl rfl rfl ?_
  refine zw_iload_n (i := 1) (nx := 5) C dX7_seen_4 rfl rfl rfl ?_
  refine zw_iald (p) (nx := 6) C dX7_seen_5 rfl rfl rfl rfl (by omega) ?_
  refine zw_ist2 (nx := 7) C (eIst_n dX7_seen_6 rfl rfl) (Nat.le_of_ble_eq_true rfl) rfl ?_
  refine zw_iload_n (i := 2) (nx := 8) C dX7_seen_7 rfl rfl rfl ?_
  refine zw_iconst (nx := 9) C dX7_seen_8 rfl ?_
  refine zw_icmp_ne (tgt := 14) (nx := 12) C dX7_seen_9 rfl rfl (by omega) (fun h9 => ?_) (fun h9 => ?_)
  · obtain ⟨s, hs'⟩ := Int.eq_ofNat_of_zero_le (show 0 ≤ ζ.1 58 p by omega)
    have es : (ζ.1 58 p).toNat = s := by omega
    have hdk := hc.1.dk s
    have eN : sNow (mV ζ) n p = sSeen (mV ζ) n p s := by
      show (if ζ.1 58 p = -1 then 0 else sSeen (mV ζ) n p (ζ.1 58 p).toNat) = _
      rw [if_neg h9, es]
    rw [eN, hs']
    have hhs : 0 ≤ ζ.1 54 s ∧ ζ.1 54 s ≤ 9 := hh s (by omega)
    have loop : ∀ k q : Nat, q + k = n → ∀ (b : Bool) (o5 : Option Value), sHid (mV ζ) s p p 0 n = (b || sHid (mV ζ) s p p q k) → ZW X B A 6 0 0 (eFin X B (some (zi (sSeen (mV ζ) n p s))) (zz ζ)) ζ 23 [some (.ref 52), some (zi p), some (zi s), some (zi (if b = true then 0 else sDk (mV ζ) s)), some (zi q), o5] [] := by
      intro k
      induction k with
      | zero =>
        intro q hqk b o5 e
        have e2 : sHid (mV ζ) s p p 0 n = b := by rw [e]; cases b <;> rfl
        refine zw_iload (nx := 25) C dX7_seen_23 rfl rfl ?_
        refine zw_aload_n (i := 0) (nx := 26) C dX7_seen_25 rfl rfl rfl ?_
        refine zw_geti (nx := 29) C dX7_seen_26 rfl flX7_79 iq6 rfl rfl rfl rfl ?_
        refine zw_icmp_ge (tgt := 116) (nx := 32) C dX7_seen_29 rfl rfl (by omega) (fun h29 => ?_) (fun h29 => by exfalso; omega)
        refine zw_iload_n (i := 3) (nx := 117) C dX7_seen_116 rfl rfl rfl ?_
        exact zw_iret C hA hr hk dX7_seen_117 (zr (by unfold sSeen; rw [e2])) rfl
      | succ k ih =>
        intro q hqk b o5 e
        have hsq : -1 ≤ ζ.1 58 q ∧ ζ.1 58 q ≤ 7 := (hq q (by omega)).2.2.2
        have hkq : 0 ≤ ζ.1 55 q ∧ ζ.1 55 q ≤ 5 := (hq q (by omega)).1
        have hhd := sHd_bd (ζ.1 55 q)
        have no : ¬ ((q ≠ p ∧ q ≠ p ∧ ζ.1 58 q ≠ -1) ∧ sBl (mV ζ) q (ζ.1 58 q).toNat s = true) → ∀ o5 : Option Value, ZW X B A 6 0 0 (eFin X B (some (zi (sSeen (mV ζ) n p s))) (zz ζ)) ζ 108 [some (.ref 52), some (zi p), some (zi s), some (zi (if b = true then 0 else sDk (mV ζ) s)), some (zi q), o5] [] := by
          intro hno o5
          refine zw_iload_n (i := 3) (nx := 109) C dX7_seen_108 rfl rfl rfl ?_
          refine zw_ist3 (nx := 110) C (eIst_n dX7_seen_109 rfl rfl) (Nat.le_of_ble_eq_true rfl) rfl ?_
          refine zw_iinc4 (nx := 113) C dX7_seen_110 rfl (Nat.le_of_ble_eq_true rfl) rfl ?_
          refine zw_goto (nx := 23) C dX7_seen_113 rfl ?_
          exact ih (q + 1) (by omega) b _ (by rw [e]; congr 1; exact if_neg hno)
        have no0 : ¬ ((q ≠ p ∧ q ≠ p ∧ ζ.1 58 q ≠ -1) ∧ sBl (mV ζ) q (ζ.1 58 q).toNat s = true) → ZW X B A 6 0 0 (eFin X B (some (zi (sSeen (mV ζ) n p s))) (zz ζ)) ζ 64 [some (.ref 52), some (zi p), some (zi s), some (zi (if b = true then 0 else sDk (mV ζ) s)), some (zi q), o5] [] := by
          intro hno
          refine zw_iconst (nx := 65) C dX7_seen_64 rfl ?_
          refine zw_ist5 (nx := 67) C (eIst_w dX7_seen_65 rfl) (Nat.le_of_ble_eq_true rfl) rfl ?_
          refine zw_iload (nx := 69) C dX7_seen_67 rfl rfl ?_
          refine zw_if_eq (tgt := 108) (nx := 72) C dX7_seen_69 rfl rfl (by omega) (fun h69 => ?_) (fun h69 => by exfalso; omega)
          exact no hno _
        refine zw_iload (nx := 25) C dX7_seen_23 rfl rfl ?_
        refine zw_aload_n (i := 0) (nx := 26) C dX7_seen_25 rfl rfl rfl ?_
        refine zw_geti (nx := 29) C dX7_seen_26 rfl flX7_79 iq6 rfl rfl rfl rfl ?_
        refine zw_icmp_ge (tgt := 116) (nx := 32) C dX7_seen_29 rfl rfl (by omega) (fun h29 => by exfalso; omega) (fun h29 => ?_)
        refine zw_iload (nx := 34) C dX7_seen_32 rfl rfl ?_
        refine zw_iload_n (i := 1) (nx := 35) C dX7_seen_34 rfl rfl rfl ?_
        refine zw_icmp_eq (tgt := 64) (nx := 38) C dX7_seen_35 rfl rfl (by omega) (fun h35 => ?_) (fun h35 => ?_)
        · exact no0 (fun z => by omega)
        · refine zw_aload_n (i := 0) (nx := 39) C dX7_seen_38 rfl rfl rfl ?_
          refine zw_getr (nx := 42) C dX7_seen_39 rfl flX7_32 iq6 rfl rfl rfl rfl ?_
          refine zw_iload (nx := 44) C dX7_seen_42 rfl rfl ?_
          refine zw_iald (q) (nx := 45) C dX7_seen_44 rfl rfl rfl rfl (by omega) ?_
          refine zw_iconst (nx := 46) C dX7_seen_45 rfl ?_
          refine zw_icmp_eq (tgt := 64) (nx := 49) C dX7_seen_46 rfl rfl (by omega) (fun h46 => ?_) (fun h46 => ?_)
          · exact no0 (fun z => by omega)
          · obtain ⟨f, hf'⟩ := Int.eq_ofNat_of_zero_le (show 0 ≤ ζ.1 58 q by omega)
            have ef : (ζ.1 58 q).toNat = f := by omega
            refine zw_aload_n (i := 0) (nx := 50) C dX7_seen_49 rfl rfl rfl ?_
            refine zw_getr (nx := 53) C dX7_seen_50 rfl flX7_32 iq6 rfl rfl rfl rfl ?_
            refine zw_iload (nx := 55) C dX7_seen_53 rfl rfl ?_
            refine zw_iald (q) (nx := 56) C dX7_seen_55 rfl rfl rfl rfl (by omega) ?_
            refine zw_iload_n (i := 2) (nx := 57) C dX7_seen_56 rfl rfl rfl ?_
            refine zw_icmp_ge (tgt := 64) (nx := 60) C dX7_seen_57 rfl rfl (by omega) (fun h57 => ?_) (fun h57 => ?_)
            · exact no0 (fun z => by have := z.2; rw [ef] at this; have := of_decide_eq_true this; omega)
            · have hhf : 0 ≤ ζ.1 54 f ∧ ζ.1 54 f ≤ 9 := hh f (by omega)
              refine zw_iconst (nx := 61) C dX7_seen_60 rfl ?_
              refine zw_goto (nx := 65) C dX7_seen_61 rfl ?_
              refine zw_ist5 (nx := 67) C (eIst_w dX7_seen_65 rfl) (Nat.le_of_ble_eq_true rfl) rfl ?_
              refine zw_iload (nx := 69) C dX7_seen_67 rfl rfl ?_
              refine zw_if_eq (tgt := 108) (nx := 72) C dX7_seen_69 rfl rfl (by omega) (fun h69 => by exfalso; omega) (fun h69 => ?_)
              refine zw_aload_n (i := 0) (nx := 73) C dX7_seen_72 rfl rfl rfl ?_
              refine zw_getr (nx := 76) C dX7_seen_73 rfl flX7_20 iq6 rfl rfl rfl rfl ?_
              refine zw_aload_n (i := 0) (nx := 77) C dX7_seen_76 rfl rfl rfl ?_
              refine zw_getr (nx := 80) C dX7_seen_77 rfl flX7_32 iq6 rfl rfl rfl rfl ?_
              refine zw_iload (nx := 82) C dX7_seen_80 rfl rfl ?_
              refine zw_iald (q) (nx := 83) C dX7_seen_82 rfl rfl rfl rfl (by omega) ?_
              refine zw_iald (f) (nx := 84) C dX7_seen_83 rfl rfl rfl rfl (by omega) ?_
              refine zw_aload_n (i := 0) (nx := 85) C dX7_seen_84 rfl rfl rfl ?_
              refine zw_getr (nx := 88) C dX7_seen_85 rfl flX7_23 iq6 rfl rfl rfl rfl ?_
              refine zw_iload (nx := 90) C dX7_seen_88 rfl rfl ?_
              refine zw_iald (q) (nx := 91) C dX7_seen_90 rfl rfl rfl rfl (by omega) ?_
              refine zw_cS11 (nx := 94) C dX7_seen_91 rfl csX7_183 ⟨Nat.le_of_ble_eq_true rfl, Nat.le_of_ble_eq_true rfl⟩ (Nat.le_of_ble_eq_true rfl) (run_X7_headBy hkq) ?_
              refine zw_iadd (nx := 95) C dX7_seen_94 rfl ?_
              refine zw_aload_n (i := 0) (nx := 96) C dX7_seen_95 rfl rfl rfl ?_
              refine zw_getr (nx := 99) C dX7_seen_96 rfl flX7_20 iq6 rfl rfl rfl rfl ?_
              refine zw_iload_n (i := 2) (nx := 100) C dX7_seen_99 rfl rfl rfl ?_
              refine zw_iald (s) (nx := 101) C dX7_seen_100 rfl rfl rfl rfl (by omega) ?_
              refine zw_icmp_le (tgt := 108) (nx := 104) C dX7_seen_101 rfl rfl (by omega) (fun h101 => ?_) (fun h101 => ?_)
              · refine no (fun z => ?_) _
                have := z.2
                rw [ef] at this
                have := (of_decide_eq_true this).2
                have t2 : ζ.1 54 s < ζ.1 54 f + sHd (ζ.1 55 q) := this
                omega
              · have yes : sBl (mV ζ) q f s = true := decide_eq_true ⟨by omega, h101⟩
                refine zw_iconst (nx := 105) C dX7_seen_104 rfl ?_
                refine zw_goto (nx := 109) C dX7_seen_105 rfl ?_
                refine zw_ist3 (nx := 110) C (eIst_n dX7_seen_109 rfl rfl) (Nat.le_of_ble_eq_true rfl) rfl ?_
                refine zw_iinc4 (nx := 113) C dX7_seen_110 rfl (Nat.le_of_ble_eq_true rfl) rfl ?_
                refine zw_goto (nx := 23) C dX7_seen_113 rfl ?_
                refine ih (q + 1) (by omega) true _ ?_
                rw [e, show sHid (mV ζ) s p p q (k + 1) = true from if_pos ⟨⟨by omega, by omega, h46⟩, by rw [show (mV ζ 5 q).toNat = f from ef]; exact yes⟩]
                cases b <;> rfl
    refine zw_aload_n (i := 0) (nx := 15) C dX7_seen_14 rfl rfl rfl ?_
    refine zw_iload_n (i := 2) (nx := 16) C dX7_seen_15 rfl rfl rfl ?_
    refine zw_cV11 (nx := 19) C dX7_seen_16 rfl cvX7_180 rfl rfl ⟨Nat.le_of_ble_eq_true rfl, Nat.le_of_ble_eq_true rfl⟩ rfl rfl (Nat.le_of_ble_eq_true rfl) (run_X7_darkIn hc (by omega)) ?_
    refine zw_ist3 (nx := 20) C (eIst_n dX7_seen_19 rfl rfl) (Nat.le_of_ble_eq_true rfl) rfl ?_
    refine zw_iconst (nx := 21) C dX7_seen_20 rfl ?_
    refine zw_ist4 (nx := 23) C (eIst_w dX7_seen_21 rfl) (Nat.le_of_ble_eq_true rfl) rfl ?_
    exact loop n 0 (by omega) false _ (by cases sHid (mV ζ) s p p 0 n <;> rfl)
  · refine zw_iconst (nx := 13) C dX7_seen_12 rfl ?_
    exact zw_iret C hA hr hk dX7_seen_13 (zr (if_pos h9)) rfl
end Model1
