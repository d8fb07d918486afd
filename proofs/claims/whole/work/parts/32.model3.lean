/-! the reference's writes, and its public methods, 1 -/
def mBd (ζ : zSt) : zSt := zU ζ 53 0 (ζ.1 53 0 + 1)
def mNo (ζ : zSt) : zSt := zU ζ 53 1 (ζ.1 53 1 + 1)
def mFu (ζ : zSt) : zSt := zU ζ 53 2 (ζ.1 53 2 + 1)
def mBg (ζ : zSt) (t d : Int) : zSt := zFill (zU (zU (zU (zU (zU ζ 52 2 t) 52 3 d) 52 1 0) 52 4 0) 52 24 0) 54 0 8
def mAd (ζ : zSt) (n : Nat) (k u : Int) : zSt := zU (zU (zU (zU (zU (zU ζ 55 n k) 56 n u) 57 n 0) 58 n (-1)) 52 1 (n + 1)) 52 24 0
def mLay (ζ : zSt) (c i : Nat) : Nat → zSt
  | 0 => ζ
  | p + 1 => zU (zU (zU (mLay ζ c i p) c (i + p) ((mLay ζ c i p).1 58 p)) c (i + 5 + p) ((mLay ζ c i p).1 56 p)) c (i + 10 + p) ((mLay ζ c i p).1 57 p)
def mTak (ζ : zSt) (c i : Nat) : Nat → zSt
  | 0 => ζ
  | p + 1 => zU (zU (zU (mTak ζ c i p) 58 p ((mTak ζ c i p).1 c (i + p))) 56 p ((mTak ζ c i p).1 c (i + 5 + p))) 57 p ((mTak ζ c i p).1 c (i + 10 + p))
def mSh (ζ : zSt) : Nat → zSt
  | 0 => ζ
  | k + 1 => zU (mSh ζ k) 66 k ((mSh ζ k).1 66 (k + 15))
def mNt (ζ : zSt) (s : Nat) : zSt := zU (mLay ζ 66 (15 * s) 5) 52 24 (s + 1)
def mRem (ζ : zSt) (s : Nat) : zSt := if s < 8 then mNt ζ s else mNt (zU (mSh ζ 105) 52 24 7) 7
theorem mLay_off (ζ : zSt) (c i : Nat) {a : Nat} (h : a ≠ c) (b : Nat) : ∀ p, (mLay ζ c i p).1 a b = ζ.1 a b
  | 0 => rfl
  | p + 1 => by
    show (if a = c ∧ b = i + 10 + p then _ else if a = c ∧ b = i + 5 + p then _ else if a = c ∧ b = i + p then _ else (mLay ζ c i p).1 a b) = _
    rw [if_neg (fun q => h q.1), if_neg (fun q => h q.1), if_neg (fun q => h q.1)]
    exact mLay_off ζ c i h b p
theorem mSh_off (ζ : zSt) {a : Nat} (h : a ≠ 66) (b : Nat) : ∀ k, (mSh ζ k).1 a b = ζ.1 a b
  | 0 => rfl
  | k + 1 => by
    show (if a = 66 ∧ b = k then _ else (mSh ζ k).1 a b) = _
    rw [if_neg (fun q => h q.1)]
    exact mSh_off ζ h b k
section Model3
variable {l : Launch} {B : eB} {ζ : zSt}
theorem run_X7_begin {t d : Int} : zRun l B mX7_begin [.ref 52, zi t, zi d] ζ none (mBg ζ t d) := by
  refine zrun_intro (M := mX7_begin) (ls := [some (.ref 52), some (zi t), some (zi d), none]) (by decide) rfl rfl rfl (Nat.le_of_ble_eq_true rfl) ?_
  intro X A C hX hA hr hk
  replace C : CX X B A mX7_begin.2.2.2.2 RX7 cX7_begin 4 0 0 := C
  have hr : (xMeth X).sig.returnType = none := hr
  change ZW X B A 4 0 0 _ _ 0 [some (.ref 52), some (zi t), some (zi d), none] []
  have loop : ∀ k y : Nat, y + k = 8 → ZW X B A 4 0 0 (eFin X B none (zz (mBg ζ t d))) (zFill (zU (zU (zU (zU (zU ζ 52 2 t) 52 3 d) 52 1 0) 52 4 0) 52 24 0) 54 0 y) 27 [some (.ref 52), some (zi t), some (zi d), some (zi y)] [] := by
    intro k
    induction k with
    | zero =>
      intro y hy
      have e : y = 8 := by omega
      subst e
      refine zw_iload_n (i := 3) (nx := 28) C dX7_begin_27 rfl rfl rfl ?_
      refine zw_bipush (v := 8) (nx := 30) C dX7_begin_28 (by decide) rfl ?_
      refine zw_icmp_ge (tgt := 46) (nx := 33) C dX7_begin_30 rfl rfl (by omega) (fun h30 => ?_) (fun h30 => by exfalso; omega)
      exact zw_vret C hA hr hk dX7_begin_46 rfl rfl
    | succ k ih =>
      intro y hy
      refine zw_iload_n (i := 3) (nx := 28) C dX7_begin_27 rfl rfl rfl ?_
      refine zw_bipush (v := 8) (nx := 30) C dX7_begin_28 (by decide) rfl ?_
      refine zw_icmp_ge (tgt := 46) (nx := 33) C dX7_begin_30 rfl rfl (by omega) (fun h30 => by exfalso; omega) (fun h30 => ?_)
      refine zw_aload_n (i := 0) (nx := 34) C dX7_begin_33 rfl rfl rfl ?_
      refine zw_getr (nx := 37) C dX7_begin_34 rfl flX7_20 iq6 rfl rfl rfl rfl ?_
      refine zw_iload_n (i := 3) (nx := 38) C dX7_begin_37 rfl rfl rfl ?_
      refine zw_iconst (nx := 39) C dX7_begin_38 rfl ?_
      refine zw_iast (y) (nx := 40) C dX7_begin_39 rfl rfl rfl rfl (by omega) ?_
      refine zw_iinc3 (nx := 43) C dX7_begin_40 rfl (Nat.le_of_ble_eq_true rfl) rfl ?_
      refine zw_goto (nx := 27) C dX7_begin_43 rfl ?_
      exact ih (y + 1) (by omega)
  refine zw_aload_n (i := 0) (nx := 1) C dX7_begin_0 rfl rfl rfl ?_
  refine zw_iload_n (i := 1) (nx := 2) C dX7_begin_1 rfl rfl rfl ?_
  refine zw_puti (nx := 5) C dX7_begin_2 rfl flX7_13 ic6 nf6_2 rfl rfl rfl rfl rfl ?_
  refine zw_aload_n (i := 0) (nx := 6) C dX7_begin_5 rfl rfl rfl ?_
  refine zw_iload_n (i := 2) (nx := 7) C dX7_begin_6 rfl rfl rfl ?_
  refine zw_puti (nx := 10) C dX7_begin_7 rfl flX7_17 ic6 nf6_3 rfl rfl rfl rfl rfl ?_
  refine zw_aload_n (i := 0) (nx := 11) C dX7_begin_10 rfl rfl rfl ?_
  refine zw_iconst (nx := 12) C dX7_begin_11 rfl ?_
  refine zw_puti (nx := 15) C dX7_begin_12 rfl flX7_79 ic6 nf6_1 rfl rfl rfl rfl rfl ?_
  refine zw_aload_n (i := 0) (nx := 16) C dX7_begin_15 rfl rfl rfl ?_
  refine zw_iconst (nx := 17) C dX7_begin_16 rfl ?_
  refine zw_puti (nx := 20) C dX7_begin_17 rfl flX7_82 ic6 nf6_4 rfl rfl rfl rfl rfl ?_
  refine zw_aload_n (i := 0) (nx := 21) C dX7_begin_20 rfl rfl rfl ?_
  refine zw_iconst (nx := 22) C dX7_begin_21 rfl ?_
  refine zw_puti (nx := 25) C dX7_begin_22 rfl flX7_85 ic6 nf6_24 rfl rfl rfl rfl rfl ?_
  refine zw_iconst (nx := 26) C dX7_begin_25 rfl ?_
  refine zw_ist3 (nx := 27) C (eIst_n dX7_begin_26 rfl rfl) (Nat.le_of_ble_eq_true rfl) rfl ?_
  exact loop 8 0 (by omega)
theorem run_X7_addOne {n : Nat} (hn : n < 5) (hn3 : ζ.1 52 1 = n) {k u : Int} : zRun l B mX7_addOne [.ref 52, zi k, zi u] ζ (some (zi n)) (mAd ζ n k u) := by
  refine zrun_intro (M := mX7_addOne) (ls := [some (.ref 52), some (zi k), some (zi u)]) (by decide) rfl rfl rfl (Nat.le_of_ble_eq_true rfl) ?_
  intro X A C hX hA hr hk
  replace C : CX X B A mX7_addOne.2.2.2.2 RX7 cX7_addOne 3 0 0 := C
  have hr : (xMeth X).sig.returnType = (some .int) := hr
  change ZW X B A 3 0 0 _ _ 0 [some (.ref 52), some (zi k), some (zi u)] []
  refine zw_aload_n (i := 0) (nx := 1) C dX7_addOne_0 rfl rfl rfl ?_
  refine zw_getr (nx := 4) C dX7_addOne_1 rfl flX7_23 iq6 rfl rfl rfl rfl ?_
  refine zw_aload_n (i := 0) (nx := 5) C dX7_addOne_4 rfl rfl rfl ?_
  refine zw_geti (nx := 8) C dX7_addOne_5 rfl flX7_79 iq6 rfl rfl rfl rfl ?_
  refine zw_iload_n (i := 1) (nx := 9) C dX7_addOne_8 rfl rfl rfl ?_
  rw [hn3]
  refine zw_iast (n) (nx := 10) C dX7_addOne_9 rfl rfl rfl rfl (by omega) ?_
  refine zw_aload_n (i := 0) (nx := 11) C dX7_addOne_10 rfl rfl rfl ?_
  refine zw_getr (nx := 14) C dX7_addOne_11 rfl flX7_26 iq6 rfl rfl rfl rfl ?_
  refine zw_aload_n (i := 0) (nx := 15) C dX7_addOne_14 rfl rfl rfl ?_
  refine zw_geti (nx := 18) C dX7_addOne_15 rfl flX7_79 iq6 rfl rfl rfl rfl ?_
  refine zw_iload_n (i := 2) (nx := 19) C dX7_addOne_18 rfl rfl rfl ?_
  simp only [zU_at, zCp_at, zR_at, zFill_at, Nat.reduceEqDiff, reduceIte, and_self, and_true, true_and, and_false, false_and]
  rw [hn3]
  refine zw_iast (n) (nx := 20) C dX7_addOne_19 rfl rfl rfl rfl (by omega) ?_
  refine zw_aload_n (i := 0) (nx := 21) C dX7_addOne_20 rfl rfl rfl ?_
  refine zw_getr (nx := 24) C dX7_addOne_21 rfl flX7_29 iq6 rfl rfl rfl rfl ?_
  refine zw_aload_n (i := 0) (nx := 25) C dX7_addOne_24 rfl rfl rfl ?_
  refine zw_geti (nx := 28) C dX7_addOne_25 rfl flX7_79 iq6 rfl rfl rfl rfl ?_
  refine zw_iconst (nx := 29) C dX7_addOne_28 rfl ?_
  simp only [zU_at, zCp_at, zR_at, zFill_at, Nat.reduceEqDiff, reduceIte, and_self, and_true, true_and, and_false, false_and]
  rw [hn3]
  refine zw_iast (n) (nx := 30) C dX7_addOne_29 rfl rfl rfl rfl (by omega) ?_
  refine zw_aload_n (i := 0) (nx := 31) C dX7_addOne_30 rfl rfl rfl ?_
  refine zw_getr (nx := 34) C dX7_addOne_31 rfl flX7_32 iq6 rfl rfl rfl rfl ?_
  refine zw_aload_n (i := 0) (nx := 35) C dX7_addOne_34 rfl rfl rfl ?_
  refine zw_geti (nx := 38) C dX7_addOne_35 rfl flX7_79 iq6 rfl rfl rfl rfl ?_
  refine zw_iconst (nx := 39) C dX7_addOne_38 rfl ?_
  simp only [zU_at, zCp_at, zR_at, zFill_at, Nat.reduceEqDiff, reduceIte, and_self, and_true, true_and, and_false, false_and]
  rw [hn3]
  refine zw_iast (n) (nx := 40) C dX7_addOne_39 rfl rfl rfl rfl (by omega) ?_
  refine zw_aload_n (i := 0) (nx := 41) C dX7_addOne_40 rfl rfl rfl ?_
  refine zw_dup (nx := 42) C dX7_addOne_41 rfl rfl ?_
  refine zw_geti (nx := 45) C dX7_addOne_42 rfl flX7_79 iq6 rfl rfl rfl rfl ?_
  refine zw_iconst (nx := 46) C dX7_addOne_45 rfl ?_
  simp only [zU_at, zCp_at, zR_at, zFill_at, Nat.reduceEqDiff, reduceIte, and_self, and_true, true_and, and_false, false_and]
  rw [hn3]
  refine zw_iadd (nx := 47) C dX7_addOne_46 rfl ?_
  refine zw_puti (nx := 50) C dX7_addOne_47 rfl flX7_79 ic6 nf6_1 rfl rfl rfl rfl rfl ?_
  refine zw_aload_n (i := 0) (nx := 51) C dX7_addOne_50 rfl rfl rfl ?_
  refine zw_iconst (nx := 52) C dX7_addOne_51 rfl ?_
  refine zw_puti (nx := 55) C dX7_addOne_52 rfl flX7_85 ic6 nf6_24 rfl rfl rfl rfl rfl ?_
  refine zw_aload_n (i := 0) (nx := 56) C dX7_addOne_55 rfl rfl rfl ?_
  refine zw_geti (nx := 59) C dX7_addOne_56 rfl flX7_79 iq6 rfl rfl rfl rfl ?_
  refine zw_iconst (nx := 60) C dX7_addOne_59 rfl ?_
  refine zw_isub (nx := 61) C dX7_addOne_60 rfl ?_
  simp only [zU_at, zCp_at, zR_at, zFill_at, Nat.reduceEqDiff, reduceIte, and_self, and_true, true_and, and_false, false_and]
  rw [show ((n : Int) + 1 - 1) = n by omega]
  exact zw_iret C hA hr hk dX7_addOne_61 rfl rfl
theorem run_X7_lays66 {i : Nat} (hi : i + 15 ≤ 120) : zRun l B mX7_lays [.ref 52, .ref 66, zi i] ζ none (mLay ζ 66 i 5) := by
  refine zrun_intro (M := mX7_lays) (ls := [some (.ref 52), some (.ref 66), some (zi i), none]) (by decide) rfl rfl rfl (Nat.le_of_ble_eq_true rfl) ?_
  intro X A C hX hA hr hk
  replace C : CX X B A mX7_lays.2.2.2.2 RX7 cX7_lays 4 0 0 := C
  have hr : (xMeth X).sig.returnType = none := hr
  change ZW X B A 4 0 0 _ _ 0 [some (.ref 52), some (.ref 66), some (zi i), none] []
  have loop : ∀ k p : Nat, p + k = 5 → ZW X B A 4 0 0 (eFin X B none (zz (mLay ζ 66 i 5))) (mLay ζ 66 i p) 2 [some (.ref 52), some (.ref 66), some (zi i), some (zi p)] [] := by
    intro k
    induction k with
    | zero =>
      intro p hp
      have e : p = 5 := by omega
      subst e
      refine zw_iload_n (i := 3) (nx := 3) C dX7_lays_2 rfl rfl rfl ?_
      refine zw_iconst (nx := 4) C dX7_lays_3 rfl ?_
      refine zw_icmp_ge (tgt := 51) (nx := 7) C dX7_lays_4 rfl rfl (by omega) (fun h4 => ?_) (fun h4 => by exfalso; omega)
      exact zw_vret C hA hr hk dX7_lays_51 rfl rfl
    | succ k ih =>
      intro p hp
      refine zw_iload_n (i := 3) (nx := 3) C dX7_lays_2 rfl rfl rfl ?_
      refine zw_iconst (nx := 4) C dX7_lays_3 rfl ?_
      refine zw_icmp_ge (tgt := 51) (nx := 7) C dX7_lays_4 rfl rfl (by omega) (fun h4 => by exfalso; omega) (fun h4 => ?_)
      refine zw_aload_n (i := 1) (nx := 8) C dX7_lays_7 rfl rfl rfl ?_
      refine zw_iload_n (i := 2) (nx := 9) C dX7_lays_8 rfl rfl rfl ?_
      refine zw_iload_n (i := 3) (nx := 10) C dX7_lays_9 rfl rfl rfl ?_
      refine zw_iadd (nx := 11) C dX7_lays_10 rfl ?_
      refine zw_aload_n (i := 0) (nx := 12) C dX7_lays_11 rfl rfl rfl ?_
      refine zw_getr (nx := 15) C dX7_lays_12 rfl flX7_32 iq6 rfl rfl rfl rfl ?_
      refine zw_iload_n (i := 3) (nx := 16) C dX7_lays_15 rfl rfl rfl ?_
      refine zw_iald (p) (nx := 17) C dX7_lays_16 rfl rfl rfl rfl (by omega) ?_
      refine zw_iast ((i + p)) (nx := 18) C dX7_lays_17 rfl rfl rfl rfl (by omega) ?_
      refine zw_aload_n (i := 1) (nx := 19) C dX7_lays_18 rfl rfl rfl ?_
      refine zw_iload_n (i := 2) (nx := 20) C dX7_lays_19 rfl rfl rfl ?_
      refine zw_iconst (nx := 21) C dX7_lays_20 rfl ?_
      refine zw_iadd (nx := 22) C dX7_lays_21 rfl ?_
      refine zw_iload_n (i := 3) (nx := 23) C dX7_lays_22 rfl rfl rfl ?_
      refine zw_iadd (nx := 24) C dX7_lays_23 rfl ?_
      refine zw_aload_n (i := 0) (nx := 25) C dX7_lays_24 rfl rfl rfl ?_
      refine zw_getr (nx := 28) C dX7_lays_25 rfl flX7_26 iq6 rfl rfl rfl rfl ?_
      refine zw_iload_n (i := 3) (nx := 29) C dX7_lays_28 rfl rfl rfl ?_
      refine zw_iald (p) (nx := 30) C dX7_lays_29 rfl rfl rfl rfl (by omega) ?_
      simp only [zU_at, zCp_at, zR_at, zFill_at, Nat.reduceEqDiff, reduceIte, and_self, and_true, true_and, and_false, false_and]
      refine zw_iast ((i + 5 + p)) (nx := 31) C dX7_lays_30 rfl rfl rfl rfl (by omega) ?_
      refine zw_aload_n (i := 1) (nx := 32) C dX7_lays_31 rfl rfl rfl ?_
      refine zw_iload_n (i := 2) (nx := 33) C dX7_lays_32 rfl rfl rfl ?_
      refine zw_bipush (v := 10) (nx := 35) C dX7_lays_33 (by decide) rfl ?_
      refine zw_iadd (nx := 36) C dX7_lays_35 rfl ?_
      refine zw_iload_n (i := 3) (nx := 37) C dX7_lays_36 rfl rfl rfl ?_
      refine zw_iadd (nx := 38) C dX7_lays_37 rfl ?_
      refine zw_aload_n (i := 0) (nx := 39) C dX7_lays_38 rfl rfl rfl ?_
      refine zw_getr (nx := 42) C dX7_lays_39 rfl flX7_29 iq6 rfl rfl rfl rfl ?_
      refine zw_iload_n (i := 3) (nx := 43) C dX7_lays_42 rfl rfl rfl ?_
      refine zw_iald (p) (nx := 44) C dX7_lays_43 rfl rfl rfl rfl (by omega) ?_
      simp only [zU_at, zCp_at, zR_at, zFill_at, Nat.reduceEqDiff, reduceIte, and_self, and_true, true_and, and_false, false_and]
      refine zw_iast ((i + 10 + p)) (nx := 45) C dX7_lays_44 rfl rfl rfl rfl (by omega) ?_
      refine zw_iinc3 (nx := 48) C dX7_lays_45 rfl (Nat.le_of_ble_eq_true rfl) rfl ?_
      refine zw_goto (nx := 2) C dX7_lays_48 rfl ?_
      exact ih (p + 1) (by omega)
  refine zw_iconst (nx := 1) C dX7_lays_0 rfl ?_
  refine zw_ist3 (nx := 2) C (eIst_n dX7_lays_1 rfl rfl) (Nat.le_of_ble_eq_true rfl) rfl ?_
  exact loop 5 0 (by omega)
theorem run_X7_lays69 {i : Nat} (hi : i + 15 ≤ 380) : zRun l B mX7_lays [.ref 52, .ref 69, zi i] ζ none (mLay ζ 69 i 5) := by
  refine zrun_intro (M := mX7_lays) (ls := [some (.ref 52), some (.ref 69), some (zi i), none]) (by decide) rfl rfl rfl (Nat.le_of_ble_eq_true rfl) ?_
  intro X A C hX hA hr hk
  replace C : CX X B A mX7_lays.2.2.2.2 RX7 cX7_lays 4 0 0 := C
  have hr : (xMeth X).sig.returnType = none := hr
  change ZW X B A 4 0 0 _ _ 0 [some (.ref 52), some (.ref 69), some (zi i), none] []
  have loop : ∀ k p : Nat, p + k = 5 → ZW X B A 4 0 0 (eFin X B none (zz (mLay ζ 69 i 5))) (mLay ζ 69 i p) 2 [some (.ref 52), some (.ref 69), some (zi i), some (zi p)] [] := by
    intro k
    induction k with
    | zero =>
      intro p hp
      have e : p = 5 := by omega
      subst e
      refine zw_iload_n (i := 3) (nx := 3) C dX7_lays_2 rfl rfl rfl ?_
      refine zw_iconst (nx := 4) C dX7_lays_3 rfl ?_
      refine zw_icmp_ge (tgt := 51) (nx := 7) C dX7_lays_4 rfl rfl (by omega) (fun h4 => ?_) (fun h4 => by exfalso; omega)
      exact zw_vret C hA hr hk dX7_lays_51 rfl rfl
    | succ k ih =>
      intro p hp
      refine zw_iload_n (i := 3) (nx := 3) C dX7_lays_2 rfl rfl rfl ?_
      refine zw_iconst (nx := 4) C dX7_lays_3 rfl ?_
      refine zw_icmp_ge (tgt := 51) (nx := 7) C dX7_lays_4 rfl rfl (by omega) (fun h4 => by exfalso; omega) (fun h4 => ?_)
      refine zw_aload_n (i := 1) (nx := 8) C dX7_lays_7 rfl rfl rfl ?_
      refine zw_iload_n (i := 2) (nx := 9) C dX7_lays_8 rfl rfl rfl ?_
      refine zw_iload_n (i := 3) (nx := 10) C dX7_lays_9 rfl rfl rfl ?_
      refine zw_iadd (nx := 11) C dX7_lays_10 rfl ?_
      refine zw_aload_n (i := 0) (nx := 12) C dX7_lays_11 rfl rfl rfl ?_
      refine zw_getr (nx := 15) C dX7_lays_12 rfl flX7_32 iq6 rfl rfl rfl rfl ?_
      refine zw_iload_n (i := 3) (nx := 16) C dX7_lays_15 rfl rfl rfl ?_
      refine zw_iald (p) (nx := 17) C dX7_lays_16 rfl rfl rfl rfl (by omega) ?_
      refine zw_iast ((i + p)) (nx := 18) C dX7_lays_17 rfl rfl rfl rfl (by omega) ?_
      refine zw_aload_n (i := 1) (nx := 19) C dX7_lays_18 rfl rfl rfl ?_
      refine zw_iload_n (i := 2) (nx := 20) C dX7_lays_19 rfl rfl rfl ?_
      refine zw_iconst (nx := 21) C dX7_lays_20 rfl ?_
      refine zw_iadd (nx := 22) C dX7_lays_21 rfl ?_
      refine zw_iload_n (i := 3) (nx := 23) C dX7_lays_22 rfl rfl rfl ?_
      refine zw_iadd (nx := 24) C dX7_lays_23 rfl ?_
      refine zw_aload_n (i := 0) (nx := 25) C dX7_lays_24 rfl rfl rfl ?_
      refine zw_getr (nx := 28) C dX7_lays_25 rfl flX7_26 iq6 rfl rfl rfl rfl ?_
      refine zw_iload_n (i := 3) (nx := 29) C dX7_lays_28 rfl rfl rfl ?_
      refine zw_iald (p) (nx := 30) C dX7_lays_29 rfl rfl rfl rfl (by omega) ?_
      simp only [zU_at, zCp_at, zR_at, zFill_at, Nat.reduceEqDiff, reduceIte, and_self, and_true, true_and, and_false, false_and]
      refine zw_iast ((i + 5 + p)) (nx := 31) C dX7_lays_30 rfl rfl rfl rfl (by omega) ?_
      refine zw_aload_n (i := 1) (nx := 32) C dX7_lays_31 rfl rfl rfl ?_
      refine zw_iload_n (i := 2) (nx := 33) C dX7_lays_32 rfl rfl rfl ?_
      refine zw_bipush (v := 10) (nx := 35) C dX7_lays_33 (by decide) rfl ?_
      refine zw_iadd (nx := 36) C dX7_lays_35 rfl ?_
      refine zw_iload_n (i := 3) (nx := 37) C dX7_lays_36 rfl rfl rfl ?_
      refine zw_iadd (nx := 38) C dX7_lays_37 rfl ?_
      refine zw_aload_n (i := 0) (nx := 39) C dX7_lays_38 rfl rfl rfl ?_
      refine zw_getr (nx := 42) C dX7_lays_39 rfl flX7_29 iq6 rfl rfl rfl rfl ?_
      refine zw_iload_n (i := 3) (nx := 43) C dX7_lays_42 rfl rfl rfl ?_
      refine zw_iald (p) (nx := 44) C dX7_lays_43 rfl rfl rfl rfl (by omega) ?_
      simp only [zU_at, zCp_at, zR_at, zFill_at, Nat.reduceEqDiff, reduceIte, and_self, and_true, true_and, and_false, false_and]
      refine zw_iast ((i + 10 + p)) (nx := 45) C dX7_lays_44 rfl rfl rfl rfl (by omega) ?_
      refine zw_iinc3 (nx := 48) C dX7_lays_45 rfl (Nat.le_of_ble_eq_true rfl) rfl ?_
      refine zw_goto (nx := 2) C dX7_lays_48 rfl ?_
      exact ih (p + 1) (by omega)
  refine zw_iconst (nx := 1) C dX7_lays_0 rfl ?_
  refine zw_ist3 (nx := 2) C (eIst_n dX7_lays_1 rfl rfl) (Nat.le_of_ble_eq_true rfl) rfl ?_
  exact loop 5 0 (by omega)
theorem run_X7_takes66 {i : Nat} (hi : i + 15 ≤ 120) : zRun l B mX7_takes [.ref 52, .ref 66, zi i] ζ none (mTak ζ 66 i 5) := by
  refine zrun_intro (M := mX7_takes) (ls := [some (.ref 52), some (.ref 66), some (zi i), none]) (by decide) rfl rfl rfl (Nat.le_of_ble_eq_true rfl) ?_
  intro X A C hX hA hr hk
  replace C : CX X B A mX7_takes.2.2.2.2 RX7 cX7_takes 4 0 0 := C
  have hr : (xMeth X).sig.returnType = none := hr
  change ZW X B A 4 0 0 _ _ 0 [some (.ref 52), some (.ref 66), some (zi i), none] []
  have loop : ∀ k p : Nat, p + k = 5 → ZW X B A 4 0 0 (eFin X B none (zz (mTak ζ 66 i 5))) (mTak ζ 66 i p) 2 [some (.ref 52), some (.ref 66), some (zi i), some (zi p)] [] := by
    intro k
    induction k with
    | zero =>
      intro p hp
      have e : p = 5 := by omega
      subst e
      refine zw_iload_n (i := 3) (nx := 3) C dX7_takes_2 rfl rfl rfl ?_
      refine zw_iconst (nx := 4) C dX7_takes_3 rfl ?_
      refine zw_icmp_ge (tgt := 51) (nx := 7) C dX7_takes_4 rfl rfl (by omega) (fun h4 => ?_) (fun h4 => by exfalso; omega)
      exact zw_vret C hA hr hk dX7_takes_51 rfl rfl
    | succ k ih =>
      intro p hp
      refine zw_iload_n (i := 3) (nx := 3) C dX7_takes_2 rfl rfl rfl ?_
      refine zw_iconst (nx := 4) C dX7_takes_3 rfl ?_
      refine zw_icmp_ge (tgt := 51) (nx := 7) C dX7_takes_4 rfl rfl (by omega) (fun h4 => by exfalso; omega) (fun h4 => ?_)
      refine zw_aload_n (i := 0) (nx := 8) C dX7_takes_7 rfl rfl rfl ?_
      refine zw_getr (nx := 11) C dX7_takes_8 rfl flX7_32 iq6 rfl rfl rfl rfl ?_
      refine zw_iload_n (i := 3) (nx := 12) C dX7_takes_11 rfl rfl rfl ?_
      refine zw_aload_n (i := 1) (nx := 13) C dX7_takes_12 rfl rfl rfl ?_
      refine zw_iload_n (i := 2) (nx := 14) C dX7_takes_13 rfl rfl rfl ?_
      refine zw_iload_n (i := 3) (nx := 15) C dX7_takes_14 rfl rfl rfl ?_
      refine zw_iadd (nx := 16) C dX7_takes_15 rfl ?_
      refine zw_iald ((i + p)) (nx := 17) C dX7_takes_16 rfl rfl rfl rfl (by omega) ?_
      refine zw_iast (p) (nx := 18) C dX7_takes_17 rfl rfl rfl rfl (by omega) ?_
      refine zw_aload_n (i := 0) (nx := 19) C dX7_takes_18 rfl rfl rfl ?_
      refine zw_getr (nx := 22) C dX7_takes_19 rfl flX7_26 iq6 rfl rfl rfl rfl ?_
      refine zw_iload_n (i := 3) (nx := 23) C dX7_takes_22 rfl rfl rfl ?_
      refine zw_aload_n (i := 1) (nx := 24) C dX7_takes_23 rfl rfl rfl ?_
      refine zw_iload_n (i := 2) (nx := 25) C dX7_takes_24 rfl rfl rfl ?_
      refine zw_iconst (nx := 26) C dX7_takes_25 rfl ?_
      refine zw_iadd (nx := 27) C dX7_takes_26 rfl ?_
      refine zw_iload_n (i := 3) (nx := 28) C dX7_takes_27 rfl rfl rfl ?_
      refine zw_iadd (nx := 29) C dX7_takes_28 rfl ?_
      refine zw_iald ((i + 5 + p)) (nx := 30) C dX7_takes_29 rfl rfl rfl rfl (by omega) ?_
      simp only [zU_at, zCp_at, zR_at, zFill_at, Nat.reduceEqDiff, reduceIte, and_self, and_true, true_and, and_false, false_and]
      refine zw_iast (p) (nx := 31) C dX7_takes_30 rfl rfl rfl rfl (by omega) ?_
      refine zw_aload_n (i := 0) (nx := 32) C dX7_takes_31 rfl rfl rfl ?_
      refine zw_getr (nx := 35) C dX7_takes_32 rfl flX7_29 iq6 rfl rfl rfl rfl ?_
      refine zw_iload_n (i := 3) (nx := 36) C dX7_takes_35 rfl rfl rfl ?_
      refine zw_aload_n (i := 1) (nx := 37) C dX7_takes_36 rfl rfl rfl ?_
      refine zw_iload_n (i := 2) (nx := 38) C dX7_takes_37 rfl rfl rfl ?_
      refine zw_bipush (v := 10) (nx := 40) C dX7_takes_38 (by decide) rfl ?_
      refine zw_iadd (nx := 41) C dX7_takes_40 rfl ?_
      refine zw_iload_n (i := 3) (nx := 42) C dX7_takes_41 rfl rfl rfl ?_
      refine zw_iadd (nx := 43) C dX7_takes_42 rfl ?_
      refine zw_iald ((i + 10 + p)) (nx := 44) C dX7_takes_43 rfl rfl rfl rfl (by omega) ?_
      simp only [zU_at, zCp_at, zR_at, zFill_at, Nat.reduceEqDiff, reduceIte, and_self, and_true, true_and, and_false, false_and]
      refine zw_iast (p) (nx := 45) C dX7_takes_44 rfl rfl rfl rfl (by omega) ?_
      refine zw_iinc3 (nx := 48) C dX7_takes_45 rfl (Nat.le_of_ble_eq_true rfl) rfl ?_
      refine zw_goto (nx := 2) C dX7_takes_48 rfl ?_
      exact ih (p + 1) (by omega)
  refine zw_iconst (nx := 1) C dX7_takes_0 rfl ?_
  refine zw_ist3 (nx := 2) C (eIst_n dX7_takes_1 rfl rfl) (Nat.le_of_ble_eq_true rfl) rfl ?_
  exact loop 5 0 (by omega)
theorem run_X7_takes69 {i : Nat} (hi : i + 15 ≤ 380) : zRun l B mX7_takes [.ref 52, .ref 69, zi i] ζ none (mTak ζ 69 i 5) := by
  refine zrun_intro (M := mX7_takes) (ls := [some (.ref 52), some (.ref 69), some (zi i), none]) (by decide) rfl rfl rfl (Nat.le_of_ble_eq_true rfl) ?_
  intro X A C hX hA hr hk
  replace C : CX X B A mX7_takes.2.2.2.2 RX7 cX7_takes 4 0 0 := C
  have hr : (xMeth X).sig.returnType = none := hr
  change ZW X B A 4 0 0 _ _ 0 [some (.ref 52), some (.ref 69), some (zi i), none] []
  have loop : ∀ k p : Nat, p + k = 5 → ZW X B A 4 0 0 (eFin X B none (zz (mTak ζ 69 i 5))) (mTak ζ 69 i p) 2 [some (.ref 52), some (.ref 69), some (zi i), some (zi p)] [] := by
    intro k
    induction k with
    | zero =>
      intro p hp
      have e : p = 5 := by omega
      subst e
      refine zw_iload_n (i := 3) (nx := 3) C dX7_takes_2 rfl rfl rfl ?_
      refine zw_iconst (nx := 4) C dX7_takes_3 rfl ?_
      refine zw_icmp_ge (tgt := 51) (nx := 7) C dX7_takes_4 rfl rfl (by omega) (fun h4 => ?_) (fun h4 => by exfalso; omega)
      exact zw_vret C hA hr hk dX7_takes_51 rfl rfl
    | succ k ih =>
      intro p hp
      refine zw_iload_n (i := 3) (nx := 3) C dX7_takes_2 rfl rfl rfl ?_
      refine zw_iconst (nx := 4) C dX7_takes_3 rfl ?_
      refine zw_icmp_ge (tgt := 51) (nx := 7) C dX7_takes_4 rfl rfl (by omega) (fun h4 => by exfalso; omega) (fun h4 => ?_)
      refine zw_aload_n (i := 0) (nx := 8) C dX7_takes_7 rfl rfl rfl ?_
      refine zw_getr (nx := 11) C dX7_takes_8 rfl flX7_32 iq6 rfl rfl rfl rfl ?_
      refine zw_iload_n (i := 3) (nx := 12) C dX7_takes_11 rfl rfl rfl ?_
      refine zw_aload_n (i := 1) (nx := 13) C dX7_takes_12 rfl rfl rfl ?_
      refine zw_iload_n (i := 2) (nx := 14) C dX7_takes_13 rfl rfl rfl ?_
      refine zw_iload_n (i := 3) (nx := 15) C dX7_takes_14 rfl rfl rfl ?_
      refine zw_iadd (nx := 16) C dX7_takes_15 rfl ?_
      refine zw_iald ((i + p)) (nx := 17) C dX7_takes_16 rfl rfl rfl rfl (by omega) ?_
      refine zw_iast (p) (nx := 18) C dX7_takes_17 rfl rfl rfl rfl (by omega) ?_
      refine zw_aload_n (i := 0) (nx := 19) C dX7_takes_18 rfl rfl rfl ?_
      refine zw_getr (nx := 22) C dX7_takes_19 rfl flX7_26 iq6 rfl rfl rfl rfl ?_
      refine zw_iload_n (i := 3) (nx := 23) C dX7_takes_22 rfl rfl rfl ?_
      refine zw_aload_n (i := 1) (nx := 24) C dX7_takes_23 rfl rfl rfl ?_
      refine zw_iload_n (i := 2) (nx := 25) C dX7_takes_24 rfl rfl rfl ?_
      refine zw_iconst (nx := 26) C dX7_takes_25 rfl ?_
      refine zw_iadd (nx := 27) C dX7_takes_26 rfl ?_
      refine zw_iload_n (i := 3) (nx := 28) C dX7_takes_27 rfl rfl rfl ?_
      refine zw_iadd (nx := 29) C dX7_takes_28 rfl ?_
      refine zw_iald ((i + 5 + p)) (nx := 30) C dX7_takes_29 rfl rfl rfl rfl (by omega) ?_
      simp only [zU_at, zCp_at, zR_at, zFill_at, Nat.reduceEqDiff, reduceIte, and_self, and_true, true_and, and_false, false_and]
      refine zw_iast (p) (nx := 31) C dX7_takes_30 rfl rfl rfl rfl (by omega) ?_
      refine zw_aload_n (i := 0) (nx := 32) C dX7_takes_31 rfl rfl rfl ?_
      refine zw_getr (nx := 35) C dX7_takes_32 rfl flX7_29 iq6 rfl rfl rfl rfl ?_
      refine zw_iload_n (i := 3) (nx := 36) C dX7_takes_35 rfl rfl rfl ?_
      refine zw_aload_n (i := 1) (nx := 37) C dX7_takes_36 rfl rfl rfl ?_
      refine zw_iload_n (i := 2) (nx := 38) C dX7_takes_37 rfl rfl rfl ?_
      refine zw_bipush (v := 10) (nx := 40) C dX7_takes_38 (by decide) rfl ?_
      refine zw_iadd (nx := 41) C dX7_takes_40 rfl ?_
      refine zw_iload_n (i := 3) (nx := 42) C dX7_takes_41 rfl rfl rfl ?_
      refine zw_iadd (nx := 43) C dX7_takes_42 rfl ?_
      refine zw_iald ((i + 10 + p)) (nx := 44) C dX7_takes_43 rfl rfl rfl rfl (by omega) ?_
      simp only [zU_at, zCp_at, zR_at, zFill_at, Nat.reduceEqDiff, reduceIte, and_self, and_true, true_and, and_false, false_and]
      refine zw_iast (p) (nx := 45) C dX7_takes_44 rfl rfl rfl rfl (by omega) ?_
      refine zw_iinc3 (nx := 48) C dX7_takes_45 rfl (Nat.le_of_ble_eq_true rfl) rfl ?_
      refine zw_goto (nx := 2) C dX7_takes_48 rfl ?_
      exact ih (p + 1) (by omega)
  refine zw_iconst (nx := 1) C dX7_takes_0 rfl ?_
  refine zw_ist3 (nx := 2) C (eIst_n dX7_takes_1 rfl rfl) (Nat.le_of_ble_eq_true rfl) rfl ?_
  exact loop 5 0 (by omega)
theorem run_X7_notes {s : Nat} (hs : s ≤ 8) (hs3 : ζ.1 52 24 = s) : zRun l B mX7_notes [.ref 52] ζ none (mRem ζ s) := by
  have tail : ∀ (η : zSt) (s : Nat), s < 8 → η.1 52 24 = s → ∀ (X : eX) (A : Nat → Prop) (o1 : Option Value), CX X B A mX7_notes.2.2.2.2 RX7 cX7_notes 2 0 0 → xLa X = l → A = eAA B (xS X).heap.size → (xMeth X).sig.returnType = none → (xMeth X).locks = false → ZW X B A 2 0 0 (eFin X B none (zz (mNt η s))) η 48 [some (.ref 52), o1] [] := by
    intro η s hs hs3 X A o1 C hX hA hr hk
    refine zw_aload_n (i := 0) (nx := 49) C dX7_notes_48 rfl rfl rfl ?_
    refine zw_aload_n (i := 0) (nx := 50) C dX7_notes_49 rfl rfl rfl ?_
    refine zw_getr (nx := 53) C dX7_notes_50 rfl flX7_56 iq6 rfl rfl rfl rfl ?_
    refine zw_bipush (v := 15) (nx := 55) C dX7_notes_53 (by decide) rfl ?_
    refine zw_aload_n (i := 0) (nx := 56) C dX7_notes_55 rfl rfl rfl ?_
    refine zw_geti (nx := 59) C dX7_notes_56 rfl flX7_85 iq6 rfl rfl rfl rfl ?_
    rw [hs3]
    refine zw_imul (nx := 60) C dX7_notes_59 rfl ?_
    refine zw_cV20 (nx := 63) C dX7_notes_60 rfl cvX7_196 rfl rfl ⟨Nat.le_of_ble_eq_true rfl, Nat.le_of_ble_eq_true rfl⟩ rfl rfl (Nat.le_of_ble_eq_true rfl) (run_X7_lays66 (i := 15 * s) (by omega)) ?_
    refine zw_aload_n (i := 0) (nx := 64) C dX7_notes_63 rfl rfl rfl ?_
    refine zw_dup (nx := 65) C dX7_notes_64 rfl rfl ?_
    refine zw_geti (nx := 68) C dX7_notes_65 rfl flX7_85 iq6 rfl rfl rfl rfl ?_
    rw [mLay_off _ _ _ (by decide), hs3]
    refine zw_iconst (nx := 69) C dX7_notes_68 rfl ?_
    refine zw_iadd (nx := 70) C dX7_notes_69 rfl ?_
    refine zw_puti (nx := 73) C dX7_notes_70 rfl flX7_85 ic6 nf6_24 rfl rfl rfl rfl rfl ?_
    exact zw_vret C hA hr hk dX7_notes_73 rfl rfl
  unfold mRem
  by_cases h8 : s < 8
  · rw [if_pos h8]
    refine zrun_intro (M := mX7_notes) (ls := [some (.ref 52), none]) (by decide) rfl rfl rfl (Nat.le_of_ble_eq_true rfl) ?_
    intro X A C hX hA hr hk
    replace C : CX X B A mX7_notes.2.2.2.2 RX7 cX7_notes 2 0 0 := C
    have hr : (xMeth X).sig.returnType = none := hr
    change ZW X B A 2 0 0 _ _ 0 [some (.ref 52), none] []
    refine zw_aload_n (i := 0) (nx := 1) C dX7_notes_0 rfl rfl rfl ?_
    refine zw_geti (nx := 4) C dX7_notes_1 rfl flX7_85 iq6 rfl rfl rfl rfl ?_
    refine zw_bipush (v := 8) (nx := 6) C dX7_notes_4 (by decide) rfl ?_
    refine zw_icmp_ne (tgt := 48) (nx := 9) C dX7_notes_6 rfl rfl (by omega) (fun h6 => ?_) (fun h6 => by exfalso; omega)
    exact tail ζ s h8 hs3 X A _ C hX hA hr hk
  · rw [if_neg h8]
    have e8 : s = 8 := by omega
    subst e8
    refine zrun_intro (M := mX7_notes) (ls := [some (.ref 52), none]) (by decide) rfl rfl rfl (Nat.le_of_ble_eq_true rfl) ?_
    intro X A C hX hA hr hk
    replace C : CX X B A mX7_notes.2.2.2.2 RX7 cX7_notes 2 0 0 := C
    have hr : (xMeth X).sig.returnType = none := hr
    change ZW X B A 2 0 0 _ _ 0 [some (.ref 52), none] []
    have loop : ∀ k j : Nat, j + k = 105 → ZW X B A 2 0 0 (eFin X B none (zz (mNt (zU (mSh ζ 105) 52 24 7) 7))) (mSh ζ j) 11 [some (.ref 52), some (zi j)] [] := by
      intro k
      induction k with
      | zero =>
        intro j hj
        have e : j = 105 := by omega
        subst e
        refine zw_iload_n (i := 1) (nx := 12) C dX7_notes_11 rfl rfl rfl ?_
        refine zw_bipush (v := 105) (nx := 14) C dX7_notes_12 (by decide) rfl ?_
        refine zw_icmp_ge (tgt := 38) (nx := 17) C dX7_notes_14 rfl rfl (by omega) (fun h14 => ?_) (fun h14 => by exfalso; omega)
        refine zw_aload_n (i := 0) (nx := 39) C dX7_notes_38 rfl rfl rfl ?_
        refine zw_dup (nx := 40) C dX7_notes_39 rfl rfl ?_
        refine zw_geti (nx := 43) C dX7_notes_40 rfl flX7_85 iq6 rfl rfl rfl rfl ?_
        refine zw_iconst (nx := 44) C dX7_notes_43 rfl ?_
        refine zw_isub (nx := 45) C dX7_notes_44 rfl ?_
        rw [mSh_off _ (by decide), hs3, show (((8 : Nat) : Int) - 1) = 7 from rfl]
        refine zw_puti (nx := 48) C dX7_notes_45 rfl flX7_85 ic6 nf6_24 rfl rfl rfl rfl rfl ?_
        exact tail _ 7 (by omega) rfl X A _ C hX hA hr hk
      | succ k ih =>
        intro j hj
        refine zw_iload_n (i := 1) (nx := 12) C dX7_notes_11 rfl rfl rfl ?_
        refine zw_bipush (v := 105) (nx := 14) C dX7_notes_12 (by decide) rfl ?_
        refine zw_icmp_ge (tgt := 38) (nx := 17) C dX7_notes_14 rfl rfl (by omega) (fun h14 => by exfalso; omega) (fun h14 => ?_)
        refine zw_aload_n (i := 0) (nx := 18) C dX7_notes_17 rfl rfl rfl ?_
        refine zw_getr (nx := 21) C dX7_notes_18 rfl flX7_56 iq6 rfl rfl rfl rfl ?_
        refine zw_iload_n (i := 1) (nx := 22) C dX7_notes_21 rfl rfl rfl ?_
        refine zw_aload_n (i := 0) (nx := 23) C dX7_notes_22 rfl rfl rfl ?_
        refine zw_getr (nx := 26) C dX7_notes_23 rfl flX7_56 iq6 rfl rfl rfl rfl ?_
        refine zw_iload_n (i := 1) (nx := 27) C dX7_notes_26 rfl rfl rfl ?_
        refine zw_bipush (v := 15) (nx := 29) C dX7_notes_27 (by decide) rfl ?_
        refine zw_iadd (nx := 30) C dX7_notes_29 rfl ?_
        refine zw_iald ((j + 15)) (nx := 31) C dX7_notes_30 rfl rfl rfl rfl (by omega) ?_
        refine zw_iast (j) (nx := 32) C dX7_notes_31 rfl rfl rfl rfl (by omega) ?_
        refine zw_iinc1 (nx := 35) C dX7_notes_32 rfl (Nat.le_of_ble_eq_true rfl) rfl ?_
        refine zw_goto (nx := 11) C dX7_notes_35 rfl ?_
        exact ih (j + 1) (by omega)
    refine zw_aload_n (i := 0) (nx := 1) C dX7_notes_0 rfl rfl rfl ?_
    refine zw_geti (nx := 4) C dX7_notes_1 rfl flX7_85 iq6 rfl rfl rfl rfl ?_
    refine zw_bipush (v := 8) (nx := 6) C dX7_notes_4 (by decide) rfl ?_
    refine zw_icmp_ne (tgt := 48) (nx := 9) C dX7_notes_6 rfl rfl (by omega) (fun h6 => by exfalso; omega) (fun h6 => ?_)
    refine zw_iconst (nx := 10) C dX7_notes_9 rfl ?_
    refine zw_ist1 (nx := 11) C (eIst_n dX7_notes_10 rfl rfl) (Nat.le_of_ble_eq_true rfl) rfl ?_
    exact loop 105 0 (by omega)
theorem run_X7_hill_ok {t d : Int} (ht : 0 ≤ t ∧ t ≤ 7) (hd : 0 ≤ d ∧ d ≤ 240) : zRun l B mX7_hill [.ref 52, zi t, zi d] ζ (some (zi (ζ.1 52 1))) (mBg ζ t d) := by
  refine zrun_intro (M := mX7_hill) (ls := [some (.ref 52), some (zi t), some (zi d), none]) (by decide) rfl rfl rfl (Nat.le_of_ble_eq_true rfl) ?_
  intro X A C hX hA hr hk
  replace C : CX X B A mX7_hill.2.2.2.2 RX7 cX7_hill 4 0 0 := C
  have hr : (xMeth X).sig.returnType = (some .int) := hr
  change ZW X B A 4 0 0 _ _ 0 [some (.ref 52), some (zi t), some (zi d), none] []
  refine zw_iload_n (i := 1) (nx := 1) C dX7_hill_0 rfl rfl rfl ?_
  refine zw_cS11 (nx := 4) C dX7_hill_1 rfl csX7_92 ⟨Nat.le_of_ble_eq_true rfl, Nat.le_of_ble_eq_true rfl⟩ (Nat.le_of_ble_eq_true rfl) (run_X7_isYard_t ht) ?_
  refine zw_if_eq (tgt := 18) (nx := 7) C dX7_hill_4 rfl rfl (by omega) (fun h4 => by exfalso; omega) (fun h4 => ?_)
  refine zw_iload_n (i := 2) (nx := 8) C dX7_hill_7 rfl rfl rfl ?_
  refine zw_iconst (nx := 9) C dX7_hill_8 rfl ?_
  refine zw_sipush (v := 240) (nx := 12) C dX7_hill_9 (by decide) rfl ?_
  refine zw_cS31 (nx := 15) C dX7_hill_12 rfl csX7_88 ⟨Nat.le_of_ble_eq_true rfl, Nat.le_of_ble_eq_true rfl⟩ (Nat.le_of_ble_eq_true rfl) (run_X7_in_t (by omega) (by omega) hd) ?_
  refine zw_if_ne (tgt := 23) (nx := 18) C dX7_hill_15 rfl rfl (by omega) (fun h15 => ?_) (fun h15 => by exfalso; omega)
  refine zw_aload_n (i := 0) (nx := 24) C dX7_hill_23 rfl rfl rfl ?_
  refine zw_geti (nx := 27) C dX7_hill_24 rfl flX7_79 iq6 rfl rfl rfl rfl ?_
  refine zw_ist3 (nx := 28) C (eIst_n dX7_hill_27 rfl rfl) (Nat.le_of_ble_eq_true rfl) rfl ?_
  refine zw_aload_n (i := 0) (nx := 29) C dX7_hill_28 rfl rfl rfl ?_
  refine zw_iload_n (i := 1) (nx := 30) C dX7_hill_29 rfl rfl rfl ?_
  refine zw_iload_n (i := 2) (nx := 31) C dX7_hill_30 rfl rfl rfl ?_
  refine zw_cV20 (nx := 34) C dX7_hill_31 rfl cvX7_75 rfl rfl ⟨Nat.le_of_ble_eq_true rfl, Nat.le_of_ble_eq_true rfl⟩ rfl rfl (Nat.le_of_ble_eq_true rfl) run_X7_begin ?_
  refine zw_iload_n (i := 3) (nx := 35) C dX7_hill_34 rfl rfl rfl ?_
  exact zw_iret C hA hr hk dX7_hill_35 rfl rfl
theorem run_X7_hill_bad {t d : Int} (ht : -2147483648 ≤ t ∧ t ≤ 2147483647) (hd : -2147483648 ≤ d ∧ d ≤ 2147483647) (h : ¬ ((0 ≤ t ∧ t ≤ 7) ∧ (0 ≤ d ∧ d ≤ 240))) : zRun l B mX7_hill [.ref 52, zi t, zi d] ζ (some (zi (-2))) (mBd ζ) := by
  refine zrun_intro (M := mX7_hill) (ls := [some (.ref 52), some (zi t), some (zi d), none]) (by decide) rfl rfl rfl (Nat.le_of_ble_eq_true rfl) ?_
  intro X A C hX hA hr hk
  replace C : CX X B A mX7_hill.2.2.2.2 RX7 cX7_hill 4 0 0 := C
  have hr : (xMeth X).sig.returnType = (some .int) := hr
  change ZW X B A 4 0 0 _ _ 0 [some (.ref 52), some (zi t), some (zi d), none] []
  by_cases h1 : 0 ≤ t ∧ t ≤ 7
  · refine zw_iload_n (i := 1) (nx := 1) C dX7_hill_0 rfl rfl rfl ?_
    refine zw_cS11 (nx := 4) C dX7_hill_1 rfl csX7_92 ⟨Nat.le_of_ble_eq_true rfl, Nat.le_of_ble_eq_true rfl⟩ (Nat.le_of_ble_eq_true rfl) (run_X7_isYard_t h1) ?_
    refine zw_if_eq (tgt := 18) (nx := 7) C dX7_hill_4 rfl rfl (by omega) (fun h4 => by exfalso; omega) (fun h4 => ?_)
    refine zw_iload_n (i := 2) (nx := 8) C dX7_hill_7 rfl rfl rfl ?_
    refine zw_iconst (nx := 9) C dX7_hill_8 rfl ?_
    refine zw_sipush (v := 240) (nx := 12) C dX7_hill_9 (by decide) rfl ?_
    refine zw_cS31 (nx := 15) C dX7_hill_12 rfl csX7_88 ⟨Nat.le_of_ble_eq_true rfl, Nat.le_of_ble_eq_true rfl⟩ (Nat.le_of_ble_eq_true rfl) (run_X7_in_f hd (by omega) (fun q => h ⟨h1, q⟩)) ?_
    refine zw_if_ne (tgt := 23) (nx := 18) C dX7_hill_15 rfl rfl (by omega) (fun h15 => by exfalso; omega) (fun h15 => ?_)
    refine zw_aload_n (i := 0) (nx := 19) C dX7_hill_18 rfl rfl rfl ?_
    refine zw_cV01 (nx := 22) C dX7_hill_19 rfl cvX7_96 rfl rfl ⟨Nat.le_of_ble_eq_true rfl, Nat.le_of_ble_eq_true rfl⟩ rfl rfl (Nat.le_of_ble_eq_true rfl) run_X7_bad ?_
    exact zw_iret C hA hr hk dX7_hill_22 rfl rfl
  · refine zw_iload_n (i := 1) (nx := 1) C dX7_hill_0 rfl rfl rfl ?_
    refine zw_cS11 (nx := 4) C dX7_hill_1 rfl csX7_92 ⟨Nat.le_of_ble_eq_true rfl, Nat.le_of_ble_eq_true rfl⟩ (Nat.le_of_ble_eq_true rfl) (run_X7_isYard_f ht h1) ?_
    refine zw_if_eq (tgt := 18) (nx := 7) C dX7_hill_4 rfl rfl (by omega) (fun h4 => ?_) (fun h4 => by exfalso; omega)
    refine zw_aload_n (i := 0) (nx := 19) C dX7_hill_18 rfl rfl rfl ?_
    refine zw_cV01 (nx := 22) C dX7_hill_19 rfl cvX7_96 rfl rfl ⟨Nat.le_of_ble_eq_true rfl, Nat.le_of_ble_eq_true rfl⟩ rfl rfl (Nat.le_of_ble_eq_true rfl) run_X7_bad ?_
    exact zw_iret C hA hr hk dX7_hill_22 rfl rfl
theorem run_X7_track_ok {t d : Int} (ht : 0 ≤ t ∧ t ≤ 7) (hd : 0 ≤ d ∧ d ≤ 240) : zRun l B mX7_track [.ref 52, zi t, zi d] ζ (some (zi 1)) (zU (zU (zU ζ 52 2 t) 52 3 d) 52 24 0) := by
  refine zrun_intro (M := mX7_track) (ls := [some (.ref 52), some (zi t), some (zi d)]) (by decide) rfl rfl rfl (Nat.le_of_ble_eq_true rfl) ?_
  intro X A C hX hA hr hk
  replace C : CX X B A mX7_track.2.2.2.2 RX7 cX7_track 3 0 0 := C
  have hr : (xMeth X).sig.returnType = (some .int) := hr
  change ZW X B A 3 0 0 _ _ 0 [some (.ref 52), some (zi t), some (zi d)] []
  refine zw_iload_n (i := 1) (nx := 1) C dX7_track_0 rfl rfl rfl ?_
  refine zw_cS11 (nx := 4) C dX7_track_1 rfl csX7_92 ⟨Nat.le_of_ble_eq_true rfl, Nat.le_of_ble_eq_true rfl⟩ (Nat.le_of_ble_eq_true rfl) (run_X7_isYard_t ht) ?_
  refine zw_if_eq (tgt := 18) (nx := 7) C dX7_track_4 rfl rfl (by omega) (fun h4 => by exfalso; omega) (fun h4 => ?_)
  refine zw_iload_n (i := 2) (nx := 8) C dX7_track_7 rfl rfl rfl ?_
  refine zw_iconst (nx := 9) C dX7_track_8 rfl ?_
  refine zw_sipush (v := 240) (nx := 12) C dX7_track_9 (by decide) rfl ?_
  refine zw_cS31 (nx := 15) C dX7_track_12 rfl csX7_88 ⟨Nat.le_of_ble_eq_true rfl, Nat.le_of_ble_eq_true rfl⟩ (Nat.le_of_ble_eq_true rfl) (run_X7_in_t (by omega) (by omega) hd) ?_
  refine zw_if_ne (tgt := 23) (nx := 18) C dX7_track_15 rfl rfl (by omega) (fun h15 => ?_) (fun h15 => by exfalso; omega)
  refine zw_aload_n (i := 0) (nx := 24) C dX7_track_23 rfl rfl rfl ?_
  refine zw_iload_n (i := 1) (nx := 25) C dX7_track_24 rfl rfl rfl ?_
  refine zw_puti (nx := 28) C dX7_track_25 rfl flX7_13 ic6 nf6_2 rfl rfl rfl rfl rfl ?_
  refine zw_aload_n (i := 0) (nx := 29) C dX7_track_28 rfl rfl rfl ?_
  refine zw_iload_n (i := 2) (nx := 30) C dX7_track_29 rfl rfl rfl ?_
  refine zw_puti (nx := 33) C dX7_track_30 rfl flX7_17 ic6 nf6_3 rfl rfl rfl rfl rfl ?_
  refine zw_aload_n (i := 0) (nx := 34) C dX7_track_33 rfl rfl rfl ?_
  refine zw_iconst (nx := 35) C dX7_track_34 rfl ?_
  refine zw_puti (nx := 38) C dX7_track_35 rfl flX7_85 ic6 nf6_24 rfl rfl rfl rfl rfl ?_
  refine zw_iconst (nx := 39) C dX7_track_38 rfl ?_
  exact zw_iret C hA hr hk dX7_track_39 rfl rfl
theorem run_X7_track_bad {t d : Int} (ht : -2147483648 ≤ t ∧ t ≤ 2147483647) (hd : -2147483648 ≤ d ∧ d ≤ 2147483647) (h : ¬ ((0 ≤ t ∧ t ≤ 7) ∧ (0 ≤ d ∧ d ≤ 240))) : zRun l B mX7_track [.ref 52, zi t, zi d] ζ (some (zi (-2))) (mBd ζ) := by
  refine zrun_intro (M := mX7_track) (ls := [some (.ref 52), some (zi t), some (zi d)]) (by decide) rfl rfl rfl (Nat.le_of_ble_eq_true rfl) ?_
  intro X A C hX hA hr hk
  replace C : CX X B A mX7_track.2.2.2.2 RX7 cX7_track 3 0 0 := C
  have hr : (xMeth X).sig.returnType = (some .int) := hr
  change ZW X B A 3 0 0 _ _ 0 [some (.ref 52), some (zi t), some (zi d)] []
  by_cases h1 : 0 ≤ t ∧ t ≤ 7
  · refine zw_iload_n (i := 1) (nx := 1) C dX7_track_0 rfl rfl rfl ?_
    refine zw_cS11 (nx := 4) C dX7_track_1 rfl csX7_92 ⟨Nat.le_of_ble_eq_true rfl, Nat.le_of_ble_eq_true rfl⟩ (Nat.le_of_ble_eq_true rfl) (run_X7_isYard_t h1) ?_
    refine zw_if_eq (tgt := 18) (nx := 7) C dX7_track_4 rfl rfl (by omega) (fun h4 => by exfalso; omega) (fun h4 => ?_)
    refine zw_iload_n (i := 2) (nx := 8) C dX7_track_7 rfl rfl rfl ?_
    refine zw_iconst (nx := 9) C dX7_track_8 rfl ?_
    refine zw_sipush (v := 240) (nx := 12) C dX7_track_9 (by decide) rfl ?_
    refine zw_cS31 (nx := 15) C dX7_track_12 rfl csX7_88 ⟨Nat.le_of_ble_eq_true rfl, Nat.le_of_ble_eq_true rfl⟩ (Nat.le_of_ble_eq_true rfl) (run_X7_in_f hd (by omega) (fun q => h ⟨h1, q⟩)) ?_
    refine zw_if_ne (tgt := 23) (nx := 18) C dX7_track_15 rfl rfl (by omega) (fun h15 => by exfalso; omega) (fun h15 => ?_)
    refine zw_aload_n (i := 0) (nx := 19) C dX7_track_18 rfl rfl rfl ?_
    refine zw_cV01 (nx := 22) C dX7_track_19 rfl cvX7_96 rfl rfl ⟨Nat.le_of_ble_eq_true rfl, Nat.le_of_ble_eq_true rfl⟩ rfl rfl (Nat.le_of_ble_eq_true rfl) run_X7_bad ?_
    exact zw_iret C hA hr hk dX7_track_22 rfl rfl
  · refine zw_iload_n (i := 1) (nx := 1) C dX7_track_0 rfl rfl rfl ?_
    refine zw_cS11 (nx := 4) C dX7_track_1 rfl csX7_92 ⟨Nat.le_of_ble_eq_true rfl, Nat.le_of_ble_eq_true rfl⟩ (Nat.le_of_ble_eq_true rfl) (run_X7_isYard_f ht h1) ?_
    refine zw_if_eq (tgt := 18) (nx := 7) C dX7_track_4 rfl rfl (by omega) (fun h4 => ?_) (fun h4 => by exfalso; omega)
    refine zw_aload_n (i := 0) (nx := 19) C dX7_track_18 rfl rfl rfl ?_
    refine zw_cV01 (nx := 22) C dX7_track_19 rfl cvX7_96 rfl rfl ⟨Nat.le_of_ble_eq_true rfl, Nat.le_of_ble_eq_true rfl⟩ rfl rfl (Nat.le_of_ble_eq_true rfl) run_X7_bad ?_
    exact zw_iret C hA hr hk dX7_track_22 rfl rfl
theorem run_X7_height_ok {y : Nat} {h : Int} (hy : y < 8) (hh : 0 ≤ h ∧ h ≤ 9) : zRun l B mX7_height [.ref 52, zi y, zi h] ζ (some (zi (ζ.1 54 y))) (zU (zU ζ 54 y h) 52 24 0) := by
  refine zrun_intro (M := mX7_height) (ls := [some (.ref 52), some (zi y), some (zi h), none]) (by decide) rfl rfl rfl (Nat.le_of_ble_eq_true rfl) ?_
  intro X A C hX hA hr hk
  replace C : CX X B A mX7_height.2.2.2.2 RX7 cX7_height 4 0 0 := C
  have hr : (xMeth X).sig.returnType = (some .int) := hr
  change ZW X B A 4 0 0 _ _ 0 [some (.ref 52), some (zi y), some (zi h), none] []
  refine zw_iload_n (i := 1) (nx := 1) C dX7_height_0 rfl rfl rfl ?_
  refine zw_cS11 (nx := 4) C dX7_height_1 rfl csX7_92 ⟨Nat.le_of_ble_eq_true rfl, Nat.le_of_ble_eq_true rfl⟩ (Nat.le_of_ble_eq_true rfl) (run_X7_isYard_t (by omega)) ?_
  refine zw_if_eq (tgt := 17) (nx := 7) C dX7_height_4 rfl rfl (by omega) (fun h4 => by exfalso; omega) (fun h4 => ?_)
  refine zw_iload_n (i := 2) (nx := 8) C dX7_height_7 rfl rfl rfl ?_
  refine zw_iconst (nx := 9) C dX7_height_8 rfl ?_
  refine zw_bipush (v := 9) (nx := 11) C dX7_height_9 (by decide) rfl ?_
  refine zw_cS31 (nx := 14) C dX7_height_11 rfl csX7_88 ⟨Nat.le_of_ble_eq_true rfl, Nat.le_of_ble_eq_true rfl⟩ (Nat.le_of_ble_eq_true rfl) (run_X7_in_t (by omega) (by omega) hh) ?_
  refine zw_if_ne (tgt := 22) (nx := 17) C dX7_height_14 rfl rfl (by omega) (fun h14 => ?_) (fun h14 => by exfalso; omega)
  refine zw_aload_n (i := 0) (nx := 23) C dX7_height_22 rfl rfl rfl ?_
  refine zw_getr (nx := 26) C dX7_height_23 rfl flX7_20 iq6 rfl rfl rfl rfl ?_
  refine zw_iload_n (i := 1) (nx := 27) C dX7_height_26 rfl rfl rfl ?_
  refine zw_iald (y) (nx := 28) C dX7_height_27 rfl rfl rfl rfl (by omega) ?_
  refine zw_ist3 (nx := 29) C (eIst_n dX7_height_28 rfl rfl) (Nat.le_of_ble_eq_true rfl) rfl ?_
  refine zw_aload_n (i := 0) (nx := 30) C dX7_height_29 rfl rfl rfl ?_
  refine zw_getr (nx := 33) C dX7_height_30 rfl flX7_20 iq6 rfl rfl rfl rfl ?_
  refine zw_iload_n (i := 1) (nx := 34) C dX7_height_33 rfl rfl rfl ?_
  refine zw_iload_n (i := 2) (nx := 35) C dX7_height_34 rfl rfl rfl ?_
  refine zw_iast (y) (nx := 36) C dX7_height_35 rfl rfl rfl rfl (by omega) ?_
  refine zw_aload_n (i := 0) (nx := 37) C dX7_height_36 rfl rfl rfl ?_
  refine zw_iconst (nx := 38) C dX7_height_37 rfl ?_
  refine zw_puti (nx := 41) C dX7_height_38 rfl flX7_85 ic6 nf6_24 rfl rfl rfl rfl rfl ?_
  refine zw_iload_n (i := 3) (nx := 42) C dX7_height_41 rfl rfl rfl ?_
  exact zw_iret C hA hr hk dX7_height_42 rfl rfl
theorem run_X7_height_bad {y h : Int} (hy : -2147483648 ≤ y ∧ y ≤ 2147483647) (hh : -2147483648 ≤ h ∧ h ≤ 2147483647) (hn : ¬ ((0 ≤ y ∧ y ≤ 7) ∧ (0 ≤ h ∧ h ≤ 9))) : zRun l B mX7_height [.ref 52, zi y, zi h] ζ (some (zi (-2))) (mBd ζ) := by
  refine zrun_intro (M := mX7_height) (ls := [some (.ref 52), some (zi y), some (zi h), none]) (by decide) rfl rfl rfl (Nat.le_of_ble_eq_true rfl) ?_
  intro X A C hX hA hr hk
  replace C : CX X B A mX7_height.2.2.2.2 RX7 cX7_height 4 0 0 := C
  have hr : (xMeth X).sig.returnType = (some .int) := hr
  change ZW X B A 4 0 0 _ _ 0 [some (.ref 52), some (zi y), some (zi h), none] []
  by_cases h1 : 0 ≤ y ∧ y ≤ 7
  · refine zw_iload_n (i := 1) (nx := 1) C dX7_height_0 rfl rfl rfl ?_
    refine zw_cS11 (nx := 4) C dX7_height_1 rfl csX7_92 ⟨Nat.le_of_ble_eq_true rfl, Nat.le_of_ble_eq_true rfl⟩ (Nat.le_of_ble_eq_true rfl) (run_X7_isYard_t h1) ?_
    refine zw_if_eq (tgt := 17) (nx := 7) C dX7_height_4 rfl rfl (by omega) (fun h4 => by exfalso; omega) (fun h4 => ?_)
    refine zw_iload_n (i := 2) (nx := 8) C dX7_height_7 rfl rfl rfl ?_
    refine zw_iconst (nx := 9) C dX7_height_8 rfl ?_
    refine zw_bipush (v := 9) (nx := 11) C dX7_height_9 (by decide) rfl ?_
    refine zw_cS31 (nx := 14) C dX7_height_11 rfl csX7_88 ⟨Nat.le_of_ble_eq_true rfl, Nat.le_of_ble_eq_true rfl⟩ (Nat.le_of_ble_eq_true rfl) (run_X7_in_f hh (by omega) (fun q => hn ⟨h1, q⟩)) ?_
    refine zw_if_ne (tgt := 22) (nx := 17) C dX7_height_14 rfl rfl (by omega) (fun h14 => by exfalso; omega) (fun h14 => ?_)
    refine zw_aload_n (i := 0) (nx := 18) C dX7_height_17 rfl rfl rfl ?_
    refine zw_cV01 (nx := 21) C dX7_height_18 rfl cvX7_96 rfl rfl ⟨Nat.le_of_ble_eq_true rfl, Nat.le_of_ble_eq_true rfl⟩ rfl rfl (Nat.le_of_ble_eq_true rfl) run_X7_bad ?_
    exact zw_iret C hA hr hk dX7_height_21 rfl rfl
  · refine zw_iload_n (i := 1) (nx := 1) C dX7_height_0 rfl rfl rfl ?_
    refine zw_cS11 (nx := 4) C dX7_height_1 rfl csX7_92 ⟨Nat.le_of_ble_eq_true rfl, Nat.le_of_ble_eq_true rfl⟩ (Nat.le_of_ble_eq_true rfl) (run_X7_isYard_f hy h1) ?_
    refine zw_if_eq (tgt := 17) (nx := 7) C dX7_height_4 rfl rfl (by omega) (fun h4 => ?_) (fun h4 => by exfalso; omega)
    refine zw_aload_n (i := 0) (nx := 18) C dX7_height_17 rfl rfl rfl ?_
    refine zw_cV01 (nx := 21) C dX7_height_18 rfl cvX7_96 rfl rfl ⟨Nat.le_of_ble_eq_true rfl, Nat.le_of_ble_eq_true rfl⟩ rfl rfl (Nat.le_of_ble_eq_true rfl) run_X7_bad ?_
    exact zw_iret C hA hr hk dX7_height_21 rfl rfl
theorem run_X7_one_ok {n : Nat} (hn : n < 5) (hn3 : ζ.1 52 1 = n) {k u : Int} (hk0 : 0 ≤ k ∧ k ≤ 5) (hu : 0 ≤ u ∧ u ≤ 500) : zRun l B mX7_one [.ref 52, zi k, zi u] ζ (some (zi n)) (mAd ζ n k u) := by
  refine zrun_intro (M := mX7_one) (ls := [some (.ref 52), some (zi k), some (zi u)]) (by decide) rfl rfl rfl (Nat.le_of_ble_eq_true rfl) ?_
  intro X A C hX hA hr hk
  replace C : CX X B A mX7_one.2.2.2.2 RX7 cX7_one 3 0 0 := C
  have hr : (xMeth X).sig.returnType = (some .int) := hr
  change ZW X B A 3 0 0 _ _ 0 [some (.ref 52), some (zi k), some (zi u)] []
  refine zw_iload_n (i := 1) (nx := 1) C dX7_one_0 rfl rfl rfl ?_
  refine zw_iconst (nx := 2) C dX7_one_1 rfl ?_
  refine zw_iconst (nx := 3) C dX7_one_2 rfl ?_
  refine zw_cS31 (nx := 6) C dX7_one_3 rfl csX7_88 ⟨Nat.le_of_ble_eq_true rfl, Nat.le_of_ble_eq_true rfl⟩ (Nat.le_of_ble_eq_true rfl) (run_X7_in_t (by omega) (by omega) hk0) ?_
  refine zw_if_eq (tgt := 20) (nx := 9) C dX7_one_6 rfl rfl (by omega) (fun h6 => by exfalso; omega) (fun h6 => ?_)
  refine zw_iload_n (i := 2) (nx := 10) C dX7_one_9 rfl rfl rfl ?_
  refine zw_iconst (nx := 11) C dX7_one_10 rfl ?_
  refine zw_sipush (v := 500) (nx := 14) C dX7_one_11 (by decide) rfl ?_
  refine zw_cS31 (nx := 17) C dX7_one_14 rfl csX7_88 ⟨Nat.le_of_ble_eq_true rfl, Nat.le_of_ble_eq_true rfl⟩ (Nat.le_of_ble_eq_true rfl) (run_X7_in_t (by omega) (by omega) hu) ?_
  refine zw_if_ne (tgt := 25) (nx := 20) C dX7_one_17 rfl rfl (by omega) (fun h17 => ?_) (fun h17 => by exfalso; omega)
  refine zw_aload_n (i := 0) (nx := 26) C dX7_one_25 rfl rfl rfl ?_
  refine zw_geti (nx := 29) C dX7_one_26 rfl flX7_79 iq6 rfl rfl rfl rfl ?_
  refine zw_iconst (nx := 30) C dX7_one_29 rfl ?_
  refine zw_icmp_ne (tgt := 40) (nx := 33) C dX7_one_30 rfl rfl (by omega) (fun h30 => ?_) (fun h30 => by exfalso; omega)
  refine zw_aload_n (i := 0) (nx := 41) C dX7_one_40 rfl rfl rfl ?_
  refine zw_iload_n (i := 1) (nx := 42) C dX7_one_41 rfl rfl rfl ?_
  refine zw_iload_n (i := 2) (nx := 43) C dX7_one_42 rfl rfl rfl ?_
  refine zw_cV21 (nx := 46) C dX7_one_43 rfl cvX7_103 rfl rfl ⟨Nat.le_of_ble_eq_true rfl, Nat.le_of_ble_eq_true rfl⟩ rfl rfl (Nat.le_of_ble_eq_true rfl) (run_X7_addOne hn hn3) ?_
  exact zw_iret C hA hr hk dX7_one_46 rfl rfl
theorem run_X7_one_full (hn3 : ζ.1 52 1 = 5) {k u : Int} (hk0 : 0 ≤ k ∧ k ≤ 5) (hu : 0 ≤ u ∧ u ≤ 500) : zRun l B mX7_one [.ref 52, zi k, zi u] ζ (some (zi (-4))) (mFu ζ) := by
  refine zrun_intro (M := mX7_one) (ls := [some (.ref 52), some (zi k), some (zi u)]) (by decide) rfl rfl rfl (Nat.le_of_ble_eq_true rfl) ?_
  intro X A C hX hA hr hk
  replace C : CX X B A mX7_one.2.2.2.2 RX7 cX7_one 3 0 0 := C
  have hr : (xMeth X).sig.returnType = (some .int) := hr
  change ZW X B A 3 0 0 _ _ 0 [some (.ref 52), some (zi k), some (zi u)] []
  refine zw_iload_n (i := 1) (nx := 1) C dX7_one_0 rfl rfl rfl ?_
  refine zw_iconst (nx := 2) C dX7_one_1 rfl ?_
  refine zw_iconst (nx := 3) C dX7_one_2 rfl ?_
  refine zw_cS31 (nx := 6) C dX7_one_3 rfl csX7_88 ⟨Nat.le_of_ble_eq_true rfl, Nat.le_of_ble_eq_true rfl⟩ (Nat.le_of_ble_eq_true rfl) (run_X7_in_t (by omega) (by omega) hk0) ?_
  refine zw_if_eq (tgt := 20) (nx := 9) C dX7_one_6 rfl rfl (by omega) (fun h6 => by exfalso; omega) (fun h6 => ?_)
  refine zw_iload_n (i := 2) (nx := 10) C dX7_one_9 rfl rfl rfl ?_
  refine zw_iconst (nx := 11) C dX7_one_10 rfl ?_
  refine zw_sipush (v := 500) (nx := 14) C dX7_one_11 (by decide) rfl ?_
  refine zw_cS31 (nx := 17) C dX7_one_14 rfl csX7_88 ⟨Nat.le_of_ble_eq_true rfl, Nat.le_of_ble_eq_true rfl⟩ (Nat.le_of_ble_eq_true rfl) (run_X7_in_t (by omega) (by omega) hu) ?_
  refine zw_if_ne (tgt := 25) (nx := 20) C dX7_one_17 rfl rfl (by omega) (fun h17 => ?_) (fun h17 => by exfalso; omega)
  refine zw_aload_n (i := 0) (nx := 26) C dX7_one_25 rfl rfl rfl ?_
  refine zw_geti (nx := 29) C dX7_one_26 rfl flX7_79 iq6 rfl rfl rfl rfl ?_
  refine zw_iconst (nx := 30) C dX7_one_29 rfl ?_
  refine zw_icmp_ne (tgt := 40) (nx := 33) C dX7_one_30 rfl rfl (by omega) (fun h30 => by exfalso; omega) (fun h30 => ?_)
  refine zw_aload_n (i := 0) (nx := 34) C dX7_one_33 rfl rfl rfl ?_
  refine zw_cV01 (nx := 37) C dX7_one_34 rfl cvX7_100 rfl rfl ⟨Nat.le_of_ble_eq_true rfl, Nat.le_of_ble_eq_true rfl⟩ rfl rfl (Nat.le_of_ble_eq_true rfl) run_X7_full ?_
  refine zw_goto (nx := 46) C dX7_one_37 rfl ?_
  exact zw_iret C hA hr hk dX7_one_46 rfl rfl
theorem run_X7_one_bad {k u : Int} (hk0 : -2147483648 ≤ k ∧ k ≤ 2147483647) (hu : -2147483648 ≤ u ∧ u ≤ 2147483647) (hn : ¬ ((0 ≤ k ∧ k ≤ 5) ∧ (0 ≤ u ∧ u ≤ 500))) : zRun l B mX7_one [.ref 52, zi k, zi u] ζ (some (zi (-2))) (mBd ζ) := by
  refine zrun_intro (M := mX7_one) (ls := [some (.ref 52), some (zi k), some (zi u)]) (by decide) rfl rfl rfl (Nat.le_of_ble_eq_true rfl) ?_
  intro X A C hX hA hr hk
  replace C : CX X B A mX7_one.2.2.2.2 RX7 cX7_one 3 0 0 := C
  have hr : (xMeth X).sig.returnType = (some .int) := hr
  change ZW X B A 3 0 0 _ _ 0 [some (.ref 52), some (zi k), some (zi u)] []
  by_cases h1 : 0 ≤ k ∧ k ≤ 5
  · refine zw_iload_n (i := 1) (nx := 1) C dX7_one_0 rfl rfl rfl ?_
    refine zw_iconst (nx := 2) C dX7_one_1 rfl ?_
    refine zw_iconst (nx := 3) C dX7_one_2 rfl ?_
    refine zw_cS31 (nx := 6) C dX7_one_3 rfl csX7_88 ⟨Nat.le_of_ble_eq_true rfl, Nat.le_of_ble_eq_true rfl⟩ (Nat.le_of_ble_eq_true rfl) (run_X7_in_t (by omega) (by omega) h1) ?_
    refine zw_if_eq (tgt := 20) (nx := 9) C dX7_one_6 rfl rfl (by omega) (fun h6 => by exfalso; omega) (fun h6 => ?_)
    refine zw_iload_n (i := 2) (nx := 10) C dX7_one_9 rfl rfl rfl ?_
    refine zw_iconst (nx := 11) C dX7_one_10 rfl ?_
    refine zw_sipush (v := 500) (nx := 14) C dX7_one_11 (by decide) rfl ?_
    refine zw_cS31 (nx := 17) C dX7_one_14 rfl csX7_88 ⟨Nat.le_of_ble_eq_true rfl, Nat.le_of_ble_eq_true rfl⟩ (Nat.le_of_ble_eq_true rfl) (run_X7_in_f hu (by omega) (fun q => hn ⟨h1, q⟩)) ?_
    refine zw_if_ne (tgt := 25) (nx := 20) C dX7_one_17 rfl rfl (by omega) (fun h17 => by exfalso; omega) (fun h17 => ?_)
    refine zw_aload_n (i := 0) (nx := 21) C dX7_one_20 rfl rfl rfl ?_
    refine zw_cV01 (nx := 24) C dX7_one_21 rfl cvX7_96 rfl rfl ⟨Nat.le_of_ble_eq_true rfl, Nat.le_of_ble_eq_true rfl⟩ rfl rfl (Nat.le_of_ble_eq_true rfl) run_X7_bad ?_
    exact zw_iret C hA hr hk dX7_one_24 rfl rfl
  · refine zw_iload_n (i := 1) (nx := 1) C dX7_one_0 rfl rfl rfl ?_
    refine zw_iconst (nx := 2) C dX7_one_1 rfl ?_
    refine zw_iconst (nx := 3) C dX7_one_2 rfl ?_
    refine zw_cS31 (nx := 6) C dX7_one_3 rfl csX7_88 ⟨Nat.le_of_ble_eq_true rfl, Nat.le_of_ble_eq_true rfl⟩ (Nat.le_of_ble_eq_true rfl) (run_X7_in_f hk0 (by omega) h1) ?_
    refine zw_if_eq (tgt := 20) (nx := 9) C dX7_one_6 rfl rfl (by omega) (fun h6 => ?_) (fun h6 => by exfalso; omega)
    refine zw_aload_n (i := 0) (nx := 21) C dX7_one_20 rfl rfl rfl ?_
    refine zw_cV01 (nx := 24) C dX7_one_21 rfl cvX7_96 rfl rfl ⟨Nat.le_of_ble_eq_true rfl, Nat.le_of_ble_eq_true rfl⟩ rfl rfl (Nat.le_of_ble_eq_true rfl) run_X7_bad ?_
    exact zw_iret C hA hr hk dX7_one_24 rfl rfl
theorem run_X7_type_ok {t : Nat} (ht : t < 150) (ht3 : ζ.1 52 15 = t) {c : Int} (hc : 0 ≤ c ∧ c ≤ 127) : zRun l B mX7_type [.ref 52, zi c] ζ (some (zi (t + 1))) (zU (zU ζ 63 t c) 52 15 (t + 1)) := by
  refine zrun_intro (M := mX7_type) (ls := [some (.ref 52), some (zi c)]) (by decide) rfl rfl rfl (Nat.le_of_ble_eq_true rfl) ?_
  intro X A C hX hA hr hk
  replace C : CX X B A mX7_type.2.2.2.2 RX7 cX7_type 2 0 0 := C
  have hr : (xMeth X).sig.returnType = (some .int) := hr
  change ZW X B A 2 0 0 _ _ 0 [some (.ref 52), some (zi c)] []
  refine zw_iload_n (i := 1) (nx := 1) C dX7_type_0 rfl rfl rfl ?_
  refine zw_iconst (nx := 2) C dX7_type_1 rfl ?_
  refine zw_bipush (v := 127) (nx := 4) C dX7_type_2 (by decide) rfl ?_
  refine zw_cS31 (nx := 7) C dX7_type_4 rfl csX7_88 ⟨Nat.le_of_ble_eq_true rfl, Nat.le_of_ble_eq_true rfl⟩ (Nat.le_of_ble_eq_true rfl) (run_X7_in_t (by omega) (by omega) hc) ?_
  refine zw_if_ne (tgt := 15) (nx := 10) C dX7_type_7 rfl rfl (by omega) (fun h7 => ?_) (fun h7 => by exfalso; omega)
  refine zw_aload_n (i := 0) (nx := 16) C dX7_type_15 rfl rfl rfl ?_
  refine zw_geti (nx := 19) C dX7_type_16 rfl flX7_107 iq6 rfl rfl rfl rfl ?_
  refine zw_sipush (v := 150) (nx := 22) C dX7_type_19 (by decide) rfl ?_
  refine zw_icmp_ne (tgt := 30) (nx := 25) C dX7_type_22 rfl rfl (by omega) (fun h22 => ?_) (fun h22 => by exfalso; omega)
  refine zw_aload_n (i := 0) (nx := 31) C dX7_type_30 rfl rfl rfl ?_
  refine zw_getr (nx := 34) C dX7_type_31 rfl flX7_47 iq6 rfl rfl rfl rfl ?_
  refine zw_aload_n (i := 0) (nx := 35) C dX7_type_34 rfl rfl rfl ?_
  refine zw_geti (nx := 38) C dX7_type_35 rfl flX7_107 iq6 rfl rfl rfl rfl ?_
  refine zw_iload_n (i := 1) (nx := 39) C dX7_type_38 rfl rfl rfl ?_
  refine zw_iast (t) (nx := 40) C dX7_type_39 rfl rfl rfl rfl (by omega) ?_
  refine zw_aload_n (i := 0) (nx := 41) C dX7_type_40 rfl rfl rfl ?_
  refine zw_dup (nx := 42) C dX7_type_41 rfl rfl ?_
  refine zw_geti (nx := 45) C dX7_type_42 rfl flX7_107 iq6 rfl rfl rfl rfl ?_
  refine zw_iconst (nx := 46) C dX7_type_45 rfl ?_
  simp only [zU_at, zCp_at, zR_at, zFill_at, Nat.reduceEqDiff, reduceIte, and_self, and_true, true_and, and_false, false_and]
  rw [ht3]
  refine zw_iadd (nx := 47) C dX7_type_46 rfl ?_
  refine zw_puti (nx := 50) C dX7_type_47 rfl flX7_107 ic6 nf6_15 rfl rfl rfl rfl rfl ?_
  refine zw_aload_n (i := 0) (nx := 51) C dX7_type_50 rfl rfl rfl ?_
  refine zw_geti (nx := 54) C dX7_type_51 rfl flX7_107 iq6 rfl rfl rfl rfl ?_
  simp only [zU_at, zCp_at, zR_at, zFill_at, Nat.reduceEqDiff, reduceIte, and_self, and_true, true_and, and_false, false_and]
  exact zw_iret C hA hr hk dX7_type_54 rfl rfl
theorem run_X7_type_full (ht3 : ζ.1 52 15 = 150) {c : Int} (hc : 0 ≤ c ∧ c ≤ 127) : zRun l B mX7_type [.ref 52, zi c] ζ (some (zi (-4))) (mFu ζ) := by
  refine zrun_intro (M := mX7_type) (ls := [some (.ref 52), some (zi c)]) (by decide) rfl rfl rfl (Nat.le_of_ble_eq_true rfl) ?_
  intro X A C hX hA hr hk
  replace C : CX X B A mX7_type.2.2.2.2 RX7 cX7_type 2 0 0 := C
  have hr : (xMeth X).sig.returnType = (some .int) := hr
  change ZW X B A 2 0 0 _ _ 0 [some (.ref 52), some (zi c)] []
  refine zw_iload_n (i := 1) (nx := 1) C dX7_type_0 rfl rfl rfl ?_
  refine zw_iconst (nx := 2) C dX7_type_1 rfl ?_
  refine zw_bipush (v := 127) (nx := 4) C dX7_type_2 (by decide) rfl ?_
  refine zw_cS31 (nx := 7) C dX7_type_4 rfl csX7_88 ⟨Nat.le_of_ble_eq_true rfl, Nat.le_of_ble_eq_true rfl⟩ (Nat.le_of_ble_eq_true rfl) (run_X7_in_t (by omega) (by omega) hc) ?_
  refine zw_if_ne (tgt := 15) (nx := 10) C dX7_type_7 rfl rfl (by omega) (fun h7 => ?_) (fun h7 => by exfalso; omega)
  refine zw_aload_n (i := 0) (nx := 16) C dX7_type_15 rfl rfl rfl ?_
  refine zw_geti (nx := 19) C dX7_type_16 rfl flX7_107 iq6 rfl rfl rfl rfl ?_
  refine zw_sipush (v := 150) (nx := 22) C dX7_type_19 (by decide) rfl ?_
  refine zw_icmp_ne (tgt := 30) (nx := 25) C dX7_type_22 rfl rfl (by omega) (fun h22 => by exfalso; omega) (fun h22 => ?_)
  refine zw_aload_n (i := 0) (nx := 26) C dX7_type_25 rfl rfl rfl ?_
  refine zw_cV01 (nx := 29) C dX7_type_26 rfl cvX7_100 rfl rfl ⟨Nat.le_of_ble_eq_true rfl, Nat.le_of_ble_eq_true rfl⟩ rfl rfl (Nat.le_of_ble_eq_true rfl) run_X7_full ?_
  exact zw_iret C hA hr hk dX7_type_29 rfl rfl
theorem run_X7_type_bad {c : Int} (hc : -2147483648 ≤ c ∧ c ≤ 2147483647) (h : ¬ (0 ≤ c ∧ c ≤ 127)) : zRun l B mX7_type [.ref 52, zi c] ζ (some (zi (-2))) (mBd ζ) := by
  refine zrun_intro (M := mX7_type) (ls := [some (.ref 52), some (zi c)]) (by decide) rfl rfl rfl (Nat.le_of_ble_eq_true rfl) ?_
  intro X A C hX hA hr hk
  replace C : CX X B A mX7_type.2.2.2.2 RX7 cX7_type 2 0 0 := C
  have hr : (xMeth X).sig.returnType = (some .int) := hr
  change ZW X B A 2 0 0 _ _ 0 [some (.ref 52), some (zi c)] []
  refine zw_iload_n (i := 1) (nx := 1) C dX7_type_0 rfl rfl rfl ?_
  refine zw_iconst (nx := 2) C dX7_type_1 rfl ?_
  refine zw_bipush (v := 127) (nx := 4) C dX7_type_2 (by decide) rfl ?_
  refine zw_cS31 (nx := 7) C dX7_type_4 rfl csX7_88 ⟨Nat.le_of_ble_eq_true rfl, Nat.le_of_ble_eq_true rfl⟩ (Nat.le_of_ble_eq_true rfl) (run_X7_in_f hc (by omega) h) ?_
  refine zw_if_ne (tgt := 15) (nx := 10) C dX7_type_7 rfl rfl (by omega) (fun h7 => by exfalso; omega) (fun h7 => ?_)
  refine zw_aload_n (i := 0) (nx := 11) C dX7_type_10 rfl rfl rfl ?_
  refine zw_cV01 (nx := 14) C dX7_type_11 rfl cvX7_96 rfl rfl ⟨Nat.le_of_ble_eq_true rfl, Nat.le_of_ble_eq_true rfl⟩ rfl rfl (Nat.le_of_ble_eq_true rfl) run_X7_bad ?_
  exact zw_iret C hA hr hk dX7_type_14 rfl rfl
theorem run_X7_clear : zRun l B mX7_clear [.ref 52] ζ (some (zi (ζ.1 52 15))) (zU ζ 52 15 0) := by
  refine zrun_intro (M := mX7_clear) (ls := [some (.ref 52), none]) (by decide) rfl rfl rfl (Nat.le_of_ble_eq_true rfl) ?_
  intro X A C hX hA hr hk
  replace C : CX X B A mX7_clear.2.2.2.2 RX7 cX7_clear 2 0 0 := C
  have hr : (xMeth X).sig.returnType = (some .int) := hr
  change ZW X B A 2 0 0 _ _ 0 [some (.ref 52), none] []
  refine zw_aload_n (i := 0) (nx := 1) C dX7_clear_0 rfl rfl rfl ?_
  refine zw_geti (nx := 4) C dX7_clear_1 rfl flX7_107 iq6 rfl rfl rfl rfl ?_
  refine zw_ist1 (nx := 5) C (eIst_n dX7_clear_4 rfl rfl) (Nat.le_of_ble_eq_true rfl) rfl ?_
  refine zw_aload_n (i := 0) (nx := 6) C dX7_clear_5 rfl rfl rfl ?_
  refine zw_iconst (nx := 7) C dX7_clear_6 rfl ?_
  refine zw_puti (nx := 10) C dX7_clear_7 rfl flX7_107 ic6 nf6_15 rfl rfl rfl rfl rfl ?_
  refine zw_iload_n (i := 1) (nx := 11) C dX7_clear_10 rfl rfl rfl ?_
  exact zw_iret C hA hr hk dX7_clear_11 rfl rfl
theorem mRem_seat (s b : Nat) : (mRem ζ s).1 58 b = ζ.1 58 b := by
  unfold mRem mNt
  split
  · rw [zU_at, if_neg (fun q => absurd q.1 (by decide)), mLay_off _ _ _ (by decide)]
  · rw [zU_at, if_neg (fun q => absurd q.1 (by decide)), mLay_off _ _ _ (by decide), zU_at, if_neg (fun q => absurd q.1 (by decide)), mSh_off _ (by decide)]
theorem run_X7_leave_bad {n : Nat} (hn : n ≤ 5) (hn3 : ζ.1 52 1 = n) {p : Int} (hp : -2147483648 ≤ p ∧ p ≤ 2147483647) (h : ¬ (0 ≤ p ∧ p < n)) : zRun l B mX7_leave [.ref 52, zi p] ζ (some (zi (-2))) (mBd ζ) := by
  refine zrun_intro (M := mX7_leave) (ls := [some (.ref 52), some (zi p), none]) (by decide) rfl rfl rfl (Nat.le_of_ble_eq_true rfl) ?_
  intro X A C hX hA hr hk
  replace C : CX X B A mX7_leave.2.2.2.2 RX7 cX7_leave 3 0 0 := C
  have hr : (xMeth X).sig.returnType = (some .int) := hr
  change ZW X B A 3 0 0 _ _ 0 [some (.ref 52), some (zi p), none] []
  refine zw_aload_n (i := 0) (nx := 1) C dX7_leave_0 rfl rfl rfl ?_
  refine zw_iload_n (i := 1) (nx := 2) C dX7_leave_1 rfl rfl rfl ?_
  refine zw_cV11 (nx := 5) C dX7_leave_2 rfl cvX7_212 rfl rfl ⟨Nat.le_of_ble_eq_true rfl, Nat.le_of_ble_eq_true rfl⟩ rfl rfl (Nat.le_of_ble_eq_true rfl) (run_X7_isOne_f hn hn3 hp h) ?_
  refine zw_if_ne (tgt := 13) (nx := 8) C dX7_leave_5 rfl rfl (by omega) (fun h5 => by exfalso; omega) (fun h5 => ?_)
  refine zw_aload_n (i := 0) (nx := 9) C dX7_leave_8 rfl rfl rfl ?_
  refine zw_cV01 (nx := 12) C dX7_leave_9 rfl cvX7_96 rfl rfl ⟨Nat.le_of_ble_eq_true rfl, Nat.le_of_ble_eq_true rfl⟩ rfl rfl (Nat.le_of_ble_eq_true rfl) run_X7_bad ?_
  exact zw_iret C hA hr hk dX7_leave_12 rfl rfl
theorem run_X7_leave_no {n p : Nat} (hn : n ≤ 5) (hn3 : ζ.1 52 1 = n) (hp : p < n) (h : ζ.1 58 p = -1) : zRun l B mX7_leave [.ref 52, zi p] ζ (some (zi (-3))) (mNo ζ) := by
  refine zrun_intro (M := mX7_leave) (ls := [some (.ref 52), some (zi p), none]) (by decide) rfl rfl rfl (Nat.le_of_ble_eq_true rfl) ?_
  intro X A C hX hA hr hk
  replace C : CX X B A mX7_leave.2.2.2.2 RX7 cX7_leave 3 0 0 := C
  have hr : (xMeth X).sig.returnType = (some .int) := hr
  change ZW X B A 3 0 0 _ _ 0 [some (.ref 52), some (zi p), none] []
  refine zw_aload_n (i := 0) (nx := 1) C dX7_leave_0 rfl rfl rfl ?_
  refine zw_iload_n (i := 1) (nx := 2) C dX7_leave_1 rfl rfl rfl ?_
  refine zw_cV11 (nx := 5) C dX7_leave_2 rfl cvX7_212 rfl rfl ⟨Nat.le_of_ble_eq_true rfl, Nat.le_of_ble_eq_true rfl⟩ rfl rfl (Nat.le_of_ble_eq_true rfl) (run_X7_isOne_t hn hn3 (by omega)) ?_
  refine zw_if_ne (tgt := 13) (nx := 8) C dX7_leave_5 rfl rfl (by omega) (fun h5 => ?_) (fun h5 => by exfalso; omega)
  refine zw_aload_n (i := 0) (nx := 14) C dX7_leave_13 rfl rfl rfl ?_
  refine zw_getr (nx := 17) C dX7_leave_14 rfl flX7_32 iq6 rfl rfl rfl rfl ?_
  refine zw_iload_n (i := 1) (nx := 18) C dX7_leave_17 rfl rfl rfl ?_
  refine zw_iald (p) (nx := 19) C dX7_leave_18 rfl rfl rfl rfl (by omega) ?_
  refine zw_iconst (nx := 20) C dX7_leave_19 rfl ?_
  refine zw_icmp_ne (tgt := 28) (nx := 23) C dX7_leave_20 rfl rfl (by omega) (fun h20 => by exfalso; omega) (fun h20 => ?_)
  refine zw_aload_n (i := 0) (nx := 24) C dX7_leave_23 rfl rfl rfl ?_
  refine zw_cV01 (nx := 27) C dX7_leave_24 rfl cvX7_203 rfl rfl ⟨Nat.le_of_ble_eq_true rfl, Nat.le_of_ble_eq_true rfl⟩ rfl rfl (Nat.le_of_ble_eq_true rfl) run_X7_no ?_
  exact zw_iret C hA hr hk dX7_leave_27 rfl rfl
theorem run_X7_leave_ok {n p s : Nat} (hn : n ≤ 5) (hn3 : ζ.1 52 1 = n) (hp : p < n) (hs : s ≤ 8) (hs3 : ζ.1 52 24 = s) (h : 0 ≤ ζ.1 58 p ∧ ζ.1 58 p ≤ 7) : zRun l B mX7_leave [.ref 52, zi p] ζ (some (zi (ζ.1 58 p))) (zU (mRem ζ s) 58 p (-1)) := by
  refine zrun_intro (M := mX7_leave) (ls := [some (.ref 52), some (zi p), none]) (by decide) rfl rfl rfl (Nat.le_of_ble_eq_true rfl) ?_
  intro X A C hX hA hr hk
  replace C : CX X B A mX7_leave.2.2.2.2 RX7 cX7_leave 3 0 0 := C
  have hr : (xMeth X).sig.returnType = (some .int) := hr
  change ZW X B A 3 0 0 _ _ 0 [some (.ref 52), some (zi p), none] []
  refine zw_aload_n (i := 0) (nx := 1) C dX7_leave_0 rfl rfl rfl ?_
  refine zw_iload_n (i := 1) (nx := 2) C dX7_leave_1 rfl rfl rfl ?_
  refine zw_cV11 (nx := 5) C dX7_leave_2 rfl cvX7_212 rfl rfl ⟨Nat.le_of_ble_eq_true rfl, Nat.le_of_ble_eq_true rfl⟩ rfl rfl (Nat.le_of_ble_eq_true rfl) (run_X7_isOne_t hn hn3 (by omega)) ?_
  refine zw_if_ne (tgt := 13) (nx := 8) C dX7_leave_5 rfl rfl (by omega) (fun h5 => ?_) (fun h5 => by exfalso; omega)
  refine zw_aload_n (i := 0) (nx := 14) C dX7_leave_13 rfl rfl rfl ?_
  refine zw_getr (nx := 17) C dX7_leave_14 rfl flX7_32 iq6 rfl rfl rfl rfl ?_
  refine zw_iload_n (i := 1) (nx := 18) C dX7_leave_17 rfl rfl rfl ?_
  refine zw_iald (p) (nx := 19) C dX7_leave_18 rfl rfl rfl rfl (by omega) ?_
  refine zw_iconst (nx := 20) C dX7_leave_19 rfl ?_
  refine zw_icmp_ne (tgt := 28) (nx := 23) C dX7_leave_20 rfl rfl (by omega) (fun h20 => ?_) (fun h20 => by exfalso; omega)
  refine zw_aload_n (i := 0) (nx := 29) C dX7_leave_28 rfl rfl rfl ?_
  refine zw_cV00 (nx := 32) C dX7_leave_29 rfl cvX7_209 rfl rfl ⟨Nat.le_of_ble_eq_true rfl, Nat.le_of_ble_eq_true rfl⟩ rfl rfl (Nat.le_of_ble_eq_true rfl) (run_X7_notes hs hs3) ?_
  refine zw_aload_n (i := 0) (nx := 33) C dX7_leave_32 rfl rfl rfl ?_
  refine zw_getr (nx := 36) C dX7_leave_33 rfl flX7_32 iq6 rfl rfl rfl rfl ?_
  refine zw_iload_n (i := 1) (nx := 37) C dX7_leave_36 rfl rfl rfl ?_
  refine zw_iald (p) (nx := 38) C dX7_leave_37 rfl rfl rfl rfl (by omega) ?_
  refine zw_ist2 (nx := 39) C (eIst_n dX7_leave_38 rfl rfl) (Nat.le_of_ble_eq_true rfl) rfl ?_
  refine zw_aload_n (i := 0) (nx := 40) C dX7_leave_39 rfl rfl rfl ?_
  refine zw_getr (nx := 43) C dX7_leave_40 rfl flX7_32 iq6 rfl rfl rfl rfl ?_
  refine zw_iload_n (i := 1) (nx := 44) C dX7_leave_43 rfl rfl rfl ?_
  refine zw_iconst (nx := 45) C dX7_leave_44 rfl ?_
  refine zw_iast (p) (nx := 46) C dX7_leave_45 rfl rfl rfl rfl (by omega) ?_
  refine zw_iload_n (i := 2) (nx := 47) C dX7_leave_46 rfl rfl rfl ?_
  exact zw_iret C hA hr hk dX7_leave_47 (zr (mRem_seat s p).symm) rfl
theorem run_X7_moves_bad {n : Nat} (hn : n ≤ 5) (hn3 : ζ.1 52 1 = n) {p y : Int} (hp : -2147483648 ≤ p ∧ p ≤ 2147483647) (hy : -2147483648 ≤ y ∧ y ≤ 2147483647) (h : ¬ ((0 ≤ p ∧ p < n) ∧ (0 ≤ y ∧ y ≤ 7))) : zRun l B mX7_moves [.ref 52, zi p, zi y] ζ (some (zi (-2))) (mBd ζ) := by
  refine zrun_intro (M := mX7_moves) (ls := [some (.ref 52), some (zi p), some (zi y), none]) (by decide) rfl rfl rfl (Nat.le_of_ble_eq_true rfl) ?_
  intro X A C hX hA hr hk
  replace C : CX X B A mX7_moves.2.2.2.2 RX7 cX7_moves 4 0 0 := C
  have hr : (xMeth X).sig.returnType = (some .int) := hr
  change ZW X B A 4 0 0 _ _ 0 [some (.ref 52), some (zi p), some (zi y), none] []
  by_cases h1 : 0 ≤ p ∧ p < n
  · refine zw_aload_n (i := 0) (nx := 1) C dX7_moves_0 rfl rfl rfl ?_
    refine zw_iload_n (i := 1) (nx := 2) C dX7_moves_1 rfl rfl rfl ?_
    refine zw_cV11 (nx := 5) C dX7_moves_2 rfl cvX7_212 rfl rfl ⟨Nat.le_of_ble_eq_true rfl, Nat.le_of_ble_eq_true rfl⟩ rfl rfl (Nat.le_of_ble_eq_true rfl) (run_X7_isOne_t hn hn3 h1) ?_
    refine zw_if_eq (tgt := 15) (nx := 8) C dX7_moves_5 rfl rfl (by omega) (fun h5 => by exfalso; omega) (fun h5 => ?_)
    refine zw_iload_n (i := 2) (nx := 9) C dX7_moves_8 rfl rfl rfl ?_
    refine zw_cS11 (nx := 12) C dX7_moves_9 rfl csX7_92 ⟨Nat.le_of_ble_eq_true rfl, Nat.le_of_ble_eq_true rfl⟩ (Nat.le_of_ble_eq_true rfl) (run_X7_isYard_f hy (fun q => h ⟨h1, q⟩)) ?_
    refine zw_if_ne (tgt := 20) (nx := 15) C dX7_moves_12 rfl rfl (by omega) (fun h12 => by exfalso; omega) (fun h12 => ?_)
    refine zw_aload_n (i := 0) (nx := 16) C dX7_moves_15 rfl rfl rfl ?_
    refine zw_cV01 (nx := 19) C dX7_moves_16 rfl cvX7_96 rfl rfl ⟨Nat.le_of_ble_eq_true rfl, Nat.le_of_ble_eq_true rfl⟩ rfl rfl (Nat.le_of_ble_eq_true rfl) run_X7_bad ?_
    exact zw_iret C hA hr hk dX7_moves_19 rfl rfl
  · refine zw_aload_n (i := 0) (nx := 1) C dX7_moves_0 rfl rfl rfl ?_
    refine zw_iload_n (i := 1) (nx := 2) C dX7_moves_1 rfl rfl rfl ?_
    refine zw_cV11 (nx := 5) C dX7_moves_2 rfl cvX7_212 rfl rfl ⟨Nat.le_of_ble_eq_true rfl, Nat.le_of_ble_eq_true rfl⟩ rfl rfl (Nat.le_of_ble_eq_true rfl) (run_X7_isOne_f hn hn3 hp h1) ?_
    refine zw_if_eq (tgt := 15) (nx := 8) C dX7_moves_5 rfl rfl (by omega) (fun h5 => ?_) (fun h5 => by exfalso; omega)
    refine zw_aload_n (i := 0) (nx := 16) C dX7_moves_15 rfl rfl rfl ?_
    refine zw_cV01 (nx := 19) C dX7_moves_16 rfl cvX7_96 rfl rfl ⟨Nat.le_of_ble_eq_true rfl, Nat.le_of_ble_eq_true rfl⟩ rfl rfl (Nat.le_of_ble_eq_true rfl) run_X7_bad ?_
    exact zw_iret C hA hr hk dX7_moves_19 rfl rfl
theorem run_X7_moves_no {n p y : Nat} (hc : mOk ζ n) (hp : p < n) (hy : y < 8) (h : ζ.1 58 p = -1 ∨ sHol (mV ζ) y 0 n ≠ -1) : zRun l B mX7_moves [.ref 52, zi p, zi y] ζ (some (zi (-3))) (mNo ζ) := by
  have hn := hc.1.1
  have hs : -1 ≤ ζ.1 58 p ∧ ζ.1 58 p ≤ 7 := (hc.1.2.2.2.2 p hp).2.2.2
  have hb := sHol_bd (mV ζ) y n 0
  refine zrun_intro (M := mX7_moves) (ls := [some (.ref 52), some (zi p), some (zi y), none]) (by decide) rfl rfl rfl (Nat.le_of_ble_eq_true rfl) ?_
  intro X A C hX hA hr hk
  replace C : CX X B A mX7_moves.2.2.2.2 RX7 cX7_moves 4 0 0 := C
  have hr : (xMeth X).sig.returnType = (some .int) := hr
  change ZW X B A 4 0 0 _ _ 0 [some (.ref 52), some (zi p), some (zi y), none] []
  by_cases h1 : ζ.1 58 p = -1
  · refine zw_aload_n (i := 0) (nx := 1) C dX7_moves_0 rfl rfl rfl ?_
    refine zw_iload_n (i := 1) (nx := 2) C dX7_moves_1 rfl rfl rfl ?_
    refine zw_cV11 (nx := 5) C dX7_moves_2 rfl cvX7_212 rfl rfl ⟨Nat.le_of_ble_eq_true rfl, Nat.le_of_ble_eq_true rfl⟩ rfl rfl (Nat.le_of_ble_eq_true rfl) (run_X7_isOne_t hn hc.2 (by omega)) ?_
    refine zw_if_eq (tgt := 15) (nx := 8) C dX7_moves_5 rfl rfl (by omega) (fun h5 => by exfalso; omega) (fun h5 => ?_)
    refine zw_iload_n (i := 2) (nx := 9) C dX7_moves_8 rfl rfl rfl ?_
    refine zw_cS11 (nx := 12) C dX7_moves_9 rfl csX7_92 ⟨Nat.le_of_ble_eq_true rfl, Nat.le_of_ble_eq_true rfl⟩ (Nat.le_of_ble_eq_true rfl) (run_X7_isYard_t (by omega)) ?_
    refine zw_if_ne (tgt := 20) (nx := 15) C dX7_moves_12 rfl rfl (by omega) (fun h12 => ?_) (fun h12 => by exfalso; omega)
    refine zw_aload_n (i := 0) (nx := 21) C dX7_moves_20 rfl rfl rfl ?_
    refine zw_getr (nx := 24) C dX7_moves_21 rfl flX7_32 iq6 rfl rfl rfl rfl ?_
    refine zw_iload_n (i := 1) (nx := 25) C dX7_moves_24 rfl rfl rfl ?_
    refine zw_iald (p) (nx := 26) C dX7_moves_25 rfl rfl rfl rfl (by omega) ?_
    refine zw_iconst (nx := 27) C dX7_moves_26 rfl ?_
    refine zw_icmp_eq (tgt := 39) (nx := 30) C dX7_moves_27 rfl rfl (by omega) (fun h27 => ?_) (fun h27 => by exfalso; omega)
    refine zw_aload_n (i := 0) (nx := 40) C dX7_moves_39 rfl rfl rfl ?_
    refine zw_cV01 (nx := 43) C dX7_moves_40 rfl cvX7_203 rfl rfl ⟨Nat.le_of_ble_eq_true rfl, Nat.le_of_ble_eq_true rfl⟩ rfl rfl (Nat.le_of_ble_eq_true rfl) run_X7_no ?_
    exact zw_iret C hA hr hk dX7_moves_43 rfl rfl
  · refine zw_aload_n (i := 0) (nx := 1) C dX7_moves_0 rfl rfl rfl ?_
    refine zw_iload_n (i := 1) (nx := 2) C dX7_moves_1 rfl rfl rfl ?_
    refine zw_cV11 (nx := 5) C dX7_moves_2 rfl cvX7_212 rfl rfl ⟨Nat.le_of_ble_eq_true rfl, Nat.le_of_ble_eq_true rfl⟩ rfl rfl (Nat.le_of_ble_eq_true rfl) (run_X7_isOne_t hn hc.2 (by omega)) ?_
    refine zw_if_eq (tgt := 15) (nx := 8) C dX7_moves_5 rfl rfl (by omega) (fun h5 => by exfalso; omega) (fun h5 => ?_)
    refine zw_iload_n (i := 2) (nx := 9) C dX7_moves_8 rfl rfl rfl ?_
    refine zw_cS11 (nx := 12) C dX7_moves_9 rfl csX7_92 ⟨Nat.le_of_ble_eq_true rfl, Nat.le_of_ble_eq_true rfl⟩ (Nat.le_of_ble_eq_true rfl) (run_X7_isYard_t (by omega)) ?_
    refine zw_if_ne (tgt := 20) (nx := 15) C dX7_moves_12 rfl rfl (by omega) (fun h12 => ?_) (fun h12 => by exfalso; omega)
    refine zw_aload_n (i := 0) (nx := 21) C dX7_moves_20 rfl rfl rfl ?_
    refine zw_getr (nx := 24) C dX7_moves_21 rfl flX7_32 iq6 rfl rfl rfl rfl ?_
    refine zw_iload_n (i := 1) (nx := 25) C dX7_moves_24 rfl rfl rfl ?_
    refine zw_iald (p) (nx := 26) C dX7_moves_25 rfl rfl rfl rfl (by omega) ?_
    refine zw_iconst (nx := 27) C dX7_moves_26 rfl ?_
    refine zw_icmp_eq (tgt := 39) (nx := 30) C dX7_moves_27 rfl rfl (by omega) (fun h27 => by exfalso; omega) (fun h27 => ?_)
    refine zw_aload_n (i := 0) (nx := 31) C dX7_moves_30 rfl rfl rfl ?_
    refine zw_iload_n (i := 2) (nx := 32) C dX7_moves_31 rfl rfl rfl ?_
    refine zw_cV11 (nx := 35) C dX7_moves_32 rfl cvX7_193 rfl rfl ⟨Nat.le_of_ble_eq_true rfl, Nat.le_of_ble_eq_true rfl⟩ rfl rfl (Nat.le_of_ble_eq_true rfl) (run_X7_who hc (by omega)) ?_
    refine zw_iconst (nx := 36) C dX7_moves_35 rfl ?_
    refine zw_icmp_eq (tgt := 44) (nx := 39) C dX7_moves_36 rfl rfl (by omega) (fun h36 => by exfalso; omega) (fun h36 => ?_)
    refine zw_aload_n (i := 0) (nx := 40) C dX7_moves_39 rfl rfl rfl ?_
    refine zw_cV01 (nx := 43) C dX7_moves_40 rfl cvX7_203 rfl rfl ⟨Nat.le_of_ble_eq_true rfl, Nat.le_of_ble_eq_true rfl⟩ rfl rfl (Nat.le_of_ble_eq_true rfl) run_X7_no ?_
    exact zw_iret C hA hr hk dX7_moves_43 rfl rfl
theorem run_X7_moves_ok {n p y s : Nat} (hc : mOk ζ n) (hp : p < n) (hy : y < 8) (hs : s ≤ 8) (hs3 : ζ.1 52 24 = s) (h : ζ.1 58 p ≠ -1) (h2 : sHol (mV ζ) y 0 n = -1) : zRun l B mX7_moves [.ref 52, zi p, zi y] ζ (some (zi (ζ.1 58 p))) (zU (mRem ζ s) 58 p y) := by
  have hn := hc.1.1
  have hs' : -1 ≤ ζ.1 58 p ∧ ζ.1 58 p ≤ 7 := (hc.1.2.2.2.2 p hp).2.2.2
  refine zrun_intro (M := mX7_moves) (ls := [some (.ref 52), some (zi p), some (zi y), none]) (by decide) rfl rfl rfl (Nat.le_of_ble_eq_true rfl) ?_
  intro X A C hX hA hr hk
  replace C : CX X B A mX7_moves.2.2.2.2 RX7 cX7_moves 4 0 0 := C
  have hr : (xMeth X).sig.returnType = (some .int) := hr
  change ZW X B A 4 0 0 _ _ 0 [some (.ref 52), some (zi p), some (zi y), none] []
  refine zw_aload_n (i := 0) (nx := 1) C dX7_moves_0 rfl rfl rfl ?_
  refine zw_iload_n (i := 1) (nx := 2) C dX7_moves_1 rfl rfl rfl ?_
  refine zw_cV11 (nx := 5) C dX7_moves_2 rfl cvX7_212 rfl rfl ⟨Nat.le_of_ble_eq_true rfl, Nat.le_of_ble_eq_true rfl⟩ rfl rfl (Nat.le_of_ble_eq_true rfl) (run_X7_isOne_t hn hc.2 (by omega)) ?_
  refine zw_if_eq (tgt := 15) (nx := 8) C dX7_moves_5 rfl rfl (by omega) (fun h5 => by exfalso; omega) (fun h5 => ?_)
  refine zw_iload_n (i := 2) (nx := 9) C dX7_moves_8 rfl rfl rfl ?_
  refine zw_cS11 (nx := 12) C dX7_moves_9 rfl csX7_92 ⟨Nat.le_of_ble_eq_true rfl, Nat.le_of_ble_eq_true rfl⟩ (Nat.le_of_ble_eq_true rfl) (run_X7_isYard_t (by omega)) ?_
  refine zw_if_ne (tgt := 20) (nx := 15) C dX7_moves_12 rfl rfl (by omega) (fun h12 => ?_) (fun h12 => by exfalso; omega)
  refine zw_aload_n (i := 0) (nx := 21) C dX7_moves_20 rfl rfl rfl ?_
  refine zw_getr (nx := 24) C dX7_moves_21 rfl flX7_32 iq6 rfl rfl rfl rfl ?_
  refine zw_iload_n (i := 1) (nx := 25) C dX7_moves_24 rfl rfl rfl ?_
  refine zw_iald (p) (nx := 26) C dX7_moves_25 rfl rfl rfl rfl (by omega) ?_
  refine zw_iconst (nx := 27) C dX7_moves_26 rfl ?_
  refine zw_icmp_eq (tgt := 39) (nx := 30) C dX7_moves_27 rfl rfl (by omega) (fun h27 => by exfalso; omega) (fun h27 => ?_)
  refine zw_aload_n (i := 0) (nx := 31) C dX7_moves_30 rfl rfl rfl ?_
  refine zw_iload_n (i := 2) (nx := 32) C dX7_moves_31 rfl rfl rfl ?_
  refine zw_cV11 (nx := 35) C dX7_moves_32 rfl cvX7_193 rfl rfl ⟨Nat.le_of_ble_eq_true rfl, Nat.le_of_ble_eq_true rfl⟩ rfl rfl (Nat.le_of_ble_eq_true rfl) (run_X7_who hc (by omega)) ?_
  refine zw_iconst (nx := 36) C dX7_moves_35 rfl ?_
  refine zw_icmp_eq (tgt := 44) (nx := 39) C dX7_moves_36 rfl rfl (by omega) (fun h36 => ?_) (fun h36 => by exfalso; omega)
  refine zw_aload_n (i := 0) (nx := 45) C dX7_moves_44 rfl rfl rfl ?_
  refine zw_cV00 (nx := 48) C dX7_moves_45 rfl cvX7_209 rfl rfl ⟨Nat.le_of_ble_eq_true rfl, Nat.le_of_ble_eq_true rfl⟩ rfl rfl (Nat.le_of_ble_eq_true rfl) (run_X7_notes hs hs3) ?_
  refine zw_aload_n (i := 0) (nx := 49) C dX7_moves_48 rfl rfl rfl ?_
  refine zw_getr (nx := 52) C dX7_moves_49 rfl flX7_32 iq6 rfl rfl rfl rfl ?_
  refine zw_iload_n (i := 1) (nx := 53) C dX7_moves_52 rfl rfl rfl ?_
  refine zw_iald (p) (nx := 54) C dX7_moves_53 rfl rfl rfl rfl (by omega) ?_
  refine zw_ist3 (nx := 55) C (eIst_n dX7_moves_54 rfl rfl) (Nat.le_of_ble_eq_true rfl) rfl ?_
  refine zw_aload_n (i := 0) (nx := 56) C dX7_moves_55 rfl rfl rfl ?_
  refine zw_getr (nx := 59) C dX7_moves_56 rfl flX7_32 iq6 rfl rfl rfl rfl ?_
  refine zw_iload_n (i := 1) (nx := 60) C dX7_moves_59 rfl rfl rfl ?_
  refine zw_iload_n (i := 2) (nx := 61) C dX7_moves_60 rfl rfl rfl ?_
  refine zw_iast (p) (nx := 62) C dX7_moves_61 rfl rfl rfl rfl (by omega) ?_
  refine zw_iload_n (i := 3) (nx := 63) C dX7_moves_62 rfl rfl rfl ?_
  exact zw_iret C hA hr hk dX7_moves_63 (zr (mRem_seat s p).symm) rfl
theorem run_X7_sell_bad {y : Int} (hy : -2147483648 ≤ y ∧ y ≤ 2147483647) (h : ¬ (0 ≤ y ∧ y ≤ 7)) : zRun l B mX7_sell [.ref 52, zi y] ζ (some (zi (-2))) (mBd ζ) := by
  refine zrun_intro (M := mX7_sell) (ls := [some (.ref 52), some (zi y), none, none]) (by decide) rfl rfl rfl (Nat.le_of_ble_eq_true rfl) ?_
  intro X A C hX hA hr hk
  replace C : CX X B A mX7_sell.2.2.2.2 RX7 cX7_sell 4 0 0 := C
  have hr : (xMeth X).sig.returnType = (some .int) := hr
  change ZW X B A 4 0 0 _ _ 0 [some (.ref 52), some (zi y), none, none] []
  refine zw_iload_n (i := 1) (nx := 1) C dX7_sell_0 rfl rfl rfl ?_
  refine zw_cS11 (nx := 4) C dX7_sell_1 rfl csX7_92 ⟨Nat.le_of_ble_eq_true rfl, Nat.le_of_ble_eq_true rfl⟩ (Nat.le_of_ble_eq_true rfl) (run_X7_isYard_f hy h) ?_
  refine zw_if_ne (tgt := 12) (nx := 7) C dX7_sell_4 rfl rfl (by omega) (fun h4 => by exfalso; omega) (fun h4 => ?_)
  refine zw_aload_n (i := 0) (nx := 8) C dX7_sell_7 rfl rfl rfl ?_
  refine zw_cV01 (nx := 11) C dX7_sell_8 rfl cvX7_96 rfl rfl ⟨Nat.le_of_ble_eq_true rfl, Nat.le_of_ble_eq_true rfl⟩ rfl rfl (Nat.le_of_ble_eq_true rfl) run_X7_bad ?_
  exact zw_iret C hA hr hk dX7_sell_11 rfl rfl
theorem run_X7_sell_no {n y : Nat} (hc : mOk ζ n) (hy : y < 8) (h : sHol (mV ζ) y 0 n ≠ -1 ∨ (sTop (sOff (mV ζ) n y) n).1 = -1) : zRun l B mX7_sell [.ref 52, zi y] ζ (some (zi (-3))) (mNo ζ) := by
  have hn := hc.1.1
  have hb := sHol_bd (mV ζ) y n 0
  have hbd := sTop_bd (f := sOff (mV ζ) n y) (n := n) (fun p hp => hc.1.off hp hy) n (Nat.le_refl n)
  refine zrun_intro (M := mX7_sell) (ls := [some (.ref 52), some (zi y), none, none]) (by decide) rfl rfl rfl (Nat.le_of_ble_eq_true rfl) ?_
  intro X A C hX hA hr hk
  replace C : CX X B A mX7_sell.2.2.2.2 RX7 cX7_sell 4 0 0 := C
  have hr : (xMeth X).sig.returnType = (some .int) := hr
  change ZW X B A 4 0 0 _ _ 0 [some (.ref 52), some (zi y), none, none] []
  by_cases h1 : sHol (mV ζ) y 0 n = -1
  · refine zw_iload_n (i := 1) (nx := 1) C dX7_sell_0 rfl rfl rfl ?_
    refine zw_cS11 (nx := 4) C dX7_sell_1 rfl csX7_92 ⟨Nat.le_of_ble_eq_true rfl, Nat.le_of_ble_eq_true rfl⟩ (Nat.le_of_ble_eq_true rfl) (run_X7_isYard_t (by omega)) ?_
    refine zw_if_ne (tgt := 12) (nx := 7) C dX7_sell_4 rfl rfl (by omega) (fun h4 => ?_) (fun h4 => by exfalso; omega)
    refine zw_aload_n (i := 0) (nx := 13) C dX7_sell_12 rfl rfl rfl ?_
    refine zw_iload_n (i := 1) (nx := 14) C dX7_sell_13 rfl rfl rfl ?_
    refine zw_cV11 (nx := 17) C dX7_sell_14 rfl cvX7_193 rfl rfl ⟨Nat.le_of_ble_eq_true rfl, Nat.le_of_ble_eq_true rfl⟩ rfl rfl (Nat.le_of_ble_eq_true rfl) (run_X7_who hc (by omega)) ?_
    refine zw_iconst (nx := 18) C dX7_sell_17 rfl ?_
    refine zw_icmp_ne (tgt := 29) (nx := 21) C dX7_sell_18 rfl rfl (by omega) (fun h18 => by exfalso; omega) (fun h18 => ?_)
    refine zw_aload_n (i := 0) (nx := 22) C dX7_sell_21 rfl rfl rfl ?_
    refine zw_iload_n (i := 1) (nx := 23) C dX7_sell_22 rfl rfl rfl ?_
    refine zw_cV11 (nx := 26) C dX7_sell_23 rfl cvX7_200 rfl rfl ⟨Nat.le_of_ble_eq_true rfl, Nat.le_of_ble_eq_true rfl⟩ rfl rfl (Nat.le_of_ble_eq_true rfl) (run_X7_winner hc hy) ?_
    refine zw_goto (nx := 30) C dX7_sell_26 rfl ?_
    refine zw_ist2 (nx := 31) C (eIst_n dX7_sell_30 rfl rfl) (Nat.le_of_ble_eq_true rfl) rfl ?_
    refine zw_iload_n (i := 2) (nx := 32) C dX7_sell_31 rfl rfl rfl ?_
    refine zw_iconst (nx := 33) C dX7_sell_32 rfl ?_
    refine zw_icmp_ne (tgt := 41) (nx := 36) C dX7_sell_33 rfl rfl (by omega) (fun h33 => by exfalso; omega) (fun h33 => ?_)
    refine zw_aload_n (i := 0) (nx := 37) C dX7_sell_36 rfl rfl rfl ?_
    refine zw_cV01 (nx := 40) C dX7_sell_37 rfl cvX7_203 rfl rfl ⟨Nat.le_of_ble_eq_true rfl, Nat.le_of_ble_eq_true rfl⟩ rfl rfl (Nat.le_of_ble_eq_true rfl) run_X7_no ?_
    exact zw_iret C hA hr hk dX7_sell_40 rfl rfl
  · refine zw_iload_n (i := 1) (nx := 1) C dX7_sell_0 rfl rfl rfl ?_
    refine zw_cS11 (nx := 4) C dX7_sell_1 rfl csX7_92 ⟨Nat.le_of_ble_eq_true rfl, Nat.le_of_ble_eq_true rfl⟩ (Nat.le_of_ble_eq_true rfl) (run_X7_isYard_t (by omega)) ?_
    refine zw_if_ne (tgt := 12) (nx := 7) C dX7_sell_4 rfl rfl (by omega) (fun h4 => ?_) (fun h4 => by exfalso; omega)
    refine zw_aload_n (i := 0) (nx := 13) C dX7_sell_12 rfl rfl rfl ?_
    refine zw_iload_n (i := 1) (nx := 14) C dX7_sell_13 rfl rfl rfl ?_
    refine zw_cV11 (nx := 17) C dX7_sell_14 rfl cvX7_193 rfl rfl ⟨Nat.le_of_ble_eq_true rfl, Nat.le_of_ble_eq_true rfl⟩ rfl rfl (Nat.le_of_ble_eq_true rfl) (run_X7_who hc (by omega)) ?_
    refine zw_iconst (nx := 18) C dX7_sell_17 rfl ?_
    refine zw_icmp_ne (tgt := 29) (nx := 21) C dX7_sell_18 rfl rfl (by omega) (fun h18 => ?_) (fun h18 => by exfalso; omega)
    refine zw_iconst (nx := 30) C dX7_sell_29 rfl ?_
    refine zw_ist2 (nx := 31) C (eIst_n dX7_sell_30 rfl rfl) (Nat.le_of_ble_eq_true rfl) rfl ?_
    refine zw_iload_n (i := 2) (nx := 32) C dX7_sell_31 rfl rfl rfl ?_
    refine zw_iconst (nx := 33) C dX7_sell_32 rfl ?_
    refine zw_icmp_ne (tgt := 41) (nx := 36) C dX7_sell_33 rfl rfl (by omega) (fun h33 => by exfalso; omega) (fun h33 => ?_)
    refine zw_aload_n (i := 0) (nx := 37) C dX7_sell_36 rfl rfl rfl ?_
    refine zw_cV01 (nx := 40) C dX7_sell_37 rfl cvX7_203 rfl rfl ⟨Nat.le_of_ble_eq_true rfl, Nat.le_of_ble_eq_true rfl⟩ rfl rfl (Nat.le_of_ble_eq_true rfl) run_X7_no ?_
    exact zw_iret C hA hr hk dX7_sell_40 rfl rfl
theorem run_X7_sell_ok {n y s p : Nat} (hc : mOk ζ n) (hy : y < 8) (hs : s ≤ 8) (hs3 : ζ.1 52 24 = s) (h : sHol (mV ζ) y 0 n = -1) (hp : p < n) (h2 : (sTop (sOff (mV ζ) n y) n).1 = p) : zRun l B mX7_sell [.ref 52, zi y] ζ (some (zi p)) (zU (zU (zU (mRem ζ s) 58 p y) 56 p ((mRem ζ s).1 56 p - sPri (sOff (mV ζ) n y) p n)) 57 p ((mRem ζ s).1 57 p + sPri (sOff (mV ζ) n y) p n)) := by
  have hn := hc.1.1
  refine zrun_intro (M := mX7_sell) (ls := [some (.ref 52), some (zi y), none, none]) (by decide) rfl rfl rfl (Nat.le_of_ble_eq_true rfl) ?_
  intro X A C hX hA hr hk
  replace C : CX X B A mX7_sell.2.2.2.2 RX7 cX7_sell 4 0 0 := C
  have hr : (xMeth X).sig.returnType = (some .int) := hr
  change ZW X B A 4 0 0 _ _ 0 [some (.ref 52), some (zi y), none, none] []
  refine zw_iload_n (i := 1) (nx := 1) C dX7_sell_0 rfl rfl rfl ?_
  refine zw_cS11 (nx := 4) C dX7_sell_1 rfl csX7_92 ⟨Nat.le_of_ble_eq_true rfl, Nat.le_of_ble_eq_true rfl⟩ (Nat.le_of_ble_eq_true rfl) (run_X7_isYard_t (by omega)) ?_
  refine zw_if_ne (tgt := 12) (nx := 7) C dX7_sell_4 rfl rfl (by omega) (fun h4 => ?_) (fun h4 => by exfalso; omega)
  refine zw_aload_n (i := 0) (nx := 13) C dX7_sell_12 rfl rfl rfl ?_
  refine zw_iload_n (i := 1) (nx := 14) C dX7_sell_13 rfl rfl rfl ?_
  refine zw_cV11 (nx := 17) C dX7_sell_14 rfl cvX7_193 rfl rfl ⟨Nat.le_of_ble_eq_true rfl, Nat.le_of_ble_eq_true rfl⟩ rfl rfl (Nat.le_of_ble_eq_true rfl) (run_X7_who hc (by omega)) ?_
  refine zw_iconst (nx := 18) C dX7_sell_17 rfl ?_
  refine zw_icmp_ne (tgt := 29) (nx := 21) C dX7_sell_18 rfl rfl (by omega) (fun h18 => by exfalso; omega) (fun h18 => ?_)
  refine zw_aload_n (i := 0) (nx := 22) C dX7_sell_21 rfl rfl rfl ?_
  refine zw_iload_n (i := 1) (nx := 23) C dX7_sell_22 rfl rfl rfl ?_
  refine zw_cV11 (nx := 26) C dX7_sell_23 rfl cvX7_200 rfl rfl ⟨Nat.le_of_ble_eq_true rfl, Nat.le_of_ble_eq_true rfl⟩ rfl rfl (Nat.le_of_ble_eq_true rfl) (run_X7_winner hc hy) ?_
  refine zw_goto (nx := 30) C dX7_sell_26 rfl ?_
  rw [h2]
  refine zw_ist2 (nx := 31) C (eIst_n dX7_sell_30 rfl rfl) (Nat.le_of_ble_eq_true rfl) rfl ?_
  refine zw_iload_n (i := 2) (nx := 32) C dX7_sell_31 rfl rfl rfl ?_
  refine zw_iconst (nx := 33) C dX7_sell_32 rfl ?_
  refine zw_icmp_ne (tgt := 41) (nx := 36) C dX7_sell_33 rfl rfl (by omega) (fun h33 => ?_) (fun h33 => by exfalso; omega)
  refine zw_aload_n (i := 0) (nx := 42) C dX7_sell_41 rfl rfl rfl ?_
  refine zw_iload_n (i := 2) (nx := 43) C dX7_sell_42 rfl rfl rfl ?_
  refine zw_iload_n (i := 1) (nx := 44) C dX7_sell_43 rfl rfl rfl ?_
  refine zw_cV21 (nx := 47) C dX7_sell_44 rfl cvX7_206 rfl rfl ⟨Nat.le_of_ble_eq_true rfl, Nat.le_of_ble_eq_true rfl⟩ rfl rfl (Nat.le_of_ble_eq_true rfl) (run_X7_priceOf hc hy (by omega)) ?_
  refine zw_ist3 (nx := 48) C (eIst_n dX7_sell_47 rfl rfl) (Nat.le_of_ble_eq_true rfl) rfl ?_
  refine zw_aload_n (i := 0) (nx := 49) C dX7_sell_48 rfl rfl rfl ?_
  refine zw_cV00 (nx := 52) C dX7_sell_49 rfl cvX7_209 rfl rfl ⟨Nat.le_of_ble_eq_true rfl, Nat.le_of_ble_eq_true rfl⟩ rfl rfl (Nat.le_of_ble_eq_true rfl) (run_X7_notes hs hs3) ?_
  refine zw_aload_n (i := 0) (nx := 53) C dX7_sell_52 rfl rfl rfl ?_
  refine zw_getr (nx := 56) C dX7_sell_53 rfl flX7_32 iq6 rfl rfl rfl rfl ?_
  refine zw_iload_n (i := 2) (nx := 57) C dX7_sell_56 rfl rfl rfl ?_
  refine zw_iload_n (i := 1) (nx := 58) C dX7_sell_57 rfl rfl rfl ?_
  refine zw_iast (p) (nx := 59) C dX7_sell_58 rfl rfl rfl rfl (by omega) ?_
  refine zw_aload_n (i := 0) (nx := 60) C dX7_sell_59 rfl rfl rfl ?_
  refine zw_getr (nx := 63) C dX7_sell_60 rfl flX7_26 iq6 rfl rfl rfl rfl ?_
  refine zw_iload_n (i := 2) (nx := 64) C dX7_sell_63 rfl rfl rfl ?_
  refine zw_dup2 (nx := 65) C dX7_sell_64 rfl rfl rfl ?_
  refine zw_iald (p) (nx := 66) C dX7_sell_65 rfl rfl rfl rfl (by omega) ?_
  simp only [zU_at, zCp_at, zR_at, zFill_at, Nat.reduceEqDiff, reduceIte, and_self, and_true, true_and, and_false, false_and]
  refine zw_iload_n (i := 3) (nx := 67) C dX7_sell_66 rfl rfl rfl ?_
  refine zw_isub (nx := 68) C dX7_sell_67 rfl ?_
  refine zw_iast (p) (nx := 69) C dX7_sell_68 rfl rfl rfl rfl (by omega) ?_
  refine zw_aload_n (i := 0) (nx := 70) C dX7_sell_69 rfl rfl rfl ?_
  refine zw_getr (nx := 73) C dX7_sell_70 rfl flX7_29 iq6 rfl rfl rfl rfl ?_
  refine zw_iload_n (i := 2) (nx := 74) C dX7_sell_73 rfl rfl rfl ?_
  refine zw_dup2 (nx := 75) C dX7_sell_74 rfl rfl rfl ?_
  refine zw_iald (p) (nx := 76) C dX7_sell_75 rfl rfl rfl rfl (by omega) ?_
  simp only [zU_at, zCp_at, zR_at, zFill_at, Nat.reduceEqDiff, reduceIte, and_self, and_true, true_and, and_false, false_and]
  refine zw_iload_n (i := 3) (nx := 77) C dX7_sell_76 rfl rfl rfl ?_
  refine zw_iadd (nx := 78) C dX7_sell_77 rfl ?_
  refine zw_iast (p) (nx := 79) C dX7_sell_78 rfl rfl rfl rfl (by omega) ?_
  refine zw_iload_n (i := 2) (nx := 80) C dX7_sell_79 rfl rfl rfl ?_
  exact zw_iret C hA hr hk dX7_sell_80 rfl rfl
theorem run_X7_undo_no (hs3 : ζ.1 52 24 = 0) : zRun l B mX7_undo [.ref 52] ζ (some (zi (-3))) (mNo ζ) := by
  refine zrun_intro (M := mX7_undo) (ls := [some (.ref 52)]) (by decide) rfl rfl rfl (Nat.le_of_ble_eq_true rfl) ?_
  intro X A C hX hA hr hk
  replace C : CX X B A mX7_undo.2.2.2.2 RX7 cX7_undo 1 0 0 := C
  have hr : (xMeth X).sig.returnType = (some .int) := hr
  change ZW X B A 1 0 0 _ _ 0 [some (.ref 52)] []
  refine zw_aload_n (i := 0) (nx := 1) C dX7_undo_0 rfl rfl rfl ?_
  refine zw_geti (nx := 4) C dX7_undo_1 rfl flX7_85 iq6 rfl rfl rfl rfl ?_
  refine zw_if_ne (tgt := 12) (nx := 7) C dX7_undo_4 rfl rfl (by omega) (fun h4 => by exfalso; omega) (fun h4 => ?_)
  refine zw_aload_n (i := 0) (nx := 8) C dX7_undo_7 rfl rfl rfl ?_
  refine zw_cV01 (nx := 11) C dX7_undo_8 rfl cvX7_203 rfl rfl ⟨Nat.le_of_ble_eq_true rfl, Nat.le_of_ble_eq_true rfl⟩ rfl rfl (Nat.le_of_ble_eq_true rfl) run_X7_no ?_
  exact zw_iret C hA hr hk dX7_undo_11 rfl rfl
theorem run_X7_undo_ok {s n : Nat} (hs : s < 8) (hs3 : ζ.1 52 24 = s + 1) (hc : mOk (mTak (zU ζ 52 24 s) 66 (15 * s) 5) n) : zRun l B mX7_undo [.ref 52] ζ (some (zi (sFree (mV (mTak (zU ζ 52 24 s) 66 (15 * s) 5)) n))) (mTak (zU ζ 52 24 s) 66 (15 * s) 5) := by
  refine zrun_intro (M := mX7_undo) (ls := [some (.ref 52)]) (by decide) rfl rfl rfl (Nat.le_of_ble_eq_true rfl) ?_
  intro X A C hX hA hr hk
  replace C : CX X B A mX7_undo.2.2.2.2 RX7 cX7_undo 1 0 0 := C
  have hr : (xMeth X).sig.returnType = (some .int) := hr
  change ZW X B A 1 0 0 _ _ 0 [some (.ref 52)] []
  refine zw_aload_n (i := 0) (nx := 1) C dX7_undo_0 rfl rfl rfl ?_
  refine zw_geti (nx := 4) C dX7_undo_1 rfl flX7_85 iq6 rfl rfl rfl rfl ?_
  refine zw_if_ne (tgt := 12) (nx := 7) C dX7_undo_4 rfl rfl (by omega) (fun h4 => ?_) (fun h4 => by exfalso; omega)
  refine zw_aload_n (i := 0) (nx := 13) C dX7_undo_12 rfl rfl rfl ?_
  refine zw_dup (nx := 14) C dX7_undo_13 rfl rfl ?_
  refine zw_geti (nx := 17) C dX7_undo_14 rfl flX7_85 iq6 rfl rfl rfl rfl ?_
  refine zw_iconst (nx := 18) C dX7_undo_17 rfl ?_
  refine zw_isub (nx := 19) C dX7_undo_18 rfl ?_
  rw [hs3, show ((s : Int) + 1 - 1) = s by omega]
  refine zw_puti (nx := 22) C dX7_undo_19 rfl flX7_85 ic6 nf6_24 rfl rfl rfl rfl rfl ?_
  refine zw_aload_n (i := 0) (nx := 23) C dX7_undo_22 rfl rfl rfl ?_
  refine zw_aload_n (i := 0) (nx := 24) C dX7_undo_23 rfl rfl rfl ?_
  refine zw_getr (nx := 27) C dX7_undo_24 rfl flX7_56 iq6 rfl rfl rfl rfl ?_
  refine zw_bipush (v := 15) (nx := 29) C dX7_undo_27 (by decide) rfl ?_
  refine zw_aload_n (i := 0) (nx := 30) C dX7_undo_29 rfl rfl rfl ?_
  refine zw_geti (nx := 33) C dX7_undo_30 rfl flX7_85 iq6 rfl rfl rfl rfl ?_
  simp only [zU_at, zCp_at, zR_at, zFill_at, Nat.reduceEqDiff, reduceIte, and_self, and_true, true_and, and_false, false_and]
  refine zw_imul (nx := 34) C dX7_undo_33 rfl ?_
  refine zw_cV20 (nx := 37) C dX7_undo_34 rfl cvX7_215 rfl rfl ⟨Nat.le_of_ble_eq_true rfl, Nat.le_of_ble_eq_true rfl⟩ rfl rfl (Nat.le_of_ble_eq_true rfl) (run_X7_takes66 (i := 15 * s) (by omega)) ?_
  refine zw_aload_n (i := 0) (nx := 38) C dX7_undo_37 rfl rfl rfl ?_
  refine zw_cV01 (nx := 41) C dX7_undo_38 rfl cvX7_218 rfl rfl ⟨Nat.le_of_ble_eq_true rfl, Nat.le_of_ble_eq_true rfl⟩ rfl rfl (Nat.le_of_ble_eq_true rfl) (run_X7_free hc) ?_
  exact zw_iret C hA hr hk dX7_undo_41 rfl rfl
end Model3
