/-! the reference's public methods, 2 -/
def mCnt (ζ : zSt) (n k : Nat) : Int := match k with
  | 0 => n
  | 1 => sFree (mV ζ) n
  | 2 => sSum (sOth (mV ζ) n (-1)) n
  | 3 => sSum (mV ζ 4) n
  | 4 => ζ.1 52 4
  | 5 => ζ.1 52 24
  | _ => ζ.1 52 15
def cpO (ζ : zSt) (d o s : Nat) : Nat → zSt
  | 0 => ζ
  | k + 1 => zU (cpO ζ d o s k) d (o + k) ((cpO ζ d o s k).1 s k)
def cpI (ζ : zSt) (d s o : Nat) : Nat → zSt
  | 0 => ζ
  | k + 1 => zU (cpI ζ d s o k) d k ((cpI ζ d s o k).1 s (o + k))
def nO (ζ : zSt) (i : Nat) : Nat → zSt
  | 0 => ζ
  | k + 1 => zU (zU (zU (zU (nO ζ i k) 69 (i + 33 + k) ((nO ζ i k).1 59 k)) 69 (i + 39 + k) ((nO ζ i k).1 60 k)) 69 (i + 45 + k) ((nO ζ i k).1 61 k)) 69 (i + 51 + k) ((nO ζ i k).1 62 k)
def nI' (ζ : zSt) (i : Nat) : Nat → zSt
  | 0 => ζ
  | k + 1 => zU (zU (zU (zU (nI' ζ i k) 59 k ((nI' ζ i k).1 69 (i + 33 + k))) 60 k ((nI' ζ i k).1 69 (i + 39 + k))) 61 k ((nI' ζ i k).1 69 (i + 45 + k))) 62 k ((nI' ζ i k).1 69 (i + 51 + k))
def mIm1 (ζ : zSt) (i : Nat) : zSt := zU (zU (zU (zU (zU (zU ζ 70 i 1) 69 (190 * i) (ζ.1 52 1)) 69 (190 * i + 1) (ζ.1 52 2)) 69 (190 * i + 2) (ζ.1 52 3)) 69 (190 * i + 3) (ζ.1 52 4)) 69 (190 * i + 4) (ζ.1 52 24)
def mImg (ζ : zSt) (i : Nat) : zSt := cpO (nO (cpO (cpO (mLay (mIm1 ζ i) 69 (190 * i + 5) 5) 69 (190 * i + 20) 55 5) 69 (190 * i + 25) 54 8) (190 * i) 6) 69 (190 * i + 57) 66 120
def mFr1 (ζ : zSt) (i : Nat) : zSt := zU (zU (zU (zU (zU ζ 52 1 (ζ.1 69 (190 * i))) 52 2 (ζ.1 69 (190 * i + 1))) 52 3 (ζ.1 69 (190 * i + 2))) 52 4 (ζ.1 69 (190 * i + 3))) 52 24 (ζ.1 69 (190 * i + 4))
def mFro (ζ : zSt) (i : Nat) : zSt := cpI (nI' (cpI (cpI (mTak (mFr1 ζ i) 69 (190 * i + 5) 5) 55 69 (190 * i + 20) 5) 54 69 (190 * i + 25) 8) (190 * i) 6) 66 69 (190 * i + 57) 120
section Model4
variable {l : Launch} {B : eB} {ζ : zSt}
theorem run_X7_of_bad {n : Nat} (hn : n ≤ 5) (hn3 : ζ.1 52 1 = n) {p w : Int} (hp : -2147483648 ≤ p ∧ p ≤ 2147483647) (hw : -2147483648 ≤ w ∧ w ≤ 2147483647) (h : ¬ ((0 ≤ p ∧ p < n) ∧ (0 ≤ w ∧ w ≤ 4))) : zRun l B mX7_of [.ref 52, zi p, zi w] ζ (some (zi (-10))) (mBd ζ) := by
  refine zrun_intro (M := mX7_of) (ls := [some (.ref 52), some (zi p), some (zi w)]) (by decide) rfl rfl rfl (Nat.le_of_ble_eq_true rfl) ?_
  intro X A C hX hA hr hk
  replace C : CX X B A mX7_of.2.2.2.2 RX7 cX7_of 3 0 0 := C
  have hr : (xMeth X).sig.returnType = (some .int) := hr
  change ZW X B A 3 0 0 _ _ 0 [some (.ref 52), some (zi p), some (zi w)] []
  by_cases h1 : 0 ≤ p ∧ p < n
  · refine zw_aload_n (i := 0) (nx := 1) C dX7_of_0 rfl rfl rfl ?_
    refine zw_iload_n (i := 1) (nx := 2) C dX7_of_1 rfl rfl rfl ?_
    refine zw_cV11 (nx := 5) C dX7_of_2 rfl cvX7_212 rfl rfl ⟨Nat.le_of_ble_eq_true rfl, Nat.le_of_ble_eq_true rfl⟩ rfl rfl (Nat.le_of_ble_eq_true rfl) (run_X7_isOne_t hn hn3 h1) ?_
    refine zw_if_eq (tgt := 17) (nx := 8) C dX7_of_5 rfl rfl (by omega) (fun h5 => by exfalso; omega) (fun h5 => ?_)
    refine zw_iload_n (i := 2) (nx := 9) C dX7_of_8 rfl rfl rfl ?_
    refine zw_iconst (nx := 10) C dX7_of_9 rfl ?_
    refine zw_iconst (nx := 11) C dX7_of_10 rfl ?_
    refine zw_cS31 (nx := 14) C dX7_of_11 rfl csX7_88 ⟨Nat.le_of_ble_eq_true rfl, Nat.le_of_ble_eq_true rfl⟩ (Nat.le_of_ble_eq_true rfl) (run_X7_in_f hw (by omega) (fun q => h ⟨h1, q⟩)) ?_
    refine zw_if_ne (tgt := 22) (nx := 17) C dX7_of_14 rfl rfl (by omega) (fun h14 => by exfalso; omega) (fun h14 => ?_)
    refine zw_aload_n (i := 0) (nx := 18) C dX7_of_17 rfl rfl rfl ?_
    refine zw_cV01 (nx := 21) C dX7_of_18 rfl cvX7_221 rfl rfl ⟨Nat.le_of_ble_eq_true rfl, Nat.le_of_ble_eq_true rfl⟩ rfl rfl (Nat.le_of_ble_eq_true rfl) run_X7_ten ?_
    exact zw_iret C hA hr hk dX7_of_21 rfl rfl
  · refine zw_aload_n (i := 0) (nx := 1) C dX7_of_0 rfl rfl rfl ?_
    refine zw_iload_n (i := 1) (nx := 2) C dX7_of_1 rfl rfl rfl ?_
    refine zw_cV11 (nx := 5) C dX7_of_2 rfl cvX7_212 rfl rfl ⟨Nat.le_of_ble_eq_true rfl, Nat.le_of_ble_eq_true rfl⟩ rfl rfl (Nat.le_of_ble_eq_true rfl) (run_X7_isOne_f hn hn3 hp h1) ?_
    refine zw_if_eq (tgt := 17) (nx := 8) C dX7_of_5 rfl rfl (by omega) (fun h5 => ?_) (fun h5 => by exfalso; omega)
    refine zw_aload_n (i := 0) (nx := 18) C dX7_of_17 rfl rfl rfl ?_
    refine zw_cV01 (nx := 21) C dX7_of_18 rfl cvX7_221 rfl rfl ⟨Nat.le_of_ble_eq_true rfl, Nat.le_of_ble_eq_true rfl⟩ rfl rfl (Nat.le_of_ble_eq_true rfl) run_X7_ten ?_
    exact zw_iret C hA hr hk dX7_of_21 rfl rfl
theorem run_X7_of_0 {n p : Nat} (hn : n ≤ 5) (hn3 : ζ.1 52 1 = n) (hp : p < n) : zRun l B mX7_of [.ref 52, zi p, zi 0] ζ (some (zi (ζ.1 55 p))) ζ := by
  refine zrun_intro (M := mX7_of) (ls := [some (.ref 52), some (zi p), some (zi 0)]) (by decide) rfl rfl rfl (Nat.le_of_ble_eq_true rfl) ?_
  intro X A C hX hA hr hk
  replace C : CX X B A mX7_of.2.2.2.2 RX7 cX7_of 3 0 0 := C
  have hr : (xMeth X).sig.returnType = (some .int) := hr
  change ZW X B A 3 0 0 _ _ 0 [some (.ref 52), some (zi p), some (zi 0)] []
  refine zw_aload_n (i := 0) (nx := 1) C dX7_of_0 rfl rfl rfl ?_
  refine zw_iload_n (i := 1) (nx := 2) C dX7_of_1 rfl rfl rfl ?_
  refine zw_cV11 (nx := 5) C dX7_of_2 rfl cvX7_212 rfl rfl ⟨Nat.le_of_ble_eq_true rfl, Nat.le_of_ble_eq_true rfl⟩ rfl rfl (Nat.le_of_ble_eq_true rfl) (run_X7_isOne_t hn hn3 (by omega)) ?_
  refine zw_if_eq (tgt := 17) (nx := 8) C dX7_of_5 rfl rfl (by omega) (fun h5 => by exfalso; omega) (fun h5 => ?_)
  refine zw_iload_n (i := 2) (nx := 9) C dX7_of_8 rfl rfl rfl ?_
  refine zw_iconst (nx := 10) C dX7_of_9 rfl ?_
  refine zw_iconst (nx := 11) C dX7_of_10 rfl ?_
  refine zw_cS31 (nx := 14) C dX7_of_11 rfl csX7_88 ⟨Nat.le_of_ble_eq_true rfl, Nat.le_of_ble_eq_true rfl⟩ (Nat.le_of_ble_eq_true rfl) (run_X7_in_t (by omega) (by omega) (by omega)) ?_
  refine zw_if_ne (tgt := 22) (nx := 17) C dX7_of_14 rfl rfl (by omega) (fun h14 => ?_) (fun h14 => by exfalso; omega)
  refine zw_iload_n (i := 2) (nx := 23) C dX7_of_22 rfl rfl rfl ?_
  refine zw_tableIn (nx := 52) C dX7_of_23 (by omega) (by omega) (by omega) rfl rfl ?_
  refine zw_aload_n (i := 0) (nx := 53) C dX7_of_52 rfl rfl rfl ?_
  refine zw_getr (nx := 56) C dX7_of_53 rfl flX7_23 iq6 rfl rfl rfl rfl ?_
  refine zw_iload_n (i := 1) (nx := 57) C dX7_of_56 rfl rfl rfl ?_
  refine zw_iald (p) (nx := 58) C dX7_of_57 rfl rfl rfl rfl (by omega) ?_
  exact zw_iret C hA hr hk dX7_of_58 rfl rfl
theorem run_X7_of_1 {n p : Nat} (hn : n ≤ 5) (hn3 : ζ.1 52 1 = n) (hp : p < n) : zRun l B mX7_of [.ref 52, zi p, zi 1] ζ (some (zi (ζ.1 56 p))) ζ := by
  refine zrun_intro (M := mX7_of) (ls := [some (.ref 52), some (zi p), some (zi 1)]) (by decide) rfl rfl rfl (Nat.le_of_ble_eq_true rfl) ?_
  intro X A C hX hA hr hk
  replace C : CX X B A mX7_of.2.2.2.2 RX7 cX7_of 3 0 0 := C
  have hr : (xMeth X).sig.returnType = (some .int) := hr
  change ZW X B A 3 0 0 _ _ 0 [some (.ref 52), some (zi p), some (zi 1)] []
  refine zw_aload_n (i := 0) (nx := 1) C dX7_of_0 rfl rfl rfl ?_
  refine zw_iload_n (i := 1) (nx := 2) C dX7_of_1 rfl rfl rfl ?_
  refine zw_cV11 (nx := 5) C dX7_of_2 rfl cvX7_212 rfl rfl ⟨Nat.le_of_ble_eq_true rfl, Nat.le_of_ble_eq_true rfl⟩ rfl rfl (Nat.le_of_ble_eq_true rfl) (run_X7_isOne_t hn hn3 (by omega)) ?_
  refine zw_if_eq (tgt := 17) (nx := 8) C dX7_of_5 rfl rfl (by omega) (fun h5 => by exfalso; omega) (fun h5 => ?_)
  refine zw_iload_n (i := 2) (nx := 9) C dX7_of_8 rfl rfl rfl ?_
  refine zw_iconst (nx := 10) C dX7_of_9 rfl ?_
  refine zw_iconst (nx := 11) C dX7_of_10 rfl ?_
  refine zw_cS31 (nx := 14) C dX7_of_11 rfl csX7_88 ⟨Nat.le_of_ble_eq_true rfl, Nat.le_of_ble_eq_true rfl⟩ (Nat.le_of_ble_eq_true rfl) (run_X7_in_t (by omega) (by omega) (by omega)) ?_
  refine zw_if_ne (tgt := 22) (nx := 17) C dX7_of_14 rfl rfl (by omega) (fun h14 => ?_) (fun h14 => by exfalso; omega)
  refine zw_iload_n (i := 2) (nx := 23) C dX7_of_22 rfl rfl rfl ?_
  refine zw_tableIn (nx := 59) C dX7_of_23 (by omega) (by omega) (by omega) rfl rfl ?_
  refine zw_aload_n (i := 0) (nx := 60) C dX7_of_59 rfl rfl rfl ?_
  refine zw_getr (nx := 63) C dX7_of_60 rfl flX7_26 iq6 rfl rfl rfl rfl ?_
  refine zw_iload_n (i := 1) (nx := 64) C dX7_of_63 rfl rfl rfl ?_
  refine zw_iald (p) (nx := 65) C dX7_of_64 rfl rfl rfl rfl (by omega) ?_
  exact zw_iret C hA hr hk dX7_of_65 rfl rfl
theorem run_X7_of_2 {n p : Nat} (hn : n ≤ 5) (hn3 : ζ.1 52 1 = n) (hp : p < n) : zRun l B mX7_of [.ref 52, zi p, zi 2] ζ (some (zi (ζ.1 57 p))) ζ := by
  refine zrun_intro (M := mX7_of) (ls := [some (.ref 52), some (zi p), some (zi 2)]) (by decide) rfl rfl rfl (Nat.le_of_ble_eq_true rfl) ?_
  intro X A C hX hA hr hk
  replace C : CX X B A mX7_of.2.2.2.2 RX7 cX7_of 3 0 0 := C
  have hr : (xMeth X).sig.returnType = (some .int) := hr
  change ZW X B A 3 0 0 _ _ 0 [some (.ref 52), some (zi p), some (zi 2)] []
  refine zw_aload_n (i := 0) (nx := 1) C dX7_of_0 rfl rfl rfl ?_
  refine zw_iload_n (i := 1) (nx := 2) C dX7_of_1 rfl rfl rfl ?_
  refine zw_cV11 (nx := 5) C dX7_of_2 rfl cvX7_212 rfl rfl ⟨Nat.le_of_ble_eq_true rfl, Nat.le_of_ble_eq_true rfl⟩ rfl rfl (Nat.le_of_ble_eq_true rfl) (run_X7_isOne_t hn hn3 (by omega)) ?_
  refine zw_if_eq (tgt := 17) (nx := 8) C dX7_of_5 rfl rfl (by omega) (fun h5 => by exfalso; omega) (fun h5 => ?_)
  refine zw_iload_n (i := 2) (nx := 9) C dX7_of_8 rfl rfl rfl ?_
  refine zw_iconst (nx := 10) C dX7_of_9 rfl ?_
  refine zw_iconst (nx := 11) C dX7_of_10 rfl ?_
  refine zw_cS31 (nx := 14) C dX7_of_11 rfl csX7_88 ⟨Nat.le_of_ble_eq_true rfl, Nat.le_of_ble_eq_true rfl⟩ (Nat.le_of_ble_eq_true rfl) (run_X7_in_t (by omega) (by omega) (by omega)) ?_
  refine zw_if_ne (tgt := 22) (nx := 17) C dX7_of_14 rfl rfl (by omega) (fun h14 => ?_) (fun h14 => by exfalso; omega)
  refine zw_iload_n (i := 2) (nx := 23) C dX7_of_22 rfl rfl rfl ?_
  refine zw_tableIn (nx := 66) C dX7_of_23 (by omega) (by omega) (by omega) rfl rfl ?_
  refine zw_aload_n (i := 0) (nx := 67) C dX7_of_66 rfl rfl rfl ?_
  refine zw_getr (nx := 70) C dX7_of_67 rfl flX7_29 iq6 rfl rfl rfl rfl ?_
  refine zw_iload_n (i := 1) (nx := 71) C dX7_of_70 rfl rfl rfl ?_
  refine zw_iald (p) (nx := 72) C dX7_of_71 rfl rfl rfl rfl (by omega) ?_
  exact zw_iret C hA hr hk dX7_of_72 rfl rfl
theorem run_X7_of_3 {n p : Nat} (hn : n ≤ 5) (hn3 : ζ.1 52 1 = n) (hp : p < n) : zRun l B mX7_of [.ref 52, zi p, zi 3] ζ (some (zi (ζ.1 58 p))) ζ := by
  refine zrun_intro (M := mX7_of) (ls := [some (.ref 52), some (zi p), some (zi 3)]) (by decide) rfl rfl rfl (Nat.le_of_ble_eq_true rfl) ?_
  intro X A C hX hA hr hk
  replace C : CX X B A mX7_of.2.2.2.2 RX7 cX7_of 3 0 0 := C
  have hr : (xMeth X).sig.returnType = (some .int) := hr
  change ZW X B A 3 0 0 _ _ 0 [some (.ref 52), some (zi p), some (zi 3)] []
  refine zw_aload_n (i := 0) (nx := 1) C dX7_of_0 rfl rfl rfl ?_
  refine zw_iload_n (i := 1) (nx := 2) C dX7_of_1 rfl rfl rfl ?_
  refine zw_cV11 (nx := 5) C dX7_of_2 rfl cvX7_212 rfl rfl ⟨Nat.le_of_ble_eq_true rfl, Nat.le_of_ble_eq_true rfl⟩ rfl rfl (Nat.le_of_ble_eq_true rfl) (run_X7_isOne_t hn hn3 (by omega)) ?_
  refine zw_if_eq (tgt := 17) (nx := 8) C dX7_of_5 rfl rfl (by omega) (fun h5 => by exfalso; omega) (fun h5 => ?_)
  refine zw_iload_n (i := 2) (nx := 9) C dX7_of_8 rfl rfl rfl ?_
  refine zw_iconst (nx := 10) C dX7_of_9 rfl ?_
  refine zw_iconst (nx := 11) C dX7_of_10 rfl ?_
  refine zw_cS31 (nx := 14) C dX7_of_11 rfl csX7_88 ⟨Nat.le_of_ble_eq_true rfl, Nat.le_of_ble_eq_true rfl⟩ (Nat.le_of_ble_eq_true rfl) (run_X7_in_t (by omega) (by omega) (by omega)) ?_
  refine zw_if_ne (tgt := 22) (nx := 17) C dX7_of_14 rfl rfl (by omega) (fun h14 => ?_) (fun h14 => by exfalso; omega)
  refine zw_iload_n (i := 2) (nx := 23) C dX7_of_22 rfl rfl rfl ?_
  refine zw_tableIn (nx := 73) C dX7_of_23 (by omega) (by omega) (by omega) rfl rfl ?_
  refine zw_aload_n (i := 0) (nx := 74) C dX7_of_73 rfl rfl rfl ?_
  refine zw_getr (nx := 77) C dX7_of_74 rfl flX7_32 iq6 rfl rfl rfl rfl ?_
  refine zw_iload_n (i := 1) (nx := 78) C dX7_of_77 rfl rfl rfl ?_
  refine zw_iald (p) (nx := 79) C dX7_of_78 rfl rfl rfl rfl (by omega) ?_
  exact zw_iret C hA hr hk dX7_of_79 rfl rfl
theorem run_X7_of_4 {n p : Nat} (hc : mOk ζ n) (hp : p < n) : zRun l B mX7_of [.ref 52, zi p, zi 4] ζ (some (zi (sHd (ζ.1 55 p)))) ζ := by
  have hn := hc.1.1
  refine zrun_intro (M := mX7_of) (ls := [some (.ref 52), some (zi p), some (zi 4)]) (by decide) rfl rfl rfl (Nat.le_of_ble_eq_true rfl) ?_
  intro X A C hX hA hr hk
  replace C : CX X B A mX7_of.2.2.2.2 RX7 cX7_of 3 0 0 := C
  have hr : (xMeth X).sig.returnType = (some .int) := hr
  change ZW X B A 3 0 0 _ _ 0 [some (.ref 52), some (zi p), some (zi 4)] []
  refine zw_aload_n (i := 0) (nx := 1) C dX7_of_0 rfl rfl rfl ?_
  refine zw_iload_n (i := 1) (nx := 2) C dX7_of_1 rfl rfl rfl ?_
  refine zw_cV11 (nx := 5) C dX7_of_2 rfl cvX7_212 rfl rfl ⟨Nat.le_of_ble_eq_true rfl, Nat.le_of_ble_eq_true rfl⟩ rfl rfl (Nat.le_of_ble_eq_true rfl) (run_X7_isOne_t hn hc.2 (by omega)) ?_
  refine zw_if_eq (tgt := 17) (nx := 8) C dX7_of_5 rfl rfl (by omega) (fun h5 => by exfalso; omega) (fun h5 => ?_)
  refine zw_iload_n (i := 2) (nx := 9) C dX7_of_8 rfl rfl rfl ?_
  refine zw_iconst (nx := 10) C dX7_of_9 rfl ?_
  refine zw_iconst (nx := 11) C dX7_of_10 rfl ?_
  refine zw_cS31 (nx := 14) C dX7_of_11 rfl csX7_88 ⟨Nat.le_of_ble_eq_true rfl, Nat.le_of_ble_eq_true rfl⟩ (Nat.le_of_ble_eq_true rfl) (run_X7_in_t (by omega) (by omega) (by omega)) ?_
  refine zw_if_ne (tgt := 22) (nx := 17) C dX7_of_14 rfl rfl (by omega) (fun h14 => ?_) (fun h14 => by exfalso; omega)
  refine zw_iload_n (i := 2) (nx := 23) C dX7_of_22 rfl rfl rfl ?_
  refine zw_tableOut (nx := 80) C dX7_of_23 (by omega) (by omega) rfl ?_
  refine zw_aload_n (i := 0) (nx := 81) C dX7_of_80 rfl rfl rfl ?_
  refine zw_getr (nx := 84) C dX7_of_81 rfl flX7_23 iq6 rfl rfl rfl rfl ?_
  refine zw_iload_n (i := 1) (nx := 85) C dX7_of_84 rfl rfl rfl ?_
  refine zw_iald (p) (nx := 86) C dX7_of_85 rfl rfl rfl rfl (by omega) ?_
  refine zw_cS11 (nx := 89) C dX7_of_86 rfl csX7_183 ⟨Nat.le_of_ble_eq_true rfl, Nat.le_of_ble_eq_true rfl⟩ (Nat.le_of_ble_eq_true rfl) (run_X7_headBy (hc.1.2.2.2.2 p hp).1) ?_
  exact zw_iret C hA hr hk dX7_of_89 rfl rfl
theorem run_X7_yard_bad {y w : Int} (hy : -2147483648 ≤ y ∧ y ≤ 2147483647) (hw : -2147483648 ≤ w ∧ w ≤ 2147483647) (h : ¬ ((0 ≤ y ∧ y ≤ 7) ∧ (0 ≤ w ∧ w ≤ 2))) : zRun l B mX7_yard [.ref 52, zi y, zi w] ζ (some (zi (-10))) (mBd ζ) := by
  refine zrun_intro (M := mX7_yard) (ls := [some (.ref 52), some (zi y), some (zi w)]) (by decide) rfl rfl rfl (Nat.le_of_ble_eq_true rfl) ?_
  intro X A C hX hA hr hk
  replace C : CX X B A mX7_yard.2.2.2.2 RX7 cX7_yard 3 0 0 := C
  have hr : (xMeth X).sig.returnType = (some .int) := hr
  change ZW X B A 3 0 0 _ _ 0 [some (.ref 52), some (zi y), some (zi w)] []
  by_cases h1 : 0 ≤ y ∧ y ≤ 7
  · refine zw_iload_n (i := 1) (nx := 1) C dX7_yard_0 rfl rfl rfl ?_
    refine zw_cS11 (nx := 4) C dX7_yard_1 rfl csX7_92 ⟨Nat.le_of_ble_eq_true rfl, Nat.le_of_ble_eq_true rfl⟩ (Nat.le_of_ble_eq_true rfl) (run_X7_isYard_t h1) ?_
    refine zw_if_eq (tgt := 16) (nx := 7) C dX7_yard_4 rfl rfl (by omega) (fun h4 => by exfalso; omega) (fun h4 => ?_)
    refine zw_iload_n (i := 2) (nx := 8) C dX7_yard_7 rfl rfl rfl ?_
    refine zw_iconst (nx := 9) C dX7_yard_8 rfl ?_
    refine zw_iconst (nx := 10) C dX7_yard_9 rfl ?_
    refine zw_cS31 (nx := 13) C dX7_yard_10 rfl csX7_88 ⟨Nat.le_of_ble_eq_true rfl, Nat.le_of_ble_eq_true rfl⟩ (Nat.le_of_ble_eq_true rfl) (run_X7_in_f hw (by omega) (fun q => h ⟨h1, q⟩)) ?_
    refine zw_if_ne (tgt := 21) (nx := 16) C dX7_yard_13 rfl rfl (by omega) (fun h13 => by exfalso; omega) (fun h13 => ?_)
    refine zw_aload_n (i := 0) (nx := 17) C dX7_yard_16 rfl rfl rfl ?_
    refine zw_cV01 (nx := 20) C dX7_yard_17 rfl cvX7_221 rfl rfl ⟨Nat.le_of_ble_eq_true rfl, Nat.le_of_ble_eq_true rfl⟩ rfl rfl (Nat.le_of_ble_eq_true rfl) run_X7_ten ?_
    exact zw_iret C hA hr hk dX7_yard_20 rfl rfl
  · refine zw_iload_n (i := 1) (nx := 1) C dX7_yard_0 rfl rfl rfl ?_
    refine zw_cS11 (nx := 4) C dX7_yard_1 rfl csX7_92 ⟨Nat.le_of_ble_eq_true rfl, Nat.le_of_ble_eq_true rfl⟩ (Nat.le_of_ble_eq_true rfl) (run_X7_isYard_f hy h1) ?_
    refine zw_if_eq (tgt := 16) (nx := 7) C dX7_yard_4 rfl rfl (by omega) (fun h4 => ?_) (fun h4 => by exfalso; omega)
    refine zw_aload_n (i := 0) (nx := 17) C dX7_yard_16 rfl rfl rfl ?_
    refine zw_cV01 (nx := 20) C dX7_yard_17 rfl cvX7_221 rfl rfl ⟨Nat.le_of_ble_eq_true rfl, Nat.le_of_ble_eq_true rfl⟩ rfl rfl (Nat.le_of_ble_eq_true rfl) run_X7_ten ?_
    exact zw_iret C hA hr hk dX7_yard_20 rfl rfl
theorem run_X7_yard_0 {y : Nat} (hy : y < 8) : zRun l B mX7_yard [.ref 52, zi y, zi 0] ζ (some (zi (ζ.1 54 y))) ζ := by
  refine zrun_intro (M := mX7_yard) (ls := [some (.ref 52), some (zi y), some (zi 0)]) (by decide) rfl rfl rfl (Nat.le_of_ble_eq_true rfl) ?_
  intro X A C hX hA hr hk
  replace C : CX X B A mX7_yard.2.2.2.2 RX7 cX7_yard 3 0 0 := C
  have hr : (xMeth X).sig.returnType = (some .int) := hr
  change ZW X B A 3 0 0 _ _ 0 [some (.ref 52), some (zi y), some (zi 0)] []
  refine zw_iload_n (i := 1) (nx := 1) C dX7_yard_0 rfl rfl rfl ?_
  refine zw_cS11 (nx := 4) C dX7_yard_1 rfl csX7_92 ⟨Nat.le_of_ble_eq_true rfl, Nat.le_of_ble_eq_true rfl⟩ (Nat.le_of_ble_eq_true rfl) (run_X7_isYard_t (by omega)) ?_
  refine zw_if_eq (tgt := 16) (nx := 7) C dX7_yard_4 rfl rfl (by omega) (fun h4 => by exfalso; omega) (fun h4 => ?_)
  refine zw_iload_n (i := 2) (nx := 8) C dX7_yard_7 rfl rfl rfl ?_
  refine zw_iconst (nx := 9) C dX7_yard_8 rfl ?_
  refine zw_iconst (nx := 10) C dX7_yard_9 rfl ?_
  refine zw_cS31 (nx := 13) C dX7_yard_10 rfl csX7_88 ⟨Nat.le_of_ble_eq_true rfl, Nat.le_of_ble_eq_true rfl⟩ (Nat.le_of_ble_eq_true rfl) (run_X7_in_t (by omega) (by omega) (by omega)) ?_
  refine zw_if_ne (tgt := 21) (nx := 16) C dX7_yard_13 rfl rfl (by omega) (fun h13 => ?_) (fun h13 => by exfalso; omega)
  refine zw_iload_n (i := 2) (nx := 22) C dX7_yard_21 rfl rfl rfl ?_
  refine zw_if_ne (tgt := 34) (nx := 25) C dX7_yard_22 rfl rfl (by omega) (fun h22 => by exfalso; omega) (fun h22 => ?_)
  refine zw_aload_n (i := 0) (nx := 26) C dX7_yard_25 rfl rfl rfl ?_
  refine zw_getr (nx := 29) C dX7_yard_26 rfl flX7_20 iq6 rfl rfl rfl rfl ?_
  refine zw_iload_n (i := 1) (nx := 30) C dX7_yard_29 rfl rfl rfl ?_
  refine zw_iald (y) (nx := 31) C dX7_yard_30 rfl rfl rfl rfl (by omega) ?_
  refine zw_goto (nx := 52) C dX7_yard_31 rfl ?_
  exact zw_iret C hA hr hk dX7_yard_52 rfl rfl
theorem run_X7_yard_1 {n y : Nat} (hc : mOk ζ n) (hy : y < 8) : zRun l B mX7_yard [.ref 52, zi y, zi 1] ζ (some (zi (sDk (mV ζ) y))) ζ := by
  refine zrun_intro (M := mX7_yard) (ls := [some (.ref 52), some (zi y), some (zi 1)]) (by decide) rfl rfl rfl (Nat.le_of_ble_eq_true rfl) ?_
  intro X A C hX hA hr hk
  replace C : CX X B A mX7_yard.2.2.2.2 RX7 cX7_yard 3 0 0 := C
  have hr : (xMeth X).sig.returnType = (some .int) := hr
  change ZW X B A 3 0 0 _ _ 0 [some (.ref 52), some (zi y), some (zi 1)] []
  refine zw_iload_n (i := 1) (nx := 1) C dX7_yard_0 rfl rfl rfl ?_
  refine zw_cS11 (nx := 4) C dX7_yard_1 rfl csX7_92 ⟨Nat.le_of_ble_eq_true rfl, Nat.le_of_ble_eq_true rfl⟩ (Nat.le_of_ble_eq_true rfl) (run_X7_isYard_t (by omega)) ?_
  refine zw_if_eq (tgt := 16) (nx := 7) C dX7_yard_4 rfl rfl (by omega) (fun h4 => by exfalso; omega) (fun h4 => ?_)
  refine zw_iload_n (i := 2) (nx := 8) C dX7_yard_7 rfl rfl rfl ?_
  refine zw_iconst (nx := 9) C dX7_yard_8 rfl ?_
  refine zw_iconst (nx := 10) C dX7_yard_9 rfl ?_
  refine zw_cS31 (nx := 13) C dX7_yard_10 rfl csX7_88 ⟨Nat.le_of_ble_eq_true rfl, Nat.le_of_ble_eq_true rfl⟩ (Nat.le_of_ble_eq_true rfl) (run_X7_in_t (by omega) (by omega) (by omega)) ?_
  refine zw_if_ne (tgt := 21) (nx := 16) C dX7_yard_13 rfl rfl (by omega) (fun h13 => ?_) (fun h13 => by exfalso; omega)
  refine zw_iload_n (i := 2) (nx := 22) C dX7_yard_21 rfl rfl rfl ?_
  refine zw_if_ne (tgt := 34) (nx := 25) C dX7_yard_22 rfl rfl (by omega) (fun h22 => ?_) (fun h22 => by exfalso; omega)
  refine zw_iload_n (i := 2) (nx := 35) C dX7_yard_34 rfl rfl rfl ?_
  refine zw_iconst (nx := 36) C dX7_yard_35 rfl ?_
  refine zw_icmp_ne (tgt := 47) (nx := 39) C dX7_yard_36 rfl rfl (by omega) (fun h36 => by exfalso; omega) (fun h36 => ?_)
  refine zw_aload_n (i := 0) (nx := 40) C dX7_yard_39 rfl rfl rfl ?_
  refine zw_iload_n (i := 1) (nx := 41) C dX7_yard_40 rfl rfl rfl ?_
  refine zw_cV11 (nx := 44) C dX7_yard_41 rfl cvX7_180 rfl rfl ⟨Nat.le_of_ble_eq_true rfl, Nat.le_of_ble_eq_true rfl⟩ rfl rfl (Nat.le_of_ble_eq_true rfl) (run_X7_darkIn hc (by omega)) ?_
  refine zw_goto (nx := 52) C dX7_yard_44 rfl ?_
  exact zw_iret C hA hr hk dX7_yard_52 rfl rfl
theorem run_X7_yard_2 {n y : Nat} (hc : mOk ζ n) (hy : y < 8) : zRun l B mX7_yard [.ref 52, zi y, zi 2] ζ (some (zi (sHol (mV ζ) y 0 n))) ζ := by
  refine zrun_intro (M := mX7_yard) (ls := [some (.ref 52), some (zi y), some (zi 2)]) (by decide) rfl rfl rfl (Nat.le_of_ble_eq_true rfl) ?_
  intro X A C hX hA hr hk
  replace C : CX X B A mX7_yard.2.2.2.2 RX7 cX7_yard 3 0 0 := C
  have hr : (xMeth X).sig.returnType = (some .int) := hr
  change ZW X B A 3 0 0 _ _ 0 [some (.ref 52), some (zi y), some (zi 2)] []
  refine zw_iload_n (i := 1) (nx := 1) C dX7_yard_0 rfl rfl rfl ?_
  refine zw_cS11 (nx := 4) C dX7_yard_1 rfl csX7_92 ⟨Nat.le_of_ble_eq_true rfl, Nat.le_of_ble_eq_true rfl⟩ (Nat.le_of_ble_eq_true rfl) (run_X7_isYard_t (by omega)) ?_
  refine zw_if_eq (tgt := 16) (nx := 7) C dX7_yard_4 rfl rfl (by omega) (fun h4 => by exfalso; omega) (fun h4 => ?_)
  refine zw_iload_n (i := 2) (nx := 8) C dX7_yard_7 rfl rfl rfl ?_
  refine zw_iconst (nx := 9) C dX7_yard_8 rfl ?_
  refine zw_iconst (nx := 10) C dX7_yard_9 rfl ?_
  refine zw_cS31 (nx := 13) C dX7_yard_10 rfl csX7_88 ⟨Nat.le_of_ble_eq_true rfl, Nat.le_of_ble_eq_true rfl⟩ (Nat.le_of_ble_eq_true rfl) (run_X7_in_t (by omega) (by omega) (by omega)) ?_
  refine zw_if_ne (tgt := 21) (nx := 16) C dX7_yard_13 rfl rfl (by omega) (fun h13 => ?_) (fun h13 => by exfalso; omega)
  refine zw_iload_n (i := 2) (nx := 22) C dX7_yard_21 rfl rfl rfl ?_
  refine zw_if_ne (tgt := 34) (nx := 25) C dX7_yard_22 rfl rfl (by omega) (fun h22 => ?_) (fun h22 => by exfalso; omega)
  refine zw_iload_n (i := 2) (nx := 35) C dX7_yard_34 rfl rfl rfl ?_
  refine zw_iconst (nx := 36) C dX7_yard_35 rfl ?_
  refine zw_icmp_ne (tgt := 47) (nx := 39) C dX7_yard_36 rfl rfl (by omega) (fun h36 => ?_) (fun h36 => by exfalso; omega)
  refine zw_aload_n (i := 0) (nx := 48) C dX7_yard_47 rfl rfl rfl ?_
  refine zw_iload_n (i := 1) (nx := 49) C dX7_yard_48 rfl rfl rfl ?_
  refine zw_cV11 (nx := 52) C dX7_yard_49 rfl cvX7_193 rfl rfl ⟨Nat.le_of_ble_eq_true rfl, Nat.le_of_ble_eq_true rfl⟩ rfl rfl (Nat.le_of_ble_eq_true rfl) (run_X7_who hc (by omega)) ?_
  exact zw_iret C hA hr hk dX7_yard_52 rfl rfl
theorem run_X7_sees_bad {n : Nat} (hn : n ≤ 5) (hn3 : ζ.1 52 1 = n) {p y : Int} (hp : -2147483648 ≤ p ∧ p ≤ 2147483647) (hy : -2147483648 ≤ y ∧ y ≤ 2147483647) (h : ¬ ((0 ≤ p ∧ p < n) ∧ (-1 ≤ y ∧ y ≤ 7))) : zRun l B mX7_sees [.ref 52, zi p, zi y] ζ (some (zi (-2))) (mBd ζ) := by
  refine zrun_intro (M := mX7_sees) (ls := [some (.ref 52), some (zi p), some (zi y)]) (by decide) rfl rfl rfl (Nat.le_of_ble_eq_true rfl) ?_
  intro X A C hX hA hr hk
  replace C : CX X B A mX7_sees.2.2.2.2 RX7 cX7_sees 3 0 0 := C
  have hr : (xMeth X).sig.returnType = (some .int) := hr
  change ZW X B A 3 0 0 _ _ 0 [some (.ref 52), some (zi p), some (zi y)] []
  by_cases h1 : 0 ≤ p ∧ p < n
  · refine zw_aload_n (i := 0) (nx := 1) C dX7_sees_0 rfl rfl rfl ?_
    refine zw_iload_n (i := 1) (nx := 2) C dX7_sees_1 rfl rfl rfl ?_
    refine zw_cV11 (nx := 5) C dX7_sees_2 rfl cvX7_212 rfl rfl ⟨Nat.le_of_ble_eq_true rfl, Nat.le_of_ble_eq_true rfl⟩ rfl rfl (Nat.le_of_ble_eq_true rfl) (run_X7_isOne_t hn hn3 h1) ?_
    refine zw_if_eq (tgt := 18) (nx := 8) C dX7_sees_5 rfl rfl (by omega) (fun h5 => by exfalso; omega) (fun h5 => ?_)
    refine zw_iload_n (i := 2) (nx := 9) C dX7_sees_8 rfl rfl rfl ?_
    refine zw_iconst (nx := 10) C dX7_sees_9 rfl ?_
    refine zw_bipush (v := 7) (nx := 12) C dX7_sees_10 (by decide) rfl ?_
    refine zw_cS31 (nx := 15) C dX7_sees_12 rfl csX7_88 ⟨Nat.le_of_ble_eq_true rfl, Nat.le_of_ble_eq_true rfl⟩ (Nat.le_of_ble_eq_true rfl) (run_X7_in_f hy (by omega) (fun q => h ⟨h1, q⟩)) ?_
    refine zw_if_ne (tgt := 23) (nx := 18) C dX7_sees_15 rfl rfl (by omega) (fun h15 => by exfalso; omega) (fun h15 => ?_)
    refine zw_aload_n (i := 0) (nx := 19) C dX7_sees_18 rfl rfl rfl ?_
    refine zw_cV01 (nx := 22) C dX7_sees_19 rfl cvX7_96 rfl rfl ⟨Nat.le_of_ble_eq_true rfl, Nat.le_of_ble_eq_true rfl⟩ rfl rfl (Nat.le_of_ble_eq_true rfl) run_X7_bad ?_
    exact zw_iret C hA hr hk dX7_sees_22 rfl rfl
  · refine zw_aload_n (i := 0) (nx := 1) C dX7_sees_0 rfl rfl rfl ?_
    refine zw_iload_n (i := 1) (nx := 2) C dX7_sees_1 rfl rfl rfl ?_
    refine zw_cV11 (nx := 5) C dX7_sees_2 rfl cvX7_212 rfl rfl ⟨Nat.le_of_ble_eq_true rfl, Nat.le_of_ble_eq_true rfl⟩ rfl rfl (Nat.le_of_ble_eq_true rfl) (run_X7_isOne_f hn hn3 hp h1) ?_
    refine zw_if_eq (tgt := 18) (nx := 8) C dX7_sees_5 rfl rfl (by omega) (fun h5 => ?_) (fun h5 => by exfalso; omega)
    refine zw_aload_n (i := 0) (nx := 19) C dX7_sees_18 rfl rfl rfl ?_
    refine zw_cV01 (nx := 22) C dX7_sees_19 rfl cvX7_96 rfl rfl ⟨Nat.le_of_ble_eq_true rfl, Nat.le_of_ble_eq_true rfl⟩ rfl rfl (Nat.le_of_ble_eq_true rfl) run_X7_bad ?_
    exact zw_iret C hA hr hk dX7_sees_22 rfl rfl
theorem run_X7_sees_now {n p : Nat} (hc : mOk ζ n) (hp : p < n) : zRun l B mX7_sees [.ref 52, zi p, zi (-1)] ζ (some (zi (sNow (mV ζ) n p))) ζ := by
  refine zrun_intro (M := mX7_sees) (ls := [some (.ref 52), some (zi p), some (zi (-1))]) (by decide) rfl rfl rfl (Nat.le_of_ble_eq_true rfl) ?_
  intro X A C hX hA hr hk
  replace C : CX X B A mX7_sees.2.2.2.2 RX7 cX7_sees 3 0 0 := C
  have hr : (xMeth X).sig.returnType = (some .int) := hr
  change ZW X B A 3 0 0 _ _ 0 [some (.ref 52), some (zi p), some (zi (-1))] []
  refine zw_aload_n (i := 0) (nx := 1) C dX7_sees_0 rfl rfl rfl ?_
  refine zw_iload_n (i := 1) (nx := 2) C dX7_sees_1 rfl rfl rfl ?_
  refine zw_cV11 (nx := 5) C dX7_sees_2 rfl cvX7_212 rfl rfl ⟨Nat.le_of_ble_eq_true rfl, Nat.le_of_ble_eq_true rfl⟩ rfl rfl (Nat.le_of_ble_eq_true rfl) (run_X7_isOne_t hc.1.1 hc.2 (by omega)) ?_
  refine zw_if_eq (tgt := 18) (nx := 8) C dX7_sees_5 rfl rfl (by omega) (fun h5 => by exfalso; omega) (fun h5 => ?_)
  refine zw_iload_n (i := 2) (nx := 9) C dX7_sees_8 rfl rfl rfl ?_
  refine zw_iconst (nx := 10) C dX7_sees_9 rfl ?_
  refine zw_bipush (v := 7) (nx := 12) C dX7_sees_10 (by decide) rfl ?_
  refine zw_cS31 (nx := 15) C dX7_sees_12 rfl csX7_88 ⟨Nat.le_of_ble_eq_true rfl, Nat.le_of_ble_eq_true rfl⟩ (Nat.le_of_ble_eq_true rfl) (run_X7_in_t (by omega) (by omega) (by omega)) ?_
  refine zw_if_ne (tgt := 23) (nx := 18) C dX7_sees_15 rfl rfl (by omega) (fun h15 => ?_) (fun h15 => by exfalso; omega)
  refine zw_iload_n (i := 2) (nx := 24) C dX7_sees_23 rfl rfl rfl ?_
  refine zw_iconst (nx := 25) C dX7_sees_24 rfl ?_
  refine zw_icmp_ne (tgt := 34) (nx := 28) C dX7_sees_25 rfl rfl (by omega) (fun h25 => by exfalso; omega) (fun h25 => ?_)
  refine zw_aload_n (i := 0) (nx := 29) C dX7_sees_28 rfl rfl rfl ?_
  refine zw_iload_n (i := 1) (nx := 30) C dX7_sees_29 rfl rfl rfl ?_
  refine zw_cV11 (nx := 33) C dX7_sees_30 rfl cvX7_186 rfl rfl ⟨Nat.le_of_ble_eq_true rfl, Nat.le_of_ble_eq_true rfl⟩ rfl rfl (Nat.le_of_ble_eq_true rfl) (run_X7_seen hc hp) ?_
  exact zw_iret C hA hr hk dX7_sees_33 rfl rfl
theorem run_X7_sees_in {n p y : Nat} (hc : mOk ζ n) (hp : p < n) (hy : y < 8) (ho : sOpn (mV ζ) n p y = true) : zRun l B mX7_sees [.ref 52, zi p, zi y] ζ (some (zi (sSeen (mV ζ) n p y))) ζ := by
  have hn := hc.1.1
  have ro := fun X : eX => run_X7_isOpen (l := xLa X) (B := B) hc (p := p) (y := y) (by omega) (by omega)
  rw [ho, show b2i true = 1 from rfl] at ro
  refine zrun_intro (M := mX7_sees) (ls := [some (.ref 52), some (zi p), some (zi y)]) (by decide) rfl rfl rfl (Nat.le_of_ble_eq_true rfl) ?_
  intro X A C hX hA hr hk
  replace C : CX X B A mX7_sees.2.2.2.2 RX7 cX7_sees 3 0 0 := C
  have hr : (xMeth X).sig.returnType = (some .int) := hr
  change ZW X B A 3 0 0 _ _ 0 [some (.ref 52), some (zi p), some (zi y)] []
  refine zw_aload_n (i := 0) (nx := 1) C dX7_sees_0 rfl rfl rfl ?_
  refine zw_iload_n (i := 1) (nx := 2) C dX7_sees_1 rfl rfl rfl ?_
  refine zw_cV11 (nx := 5) C dX7_sees_2 rfl cvX7_212 rfl rfl ⟨Nat.le_of_ble_eq_true rfl, Nat.le_of_ble_eq_true rfl⟩ rfl rfl (Nat.le_of_ble_eq_true rfl) (run_X7_isOne_t hc.1.1 hc.2 (by omega)) ?_
  refine zw_if_eq (tgt := 18) (nx := 8) C dX7_sees_5 rfl rfl (by omega) (fun h5 => by exfalso; omega) (fun h5 => ?_)
  refine zw_iload_n (i := 2) (nx := 9) C dX7_sees_8 rfl rfl rfl ?_
  refine zw_iconst (nx := 10) C dX7_sees_9 rfl ?_
  refine zw_bipush (v := 7) (nx := 12) C dX7_sees_10 (by decide) rfl ?_
  refine zw_cS31 (nx := 15) C dX7_sees_12 rfl csX7_88 ⟨Nat.le_of_ble_eq_true rfl, Nat.le_of_ble_eq_true rfl⟩ (Nat.le_of_ble_eq_true rfl) (run_X7_in_t (by omega) (by omega) (by omega)) ?_
  refine zw_if_ne (tgt := 23) (nx := 18) C dX7_sees_15 rfl rfl (by omega) (fun h15 => ?_) (fun h15 => by exfalso; omega)
  refine zw_iload_n (i := 2) (nx := 24) C dX7_sees_23 rfl rfl rfl ?_
  refine zw_iconst (nx := 25) C dX7_sees_24 rfl ?_
  refine zw_icmp_ne (tgt := 34) (nx := 28) C dX7_sees_25 rfl rfl (by omega) (fun h25 => ?_) (fun h25 => by exfalso; omega)
  refine zw_aload_n (i := 0) (nx := 35) C dX7_sees_34 rfl rfl rfl ?_
  refine zw_iload_n (i := 1) (nx := 36) C dX7_sees_35 rfl rfl rfl ?_
  refine zw_iload_n (i := 2) (nx := 37) C dX7_sees_36 rfl rfl rfl ?_
  refine zw_cV21 (nx := 40) C dX7_sees_37 rfl cvX7_227 rfl rfl ⟨Nat.le_of_ble_eq_true rfl, Nat.le_of_ble_eq_true rfl⟩ rfl rfl (Nat.le_of_ble_eq_true rfl) (ro X) ?_
  refine zw_if_eq (tgt := 52) (nx := 43) C dX7_sees_40 rfl rfl (by omega) (fun h40 => by exfalso; omega) (fun h40 => ?_)
  refine zw_aload_n (i := 0) (nx := 44) C dX7_sees_43 rfl rfl rfl ?_
  refine zw_iload_n (i := 1) (nx := 45) C dX7_sees_44 rfl rfl rfl ?_
  refine zw_iload_n (i := 2) (nx := 46) C dX7_sees_45 rfl rfl rfl ?_
  refine zw_cV21 (nx := 49) C dX7_sees_46 rfl cvX7_224 rfl rfl ⟨Nat.le_of_ble_eq_true rfl, Nat.le_of_ble_eq_true rfl⟩ rfl rfl (Nat.le_of_ble_eq_true rfl) (run_X7_seesIn hc hp hy) ?_
  refine zw_goto (nx := 56) C dX7_sees_49 rfl ?_
  exact zw_iret C hA hr hk dX7_sees_56 rfl rfl
theorem run_X7_sees_no {n p y : Nat} (hc : mOk ζ n) (hp : p < n) (hy : y < 8) (ho : sOpn (mV ζ) n p y = false) : zRun l B mX7_sees [.ref 52, zi p, zi y] ζ (some (zi (-3))) (mNo ζ) := by
  have hn := hc.1.1
  have ro := fun X : eX => run_X7_isOpen (l := xLa X) (B := B) hc (p := p) (y := y) (by omega) (by omega)
  rw [ho, show b2i false = 0 from rfl] at ro
  refine zrun_intro (M := mX7_sees) (ls := [some (.ref 52), some (zi p), some (zi y)]) (by decide) rfl rfl rfl (Nat.le_of_ble_eq_true rfl) ?_
  intro X A C hX hA hr hk
  replace C : CX X B A mX7_sees.2.2.2.2 RX7 cX7_sees 3 0 0 := C
  have hr : (xMeth X).sig.returnType = (some .int) := hr
  change ZW X B A 3 0 0 _ _ 0 [some (.ref 52), some (zi p), some (zi y)] []
  refine zw_aload_n (i := 0) (nx := 1) C dX7_sees_0 rfl rfl rfl ?_
  refine zw_iload_n (i := 1) (nx := 2) C dX7_sees_1 rfl rfl rfl ?_
  refine zw_cV11 (nx := 5) C dX7_sees_2 rfl cvX7_212 rfl rfl ⟨Nat.le_of_ble_eq_true rfl, Nat.le_of_ble_eq_true rfl⟩ rfl rfl (Nat.le_of_ble_eq_true rfl) (run_X7_isOne_t hc.1.1 hc.2 (by omega)) ?_
  refine zw_if_eq (tgt := 18) (nx := 8) C dX7_sees_5 rfl rfl (by omega) (fun h5 => by exfalso; omega) (fun h5 => ?_)
  refine zw_iload_n (i := 2) (nx := 9) C dX7_sees_8 rfl rfl rfl ?_
  refine zw_iconst (nx := 10) C dX7_sees_9 rfl ?_
  refine zw_bipush (v := 7) (nx := 12) C dX7_sees_10 (by decide) rfl ?_
  refine zw_cS31 (nx := 15) C dX7_sees_12 rfl csX7_88 ⟨Nat.le_of_ble_eq_true rfl, Nat.le_of_ble_eq_true rfl⟩ (Nat.le_of_ble_eq_true rfl) (run_X7_in_t (by omega) (by omega) (by omega)) ?_
  refine zw_if_ne (tgt := 23) (nx := 18) C dX7_sees_15 rfl rfl (by omega) (fun h15 => ?_) (fun h15 => by exfalso; omega)
  refine zw_iload_n (i := 2) (nx := 24) C dX7_sees_23 rfl rfl rfl ?_
  refine zw_iconst (nx := 25) C dX7_sees_24 rfl ?_
  refine zw_icmp_ne (tgt := 34) (nx := 28) C dX7_sees_25 rfl rfl (by omega) (fun h25 => ?_) (fun h25 => by exfalso; omega)
  refine zw_aload_n (i := 0) (nx := 35) C dX7_sees_34 rfl rfl rfl ?_
  refine zw_iload_n (i := 1) (nx := 36) C dX7_sees_35 rfl rfl rfl ?_
  refine zw_iload_n (i := 2) (nx := 37) C dX7_sees_36 rfl rfl rfl ?_
  refine zw_cV21 (nx := 40) C dX7_sees_37 rfl cvX7_227 rfl rfl ⟨Nat.le_of_ble_eq_true rfl, Nat.le_of_ble_eq_true rfl⟩ rfl rfl (Nat.le_of_ble_eq_true rfl) (ro X) ?_
  refine zw_if_eq (tgt := 52) (nx := 43) C dX7_sees_40 rfl rfl (by omega) (fun h40 => ?_) (fun h40 => by exfalso; omega)
  refine zw_aload_n (i := 0) (nx := 53) C dX7_sees_52 rfl rfl rfl ?_
  refine zw_cV01 (nx := 56) C dX7_sees_53 rfl cvX7_203 rfl rfl ⟨Nat.le_of_ble_eq_true rfl, Nat.le_of_ble_eq_true rfl⟩ rfl rfl (Nat.le_of_ble_eq_true rfl) run_X7_no ?_
  exact zw_iret C hA hr hk dX7_sees_56 rfl rfl
theorem run_X7_gives_bad {n : Nat} (hn : n ≤ 5) (hn3 : ζ.1 52 1 = n) {p y : Int} (hp : -2147483648 ≤ p ∧ p ≤ 2147483647) (hy : -2147483648 ≤ y ∧ y ≤ 2147483647) (h : ¬ ((0 ≤ p ∧ p < n) ∧ (-1 ≤ y ∧ y ≤ 7))) : zRun l B mX7_gives [.ref 52, zi p, zi y] ζ (some (zi (-2))) (mBd ζ) := by
  refine zrun_intro (M := mX7_gives) (ls := [some (.ref 52), some (zi p), some (zi y)]) (by decide) rfl rfl rfl (Nat.le_of_ble_eq_true rfl) ?_
  intro X A C hX hA hr hk
  replace C : CX X B A mX7_gives.2.2.2.2 RX7 cX7_gives 3 0 0 := C
  have hr : (xMeth X).sig.returnType = (some .int) := hr
  change ZW X B A 3 0 0 _ _ 0 [some (.ref 52), some (zi p), some (zi y)] []
  by_cases h1 : 0 ≤ p ∧ p < n
  · refine zw_aload_n (i := 0) (nx := 1) C dX7_gives_0 rfl rfl rfl ?_
    refine zw_iload_n (i := 1) (nx := 2) C dX7_gives_1 rfl rfl rfl ?_
    refine zw_cV11 (nx := 5) C dX7_gives_2 rfl cvX7_212 rfl rfl ⟨Nat.le_of_ble_eq_true rfl, Nat.le_of_ble_eq_true rfl⟩ rfl rfl (Nat.le_of_ble_eq_true rfl) (run_X7_isOne_t hn hn3 h1) ?_
    refine zw_if_eq (tgt := 18) (nx := 8) C dX7_gives_5 rfl rfl (by omega) (fun h5 => by exfalso; omega) (fun h5 => ?_)
    refine zw_iload_n (i := 2) (nx := 9) C dX7_gives_8 rfl rfl rfl ?_
    refine zw_iconst (nx := 10) C dX7_gives_9 rfl ?_
    refine zw_bipush (v := 7) (nx := 12) C dX7_gives_10 (by decide) rfl ?_
    refine zw_cS31 (nx := 15) C dX7_gives_12 rfl csX7_88 ⟨Nat.le_of_ble_eq_true rfl, Nat.le_of_ble_eq_true rfl⟩ (Nat.le_of_ble_eq_true rfl) (run_X7_in_f hy (by omega) (fun q => h ⟨h1, q⟩)) ?_
    refine zw_if_ne (tgt := 23) (nx := 18) C dX7_gives_15 rfl rfl (by omega) (fun h15 => by exfalso; omega) (fun h15 => ?_)
    refine zw_aload_n (i := 0) (nx := 19) C dX7_gives_18 rfl rfl rfl ?_
    refine zw_cV01 (nx := 22) C dX7_gives_19 rfl cvX7_96 rfl rfl ⟨Nat.le_of_ble_eq_true rfl, Nat.le_of_ble_eq_true rfl⟩ rfl rfl (Nat.le_of_ble_eq_true rfl) run_X7_bad ?_
    exact zw_iret C hA hr hk dX7_gives_22 rfl rfl
  · refine zw_aload_n (i := 0) (nx := 1) C dX7_gives_0 rfl rfl rfl ?_
    refine zw_iload_n (i := 1) (nx := 2) C dX7_gives_1 rfl rfl rfl ?_
    refine zw_cV11 (nx := 5) C dX7_gives_2 rfl cvX7_212 rfl rfl ⟨Nat.le_of_ble_eq_true rfl, Nat.le_of_ble_eq_true rfl⟩ rfl rfl (Nat.le_of_ble_eq_true rfl) (run_X7_isOne_f hn hn3 hp h1) ?_
    refine zw_if_eq (tgt := 18) (nx := 8) C dX7_gives_5 rfl rfl (by omega) (fun h5 => ?_) (fun h5 => by exfalso; omega)
    refine zw_aload_n (i := 0) (nx := 19) C dX7_gives_18 rfl rfl rfl ?_
    refine zw_cV01 (nx := 22) C dX7_gives_19 rfl cvX7_96 rfl rfl ⟨Nat.le_of_ble_eq_true rfl, Nat.le_of_ble_eq_true rfl⟩ rfl rfl (Nat.le_of_ble_eq_true rfl) run_X7_bad ?_
    exact zw_iret C hA hr hk dX7_gives_22 rfl rfl
theorem run_X7_gives_0 {n p : Nat} (hc : mOk ζ n) (hp : p < n) (h : ζ.1 58 p = -1) : zRun l B mX7_gives [.ref 52, zi p, zi (-1)] ζ (some (zi 0)) ζ := by
  have hn := hc.1.1
  have a2 : 0 ≤ ζ.1 56 p ∧ ζ.1 56 p ≤ 500 := (hc.1.2.2.2.2 p hp).2.1
  refine zrun_intro (M := mX7_gives) (ls := [some (.ref 52), some (zi p), some (zi (-1))]) (by decide) rfl rfl rfl (Nat.le_of_ble_eq_true rfl) ?_
  intro X A C hX hA hr hk
  replace C : CX X B A mX7_gives.2.2.2.2 RX7 cX7_gives 3 0 0 := C
  have hr : (xMeth X).sig.returnType = (some .int) := hr
  change ZW X B A 3 0 0 _ _ 0 [some (.ref 52), some (zi p), some (zi (-1))] []
  refine zw_aload_n (i := 0) (nx := 1) C dX7_gives_0 rfl rfl rfl ?_
  refine zw_iload_n (i := 1) (nx := 2) C dX7_gives_1 rfl rfl rfl ?_
  refine zw_cV11 (nx := 5) C dX7_gives_2 rfl cvX7_212 rfl rfl ⟨Nat.le_of_ble_eq_true rfl, Nat.le_of_ble_eq_true rfl⟩ rfl rfl (Nat.le_of_ble_eq_true rfl) (run_X7_isOne_t hc.1.1 hc.2 (by omega)) ?_
  refine zw_if_eq (tgt := 18) (nx := 8) C dX7_gives_5 rfl rfl (by omega) (fun h5 => by exfalso; omega) (fun h5 => ?_)
  refine zw_iload_n (i := 2) (nx := 9) C dX7_gives_8 rfl rfl rfl ?_
  refine zw_iconst (nx := 10) C dX7_gives_9 rfl ?_
  refine zw_bipush (v := 7) (nx := 12) C dX7_gives_10 (by decide) rfl ?_
  refine zw_cS31 (nx := 15) C dX7_gives_12 rfl csX7_88 ⟨Nat.le_of_ble_eq_true rfl, Nat.le_of_ble_eq_true rfl⟩ (Nat.le_of_ble_eq_true rfl) (run_X7_in_t (by omega) (by omega) (by omega)) ?_
  refine zw_if_ne (tgt := 23) (nx := 18) C dX7_gives_15 rfl rfl (by omega) (fun h15 => ?_) (fun h15 => by exfalso; omega)
  refine zw_iload_n (i := 2) (nx := 24) C dX7_gives_23 rfl rfl rfl ?_
  refine zw_iconst (nx := 25) C dX7_gives_24 rfl ?_
  refine zw_icmp_ne (tgt := 43) (nx := 28) C dX7_gives_25 rfl rfl (by omega) (fun h25 => by exfalso; omega) (fun h25 => ?_)
  refine zw_aload_n (i := 0) (nx := 29) C dX7_gives_28 rfl rfl rfl ?_
  refine zw_getr (nx := 32) C dX7_gives_29 rfl flX7_26 iq6 rfl rfl rfl rfl ?_
  refine zw_iload_n (i := 1) (nx := 33) C dX7_gives_32 rfl rfl rfl ?_
  refine zw_iald (p) (nx := 34) C dX7_gives_33 rfl rfl rfl rfl (by omega) ?_
  refine zw_aload_n (i := 0) (nx := 35) C dX7_gives_34 rfl rfl rfl ?_
  refine zw_iload_n (i := 1) (nx := 36) C dX7_gives_35 rfl rfl rfl ?_
  refine zw_cV11 (nx := 39) C dX7_gives_36 rfl cvX7_230 rfl rfl ⟨Nat.le_of_ble_eq_true rfl, Nat.le_of_ble_eq_true rfl⟩ rfl rfl (Nat.le_of_ble_eq_true rfl) (run_X7_worth0 hc hp h) ?_
  refine zw_cS21 (nx := 42) C dX7_gives_39 rfl csX7_233 ⟨Nat.le_of_ble_eq_true rfl, Nat.le_of_ble_eq_true rfl⟩ (Nat.le_of_ble_eq_true rfl) (run_X7_lesser (by omega)) ?_
  exact zw_iret C hA hr hk dX7_gives_42 (zr (if_neg (by omega)).symm) rfl
theorem run_X7_gives_now {n p y : Nat} (hc : mOk ζ n) (hp : p < n) (hy : y < 8) (h : ζ.1 58 p = y) : zRun l B mX7_gives [.ref 52, zi p, zi (-1)] ζ (some (zi (sBid (mV ζ) n p y))) ζ := by
  have hn := hc.1.1
  have a2 : 0 ≤ ζ.1 56 p ∧ ζ.1 56 p ≤ 500 := (hc.1.2.2.2.2 p hp).2.1
  have e : sNow (mV ζ) n p = sSeen (mV ζ) n p y := by
    show (if ζ.1 58 p = -1 then 0 else sSeen (mV ζ) n p (ζ.1 58 p).toNat) = _
    rw [if_neg (by omega), show (ζ.1 58 p).toNat = y by omega]
  have a1 := hc.1.win p hy
  have rw' := fun X : eX => run_X7_worth (l := xLa X) (B := B) hc hp h
  rw [e] at rw'
  refine zrun_intro (M := mX7_gives) (ls := [some (.ref 52), some (zi p), some (zi (-1))]) (by decide) rfl rfl rfl (Nat.le_of_ble_eq_true rfl) ?_
  intro X A C hX hA hr hk
  replace C : CX X B A mX7_gives.2.2.2.2 RX7 cX7_gives 3 0 0 := C
  have hr : (xMeth X).sig.returnType = (some .int) := hr
  change ZW X B A 3 0 0 _ _ 0 [some (.ref 52), some (zi p), some (zi (-1))] []
  refine zw_aload_n (i := 0) (nx := 1) C dX7_gives_0 rfl rfl rfl ?_
  refine zw_iload_n (i := 1) (nx := 2) C dX7_gives_1 rfl rfl rfl ?_
  refine zw_cV11 (nx := 5) C dX7_gives_2 rfl cvX7_212 rfl rfl ⟨Nat.le_of_ble_eq_true rfl, Nat.le_of_ble_eq_true rfl⟩ rfl rfl (Nat.le_of_ble_eq_true rfl) (run_X7_isOne_t hc.1.1 hc.2 (by omega)) ?_
  refine zw_if_eq (tgt := 18) (nx := 8) C dX7_gives_5 rfl rfl (by omega) (fun h5 => by exfalso; omega) (fun h5 => ?_)
  refine zw_iload_n (i := 2) (nx := 9) C dX7_gives_8 rfl rfl rfl ?_
  refine zw_iconst (nx := 10) C dX7_gives_9 rfl ?_
  refine zw_bipush (v := 7) (nx := 12) C dX7_gives_10 (by decide) rfl ?_
  refine zw_cS31 (nx := 15) C dX7_gives_12 rfl csX7_88 ⟨Nat.le_of_ble_eq_true rfl, Nat.le_of_ble_eq_true rfl⟩ (Nat.le_of_ble_eq_true rfl) (run_X7_in_t (by omega) (by omega) (by omega)) ?_
  refine zw_if_ne (tgt := 23) (nx := 18) C dX7_gives_15 rfl rfl (by omega) (fun h15 => ?_) (fun h15 => by exfalso; omega)
  refine zw_iload_n (i := 2) (nx := 24) C dX7_gives_23 rfl rfl rfl ?_
  refine zw_iconst (nx := 25) C dX7_gives_24 rfl ?_
  refine zw_icmp_ne (tgt := 43) (nx := 28) C dX7_gives_25 rfl rfl (by omega) (fun h25 => by exfalso; omega) (fun h25 => ?_)
  refine zw_aload_n (i := 0) (nx := 29) C dX7_gives_28 rfl rfl rfl ?_
  refine zw_getr (nx := 32) C dX7_gives_29 rfl flX7_26 iq6 rfl rfl rfl rfl ?_
  refine zw_iload_n (i := 1) (nx := 33) C dX7_gives_32 rfl rfl rfl ?_
  refine zw_iald (p) (nx := 34) C dX7_gives_33 rfl rfl rfl rfl (by omega) ?_
  refine zw_aload_n (i := 0) (nx := 35) C dX7_gives_34 rfl rfl rfl ?_
  refine zw_iload_n (i := 1) (nx := 36) C dX7_gives_35 rfl rfl rfl ?_
  refine zw_cV11 (nx := 39) C dX7_gives_36 rfl cvX7_230 rfl rfl ⟨Nat.le_of_ble_eq_true rfl, Nat.le_of_ble_eq_true rfl⟩ rfl rfl (Nat.le_of_ble_eq_true rfl) (rw' X) ?_
  refine zw_cS21 (nx := 42) C dX7_gives_39 rfl csX7_233 ⟨Nat.le_of_ble_eq_true rfl, Nat.le_of_ble_eq_true rfl⟩ (Nat.le_of_ble_eq_true rfl) (run_X7_lesser ⟨by omega, by have a3 : 0 ≤ sWo (mV ζ 2 p) (sSeen (mV ζ) n p y) (mV ζ 1 y) ∧ sWo (mV ζ 2 p) (sSeen (mV ζ) n p y) (mV ζ 1 y) ≤ 420 := a1; omega⟩) ?_
  exact zw_iret C hA hr hk dX7_gives_42 rfl rfl
theorem run_X7_gives_in {n p y : Nat} (hc : mOk ζ n) (hp : p < n) (hy : y < 8) (ho : sOpn (mV ζ) n p y = true) : zRun l B mX7_gives [.ref 52, zi p, zi y] ζ (some (zi (sBid (mV ζ) n p y))) ζ := by
  have hn := hc.1.1
  have a2 : 0 ≤ ζ.1 56 p ∧ ζ.1 56 p ≤ 500 := (hc.1.2.2.2.2 p hp).2.1
  have a1 := hc.1.win p hy
  have ro := fun X : eX => run_X7_isOpen (l := xLa X) (B := B) hc (p := p) (y := y) (by omega) (by omega)
  rw [ho, show b2i true = 1 from rfl] at ro
  refine zrun_intro (M := mX7_gives) (ls := [some (.ref 52), some (zi p), some (zi y)]) (by decide) rfl rfl rfl (Nat.le_of_ble_eq_true rfl) ?_
  intro X A C hX hA hr hk
  replace C : CX X B A mX7_gives.2.2.2.2 RX7 cX7_gives 3 0 0 := C
  have hr : (xMeth X).sig.returnType = (some .int) := hr
  change ZW X B A 3 0 0 _ _ 0 [some (.ref 52), some (zi p), some (zi y)] []
  refine zw_aload_n (i := 0) (nx := 1) C dX7_gives_0 rfl rfl rfl ?_
  refine zw_iload_n (i := 1) (nx := 2) C dX7_gives_1 rfl rfl rfl ?_
  refine zw_cV11 (nx := 5) C dX7_gives_2 rfl cvX7_212 rfl rfl ⟨Nat.le_of_ble_eq_true rfl, Nat.le_of_ble_eq_true rfl⟩ rfl rfl (Nat.le_of_ble_eq_true rfl) (run_X7_isOne_t hc.1.1 hc.2 (by omega)) ?_
  refine zw_if_eq (tgt := 18) (nx := 8) C dX7_gives_5 rfl rfl (by omega) (fun h5 => by exfalso; omega) (fun h5 => ?_)
  refine zw_iload_n (i := 2) (nx := 9) C dX7_gives_8 rfl rfl rfl ?_
  refine zw_iconst (nx := 10) C dX7_gives_9 rfl ?_
  refine zw_bipush (v := 7) (nx := 12) C dX7_gives_10 (by decide) rfl ?_
  refine zw_cS31 (nx := 15) C dX7_gives_12 rfl csX7_88 ⟨Nat.le_of_ble_eq_true rfl, Nat.le_of_ble_eq_true rfl⟩ (Nat.le_of_ble_eq_true rfl) (run_X7_in_t (by omega) (by omega) (by omega)) ?_
  refine zw_if_ne (tgt := 23) (nx := 18) C dX7_gives_15 rfl rfl (by omega) (fun h15 => ?_) (fun h15 => by exfalso; omega)
  refine zw_iload_n (i := 2) (nx := 24) C dX7_gives_23 rfl rfl rfl ?_
  refine zw_iconst (nx := 25) C dX7_gives_24 rfl ?_
  refine zw_icmp_ne (tgt := 43) (nx := 28) C dX7_gives_25 rfl rfl (by omega) (fun h25 => ?_) (fun h25 => by exfalso; omega)
  refine zw_aload_n (i := 0) (nx := 44) C dX7_gives_43 rfl rfl rfl ?_
  refine zw_iload_n (i := 1) (nx := 45) C dX7_gives_44 rfl rfl rfl ?_
  refine zw_iload_n (i := 2) (nx := 46) C dX7_gives_45 rfl rfl rfl ?_
  refine zw_cV21 (nx := 49) C dX7_gives_46 rfl cvX7_227 rfl rfl ⟨Nat.le_of_ble_eq_true rfl, Nat.le_of_ble_eq_true rfl⟩ rfl rfl (Nat.le_of_ble_eq_true rfl) (ro X) ?_
  refine zw_if_eq (tgt := 70) (nx := 52) C dX7_gives_49 rfl rfl (by omega) (fun h49 => by exfalso; omega) (fun h49 => ?_)
  refine zw_aload_n (i := 0) (nx := 53) C dX7_gives_52 rfl rfl rfl ?_
  refine zw_getr (nx := 56) C dX7_gives_53 rfl flX7_26 iq6 rfl rfl rfl rfl ?_
  refine zw_iload_n (i := 1) (nx := 57) C dX7_gives_56 rfl rfl rfl ?_
  refine zw_iald (p) (nx := 58) C dX7_gives_57 rfl rfl rfl rfl (by omega) ?_
  refine zw_aload_n (i := 0) (nx := 59) C dX7_gives_58 rfl rfl rfl ?_
  refine zw_iload_n (i := 1) (nx := 60) C dX7_gives_59 rfl rfl rfl ?_
  refine zw_iload_n (i := 2) (nx := 61) C dX7_gives_60 rfl rfl rfl ?_
  refine zw_cV21 (nx := 64) C dX7_gives_61 rfl cvX7_236 rfl rfl ⟨Nat.le_of_ble_eq_true rfl, Nat.le_of_ble_eq_true rfl⟩ rfl rfl (Nat.le_of_ble_eq_true rfl) (run_X7_worthIn hc hp hy) ?_
  refine zw_cS21 (nx := 67) C dX7_gives_64 rfl csX7_233 ⟨Nat.le_of_ble_eq_true rfl, Nat.le_of_ble_eq_true rfl⟩ (Nat.le_of_ble_eq_true rfl) (run_X7_lesser (by omega)) ?_
  refine zw_goto (nx := 74) C dX7_gives_67 rfl ?_
  exact zw_iret C hA hr hk dX7_gives_74 rfl rfl
theorem run_X7_gives_no {n p y : Nat} (hc : mOk ζ n) (hp : p < n) (hy : y < 8) (ho : sOpn (mV ζ) n p y = false) : zRun l B mX7_gives [.ref 52, zi p, zi y] ζ (some (zi (-3))) (mNo ζ) := by
  have hn := hc.1.1
  have ro := fun X : eX => run_X7_isOpen (l := xLa X) (B := B) hc (p := p) (y := y) (by omega) (by omega)
  rw [ho, show b2i false = 0 from rfl] at ro
  refine zrun_intro (M := mX7_gives) (ls := [some (.ref 52), some (zi p), some (zi y)]) (by decide) rfl rfl rfl (Nat.le_of_ble_eq_true rfl) ?_
  intro X A C hX hA hr hk
  replace C : CX X B A mX7_gives.2.2.2.2 RX7 cX7_gives 3 0 0 := C
  have hr : (xMeth X).sig.returnType = (some .int) := hr
  change ZW X B A 3 0 0 _ _ 0 [some (.ref 52), some (zi p), some (zi y)] []
  refine zw_aload_n (i := 0) (nx := 1) C dX7_gives_0 rfl rfl rfl ?_
  refine zw_iload_n (i := 1) (nx := 2) C dX7_gives_1 rfl rfl rfl ?_
  refine zw_cV11 (nx := 5) C dX7_gives_2 rfl cvX7_212 rfl rfl ⟨Nat.le_of_ble_eq_true rfl, Nat.le_of_ble_eq_true rfl⟩ rfl rfl (Nat.le_of_ble_eq_true rfl) (run_X7_isOne_t hc.1.1 hc.2 (by omega)) ?_
  refine zw_if_eq (tgt := 18) (nx := 8) C dX7_gives_5 rfl rfl (by omega) (fun h5 => by exfalso; omega) (fun h5 => ?_)
  refine zw_iload_n (i := 2) (nx := 9) C dX7_gives_8 rfl rfl rfl ?_
  refine zw_iconst (nx := 10) C dX7_gives_9 rfl ?_
  refine zw_bipush (v := 7) (nx := 12) C dX7_gives_10 (by decide) rfl ?_
  refine zw_cS31 (nx := 15) C dX7_gives_12 rfl csX7_88 ⟨Nat.le_of_ble_eq_true rfl, Nat.le_of_ble_eq_true rfl⟩ (Nat.le_of_ble_eq_true rfl) (run_X7_in_t (by omega) (by omega) (by omega)) ?_
  refine zw_if_ne (tgt := 23) (nx := 18) C dX7_gives_15 rfl rfl (by omega) (fun h15 => ?_) (fun h15 => by exfalso; omega)
  refine zw_iload_n (i := 2) (nx := 24) C dX7_gives_23 rfl rfl rfl ?_
  refine zw_iconst (nx := 25) C dX7_gives_24 rfl ?_
  refine zw_icmp_ne (tgt := 43) (nx := 28) C dX7_gives_25 rfl rfl (by omega) (fun h25 => ?_) (fun h25 => by exfalso; omega)
  refine zw_aload_n (i := 0) (nx := 44) C dX7_gives_43 rfl rfl rfl ?_
  refine zw_iload_n (i := 1) (nx := 45) C dX7_gives_44 rfl rfl rfl ?_
  refine zw_iload_n (i := 2) (nx := 46) C dX7_gives_45 rfl rfl rfl ?_
  refine zw_cV21 (nx := 49) C dX7_gives_46 rfl cvX7_227 rfl rfl ⟨Nat.le_of_ble_eq_true rfl, Nat.le_of_ble_eq_true rfl⟩ rfl rfl (Nat.le_of_ble_eq_true rfl) (ro X) ?_
  refine zw_if_eq (tgt := 70) (nx := 52) C dX7_gives_49 rfl rfl (by omega) (fun h49 => ?_) (fun h49 => by exfalso; omega)
  refine zw_aload_n (i := 0) (nx := 71) C dX7_gives_70 rfl rfl rfl ?_
  refine zw_cV01 (nx := 74) C dX7_gives_71 rfl cvX7_203 rfl rfl ⟨Nat.le_of_ble_eq_true rfl, Nat.le_of_ble_eq_true rfl⟩ rfl rfl (Nat.le_of_ble_eq_true rfl) run_X7_no ?_
  exact zw_iret C hA hr hk dX7_gives_74 rfl rfl
theorem run_X7_auction_bad {y w : Int} (hy : -2147483648 ≤ y ∧ y ≤ 2147483647) (hw : -2147483648 ≤ w ∧ w ≤ 2147483647) (h : ¬ ((0 ≤ y ∧ y ≤ 7) ∧ (0 ≤ w ∧ w ≤ 1))) : zRun l B mX7_auction [.ref 52, zi y, zi w] ζ (some (zi (-2))) (mBd ζ) := by
  refine zrun_intro (M := mX7_auction) (ls := [some (.ref 52), some (zi y), some (zi w), none]) (by decide) rfl rfl rfl (Nat.le_of_ble_eq_true rfl) ?_
  intro X A C hX hA hr hk
  replace C : CX X B A mX7_auction.2.2.2.2 RX7 cX7_auction 4 0 0 := C
  have hr : (xMeth X).sig.returnType = (some .int) := hr
  change ZW X B A 4 0 0 _ _ 0 [some (.ref 52), some (zi y), some (zi w), none] []
  by_cases h1 : 0 ≤ y ∧ y ≤ 7
  · refine zw_iload_n (i := 1) (nx := 1) C dX7_auction_0 rfl rfl rfl ?_
    refine zw_cS11 (nx := 4) C dX7_auction_1 rfl csX7_92 ⟨Nat.le_of_ble_eq_true rfl, Nat.le_of_ble_eq_true rfl⟩ (Nat.le_of_ble_eq_true rfl) (run_X7_isYard_t h1) ?_
    refine zw_if_eq (tgt := 16) (nx := 7) C dX7_auction_4 rfl rfl (by omega) (fun h4 => by exfalso; omega) (fun h4 => ?_)
    refine zw_iload_n (i := 2) (nx := 8) C dX7_auction_7 rfl rfl rfl ?_
    refine zw_iconst (nx := 9) C dX7_auction_8 rfl ?_
    refine zw_iconst (nx := 10) C dX7_auction_9 rfl ?_
    refine zw_cS31 (nx := 13) C dX7_auction_10 rfl csX7_88 ⟨Nat.le_of_ble_eq_true rfl, Nat.le_of_ble_eq_true rfl⟩ (Nat.le_of_ble_eq_true rfl) (run_X7_in_f hw (by omega) (fun q => h ⟨h1, q⟩)) ?_
    refine zw_if_ne (tgt := 21) (nx := 16) C dX7_auction_13 rfl rfl (by omega) (fun h13 => by exfalso; omega) (fun h13 => ?_)
    refine zw_aload_n (i := 0) (nx := 17) C dX7_auction_16 rfl rfl rfl ?_
    refine zw_cV01 (nx := 20) C dX7_auction_17 rfl cvX7_96 rfl rfl ⟨Nat.le_of_ble_eq_true rfl, Nat.le_of_ble_eq_true rfl⟩ rfl rfl (Nat.le_of_ble_eq_true rfl) run_X7_bad ?_
    exact zw_iret C hA hr hk dX7_auction_20 rfl rfl
  · refine zw_iload_n (i := 1) (nx := 1) C dX7_auction_0 rfl rfl rfl ?_
    refine zw_cS11 (nx := 4) C dX7_auction_1 rfl csX7_92 ⟨Nat.le_of_ble_eq_true rfl, Nat.le_of_ble_eq_true rfl⟩ (Nat.le_of_ble_eq_true rfl) (run_X7_isYard_f hy h1) ?_
    refine zw_if_eq (tgt := 16) (nx := 7) C dX7_auction_4 rfl rfl (by omega) (fun h4 => ?_) (fun h4 => by exfalso; omega)
    refine zw_aload_n (i := 0) (nx := 17) C dX7_auction_16 rfl rfl rfl ?_
    refine zw_cV01 (nx := 20) C dX7_auction_17 rfl cvX7_96 rfl rfl ⟨Nat.le_of_ble_eq_true rfl, Nat.le_of_ble_eq_true rfl⟩ rfl rfl (Nat.le_of_ble_eq_true rfl) run_X7_bad ?_
    exact zw_iret C hA hr hk dX7_auction_20 rfl rfl
theorem run_X7_auction_no {n y : Nat} {w : Int} (hc : mOk ζ n) (hy : y < 8) (hw : 0 ≤ w ∧ w ≤ 1) (h : sHol (mV ζ) y 0 n ≠ -1) : zRun l B mX7_auction [.ref 52, zi y, zi w] ζ (some (zi (-3))) (mNo ζ) := by
  have hn := hc.1.1
  have hb := sHol_bd (mV ζ) y n 0
  refine zrun_intro (M := mX7_auction) (ls := [some (.ref 52), some (zi y), some (zi w), none]) (by decide) rfl rfl rfl (Nat.le_of_ble_eq_true rfl) ?_
  intro X A C hX hA hr hk
  replace C : CX X B A mX7_auction.2.2.2.2 RX7 cX7_auction 4 0 0 := C
  have hr : (xMeth X).sig.returnType = (some .int) := hr
  change ZW X B A 4 0 0 _ _ 0 [some (.ref 52), some (zi y), some (zi w), none] []
  refine zw_iload_n (i := 1) (nx := 1) C dX7_auction_0 rfl rfl rfl ?_
  refine zw_cS11 (nx := 4) C dX7_auction_1 rfl csX7_92 ⟨Nat.le_of_ble_eq_true rfl, Nat.le_of_ble_eq_true rfl⟩ (Nat.le_of_ble_eq_true rfl) (run_X7_isYard_t (by omega)) ?_
  refine zw_if_eq (tgt := 16) (nx := 7) C dX7_auction_4 rfl rfl (by omega) (fun h4 => by exfalso; omega) (fun h4 => ?_)
  refine zw_iload_n (i := 2) (nx := 8) C dX7_auction_7 rfl rfl rfl ?_
  refine zw_iconst (nx := 9) C dX7_auction_8 rfl ?_
  refine zw_iconst (nx := 10) C dX7_auction_9 rfl ?_
  refine zw_cS31 (nx := 13) C dX7_auction_10 rfl csX7_88 ⟨Nat.le_of_ble_eq_true rfl, Nat.le_of_ble_eq_true rfl⟩ (Nat.le_of_ble_eq_true rfl) (run_X7_in_t (by omega) (by omega) hw) ?_
  refine zw_if_ne (tgt := 21) (nx := 16) C dX7_auction_13 rfl rfl (by omega) (fun h13 => ?_) (fun h13 => by exfalso; omega)
  refine zw_aload_n (i := 0) (nx := 22) C dX7_auction_21 rfl rfl rfl ?_
  refine zw_iload_n (i := 1) (nx := 23) C dX7_auction_22 rfl rfl rfl ?_
  refine zw_cV11 (nx := 26) C dX7_auction_23 rfl cvX7_193 rfl rfl ⟨Nat.le_of_ble_eq_true rfl, Nat.le_of_ble_eq_true rfl⟩ rfl rfl (Nat.le_of_ble_eq_true rfl) (run_X7_who hc (by omega)) ?_
  refine zw_iconst (nx := 27) C dX7_auction_26 rfl ?_
  refine zw_icmp_eq (tgt := 35) (nx := 30) C dX7_auction_27 rfl rfl (by omega) (fun h27 => by exfalso; omega) (fun h27 => ?_)
  refine zw_aload_n (i := 0) (nx := 31) C dX7_auction_30 rfl rfl rfl ?_
  refine zw_cV01 (nx := 34) C dX7_auction_31 rfl cvX7_203 rfl rfl ⟨Nat.le_of_ble_eq_true rfl, Nat.le_of_ble_eq_true rfl⟩ rfl rfl (Nat.le_of_ble_eq_true rfl) run_X7_no ?_
  exact zw_iret C hA hr hk dX7_auction_34 rfl rfl
theorem run_X7_auction_who {n y : Nat} {w : Int} (hc : mOk ζ n) (hy : y < 8) (hw : 0 ≤ w ∧ w ≤ 1) (h : sHol (mV ζ) y 0 n = -1) (h2 : (sTop (sOff (mV ζ) n y) n).1 = -1 ∨ w = 0) : zRun l B mX7_auction [.ref 52, zi y, zi w] ζ (some (zi (sTop (sOff (mV ζ) n y) n).1)) ζ := by
  have hn := hc.1.1
  have hbd := sTop_bd (f := sOff (mV ζ) n y) (n := n) (fun p hp => hc.1.off hp hy) n (Nat.le_refl n)
  refine zrun_intro (M := mX7_auction) (ls := [some (.ref 52), some (zi y), some (zi w), none]) (by decide) rfl rfl rfl (Nat.le_of_ble_eq_true rfl) ?_
  intro X A C hX hA hr hk
  replace C : CX X B A mX7_auction.2.2.2.2 RX7 cX7_auction 4 0 0 := C
  have hr : (xMeth X).sig.returnType = (some .int) := hr
  change ZW X B A 4 0 0 _ _ 0 [some (.ref 52), some (zi y), some (zi w), none] []
  by_cases h3 : (sTop (sOff (mV ζ) n y) n).1 = -1
  · refine zw_iload_n (i := 1) (nx := 1) C dX7_auction_0 rfl rfl rfl ?_
    refine zw_cS11 (nx := 4) C dX7_auction_1 rfl csX7_92 ⟨Nat.le_of_ble_eq_true rfl, Nat.le_of_ble_eq_true rfl⟩ (Nat.le_of_ble_eq_true rfl) (run_X7_isYard_t (by omega)) ?_
    refine zw_if_eq (tgt := 16) (nx := 7) C dX7_auction_4 rfl rfl (by omega) (fun h4 => by exfalso; omega) (fun h4 => ?_)
    refine zw_iload_n (i := 2) (nx := 8) C dX7_auction_7 rfl rfl rfl ?_
    refine zw_iconst (nx := 9) C dX7_auction_8 rfl ?_
    refine zw_iconst (nx := 10) C dX7_auction_9 rfl ?_
    refine zw_cS31 (nx := 13) C dX7_auction_10 rfl csX7_88 ⟨Nat.le_of_ble_eq_true rfl, Nat.le_of_ble_eq_true rfl⟩ (Nat.le_of_ble_eq_true rfl) (run_X7_in_t (by omega) (by omega) hw) ?_
    refine zw_if_ne (tgt := 21) (nx := 16) C dX7_auction_13 rfl rfl (by omega) (fun h13 => ?_) (fun h13 => by exfalso; omega)
    refine zw_aload_n (i := 0) (nx := 22) C dX7_auction_21 rfl rfl rfl ?_
    refine zw_iload_n (i := 1) (nx := 23) C dX7_auction_22 rfl rfl rfl ?_
    refine zw_cV11 (nx := 26) C dX7_auction_23 rfl cvX7_193 rfl rfl ⟨Nat.le_of_ble_eq_true rfl, Nat.le_of_ble_eq_true rfl⟩ rfl rfl (Nat.le_of_ble_eq_true rfl) (run_X7_who hc (by omega)) ?_
    refine zw_iconst (nx := 27) C dX7_auction_26 rfl ?_
    refine zw_icmp_eq (tgt := 35) (nx := 30) C dX7_auction_27 rfl rfl (by omega) (fun h27 => ?_) (fun h27 => by exfalso; omega)
    refine zw_aload_n (i := 0) (nx := 36) C dX7_auction_35 rfl rfl rfl ?_
    refine zw_iload_n (i := 1) (nx := 37) C dX7_auction_36 rfl rfl rfl ?_
    refine zw_cV11 (nx := 40) C dX7_auction_37 rfl cvX7_200 rfl rfl ⟨Nat.le_of_ble_eq_true rfl, Nat.le_of_ble_eq_true rfl⟩ rfl rfl (Nat.le_of_ble_eq_true rfl) (run_X7_winner hc hy) ?_
    refine zw_ist3 (nx := 41) C (eIst_n dX7_auction_40 rfl rfl) (Nat.le_of_ble_eq_true rfl) rfl ?_
    refine zw_iload_n (i := 3) (nx := 42) C dX7_auction_41 rfl rfl rfl ?_
    refine zw_iconst (nx := 43) C dX7_auction_42 rfl ?_
    refine zw_icmp_eq (tgt := 50) (nx := 46) C dX7_auction_43 rfl rfl (by omega) (fun h43 => ?_) (fun h43 => by exfalso; omega)
    refine zw_iload_n (i := 3) (nx := 51) C dX7_auction_50 rfl rfl rfl ?_
    refine zw_goto (nx := 60) C dX7_auction_51 rfl ?_
    exact zw_iret C hA hr hk dX7_auction_60 rfl rfl
  · refine zw_iload_n (i := 1) (nx := 1) C dX7_auction_0 rfl rfl rfl ?_
    refine zw_cS11 (nx := 4) C dX7_auction_1 rfl csX7_92 ⟨Nat.le_of_ble_eq_true rfl, Nat.le_of_ble_eq_true rfl⟩ (Nat.le_of_ble_eq_true rfl) (run_X7_isYard_t (by omega)) ?_
    refine zw_if_eq (tgt := 16) (nx := 7) C dX7_auction_4 rfl rfl (by omega) (fun h4 => by exfalso; omega) (fun h4 => ?_)
    refine zw_iload_n (i := 2) (nx := 8) C dX7_auction_7 rfl rfl rfl ?_
    refine zw_iconst (nx := 9) C dX7_auction_8 rfl ?_
    refine zw_iconst (nx := 10) C dX7_auction_9 rfl ?_
    refine zw_cS31 (nx := 13) C dX7_auction_10 rfl csX7_88 ⟨Nat.le_of_ble_eq_true rfl, Nat.le_of_ble_eq_true rfl⟩ (Nat.le_of_ble_eq_true rfl) (run_X7_in_t (by omega) (by omega) hw) ?_
    refine zw_if_ne (tgt := 21) (nx := 16) C dX7_auction_13 rfl rfl (by omega) (fun h13 => ?_) (fun h13 => by exfalso; omega)
    refine zw_aload_n (i := 0) (nx := 22) C dX7_auction_21 rfl rfl rfl ?_
    refine zw_iload_n (i := 1) (nx := 23) C dX7_auction_22 rfl rfl rfl ?_
    refine zw_cV11 (nx := 26) C dX7_auction_23 rfl cvX7_193 rfl rfl ⟨Nat.le_of_ble_eq_true rfl, Nat.le_of_ble_eq_true rfl⟩ rfl rfl (Nat.le_of_ble_eq_true rfl) (run_X7_who hc (by omega)) ?_
    refine zw_iconst (nx := 27) C dX7_auction_26 rfl ?_
    refine zw_icmp_eq (tgt := 35) (nx := 30) C dX7_auction_27 rfl rfl (by omega) (fun h27 => ?_) (fun h27 => by exfalso; omega)
    refine zw_aload_n (i := 0) (nx := 36) C dX7_auction_35 rfl rfl rfl ?_
    refine zw_iload_n (i := 1) (nx := 37) C dX7_auction_36 rfl rfl rfl ?_
    refine zw_cV11 (nx := 40) C dX7_auction_37 rfl cvX7_200 rfl rfl ⟨Nat.le_of_ble_eq_true rfl, Nat.le_of_ble_eq_true rfl⟩ rfl rfl (Nat.le_of_ble_eq_true rfl) (run_X7_winner hc hy) ?_
    refine zw_ist3 (nx := 41) C (eIst_n dX7_auction_40 rfl rfl) (Nat.le_of_ble_eq_true rfl) rfl ?_
    refine zw_iload_n (i := 3) (nx := 42) C dX7_auction_41 rfl rfl rfl ?_
    refine zw_iconst (nx := 43) C dX7_auction_42 rfl ?_
    refine zw_icmp_eq (tgt := 50) (nx := 46) C dX7_auction_43 rfl rfl (by omega) (fun h43 => by exfalso; omega) (fun h43 => ?_)
    refine zw_iload_n (i := 2) (nx := 47) C dX7_auction_46 rfl rfl rfl ?_
    refine zw_if_ne (tgt := 54) (nx := 50) C dX7_auction_47 rfl rfl (by omega) (fun h47 => by exfalso; omega) (fun h47 => ?_)
    refine zw_iload_n (i := 3) (nx := 51) C dX7_auction_50 rfl rfl rfl ?_
    refine zw_goto (nx := 60) C dX7_auction_51 rfl ?_
    exact zw_iret C hA hr hk dX7_auction_60 rfl rfl
theorem run_X7_auction_price {n y : Nat} {w : Int} (hc : mOk ζ n) (hy : y < 8) (hw : w = 1) (h : sHol (mV ζ) y 0 n = -1) (h2 : (sTop (sOff (mV ζ) n y) n).1 ≠ -1) : zRun l B mX7_auction [.ref 52, zi y, zi w] ζ (some (zi (sPri (sOff (mV ζ) n y) (sTop (sOff (mV ζ) n y) n).1 n))) ζ := by
  have hn := hc.1.1
  have hbd := sTop_bd (f := sOff (mV ζ) n y) (n := n) (fun p hp => hc.1.off hp hy) n (Nat.le_refl n)
  refine zrun_intro (M := mX7_auction) (ls := [some (.ref 52), some (zi y), some (zi w), none]) (by decide) rfl rfl rfl (Nat.le_of_ble_eq_true rfl) ?_
  intro X A C hX hA hr hk
  replace C : CX X B A mX7_auction.2.2.2.2 RX7 cX7_auction 4 0 0 := C
  have hr : (xMeth X).sig.returnType = (some .int) := hr
  change ZW X B A 4 0 0 _ _ 0 [some (.ref 52), some (zi y), some (zi w), none] []
  refine zw_iload_n (i := 1) (nx := 1) C dX7_auction_0 rfl rfl rfl ?_
  refine zw_cS11 (nx := 4) C dX7_auction_1 rfl csX7_92 ⟨Nat.le_of_ble_eq_true rfl, Nat.le_of_ble_eq_true rfl⟩ (Nat.le_of_ble_eq_true rfl) (run_X7_isYard_t (by omega)) ?_
  refine zw_if_eq (tgt := 16) (nx := 7) C dX7_auction_4 rfl rfl (by omega) (fun h4 => by exfalso; omega) (fun h4 => ?_)
  refine zw_iload_n (i := 2) (nx := 8) C dX7_auction_7 rfl rfl rfl ?_
  refine zw_iconst (nx := 9) C dX7_auction_8 rfl ?_
  refine zw_iconst (nx := 10) C dX7_auction_9 rfl ?_
  refine zw_cS31 (nx := 13) C dX7_auction_10 rfl csX7_88 ⟨Nat.le_of_ble_eq_true rfl, Nat.le_of_ble_eq_true rfl⟩ (Nat.le_of_ble_eq_true rfl) (run_X7_in_t (by omega) (by omega) (by omega)) ?_
  refine zw_if_ne (tgt := 21) (nx := 16) C dX7_auction_13 rfl rfl (by omega) (fun h13 => ?_) (fun h13 => by exfalso; omega)
  refine zw_aload_n (i := 0) (nx := 22) C dX7_auction_21 rfl rfl rfl ?_
  refine zw_iload_n (i := 1) (nx := 23) C dX7_auction_22 rfl rfl rfl ?_
  refine zw_cV11 (nx := 26) C dX7_auction_23 rfl cvX7_193 rfl rfl ⟨Nat.le_of_ble_eq_true rfl, Nat.le_of_ble_eq_true rfl⟩ rfl rfl (Nat.le_of_ble_eq_true rfl) (run_X7_who hc (by omega)) ?_
  refine zw_iconst (nx := 27) C dX7_auction_26 rfl ?_
  refine zw_icmp_eq (tgt := 35) (nx := 30) C dX7_auction_27 rfl rfl (by omega) (fun h27 => ?_) (fun h27 => by exfalso; omega)
  refine zw_aload_n (i := 0) (nx := 36) C dX7_auction_35 rfl rfl rfl ?_
  refine zw_iload_n (i := 1) (nx := 37) C dX7_auction_36 rfl rfl rfl ?_
  refine zw_cV11 (nx := 40) C dX7_auction_37 rfl cvX7_200 rfl rfl ⟨Nat.le_of_ble_eq_true rfl, Nat.le_of_ble_eq_true rfl⟩ rfl rfl (Nat.le_of_ble_eq_true rfl) (run_X7_winner hc hy) ?_
  refine zw_ist3 (nx := 41) C (eIst_n dX7_auction_40 rfl rfl) (Nat.le_of_ble_eq_true rfl) rfl ?_
  refine zw_iload_n (i := 3) (nx := 42) C dX7_auction_41 rfl rfl rfl ?_
  refine zw_iconst (nx := 43) C dX7_auction_42 rfl ?_
  refine zw_icmp_eq (tgt := 50) (nx := 46) C dX7_auction_43 rfl rfl (by omega) (fun h43 => by exfalso; omega) (fun h43 => ?_)
  refine zw_iload_n (i := 2) (nx := 47) C dX7_auction_46 rfl rfl rfl ?_
  refine zw_if_ne (tgt := 54) (nx := 50) C dX7_auction_47 rfl rfl (by omega) (fun h47 => ?_) (fun h47 => by exfalso; omega)
  refine zw_aload_n (i := 0) (nx := 55) C dX7_auction_54 rfl rfl rfl ?_
  refine zw_iload_n (i := 3) (nx := 56) C dX7_auction_55 rfl rfl rfl ?_
  refine zw_iload_n (i := 1) (nx := 57) C dX7_auction_56 rfl rfl rfl ?_
  refine zw_cV21 (nx := 60) C dX7_auction_57 rfl cvX7_206 rfl rfl ⟨Nat.le_of_ble_eq_true rfl, Nat.le_of_ble_eq_true rfl⟩ rfl rfl (Nat.le_of_ble_eq_true rfl) (run_X7_priceOf hc hy (by omega)) ?_
  exact zw_iret C hA hr hk dX7_auction_60 rfl rfl
theorem run_X7_hurt_bad {n : Nat} (hn : n ≤ 5) (hn3 : ζ.1 52 1 = n) {p y : Int} (hp : -2147483648 ≤ p ∧ p ≤ 2147483647) (hy : -2147483648 ≤ y ∧ y ≤ 2147483647) (h : ¬ ((0 ≤ p ∧ p < n) ∧ (0 ≤ y ∧ y ≤ 7))) : zRun l B mX7_hurt [.ref 52, zi p, zi y] ζ (some (zi (-2))) (mBd ζ) := by
  refine zrun_intro (M := mX7_hurt) (ls := [some (.ref 52), some (zi p), some (zi y)]) (by decide) rfl rfl rfl (Nat.le_of_ble_eq_true rfl) ?_
  intro X A C hX hA hr hk
  replace C : CX X B A mX7_hurt.2.2.2.2 RX7 cX7_hurt 3 0 0 := C
  have hr : (xMeth X).sig.returnType = (some .int) := hr
  change ZW X B A 3 0 0 _ _ 0 [some (.ref 52), some (zi p), some (zi y)] []
  by_cases h1 : 0 ≤ p ∧ p < n
  · refine zw_aload_n (i := 0) (nx := 1) C dX7_hurt_0 rfl rfl rfl ?_
    refine zw_iload_n (i := 1) (nx := 2) C dX7_hurt_1 rfl rfl rfl ?_
    refine zw_cV11 (nx := 5) C dX7_hurt_2 rfl cvX7_212 rfl rfl ⟨Nat.le_of_ble_eq_true rfl, Nat.le_of_ble_eq_true rfl⟩ rfl rfl (Nat.le_of_ble_eq_true rfl) (run_X7_isOne_t hn hn3 h1) ?_
    refine zw_if_eq (tgt := 15) (nx := 8) C dX7_hurt_5 rfl rfl (by omega) (fun h5 => by exfalso; omega) (fun h5 => ?_)
    refine zw_iload_n (i := 2) (nx := 9) C dX7_hurt_8 rfl rfl rfl ?_
    refine zw_cS11 (nx := 12) C dX7_hurt_9 rfl csX7_92 ⟨Nat.le_of_ble_eq_true rfl, Nat.le_of_ble_eq_true rfl⟩ (Nat.le_of_ble_eq_true rfl) (run_X7_isYard_f hy (fun q => h ⟨h1, q⟩)) ?_
    refine zw_if_ne (tgt := 20) (nx := 15) C dX7_hurt_12 rfl rfl (by omega) (fun h12 => by exfalso; omega) (fun h12 => ?_)
    refine zw_aload_n (i := 0) (nx := 16) C dX7_hurt_15 rfl rfl rfl ?_
    refine zw_cV01 (nx := 19) C dX7_hurt_16 rfl cvX7_96 rfl rfl ⟨Nat.le_of_ble_eq_true rfl, Nat.le_of_ble_eq_true rfl⟩ rfl rfl (Nat.le_of_ble_eq_true rfl) run_X7_bad ?_
    exact zw_iret C hA hr hk dX7_hurt_19 rfl rfl
  · refine zw_aload_n (i := 0) (nx := 1) C dX7_hurt_0 rfl rfl rfl ?_
    refine zw_iload_n (i := 1) (nx := 2) C dX7_hurt_1 rfl rfl rfl ?_
    refine zw_cV11 (nx := 5) C dX7_hurt_2 rfl cvX7_212 rfl rfl ⟨Nat.le_of_ble_eq_true rfl, Nat.le_of_ble_eq_true rfl⟩ rfl rfl (Nat.le_of_ble_eq_true rfl) (run_X7_isOne_f hn hn3 hp h1) ?_
    refine zw_if_eq (tgt := 15) (nx := 8) C dX7_hurt_5 rfl rfl (by omega) (fun h5 => ?_) (fun h5 => by exfalso; omega)
    refine zw_aload_n (i := 0) (nx := 16) C dX7_hurt_15 rfl rfl rfl ?_
    refine zw_cV01 (nx := 19) C dX7_hurt_16 rfl cvX7_96 rfl rfl ⟨Nat.le_of_ble_eq_true rfl, Nat.le_of_ble_eq_true rfl⟩ rfl rfl (Nat.le_of_ble_eq_true rfl) run_X7_bad ?_
    exact zw_iret C hA hr hk dX7_hurt_19 rfl rfl
theorem run_X7_hurt_in {n p y : Nat} (hc : mOk ζ n) (hp : p < n) (hy : y < 8) (ho : sOpn (mV ζ) n p y = true) : zRun l B mX7_hurt [.ref 52, zi p, zi y] ζ (some (zi (sSum (sHurt (mV ζ) n p y) n))) ζ := by
  have hn := hc.1.1
  have ro := fun X : eX => run_X7_isOpen (l := xLa X) (B := B) hc (p := p) (y := y) (by omega) (by omega)
  rw [ho, show b2i true = 1 from rfl] at ro
  refine zrun_intro (M := mX7_hurt) (ls := [some (.ref 52), some (zi p), some (zi y)]) (by decide) rfl rfl rfl (Nat.le_of_ble_eq_true rfl) ?_
  intro X A C hX hA hr hk
  replace C : CX X B A mX7_hurt.2.2.2.2 RX7 cX7_hurt 3 0 0 := C
  have hr : (xMeth X).sig.returnType = (some .int) := hr
  change ZW X B A 3 0 0 _ _ 0 [some (.ref 52), some (zi p), some (zi y)] []
  refine zw_aload_n (i := 0) (nx := 1) C dX7_hurt_0 rfl rfl rfl ?_
  refine zw_iload_n (i := 1) (nx := 2) C dX7_hurt_1 rfl rfl rfl ?_
  refine zw_cV11 (nx := 5) C dX7_hurt_2 rfl cvX7_212 rfl rfl ⟨Nat.le_of_ble_eq_true rfl, Nat.le_of_ble_eq_true rfl⟩ rfl rfl (Nat.le_of_ble_eq_true rfl) (run_X7_isOne_t hc.1.1 hc.2 (by omega)) ?_
  refine zw_if_eq (tgt := 15) (nx := 8) C dX7_hurt_5 rfl rfl (by omega) (fun h5 => by exfalso; omega) (fun h5 => ?_)
  refine zw_iload_n (i := 2) (nx := 9) C dX7_hurt_8 rfl rfl rfl ?_
  refine zw_cS11 (nx := 12) C dX7_hurt_9 rfl csX7_92 ⟨Nat.le_of_ble_eq_true rfl, Nat.le_of_ble_eq_true rfl⟩ (Nat.le_of_ble_eq_true rfl) (run_X7_isYard_t (by omega)) ?_
  refine zw_if_ne (tgt := 20) (nx := 15) C dX7_hurt_12 rfl rfl (by omega) (fun h12 => ?_) (fun h12 => by exfalso; omega)
  refine zw_aload_n (i := 0) (nx := 21) C dX7_hurt_20 rfl rfl rfl ?_
  refine zw_iload_n (i := 1) (nx := 22) C dX7_hurt_21 rfl rfl rfl ?_
  refine zw_iload_n (i := 2) (nx := 23) C dX7_hurt_22 rfl rfl rfl ?_
  refine zw_cV21 (nx := 26) C dX7_hurt_23 rfl cvX7_227 rfl rfl ⟨Nat.le_of_ble_eq_true rfl, Nat.le_of_ble_eq_true rfl⟩ rfl rfl (Nat.le_of_ble_eq_true rfl) (ro X) ?_
  refine zw_if_eq (tgt := 38) (nx := 29) C dX7_hurt_26 rfl rfl (by omega) (fun h26 => by exfalso; omega) (fun h26 => ?_)
  refine zw_aload_n (i := 0) (nx := 30) C dX7_hurt_29 rfl rfl rfl ?_
  refine zw_iload_n (i := 1) (nx := 31) C dX7_hurt_30 rfl rfl rfl ?_
  refine zw_iload_n (i := 2) (nx := 32) C dX7_hurt_31 rfl rfl rfl ?_
  refine zw_cV21 (nx := 35) C dX7_hurt_32 rfl cvX7_245 rfl rfl ⟨Nat.le_of_ble_eq_true rfl, Nat.le_of_ble_eq_true rfl⟩ rfl rfl (Nat.le_of_ble_eq_true rfl) (run_X7_hurtIn hc hp hy) ?_
  refine zw_goto (nx := 42) C dX7_hurt_35 rfl ?_
  exact zw_iret C hA hr hk dX7_hurt_42 rfl rfl
theorem run_X7_hurt_no {n p y : Nat} (hc : mOk ζ n) (hp : p < n) (hy : y < 8) (ho : sOpn (mV ζ) n p y = false) : zRun l B mX7_hurt [.ref 52, zi p, zi y] ζ (some (zi (-3))) (mNo ζ) := by
  have hn := hc.1.1
  have ro := fun X : eX => run_X7_isOpen (l := xLa X) (B := B) hc (p := p) (y := y) (by omega) (by omega)
  rw [ho, show b2i false = 0 from rfl] at ro
  refine zrun_intro (M := mX7_hurt) (ls := [some (.ref 52), some (zi p), some (zi y)]) (by decide) rfl rfl rfl (Nat.le_of_ble_eq_true rfl) ?_
  intro X A C hX hA hr hk
  replace C : CX X B A mX7_hurt.2.2.2.2 RX7 cX7_hurt 3 0 0 := C
  have hr : (xMeth X).sig.returnType = (some .int) := hr
  change ZW X B A 3 0 0 _ _ 0 [some (.ref 52), some (zi p), some (zi y)] []
  refine zw_aload_n (i := 0) (nx := 1) C dX7_hurt_0 rfl rfl rfl ?_
  refine zw_iload_n (i := 1) (nx := 2) C dX7_hurt_1 rfl rfl rfl ?_
  refine zw_cV11 (nx := 5) C dX7_hurt_2 rfl cvX7_212 rfl rfl ⟨Nat.le_of_ble_eq_true rfl, Nat.le_of_ble_eq_true rfl⟩ rfl rfl (Nat.le_of_ble_eq_true rfl) (run_X7_isOne_t hc.1.1 hc.2 (by omega)) ?_
  refine zw_if_eq (tgt := 15) (nx := 8) C dX7_hurt_5 rfl rfl (by omega) (fun h5 => by exfalso; omega) (fun h5 => ?_)
  refine zw_iload_n (i := 2) (nx := 9) C dX7_hurt_8 rfl rfl rfl ?_
  refine zw_cS11 (nx := 12) C dX7_hurt_9 rfl csX7_92 ⟨Nat.le_of_ble_eq_true rfl, Nat.le_of_ble_eq_true rfl⟩ (Nat.le_of_ble_eq_true rfl) (run_X7_isYard_t (by omega)) ?_
  refine zw_if_ne (tgt := 20) (nx := 15) C dX7_hurt_12 rfl rfl (by omega) (fun h12 => ?_) (fun h12 => by exfalso; omega)
  refine zw_aload_n (i := 0) (nx := 21) C dX7_hurt_20 rfl rfl rfl ?_
  refine zw_iload_n (i := 1) (nx := 22) C dX7_hurt_21 rfl rfl rfl ?_
  refine zw_iload_n (i := 2) (nx := 23) C dX7_hurt_22 rfl rfl rfl ?_
  refine zw_cV21 (nx := 26) C dX7_hurt_23 rfl cvX7_227 rfl rfl ⟨Nat.le_of_ble_eq_true rfl, Nat.le_of_ble_eq_true rfl⟩ rfl rfl (Nat.le_of_ble_eq_true rfl) (ro X) ?_
  refine zw_if_eq (tgt := 38) (nx := 29) C dX7_hurt_26 rfl rfl (by omega) (fun h26 => ?_) (fun h26 => by exfalso; omega)
  refine zw_aload_n (i := 0) (nx := 39) C dX7_hurt_38 rfl rfl rfl ?_
  refine zw_cV01 (nx := 42) C dX7_hurt_39 rfl cvX7_203 rfl rfl ⟨Nat.le_of_ble_eq_true rfl, Nat.le_of_ble_eq_true rfl⟩ rfl rfl (Nat.le_of_ble_eq_true rfl) run_X7_no ?_
  exact zw_iret C hA hr hk dX7_hurt_42 rfl rfl
theorem run_X7_best_bad {n : Nat} (hn : n ≤ 5) (hn3 : ζ.1 52 1 = n) {p w : Int} (hp : -2147483648 ≤ p ∧ p ≤ 2147483647) (hw : -2147483648 ≤ w ∧ w ≤ 2147483647) (h : ¬ ((0 ≤ p ∧ p < n) ∧ (0 ≤ w ∧ w ≤ 1))) : zRun l B mX7_best [.ref 52, zi p, zi w] ζ (some (zi (-10000))) (mBd ζ) := by
  refine zrun_intro (M := mX7_best) (ls := [some (.ref 52), some (zi p), some (zi w), none, none, none, none]) (by decide) rfl rfl rfl (Nat.le_of_ble_eq_true rfl) ?_
  intro X A C hX hA hr hk
  replace C : CX X B A mX7_best.2.2.2.2 RX7 cX7_best 7 0 0 := C
  have hr : (xMeth X).sig.returnType = (some .int) := hr
  change ZW X B A 7 0 0 _ _ 0 [some (.ref 52), some (zi p), some (zi w), none, none, none, none] []
  by_cases h1 : 0 ≤ p ∧ p < n
  · refine zw_aload_n (i := 0) (nx := 1) C dX7_best_0 rfl rfl rfl ?_
    refine zw_iload_n (i := 1) (nx := 2) C dX7_best_1 rfl rfl rfl ?_
    refine zw_cV11 (nx := 5) C dX7_best_2 rfl cvX7_212 rfl rfl ⟨Nat.le_of_ble_eq_true rfl, Nat.le_of_ble_eq_true rfl⟩ rfl rfl (Nat.le_of_ble_eq_true rfl) (run_X7_isOne_t hn hn3 h1) ?_
    refine zw_if_eq (tgt := 17) (nx := 8) C dX7_best_5 rfl rfl (by omega) (fun h5 => by exfalso; omega) (fun h5 => ?_)
    refine zw_iload_n (i := 2) (nx := 9) C dX7_best_8 rfl rfl rfl ?_
    refine zw_iconst (nx := 10) C dX7_best_9 rfl ?_
    refine zw_iconst (nx := 11) C dX7_best_10 rfl ?_
    refine zw_cS31 (nx := 14) C dX7_best_11 rfl csX7_88 ⟨Nat.le_of_ble_eq_true rfl, Nat.le_of_ble_eq_true rfl⟩ (Nat.le_of_ble_eq_true rfl) (run_X7_in_f hw (by omega) (fun q => h ⟨h1, q⟩)) ?_
    refine zw_if_ne (tgt := 31) (nx := 17) C dX7_best_14 rfl rfl (by omega) (fun h14 => by exfalso; omega) (fun h14 => ?_)
    refine zw_aload_n (i := 0) (nx := 18) C dX7_best_17 rfl rfl rfl ?_
    refine zw_getr (nx := 21) C dX7_best_18 rfl flX7_1 iq6 rfl rfl rfl rfl ?_
    refine zw_iconst (nx := 22) C dX7_best_21 rfl ?_
    refine zw_dup2 (nx := 23) C dX7_best_22 rfl rfl rfl ?_
    refine zw_iald (0) (nx := 24) C dX7_best_23 rfl rfl rfl rfl (by omega) ?_
    refine zw_iconst (nx := 25) C dX7_best_24 rfl ?_
    refine zw_iadd (nx := 26) C dX7_best_25 rfl ?_
    refine zw_iast (0) (nx := 27) C dX7_best_26 rfl rfl rfl rfl (by omega) ?_
    refine zw_sipush (v := -10000) (nx := 30) C dX7_best_27 (by decide) rfl ?_
    exact zw_iret C hA hr hk dX7_best_30 rfl rfl
  · refine zw_aload_n (i := 0) (nx := 1) C dX7_best_0 rfl rfl rfl ?_
    refine zw_iload_n (i := 1) (nx := 2) C dX7_best_1 rfl rfl rfl ?_
    refine zw_cV11 (nx := 5) C dX7_best_2 rfl cvX7_212 rfl rfl ⟨Nat.le_of_ble_eq_true rfl, Nat.le_of_ble_eq_true rfl⟩ rfl rfl (Nat.le_of_ble_eq_true rfl) (run_X7_isOne_f hn hn3 hp h1) ?_
    refine zw_if_eq (tgt := 17) (nx := 8) C dX7_best_5 rfl rfl (by omega) (fun h5 => ?_) (fun h5 => by exfalso; omega)
    refine zw_aload_n (i := 0) (nx := 18) C dX7_best_17 rfl rfl rfl ?_
    refine zw_getr (nx := 21) C dX7_best_18 rfl flX7_1 iq6 rfl rfl rfl rfl ?_
    refine zw_iconst (nx := 22) C dX7_best_21 rfl ?_
    refine zw_dup2 (nx := 23) C dX7_best_22 rfl rfl rfl ?_
    refine zw_iald (0) (nx := 24) C dX7_best_23 rfl rfl rfl rfl (by omega) ?_
    refine zw_iconst (nx := 25) C dX7_best_24 rfl ?_
    refine zw_iadd (nx := 26) C dX7_best_25 rfl ?_
    refine zw_iast (0) (nx := 27) C dX7_best_26 rfl rfl rfl rfl (by omega) ?_
    refine zw_sipush (v := -10000) (nx := 30) C dX7_best_27 (by decide) rfl ?_
    exact zw_iret C hA hr hk dX7_best_30 rfl rfl
set_option maxHeartbeats 4000000 in
theorem run_X7_best_ok {n p : Nat} {w : Int} (hc : mOk ζ n) (hp : p < n) (hw : 0 ≤ w ∧ w ≤ 1) : zRun l B mX7_best [.ref 52, zi p, zi w] ζ (some (zi (if w = 0 then (sBst (mV ζ) n p).1 else (sBst (mV ζ) n p).2))) ζ := by
  have hn := hc.1.1
  have hgb : ∀ y, y < 8 → -10000 ≤ sGain (mV ζ) n p y ∧ sGain (mV ζ) n p y ≤ 420 := fun y hy => by
    have := hc.1.win p hy
    have := hc.1.hurt p y
    unfold sGain; omega
  have hbd := sAm_bd (ok := fun y => sOpn (mV ζ) n p y) (f := sGain (mV ζ) n p) (z := (-1, -10000)) (a := -10000) (b := 420) ⟨by decide, by decide⟩ (n := 8) hgb
  refine zrun_intro (M := mX7_best) (ls := [some (.ref 52), some (zi p), some (zi w), none, none, none, none]) (by decide) rfl rfl rfl (Nat.le_of_ble_eq_true rfl) ?_
  intro X A C hX hA hr hk
  replace C : CX X B A mX7_best.2.2.2.2 RX7 cX7_best 7 0 0 := C
  have hr : (xMeth X).sig.returnType = (some .int) := hr
  change ZW X B A 7 0 0 _ _ 0 [some (.ref 52), some (zi p), some (zi w), none, none, none, none] []
  have loop : ∀ k y : Nat, y + k = 8 → ∀ o6 : Option Value, ZW X B A 7 0 0 (eFin X B (some (zi (if w = 0 then (sBst (mV ζ) n p).1 else (sBst (mV ζ) n p).2))) (zz ζ)) ζ 41 [some (.ref 52), some (zi p), some (zi w), some (zi (sAm (fun y => sOpn (mV ζ) n p y) (sGain (mV ζ) n p) (-1, -10000) y).1), some (zi (sAm (fun y => sOpn (mV ζ) n p y) (sGain (mV ζ) n p) (-1, -10000) y).2), some (zi y), o6] [] := by
    intro k
    induction k with
    | zero =>
      intro y hy o6
      have e : y = 8 := by omega
      subst e
      refine zw_iload (nx := 43) C dX7_best_41 rfl rfl ?_
      refine zw_bipush (v := 8) (nx := 45) C dX7_best_43 (by decide) rfl ?_
      refine zw_icmp_ge (tgt := 111) (nx := 48) C dX7_best_45 rfl rfl (by omega) (fun h45 => ?_) (fun h45 => by exfalso; omega)
      refine zw_iload_n (i := 2) (nx := 112) C dX7_best_111 rfl rfl rfl ?_
      refine zw_if_ne (tgt := 119) (nx := 115) C dX7_best_112 rfl rfl (by omega) (fun h112 => ?_) (fun h112 => ?_)
      · refine zw_iload (nx := 121) C dX7_best_119 rfl rfl ?_
        exact zw_iret C hA hr hk dX7_best_121 (zr (if_neg h112)) rfl
      · refine zw_iload_n (i := 3) (nx := 116) C dX7_best_115 rfl rfl rfl ?_
        refine zw_goto (nx := 121) C dX7_best_116 rfl ?_
        exact zw_iret C hA hr hk dX7_best_121 (zr (if_pos h112)) rfl
    | succ k ih =>
      intro y hy o6
      have hb1 := hbd y (by omega)
      have hb2 := hgb y (by omega)
      have go : ∀ o6 : Option Value, ¬ (sOpn (mV ζ) n p y = true ∧ (sAm (fun y => sOpn (mV ζ) n p y) (sGain (mV ζ) n p) (-1, -10000) y).2 < sGain (mV ζ) n p y) → ZW X B A 7 0 0 (eFin X B (some (zi (if w = 0 then (sBst (mV ζ) n p).1 else (sBst (mV ζ) n p).2))) (zz ζ)) ζ 105 [some (.ref 52), some (zi p), some (zi w), some (zi (sAm (fun y => sOpn (mV ζ) n p y) (sGain (mV ζ) n p) (-1, -10000) y).1), some (zi (sAm (fun y => sOpn (mV ζ) n p y) (sGain (mV ζ) n p) (-1, -10000) y).2), some (zi y), o6] [] := by
        intro o6 hno
        have e : sAm (fun y => sOpn (mV ζ) n p y) (sGain (mV ζ) n p) (-1, -10000) (y + 1) = sAm (fun y => sOpn (mV ζ) n p y) (sGain (mV ζ) n p) (-1, -10000) y := if_neg hno
        refine zw_iinc5 (nx := 108) C dX7_best_105 rfl (Nat.le_of_ble_eq_true rfl) rfl ?_
        refine zw_goto (nx := 41) C dX7_best_108 rfl ?_
        have := ih (y + 1) (by omega) o6
        rw [e] at this
        exact this
      refine zw_iload (nx := 43) C dX7_best_41 rfl rfl ?_
      refine zw_bipush (v := 8) (nx := 45) C dX7_best_43 (by decide) rfl ?_
      refine zw_icmp_ge (tgt := 111) (nx := 48) C dX7_best_45 rfl rfl (by omega) (fun h45 => by exfalso; omega) (fun h45 => ?_)
      refine zw_aload_n (i := 0) (nx := 49) C dX7_best_48 rfl rfl rfl ?_
      refine zw_iload_n (i := 1) (nx := 50) C dX7_best_49 rfl rfl rfl ?_
      refine zw_iload (nx := 52) C dX7_best_50 rfl rfl ?_
      refine zw_cV21 (nx := 55) C dX7_best_52 rfl cvX7_227 rfl rfl ⟨Nat.le_of_ble_eq_true rfl, Nat.le_of_ble_eq_true rfl⟩ rfl rfl (Nat.le_of_ble_eq_true rfl) (run_X7_isOpen hc (p := p) (y := y) (by omega) (by omega)) ?_
      refine zw_ifb_eq (tgt := 105) (nx := 58) C dX7_best_55 rfl rfl (fun h55 => ?_) (fun h55 => ?_)
      · exact go _ (fun q => by rw [h55] at q; cases q.1)
      · refine zw_aload_n (i := 0) (nx := 59) C dX7_best_58 rfl rfl rfl ?_
        refine zw_iload_n (i := 1) (nx := 60) C dX7_best_59 rfl rfl rfl ?_
        refine zw_iload (nx := 62) C dX7_best_60 rfl rfl ?_
        refine zw_cV21 (nx := 65) C dX7_best_62 rfl cvX7_236 rfl rfl ⟨Nat.le_of_ble_eq_true rfl, Nat.le_of_ble_eq_true rfl⟩ rfl rfl (Nat.le_of_ble_eq_true rfl) (run_X7_worthIn hc hp (by omega)) ?_
        refine zw_aload_n (i := 0) (nx := 66) C dX7_best_65 rfl rfl rfl ?_
        refine zw_iload_n (i := 1) (nx := 67) C dX7_best_66 rfl rfl rfl ?_
        refine zw_iload (nx := 69) C dX7_best_67 rfl rfl ?_
        refine zw_cV21 (nx := 72) C dX7_best_69 rfl cvX7_245 rfl rfl ⟨Nat.le_of_ble_eq_true rfl, Nat.le_of_ble_eq_true rfl⟩ rfl rfl (Nat.le_of_ble_eq_true rfl) (run_X7_hurtIn hc hp (by omega)) ?_
        refine zw_isub (nx := 73) C dX7_best_72 rfl ?_
        rw [show sWin (mV ζ) n p y - sSum (sHurt (mV ζ) n p y) n = sGain (mV ζ) n p y from rfl]
        refine zw_ist6 (nx := 75) C (eIst_w dX7_best_73 rfl) (Nat.le_of_ble_eq_true rfl) rfl ?_
        refine zw_iload (nx := 77) C dX7_best_75 rfl rfl ?_
        refine zw_iload (nx := 79) C dX7_best_77 rfl rfl ?_
        refine zw_icmp_le (tgt := 87) (nx := 82) C dX7_best_79 rfl rfl (by omega) (fun h79 => ?_) (fun h79 => ?_)
        · refine zw_iload_n (i := 3) (nx := 88) C dX7_best_87 rfl rfl rfl ?_
          refine zw_ist3 (nx := 89) C (eIst_n dX7_best_88 rfl rfl) (Nat.le_of_ble_eq_true rfl) rfl ?_
          refine zw_iload (nx := 91) C dX7_best_89 rfl rfl ?_
          refine zw_iload (nx := 93) C dX7_best_91 rfl rfl ?_
          refine zw_icmp_le (tgt := 101) (nx := 96) C dX7_best_93 rfl rfl (by omega) (fun h93 => ?_) (fun h93 => by exfalso; omega)
          refine zw_iload (nx := 103) C dX7_best_101 rfl rfl ?_
          refine zw_ist4 (nx := 105) C (eIst_w dX7_best_103 rfl) (Nat.le_of_ble_eq_true rfl) rfl ?_
          exact go _ (fun q => by omega)
        · have e : sAm (fun y => sOpn (mV ζ) n p y) (sGain (mV ζ) n p) (-1, -10000) (y + 1) = ((y : Int), sGain (mV ζ) n p y) := if_pos ⟨h55, h79⟩
          refine zw_iload (nx := 84) C dX7_best_82 rfl rfl ?_
          refine zw_goto (nx := 88) C dX7_best_84 rfl ?_
          refine zw_ist3 (nx := 89) C (eIst_n dX7_best_88 rfl rfl) (Nat.le_of_ble_eq_true rfl) rfl ?_
          refine zw_iload (nx := 91) C dX7_best_89 rfl rfl ?_
          refine zw_iload (nx := 93) C dX7_best_91 rfl rfl ?_
          refine zw_icmp_le (tgt := 101) (nx := 96) C dX7_best_93 rfl rfl (by omega) (fun h93 => by exfalso; omega) (fun h93 => ?_)
          refine zw_iload (nx := 98) C dX7_best_96 rfl rfl ?_
          refine zw_goto (nx := 103) C dX7_best_98 rfl ?_
          refine zw_ist4 (nx := 105) C (eIst_w dX7_best_103 rfl) (Nat.le_of_ble_eq_true rfl) rfl ?_
          refine zw_iinc5 (nx := 108) C dX7_best_105 rfl (Nat.le_of_ble_eq_true rfl) rfl ?_
          refine zw_goto (nx := 41) C dX7_best_108 rfl ?_
          have := ih (y + 1) (by omega) (some (zi (sGain (mV ζ) n p y)))
          rw [e] at this
          exact this
  refine zw_aload_n (i := 0) (nx := 1) C dX7_best_0 rfl rfl rfl ?_
  refine zw_iload_n (i := 1) (nx := 2) C dX7_best_1 rfl rfl rfl ?_
  refine zw_cV11 (nx := 5) C dX7_best_2 rfl cvX7_212 rfl rfl ⟨Nat.le_of_ble_eq_true rfl, Nat.le_of_ble_eq_true rfl⟩ rfl rfl (Nat.le_of_ble_eq_true rfl) (run_X7_isOne_t hc.1.1 hc.2 (by omega)) ?_
  refine zw_if_eq (tgt := 17) (nx := 8) C dX7_best_5 rfl rfl (by omega) (fun h5 => by exfalso; omega) (fun h5 => ?_)
  refine zw_iload_n (i := 2) (nx := 9) C dX7_best_8 rfl rfl rfl ?_
  refine zw_iconst (nx := 10) C dX7_best_9 rfl ?_
  refine zw_iconst (nx := 11) C dX7_best_10 rfl ?_
  refine zw_cS31 (nx := 14) C dX7_best_11 rfl csX7_88 ⟨Nat.le_of_ble_eq_true rfl, Nat.le_of_ble_eq_true rfl⟩ (Nat.le_of_ble_eq_true rfl) (run_X7_in_t (by omega) (by omega) hw) ?_
  refine zw_if_ne (tgt := 31) (nx := 17) C dX7_best_14 rfl rfl (by omega) (fun h14 => ?_) (fun h14 => by exfalso; omega)
  refine zw_iconst (nx := 32) C dX7_best_31 rfl ?_
  refine zw_ist3 (nx := 33) C (eIst_n dX7_best_32 rfl rfl) (Nat.le_of_ble_eq_true rfl) rfl ?_
  refine zw_sipush (v := -10000) (nx := 36) C dX7_best_33 (by decide) rfl ?_
  refine zw_ist4 (nx := 38) C (eIst_w dX7_best_36 rfl) (Nat.le_of_ble_eq_true rfl) rfl ?_
  refine zw_iconst (nx := 39) C dX7_best_38 rfl ?_
  refine zw_ist5 (nx := 41) C (eIst_w dX7_best_39 rfl) (Nat.le_of_ble_eq_true rfl) rfl ?_
  exact loop 8 0 (by omega) _
theorem run_X7_move_bad {w : Int} (hw : -2147483648 ≤ w ∧ w ≤ 2147483647) (h : ¬ (0 ≤ w ∧ w ≤ 1)) : zRun l B mX7_move [.ref 52, zi w] ζ (some (zi (-2))) (mBd ζ) := by
  refine zrun_intro (M := mX7_move) (ls := [some (.ref 52), some (zi w), none, none, none, none]) (by decide) rfl rfl rfl (Nat.le_of_ble_eq_true rfl) ?_
  intro X A C hX hA hr hk
  replace C : CX X B A mX7_move.2.2.2.2 RX7 cX7_move 6 0 0 := C
  have hr : (xMeth X).sig.returnType = (some .int) := hr
  change ZW X B A 6 0 0 _ _ 0 [some (.ref 52), some (zi w), none, none, none, none] []
  refine zw_iload_n (i := 1) (nx := 1) C dX7_move_0 rfl rfl rfl ?_
  refine zw_iconst (nx := 2) C dX7_move_1 rfl ?_
  refine zw_iconst (nx := 3) C dX7_move_2 rfl ?_
  refine zw_cS31 (nx := 6) C dX7_move_3 rfl csX7_88 ⟨Nat.le_of_ble_eq_true rfl, Nat.le_of_ble_eq_true rfl⟩ (Nat.le_of_ble_eq_true rfl) (run_X7_in_f hw (by omega) h) ?_
  refine zw_if_ne (tgt := 14) (nx := 9) C dX7_move_6 rfl rfl (by omega) (fun h6 => by exfalso; omega) (fun h6 => ?_)
  refine zw_aload_n (i := 0) (nx := 10) C dX7_move_9 rfl rfl rfl ?_
  refine zw_cV01 (nx := 13) C dX7_move_10 rfl cvX7_96 rfl rfl ⟨Nat.le_of_ble_eq_true rfl, Nat.le_of_ble_eq_true rfl⟩ rfl rfl (Nat.le_of_ble_eq_true rfl) run_X7_bad ?_
  exact zw_iret C hA hr hk dX7_move_13 rfl rfl
set_option maxHeartbeats 4000000 in
theorem run_X7_move_ok {n : Nat} {w : Int} (hc : mOk ζ n) (hw : 0 ≤ w ∧ w ≤ 1) : zRun l B mX7_move [.ref 52, zi w] ζ (some (zi (if w = 0 then (sMov (mV ζ) n n).1 else (sMov (mV ζ) n n).2))) ζ := by
  have hn := hc.1.1
  have hn3 := hc.2
  have hgb : ∀ p, p < n → -1 ≤ sMvH (mV ζ) n p ∧ sMvH (mV ζ) n p ≤ 1200 := fun p _ => by
    have := hc.1.hurt p (mV ζ 5 p).toNat
    unfold sMvH; omega
  have hbd := sAm_bd (ok := fun p => decide (mV ζ 5 p ≠ -1)) (f := sMvH (mV ζ) n) (z := (-1, -1)) (a := -1) (b := 1200) ⟨by decide, by decide⟩ (n := n) hgb
  refine zrun_intro (M := mX7_move) (ls := [some (.ref 52), some (zi w), none, none, none, none]) (by decide) rfl rfl rfl (Nat.le_of_ble_eq_true rfl) ?_
  intro X A C hX hA hr hk
  replace C : CX X B A mX7_move.2.2.2.2 RX7 cX7_move 6 0 0 := C
  have hr : (xMeth X).sig.returnType = (some .int) := hr
  change ZW X B A 6 0 0 _ _ 0 [some (.ref 52), some (zi w), none, none, none, none] []
  have loop : ∀ k p : Nat, p + k = n → ∀ o5 : Option Value, ZW X B A 6 0 0 (eFin X B (some (zi (if w = 0 then (sMov (mV ζ) n n).1 else (sMov (mV ζ) n n).2))) (zz ζ)) ζ 21 [some (.ref 52), some (zi w), some (zi (sMov (mV ζ) n p).1), some (zi (sMov (mV ζ) n p).2), some (zi p), o5] [] := by
    intro k
    induction k with
    | zero =>
      intro p hpk o5
      have e : p = n := by omega
      subst e
      refine zw_iload (nx := 23) C dX7_move_21 rfl rfl ?_
      refine zw_aload_n (i := 0) (nx := 24) C dX7_move_23 rfl rfl rfl ?_
      refine zw_geti (nx := 27) C dX7_move_24 rfl flX7_79 iq6 rfl rfl rfl rfl ?_
      refine zw_icmp_ge (tgt := 92) (nx := 30) C dX7_move_27 rfl rfl (by omega) (fun h27 => ?_) (fun h27 => by exfalso; omega)
      refine zw_iload_n (i := 1) (nx := 93) C dX7_move_92 rfl rfl rfl ?_
      refine zw_if_ne (tgt := 100) (nx := 96) C dX7_move_93 rfl rfl (by omega) (fun h93 => ?_) (fun h93 => ?_)
      · refine zw_iload_n (i := 3) (nx := 101) C dX7_move_100 rfl rfl rfl ?_
        exact zw_iret C hA hr hk dX7_move_101 (zr (if_neg h93)) rfl
      · refine zw_iload_n (i := 2) (nx := 97) C dX7_move_96 rfl rfl rfl ?_
        refine zw_goto (nx := 101) C dX7_move_97 rfl ?_
        exact zw_iret C hA hr hk dX7_move_101 (zr (if_pos h93)) rfl
    | succ k ih =>
      intro p hpk o5
      have hb1 : -1 ≤ (sMov (mV ζ) n p).2 ∧ (sMov (mV ζ) n p).2 ≤ 1200 := hbd p (by omega)
      have hb2 := hgb p (by omega)
      have hs : -1 ≤ ζ.1 58 p ∧ ζ.1 58 p ≤ 7 := (hc.1.2.2.2.2 p (by omega)).2.2.2
      have go : ∀ o5 : Option Value, ¬ (decide (mV ζ 5 p ≠ -1) = true ∧ (sMov (mV ζ) n p).2 < sMvH (mV ζ) n p) → ZW X B A 6 0 0 (eFin X B (some (zi (if w = 0 then (sMov (mV ζ) n n).1 else (sMov (mV ζ) n n).2))) (zz ζ)) ζ 86 [some (.ref 52), some (zi w), some (zi (sMov (mV ζ) n p).1), some (zi (sMov (mV ζ) n p).2), some (zi p), o5] [] := by
        intro o5 hno
        have e : sMov (mV ζ) n (p + 1) = sMov (mV ζ) n p := if_neg hno
        refine zw_iinc4 (nx := 89) C dX7_move_86 rfl (Nat.le_of_ble_eq_true rfl) rfl ?_
        refine zw_goto (nx := 21) C dX7_move_89 rfl ?_
        have := ih (p + 1) (by omega) o5
        rw [e] at this
        exact this
      refine zw_iload (nx := 23) C dX7_move_21 rfl rfl ?_
      refine zw_aload_n (i := 0) (nx := 24) C dX7_move_23 rfl rfl rfl ?_
      refine zw_geti (nx := 27) C dX7_move_24 rfl flX7_79 iq6 rfl rfl rfl rfl ?_
      refine zw_icmp_ge (tgt := 92) (nx := 30) C dX7_move_27 rfl rfl (by omega) (fun h27 => by exfalso; omega) (fun h27 => ?_)
      refine zw_aload_n (i := 0) (nx := 31) C dX7_move_30 rfl rfl rfl ?_
      refine zw_getr (nx := 34) C dX7_move_31 rfl flX7_32 iq6 rfl rfl rfl rfl ?_
      refine zw_iload (nx := 36) C dX7_move_34 rfl rfl ?_
      refine zw_iald (p) (nx := 37) C dX7_move_36 rfl rfl rfl rfl (by omega) ?_
      refine zw_iconst (nx := 38) C dX7_move_37 rfl ?_
      refine zw_icmp_ne (tgt := 45) (nx := 41) C dX7_move_38 rfl rfl (by omega) (fun h38 => ?_) (fun h38 => ?_)
      · obtain ⟨s, hs'⟩ := Int.eq_ofNat_of_zero_le (show 0 ≤ ζ.1 58 p by omega)
        have es : (ζ.1 58 p).toNat = s := by omega
        have eh : sSum (sHurt (mV ζ) n p s) n = sMvH (mV ζ) n p := by
          show _ = sSum (sHurt (mV ζ) n p (ζ.1 58 p).toNat) n
          rw [es]
        refine zw_aload_n (i := 0) (nx := 46) C dX7_move_45 rfl rfl rfl ?_
        refine zw_iload (nx := 48) C dX7_move_46 rfl rfl ?_
        refine zw_aload_n (i := 0) (nx := 49) C dX7_move_48 rfl rfl rfl ?_
        refine zw_getr (nx := 52) C dX7_move_49 rfl flX7_32 iq6 rfl rfl rfl rfl ?_
        refine zw_iload (nx := 54) C dX7_move_52 rfl rfl ?_
        refine zw_iald (p) (nx := 55) C dX7_move_54 rfl rfl rfl rfl (by omega) ?_
        refine zw_cV21 (nx := 58) C dX7_move_55 rfl cvX7_245 rfl rfl ⟨Nat.le_of_ble_eq_true rfl, Nat.le_of_ble_eq_true rfl⟩ rfl rfl (Nat.le_of_ble_eq_true rfl) (by rw [hs']; exact run_X7_hurtIn hc (by omega) (by omega)) ?_
        rw [eh]
        refine zw_ist5 (nx := 60) C (eIst_w dX7_move_58 rfl) (Nat.le_of_ble_eq_true rfl) rfl ?_
        refine zw_iload (nx := 62) C dX7_move_60 rfl rfl ?_
        refine zw_iload_n (i := 3) (nx := 63) C dX7_move_62 rfl rfl rfl ?_
        refine zw_icmp_le (tgt := 71) (nx := 66) C dX7_move_63 rfl rfl (by omega) (fun h63 => ?_) (fun h63 => ?_)
        · refine zw_iload_n (i := 2) (nx := 72) C dX7_move_71 rfl rfl rfl ?_
          refine zw_ist2 (nx := 73) C (eIst_n dX7_move_72 rfl rfl) (Nat.le_of_ble_eq_true rfl) rfl ?_
          refine zw_iload (nx := 75) C dX7_move_73 rfl rfl ?_
          refine zw_iload_n (i := 3) (nx := 76) C dX7_move_75 rfl rfl rfl ?_
          refine zw_icmp_le (tgt := 84) (nx := 79) C dX7_move_76 rfl rfl (by omega) (fun h76 => ?_) (fun h76 => by exfalso; omega)
          refine zw_iload_n (i := 3) (nx := 85) C dX7_move_84 rfl rfl rfl ?_
          refine zw_ist3 (nx := 86) C (eIst_n dX7_move_85 rfl rfl) (Nat.le_of_ble_eq_true rfl) rfl ?_
          exact go _ (fun q => by omega)
        · have e : sMov (mV ζ) n (p + 1) = ((p : Int), sMvH (mV ζ) n p) := if_pos ⟨decide_eq_true h38, h63⟩
          refine zw_iload (nx := 68) C dX7_move_66 rfl rfl ?_
          refine zw_goto (nx := 72) C dX7_move_68 rfl ?_
          refine zw_ist2 (nx := 73) C (eIst_n dX7_move_72 rfl rfl) (Nat.le_of_ble_eq_true rfl) rfl ?_
          refine zw_iload (nx := 75) C dX7_move_73 rfl rfl ?_
          refine zw_iload_n (i := 3) (nx := 76) C dX7_move_75 rfl rfl rfl ?_
          refine zw_icmp_le (tgt := 84) (nx := 79) C dX7_move_76 rfl rfl (by omega) (fun h76 => by exfalso; omega) (fun h76 => ?_)
          refine zw_iload (nx := 81) C dX7_move_79 rfl rfl ?_
          refine zw_goto (nx := 85) C dX7_move_81 rfl ?_
          refine zw_ist3 (nx := 86) C (eIst_n dX7_move_85 rfl rfl) (Nat.le_of_ble_eq_true rfl) rfl ?_
          refine zw_iinc4 (nx := 89) C dX7_move_86 rfl (Nat.le_of_ble_eq_true rfl) rfl ?_
          refine zw_goto (nx := 21) C dX7_move_89 rfl ?_
          have := ih (p + 1) (by omega) (some (zi (sMvH (mV ζ) n p)))
          rw [e] at this
          exact this
      · refine zw_iconst (nx := 42) C dX7_move_41 rfl ?_
        refine zw_goto (nx := 58) C dX7_move_42 rfl ?_
        refine zw_ist5 (nx := 60) C (eIst_w dX7_move_58 rfl) (Nat.le_of_ble_eq_true rfl) rfl ?_
        refine zw_iload (nx := 62) C dX7_move_60 rfl rfl ?_
        refine zw_iload_n (i := 3) (nx := 63) C dX7_move_62 rfl rfl rfl ?_
        refine zw_icmp_le (tgt := 71) (nx := 66) C dX7_move_63 rfl rfl (by omega) (fun h63 => ?_) (fun h63 => by exfalso; omega)
        refine zw_iload_n (i := 2) (nx := 72) C dX7_move_71 rfl rfl rfl ?_
        refine zw_ist2 (nx := 73) C (eIst_n dX7_move_72 rfl rfl) (Nat.le_of_ble_eq_true rfl) rfl ?_
        refine zw_iload (nx := 75) C dX7_move_73 rfl rfl ?_
        refine zw_iload_n (i := 3) (nx := 76) C dX7_move_75 rfl rfl rfl ?_
        refine zw_icmp_le (tgt := 84) (nx := 79) C dX7_move_76 rfl rfl (by omega) (fun h76 => ?_) (fun h76 => by exfalso; omega)
        refine zw_iload_n (i := 3) (nx := 85) C dX7_move_84 rfl rfl rfl ?_
        refine zw_ist3 (nx := 86) C (eIst_n dX7_move_85 rfl rfl) (Nat.le_of_ble_eq_true rfl) rfl ?_
        exact go _ (fun q => (of_decide_eq_true q.1) h38)
  refine zw_iload_n (i := 1) (nx := 1) C dX7_move_0 rfl rfl rfl ?_
  refine zw_iconst (nx := 2) C dX7_move_1 rfl ?_
  refine zw_iconst (nx := 3) C dX7_move_2 rfl ?_
  refine zw_cS31 (nx := 6) C dX7_move_3 rfl csX7_88 ⟨Nat.le_of_ble_eq_true rfl, Nat.le_of_ble_eq_true rfl⟩ (Nat.le_of_ble_eq_true rfl) (run_X7_in_t (by omega) (by omega) hw) ?_
  refine zw_if_ne (tgt := 14) (nx := 9) C dX7_move_6 rfl rfl (by omega) (fun h6 => ?_) (fun h6 => by exfalso; omega)
  refine zw_iconst (nx := 15) C dX7_move_14 rfl ?_
  refine zw_ist2 (nx := 16) C (eIst_n dX7_move_15 rfl rfl) (Nat.le_of_ble_eq_true rfl) rfl ?_
  refine zw_iconst (nx := 17) C dX7_move_16 rfl ?_
  refine zw_ist3 (nx := 18) C (eIst_n dX7_move_17 rfl rfl) (Nat.le_of_ble_eq_true rfl) rfl ?_
  refine zw_iconst (nx := 19) C dX7_move_18 rfl ?_
  refine zw_ist4 (nx := 21) C (eIst_w dX7_move_19 rfl) (Nat.le_of_ble_eq_true rfl) rfl ?_
  exact loop n 0 (by omega) _
theorem run_X7_note_bad {n : Nat} (hn : n ≤ 5) (hn3 : ζ.1 52 1 = n) {p s h w : Int} (hp : -2147483648 ≤ p ∧ p ≤ 2147483647) (hs : -2147483648 ≤ s ∧ s ≤ 2147483647) (hh : -2147483648 ≤ h ∧ h ≤ 2147483647) (hw : -2147483648 ≤ w ∧ w ≤ 2147483647) (hno : ¬ ((0 ≤ p ∧ p < n) ∧ (0 ≤ s ∧ s ≤ 240) ∧ (0 ≤ h ∧ h ≤ 9) ∧ (0 ≤ w ∧ w ≤ 500))) : zRun l B mX7_note [.ref 52, zi p, zi s, zi h, zi w] ζ (some (zi (-2))) (mBd ζ) := by
  refine zrun_intro (M := mX7_note) (ls := [some (.ref 52), some (zi p), some (zi s), some (zi h), some (zi w)]) (by decide) rfl rfl rfl (Nat.le_of_ble_eq_true rfl) ?_
  intro X A C hX hA hr hk
  replace C : CX X B A mX7_note.2.2.2.2 RX7 cX7_note 5 0 0 := C
  have hr : (xMeth X).sig.returnType = (some .int) := hr
  change ZW X B A 5 0 0 _ _ 0 [some (.ref 52), some (zi p), some (zi s), some (zi h), some (zi w)] []
  by_cases h1 : 0 ≤ p ∧ p < n
  · by_cases h2 : 0 ≤ s ∧ s ≤ 240
    · by_cases h3 : 0 ≤ h ∧ h ≤ 9
      · refine zw_aload_n (i := 0) (nx := 1) C dX7_note_0 rfl rfl rfl ?_
        refine zw_iload_n (i := 1) (nx := 2) C dX7_note_1 rfl rfl rfl ?_
        refine zw_cV11 (nx := 5) C dX7_note_2 rfl cvX7_212 rfl rfl ⟨Nat.le_of_ble_eq_true rfl, Nat.le_of_ble_eq_true rfl⟩ rfl rfl (Nat.le_of_ble_eq_true rfl) (run_X7_isOne_t hn hn3 h1) ?_
        refine zw_if_eq (tgt := 41) (nx := 8) C dX7_note_5 rfl rfl (by omega) (fun h5 => by exfalso; omega) (fun h5 => ?_)
        refine zw_iload_n (i := 2) (nx := 9) C dX7_note_8 rfl rfl rfl ?_
        refine zw_iconst (nx := 10) C dX7_note_9 rfl ?_
        refine zw_sipush (v := 240) (nx := 13) C dX7_note_10 (by decide) rfl ?_
        refine zw_cS31 (nx := 16) C dX7_note_13 rfl csX7_88 ⟨Nat.le_of_ble_eq_true rfl, Nat.le_of_ble_eq_true rfl⟩ (Nat.le_of_ble_eq_true rfl) (run_X7_in_t (by omega) (by omega) h2) ?_
        refine zw_if_eq (tgt := 41) (nx := 19) C dX7_note_16 rfl rfl (by omega) (fun h16 => by exfalso; omega) (fun h16 => ?_)
        refine zw_iload_n (i := 3) (nx := 20) C dX7_note_19 rfl rfl rfl ?_
        refine zw_iconst (nx := 21) C dX7_note_20 rfl ?_
        refine zw_bipush (v := 9) (nx := 23) C dX7_note_21 (by decide) rfl ?_
        refine zw_cS31 (nx := 26) C dX7_note_23 rfl csX7_88 ⟨Nat.le_of_ble_eq_true rfl, Nat.le_of_ble_eq_true rfl⟩ (Nat.le_of_ble_eq_true rfl) (run_X7_in_t (by omega) (by omega) h3) ?_
        refine zw_if_eq (tgt := 41) (nx := 29) C dX7_note_26 rfl rfl (by omega) (fun h26 => by exfalso; omega) (fun h26 => ?_)
        refine zw_iload (nx := 31) C dX7_note_29 rfl rfl ?_
        refine zw_iconst (nx := 32) C dX7_note_31 rfl ?_
        refine zw_sipush (v := 500) (nx := 35) C dX7_note_32 (by decide) rfl ?_
        refine zw_cS31 (nx := 38) C dX7_note_35 rfl csX7_88 ⟨Nat.le_of_ble_eq_true rfl, Nat.le_of_ble_eq_true rfl⟩ (Nat.le_of_ble_eq_true rfl) (run_X7_in_f hw (by omega) (fun q => hno ⟨h1, h2, h3, q⟩)) ?_
        refine zw_if_ne (tgt := 46) (nx := 41) C dX7_note_38 rfl rfl (by omega) (fun h38 => by exfalso; omega) (fun h38 => ?_)
        refine zw_aload_n (i := 0) (nx := 42) C dX7_note_41 rfl rfl rfl ?_
        refine zw_cV01 (nx := 45) C dX7_note_42 rfl cvX7_96 rfl rfl ⟨Nat.le_of_ble_eq_true rfl, Nat.le_of_ble_eq_true rfl⟩ rfl rfl (Nat.le_of_ble_eq_true rfl) run_X7_bad ?_
        exact zw_iret C hA hr hk dX7_note_45 rfl rfl
      · refine zw_aload_n (i := 0) (nx := 1) C dX7_note_0 rfl rfl rfl ?_
        refine zw_iload_n (i := 1) (nx := 2) C dX7_note_1 rfl rfl rfl ?_
        refine zw_cV11 (nx := 5) C dX7_note_2 rfl cvX7_212 rfl rfl ⟨Nat.le_of_ble_eq_true rfl, Nat.le_of_ble_eq_true rfl⟩ rfl rfl (Nat.le_of_ble_eq_true rfl) (run_X7_isOne_t hn hn3 h1) ?_
        refine zw_if_eq (tgt := 41) (nx := 8) C dX7_note_5 rfl rfl (by omega) (fun h5 => by exfalso; omega) (fun h5 => ?_)
        refine zw_iload_n (i := 2) (nx := 9) C dX7_note_8 rfl rfl rfl ?_
        refine zw_iconst (nx := 10) C dX7_note_9 rfl ?_
        refine zw_sipush (v := 240) (nx := 13) C dX7_note_10 (by decide) rfl ?_
        refine zw_cS31 (nx := 16) C dX7_note_13 rfl csX7_88 ⟨Nat.le_of_ble_eq_true rfl, Nat.le_of_ble_eq_true rfl⟩ (Nat.le_of_ble_eq_true rfl) (run_X7_in_t (by omega) (by omega) h2) ?_
        refine zw_if_eq (tgt := 41) (nx := 19) C dX7_note_16 rfl rfl (by omega) (fun h16 => by exfalso; omega) (fun h16 => ?_)
        refine zw_iload_n (i := 3) (nx := 20) C dX7_note_19 rfl rfl rfl ?_
        refine zw_iconst (nx := 21) C dX7_note_20 rfl ?_
        refine zw_bipush (v := 9) (nx := 23) C dX7_note_21 (by decide) rfl ?_
        refine zw_cS31 (nx := 26) C dX7_note_23 rfl csX7_88 ⟨Nat.le_of_ble_eq_true rfl, Nat.le_of_ble_eq_true rfl⟩ (Nat.le_of_ble_eq_true rfl) (run_X7_in_f hh (by omega) h3) ?_
        refine zw_if_eq (tgt := 41) (nx := 29) C dX7_note_26 rfl rfl (by omega) (fun h26 => ?_) (fun h26 => by exfalso; omega)
        refine zw_aload_n (i := 0) (nx := 42) C dX7_note_41 rfl rfl rfl ?_
        refine zw_cV01 (nx := 45) C dX7_note_42 rfl cvX7_96 rfl rfl ⟨Nat.le_of_ble_eq_true rfl, Nat.le_of_ble_eq_true rfl⟩ rfl rfl (Nat.le_of_ble_eq_true rfl) run_X7_bad ?_
        exact zw_iret C hA hr hk dX7_note_45 rfl rfl
    · refine zw_aload_n (i := 0) (nx := 1) C dX7_note_0 rfl rfl rfl ?_
      refine zw_iload_n (i := 1) (nx := 2) C dX7_note_1 rfl rfl rfl ?_
      refine zw_cV11 (nx := 5) C dX7_note_2 rfl cvX7_212 rfl rfl ⟨Nat.le_of_ble_eq_true rfl, Nat.le_of_ble_eq_true rfl⟩ rfl rfl (Nat.le_of_ble_eq_true rfl) (run_X7_isOne_t hn hn3 h1) ?_
      refine zw_if_eq (tgt := 41) (nx := 8) C dX7_note_5 rfl rfl (by omega) (fun h5 => by exfalso; omega) (fun h5 => ?_)
      refine zw_iload_n (i := 2) (nx := 9) C dX7_note_8 rfl rfl rfl ?_
      refine zw_iconst (nx := 10) C dX7_note_9 rfl ?_
      refine zw_sipush (v := 240) (nx := 13) C dX7_note_10 (by decide) rfl ?_
      refine zw_cS31 (nx := 16) C dX7_note_13 rfl csX7_88 ⟨Nat.le_of_ble_eq_true rfl, Nat.le_of_ble_eq_true rfl⟩ (Nat.le_of_ble_eq_true rfl) (run_X7_in_f hs (by omega) h2) ?_
      refine zw_if_eq (tgt := 41) (nx := 19) C dX7_note_16 rfl rfl (by omega) (fun h16 => ?_) (fun h16 => by exfalso; omega)
      refine zw_aload_n (i := 0) (nx := 42) C dX7_note_41 rfl rfl rfl ?_
      refine zw_cV01 (nx := 45) C dX7_note_42 rfl cvX7_96 rfl rfl ⟨Nat.le_of_ble_eq_true rfl, Nat.le_of_ble_eq_true rfl⟩ rfl rfl (Nat.le_of_ble_eq_true rfl) run_X7_bad ?_
      exact zw_iret C hA hr hk dX7_note_45 rfl rfl
  · refine zw_aload_n (i := 0) (nx := 1) C dX7_note_0 rfl rfl rfl ?_
    refine zw_iload_n (i := 1) (nx := 2) C dX7_note_1 rfl rfl rfl ?_
    refine zw_cV11 (nx := 5) C dX7_note_2 rfl cvX7_212 rfl rfl ⟨Nat.le_of_ble_eq_true rfl, Nat.le_of_ble_eq_true rfl⟩ rfl rfl (Nat.le_of_ble_eq_true rfl) (run_X7_isOne_f hn hn3 hp h1) ?_
    refine zw_if_eq (tgt := 41) (nx := 8) C dX7_note_5 rfl rfl (by omega) (fun h5 => ?_) (fun h5 => by exfalso; omega)
    refine zw_aload_n (i := 0) (nx := 42) C dX7_note_41 rfl rfl rfl ?_
    refine zw_cV01 (nx := 45) C dX7_note_42 rfl cvX7_96 rfl rfl ⟨Nat.le_of_ble_eq_true rfl, Nat.le_of_ble_eq_true rfl⟩ rfl rfl (Nat.le_of_ble_eq_true rfl) run_X7_bad ?_
    exact zw_iret C hA hr hk dX7_note_45 rfl rfl
theorem run_X7_note_full {n : Nat} (hn : n ≤ 5) (hn3 : ζ.1 52 1 = n) (hc6 : ζ.1 52 4 = 6) {p s h w : Int} (h1 : 0 ≤ p ∧ p < n) (h2 : 0 ≤ s ∧ s ≤ 240) (h3 : 0 ≤ h ∧ h ≤ 9) (h4 : 0 ≤ w ∧ w ≤ 500) : zRun l B mX7_note [.ref 52, zi p, zi s, zi h, zi w] ζ (some (zi (-4))) (mFu ζ) := by
  refine zrun_intro (M := mX7_note) (ls := [some (.ref 52), some (zi p), some (zi s), some (zi h), some (zi w)]) (by decide) rfl rfl rfl (Nat.le_of_ble_eq_true rfl) ?_
  intro X A C hX hA hr hk
  replace C : CX X B A mX7_note.2.2.2.2 RX7 cX7_note 5 0 0 := C
  have hr : (xMeth X).sig.returnType = (some .int) := hr
  change ZW X B A 5 0 0 _ _ 0 [some (.ref 52), some (zi p), some (zi s), some (zi h), some (zi w)] []
  refine zw_aload_n (i := 0) (nx := 1) C dX7_note_0 rfl rfl rfl ?_
  refine zw_iload_n (i := 1) (nx := 2) C dX7_note_1 rfl rfl rfl ?_
  refine zw_cV11 (nx := 5) C dX7_note_2 rfl cvX7_212 rfl rfl ⟨Nat.le_of_ble_eq_true rfl, Nat.le_of_ble_eq_true rfl⟩ rfl rfl (Nat.le_of_ble_eq_true rfl) (run_X7_isOne_t hn hn3 h1) ?_
  refine zw_if_eq (tgt := 41) (nx := 8) C dX7_note_5 rfl rfl (by omega) (fun h5 => by exfalso; omega) (fun h5 => ?_)
  refine zw_iload_n (i := 2) (nx := 9) C dX7_note_8 rfl rfl rfl ?_
  refine zw_iconst (nx := 10) C dX7_note_9 rfl ?_
  refine zw_sipush (v := 240) (nx := 13) C dX7_note_10 (by decide) rfl ?_
  refine zw_cS31 (nx := 16) C dX7_note_13 rfl csX7_88 ⟨Nat.le_of_ble_eq_true rfl, Nat.le_of_ble_eq_true rfl⟩ (Nat.le_of_ble_eq_true rfl) (run_X7_in_t (by omega) (by omega) h2) ?_
  refine zw_if_eq (tgt := 41) (nx := 19) C dX7_note_16 rfl rfl (by omega) (fun h16 => by exfalso; omega) (fun h16 => ?_)
  refine zw_iload_n (i := 3) (nx := 20) C dX7_note_19 rfl rfl rfl ?_
  refine zw_iconst (nx := 21) C dX7_note_20 rfl ?_
  refine zw_bipush (v := 9) (nx := 23) C dX7_note_21 (by decide) rfl ?_
  refine zw_cS31 (nx := 26) C dX7_note_23 rfl csX7_88 ⟨Nat.le_of_ble_eq_true rfl, Nat.le_of_ble_eq_true rfl⟩ (Nat.le_of_ble_eq_true rfl) (run_X7_in_t (by omega) (by omega) h3) ?_
  refine zw_if_eq (tgt := 41) (nx := 29) C dX7_note_26 rfl rfl (by omega) (fun h26 => by exfalso; omega) (fun h26 => ?_)
  refine zw_iload (nx := 31) C dX7_note_29 rfl rfl ?_
  refine zw_iconst (nx := 32) C dX7_note_31 rfl ?_
  refine zw_sipush (v := 500) (nx := 35) C dX7_note_32 (by decide) rfl ?_
  refine zw_cS31 (nx := 38) C dX7_note_35 rfl csX7_88 ⟨Nat.le_of_ble_eq_true rfl, Nat.le_of_ble_eq_true rfl⟩ (Nat.le_of_ble_eq_true rfl) (run_X7_in_t (by omega) (by omega) h4) ?_
  refine zw_if_ne (tgt := 46) (nx := 41) C dX7_note_38 rfl rfl (by omega) (fun h38 => ?_) (fun h38 => by exfalso; omega)
  refine zw_aload_n (i := 0) (nx := 47) C dX7_note_46 rfl rfl rfl ?_
  refine zw_geti (nx := 50) C dX7_note_47 rfl flX7_82 iq6 rfl rfl rfl rfl ?_
  refine zw_bipush (v := 6) (nx := 52) C dX7_note_50 (by decide) rfl ?_
  refine zw_icmp_ne (tgt := 60) (nx := 55) C dX7_note_52 rfl rfl (by omega) (fun h52 => by exfalso; omega) (fun h52 => ?_)
  refine zw_aload_n (i := 0) (nx := 56) C dX7_note_55 rfl rfl rfl ?_
  refine zw_cV01 (nx := 59) C dX7_note_56 rfl cvX7_100 rfl rfl ⟨Nat.le_of_ble_eq_true rfl, Nat.le_of_ble_eq_true rfl⟩ rfl rfl (Nat.le_of_ble_eq_true rfl) run_X7_full ?_
  exact zw_iret C hA hr hk dX7_note_59 rfl rfl
theorem run_X7_note_ok {n c : Nat} (hn : n ≤ 5) (hn3 : ζ.1 52 1 = n) (hc : c < 6) (hc6 : ζ.1 52 4 = c) {p s h w : Int} (h1 : 0 ≤ p ∧ p < n) (h2 : 0 ≤ s ∧ s ≤ 240) (h3 : 0 ≤ h ∧ h ≤ 9) (h4 : 0 ≤ w ∧ w ≤ 500) : zRun l B mX7_note [.ref 52, zi p, zi s, zi h, zi w] ζ (some (zi (c + 1))) (zU (zU (zU (zU (zU ζ 59 c p) 60 c s) 61 c h) 62 c w) 52 4 (c + 1)) := by
  refine zrun_intro (M := mX7_note) (ls := [some (.ref 52), some (zi p), some (zi s), some (zi h), some (zi w)]) (by decide) rfl rfl rfl (Nat.le_of_ble_eq_true rfl) ?_
  intro X A C hX hA hr hk
  replace C : CX X B A mX7_note.2.2.2.2 RX7 cX7_note 5 0 0 := C
  have hr : (xMeth X).sig.returnType = (some .int) := hr
  change ZW X B A 5 0 0 _ _ 0 [some (.ref 52), some (zi p), some (zi s), some (zi h), some (zi w)] []
  refine zw_aload_n (i := 0) (nx := 1) C dX7_note_0 rfl rfl rfl ?_
  refine zw_iload_n (i := 1) (nx := 2) C dX7_note_1 rfl rfl rfl ?_
  refine zw_cV11 (nx := 5) C dX7_note_2 rfl cvX7_212 rfl rfl ⟨Nat.le_of_ble_eq_true rfl, Nat.le_of_ble_eq_true rfl⟩ rfl rfl (Nat.le_of_ble_eq_true rfl) (run_X7_isOne_t hn hn3 h1) ?_
  refine zw_if_eq (tgt := 41) (nx := 8) C dX7_note_5 rfl rfl (by omega) (fun h5 => by exfalso; omega) (fun h5 => ?_)
  refine zw_iload_n (i := 2) (nx := 9) C dX7_note_8 rfl rfl rfl ?_
  refine zw_iconst (nx := 10) C dX7_note_9 rfl ?_
  refine zw_sipush (v := 240) (nx := 13) C dX7_note_10 (by decide) rfl ?_
  refine zw_cS31 (nx := 16) C dX7_note_13 rfl csX7_88 ⟨Nat.le_of_ble_eq_true rfl, Nat.le_of_ble_eq_true rfl⟩ (Nat.le_of_ble_eq_true rfl) (run_X7_in_t (by omega) (by omega) h2) ?_
  refine zw_if_eq (tgt := 41) (nx := 19) C dX7_note_16 rfl rfl (by omega) (fun h16 => by exfalso; omega) (fun h16 => ?_)
  refine zw_iload_n (i := 3) (nx := 20) C dX7_note_19 rfl rfl rfl ?_
  refine zw_iconst (nx := 21) C dX7_note_20 rfl ?_
  refine zw_bipush (v := 9) (nx := 23) C dX7_note_21 (by decide) rfl ?_
  refine zw_cS31 (nx := 26) C dX7_note_23 rfl csX7_88 ⟨Nat.le_of_ble_eq_true rfl, Nat.le_of_ble_eq_true rfl⟩ (Nat.le_of_ble_eq_true rfl) (run_X7_in_t (by omega) (by omega) h3) ?_
  refine zw_if_eq (tgt := 41) (nx := 29) C dX7_note_26 rfl rfl (by omega) (fun h26 => by exfalso; omega) (fun h26 => ?_)
  refine zw_iload (nx := 31) C dX7_note_29 rfl rfl ?_
  refine zw_iconst (nx := 32) C dX7_note_31 rfl ?_
  refine zw_sipush (v := 500) (nx := 35) C dX7_note_32 (by decide) rfl ?_
  refine zw_cS31 (nx := 38) C dX7_note_35 rfl csX7_88 ⟨Nat.le_of_ble_eq_true rfl, Nat.le_of_ble_eq_true rfl⟩ (Nat.le_of_ble_eq_true rfl) (run_X7_in_t (by omega) (by omega) h4) ?_
  refine zw_if_ne (tgt := 46) (nx := 41) C dX7_note_38 rfl rfl (by omega) (fun h38 => ?_) (fun h38 => by exfalso; omega)
  refine zw_aload_n (i := 0) (nx := 47) C dX7_note_46 rfl rfl rfl ?_
  refine zw_geti (nx := 50) C dX7_note_47 rfl flX7_82 iq6 rfl rfl rfl rfl ?_
  refine zw_bipush (v := 6) (nx := 52) C dX7_note_50 (by decide) rfl ?_
  refine zw_icmp_ne (tgt := 60) (nx := 55) C dX7_note_52 rfl rfl (by omega) (fun h52 => ?_) (fun h52 => by exfalso; omega)
  refine zw_aload_n (i := 0) (nx := 61) C dX7_note_60 rfl rfl rfl ?_
  refine zw_getr (nx := 64) C dX7_note_61 rfl flX7_35 iq6 rfl rfl rfl rfl ?_
  refine zw_aload_n (i := 0) (nx := 65) C dX7_note_64 rfl rfl rfl ?_
  refine zw_geti (nx := 68) C dX7_note_65 rfl flX7_82 iq6 rfl rfl rfl rfl ?_
  refine zw_iload_n (i := 1) (nx := 69) C dX7_note_68 rfl rfl rfl ?_
  refine zw_iast (c) (nx := 70) C dX7_note_69 rfl rfl rfl rfl (by omega) ?_
  refine zw_aload_n (i := 0) (nx := 71) C dX7_note_70 rfl rfl rfl ?_
  refine zw_getr (nx := 74) C dX7_note_71 rfl flX7_38 iq6 rfl rfl rfl rfl ?_
  refine zw_aload_n (i := 0) (nx := 75) C dX7_note_74 rfl rfl rfl ?_
  refine zw_geti (nx := 78) C dX7_note_75 rfl flX7_82 iq6 rfl rfl rfl rfl ?_
  simp only [zU_at, zCp_at, zR_at, zFill_at, Nat.reduceEqDiff, reduceIte, and_self, and_true, true_and, and_false, false_and]
  refine zw_iload_n (i := 2) (nx := 79) C dX7_note_78 rfl rfl rfl ?_
  refine zw_iast (c) (nx := 80) C dX7_note_79 rfl rfl rfl rfl (by omega) ?_
  refine zw_aload_n (i := 0) (nx := 81) C dX7_note_80 rfl rfl rfl ?_
  refine zw_getr (nx := 84) C dX7_note_81 rfl flX7_41 iq6 rfl rfl rfl rfl ?_
  refine zw_aload_n (i := 0) (nx := 85) C dX7_note_84 rfl rfl rfl ?_
  refine zw_geti (nx := 88) C dX7_note_85 rfl flX7_82 iq6 rfl rfl rfl rfl ?_
  simp only [zU_at, zCp_at, zR_at, zFill_at, Nat.reduceEqDiff, reduceIte, and_self, and_true, true_and, and_false, false_and]
  refine zw_iload_n (i := 3) (nx := 89) C dX7_note_88 rfl rfl rfl ?_
  refine zw_iast (c) (nx := 90) C dX7_note_89 rfl rfl rfl rfl (by omega) ?_
  refine zw_aload_n (i := 0) (nx := 91) C dX7_note_90 rfl rfl rfl ?_
  refine zw_getr (nx := 94) C dX7_note_91 rfl flX7_44 iq6 rfl rfl rfl rfl ?_
  refine zw_aload_n (i := 0) (nx := 95) C dX7_note_94 rfl rfl rfl ?_
  refine zw_geti (nx := 98) C dX7_note_95 rfl flX7_82 iq6 rfl rfl rfl rfl ?_
  simp only [zU_at, zCp_at, zR_at, zFill_at, Nat.reduceEqDiff, reduceIte, and_self, and_true, true_and, and_false, false_and]
  refine zw_iload (nx := 100) C dX7_note_98 rfl rfl ?_
  refine zw_iast (c) (nx := 101) C dX7_note_100 rfl rfl rfl rfl (by omega) ?_
  refine zw_aload_n (i := 0) (nx := 102) C dX7_note_101 rfl rfl rfl ?_
  refine zw_dup (nx := 103) C dX7_note_102 rfl rfl ?_
  refine zw_geti (nx := 106) C dX7_note_103 rfl flX7_82 iq6 rfl rfl rfl rfl ?_
  simp only [zU_at, zCp_at, zR_at, zFill_at, Nat.reduceEqDiff, reduceIte, and_self, and_true, true_and, and_false, false_and]
  rw [hc6]
  refine zw_iconst (nx := 107) C dX7_note_106 rfl ?_
  refine zw_iadd (nx := 108) C dX7_note_107 rfl ?_
  refine zw_puti (nx := 111) C dX7_note_108 rfl flX7_82 ic6 nf6_4 rfl rfl rfl rfl rfl ?_
  refine zw_aload_n (i := 0) (nx := 112) C dX7_note_111 rfl rfl rfl ?_
  refine zw_geti (nx := 115) C dX7_note_112 rfl flX7_82 iq6 rfl rfl rfl rfl ?_
  simp only [zU_at, zCp_at, zR_at, zFill_at, Nat.reduceEqDiff, reduceIte, and_self, and_true, true_and, and_false, false_and]
  exact zw_iret C hA hr hk dX7_note_115 rfl rfl
theorem run_X7_forget : zRun l B mX7_forget [.ref 52] ζ (some (zi (ζ.1 52 4))) (zU ζ 52 4 0) := by
  refine zrun_intro (M := mX7_forget) (ls := [some (.ref 52), none]) (by decide) rfl rfl rfl (Nat.le_of_ble_eq_true rfl) ?_
  intro X A C hX hA hr hk
  replace C : CX X B A mX7_forget.2.2.2.2 RX7 cX7_forget 2 0 0 := C
  have hr : (xMeth X).sig.returnType = (some .int) := hr
  change ZW X B A 2 0 0 _ _ 0 [some (.ref 52), none] []
  refine zw_aload_n (i := 0) (nx := 1) C dX7_forget_0 rfl rfl rfl ?_
  refine zw_geti (nx := 4) C dX7_forget_1 rfl flX7_82 iq6 rfl rfl rfl rfl ?_
  refine zw_ist1 (nx := 5) C (eIst_n dX7_forget_4 rfl rfl) (Nat.le_of_ble_eq_true rfl) rfl ?_
  refine zw_aload_n (i := 0) (nx := 6) C dX7_forget_5 rfl rfl rfl ?_
  refine zw_iconst (nx := 7) C dX7_forget_6 rfl ?_
  refine zw_puti (nx := 10) C dX7_forget_7 rfl flX7_82 ic6 nf6_4 rfl rfl rfl rfl rfl ?_
  refine zw_iload_n (i := 1) (nx := 11) C dX7_forget_10 rfl rfl rfl ?_
  exact zw_iret C hA hr hk dX7_forget_11 rfl rfl
theorem run_X7_status_ok {k : Nat} (hk3 : k < 3) : zRun l B mX7_status [.ref 52, zi k] ζ (some (zi (ζ.1 53 k))) ζ := by
  refine zrun_intro (M := mX7_status) (ls := [some (.ref 52), some (zi k)]) (by decide) rfl rfl rfl (Nat.le_of_ble_eq_true rfl) ?_
  intro X A C hX hA hr hk
  replace C : CX X B A mX7_status.2.2.2.2 RX7 cX7_status 2 0 0 := C
  have hr : (xMeth X).sig.returnType = (some .int) := hr
  change ZW X B A 2 0 0 _ _ 0 [some (.ref 52), some (zi k)] []
  refine zw_iload_n (i := 1) (nx := 1) C dX7_status_0 rfl rfl rfl ?_
  refine zw_iconst (nx := 2) C dX7_status_1 rfl ?_
  refine zw_iconst (nx := 3) C dX7_status_2 rfl ?_
  refine zw_cS31 (nx := 6) C dX7_status_3 rfl csX7_88 ⟨Nat.le_of_ble_eq_true rfl, Nat.le_of_ble_eq_true rfl⟩ (Nat.le_of_ble_eq_true rfl) (run_X7_in_t (by omega) (by omega) (by omega)) ?_
  refine zw_if_ne (tgt := 21) (nx := 9) C dX7_status_6 rfl rfl (by omega) (fun h6 => ?_) (fun h6 => by exfalso; omega)
  refine zw_aload_n (i := 0) (nx := 22) C dX7_status_21 rfl rfl rfl ?_
  refine zw_getr (nx := 25) C dX7_status_22 rfl flX7_1 iq6 rfl rfl rfl rfl ?_
  refine zw_iload_n (i := 1) (nx := 26) C dX7_status_25 rfl rfl rfl ?_
  refine zw_iald (k) (nx := 27) C dX7_status_26 rfl rfl rfl rfl (by omega) ?_
  exact zw_iret C hA hr hk dX7_status_27 rfl rfl
theorem run_X7_status_bad {w : Int} (hw : -2147483648 ≤ w ∧ w ≤ 2147483647) (h : ¬ (0 ≤ w ∧ w ≤ 2)) : zRun l B mX7_status [.ref 52, zi w] ζ (some (zi (-1))) (mBd ζ) := by
  refine zrun_intro (M := mX7_status) (ls := [some (.ref 52), some (zi w)]) (by decide) rfl rfl rfl (Nat.le_of_ble_eq_true rfl) ?_
  intro X A C hX hA hr hk
  replace C : CX X B A mX7_status.2.2.2.2 RX7 cX7_status 2 0 0 := C
  have hr : (xMeth X).sig.returnType = (some .int) := hr
  change ZW X B A 2 0 0 _ _ 0 [some (.ref 52), some (zi w)] []
  refine zw_iload_n (i := 1) (nx := 1) C dX7_status_0 rfl rfl rfl ?_
  refine zw_iconst (nx := 2) C dX7_status_1 rfl ?_
  refine zw_iconst (nx := 3) C dX7_status_2 rfl ?_
  refine zw_cS31 (nx := 6) C dX7_status_3 rfl csX7_88 ⟨Nat.le_of_ble_eq_true rfl, Nat.le_of_ble_eq_true rfl⟩ (Nat.le_of_ble_eq_true rfl) (run_X7_in_f hw (by omega) h) ?_
  refine zw_if_ne (tgt := 21) (nx := 9) C dX7_status_6 rfl rfl (by omega) (fun h6 => by exfalso; omega) (fun h6 => ?_)
  refine zw_aload_n (i := 0) (nx := 10) C dX7_status_9 rfl rfl rfl ?_
  refine zw_getr (nx := 13) C dX7_status_10 rfl flX7_1 iq6 rfl rfl rfl rfl ?_
  refine zw_iconst (nx := 14) C dX7_status_13 rfl ?_
  refine zw_dup2 (nx := 15) C dX7_status_14 rfl rfl rfl ?_
  refine zw_iald (0) (nx := 16) C dX7_status_15 rfl rfl rfl rfl (by omega) ?_
  refine zw_iconst (nx := 17) C dX7_status_16 rfl ?_
  refine zw_iadd (nx := 18) C dX7_status_17 rfl ?_
  refine zw_iast (0) (nx := 19) C dX7_status_18 rfl rfl rfl rfl (by omega) ?_
  refine zw_iconst (nx := 20) C dX7_status_19 rfl ?_
  exact zw_iret C hA hr hk dX7_status_20 rfl rfl
theorem run_X7_countOf {n k : Nat} (hc : mOk ζ n) (hk7 : k < 7) : zRun l B mX7_countOf [.ref 52, zi k] ζ (some (zi (mCnt ζ n k))) ζ := by
  match k, hk7 with
  | 0, _ =>
    refine zrun_intro (M := mX7_countOf) (ls := [some (.ref 52), some (zi (0 : Nat))]) (by decide) rfl rfl rfl (Nat.le_of_ble_eq_true rfl) ?_
    intro X A C hX hA hr hk
    replace C : CX X B A mX7_countOf.2.2.2.2 RX7 cX7_countOf 2 0 0 := C
    have hr : (xMeth X).sig.returnType = (some .int) := hr
    change ZW X B A 2 0 0 _ _ 0 [some (.ref 52), some (zi (0 : Nat))] []
    refine zw_iload_n (i := 1) (nx := 1) C dX7_countOf_0 rfl rfl rfl ?_
    refine zw_tableIn (nx := 40) C dX7_countOf_1 (by omega) (by omega) (by omega) rfl rfl ?_
    refine zw_aload_n (i := 0) (nx := 41) C dX7_countOf_40 rfl rfl rfl ?_
    refine zw_geti (nx := 44) C dX7_countOf_41 rfl flX7_79 iq6 rfl rfl rfl rfl ?_
    exact zw_iret C hA hr hk dX7_countOf_44 (zr hc.2.symm) rfl
  | 1, _ =>
    refine zrun_intro (M := mX7_countOf) (ls := [some (.ref 52), some (zi (1 : Nat))]) (by decide) rfl rfl rfl (Nat.le_of_ble_eq_true rfl) ?_
    intro X A C hX hA hr hk
    replace C : CX X B A mX7_countOf.2.2.2.2 RX7 cX7_countOf 2 0 0 := C
    have hr : (xMeth X).sig.returnType = (some .int) := hr
    change ZW X B A 2 0 0 _ _ 0 [some (.ref 52), some (zi (1 : Nat))] []
    refine zw_iload_n (i := 1) (nx := 1) C dX7_countOf_0 rfl rfl rfl ?_
    refine zw_tableIn (nx := 45) C dX7_countOf_1 (by omega) (by omega) (by omega) rfl rfl ?_
    refine zw_aload_n (i := 0) (nx := 46) C dX7_countOf_45 rfl rfl rfl ?_
    refine zw_cV01 (nx := 49) C dX7_countOf_46 rfl cvX7_218 rfl rfl ⟨Nat.le_of_ble_eq_true rfl, Nat.le_of_ble_eq_true rfl⟩ rfl rfl (Nat.le_of_ble_eq_true rfl) (run_X7_free hc) ?_
    exact zw_iret C hA hr hk dX7_countOf_49 rfl rfl
  | 2, _ =>
    refine zrun_intro (M := mX7_countOf) (ls := [some (.ref 52), some (zi (2 : Nat))]) (by decide) rfl rfl rfl (Nat.le_of_ble_eq_true rfl) ?_
    intro X A C hX hA hr hk
    replace C : CX X B A mX7_countOf.2.2.2.2 RX7 cX7_countOf 2 0 0 := C
    have hr : (xMeth X).sig.returnType = (some .int) := hr
    change ZW X B A 2 0 0 _ _ 0 [some (.ref 52), some (zi (2 : Nat))] []
    refine zw_iload_n (i := 1) (nx := 1) C dX7_countOf_0 rfl rfl rfl ?_
    refine zw_tableIn (nx := 50) C dX7_countOf_1 (by omega) (by omega) (by omega) rfl rfl ?_
    refine zw_aload_n (i := 0) (nx := 51) C dX7_countOf_50 rfl rfl rfl ?_
    refine zw_iconst (nx := 52) C dX7_countOf_51 rfl ?_
    refine zw_cV11 (nx := 55) C dX7_countOf_52 rfl cvX7_242 rfl rfl ⟨Nat.le_of_ble_eq_true rfl, Nat.le_of_ble_eq_true rfl⟩ rfl rfl (Nat.le_of_ble_eq_true rfl) (run_X7_othersSee hc (by omega)) ?_
    exact zw_iret C hA hr hk dX7_countOf_55 rfl rfl
  | 3, _ =>
    refine zrun_intro (M := mX7_countOf) (ls := [some (.ref 52), some (zi (3 : Nat))]) (by decide) rfl rfl rfl (Nat.le_of_ble_eq_true rfl) ?_
    intro X A C hX hA hr hk
    replace C : CX X B A mX7_countOf.2.2.2.2 RX7 cX7_countOf 2 0 0 := C
    have hr : (xMeth X).sig.returnType = (some .int) := hr
    change ZW X B A 2 0 0 _ _ 0 [some (.ref 52), some (zi (3 : Nat))] []
    refine zw_iload_n (i := 1) (nx := 1) C dX7_countOf_0 rfl rfl rfl ?_
    refine zw_tableIn (nx := 56) C dX7_countOf_1 (by omega) (by omega) (by omega) rfl rfl ?_
    refine zw_aload_n (i := 0) (nx := 57) C dX7_countOf_56 rfl rfl rfl ?_
    refine zw_cV01 (nx := 60) C dX7_countOf_57 rfl cvX7_292 rfl rfl ⟨Nat.le_of_ble_eq_true rfl, Nat.le_of_ble_eq_true rfl⟩ rfl rfl (Nat.le_of_ble_eq_true rfl) (run_X7_allPaid hc) ?_
    exact zw_iret C hA hr hk dX7_countOf_60 rfl rfl
  | 4, _ =>
    refine zrun_intro (M := mX7_countOf) (ls := [some (.ref 52), some (zi (4 : Nat))]) (by decide) rfl rfl rfl (Nat.le_of_ble_eq_true rfl) ?_
    intro X A C hX hA hr hk
    replace C : CX X B A mX7_countOf.2.2.2.2 RX7 cX7_countOf 2 0 0 := C
    have hr : (xMeth X).sig.returnType = (some .int) := hr
    change ZW X B A 2 0 0 _ _ 0 [some (.ref 52), some (zi (4 : Nat))] []
    refine zw_iload_n (i := 1) (nx := 1) C dX7_countOf_0 rfl rfl rfl ?_
    refine zw_tableIn (nx := 61) C dX7_countOf_1 (by omega) (by omega) (by omega) rfl rfl ?_
    refine zw_aload_n (i := 0) (nx := 62) C dX7_countOf_61 rfl rfl rfl ?_
    refine zw_geti (nx := 65) C dX7_countOf_62 rfl flX7_82 iq6 rfl rfl rfl rfl ?_
    exact zw_iret C hA hr hk dX7_countOf_65 rfl rfl
  | 5, _ =>
    refine zrun_intro (M := mX7_countOf) (ls := [some (.ref 52), some (zi (5 : Nat))]) (by decide) rfl rfl rfl (Nat.le_of_ble_eq_true rfl) ?_
    intro X A C hX hA hr hk
    replace C : CX X B A mX7_countOf.2.2.2.2 RX7 cX7_countOf 2 0 0 := C
    have hr : (xMeth X).sig.returnType = (some .int) := hr
    change ZW X B A 2 0 0 _ _ 0 [some (.ref 52), some (zi (5 : Nat))] []
    refine zw_iload_n (i := 1) (nx := 1) C dX7_countOf_0 rfl rfl rfl ?_
    refine zw_tableIn (nx := 66) C dX7_countOf_1 (by omega) (by omega) (by omega) rfl rfl ?_
    refine zw_aload_n (i := 0) (nx := 67) C dX7_countOf_66 rfl rfl rfl ?_
    refine zw_geti (nx := 70) C dX7_countOf_67 rfl flX7_85 iq6 rfl rfl rfl rfl ?_
    exact zw_iret C hA hr hk dX7_countOf_70 rfl rfl
  | 6, _ =>
    refine zrun_intro (M := mX7_countOf) (ls := [some (.ref 52), some (zi (6 : Nat))]) (by decide) rfl rfl rfl (Nat.le_of_ble_eq_true rfl) ?_
    intro X A C hX hA hr hk
    replace C : CX X B A mX7_countOf.2.2.2.2 RX7 cX7_countOf 2 0 0 := C
    have hr : (xMeth X).sig.returnType = (some .int) := hr
    change ZW X B A 2 0 0 _ _ 0 [some (.ref 52), some (zi (6 : Nat))] []
    refine zw_iload_n (i := 1) (nx := 1) C dX7_countOf_0 rfl rfl rfl ?_
    refine zw_tableOut (nx := 71) C dX7_countOf_1 (by omega) (by omega) rfl ?_
    refine zw_aload_n (i := 0) (nx := 72) C dX7_countOf_71 rfl rfl rfl ?_
    refine zw_geti (nx := 75) C dX7_countOf_72 rfl flX7_107 iq6 rfl rfl rfl rfl ?_
    exact zw_iret C hA hr hk dX7_countOf_75 rfl rfl
theorem run_X7_count_ok {n k : Nat} (hc : mOk ζ n) (hk7 : k < 7) : zRun l B mX7_count [.ref 52, zi k] ζ (some (zi (mCnt ζ n k))) ζ := by
  refine zrun_intro (M := mX7_count) (ls := [some (.ref 52), some (zi k)]) (by decide) rfl rfl rfl (Nat.le_of_ble_eq_true rfl) ?_
  intro X A C hX hA hr hk
  replace C : CX X B A mX7_count.2.2.2.2 RX7 cX7_count 2 0 0 := C
  have hr : (xMeth X).sig.returnType = (some .int) := hr
  change ZW X B A 2 0 0 _ _ 0 [some (.ref 52), some (zi k)] []
  refine zw_iload_n (i := 1) (nx := 1) C dX7_count_0 rfl rfl rfl ?_
  refine zw_iconst (nx := 2) C dX7_count_1 rfl ?_
  refine zw_bipush (v := 6) (nx := 4) C dX7_count_2 (by decide) rfl ?_
  refine zw_cS31 (nx := 7) C dX7_count_4 rfl csX7_88 ⟨Nat.le_of_ble_eq_true rfl, Nat.le_of_ble_eq_true rfl⟩ (Nat.le_of_ble_eq_true rfl) (run_X7_in_t (by omega) (by omega) (by omega)) ?_
  refine zw_if_eq (tgt := 18) (nx := 10) C dX7_count_7 rfl rfl (by omega) (fun h7 => by exfalso; omega) (fun h7 => ?_)
  refine zw_aload_n (i := 0) (nx := 11) C dX7_count_10 rfl rfl rfl ?_
  refine zw_iload_n (i := 1) (nx := 12) C dX7_count_11 rfl rfl rfl ?_
  refine zw_cV11 (nx := 15) C dX7_count_12 rfl cvX7_295 rfl rfl ⟨Nat.le_of_ble_eq_true rfl, Nat.le_of_ble_eq_true rfl⟩ rfl rfl (Nat.le_of_ble_eq_true rfl) (run_X7_countOf hc hk7) ?_
  refine zw_goto (nx := 22) C dX7_count_15 rfl ?_
  exact zw_iret C hA hr hk dX7_count_22 rfl rfl
theorem run_X7_count_bad {w : Int} (hw : -2147483648 ≤ w ∧ w ≤ 2147483647) (h : ¬ (0 ≤ w ∧ w ≤ 6)) : zRun l B mX7_count [.ref 52, zi w] ζ (some (zi (-2))) (mBd ζ) := by
  refine zrun_intro (M := mX7_count) (ls := [some (.ref 52), some (zi w)]) (by decide) rfl rfl rfl (Nat.le_of_ble_eq_true rfl) ?_
  intro X A C hX hA hr hk
  replace C : CX X B A mX7_count.2.2.2.2 RX7 cX7_count 2 0 0 := C
  have hr : (xMeth X).sig.returnType = (some .int) := hr
  change ZW X B A 2 0 0 _ _ 0 [some (.ref 52), some (zi w)] []
  refine zw_iload_n (i := 1) (nx := 1) C dX7_count_0 rfl rfl rfl ?_
  refine zw_iconst (nx := 2) C dX7_count_1 rfl ?_
  refine zw_bipush (v := 6) (nx := 4) C dX7_count_2 (by decide) rfl ?_
  refine zw_cS31 (nx := 7) C dX7_count_4 rfl csX7_88 ⟨Nat.le_of_ble_eq_true rfl, Nat.le_of_ble_eq_true rfl⟩ (Nat.le_of_ble_eq_true rfl) (run_X7_in_f hw (by omega) h) ?_
  refine zw_if_eq (tgt := 18) (nx := 10) C dX7_count_7 rfl rfl (by omega) (fun h7 => ?_) (fun h7 => by exfalso; omega)
  refine zw_aload_n (i := 0) (nx := 19) C dX7_count_18 rfl rfl rfl ?_
  refine zw_cV01 (nx := 22) C dX7_count_19 rfl cvX7_96 rfl rfl ⟨Nat.le_of_ble_eq_true rfl, Nat.le_of_ble_eq_true rfl⟩ rfl rfl (Nat.le_of_ble_eq_true rfl) run_X7_bad ?_
  exact zw_iret C hA hr hk dX7_count_22 rfl rfl
theorem run_X7_part_0 : zRun l B mX7_part [.ref 52, zi 0] ζ (some (zl (ζ.2 0))) ζ := by
  refine zrun_intro (M := mX7_part) (ls := [some (.ref 52), some (zi 0)]) (by decide) rfl rfl rfl (Nat.le_of_ble_eq_true rfl) ?_
  intro X A C hX hA hr hk
  replace C : CX X B A mX7_part.2.2.2.2 RX7 cX7_part 2 0 0 := C
  have hr : (xMeth X).sig.returnType = (some .long) := hr
  change ZW X B A 2 0 0 _ _ 0 [some (.ref 52), some (zi 0)] []
  refine zw_iload_n (i := 1) (nx := 1) C dX7_part_0 rfl rfl rfl ?_
  refine zw_if_ne (tgt := 11) (nx := 4) C dX7_part_1 rfl rfl (by omega) (fun h1 => by exfalso; omega) (fun h1 => ?_)
  refine zw_aload_n (i := 0) (nx := 5) C dX7_part_4 rfl rfl rfl ?_
  refine zw_getl (nx := 8) C dX7_part_5 rfl flX7_268 iq6 rfl rfl rfl rfl ?_
  refine zw_goto (nx := 28) C dX7_part_8 rfl ?_
  exact zw_lret C hA hr hk dX7_part_28 rfl rfl
theorem run_X7_part_1 : zRun l B mX7_part [.ref 52, zi 1] ζ (some (zl (ζ.2 1))) ζ := by
  refine zrun_intro (M := mX7_part) (ls := [some (.ref 52), some (zi 1)]) (by decide) rfl rfl rfl (Nat.le_of_ble_eq_true rfl) ?_
  intro X A C hX hA hr hk
  replace C : CX X B A mX7_part.2.2.2.2 RX7 cX7_part 2 0 0 := C
  have hr : (xMeth X).sig.returnType = (some .long) := hr
  change ZW X B A 2 0 0 _ _ 0 [some (.ref 52), some (zi 1)] []
  refine zw_iload_n (i := 1) (nx := 1) C dX7_part_0 rfl rfl rfl ?_
  refine zw_if_ne (tgt := 11) (nx := 4) C dX7_part_1 rfl rfl (by omega) (fun h1 => ?_) (fun h1 => by exfalso; omega)
  refine zw_iload_n (i := 1) (nx := 12) C dX7_part_11 rfl rfl rfl ?_
  refine zw_iconst (nx := 13) C dX7_part_12 rfl ?_
  refine zw_icmp_ne (tgt := 23) (nx := 16) C dX7_part_13 rfl rfl (by omega) (fun h13 => by exfalso; omega) (fun h13 => ?_)
  refine zw_aload_n (i := 0) (nx := 17) C dX7_part_16 rfl rfl rfl ?_
  refine zw_getl (nx := 20) C dX7_part_17 rfl flX7_65 iq6 rfl rfl rfl rfl ?_
  refine zw_goto (nx := 28) C dX7_part_20 rfl ?_
  exact zw_lret C hA hr hk dX7_part_28 rfl rfl
theorem run_X7_part_bad {w : Int} (hw : -2147483648 ≤ w ∧ w ≤ 2147483647) (h : ¬ (w = 0 ∨ w = 1)) : zRun l B mX7_part [.ref 52, zi w] ζ (some (zl (-2))) (mBd ζ) := by
  refine zrun_intro (M := mX7_part) (ls := [some (.ref 52), some (zi w)]) (by decide) rfl rfl rfl (Nat.le_of_ble_eq_true rfl) ?_
  intro X A C hX hA hr hk
  replace C : CX X B A mX7_part.2.2.2.2 RX7 cX7_part 2 0 0 := C
  have hr : (xMeth X).sig.returnType = (some .long) := hr
  change ZW X B A 2 0 0 _ _ 0 [some (.ref 52), some (zi w)] []
  refine zw_iload_n (i := 1) (nx := 1) C dX7_part_0 rfl rfl rfl ?_
  refine zw_if_ne (tgt := 11) (nx := 4) C dX7_part_1 rfl rfl (by omega) (fun h1 => ?_) (fun h1 => by exfalso; omega)
  refine zw_iload_n (i := 1) (nx := 12) C dX7_part_11 rfl rfl rfl ?_
  refine zw_iconst (nx := 13) C dX7_part_12 rfl ?_
  refine zw_icmp_ne (tgt := 23) (nx := 16) C dX7_part_13 rfl rfl (by omega) (fun h13 => ?_) (fun h13 => by exfalso; omega)
  refine zw_aload_n (i := 0) (nx := 24) C dX7_part_23 rfl rfl rfl ?_
  refine zw_cV01 (nx := 27) C dX7_part_24 rfl cvX7_96 rfl rfl ⟨Nat.le_of_ble_eq_true rfl, Nat.le_of_ble_eq_true rfl⟩ rfl rfl (Nat.le_of_ble_eq_true rfl) run_X7_bad ?_
  refine zw_i2l (nx := 28) C dX7_part_27 (by omega) rfl ?_
  exact zw_lret C hA hr hk dX7_part_28 rfl rfl
theorem run_X7_image_bad {w : Int} (hw : -2147483648 ≤ w ∧ w ≤ 2147483647) (h : ¬ (0 ≤ w ∧ w ≤ 1)) : zRun l B mX7_image [.ref 52, zi w] ζ (some (zi (-2))) (mBd ζ) := by
  refine zrun_intro (M := mX7_image) (ls := [some (.ref 52), some (zi w), none, none]) (by decide) rfl rfl rfl (Nat.le_of_ble_eq_true rfl) ?_
  intro X A C hX hA hr hk
  replace C : CX X B A mX7_image.2.2.2.2 RX7 cX7_image 4 0 0 := C
  have hr : (xMeth X).sig.returnType = (some .int) := hr
  change ZW X B A 4 0 0 _ _ 0 [some (.ref 52), some (zi w), none, none] []
  refine zw_iload_n (i := 1) (nx := 1) C dX7_image_0 rfl rfl rfl ?_
  refine zw_iconst (nx := 2) C dX7_image_1 rfl ?_
  refine zw_iconst (nx := 3) C dX7_image_2 rfl ?_
  refine zw_cS31 (nx := 6) C dX7_image_3 rfl csX7_88 ⟨Nat.le_of_ble_eq_true rfl, Nat.le_of_ble_eq_true rfl⟩ (Nat.le_of_ble_eq_true rfl) (run_X7_in_f hw (by omega) h) ?_
  refine zw_if_ne (tgt := 14) (nx := 9) C dX7_image_6 rfl rfl (by omega) (fun h6 => by exfalso; omega) (fun h6 => ?_)
  refine zw_aload_n (i := 0) (nx := 10) C dX7_image_9 rfl rfl rfl ?_
  refine zw_cV01 (nx := 13) C dX7_image_10 rfl cvX7_96 rfl rfl ⟨Nat.le_of_ble_eq_true rfl, Nat.le_of_ble_eq_true rfl⟩ rfl rfl (Nat.le_of_ble_eq_true rfl) run_X7_bad ?_
  exact zw_iret C hA hr hk dX7_image_13 rfl rfl
set_option maxHeartbeats 4000000 in
theorem run_X7_image_ok {i : Nat} (hi : i < 2) : zRun l B mX7_image [.ref 52, zi i] ζ (some (zi 1)) (mImg ζ i) := by
  refine zrun_intro (M := mX7_image) (ls := [some (.ref 52), some (zi i), none, none]) (by decide) rfl rfl rfl (Nat.le_of_ble_eq_true rfl) ?_
  intro X A C hX hA hr hk
  replace C : CX X B A mX7_image.2.2.2.2 RX7 cX7_image 4 0 0 := C
  have hr : (xMeth X).sig.returnType = (some .int) := hr
  change ZW X B A 4 0 0 _ _ 0 [some (.ref 52), some (zi i), none, none] []
  obtain ⟨ζ4, h4⟩ : ∃ z, z = mLay (mIm1 ζ i) 69 (190 * i + 5) 5 := ⟨_, rfl⟩
  obtain ⟨ζ5, h5⟩ : ∃ z, z = cpO ζ4 69 (190 * i + 20) 55 5 := ⟨_, rfl⟩
  obtain ⟨ζ6, h6⟩ : ∃ z, z = cpO ζ5 69 (190 * i + 25) 54 8 := ⟨_, rfl⟩
  obtain ⟨ζ7, h7⟩ : ∃ z, z = nO ζ6 (190 * i) 6 := ⟨_, rfl⟩
  have eF : mImg ζ i = cpO ζ7 69 (190 * i + 57) 66 120 := by rw [h7, h6, h5, h4]; rfl
  rw [eF]
  have loop4 : ∀ k j : Nat, j + k = 120 → ZW X B A 4 0 0 (eFin X B (some (zi 1)) (zz (cpO ζ7 69 (190 * i + 57) 66 120))) (cpO ζ7 69 (190 * i + 57) 66 j) 241 [some (.ref 52), some (zi i), some (zi (190 * i)), some (zi j)] [] := by
    intro k
    induction k with
    | zero =>
      intro j hj
      have e : j = 120 := by omega
      subst e
      refine zw_iload_n (i := 3) (nx := 242) C dX7_image_241 rfl rfl rfl ?_
      refine zw_bipush (v := 120) (nx := 244) C dX7_image_242 (by decide) rfl ?_
      refine zw_icmp_ge (tgt := 270) (nx := 247) C dX7_image_244 rfl rfl (by omega) (fun h244 => ?_) (fun h244 => by exfalso; omega)
      refine zw_iconst (nx := 271) C dX7_image_270 rfl ?_
      exact zw_iret C hA hr hk dX7_image_271 rfl rfl
    | succ k ih =>
      intro j hj
      refine zw_iload_n (i := 3) (nx := 242) C dX7_image_241 rfl rfl rfl ?_
      refine zw_bipush (v := 120) (nx := 244) C dX7_image_242 (by decide) rfl ?_
      refine zw_icmp_ge (tgt := 270) (nx := 247) C dX7_image_244 rfl rfl (by omega) (fun h244 => by exfalso; omega) (fun h244 => ?_)
      refine zw_aload_n (i := 0) (nx := 248) C dX7_image_247 rfl rfl rfl ?_
      refine zw_getr (nx := 251) C dX7_image_248 rfl flX7_69 iq6 rfl rfl rfl rfl ?_
      refine zw_iload_n (i := 2) (nx := 252) C dX7_image_251 rfl rfl rfl ?_
      refine zw_bipush (v := 57) (nx := 254) C dX7_image_252 (by decide) rfl ?_
      refine zw_iadd (nx := 255) C dX7_image_254 rfl ?_
      refine zw_iload_n (i := 3) (nx := 256) C dX7_image_255 rfl rfl rfl ?_
      refine zw_iadd (nx := 257) C dX7_image_256 rfl ?_
      refine zw_aload_n (i := 0) (nx := 258) C dX7_image_257 rfl rfl rfl ?_
      refine zw_getr (nx := 261) C dX7_image_258 rfl flX7_56 iq6 rfl rfl rfl rfl ?_
      refine zw_iload_n (i := 3) (nx := 262) C dX7_image_261 rfl rfl rfl ?_
      refine zw_iald (j) (nx := 263) C dX7_image_262 rfl rfl rfl rfl (by omega) ?_
      refine zw_iast ((190 * i + 57 + j)) (nx := 264) C dX7_image_263 rfl rfl rfl rfl (by omega) ?_
      refine zw_iinc3 (nx := 267) C dX7_image_264 rfl (Nat.le_of_ble_eq_true rfl) rfl ?_
      refine zw_goto (nx := 241) C dX7_image_267 rfl ?_
      exact ih (j + 1) (by omega)
  have loop3 : ∀ k j : Nat, j + k = 6 → ZW X B A 4 0 0 (eFin X B (some (zi 1)) (zz (cpO ζ7 69 (190 * i + 57) 66 120))) (nO ζ6 (190 * i) j) 159 [some (.ref 52), some (zi i), some (zi (190 * i)), some (zi j)] [] := by
    intro k
    induction k with
    | zero =>
      intro j hj
      have e : j = 6 := by omega
      subst e
      refine zw_iload_n (i := 3) (nx := 160) C dX7_image_159 rfl rfl rfl ?_
      refine zw_bipush (v := 6) (nx := 162) C dX7_image_160 (by decide) rfl ?_
      refine zw_icmp_ge (tgt := 239) (nx := 165) C dX7_image_162 rfl rfl (by omega) (fun h162 => ?_) (fun h162 => by exfalso; omega)
      refine zw_iconst (nx := 240) C dX7_image_239 rfl ?_
      refine zw_ist3 (nx := 241) C (eIst_n dX7_image_240 rfl rfl) (Nat.le_of_ble_eq_true rfl) rfl ?_
      rw [← h7]
      exact loop4 120 0 (by omega)
    | succ k ih =>
      intro j hj
      refine zw_iload_n (i := 3) (nx := 160) C dX7_image_159 rfl rfl rfl ?_
      refine zw_bipush (v := 6) (nx := 162) C dX7_image_160 (by decide) rfl ?_
      refine zw_icmp_ge (tgt := 239) (nx := 165) C dX7_image_162 rfl rfl (by omega) (fun h162 => by exfalso; omega) (fun h162 => ?_)
      refine zw_aload_n (i := 0) (nx := 166) C dX7_image_165 rfl rfl rfl ?_
      refine zw_getr (nx := 169) C dX7_image_166 rfl flX7_69 iq6 rfl rfl rfl rfl ?_
      refine zw_iload_n (i := 2) (nx := 170) C dX7_image_169 rfl rfl rfl ?_
      refine zw_bipush (v := 33) (nx := 172) C dX7_image_170 (by decide) rfl ?_
      refine zw_iadd (nx := 173) C dX7_image_172 rfl ?_
      refine zw_iload_n (i := 3) (nx := 174) C dX7_image_173 rfl rfl rfl ?_
      refine zw_iadd (nx := 175) C dX7_image_174 rfl ?_
      refine zw_aload_n (i := 0) (nx := 176) C dX7_image_175 rfl rfl rfl ?_
      refine zw_getr (nx := 179) C dX7_image_176 rfl flX7_35 iq6 rfl rfl rfl rfl ?_
      refine zw_iload_n (i := 3) (nx := 180) C dX7_image_179 rfl rfl rfl ?_
      refine zw_iald (j) (nx := 181) C dX7_image_180 rfl rfl rfl rfl (by omega) ?_
      refine zw_iast ((190 * i + 33 + j)) (nx := 182) C dX7_image_181 rfl rfl rfl rfl (by omega) ?_
      refine zw_aload_n (i := 0) (nx := 183) C dX7_image_182 rfl rfl rfl ?_
      refine zw_getr (nx := 186) C dX7_image_183 rfl flX7_69 iq6 rfl rfl rfl rfl ?_
      refine zw_iload_n (i := 2) (nx := 187) C dX7_image_186 rfl rfl rfl ?_
      refine zw_bipush (v := 39) (nx := 189) C dX7_image_187 (by decide) rfl ?_
      refine zw_iadd (nx := 190) C dX7_image_189 rfl ?_
      refine zw_iload_n (i := 3) (nx := 191) C dX7_image_190 rfl rfl rfl ?_
      refine zw_iadd (nx := 192) C dX7_image_191 rfl ?_
      refine zw_aload_n (i := 0) (nx := 193) C dX7_image_192 rfl rfl rfl ?_
      refine zw_getr (nx := 196) C dX7_image_193 rfl flX7_38 iq6 rfl rfl rfl rfl ?_
      refine zw_iload_n (i := 3) (nx := 197) C dX7_image_196 rfl rfl rfl ?_
      refine zw_iald (j) (nx := 198) C dX7_image_197 rfl rfl rfl rfl (by omega) ?_
      simp only [zU_at, zCp_at, zR_at, zFill_at, Nat.reduceEqDiff, reduceIte, and_self, and_true, true_and, and_false, false_and]
      refine zw_iast ((190 * i + 39 + j)) (nx := 199) C dX7_image_198 rfl rfl rfl rfl (by omega) ?_
      refine zw_aload_n (i := 0) (nx := 200) C dX7_image_199 rfl rfl rfl ?_
      refine zw_getr (nx := 203) C dX7_image_200 rfl flX7_69 iq6 rfl rfl rfl rfl ?_
      refine zw_iload_n (i := 2) (nx := 204) C dX7_image_203 rfl rfl rfl ?_
      refine zw_bipush (v := 45) (nx := 206) C dX7_image_204 (by decide) rfl ?_
      refine zw_iadd (nx := 207) C dX7_image_206 rfl ?_
      refine zw_iload_n (i := 3) (nx := 208) C dX7_image_207 rfl rfl rfl ?_
      refine zw_iadd (nx := 209) C dX7_image_208 rfl ?_
      refine zw_aload_n (i := 0) (nx := 210) C dX7_image_209 rfl rfl rfl ?_
      refine zw_getr (nx := 213) C dX7_image_210 rfl flX7_41 iq6 rfl rfl rfl rfl ?_
      refine zw_iload_n (i := 3) (nx := 214) C dX7_image_213 rfl rfl rfl ?_
      refine zw_iald (j) (nx := 215) C dX7_image_214 rfl rfl rfl rfl (by omega) ?_
      simp only [zU_at, zCp_at, zR_at, zFill_at, Nat.reduceEqDiff, reduceIte, and_self, and_true, true_and, and_false, false_and]
      refine zw_iast ((190 * i + 45 + j)) (nx := 216) C dX7_image_215 rfl rfl rfl rfl (by omega) ?_
      refine zw_aload_n (i := 0) (nx := 217) C dX7_image_216 rfl rfl rfl ?_
      refine zw_getr (nx := 220) C dX7_image_217 rfl flX7_69 iq6 rfl rfl rfl rfl ?_
      refine zw_iload_n (i := 2) (nx := 221) C dX7_image_220 rfl rfl rfl ?_
      refine zw_bipush (v := 51) (nx := 223) C dX7_image_221 (by decide) rfl ?_
      refine zw_iadd (nx := 224) C dX7_image_223 rfl ?_
      refine zw_iload_n (i := 3) (nx := 225) C dX7_image_224 rfl rfl rfl ?_
      refine zw_iadd (nx := 226) C dX7_image_225 rfl ?_
      refine zw_aload_n (i := 0) (nx := 227) C dX7_image_226 rfl rfl rfl ?_
      refine zw_getr (nx := 230) C dX7_image_227 rfl flX7_44 iq6 rfl rfl rfl rfl ?_
      refine zw_iload_n (i := 3) (nx := 231) C dX7_image_230 rfl rfl rfl ?_
      refine zw_iald (j) (nx := 232) C dX7_image_231 rfl rfl rfl rfl (by omega) ?_
      simp only [zU_at, zCp_at, zR_at, zFill_at, Nat.reduceEqDiff, reduceIte, and_self, and_true, true_and, and_false, false_and]
      refine zw_iast ((190 * i + 51 + j)) (nx := 233) C dX7_image_232 rfl rfl rfl rfl (by omega) ?_
      refine zw_iinc3 (nx := 236) C dX7_image_233 rfl (Nat.le_of_ble_eq_true rfl) rfl ?_
      refine zw_goto (nx := 159) C dX7_image_236 rfl ?_
      exact ih (j + 1) (by omega)
  have loop2 : ∀ k j : Nat, j + k = 8 → ZW X B A 4 0 0 (eFin X B (some (zi 1)) (zz (cpO ζ7 69 (190 * i + 57) 66 120))) (cpO ζ5 69 (190 * i + 25) 54 j) 128 [some (.ref 52), some (zi i), some (zi (190 * i)), some (zi j)] [] := by
    intro k
    induction k with
    | zero =>
      intro j hj
      have e : j = 8 := by omega
      subst e
      refine zw_iload_n (i := 3) (nx := 129) C dX7_image_128 rfl rfl rfl ?_
      refine zw_bipush (v := 8) (nx := 131) C dX7_image_129 (by decide) rfl ?_
      refine zw_icmp_ge (tgt := 157) (nx := 134) C dX7_image_131 rfl rfl (by omega) (fun h131 => ?_) (fun h131 => by exfalso; omega)
      refine zw_iconst (nx := 158) C dX7_image_157 rfl ?_
      refine zw_ist3 (nx := 159) C (eIst_n dX7_image_158 rfl rfl) (Nat.le_of_ble_eq_true rfl) rfl ?_
      rw [← h6]
      exact loop3 6 0 (by omega)
    | succ k ih =>
      intro j hj
      refine zw_iload_n (i := 3) (nx := 129) C dX7_image_128 rfl rfl rfl ?_
      refine zw_bipush (v := 8) (nx := 131) C dX7_image_129 (by decide) rfl ?_
      refine zw_icmp_ge (tgt := 157) (nx := 134) C dX7_image_131 rfl rfl (by omega) (fun h131 => by exfalso; omega) (fun h131 => ?_)
      refine zw_aload_n (i := 0) (nx := 135) C dX7_image_134 rfl rfl rfl ?_
      refine zw_getr (nx := 138) C dX7_image_135 rfl flX7_69 iq6 rfl rfl rfl rfl ?_
      refine zw_iload_n (i := 2) (nx := 139) C dX7_image_138 rfl rfl rfl ?_
      refine zw_bipush (v := 25) (nx := 141) C dX7_image_139 (by decide) rfl ?_
      refine zw_iadd (nx := 142) C dX7_image_141 rfl ?_
      refine zw_iload_n (i := 3) (nx := 143) C dX7_image_142 rfl rfl rfl ?_
      refine zw_iadd (nx := 144) C dX7_image_143 rfl ?_
      refine zw_aload_n (i := 0) (nx := 145) C dX7_image_144 rfl rfl rfl ?_
      refine zw_getr (nx := 148) C dX7_image_145 rfl flX7_20 iq6 rfl rfl rfl rfl ?_
      refine zw_iload_n (i := 3) (nx := 149) C dX7_image_148 rfl rfl rfl ?_
      refine zw_iald (j) (nx := 150) C dX7_image_149 rfl rfl rfl rfl (by omega) ?_
      refine zw_iast ((190 * i + 25 + j)) (nx := 151) C dX7_image_150 rfl rfl rfl rfl (by omega) ?_
      refine zw_iinc3 (nx := 154) C dX7_image_151 rfl (Nat.le_of_ble_eq_true rfl) rfl ?_
      refine zw_goto (nx := 128) C dX7_image_154 rfl ?_
      exact ih (j + 1) (by omega)
  have loop1 : ∀ k j : Nat, j + k = 5 → ZW X B A 4 0 0 (eFin X B (some (zi 1)) (zz (cpO ζ7 69 (190 * i + 57) 66 120))) (cpO ζ4 69 (190 * i + 20) 55 j) 98 [some (.ref 52), some (zi i), some (zi (190 * i)), some (zi j)] [] := by
    intro k
    induction k with
    | zero =>
      intro j hj
      have e : j = 5 := by omega
      subst e
      refine zw_iload_n (i := 3) (nx := 99) C dX7_image_98 rfl rfl rfl ?_
      refine zw_iconst (nx := 100) C dX7_image_99 rfl ?_
      refine zw_icmp_ge (tgt := 126) (nx := 103) C dX7_image_100 rfl rfl (by omega) (fun h100 => ?_) (fun h100 => by exfalso; omega)
      refine zw_iconst (nx := 127) C dX7_image_126 rfl ?_
      refine zw_ist3 (nx := 128) C (eIst_n dX7_image_127 rfl rfl) (Nat.le_of_ble_eq_true rfl) rfl ?_
      rw [← h5]
      exact loop2 8 0 (by omega)
    | succ k ih =>
      intro j hj
      refine zw_iload_n (i := 3) (nx := 99) C dX7_image_98 rfl rfl rfl ?_
      refine zw_iconst (nx := 100) C dX7_image_99 rfl ?_
      refine zw_icmp_ge (tgt := 126) (nx := 103) C dX7_image_100 rfl rfl (by omega) (fun h100 => by exfalso; omega) (fun h100 => ?_)
      refine zw_aload_n (i := 0) (nx := 104) C dX7_image_103 rfl rfl rfl ?_
      refine zw_getr (nx := 107) C dX7_image_104 rfl flX7_69 iq6 rfl rfl rfl rfl ?_
      refine zw_iload_n (i := 2) (nx := 108) C dX7_image_107 rfl rfl rfl ?_
      refine zw_bipush (v := 20) (nx := 110) C dX7_image_108 (by decide) rfl ?_
      refine zw_iadd (nx := 111) C dX7_image_110 rfl ?_
      refine zw_iload_n (i := 3) (nx := 112) C dX7_image_111 rfl rfl rfl ?_
      refine zw_iadd (nx := 113) C dX7_image_112 rfl ?_
      refine zw_aload_n (i := 0) (nx := 114) C dX7_image_113 rfl rfl rfl ?_
      refine zw_getr (nx := 117) C dX7_image_114 rfl flX7_23 iq6 rfl rfl rfl rfl ?_
      refine zw_iload_n (i := 3) (nx := 118) C dX7_image_117 rfl rfl rfl ?_
      refine zw_iald (j) (nx := 119) C dX7_image_118 rfl rfl rfl rfl (by omega) ?_
      refine zw_iast ((190 * i + 20 + j)) (nx := 120) C dX7_image_119 rfl rfl rfl rfl (by omega) ?_
      refine zw_iinc3 (nx := 123) C dX7_image_120 rfl (Nat.le_of_ble_eq_true rfl) rfl ?_
      refine zw_goto (nx := 98) C dX7_image_123 rfl ?_
      exact ih (j + 1) (by omega)
  refine zw_iload_n (i := 1) (nx := 1) C dX7_image_0 rfl rfl rfl ?_
  refine zw_iconst (nx := 2) C dX7_image_1 rfl ?_
  refine zw_iconst (nx := 3) C dX7_image_2 rfl ?_
  refine zw_cS31 (nx := 6) C dX7_image_3 rfl csX7_88 ⟨Nat.le_of_ble_eq_true rfl, Nat.le_of_ble_eq_true rfl⟩ (Nat.le_of_ble_eq_true rfl) (run_X7_in_t (by omega) (by omega) (by omega)) ?_
  refine zw_if_ne (tgt := 14) (nx := 9) C dX7_image_6 rfl rfl (by omega) (fun h6 => ?_) (fun h6 => by exfalso; omega)
  refine zw_sipush (v := 190) (nx := 17) C dX7_image_14 (by decide) rfl ?_
  refine zw_iload_n (i := 1) (nx := 18) C dX7_image_17 rfl rfl rfl ?_
  refine zw_imul (nx := 19) C dX7_image_18 rfl ?_
  refine zw_ist2 (nx := 20) C (eIst_n dX7_image_19 rfl rfl) (Nat.le_of_ble_eq_true rfl) rfl ?_
  refine zw_aload_n (i := 0) (nx := 21) C dX7_image_20 rfl rfl rfl ?_
  refine zw_getr (nx := 24) C dX7_image_21 rfl flX7_72 iq6 rfl rfl rfl rfl ?_
  refine zw_iload_n (i := 1) (nx := 25) C dX7_image_24 rfl rfl rfl ?_
  refine zw_iconst (nx := 26) C dX7_image_25 rfl ?_
  refine zw_iast (i) (nx := 27) C dX7_image_26 rfl rfl rfl rfl (by omega) ?_
  refine zw_aload_n (i := 0) (nx := 28) C dX7_image_27 rfl rfl rfl ?_
  refine zw_getr (nx := 31) C dX7_image_28 rfl flX7_69 iq6 rfl rfl rfl rfl ?_
  refine zw_iload_n (i := 2) (nx := 32) C dX7_image_31 rfl rfl rfl ?_
  refine zw_aload_n (i := 0) (nx := 33) C dX7_image_32 rfl rfl rfl ?_
  refine zw_geti (nx := 36) C dX7_image_33 rfl flX7_79 iq6 rfl rfl rfl rfl ?_
  simp only [zU_at, zCp_at, zR_at, zFill_at, Nat.reduceEqDiff, reduceIte, and_self, and_true, true_and, and_false, false_and]
  refine zw_iast ((190 * i)) (nx := 37) C dX7_image_36 rfl rfl rfl rfl (by omega) ?_
  refine zw_aload_n (i := 0) (nx := 38) C dX7_image_37 rfl rfl rfl ?_
  refine zw_getr (nx := 41) C dX7_image_38 rfl flX7_69 iq6 rfl rfl rfl rfl ?_
  refine zw_iload_n (i := 2) (nx := 42) C dX7_image_41 rfl rfl rfl ?_
  refine zw_iconst (nx := 43) C dX7_image_42 rfl ?_
  refine zw_iadd (nx := 44) C dX7_image_43 rfl ?_
  refine zw_aload_n (i := 0) (nx := 45) C dX7_image_44 rfl rfl rfl ?_
  refine zw_geti (nx := 48) C dX7_image_45 rfl flX7_13 iq6 rfl rfl rfl rfl ?_
  simp only [zU_at, zCp_at, zR_at, zFill_at, Nat.reduceEqDiff, reduceIte, and_self, and_true, true_and, and_false, false_and]
  refine zw_iast ((190 * i + 1)) (nx := 49) C dX7_image_48 rfl rfl rfl rfl (by omega) ?_
  refine zw_aload_n (i := 0) (nx := 50) C dX7_image_49 rfl rfl rfl ?_
  refine zw_getr (nx := 53) C dX7_image_50 rfl flX7_69 iq6 rfl rfl rfl rfl ?_
  refine zw_iload_n (i := 2) (nx := 54) C dX7_image_53 rfl rfl rfl ?_
  refine zw_iconst (nx := 55) C dX7_image_54 rfl ?_
  refine zw_iadd (nx := 56) C dX7_image_55 rfl ?_
  refine zw_aload_n (i := 0) (nx := 57) C dX7_image_56 rfl rfl rfl ?_
  refine zw_geti (nx := 60) C dX7_image_57 rfl flX7_17 iq6 rfl rfl rfl rfl ?_
  simp only [zU_at, zCp_at, zR_at, zFill_at, Nat.reduceEqDiff, reduceIte, and_self, and_true, true_and, and_false, false_and]
  refine zw_iast ((190 * i + 2)) (nx := 61) C dX7_image_60 rfl rfl rfl rfl (by omega) ?_
  refine zw_aload_n (i := 0) (nx := 62) C dX7_image_61 rfl rfl rfl ?_
  refine zw_getr (nx := 65) C dX7_image_62 rfl flX7_69 iq6 rfl rfl rfl rfl ?_
  refine zw_iload_n (i := 2) (nx := 66) C dX7_image_65 rfl rfl rfl ?_
  refine zw_iconst (nx := 67) C dX7_image_66 rfl ?_
  refine zw_iadd (nx := 68) C dX7_image_67 rfl ?_
  refine zw_aload_n (i := 0) (nx := 69) C dX7_image_68 rfl rfl rfl ?_
  refine zw_geti (nx := 72) C dX7_image_69 rfl flX7_82 iq6 rfl rfl rfl rfl ?_
  simp only [zU_at, zCp_at, zR_at, zFill_at, Nat.reduceEqDiff, reduceIte, and_self, and_true, true_and, and_false, false_and]
  refine zw_iast ((190 * i + 3)) (nx := 73) C dX7_image_72 rfl rfl rfl rfl (by omega) ?_
  refine zw_aload_n (i := 0) (nx := 74) C dX7_image_73 rfl rfl rfl ?_
  refine zw_getr (nx := 77) C dX7_image_74 rfl flX7_69 iq6 rfl rfl rfl rfl ?_
  refine zw_iload_n (i := 2) (nx := 78) C dX7_image_77 rfl rfl rfl ?_
  refine zw_iconst (nx := 79) C dX7_image_78 rfl ?_
  refine zw_iadd (nx := 80) C dX7_image_79 rfl ?_
  refine zw_aload_n (i := 0) (nx := 81) C dX7_image_80 rfl rfl rfl ?_
  refine zw_geti (nx := 84) C dX7_image_81 rfl flX7_85 iq6 rfl rfl rfl rfl ?_
  simp only [zU_at, zCp_at, zR_at, zFill_at, Nat.reduceEqDiff, reduceIte, and_self, and_true, true_and, and_false, false_and]
  refine zw_iast ((190 * i + 4)) (nx := 85) C dX7_image_84 rfl rfl rfl rfl (by omega) ?_
  refine zw_aload_n (i := 0) (nx := 86) C dX7_image_85 rfl rfl rfl ?_
  refine zw_aload_n (i := 0) (nx := 87) C dX7_image_86 rfl rfl rfl ?_
  refine zw_getr (nx := 90) C dX7_image_87 rfl flX7_69 iq6 rfl rfl rfl rfl ?_
  refine zw_iload_n (i := 2) (nx := 91) C dX7_image_90 rfl rfl rfl ?_
  refine zw_iconst (nx := 92) C dX7_image_91 rfl ?_
  refine zw_iadd (nx := 93) C dX7_image_92 rfl ?_
  refine zw_cV20 (nx := 96) C dX7_image_93 rfl cvX7_196 rfl rfl ⟨Nat.le_of_ble_eq_true rfl, Nat.le_of_ble_eq_true rfl⟩ rfl rfl (Nat.le_of_ble_eq_true rfl) (run_X7_lays69 (i := 190 * i + 5) (by omega)) ?_
  refine zw_iconst (nx := 97) C dX7_image_96 rfl ?_
  refine zw_ist3 (nx := 98) C (eIst_n dX7_image_97 rfl rfl) (Nat.le_of_ble_eq_true rfl) rfl ?_
  rw [show zU (zU (zU (zU (zU (zU ζ 70 i 1) 69 (190 * i) (ζ.1 52 1)) 69 (190 * i + 1) (ζ.1 52 2)) 69 (190 * i + 2) (ζ.1 52 3)) 69 (190 * i + 3) (ζ.1 52 4)) 69 (190 * i + 4) (ζ.1 52 24) = mIm1 ζ i from rfl, ← h4]
  exact loop1 5 0 (by omega)
theorem run_X7_from_bad {w : Int} (hw : -2147483648 ≤ w ∧ w ≤ 2147483647) (h : ¬ (0 ≤ w ∧ w ≤ 1)) : zRun l B mX7_from [.ref 52, zi w] ζ (some (zi (-2))) (mBd ζ) := by
  refine zrun_intro (M := mX7_from) (ls := [some (.ref 52), some (zi w), none, none]) (by decide) rfl rfl rfl (Nat.le_of_ble_eq_true rfl) ?_
  intro X A C hX hA hr hk
  replace C : CX X B A mX7_from.2.2.2.2 RX7 cX7_from 4 0 0 := C
  have hr : (xMeth X).sig.returnType = (some .int) := hr
  change ZW X B A 4 0 0 _ _ 0 [some (.ref 52), some (zi w), none, none] []
  refine zw_iload_n (i := 1) (nx := 1) C dX7_from_0 rfl rfl rfl ?_
  refine zw_iconst (nx := 2) C dX7_from_1 rfl ?_
  refine zw_iconst (nx := 3) C dX7_from_2 rfl ?_
  refine zw_cS31 (nx := 6) C dX7_from_3 rfl csX7_88 ⟨Nat.le_of_ble_eq_true rfl, Nat.le_of_ble_eq_true rfl⟩ (Nat.le_of_ble_eq_true rfl) (run_X7_in_f hw (by omega) h) ?_
  refine zw_if_ne (tgt := 14) (nx := 9) C dX7_from_6 rfl rfl (by omega) (fun h6 => by exfalso; omega) (fun h6 => ?_)
  refine zw_aload_n (i := 0) (nx := 10) C dX7_from_9 rfl rfl rfl ?_
  refine zw_cV01 (nx := 13) C dX7_from_10 rfl cvX7_96 rfl rfl ⟨Nat.le_of_ble_eq_true rfl, Nat.le_of_ble_eq_true rfl⟩ rfl rfl (Nat.le_of_ble_eq_true rfl) run_X7_bad ?_
  exact zw_iret C hA hr hk dX7_from_13 rfl rfl
theorem run_X7_from_no {i : Nat} (hi : i < 2) (h : ζ.1 70 i = 0) : zRun l B mX7_from [.ref 52, zi i] ζ (some (zi (-3))) (mNo ζ) := by
  refine zrun_intro (M := mX7_from) (ls := [some (.ref 52), some (zi i), none, none]) (by decide) rfl rfl rfl (Nat.le_of_ble_eq_true rfl) ?_
  intro X A C hX hA hr hk
  replace C : CX X B A mX7_from.2.2.2.2 RX7 cX7_from 4 0 0 := C
  have hr : (xMeth X).sig.returnType = (some .int) := hr
  change ZW X B A 4 0 0 _ _ 0 [some (.ref 52), some (zi i), none, none] []
  refine zw_iload_n (i := 1) (nx := 1) C dX7_from_0 rfl rfl rfl ?_
  refine zw_iconst (nx := 2) C dX7_from_1 rfl ?_
  refine zw_iconst (nx := 3) C dX7_from_2 rfl ?_
  refine zw_cS31 (nx := 6) C dX7_from_3 rfl csX7_88 ⟨Nat.le_of_ble_eq_true rfl, Nat.le_of_ble_eq_true rfl⟩ (Nat.le_of_ble_eq_true rfl) (run_X7_in_t (by omega) (by omega) (by omega)) ?_
  refine zw_if_ne (tgt := 14) (nx := 9) C dX7_from_6 rfl rfl (by omega) (fun h6 => ?_) (fun h6 => by exfalso; omega)
  refine zw_aload_n (i := 0) (nx := 15) C dX7_from_14 rfl rfl rfl ?_
  refine zw_getr (nx := 18) C dX7_from_15 rfl flX7_72 iq6 rfl rfl rfl rfl ?_
  refine zw_iload_n (i := 1) (nx := 19) C dX7_from_18 rfl rfl rfl ?_
  refine zw_iald (i) (nx := 20) C dX7_from_19 rfl rfl rfl rfl (by omega) ?_
  refine zw_if_ne (tgt := 28) (nx := 23) C dX7_from_20 rfl rfl (by omega) (fun h20 => by exfalso; omega) (fun h20 => ?_)
  refine zw_aload_n (i := 0) (nx := 24) C dX7_from_23 rfl rfl rfl ?_
  refine zw_cV01 (nx := 27) C dX7_from_24 rfl cvX7_203 rfl rfl ⟨Nat.le_of_ble_eq_true rfl, Nat.le_of_ble_eq_true rfl⟩ rfl rfl (Nat.le_of_ble_eq_true rfl) run_X7_no ?_
  exact zw_iret C hA hr hk dX7_from_27 rfl rfl
set_option maxHeartbeats 4000000 in
theorem run_X7_from_ok {i : Nat} (hi : i < 2) (h1 : ζ.1 70 i = 1) : zRun l B mX7_from [.ref 52, zi i] ζ (some (zi 1)) (mFro ζ i) := by
  refine zrun_intro (M := mX7_from) (ls := [some (.ref 52), some (zi i), none, none]) (by decide) rfl rfl rfl (Nat.le_of_ble_eq_true rfl) ?_
  intro X A C hX hA hr hk
  replace C : CX X B A mX7_from.2.2.2.2 RX7 cX7_from 4 0 0 := C
  have hr : (xMeth X).sig.returnType = (some .int) := hr
  change ZW X B A 4 0 0 _ _ 0 [some (.ref 52), some (zi i), none, none] []
  obtain ⟨ζ4, h4⟩ : ∃ z, z = mTak (mFr1 ζ i) 69 (190 * i + 5) 5 := ⟨_, rfl⟩
  obtain ⟨ζ5, h5⟩ : ∃ z, z = cpI ζ4 55 69 (190 * i + 20) 5 := ⟨_, rfl⟩
  obtain ⟨ζ6, h6⟩ : ∃ z, z = cpI ζ5 54 69 (190 * i + 25) 8 := ⟨_, rfl⟩
  obtain ⟨ζ7, h7⟩ : ∃ z, z = nI' ζ6 (190 * i) 6 := ⟨_, rfl⟩
  have eF : mFro ζ i = cpI ζ7 66 69 (190 * i + 57) 120 := by rw [h7, h6, h5, h4]; rfl
  rw [eF]
  have loop4 : ∀ k j : Nat, j + k = 120 → ZW X B A 4 0 0 (eFin X B (some (zi 1)) (zz (cpI ζ7 66 69 (190 * i + 57) 120))) (cpI ζ7 66 69 (190 * i + 57) j) 248 [some (.ref 52), some (zi i), some (zi (190 * i)), some (zi j)] [] := by
    intro k
    induction k with
    | zero =>
      intro j hj
      have e : j = 120 := by omega
      subst e
      refine zw_iload_n (i := 3) (nx := 249) C dX7_from_248 rfl rfl rfl ?_
      refine zw_bipush (v := 120) (nx := 251) C dX7_from_249 (by decide) rfl ?_
      refine zw_icmp_ge (tgt := 277) (nx := 254) C dX7_from_251 rfl rfl (by omega) (fun h251 => ?_) (fun h251 => by exfalso; omega)
      refine zw_iconst (nx := 278) C dX7_from_277 rfl ?_
      exact zw_iret C hA hr hk dX7_from_278 rfl rfl
    | succ k ih =>
      intro j hj
      refine zw_iload_n (i := 3) (nx := 249) C dX7_from_248 rfl rfl rfl ?_
      refine zw_bipush (v := 120) (nx := 251) C dX7_from_249 (by decide) rfl ?_
      refine zw_icmp_ge (tgt := 277) (nx := 254) C dX7_from_251 rfl rfl (by omega) (fun h251 => by exfalso; omega) (fun h251 => ?_)
      refine zw_aload_n (i := 0) (nx := 255) C dX7_from_254 rfl rfl rfl ?_
      refine zw_getr (nx := 258) C dX7_from_255 rfl flX7_56 iq6 rfl rfl rfl rfl ?_
      refine zw_iload_n (i := 3) (nx := 259) C dX7_from_258 rfl rfl rfl ?_
      refine zw_aload_n (i := 0) (nx := 260) C dX7_from_259 rfl rfl rfl ?_
      refine zw_getr (nx := 263) C dX7_from_260 rfl flX7_69 iq6 rfl rfl rfl rfl ?_
      refine zw_iload_n (i := 2) (nx := 264) C dX7_from_263 rfl rfl rfl ?_
      refine zw_bipush (v := 57) (nx := 266) C dX7_from_264 (by decide) rfl ?_
      refine zw_iadd (nx := 267) C dX7_from_266 rfl ?_
      refine zw_iload_n (i := 3) (nx := 268) C dX7_from_267 rfl rfl rfl ?_
      refine zw_iadd (nx := 269) C dX7_from_268 rfl ?_
      refine zw_iald ((190 * i + 57 + j)) (nx := 270) C dX7_from_269 rfl rfl rfl rfl (by omega) ?_
      refine zw_iast (j) (nx := 271) C dX7_from_270 rfl rfl rfl rfl (by omega) ?_
      refine zw_iinc3 (nx := 274) C dX7_from_271 rfl (Nat.le_of_ble_eq_true rfl) rfl ?_
      refine zw_goto (nx := 248) C dX7_from_274 rfl ?_
      exact ih (j + 1) (by omega)
  have loop3 : ∀ k j : Nat, j + k = 6 → ZW X B A 4 0 0 (eFin X B (some (zi 1)) (zz (cpI ζ7 66 69 (190 * i + 57) 120))) (nI' ζ6 (190 * i) j) 166 [some (.ref 52), some (zi i), some (zi (190 * i)), some (zi j)] [] := by
    intro k
    induction k with
    | zero =>
      intro j hj
      have e : j = 6 := by omega
      subst e
      refine zw_iload_n (i := 3) (nx := 167) C dX7_from_166 rfl rfl rfl ?_
      refine zw_bipush (v := 6) (nx := 169) C dX7_from_167 (by decide) rfl ?_
      refine zw_icmp_ge (tgt := 246) (nx := 172) C dX7_from_169 rfl rfl (by omega) (fun h169 => ?_) (fun h169 => by exfalso; omega)
      refine zw_iconst (nx := 247) C dX7_from_246 rfl ?_
      refine zw_ist3 (nx := 248) C (eIst_n dX7_from_247 rfl rfl) (Nat.le_of_ble_eq_true rfl) rfl ?_
      rw [← h7]
      exact loop4 120 0 (by omega)
    | succ k ih =>
      intro j hj
      refine zw_iload_n (i := 3) (nx := 167) C dX7_from_166 rfl rfl rfl ?_
      refine zw_bipush (v := 6) (nx := 169) C dX7_from_167 (by decide) rfl ?_
      refine zw_icmp_ge (tgt := 246) (nx := 172) C dX7_from_169 rfl rfl (by omega) (fun h169 => by exfalso; omega) (fun h169 => ?_)
      refine zw_aload_n (i := 0) (nx := 173) C dX7_from_172 rfl rfl rfl ?_
      refine zw_getr (nx := 176) C dX7_from_173 rfl flX7_35 iq6 rfl rfl rfl rfl ?_
      refine zw_iload_n (i := 3) (nx := 177) C dX7_from_176 rfl rfl rfl ?_
      refine zw_aload_n (i := 0) (nx := 178) C dX7_from_177 rfl rfl rfl ?_
      refine zw_getr (nx := 181) C dX7_from_178 rfl flX7_69 iq6 rfl rfl rfl rfl ?_
      refine zw_iload_n (i := 2) (nx := 182) C dX7_from_181 rfl rfl rfl ?_
      refine zw_bipush (v := 33) (nx := 184) C dX7_from_182 (by decide) rfl ?_
      refine zw_iadd (nx := 185) C dX7_from_184 rfl ?_
      refine zw_iload_n (i := 3) (nx := 186) C dX7_from_185 rfl rfl rfl ?_
      refine zw_iadd (nx := 187) C dX7_from_186 rfl ?_
      refine zw_iald ((190 * i + 33 + j)) (nx := 188) C dX7_from_187 rfl rfl rfl rfl (by omega) ?_
      refine zw_iast (j) (nx := 189) C dX7_from_188 rfl rfl rfl rfl (by omega) ?_
      refine zw_aload_n (i := 0) (nx := 190) C dX7_from_189 rfl rfl rfl ?_
      refine zw_getr (nx := 193) C dX7_from_190 rfl flX7_38 iq6 rfl rfl rfl rfl ?_
      refine zw_iload_n (i := 3) (nx := 194) C dX7_from_193 rfl rfl rfl ?_
      refine zw_aload_n (i := 0) (nx := 195) C dX7_from_194 rfl rfl rfl ?_
      refine zw_getr (nx := 198) C dX7_from_195 rfl flX7_69 iq6 rfl rfl rfl rfl ?_
      refine zw_iload_n (i := 2) (nx := 199) C dX7_from_198 rfl rfl rfl ?_
      refine zw_bipush (v := 39) (nx := 201) C dX7_from_199 (by decide) rfl ?_
      refine zw_iadd (nx := 202) C dX7_from_201 rfl ?_
      refine zw_iload_n (i := 3) (nx := 203) C dX7_from_202 rfl rfl rfl ?_
      refine zw_iadd (nx := 204) C dX7_from_203 rfl ?_
      refine zw_iald ((190 * i + 39 + j)) (nx := 205) C dX7_from_204 rfl rfl rfl rfl (by omega) ?_
      simp only [zU_at, zCp_at, zR_at, zFill_at, Nat.reduceEqDiff, reduceIte, and_self, and_true, true_and, and_false, false_and]
      refine zw_iast (j) (nx := 206) C dX7_from_205 rfl rfl rfl rfl (by omega) ?_
      refine zw_aload_n (i := 0) (nx := 207) C dX7_from_206 rfl rfl rfl ?_
      refine zw_getr (nx := 210) C dX7_from_207 rfl flX7_41 iq6 rfl rfl rfl rfl ?_
      refine zw_iload_n (i := 3) (nx := 211) C dX7_from_210 rfl rfl rfl ?_
      refine zw_aload_n (i := 0) (nx := 212) C dX7_from_211 rfl rfl rfl ?_
      refine zw_getr (nx := 215) C dX7_from_212 rfl flX7_69 iq6 rfl rfl rfl rfl ?_
      refine zw_iload_n (i := 2) (nx := 216) C dX7_from_215 rfl rfl rfl ?_
      refine zw_bipush (v := 45) (nx := 218) C dX7_from_216 (by decide) rfl ?_
      refine zw_iadd (nx := 219) C dX7_from_218 rfl ?_
      refine zw_iload_n (i := 3) (nx := 220) C dX7_from_219 rfl rfl rfl ?_
      refine zw_iadd (nx := 221) C dX7_from_220 rfl ?_
      refine zw_iald ((190 * i + 45 + j)) (nx := 222) C dX7_from_221 rfl rfl rfl rfl (by omega) ?_
      simp only [zU_at, zCp_at, zR_at, zFill_at, Nat.reduceEqDiff, reduceIte, and_self, and_true, true_and, and_false, false_and]
      refine zw_iast (j) (nx := 223) C dX7_from_222 rfl rfl rfl rfl (by omega) ?_
      refine zw_aload_n (i := 0) (nx := 224) C dX7_from_223 rfl rfl rfl ?_
      refine zw_getr (nx := 227) C dX7_from_224 rfl flX7_44 iq6 rfl rfl rfl rfl ?_
      refine zw_iload_n (i := 3) (nx := 228) C dX7_from_227 rfl rfl rfl ?_
      refine zw_aload_n (i := 0) (nx := 229) C dX7_from_228 rfl rfl rfl ?_
      refine zw_getr (nx := 232) C dX7_from_229 rfl flX7_69 iq6 rfl rfl rfl rfl ?_
      refine zw_iload_n (i := 2) (nx := 233) C dX7_from_232 rfl rfl rfl ?_
      refine zw_bipush (v := 51) (nx := 235) C dX7_from_233 (by decide) rfl ?_
      refine zw_iadd (nx := 236) C dX7_from_235 rfl ?_
      refine zw_iload_n (i := 3) (nx := 237) C dX7_from_236 rfl rfl rfl ?_
      refine zw_iadd (nx := 238) C dX7_from_237 rfl ?_
      refine zw_iald ((190 * i + 51 + j)) (nx := 239) C dX7_from_238 rfl rfl rfl rfl (by omega) ?_
      simp only [zU_at, zCp_at, zR_at, zFill_at, Nat.reduceEqDiff, reduceIte, and_self, and_true, true_and, and_false, false_and]
      refine zw_iast (j) (nx := 240) C dX7_from_239 rfl rfl rfl rfl (by omega) ?_
      refine zw_iinc3 (nx := 243) C dX7_from_240 rfl (Nat.le_of_ble_eq_true rfl) rfl ?_
      refine zw_goto (nx := 166) C dX7_from_243 rfl ?_
      exact ih (j + 1) (by omega)
  have loop2 : ∀ k j : Nat, j + k = 8 → ZW X B A 4 0 0 (eFin X B (some (zi 1)) (zz (cpI ζ7 66 69 (190 * i + 57) 120))) (cpI ζ5 54 69 (190 * i + 25) j) 135 [some (.ref 52), some (zi i), some (zi (190 * i)), some (zi j)] [] := by
    intro k
    induction k with
    | zero =>
      intro j hj
      have e : j = 8 := by omega
      subst e
      refine zw_iload_n (i := 3) (nx := 136) C dX7_from_135 rfl rfl rfl ?_
      refine zw_bipush (v := 8) (nx := 138) C dX7_from_136 (by decide) rfl ?_
      refine zw_icmp_ge (tgt := 164) (nx := 141) C dX7_from_138 rfl rfl (by omega) (fun h138 => ?_) (fun h138 => by exfalso; omega)
      refine zw_iconst (nx := 165) C dX7_from_164 rfl ?_
      refine zw_ist3 (nx := 166) C (eIst_n dX7_from_165 rfl rfl) (Nat.le_of_ble_eq_true rfl) rfl ?_
      rw [← h6]
      exact loop3 6 0 (by omega)
    | succ k ih =>
      intro j hj
      refine zw_iload_n (i := 3) (nx := 136) C dX7_from_135 rfl rfl rfl ?_
      refine zw_bipush (v := 8) (nx := 138) C dX7_from_136 (by decide) rfl ?_
      refine zw_icmp_ge (tgt := 164) (nx := 141) C dX7_from_138 rfl rfl (by omega) (fun h138 => by exfalso; omega) (fun h138 => ?_)
      refine zw_aload_n (i := 0) (nx := 142) C dX7_from_141 rfl rfl rfl ?_
      refine zw_getr (nx := 145) C dX7_from_142 rfl flX7_20 iq6 rfl rfl rfl rfl ?_
      refine zw_iload_n (i := 3) (nx := 146) C dX7_from_145 rfl rfl rfl ?_
      refine zw_aload_n (i := 0) (nx := 147) C dX7_from_146 rfl rfl rfl ?_
      refine zw_getr (nx := 150) C dX7_from_147 rfl flX7_69 iq6 rfl rfl rfl rfl ?_
      refine zw_iload_n (i := 2) (nx := 151) C dX7_from_150 rfl rfl rfl ?_
      refine zw_bipush (v := 25) (nx := 153) C dX7_from_151 (by decide) rfl ?_
      refine zw_iadd (nx := 154) C dX7_from_153 rfl ?_
      refine zw_iload_n (i := 3) (nx := 155) C dX7_from_154 rfl rfl rfl ?_
      refine zw_iadd (nx := 156) C dX7_from_155 rfl ?_
      refine zw_iald ((190 * i + 25 + j)) (nx := 157) C dX7_from_156 rfl rfl rfl rfl (by omega) ?_
      refine zw_iast (j) (nx := 158) C dX7_from_157 rfl rfl rfl rfl (by omega) ?_
      refine zw_iinc3 (nx := 161) C dX7_from_158 rfl (Nat.le_of_ble_eq_true rfl) rfl ?_
      refine zw_goto (nx := 135) C dX7_from_161 rfl ?_
      exact ih (j + 1) (by omega)
  have loop1 : ∀ k j : Nat, j + k = 5 → ZW X B A 4 0 0 (eFin X B (some (zi 1)) (zz (cpI ζ7 66 69 (190 * i + 57) 120))) (cpI ζ4 55 69 (190 * i + 20) j) 105 [some (.ref 52), some (zi i), some (zi (190 * i)), some (zi j)] [] := by
    intro k
    induction k with
    | zero =>
      intro j hj
      have e : j = 5 := by omega
      subst e
      refine zw_iload_n (i := 3) (nx := 106) C dX7_from_105 rfl rfl rfl ?_
      refine zw_iconst (nx := 107) C dX7_from_106 rfl ?_
      refine zw_icmp_ge (tgt := 133) (nx := 110) C dX7_from_107 rfl rfl (by omega) (fun h107 => ?_) (fun h107 => by exfalso; omega)
      refine zw_iconst (nx := 134) C dX7_from_133 rfl ?_
      refine zw_ist3 (nx := 135) C (eIst_n dX7_from_134 rfl rfl) (Nat.le_of_ble_eq_true rfl) rfl ?_
      rw [← h5]
      exact loop2 8 0 (by omega)
    | succ k ih =>
      intro j hj
      refine zw_iload_n (i := 3) (nx := 106) C dX7_from_105 rfl rfl rfl ?_
      refine zw_iconst (nx := 107) C dX7_from_106 rfl ?_
      refine zw_icmp_ge (tgt := 133) (nx := 110) C dX7_from_107 rfl rfl (by omega) (fun h107 => by exfalso; omega) (fun h107 => ?_)
      refine zw_aload_n (i := 0) (nx := 111) C dX7_from_110 rfl rfl rfl ?_
      refine zw_getr (nx := 114) C dX7_from_111 rfl flX7_23 iq6 rfl rfl rfl rfl ?_
      refine zw_iload_n (i := 3) (nx := 115) C dX7_from_114 rfl rfl rfl ?_
      refine zw_aload_n (i := 0) (nx := 116) C dX7_from_115 rfl rfl rfl ?_
      refine zw_getr (nx := 119) C dX7_from_116 rfl flX7_69 iq6 rfl rfl rfl rfl ?_
      refine zw_iload_n (i := 2) (nx := 120) C dX7_from_119 rfl rfl rfl ?_
      refine zw_bipush (v := 20) (nx := 122) C dX7_from_120 (by decide) rfl ?_
      refine zw_iadd (nx := 123) C dX7_from_122 rfl ?_
      refine zw_iload_n (i := 3) (nx := 124) C dX7_from_123 rfl rfl rfl ?_
      refine zw_iadd (nx := 125) C dX7_from_124 rfl ?_
      refine zw_iald ((190 * i + 20 + j)) (nx := 126) C dX7_from_125 rfl rfl rfl rfl (by omega) ?_
      refine zw_iast (j) (nx := 127) C dX7_from_126 rfl rfl rfl rfl (by omega) ?_
      refine zw_iinc3 (nx := 130) C dX7_from_127 rfl (Nat.le_of_ble_eq_true rfl) rfl ?_
      refine zw_goto (nx := 105) C dX7_from_130 rfl ?_
      exact ih (j + 1) (by omega)
  refine zw_iload_n (i := 1) (nx := 1) C dX7_from_0 rfl rfl rfl ?_
  refine zw_iconst (nx := 2) C dX7_from_1 rfl ?_
  refine zw_iconst (nx := 3) C dX7_from_2 rfl ?_
  refine zw_cS31 (nx := 6) C dX7_from_3 rfl csX7_88 ⟨Nat.le_of_ble_eq_true rfl, Nat.le_of_ble_eq_true rfl⟩ (Nat.le_of_ble_eq_true rfl) (run_X7_in_t (by omega) (by omega) (by omega)) ?_
  refine zw_if_ne (tgt := 14) (nx := 9) C dX7_from_6 rfl rfl (by omega) (fun h6 => ?_) (fun h6 => by exfalso; omega)
  refine zw_aload_n (i := 0) (nx := 15) C dX7_from_14 rfl rfl rfl ?_
  refine zw_getr (nx := 18) C dX7_from_15 rfl flX7_72 iq6 rfl rfl rfl rfl ?_
  refine zw_iload_n (i := 1) (nx := 19) C dX7_from_18 rfl rfl rfl ?_
  refine zw_iald (i) (nx := 20) C dX7_from_19 rfl rfl rfl rfl (by omega) ?_
  refine zw_if_ne (tgt := 28) (nx := 23) C dX7_from_20 rfl rfl (by omega) (fun h20 => ?_) (fun h20 => by exfalso; omega)
  refine zw_sipush (v := 190) (nx := 31) C dX7_from_28 (by decide) rfl ?_
  refine zw_iload_n (i := 1) (nx := 32) C dX7_from_31 rfl rfl rfl ?_
  refine zw_imul (nx := 33) C dX7_from_32 rfl ?_
  refine zw_ist2 (nx := 34) C (eIst_n dX7_from_33 rfl rfl) (Nat.le_of_ble_eq_true rfl) rfl ?_
  refine zw_aload_n (i := 0) (nx := 35) C dX7_from_34 rfl rfl rfl ?_
  refine zw_aload_n (i := 0) (nx := 36) C dX7_from_35 rfl rfl rfl ?_
  refine zw_getr (nx := 39) C dX7_from_36 rfl flX7_69 iq6 rfl rfl rfl rfl ?_
  refine zw_iload_n (i := 2) (nx := 40) C dX7_from_39 rfl rfl rfl ?_
  refine zw_iald ((190 * i)) (nx := 41) C dX7_from_40 rfl rfl rfl rfl (by omega) ?_
  refine zw_puti (nx := 44) C dX7_from_41 rfl flX7_79 ic6 nf6_1 rfl rfl rfl rfl rfl ?_
  refine zw_aload_n (i := 0) (nx := 45) C dX7_from_44 rfl rfl rfl ?_
  refine zw_aload_n (i := 0) (nx := 46) C dX7_from_45 rfl rfl rfl ?_
  refine zw_getr (nx := 49) C dX7_from_46 rfl flX7_69 iq6 rfl rfl rfl rfl ?_
  refine zw_iload_n (i := 2) (nx := 50) C dX7_from_49 rfl rfl rfl ?_
  refine zw_iconst (nx := 51) C dX7_from_50 rfl ?_
  refine zw_iadd (nx := 52) C dX7_from_51 rfl ?_
  refine zw_iald ((190 * i + 1)) (nx := 53) C dX7_from_52 rfl rfl rfl rfl (by omega) ?_
  simp only [zU_at, zCp_at, zR_at, zFill_at, Nat.reduceEqDiff, reduceIte, and_self, and_true, true_and, and_false, false_and]
  refine zw_puti (nx := 56) C dX7_from_53 rfl flX7_13 ic6 nf6_2 rfl rfl rfl rfl rfl ?_
  refine zw_aload_n (i := 0) (nx := 57) C dX7_from_56 rfl rfl rfl ?_
  refine zw_aload_n (i := 0) (nx := 58) C dX7_from_57 rfl rfl rfl ?_
  refine zw_getr (nx := 61) C dX7_from_58 rfl flX7_69 iq6 rfl rfl rfl rfl ?_
  refine zw_iload_n (i := 2) (nx := 62) C dX7_from_61 rfl rfl rfl ?_
  refine zw_iconst (nx := 63) C dX7_from_62 rfl ?_
  refine zw_iadd (nx := 64) C dX7_from_63 rfl ?_
  refine zw_iald ((190 * i + 2)) (nx := 65) C dX7_from_64 rfl rfl rfl rfl (by omega) ?_
  simp only [zU_at, zCp_at, zR_at, zFill_at, Nat.reduceEqDiff, reduceIte, and_self, and_true, true_and, and_false, false_and]
  refine zw_puti (nx := 68) C dX7_from_65 rfl flX7_17 ic6 nf6_3 rfl rfl rfl rfl rfl ?_
  refine zw_aload_n (i := 0) (nx := 69) C dX7_from_68 rfl rfl rfl ?_
  refine zw_aload_n (i := 0) (nx := 70) C dX7_from_69 rfl rfl rfl ?_
  refine zw_getr (nx := 73) C dX7_from_70 rfl flX7_69 iq6 rfl rfl rfl rfl ?_
  refine zw_iload_n (i := 2) (nx := 74) C dX7_from_73 rfl rfl rfl ?_
  refine zw_iconst (nx := 75) C dX7_from_74 rfl ?_
  refine zw_iadd (nx := 76) C dX7_from_75 rfl ?_
  refine zw_iald ((190 * i + 3)) (nx := 77) C dX7_from_76 rfl rfl rfl rfl (by omega) ?_
  simp only [zU_at, zCp_at, zR_at, zFill_at, Nat.reduceEqDiff, reduceIte, and_self, and_true, true_and, and_false, false_and]
  refine zw_puti (nx := 80) C dX7_from_77 rfl flX7_82 ic6 nf6_4 rfl rfl rfl rfl rfl ?_
  refine zw_aload_n (i := 0) (nx := 81) C dX7_from_80 rfl rfl rfl ?_
  refine zw_aload_n (i := 0) (nx := 82) C dX7_from_81 rfl rfl rfl ?_
  refine zw_getr (nx := 85) C dX7_from_82 rfl flX7_69 iq6 rfl rfl rfl rfl ?_
  refine zw_iload_n (i := 2) (nx := 86) C dX7_from_85 rfl rfl rfl ?_
  refine zw_iconst (nx := 87) C dX7_from_86 rfl ?_
  refine zw_iadd (nx := 88) C dX7_from_87 rfl ?_
  refine zw_iald ((190 * i + 4)) (nx := 89) C dX7_from_88 rfl rfl rfl rfl (by omega) ?_
  simp only [zU_at, zCp_at, zR_at, zFill_at, Nat.reduceEqDiff, reduceIte, and_self, and_true, true_and, and_false, false_and]
  refine zw_puti (nx := 92) C dX7_from_89 rfl flX7_85 ic6 nf6_24 rfl rfl rfl rfl rfl ?_
  refine zw_aload_n (i := 0) (nx := 93) C dX7_from_92 rfl rfl rfl ?_
  refine zw_aload_n (i := 0) (nx := 94) C dX7_from_93 rfl rfl rfl ?_
  refine zw_getr (nx := 97) C dX7_from_94 rfl flX7_69 iq6 rfl rfl rfl rfl ?_
  refine zw_iload_n (i := 2) (nx := 98) C dX7_from_97 rfl rfl rfl ?_
  refine zw_iconst (nx := 99) C dX7_from_98 rfl ?_
  refine zw_iadd (nx := 100) C dX7_from_99 rfl ?_
  refine zw_cV20 (nx := 103) C dX7_from_100 rfl cvX7_215 rfl rfl ⟨Nat.le_of_ble_eq_true rfl, Nat.le_of_ble_eq_true rfl⟩ rfl rfl (Nat.le_of_ble_eq_true rfl) (run_X7_takes69 (i := 190 * i + 5) (by omega)) ?_
  refine zw_iconst (nx := 104) C dX7_from_103 rfl ?_
  refine zw_ist3 (nx := 105) C (eIst_n dX7_from_104 rfl rfl) (Nat.le_of_ble_eq_true rfl) rfl ?_
  rw [show zU (zU (zU (zU (zU ζ 52 1 (ζ.1 69 (190 * i))) 52 2 (ζ.1 69 (190 * i + 1))) 52 3 (ζ.1 69 (190 * i + 2))) 52 4 (ζ.1 69 (190 * i + 3))) 52 24 (ζ.1 69 (190 * i + 4)) = mFr1 ζ i from rfl, ← h4]
  exact loop1 5 0 (by omega)
end Model4
