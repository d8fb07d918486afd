/-! the class's public methods, 2 -/
def sAm (ok : Nat → Bool) (f : Nat → Int) (z : Int × Int) : Nat → Int × Int
  | 0 => z
  | p + 1 => if ok p = true ∧ (sAm ok f z p).2 < f p then ((p : Int), f p) else sAm ok f z p
def sGain (V : Nat → Nat → Int) (n p y : Nat) : Int := sWin V n p y - sSum (sHurt V n p y) n
def sBst (V : Nat → Nat → Int) (n p : Nat) : Int × Int := sAm (fun y => sOpn V n p y) (sGain V n p) (-1, -10000) 8
def sMvH (V : Nat → Nat → Int) (n p : Nat) : Int := sSum (sHurt V n p (V 5 p).toNat) n
def sMov (V : Nat → Nat → Int) (n k : Nat) : Int × Int := sAm (fun p => decide (V 5 p ≠ -1)) (sMvH V n) (-1, -1) k
def cCnt (ζ : zSt) (n k : Nat) : Int := match k with
  | 0 => n
  | 1 => sFree (cV ζ) n
  | 2 => sSum (sNow (cV ζ) n) n
  | 3 => sSum (cV ζ 4) n
  | 4 => ζ.1 1 9
  | 5 => ζ.1 1 11
  | _ => ζ.1 39 1
theorem sSum_bd {f : Nat → Int} {M : Int} (hM : 0 ≤ M) : ∀ n : Nat, (∀ q, q < n → 0 ≤ f q ∧ f q ≤ M) → 0 ≤ sSum f n ∧ sSum f n ≤ M * n
  | 0, _ => ⟨Int.le_refl 0, by show (0 : Int) ≤ M * 0; rw [Int.mul_zero]; exact Int.le_refl 0⟩
  | n + 1, h => by
    have ih := sSum_bd hM n (fun q hq => h q (by omega))
    have hn := h n (by omega)
    show 0 ≤ sSum f n + f n ∧ sSum f n + f n ≤ M * ((n + 1 : Nat) : Int)
    rw [show ((n + 1 : Nat) : Int) = (n : Int) + 1 from rfl, Int.mul_add, Int.mul_one]
    omega
theorem vOk.hurt {V : Nat → Nat → Int} {n : Nat} (h : vOk V n) (p y : Nat) : 0 ≤ sSum (sHurt V n p y) n ∧ sSum (sHurt V n p y) n ≤ 1200 := by
  have := sSum_bd (f := sHurt V n p y) (M := 240) (by decide) n (fun q _ => by
    have := h.dk (V 5 q)
    unfold sHurt; split <;> omega)
  have hn := h.1
  have : (240 : Int) * n ≤ 240 * 5 := by omega
  omega
theorem sFree_bd (V : Nat → Nat → Int) : ∀ n : Nat, 8 - (n : Int) ≤ sFree V n ∧ sFree V n ≤ 8
  | 0 => ⟨Int.le_refl 8, Int.le_refl 8⟩
  | n + 1 => by
    have := sFree_bd V n
    unfold sFree
    split <;> omega
section Pub2
variable {l : Launch} {B : eB} {ζ : zSt}
theorem run_X6_of_bad {n : Nat} (hn : n ≤ 5) (hn3 : ζ.1 1 3 = n) {p w : Int} (hp : -2147483648 ≤ p ∧ p ≤ 2147483647) (hw : -2147483648 ≤ w ∧ w ≤ 2147483647) (h : ¬ ((0 ≤ p ∧ p < n) ∧ (0 ≤ w ∧ w ≤ 4))) : zRun l B mX6_of [.ref 0, zi p, zi w] ζ (some (zi (-10))) (bdS ζ) := by
  refine zrun_intro (M := mX6_of) (ls := [some (.ref 0), some (zi p), some (zi w)]) (by decide) rfl rfl rfl (Nat.le_of_ble_eq_true rfl) ?_
  intro X A C hX hA hr hk
  replace C : CX X B A mX6_of.2.2.2.2 RX6 cX6_of 3 0 0 := C
  have hr : (xMeth X).sig.returnType = (some .int) := hr
  change ZW X B A 3 0 0 _ _ 0 [some (.ref 0), some (zi p), some (zi w)] []
  by_cases h1 : 0 ≤ p ∧ p < n
  · refine zw_aload_n (i := 0) (nx := 1) C dX6_of_0 rfl rfl rfl ?_
    refine zw_iload_n (i := 1) (nx := 2) C dX6_of_1 rfl rfl rfl ?_
    refine zw_cV11 (nx := 5) C dX6_of_2 rfl cvX6_151 rfl rfl ⟨Nat.le_of_ble_eq_true rfl, Nat.le_of_ble_eq_true rfl⟩ rfl rfl (Nat.le_of_ble_eq_true rfl) (run_X6_isBidder_t hn hn3 h1) ?_
    refine zw_if_ne (tgt := 15) (nx := 8) C dX6_of_5 rfl rfl (by omega) (fun h5 => ?_) (fun h5 => by exfalso; omega)
    refine zw_iload_n (i := 2) (nx := 16) C dX6_of_15 rfl rfl rfl ?_
    refine zw_tableOut (nx := 102) C dX6_of_16 (by omega) (by omega) rfl ?_
    refine zw_aload_n (i := 0) (nx := 103) C dX6_of_102 rfl rfl rfl ?_
    refine zw_bipush (v := -10) (nx := 105) C dX6_of_103 (by decide) rfl ?_
    refine zw_cV11 (nx := 108) C dX6_of_105 rfl cvX6_71 rfl rfl ⟨Nat.le_of_ble_eq_true rfl, Nat.le_of_ble_eq_true rfl⟩ rfl rfl (Nat.le_of_ble_eq_true rfl) run_X6_bad ?_
    exact zw_iret C hA hr hk dX6_of_108 rfl rfl
  · refine zw_aload_n (i := 0) (nx := 1) C dX6_of_0 rfl rfl rfl ?_
    refine zw_iload_n (i := 1) (nx := 2) C dX6_of_1 rfl rfl rfl ?_
    refine zw_cV11 (nx := 5) C dX6_of_2 rfl cvX6_151 rfl rfl ⟨Nat.le_of_ble_eq_true rfl, Nat.le_of_ble_eq_true rfl⟩ rfl rfl (Nat.le_of_ble_eq_true rfl) (run_X6_isBidder_f hn hn3 hp h1) ?_
    refine zw_if_ne (tgt := 15) (nx := 8) C dX6_of_5 rfl rfl (by omega) (fun h5 => by exfalso; omega) (fun h5 => ?_)
    refine zw_aload_n (i := 0) (nx := 9) C dX6_of_8 rfl rfl rfl ?_
    refine zw_bipush (v := -10) (nx := 11) C dX6_of_9 (by decide) rfl ?_
    refine zw_cV11 (nx := 14) C dX6_of_11 rfl cvX6_71 rfl rfl ⟨Nat.le_of_ble_eq_true rfl, Nat.le_of_ble_eq_true rfl⟩ rfl rfl (Nat.le_of_ble_eq_true rfl) run_X6_bad ?_
    exact zw_iret C hA hr hk dX6_of_14 rfl rfl
theorem run_X6_of_0 {n p : Nat} (hn : n ≤ 5) (hn3 : ζ.1 1 3 = n) (hp : p < n) : zRun l B mX6_of [.ref 0, zi p, zi 0] ζ (some (zi (ζ.1 3 p))) ζ := by
  refine zrun_intro (M := mX6_of) (ls := [some (.ref 0), some (zi p), some (zi 0)]) (by decide) rfl rfl rfl (Nat.le_of_ble_eq_true rfl) ?_
  intro X A C hX hA hr hk
  replace C : CX X B A mX6_of.2.2.2.2 RX6 cX6_of 3 0 0 := C
  have hr : (xMeth X).sig.returnType = (some .int) := hr
  change ZW X B A 3 0 0 _ _ 0 [some (.ref 0), some (zi p), some (zi 0)] []
  refine zw_aload_n (i := 0) (nx := 1) C dX6_of_0 rfl rfl rfl ?_
  refine zw_iload_n (i := 1) (nx := 2) C dX6_of_1 rfl rfl rfl ?_
  refine zw_cV11 (nx := 5) C dX6_of_2 rfl cvX6_151 rfl rfl ⟨Nat.le_of_ble_eq_true rfl, Nat.le_of_ble_eq_true rfl⟩ rfl rfl (Nat.le_of_ble_eq_true rfl) (run_X6_isBidder_t hn hn3 (by omega)) ?_
  refine zw_if_ne (tgt := 15) (nx := 8) C dX6_of_5 rfl rfl (by omega) (fun h5 => ?_) (fun h5 => by exfalso; omega)
  refine zw_iload_n (i := 2) (nx := 16) C dX6_of_15 rfl rfl rfl ?_
  refine zw_tableIn (nx := 52) C dX6_of_16 (by omega) (by omega) (by omega) rfl rfl ?_
  refine zw_aload_n (i := 0) (nx := 53) C dX6_of_52 rfl rfl rfl ?_
  refine zw_getr (nx := 56) C dX6_of_53 rfl flX6_12 iq5 rfl rfl rfl rfl ?_
  refine zw_getr (nx := 59) C dX6_of_56 rfl flX6_160 iq2 rfl rfl rfl rfl ?_
  refine zw_iload_n (i := 1) (nx := 60) C dX6_of_59 rfl rfl rfl ?_
  refine zw_iald (p) (nx := 61) C dX6_of_60 rfl rfl rfl rfl (by omega) ?_
  exact zw_iret C hA hr hk dX6_of_61 rfl rfl
theorem run_X6_of_1 {n p : Nat} (hn : n ≤ 5) (hn3 : ζ.1 1 3 = n) (hp : p < n) : zRun l B mX6_of [.ref 0, zi p, zi 1] ζ (some (zi (ζ.1 5 p))) ζ := by
  refine zrun_intro (M := mX6_of) (ls := [some (.ref 0), some (zi p), some (zi 1)]) (by decide) rfl rfl rfl (Nat.le_of_ble_eq_true rfl) ?_
  intro X A C hX hA hr hk
  replace C : CX X B A mX6_of.2.2.2.2 RX6 cX6_of 3 0 0 := C
  have hr : (xMeth X).sig.returnType = (some .int) := hr
  change ZW X B A 3 0 0 _ _ 0 [some (.ref 0), some (zi p), some (zi 1)] []
  refine zw_aload_n (i := 0) (nx := 1) C dX6_of_0 rfl rfl rfl ?_
  refine zw_iload_n (i := 1) (nx := 2) C dX6_of_1 rfl rfl rfl ?_
  refine zw_cV11 (nx := 5) C dX6_of_2 rfl cvX6_151 rfl rfl ⟨Nat.le_of_ble_eq_true rfl, Nat.le_of_ble_eq_true rfl⟩ rfl rfl (Nat.le_of_ble_eq_true rfl) (run_X6_isBidder_t hn hn3 (by omega)) ?_
  refine zw_if_ne (tgt := 15) (nx := 8) C dX6_of_5 rfl rfl (by omega) (fun h5 => ?_) (fun h5 => by exfalso; omega)
  refine zw_iload_n (i := 2) (nx := 16) C dX6_of_15 rfl rfl rfl ?_
  refine zw_tableIn (nx := 62) C dX6_of_16 (by omega) (by omega) (by omega) rfl rfl ?_
  refine zw_aload_n (i := 0) (nx := 63) C dX6_of_62 rfl rfl rfl ?_
  refine zw_getr (nx := 66) C dX6_of_63 rfl flX6_12 iq5 rfl rfl rfl rfl ?_
  refine zw_getr (nx := 69) C dX6_of_66 rfl flX6_142 iq2 rfl rfl rfl rfl ?_
  refine zw_iload_n (i := 1) (nx := 70) C dX6_of_69 rfl rfl rfl ?_
  refine zw_iald (p) (nx := 71) C dX6_of_70 rfl rfl rfl rfl (by omega) ?_
  exact zw_iret C hA hr hk dX6_of_71 rfl rfl
theorem run_X6_of_2 {n p : Nat} (hn : n ≤ 5) (hn3 : ζ.1 1 3 = n) (hp : p < n) : zRun l B mX6_of [.ref 0, zi p, zi 2] ζ (some (zi (ζ.1 6 p))) ζ := by
  refine zrun_intro (M := mX6_of) (ls := [some (.ref 0), some (zi p), some (zi 2)]) (by decide) rfl rfl rfl (Nat.le_of_ble_eq_true rfl) ?_
  intro X A C hX hA hr hk
  replace C : CX X B A mX6_of.2.2.2.2 RX6 cX6_of 3 0 0 := C
  have hr : (xMeth X).sig.returnType = (some .int) := hr
  change ZW X B A 3 0 0 _ _ 0 [some (.ref 0), some (zi p), some (zi 2)] []
  refine zw_aload_n (i := 0) (nx := 1) C dX6_of_0 rfl rfl rfl ?_
  refine zw_iload_n (i := 1) (nx := 2) C dX6_of_1 rfl rfl rfl ?_
  refine zw_cV11 (nx := 5) C dX6_of_2 rfl cvX6_151 rfl rfl ⟨Nat.le_of_ble_eq_true rfl, Nat.le_of_ble_eq_true rfl⟩ rfl rfl (Nat.le_of_ble_eq_true rfl) (run_X6_isBidder_t hn hn3 (by omega)) ?_
  refine zw_if_ne (tgt := 15) (nx := 8) C dX6_of_5 rfl rfl (by omega) (fun h5 => ?_) (fun h5 => by exfalso; omega)
  refine zw_iload_n (i := 2) (nx := 16) C dX6_of_15 rfl rfl rfl ?_
  refine zw_tableIn (nx := 72) C dX6_of_16 (by omega) (by omega) (by omega) rfl rfl ?_
  refine zw_aload_n (i := 0) (nx := 73) C dX6_of_72 rfl rfl rfl ?_
  refine zw_getr (nx := 76) C dX6_of_73 rfl flX6_12 iq5 rfl rfl rfl rfl ?_
  refine zw_getr (nx := 79) C dX6_of_76 rfl flX6_145 iq2 rfl rfl rfl rfl ?_
  refine zw_iload_n (i := 1) (nx := 80) C dX6_of_79 rfl rfl rfl ?_
  refine zw_iald (p) (nx := 81) C dX6_of_80 rfl rfl rfl rfl (by omega) ?_
  exact zw_iret C hA hr hk dX6_of_81 rfl rfl
theorem run_X6_of_3 {n p : Nat} (hn : n ≤ 5) (hn3 : ζ.1 1 3 = n) (hp : p < n) : zRun l B mX6_of [.ref 0, zi p, zi 3] ζ (some (zi (ζ.1 7 p))) ζ := by
  refine zrun_intro (M := mX6_of) (ls := [some (.ref 0), some (zi p), some (zi 3)]) (by decide) rfl rfl rfl (Nat.le_of_ble_eq_true rfl) ?_
  intro X A C hX hA hr hk
  replace C : CX X B A mX6_of.2.2.2.2 RX6 cX6_of 3 0 0 := C
  have hr : (xMeth X).sig.returnType = (some .int) := hr
  change ZW X B A 3 0 0 _ _ 0 [some (.ref 0), some (zi p), some (zi 3)] []
  refine zw_aload_n (i := 0) (nx := 1) C dX6_of_0 rfl rfl rfl ?_
  refine zw_iload_n (i := 1) (nx := 2) C dX6_of_1 rfl rfl rfl ?_
  refine zw_cV11 (nx := 5) C dX6_of_2 rfl cvX6_151 rfl rfl ⟨Nat.le_of_ble_eq_true rfl, Nat.le_of_ble_eq_true rfl⟩ rfl rfl (Nat.le_of_ble_eq_true rfl) (run_X6_isBidder_t hn hn3 (by omega)) ?_
  refine zw_if_ne (tgt := 15) (nx := 8) C dX6_of_5 rfl rfl (by omega) (fun h5 => ?_) (fun h5 => by exfalso; omega)
  refine zw_iload_n (i := 2) (nx := 16) C dX6_of_15 rfl rfl rfl ?_
  refine zw_tableIn (nx := 82) C dX6_of_16 (by omega) (by omega) (by omega) rfl rfl ?_
  refine zw_aload_n (i := 0) (nx := 83) C dX6_of_82 rfl rfl rfl ?_
  refine zw_getr (nx := 86) C dX6_of_83 rfl flX6_12 iq5 rfl rfl rfl rfl ?_
  refine zw_getr (nx := 89) C dX6_of_86 rfl flX6_148 iq2 rfl rfl rfl rfl ?_
  refine zw_iload_n (i := 1) (nx := 90) C dX6_of_89 rfl rfl rfl ?_
  refine zw_iald (p) (nx := 91) C dX6_of_90 rfl rfl rfl rfl (by omega) ?_
  exact zw_iret C hA hr hk dX6_of_91 rfl rfl
theorem run_X6_of_4 {n p : Nat} (hn : n ≤ 5) (hn3 : ζ.1 1 3 = n) (hp : p < n) : zRun l B mX6_of [.ref 0, zi p, zi 4] ζ (some (zi (ζ.1 4 p))) ζ := by
  refine zrun_intro (M := mX6_of) (ls := [some (.ref 0), some (zi p), some (zi 4)]) (by decide) rfl rfl rfl (Nat.le_of_ble_eq_true rfl) ?_
  intro X A C hX hA hr hk
  replace C : CX X B A mX6_of.2.2.2.2 RX6 cX6_of 3 0 0 := C
  have hr : (xMeth X).sig.returnType = (some .int) := hr
  change ZW X B A 3 0 0 _ _ 0 [some (.ref 0), some (zi p), some (zi 4)] []
  refine zw_aload_n (i := 0) (nx := 1) C dX6_of_0 rfl rfl rfl ?_
  refine zw_iload_n (i := 1) (nx := 2) C dX6_of_1 rfl rfl rfl ?_
  refine zw_cV11 (nx := 5) C dX6_of_2 rfl cvX6_151 rfl rfl ⟨Nat.le_of_ble_eq_true rfl, Nat.le_of_ble_eq_true rfl⟩ rfl rfl (Nat.le_of_ble_eq_true rfl) (run_X6_isBidder_t hn hn3 (by omega)) ?_
  refine zw_if_ne (tgt := 15) (nx := 8) C dX6_of_5 rfl rfl (by omega) (fun h5 => ?_) (fun h5 => by exfalso; omega)
  refine zw_iload_n (i := 2) (nx := 16) C dX6_of_15 rfl rfl rfl ?_
  refine zw_tableIn (nx := 92) C dX6_of_16 (by omega) (by omega) (by omega) rfl rfl ?_
  refine zw_aload_n (i := 0) (nx := 93) C dX6_of_92 rfl rfl rfl ?_
  refine zw_getr (nx := 96) C dX6_of_93 rfl flX6_12 iq5 rfl rfl rfl rfl ?_
  refine zw_getr (nx := 99) C dX6_of_96 rfl flX6_163 iq2 rfl rfl rfl rfl ?_
  refine zw_iload_n (i := 1) (nx := 100) C dX6_of_99 rfl rfl rfl ?_
  refine zw_iald (p) (nx := 101) C dX6_of_100 rfl rfl rfl rfl (by omega) ?_
  exact zw_iret C hA hr hk dX6_of_101 rfl rfl
theorem run_X6_yard_bad {y w : Int} (hy : -2147483648 ≤ y ∧ y ≤ 2147483647) (hw : -2147483648 ≤ w ∧ w ≤ 2147483647) (h : ¬ ((0 ≤ y ∧ y ≤ 7) ∧ (0 ≤ w ∧ w ≤ 2))) : zRun l B mX6_yard [.ref 0, zi y, zi w] ζ (some (zi (-10))) (bdS ζ) := by
  refine zrun_intro (M := mX6_yard) (ls := [some (.ref 0), some (zi y), some (zi w)]) (by decide) rfl rfl rfl (Nat.le_of_ble_eq_true rfl) ?_
  intro X A C hX hA hr hk
  replace C : CX X B A mX6_yard.2.2.2.2 RX6 cX6_yard 3 0 0 := C
  have hr : (xMeth X).sig.returnType = (some .int) := hr
  change ZW X B A 3 0 0 _ _ 0 [some (.ref 0), some (zi y), some (zi w)] []
  by_cases h1 : 0 ≤ y ∧ y ≤ 7
  · refine zw_iload_n (i := 1) (nx := 1) C dX6_yard_0 rfl rfl rfl ?_
    refine zw_cS11 (nx := 4) C dX6_yard_1 rfl csX6_91 ⟨Nat.le_of_ble_eq_true rfl, Nat.le_of_ble_eq_true rfl⟩ (Nat.le_of_ble_eq_true rfl) (run_X6_isYard_t h1) ?_
    refine zw_if_ne (tgt := 14) (nx := 7) C dX6_yard_4 rfl rfl (by omega) (fun h4 => ?_) (fun h4 => by exfalso; omega)
    refine zw_iload_n (i := 2) (nx := 15) C dX6_yard_14 rfl rfl rfl ?_
    refine zw_tableOut (nx := 68) C dX6_yard_15 (by omega) (by omega) rfl ?_
    refine zw_aload_n (i := 0) (nx := 69) C dX6_yard_68 rfl rfl rfl ?_
    refine zw_bipush (v := -10) (nx := 71) C dX6_yard_69 (by decide) rfl ?_
    refine zw_cV11 (nx := 74) C dX6_yard_71 rfl cvX6_71 rfl rfl ⟨Nat.le_of_ble_eq_true rfl, Nat.le_of_ble_eq_true rfl⟩ rfl rfl (Nat.le_of_ble_eq_true rfl) run_X6_bad ?_
    exact zw_iret C hA hr hk dX6_yard_74 rfl rfl
  · refine zw_iload_n (i := 1) (nx := 1) C dX6_yard_0 rfl rfl rfl ?_
    refine zw_cS11 (nx := 4) C dX6_yard_1 rfl csX6_91 ⟨Nat.le_of_ble_eq_true rfl, Nat.le_of_ble_eq_true rfl⟩ (Nat.le_of_ble_eq_true rfl) (run_X6_isYard_f hy h1) ?_
    refine zw_if_ne (tgt := 14) (nx := 7) C dX6_yard_4 rfl rfl (by omega) (fun h4 => by exfalso; omega) (fun h4 => ?_)
    refine zw_aload_n (i := 0) (nx := 8) C dX6_yard_7 rfl rfl rfl ?_
    refine zw_bipush (v := -10) (nx := 10) C dX6_yard_8 (by decide) rfl ?_
    refine zw_cV11 (nx := 13) C dX6_yard_10 rfl cvX6_71 rfl rfl ⟨Nat.le_of_ble_eq_true rfl, Nat.le_of_ble_eq_true rfl⟩ rfl rfl (Nat.le_of_ble_eq_true rfl) run_X6_bad ?_
    exact zw_iret C hA hr hk dX6_yard_13 rfl rfl
theorem run_X6_yard_0 {y : Nat} (hy : y < 8) : zRun l B mX6_yard [.ref 0, zi y, zi 0] ζ (some (zi (ζ.1 2 y))) ζ := by
  refine zrun_intro (M := mX6_yard) (ls := [some (.ref 0), some (zi y), some (zi 0)]) (by decide) rfl rfl rfl (Nat.le_of_ble_eq_true rfl) ?_
  intro X A C hX hA hr hk
  replace C : CX X B A mX6_yard.2.2.2.2 RX6 cX6_yard 3 0 0 := C
  have hr : (xMeth X).sig.returnType = (some .int) := hr
  change ZW X B A 3 0 0 _ _ 0 [some (.ref 0), some (zi y), some (zi 0)] []
  refine zw_iload_n (i := 1) (nx := 1) C dX6_yard_0 rfl rfl rfl ?_
  refine zw_cS11 (nx := 4) C dX6_yard_1 rfl csX6_91 ⟨Nat.le_of_ble_eq_true rfl, Nat.le_of_ble_eq_true rfl⟩ (Nat.le_of_ble_eq_true rfl) (run_X6_isYard_t (by omega)) ?_
  refine zw_if_ne (tgt := 14) (nx := 7) C dX6_yard_4 rfl rfl (by omega) (fun h4 => ?_) (fun h4 => by exfalso; omega)
  refine zw_iload_n (i := 2) (nx := 15) C dX6_yard_14 rfl rfl rfl ?_
  refine zw_tableIn (nx := 40) C dX6_yard_15 (by omega) (by omega) (by omega) rfl rfl ?_
  refine zw_aload_n (i := 0) (nx := 41) C dX6_yard_40 rfl rfl rfl ?_
  refine zw_getr (nx := 44) C dX6_yard_41 rfl flX6_12 iq5 rfl rfl rfl rfl ?_
  refine zw_getr (nx := 47) C dX6_yard_44 rfl flX6_98 iq2 rfl rfl rfl rfl ?_
  refine zw_iload_n (i := 1) (nx := 48) C dX6_yard_47 rfl rfl rfl ?_
  refine zw_iald (y) (nx := 49) C dX6_yard_48 rfl rfl rfl rfl (by omega) ?_
  exact zw_iret C hA hr hk dX6_yard_49 rfl rfl
theorem run_X6_yard_1 {n y : Nat} (hc : cOk ζ n) (hy : y < 8) : zRun l B mX6_yard [.ref 0, zi y, zi 1] ζ (some (zi (sDk (cV ζ) y))) ζ := by
  refine zrun_intro (M := mX6_yard) (ls := [some (.ref 0), some (zi y), some (zi 1)]) (by decide) rfl rfl rfl (Nat.le_of_ble_eq_true rfl) ?_
  intro X A C hX hA hr hk
  replace C : CX X B A mX6_yard.2.2.2.2 RX6 cX6_yard 3 0 0 := C
  have hr : (xMeth X).sig.returnType = (some .int) := hr
  change ZW X B A 3 0 0 _ _ 0 [some (.ref 0), some (zi y), some (zi 1)] []
  refine zw_iload_n (i := 1) (nx := 1) C dX6_yard_0 rfl rfl rfl ?_
  refine zw_cS11 (nx := 4) C dX6_yard_1 rfl csX6_91 ⟨Nat.le_of_ble_eq_true rfl, Nat.le_of_ble_eq_true rfl⟩ (Nat.le_of_ble_eq_true rfl) (run_X6_isYard_t (by omega)) ?_
  refine zw_if_ne (tgt := 14) (nx := 7) C dX6_yard_4 rfl rfl (by omega) (fun h4 => ?_) (fun h4 => by exfalso; omega)
  refine zw_iload_n (i := 2) (nx := 15) C dX6_yard_14 rfl rfl rfl ?_
  refine zw_tableIn (nx := 50) C dX6_yard_15 (by omega) (by omega) (by omega) rfl rfl ?_
  refine zw_aload_n (i := 0) (nx := 51) C dX6_yard_50 rfl rfl rfl ?_
  refine zw_getr (nx := 54) C dX6_yard_51 rfl flX6_12 iq5 rfl rfl rfl rfl ?_
  refine zw_iload_n (i := 1) (nx := 55) C dX6_yard_54 rfl rfl rfl ?_
  refine zw_cV11 (nx := 58) C dX6_yard_55 rfl cvX6_166 rfl rfl ⟨Nat.le_of_ble_eq_true rfl, Nat.le_of_ble_eq_true rfl⟩ rfl rfl (Nat.le_of_ble_eq_true rfl) (run_X2_darkIn hc (by omega)) ?_
  exact zw_iret C hA hr hk dX6_yard_58 rfl rfl
theorem run_X6_yard_2 {n y : Nat} (hc : cOk ζ n) (hy : y < 8) : zRun l B mX6_yard [.ref 0, zi y, zi 2] ζ (some (zi (sHol (cV ζ) y 0 n))) ζ := by
  refine zrun_intro (M := mX6_yard) (ls := [some (.ref 0), some (zi y), some (zi 2)]) (by decide) rfl rfl rfl (Nat.le_of_ble_eq_true rfl) ?_
  intro X A C hX hA hr hk
  replace C : CX X B A mX6_yard.2.2.2.2 RX6 cX6_yard 3 0 0 := C
  have hr : (xMeth X).sig.returnType = (some .int) := hr
  change ZW X B A 3 0 0 _ _ 0 [some (.ref 0), some (zi y), some (zi 2)] []
  refine zw_iload_n (i := 1) (nx := 1) C dX6_yard_0 rfl rfl rfl ?_
  refine zw_cS11 (nx := 4) C dX6_yard_1 rfl csX6_91 ⟨Nat.le_of_ble_eq_true rfl, Nat.le_of_ble_eq_true rfl⟩ (Nat.le_of_ble_eq_true rfl) (run_X6_isYard_t (by omega)) ?_
  refine zw_if_ne (tgt := 14) (nx := 7) C dX6_yard_4 rfl rfl (by omega) (fun h4 => ?_) (fun h4 => by exfalso; omega)
  refine zw_iload_n (i := 2) (nx := 15) C dX6_yard_14 rfl rfl rfl ?_
  refine zw_tableIn (nx := 59) C dX6_yard_15 (by omega) (by omega) (by omega) rfl rfl ?_
  refine zw_aload_n (i := 0) (nx := 60) C dX6_yard_59 rfl rfl rfl ?_
  refine zw_getr (nx := 63) C dX6_yard_60 rfl flX6_12 iq5 rfl rfl rfl rfl ?_
  refine zw_iload_n (i := 1) (nx := 64) C dX6_yard_63 rfl rfl rfl ?_
  refine zw_cV11 (nx := 67) C dX6_yard_64 rfl cvX6_127 rfl rfl ⟨Nat.le_of_ble_eq_true rfl, Nat.le_of_ble_eq_true rfl⟩ rfl rfl (Nat.le_of_ble_eq_true rfl) (run_X2_holder hc (by omega)) ?_
  exact zw_iret C hA hr hk dX6_yard_67 rfl rfl
theorem run_X6_sees_bad {n : Nat} (hn : n ≤ 5) (hn3 : ζ.1 1 3 = n) {p y : Int} (hp : -2147483648 ≤ p ∧ p ≤ 2147483647) (hy : -2147483648 ≤ y ∧ y ≤ 2147483647) (h : ¬ ((0 ≤ p ∧ p < n) ∧ (-1 ≤ y ∧ y ≤ 7))) : zRun l B mX6_sees [.ref 0, zi p, zi y] ζ (some (zi (-2))) (bdS ζ) := by
  refine zrun_intro (M := mX6_sees) (ls := [some (.ref 0), some (zi p), some (zi y)]) (by decide) rfl rfl rfl (Nat.le_of_ble_eq_true rfl) ?_
  intro X A C hX hA hr hk
  replace C : CX X B A mX6_sees.2.2.2.2 RX6 cX6_sees 3 0 0 := C
  have hr : (xMeth X).sig.returnType = (some .int) := hr
  change ZW X B A 3 0 0 _ _ 0 [some (.ref 0), some (zi p), some (zi y)] []
  by_cases h1 : 0 ≤ p ∧ p < n
  · refine zw_aload_n (i := 0) (nx := 1) C dX6_sees_0 rfl rfl rfl ?_
    refine zw_iload_n (i := 1) (nx := 2) C dX6_sees_1 rfl rfl rfl ?_
    refine zw_cV11 (nx := 5) C dX6_sees_2 rfl cvX6_151 rfl rfl ⟨Nat.le_of_ble_eq_true rfl, Nat.le_of_ble_eq_true rfl⟩ rfl rfl (Nat.le_of_ble_eq_true rfl) (run_X6_isBidder_t hn hn3 h1) ?_
    refine zw_if_eq (tgt := 20) (nx := 8) C dX6_sees_5 rfl rfl (by omega) (fun h5 => by exfalso; omega) (fun h5 => ?_)
    refine zw_iload_n (i := 2) (nx := 9) C dX6_sees_8 rfl rfl rfl ?_
    refine zw_iconst (nx := 10) C dX6_sees_9 rfl ?_
    refine zw_icmp_eq (tgt := 27) (nx := 13) C dX6_sees_10 rfl rfl (by omega) (fun h10 => by exfalso; omega) (fun h10 => ?_)
    refine zw_iload_n (i := 2) (nx := 14) C dX6_sees_13 rfl rfl rfl ?_
    refine zw_cS11 (nx := 17) C dX6_sees_14 rfl csX6_91 ⟨Nat.le_of_ble_eq_true rfl, Nat.le_of_ble_eq_true rfl⟩ (Nat.le_of_ble_eq_true rfl) (run_X6_isYard_f hy (by omega)) ?_
    refine zw_if_ne (tgt := 27) (nx := 20) C dX6_sees_17 rfl rfl (by omega) (fun h17 => by exfalso; omega) (fun h17 => ?_)
    refine zw_aload_n (i := 0) (nx := 21) C dX6_sees_20 rfl rfl rfl ?_
    refine zw_bipush (v := -2) (nx := 23) C dX6_sees_21 (by decide) rfl ?_
    refine zw_cV11 (nx := 26) C dX6_sees_23 rfl cvX6_71 rfl rfl ⟨Nat.le_of_ble_eq_true rfl, Nat.le_of_ble_eq_true rfl⟩ rfl rfl (Nat.le_of_ble_eq_true rfl) run_X6_bad ?_
    exact zw_iret C hA hr hk dX6_sees_26 rfl rfl
  · refine zw_aload_n (i := 0) (nx := 1) C dX6_sees_0 rfl rfl rfl ?_
    refine zw_iload_n (i := 1) (nx := 2) C dX6_sees_1 rfl rfl rfl ?_
    refine zw_cV11 (nx := 5) C dX6_sees_2 rfl cvX6_151 rfl rfl ⟨Nat.le_of_ble_eq_true rfl, Nat.le_of_ble_eq_true rfl⟩ rfl rfl (Nat.le_of_ble_eq_true rfl) (run_X6_isBidder_f hn hn3 hp h1) ?_
    refine zw_if_eq (tgt := 20) (nx := 8) C dX6_sees_5 rfl rfl (by omega) (fun h5 => ?_) (fun h5 => by exfalso; omega)
    refine zw_aload_n (i := 0) (nx := 21) C dX6_sees_20 rfl rfl rfl ?_
    refine zw_bipush (v := -2) (nx := 23) C dX6_sees_21 (by decide) rfl ?_
    refine zw_cV11 (nx := 26) C dX6_sees_23 rfl cvX6_71 rfl rfl ⟨Nat.le_of_ble_eq_true rfl, Nat.le_of_ble_eq_true rfl⟩ rfl rfl (Nat.le_of_ble_eq_true rfl) run_X6_bad ?_
    exact zw_iret C hA hr hk dX6_sees_26 rfl rfl
theorem run_X6_sees_now {n p : Nat} (hc : cOk ζ n) (hp : p < n) : zRun l B mX6_sees [.ref 0, zi p, zi (-1)] ζ (some (zi (sNow (cV ζ) n p))) ζ := by
  refine zrun_intro (M := mX6_sees) (ls := [some (.ref 0), some (zi p), some (zi (-1))]) (by decide) rfl rfl rfl (Nat.le_of_ble_eq_true rfl) ?_
  intro X A C hX hA hr hk
  replace C : CX X B A mX6_sees.2.2.2.2 RX6 cX6_sees 3 0 0 := C
  have hr : (xMeth X).sig.returnType = (some .int) := hr
  change ZW X B A 3 0 0 _ _ 0 [some (.ref 0), some (zi p), some (zi (-1))] []
  refine zw_aload_n (i := 0) (nx := 1) C dX6_sees_0 rfl rfl rfl ?_
  refine zw_iload_n (i := 1) (nx := 2) C dX6_sees_1 rfl rfl rfl ?_
  refine zw_cV11 (nx := 5) C dX6_sees_2 rfl cvX6_151 rfl rfl ⟨Nat.le_of_ble_eq_true rfl, Nat.le_of_ble_eq_true rfl⟩ rfl rfl (Nat.le_of_ble_eq_true rfl) (run_X6_isBidder_t hc.1.1 hc.2.1 (by omega)) ?_
  refine zw_if_eq (tgt := 20) (nx := 8) C dX6_sees_5 rfl rfl (by omega) (fun h5 => by exfalso; omega) (fun h5 => ?_)
  refine zw_iload_n (i := 2) (nx := 9) C dX6_sees_8 rfl rfl rfl ?_
  refine zw_iconst (nx := 10) C dX6_sees_9 rfl ?_
  refine zw_icmp_eq (tgt := 27) (nx := 13) C dX6_sees_10 rfl rfl (by omega) (fun h10 => ?_) (fun h10 => by exfalso; omega)
  refine zw_iload_n (i := 2) (nx := 28) C dX6_sees_27 rfl rfl rfl ?_
  refine zw_iconst (nx := 29) C dX6_sees_28 rfl ?_
  refine zw_icmp_ne (tgt := 41) (nx := 32) C dX6_sees_29 rfl rfl (by omega) (fun h29 => by exfalso; omega) (fun h29 => ?_)
  refine zw_aload_n (i := 0) (nx := 33) C dX6_sees_32 rfl rfl rfl ?_
  refine zw_getr (nx := 36) C dX6_sees_33 rfl flX6_12 iq5 rfl rfl rfl rfl ?_
  refine zw_iload_n (i := 1) (nx := 37) C dX6_sees_36 rfl rfl rfl ?_
  refine zw_cV11 (nx := 40) C dX6_sees_37 rfl cvX6_169 rfl rfl ⟨Nat.le_of_ble_eq_true rfl, Nat.le_of_ble_eq_true rfl⟩ rfl rfl (Nat.le_of_ble_eq_true rfl) (run_X2_seenNow hc hp) ?_
  exact zw_iret C hA hr hk dX6_sees_40 rfl rfl
theorem run_X6_sees_in {n p y : Nat} (hc : cOk ζ n) (hp : p < n) (hy : y < 8) (ho : sOpn (cV ζ) n p y = true) : zRun l B mX6_sees [.ref 0, zi p, zi y] ζ (some (zi (sSeen (cV ζ) n p y))) ζ := by
  have hn := hc.1.1
  refine zrun_intro (M := mX6_sees) (ls := [some (.ref 0), some (zi p), some (zi y)]) (by decide) rfl rfl rfl (Nat.le_of_ble_eq_true rfl) ?_
  intro X A C hX hA hr hk
  replace C : CX X B A mX6_sees.2.2.2.2 RX6 cX6_sees 3 0 0 := C
  have hr : (xMeth X).sig.returnType = (some .int) := hr
  change ZW X B A 3 0 0 _ _ 0 [some (.ref 0), some (zi p), some (zi y)] []
  refine zw_aload_n (i := 0) (nx := 1) C dX6_sees_0 rfl rfl rfl ?_
  refine zw_iload_n (i := 1) (nx := 2) C dX6_sees_1 rfl rfl rfl ?_
  refine zw_cV11 (nx := 5) C dX6_sees_2 rfl cvX6_151 rfl rfl ⟨Nat.le_of_ble_eq_true rfl, Nat.le_of_ble_eq_true rfl⟩ rfl rfl (Nat.le_of_ble_eq_true rfl) (run_X6_isBidder_t hc.1.1 hc.2.1 (by omega)) ?_
  refine zw_if_eq (tgt := 20) (nx := 8) C dX6_sees_5 rfl rfl (by omega) (fun h5 => by exfalso; omega) (fun h5 => ?_)
  refine zw_iload_n (i := 2) (nx := 9) C dX6_sees_8 rfl rfl rfl ?_
  refine zw_iconst (nx := 10) C dX6_sees_9 rfl ?_
  refine zw_icmp_eq (tgt := 27) (nx := 13) C dX6_sees_10 rfl rfl (by omega) (fun h10 => by exfalso; omega) (fun h10 => ?_)
  refine zw_iload_n (i := 2) (nx := 14) C dX6_sees_13 rfl rfl rfl ?_
  refine zw_cS11 (nx := 17) C dX6_sees_14 rfl csX6_91 ⟨Nat.le_of_ble_eq_true rfl, Nat.le_of_ble_eq_true rfl⟩ (Nat.le_of_ble_eq_true rfl) (run_X6_isYard_t (by omega)) ?_
  refine zw_if_ne (tgt := 27) (nx := 20) C dX6_sees_17 rfl rfl (by omega) (fun h17 => ?_) (fun h17 => by exfalso; omega)
  refine zw_iload_n (i := 2) (nx := 28) C dX6_sees_27 rfl rfl rfl ?_
  refine zw_iconst (nx := 29) C dX6_sees_28 rfl ?_
  refine zw_icmp_ne (tgt := 41) (nx := 32) C dX6_sees_29 rfl rfl (by omega) (fun h29 => ?_) (fun h29 => by exfalso; omega)
  refine zw_aload_n (i := 0) (nx := 42) C dX6_sees_41 rfl rfl rfl ?_
  refine zw_getr (nx := 45) C dX6_sees_42 rfl flX6_12 iq5 rfl rfl rfl rfl ?_
  refine zw_iload_n (i := 1) (nx := 46) C dX6_sees_45 rfl rfl rfl ?_
  refine zw_iload_n (i := 2) (nx := 47) C dX6_sees_46 rfl rfl rfl ?_
  have ro := run_X2_isOpenTo (l := xLa X) (B := B) hc (p := p) (y := y) (by omega) (by omega)
  rw [ho, show b2i true = 1 from rfl] at ro
  refine zw_cV21 (nx := 50) C dX6_sees_47 rfl cvX6_172 rfl rfl ⟨Nat.le_of_ble_eq_true rfl, Nat.le_of_ble_eq_true rfl⟩ rfl rfl (Nat.le_of_ble_eq_true rfl) ro ?_
  refine zw_if_eq (tgt := 65) (nx := 53) C dX6_sees_50 rfl rfl (by omega) (fun h50 => by exfalso; omega) (fun h50 => ?_)
  refine zw_aload_n (i := 0) (nx := 54) C dX6_sees_53 rfl rfl rfl ?_
  refine zw_getr (nx := 57) C dX6_sees_54 rfl flX6_12 iq5 rfl rfl rfl rfl ?_
  refine zw_iload_n (i := 1) (nx := 58) C dX6_sees_57 rfl rfl rfl ?_
  refine zw_iload_n (i := 2) (nx := 59) C dX6_sees_58 rfl rfl rfl ?_
  refine zw_cV21 (nx := 62) C dX6_sees_59 rfl cvX6_175 rfl rfl ⟨Nat.le_of_ble_eq_true rfl, Nat.le_of_ble_eq_true rfl⟩ rfl rfl (Nat.le_of_ble_eq_true rfl) (run_X2_seenIn hc (by omega) hy) ?_
  refine zw_goto (nx := 69) C dX6_sees_62 rfl ?_
  exact zw_iret C hA hr hk dX6_sees_69 rfl rfl
theorem run_X6_sees_no {n p y : Nat} (hc : cOk ζ n) (hp : p < n) (hy : y < 8) (ho : sOpn (cV ζ) n p y = false) : zRun l B mX6_sees [.ref 0, zi p, zi y] ζ (some (zi (-3))) (noS ζ) := by
  have hn := hc.1.1
  refine zrun_intro (M := mX6_sees) (ls := [some (.ref 0), some (zi p), some (zi y)]) (by decide) rfl rfl rfl (Nat.le_of_ble_eq_true rfl) ?_
  intro X A C hX hA hr hk
  replace C : CX X B A mX6_sees.2.2.2.2 RX6 cX6_sees 3 0 0 := C
  have hr : (xMeth X).sig.returnType = (some .int) := hr
  change ZW X B A 3 0 0 _ _ 0 [some (.ref 0), some (zi p), some (zi y)] []
  refine zw_aload_n (i := 0) (nx := 1) C dX6_sees_0 rfl rfl rfl ?_
  refine zw_iload_n (i := 1) (nx := 2) C dX6_sees_1 rfl rfl rfl ?_
  refine zw_cV11 (nx := 5) C dX6_sees_2 rfl cvX6_151 rfl rfl ⟨Nat.le_of_ble_eq_true rfl, Nat.le_of_ble_eq_true rfl⟩ rfl rfl (Nat.le_of_ble_eq_true rfl) (run_X6_isBidder_t hc.1.1 hc.2.1 (by omega)) ?_
  refine zw_if_eq (tgt := 20) (nx := 8) C dX6_sees_5 rfl rfl (by omega) (fun h5 => by exfalso; omega) (fun h5 => ?_)
  refine zw_iload_n (i := 2) (nx := 9) C dX6_sees_8 rfl rfl rfl ?_
  refine zw_iconst (nx := 10) C dX6_sees_9 rfl ?_
  refine zw_icmp_eq (tgt := 27) (nx := 13) C dX6_sees_10 rfl rfl (by omega) (fun h10 => by exfalso; omega) (fun h10 => ?_)
  refine zw_iload_n (i := 2) (nx := 14) C dX6_sees_13 rfl rfl rfl ?_
  refine zw_cS11 (nx := 17) C dX6_sees_14 rfl csX6_91 ⟨Nat.le_of_ble_eq_true rfl, Nat.le_of_ble_eq_true rfl⟩ (Nat.le_of_ble_eq_true rfl) (run_X6_isYard_t (by omega)) ?_
  refine zw_if_ne (tgt := 27) (nx := 20) C dX6_sees_17 rfl rfl (by omega) (fun h17 => ?_) (fun h17 => by exfalso; omega)
  refine zw_iload_n (i := 2) (nx := 28) C dX6_sees_27 rfl rfl rfl ?_
  refine zw_iconst (nx := 29) C dX6_sees_28 rfl ?_
  refine zw_icmp_ne (tgt := 41) (nx := 32) C dX6_sees_29 rfl rfl (by omega) (fun h29 => ?_) (fun h29 => by exfalso; omega)
  refine zw_aload_n (i := 0) (nx := 42) C dX6_sees_41 rfl rfl rfl ?_
  refine zw_getr (nx := 45) C dX6_sees_42 rfl flX6_12 iq5 rfl rfl rfl rfl ?_
  refine zw_iload_n (i := 1) (nx := 46) C dX6_sees_45 rfl rfl rfl ?_
  refine zw_iload_n (i := 2) (nx := 47) C dX6_sees_46 rfl rfl rfl ?_
  have ro := run_X2_isOpenTo (l := xLa X) (B := B) hc (p := p) (y := y) (by omega) (by omega)
  rw [ho, show b2i false = 0 from rfl] at ro
  refine zw_cV21 (nx := 50) C dX6_sees_47 rfl cvX6_172 rfl rfl ⟨Nat.le_of_ble_eq_true rfl, Nat.le_of_ble_eq_true rfl⟩ rfl rfl (Nat.le_of_ble_eq_true rfl) ro ?_
  refine zw_if_eq (tgt := 65) (nx := 53) C dX6_sees_50 rfl rfl (by omega) (fun h50 => ?_) (fun h50 => by exfalso; omega)
  refine zw_aload_n (i := 0) (nx := 66) C dX6_sees_65 rfl rfl rfl ?_
  refine zw_cV01 (nx := 69) C dX6_sees_66 rfl cvX6_130 rfl rfl ⟨Nat.le_of_ble_eq_true rfl, Nat.le_of_ble_eq_true rfl⟩ rfl rfl (Nat.le_of_ble_eq_true rfl) run_X6_no ?_
  exact zw_iret C hA hr hk dX6_sees_69 rfl rfl
theorem run_X6_gives_bad {n : Nat} (hn : n ≤ 5) (hn3 : ζ.1 1 3 = n) {p y : Int} (hp : -2147483648 ≤ p ∧ p ≤ 2147483647) (hy : -2147483648 ≤ y ∧ y ≤ 2147483647) (h : ¬ ((0 ≤ p ∧ p < n) ∧ (-1 ≤ y ∧ y ≤ 7))) : zRun l B mX6_gives [.ref 0, zi p, zi y] ζ (some (zi (-2))) (bdS ζ) := by
  refine zrun_intro (M := mX6_gives) (ls := [some (.ref 0), some (zi p), some (zi y), none]) (by decide) rfl rfl rfl (Nat.le_of_ble_eq_true rfl) ?_
  intro X A C hX hA hr hk
  replace C : CX X B A mX6_gives.2.2.2.2 RX6 cX6_gives 4 0 0 := C
  have hr : (xMeth X).sig.returnType = (some .int) := hr
  change ZW X B A 4 0 0 _ _ 0 [some (.ref 0), some (zi p), some (zi y), none] []
  by_cases h1 : 0 ≤ p ∧ p < n
  · refine zw_aload_n (i := 0) (nx := 1) C dX6_gives_0 rfl rfl rfl ?_
    refine zw_iload_n (i := 1) (nx := 2) C dX6_gives_1 rfl rfl rfl ?_
    refine zw_cV11 (nx := 5) C dX6_gives_2 rfl cvX6_151 rfl rfl ⟨Nat.le_of_ble_eq_true rfl, Nat.le_of_ble_eq_true rfl⟩ rfl rfl (Nat.le_of_ble_eq_true rfl) (run_X6_isBidder_t hn hn3 h1) ?_
    refine zw_if_eq (tgt := 20) (nx := 8) C dX6_gives_5 rfl rfl (by omega) (fun h5 => by exfalso; omega) (fun h5 => ?_)
    refine zw_iload_n (i := 2) (nx := 9) C dX6_gives_8 rfl rfl rfl ?_
    refine zw_iconst (nx := 10) C dX6_gives_9 rfl ?_
    refine zw_icmp_eq (tgt := 27) (nx := 13) C dX6_gives_10 rfl rfl (by omega) (fun h10 => by exfalso; omega) (fun h10 => ?_)
    refine zw_iload_n (i := 2) (nx := 14) C dX6_gives_13 rfl rfl rfl ?_
    refine zw_cS11 (nx := 17) C dX6_gives_14 rfl csX6_91 ⟨Nat.le_of_ble_eq_true rfl, Nat.le_of_ble_eq_true rfl⟩ (Nat.le_of_ble_eq_true rfl) (run_X6_isYard_f hy (by omega)) ?_
    refine zw_if_ne (tgt := 27) (nx := 20) C dX6_gives_17 rfl rfl (by omega) (fun h17 => by exfalso; omega) (fun h17 => ?_)
    refine zw_aload_n (i := 0) (nx := 21) C dX6_gives_20 rfl rfl rfl ?_
    refine zw_bipush (v := -2) (nx := 23) C dX6_gives_21 (by decide) rfl ?_
    refine zw_cV11 (nx := 26) C dX6_gives_23 rfl cvX6_71 rfl rfl ⟨Nat.le_of_ble_eq_true rfl, Nat.le_of_ble_eq_true rfl⟩ rfl rfl (Nat.le_of_ble_eq_true rfl) run_X6_bad ?_
    exact zw_iret C hA hr hk dX6_gives_26 rfl rfl
  · refine zw_aload_n (i := 0) (nx := 1) C dX6_gives_0 rfl rfl rfl ?_
    refine zw_iload_n (i := 1) (nx := 2) C dX6_gives_1 rfl rfl rfl ?_
    refine zw_cV11 (nx := 5) C dX6_gives_2 rfl cvX6_151 rfl rfl ⟨Nat.le_of_ble_eq_true rfl, Nat.le_of_ble_eq_true rfl⟩ rfl rfl (Nat.le_of_ble_eq_true rfl) (run_X6_isBidder_f hn hn3 hp h1) ?_
    refine zw_if_eq (tgt := 20) (nx := 8) C dX6_gives_5 rfl rfl (by omega) (fun h5 => ?_) (fun h5 => by exfalso; omega)
    refine zw_aload_n (i := 0) (nx := 21) C dX6_gives_20 rfl rfl rfl ?_
    refine zw_bipush (v := -2) (nx := 23) C dX6_gives_21 (by decide) rfl ?_
    refine zw_cV11 (nx := 26) C dX6_gives_23 rfl cvX6_71 rfl rfl ⟨Nat.le_of_ble_eq_true rfl, Nat.le_of_ble_eq_true rfl⟩ rfl rfl (Nat.le_of_ble_eq_true rfl) run_X6_bad ?_
    exact zw_iret C hA hr hk dX6_gives_26 rfl rfl
theorem run_X6_gives_0 {n p : Nat} (hc : cOk ζ n) (hp : p < n) (h : ζ.1 7 p = -1) : zRun l B mX6_gives [.ref 0, zi p, zi (-1)] ζ (some (zi 0)) ζ := by
  have hn := hc.1.1
  refine zrun_intro (M := mX6_gives) (ls := [some (.ref 0), some (zi p), some (zi (-1)), none]) (by decide) rfl rfl rfl (Nat.le_of_ble_eq_true rfl) ?_
  intro X A C hX hA hr hk
  replace C : CX X B A mX6_gives.2.2.2.2 RX6 cX6_gives 4 0 0 := C
  have hr : (xMeth X).sig.returnType = (some .int) := hr
  change ZW X B A 4 0 0 _ _ 0 [some (.ref 0), some (zi p), some (zi (-1)), none] []
  refine zw_aload_n (i := 0) (nx := 1) C dX6_gives_0 rfl rfl rfl ?_
  refine zw_iload_n (i := 1) (nx := 2) C dX6_gives_1 rfl rfl rfl ?_
  refine zw_cV11 (nx := 5) C dX6_gives_2 rfl cvX6_151 rfl rfl ⟨Nat.le_of_ble_eq_true rfl, Nat.le_of_ble_eq_true rfl⟩ rfl rfl (Nat.le_of_ble_eq_true rfl) (run_X6_isBidder_t hc.1.1 hc.2.1 (by omega)) ?_
  refine zw_if_eq (tgt := 20) (nx := 8) C dX6_gives_5 rfl rfl (by omega) (fun h5 => by exfalso; omega) (fun h5 => ?_)
  refine zw_iload_n (i := 2) (nx := 9) C dX6_gives_8 rfl rfl rfl ?_
  refine zw_iconst (nx := 10) C dX6_gives_9 rfl ?_
  refine zw_icmp_eq (tgt := 27) (nx := 13) C dX6_gives_10 rfl rfl (by omega) (fun h10 => ?_) (fun h10 => by exfalso; omega)
  refine zw_iload_n (i := 2) (nx := 28) C dX6_gives_27 rfl rfl rfl ?_
  refine zw_iconst (nx := 29) C dX6_gives_28 rfl ?_
  refine zw_icmp_ne (tgt := 44) (nx := 32) C dX6_gives_29 rfl rfl (by omega) (fun h29 => by exfalso; omega) (fun h29 => ?_)
  refine zw_aload_n (i := 0) (nx := 33) C dX6_gives_32 rfl rfl rfl ?_
  refine zw_getr (nx := 36) C dX6_gives_33 rfl flX6_12 iq5 rfl rfl rfl rfl ?_
  refine zw_getr (nx := 39) C dX6_gives_36 rfl flX6_148 iq2 rfl rfl rfl rfl ?_
  refine zw_iload_n (i := 1) (nx := 40) C dX6_gives_39 rfl rfl rfl ?_
  refine zw_iald (p) (nx := 41) C dX6_gives_40 rfl rfl rfl rfl (by omega) ?_
  refine zw_goto (nx := 45) C dX6_gives_41 rfl ?_
  refine zw_ist3 (nx := 46) C (eIst_n dX6_gives_45 rfl rfl) (Nat.le_of_ble_eq_true rfl) rfl ?_
  refine zw_iload_n (i := 3) (nx := 47) C dX6_gives_46 rfl rfl rfl ?_
  refine zw_iconst (nx := 48) C dX6_gives_47 rfl ?_
  refine zw_icmp_ne (tgt := 53) (nx := 51) C dX6_gives_48 rfl rfl (by omega) (fun h48 => by exfalso; omega) (fun h48 => ?_)
  refine zw_iconst (nx := 52) C dX6_gives_51 rfl ?_
  exact zw_iret C hA hr hk dX6_gives_52 rfl rfl
theorem run_X6_gives_now {n p y : Nat} (hc : cOk ζ n) (hp : p < n) (hy : y < 8) (h : ζ.1 7 p = y) (ho : sOpn (cV ζ) n p y = true) : zRun l B mX6_gives [.ref 0, zi p, zi (-1)] ζ (some (zi (sBid (cV ζ) n p y))) ζ := by
  have hn := hc.1.1
  have ro := fun X : eX => run_X2_isOpenTo (l := xLa X) (B := B) hc (p := p) (y := y) (by omega) (by omega)
  rw [ho, show b2i true = 1 from rfl] at ro
  refine zrun_intro (M := mX6_gives) (ls := [some (.ref 0), some (zi p), some (zi (-1)), none]) (by decide) rfl rfl rfl (Nat.le_of_ble_eq_true rfl) ?_
  intro X A C hX hA hr hk
  replace C : CX X B A mX6_gives.2.2.2.2 RX6 cX6_gives 4 0 0 := C
  have hr : (xMeth X).sig.returnType = (some .int) := hr
  change ZW X B A 4 0 0 _ _ 0 [some (.ref 0), some (zi p), some (zi (-1)), none] []
  refine zw_aload_n (i := 0) (nx := 1) C dX6_gives_0 rfl rfl rfl ?_
  refine zw_iload_n (i := 1) (nx := 2) C dX6_gives_1 rfl rfl rfl ?_
  refine zw_cV11 (nx := 5) C dX6_gives_2 rfl cvX6_151 rfl rfl ⟨Nat.le_of_ble_eq_true rfl, Nat.le_of_ble_eq_true rfl⟩ rfl rfl (Nat.le_of_ble_eq_true rfl) (run_X6_isBidder_t hc.1.1 hc.2.1 (by omega)) ?_
  refine zw_if_eq (tgt := 20) (nx := 8) C dX6_gives_5 rfl rfl (by omega) (fun h5 => by exfalso; omega) (fun h5 => ?_)
  refine zw_iload_n (i := 2) (nx := 9) C dX6_gives_8 rfl rfl rfl ?_
  refine zw_iconst (nx := 10) C dX6_gives_9 rfl ?_
  refine zw_icmp_eq (tgt := 27) (nx := 13) C dX6_gives_10 rfl rfl (by omega) (fun h10 => ?_) (fun h10 => by exfalso; omega)
  refine zw_iload_n (i := 2) (nx := 28) C dX6_gives_27 rfl rfl rfl ?_
  refine zw_iconst (nx := 29) C dX6_gives_28 rfl ?_
  refine zw_icmp_ne (tgt := 44) (nx := 32) C dX6_gives_29 rfl rfl (by omega) (fun h29 => by exfalso; omega) (fun h29 => ?_)
  refine zw_aload_n (i := 0) (nx := 33) C dX6_gives_32 rfl rfl rfl ?_
  refine zw_getr (nx := 36) C dX6_gives_33 rfl flX6_12 iq5 rfl rfl rfl rfl ?_
  refine zw_getr (nx := 39) C dX6_gives_36 rfl flX6_148 iq2 rfl rfl rfl rfl ?_
  refine zw_iload_n (i := 1) (nx := 40) C dX6_gives_39 rfl rfl rfl ?_
  refine zw_iald (p) (nx := 41) C dX6_gives_40 rfl rfl rfl rfl (by omega) ?_
  refine zw_goto (nx := 45) C dX6_gives_41 rfl ?_
  rw [h]
  refine zw_ist3 (nx := 46) C (eIst_n dX6_gives_45 rfl rfl) (Nat.le_of_ble_eq_true rfl) rfl ?_
  refine zw_iload_n (i := 3) (nx := 47) C dX6_gives_46 rfl rfl rfl ?_
  refine zw_iconst (nx := 48) C dX6_gives_47 rfl ?_
  refine zw_icmp_ne (tgt := 53) (nx := 51) C dX6_gives_48 rfl rfl (by omega) (fun h48 => ?_) (fun h48 => by exfalso; omega)
  refine zw_aload_n (i := 0) (nx := 54) C dX6_gives_53 rfl rfl rfl ?_
  refine zw_getr (nx := 57) C dX6_gives_54 rfl flX6_12 iq5 rfl rfl rfl rfl ?_
  refine zw_iload_n (i := 1) (nx := 58) C dX6_gives_57 rfl rfl rfl ?_
  refine zw_iload_n (i := 3) (nx := 59) C dX6_gives_58 rfl rfl rfl ?_
  refine zw_cV21 (nx := 62) C dX6_gives_59 rfl cvX6_172 rfl rfl ⟨Nat.le_of_ble_eq_true rfl, Nat.le_of_ble_eq_true rfl⟩ rfl rfl (Nat.le_of_ble_eq_true rfl) (ro X) ?_
  refine zw_if_eq (tgt := 77) (nx := 65) C dX6_gives_62 rfl rfl (by omega) (fun h62 => by exfalso; omega) (fun h62 => ?_)
  refine zw_aload_n (i := 0) (nx := 66) C dX6_gives_65 rfl rfl rfl ?_
  refine zw_getr (nx := 69) C dX6_gives_66 rfl flX6_12 iq5 rfl rfl rfl rfl ?_
  refine zw_iload_n (i := 1) (nx := 70) C dX6_gives_69 rfl rfl rfl ?_
  refine zw_iload_n (i := 3) (nx := 71) C dX6_gives_70 rfl rfl rfl ?_
  refine zw_cV21 (nx := 74) C dX6_gives_71 rfl cvX6_178 rfl rfl ⟨Nat.le_of_ble_eq_true rfl, Nat.le_of_ble_eq_true rfl⟩ rfl rfl (Nat.le_of_ble_eq_true rfl) (run_X2_bid hc hp hy) ?_
  refine zw_goto (nx := 81) C dX6_gives_74 rfl ?_
  exact zw_iret C hA hr hk dX6_gives_81 rfl rfl
theorem run_X6_gives_in {n p y : Nat} (hc : cOk ζ n) (hp : p < n) (hy : y < 8) (ho : sOpn (cV ζ) n p y = true) : zRun l B mX6_gives [.ref 0, zi p, zi y] ζ (some (zi (sBid (cV ζ) n p y))) ζ := by
  have hn := hc.1.1
  have ro := fun X : eX => run_X2_isOpenTo (l := xLa X) (B := B) hc (p := p) (y := y) (by omega) (by omega)
  rw [ho, show b2i true = 1 from rfl] at ro
  refine zrun_intro (M := mX6_gives) (ls := [some (.ref 0), some (zi p), some (zi y), none]) (by decide) rfl rfl rfl (Nat.le_of_ble_eq_true rfl) ?_
  intro X A C hX hA hr hk
  replace C : CX X B A mX6_gives.2.2.2.2 RX6 cX6_gives 4 0 0 := C
  have hr : (xMeth X).sig.returnType = (some .int) := hr
  change ZW X B A 4 0 0 _ _ 0 [some (.ref 0), some (zi p), some (zi y), none] []
  refine zw_aload_n (i := 0) (nx := 1) C dX6_gives_0 rfl rfl rfl ?_
  refine zw_iload_n (i := 1) (nx := 2) C dX6_gives_1 rfl rfl rfl ?_
  refine zw_cV11 (nx := 5) C dX6_gives_2 rfl cvX6_151 rfl rfl ⟨Nat.le_of_ble_eq_true rfl, Nat.le_of_ble_eq_true rfl⟩ rfl rfl (Nat.le_of_ble_eq_true rfl) (run_X6_isBidder_t hc.1.1 hc.2.1 (by omega)) ?_
  refine zw_if_eq (tgt := 20) (nx := 8) C dX6_gives_5 rfl rfl (by omega) (fun h5 => by exfalso; omega) (fun h5 => ?_)
  refine zw_iload_n (i := 2) (nx := 9) C dX6_gives_8 rfl rfl rfl ?_
  refine zw_iconst (nx := 10) C dX6_gives_9 rfl ?_
  refine zw_icmp_eq (tgt := 27) (nx := 13) C dX6_gives_10 rfl rfl (by omega) (fun h10 => by exfalso; omega) (fun h10 => ?_)
  refine zw_iload_n (i := 2) (nx := 14) C dX6_gives_13 rfl rfl rfl ?_
  refine zw_cS11 (nx := 17) C dX6_gives_14 rfl csX6_91 ⟨Nat.le_of_ble_eq_true rfl, Nat.le_of_ble_eq_true rfl⟩ (Nat.le_of_ble_eq_true rfl) (run_X6_isYard_t (by omega)) ?_
  refine zw_if_ne (tgt := 27) (nx := 20) C dX6_gives_17 rfl rfl (by omega) (fun h17 => ?_) (fun h17 => by exfalso; omega)
  refine zw_iload_n (i := 2) (nx := 28) C dX6_gives_27 rfl rfl rfl ?_
  refine zw_iconst (nx := 29) C dX6_gives_28 rfl ?_
  refine zw_icmp_ne (tgt := 44) (nx := 32) C dX6_gives_29 rfl rfl (by omega) (fun h29 => ?_) (fun h29 => by exfalso; omega)
  refine zw_iload_n (i := 2) (nx := 45) C dX6_gives_44 rfl rfl rfl ?_
  refine zw_ist3 (nx := 46) C (eIst_n dX6_gives_45 rfl rfl) (Nat.le_of_ble_eq_true rfl) rfl ?_
  refine zw_iload_n (i := 3) (nx := 47) C dX6_gives_46 rfl rfl rfl ?_
  refine zw_iconst (nx := 48) C dX6_gives_47 rfl ?_
  refine zw_icmp_ne (tgt := 53) (nx := 51) C dX6_gives_48 rfl rfl (by omega) (fun h48 => ?_) (fun h48 => by exfalso; omega)
  refine zw_aload_n (i := 0) (nx := 54) C dX6_gives_53 rfl rfl rfl ?_
  refine zw_getr (nx := 57) C dX6_gives_54 rfl flX6_12 iq5 rfl rfl rfl rfl ?_
  refine zw_iload_n (i := 1) (nx := 58) C dX6_gives_57 rfl rfl rfl ?_
  refine zw_iload_n (i := 3) (nx := 59) C dX6_gives_58 rfl rfl rfl ?_
  refine zw_cV21 (nx := 62) C dX6_gives_59 rfl cvX6_172 rfl rfl ⟨Nat.le_of_ble_eq_true rfl, Nat.le_of_ble_eq_true rfl⟩ rfl rfl (Nat.le_of_ble_eq_true rfl) (ro X) ?_
  refine zw_if_eq (tgt := 77) (nx := 65) C dX6_gives_62 rfl rfl (by omega) (fun h62 => by exfalso; omega) (fun h62 => ?_)
  refine zw_aload_n (i := 0) (nx := 66) C dX6_gives_65 rfl rfl rfl ?_
  refine zw_getr (nx := 69) C dX6_gives_66 rfl flX6_12 iq5 rfl rfl rfl rfl ?_
  refine zw_iload_n (i := 1) (nx := 70) C dX6_gives_69 rfl rfl rfl ?_
  refine zw_iload_n (i := 3) (nx := 71) C dX6_gives_70 rfl rfl rfl ?_
  refine zw_cV21 (nx := 74) C dX6_gives_71 rfl cvX6_178 rfl rfl ⟨Nat.le_of_ble_eq_true rfl, Nat.le_of_ble_eq_true rfl⟩ rfl rfl (Nat.le_of_ble_eq_true rfl) (run_X2_bid hc hp hy) ?_
  refine zw_goto (nx := 81) C dX6_gives_74 rfl ?_
  exact zw_iret C hA hr hk dX6_gives_81 rfl rfl
theorem run_X6_gives_no {n p y : Nat} (hc : cOk ζ n) (hp : p < n) (hy : y < 8) (ho : sOpn (cV ζ) n p y = false) : zRun l B mX6_gives [.ref 0, zi p, zi y] ζ (some (zi (-3))) (noS ζ) := by
  have hn := hc.1.1
  have ro := fun X : eX => run_X2_isOpenTo (l := xLa X) (B := B) hc (p := p) (y := y) (by omega) (by omega)
  rw [ho, show b2i false = 0 from rfl] at ro
  refine zrun_intro (M := mX6_gives) (ls := [some (.ref 0), some (zi p), some (zi y), none]) (by decide) rfl rfl rfl (Nat.le_of_ble_eq_true rfl) ?_
  intro X A C hX hA hr hk
  replace C : CX X B A mX6_gives.2.2.2.2 RX6 cX6_gives 4 0 0 := C
  have hr : (xMeth X).sig.returnType = (some .int) := hr
  change ZW X B A 4 0 0 _ _ 0 [some (.ref 0), some (zi p), some (zi y), none] []
  refine zw_aload_n (i := 0) (nx := 1) C dX6_gives_0 rfl rfl rfl ?_
  refine zw_iload_n (i := 1) (nx := 2) C dX6_gives_1 rfl rfl rfl ?_
  refine zw_cV11 (nx := 5) C dX6_gives_2 rfl cvX6_151 rfl rfl ⟨Nat.le_of_ble_eq_true rfl, Nat.le_of_ble_eq_true rfl⟩ rfl rfl (Nat.le_of_ble_eq_true rfl) (run_X6_isBidder_t hc.1.1 hc.2.1 (by omega)) ?_
  refine zw_if_eq (tgt := 20) (nx := 8) C dX6_gives_5 rfl rfl (by omega) (fun h5 => by exfalso; omega) (fun h5 => ?_)
  refine zw_iload_n (i := 2) (nx := 9) C dX6_gives_8 rfl rfl rfl ?_
  refine zw_iconst (nx := 10) C dX6_gives_9 rfl ?_
  refine zw_icmp_eq (tgt := 27) (nx := 13) C dX6_gives_10 rfl rfl (by omega) (fun h10 => by exfalso; omega) (fun h10 => ?_)
  refine zw_iload_n (i := 2) (nx := 14) C dX6_gives_13 rfl rfl rfl ?_
  refine zw_cS11 (nx := 17) C dX6_gives_14 rfl csX6_91 ⟨Nat.le_of_ble_eq_true rfl, Nat.le_of_ble_eq_true rfl⟩ (Nat.le_of_ble_eq_true rfl) (run_X6_isYard_t (by omega)) ?_
  refine zw_if_ne (tgt := 27) (nx := 20) C dX6_gives_17 rfl rfl (by omega) (fun h17 => ?_) (fun h17 => by exfalso; omega)
  refine zw_iload_n (i := 2) (nx := 28) C dX6_gives_27 rfl rfl rfl ?_
  refine zw_iconst (nx := 29) C dX6_gives_28 rfl ?_
  refine zw_icmp_ne (tgt := 44) (nx := 32) C dX6_gives_29 rfl rfl (by omega) (fun h29 => ?_) (fun h29 => by exfalso; omega)
  refine zw_iload_n (i := 2) (nx := 45) C dX6_gives_44 rfl rfl rfl ?_
  refine zw_ist3 (nx := 46) C (eIst_n dX6_gives_45 rfl rfl) (Nat.le_of_ble_eq_true rfl) rfl ?_
  refine zw_iload_n (i := 3) (nx := 47) C dX6_gives_46 rfl rfl rfl ?_
  refine zw_iconst (nx := 48) C dX6_gives_47 rfl ?_
  refine zw_icmp_ne (tgt := 53) (nx := 51) C dX6_gives_48 rfl rfl (by omega) (fun h48 => ?_) (fun h48 => by exfalso; omega)
  refine zw_aload_n (i := 0) (nx := 54) C dX6_gives_53 rfl rfl rfl ?_
  refine zw_getr (nx := 57) C dX6_gives_54 rfl flX6_12 iq5 rfl rfl rfl rfl ?_
  refine zw_iload_n (i := 1) (nx := 58) C dX6_gives_57 rfl rfl rfl ?_
  refine zw_iload_n (i := 3) (nx := 59) C dX6_gives_58 rfl rfl rfl ?_
  refine zw_cV21 (nx := 62) C dX6_gives_59 rfl cvX6_172 rfl rfl ⟨Nat.le_of_ble_eq_true rfl, Nat.le_of_ble_eq_true rfl⟩ rfl rfl (Nat.le_of_ble_eq_true rfl) (ro X) ?_
  refine zw_if_eq (tgt := 77) (nx := 65) C dX6_gives_62 rfl rfl (by omega) (fun h62 => ?_) (fun h62 => by exfalso; omega)
  refine zw_aload_n (i := 0) (nx := 78) C dX6_gives_77 rfl rfl rfl ?_
  refine zw_cV01 (nx := 81) C dX6_gives_78 rfl cvX6_130 rfl rfl ⟨Nat.le_of_ble_eq_true rfl, Nat.le_of_ble_eq_true rfl⟩ rfl rfl (Nat.le_of_ble_eq_true rfl) run_X6_no ?_
  exact zw_iret C hA hr hk dX6_gives_81 rfl rfl
theorem run_X6_auction_bad {y w : Int} (hy : -2147483648 ≤ y ∧ y ≤ 2147483647) (hw : -2147483648 ≤ w ∧ w ≤ 2147483647) (h : ¬ ((0 ≤ y ∧ y ≤ 7) ∧ (0 ≤ w ∧ w ≤ 1))) : zRun l B mX6_auction [.ref 0, zi y, zi w] ζ (some (zi (-2))) (bdS ζ) := by
  refine zrun_intro (M := mX6_auction) (ls := [some (.ref 0), some (zi y), some (zi w), none]) (by decide) rfl rfl rfl (Nat.le_of_ble_eq_true rfl) ?_
  intro X A C hX hA hr hk
  replace C : CX X B A mX6_auction.2.2.2.2 RX6 cX6_auction 4 0 0 := C
  have hr : (xMeth X).sig.returnType = (some .int) := hr
  change ZW X B A 4 0 0 _ _ 0 [some (.ref 0), some (zi y), some (zi w), none] []
  by_cases h1 : 0 ≤ y ∧ y ≤ 7
  · refine zw_iload_n (i := 1) (nx := 1) C dX6_auction_0 rfl rfl rfl ?_
    refine zw_cS11 (nx := 4) C dX6_auction_1 rfl csX6_91 ⟨Nat.le_of_ble_eq_true rfl, Nat.le_of_ble_eq_true rfl⟩ (Nat.le_of_ble_eq_true rfl) (run_X6_isYard_t h1) ?_
    refine zw_if_eq (tgt := 15) (nx := 7) C dX6_auction_4 rfl rfl (by omega) (fun h4 => by exfalso; omega) (fun h4 => ?_)
    refine zw_iload_n (i := 2) (nx := 8) C dX6_auction_7 rfl rfl rfl ?_
    refine zw_iconst (nx := 9) C dX6_auction_8 rfl ?_
    refine zw_cS21 (nx := 12) C dX6_auction_9 rfl csX6_95 ⟨Nat.le_of_ble_eq_true rfl, Nat.le_of_ble_eq_true rfl⟩ (Nat.le_of_ble_eq_true rfl) (run_X6_within_f hw (by omega) (fun q => h ⟨h1, q⟩)) ?_
    refine zw_if_ne (tgt := 22) (nx := 15) C dX6_auction_12 rfl rfl (by omega) (fun h12 => by exfalso; omega) (fun h12 => ?_)
    refine zw_aload_n (i := 0) (nx := 16) C dX6_auction_15 rfl rfl rfl ?_
    refine zw_bipush (v := -2) (nx := 18) C dX6_auction_16 (by decide) rfl ?_
    refine zw_cV11 (nx := 21) C dX6_auction_18 rfl cvX6_71 rfl rfl ⟨Nat.le_of_ble_eq_true rfl, Nat.le_of_ble_eq_true rfl⟩ rfl rfl (Nat.le_of_ble_eq_true rfl) run_X6_bad ?_
    exact zw_iret C hA hr hk dX6_auction_21 rfl rfl
  · refine zw_iload_n (i := 1) (nx := 1) C dX6_auction_0 rfl rfl rfl ?_
    refine zw_cS11 (nx := 4) C dX6_auction_1 rfl csX6_91 ⟨Nat.le_of_ble_eq_true rfl, Nat.le_of_ble_eq_true rfl⟩ (Nat.le_of_ble_eq_true rfl) (run_X6_isYard_f hy h1) ?_
    refine zw_if_eq (tgt := 15) (nx := 7) C dX6_auction_4 rfl rfl (by omega) (fun h4 => ?_) (fun h4 => by exfalso; omega)
    refine zw_aload_n (i := 0) (nx := 16) C dX6_auction_15 rfl rfl rfl ?_
    refine zw_bipush (v := -2) (nx := 18) C dX6_auction_16 (by decide) rfl ?_
    refine zw_cV11 (nx := 21) C dX6_auction_18 rfl cvX6_71 rfl rfl ⟨Nat.le_of_ble_eq_true rfl, Nat.le_of_ble_eq_true rfl⟩ rfl rfl (Nat.le_of_ble_eq_true rfl) run_X6_bad ?_
    exact zw_iret C hA hr hk dX6_auction_21 rfl rfl
theorem run_X6_auction_no {n y : Nat} {w : Int} (hc : cOk ζ n) (hy : y < 8) (hw : 0 ≤ w ∧ w ≤ 1) (h : sHol (cV ζ) y 0 n ≠ -1) : zRun l B mX6_auction [.ref 0, zi y, zi w] ζ (some (zi (-3))) (noS ζ) := by
  have hn := hc.1.1
  have hb := sHol_bd (cV ζ) y n 0
  refine zrun_intro (M := mX6_auction) (ls := [some (.ref 0), some (zi y), some (zi w), none]) (by decide) rfl rfl rfl (Nat.le_of_ble_eq_true rfl) ?_
  intro X A C hX hA hr hk
  replace C : CX X B A mX6_auction.2.2.2.2 RX6 cX6_auction 4 0 0 := C
  have hr : (xMeth X).sig.returnType = (some .int) := hr
  change ZW X B A 4 0 0 _ _ 0 [some (.ref 0), some (zi y), some (zi w), none] []
  refine zw_iload_n (i := 1) (nx := 1) C dX6_auction_0 rfl rfl rfl ?_
  refine zw_cS11 (nx := 4) C dX6_auction_1 rfl csX6_91 ⟨Nat.le_of_ble_eq_true rfl, Nat.le_of_ble_eq_true rfl⟩ (Nat.le_of_ble_eq_true rfl) (run_X6_isYard_t (by omega)) ?_
  refine zw_if_eq (tgt := 15) (nx := 7) C dX6_auction_4 rfl rfl (by omega) (fun h4 => by exfalso; omega) (fun h4 => ?_)
  refine zw_iload_n (i := 2) (nx := 8) C dX6_auction_7 rfl rfl rfl ?_
  refine zw_iconst (nx := 9) C dX6_auction_8 rfl ?_
  refine zw_cS21 (nx := 12) C dX6_auction_9 rfl csX6_95 ⟨Nat.le_of_ble_eq_true rfl, Nat.le_of_ble_eq_true rfl⟩ (Nat.le_of_ble_eq_true rfl) (run_X6_within_t (by omega) hw) ?_
  refine zw_if_ne (tgt := 22) (nx := 15) C dX6_auction_12 rfl rfl (by omega) (fun h12 => ?_) (fun h12 => by exfalso; omega)
  refine zw_aload_n (i := 0) (nx := 23) C dX6_auction_22 rfl rfl rfl ?_
  refine zw_getr (nx := 26) C dX6_auction_23 rfl flX6_12 iq5 rfl rfl rfl rfl ?_
  refine zw_iload_n (i := 1) (nx := 27) C dX6_auction_26 rfl rfl rfl ?_
  refine zw_cV11 (nx := 30) C dX6_auction_27 rfl cvX6_127 rfl rfl ⟨Nat.le_of_ble_eq_true rfl, Nat.le_of_ble_eq_true rfl⟩ rfl rfl (Nat.le_of_ble_eq_true rfl) (run_X2_holder hc (by omega)) ?_
  refine zw_iconst (nx := 31) C dX6_auction_30 rfl ?_
  refine zw_icmp_eq (tgt := 39) (nx := 34) C dX6_auction_31 rfl rfl (by omega) (fun h31 => by exfalso; omega) (fun h31 => ?_)
  refine zw_aload_n (i := 0) (nx := 35) C dX6_auction_34 rfl rfl rfl ?_
  refine zw_cV01 (nx := 38) C dX6_auction_35 rfl cvX6_130 rfl rfl ⟨Nat.le_of_ble_eq_true rfl, Nat.le_of_ble_eq_true rfl⟩ rfl rfl (Nat.le_of_ble_eq_true rfl) run_X6_no ?_
  exact zw_iret C hA hr hk dX6_auction_38 rfl rfl
theorem run_X6_auction_who {n y : Nat} {w : Int} (hc : cOk ζ n) (hy : y < 8) (hw : 0 ≤ w ∧ w ≤ 1) (h : sHol (cV ζ) y 0 n = -1) (h2 : (sTop (sOff (cV ζ) n y) n).1 = -1 ∨ w = 0) : zRun l B mX6_auction [.ref 0, zi y, zi w] ζ (some (zi (sTop (sOff (cV ζ) n y) n).1)) ζ := by
  have hn := hc.1.1
  have hbd := sTop_bd (f := sOff (cV ζ) n y) (n := n) (fun p hp => hc.1.off hp hy) n (Nat.le_refl n)
  refine zrun_intro (M := mX6_auction) (ls := [some (.ref 0), some (zi y), some (zi w), none]) (by decide) rfl rfl rfl (Nat.le_of_ble_eq_true rfl) ?_
  intro X A C hX hA hr hk
  replace C : CX X B A mX6_auction.2.2.2.2 RX6 cX6_auction 4 0 0 := C
  have hr : (xMeth X).sig.returnType = (some .int) := hr
  change ZW X B A 4 0 0 _ _ 0 [some (.ref 0), some (zi y), some (zi w), none] []
  by_cases h3 : (sTop (sOff (cV ζ) n y) n).1 = -1
  · refine zw_iload_n (i := 1) (nx := 1) C dX6_auction_0 rfl rfl rfl ?_
    refine zw_cS11 (nx := 4) C dX6_auction_1 rfl csX6_91 ⟨Nat.le_of_ble_eq_true rfl, Nat.le_of_ble_eq_true rfl⟩ (Nat.le_of_ble_eq_true rfl) (run_X6_isYard_t (by omega)) ?_
    refine zw_if_eq (tgt := 15) (nx := 7) C dX6_auction_4 rfl rfl (by omega) (fun h4 => by exfalso; omega) (fun h4 => ?_)
    refine zw_iload_n (i := 2) (nx := 8) C dX6_auction_7 rfl rfl rfl ?_
    refine zw_iconst (nx := 9) C dX6_auction_8 rfl ?_
    refine zw_cS21 (nx := 12) C dX6_auction_9 rfl csX6_95 ⟨Nat.le_of_ble_eq_true rfl, Nat.le_of_ble_eq_true rfl⟩ (Nat.le_of_ble_eq_true rfl) (run_X6_within_t (by omega) hw) ?_
    refine zw_if_ne (tgt := 22) (nx := 15) C dX6_auction_12 rfl rfl (by omega) (fun h12 => ?_) (fun h12 => by exfalso; omega)
    refine zw_aload_n (i := 0) (nx := 23) C dX6_auction_22 rfl rfl rfl ?_
    refine zw_getr (nx := 26) C dX6_auction_23 rfl flX6_12 iq5 rfl rfl rfl rfl ?_
    refine zw_iload_n (i := 1) (nx := 27) C dX6_auction_26 rfl rfl rfl ?_
    refine zw_cV11 (nx := 30) C dX6_auction_27 rfl cvX6_127 rfl rfl ⟨Nat.le_of_ble_eq_true rfl, Nat.le_of_ble_eq_true rfl⟩ rfl rfl (Nat.le_of_ble_eq_true rfl) (run_X2_holder hc (by omega)) ?_
    refine zw_iconst (nx := 31) C dX6_auction_30 rfl ?_
    refine zw_icmp_eq (tgt := 39) (nx := 34) C dX6_auction_31 rfl rfl (by omega) (fun h31 => ?_) (fun h31 => by exfalso; omega)
    refine zw_aload_n (i := 0) (nx := 40) C dX6_auction_39 rfl rfl rfl ?_
    refine zw_getr (nx := 43) C dX6_auction_40 rfl flX6_12 iq5 rfl rfl rfl rfl ?_
    refine zw_iload_n (i := 1) (nx := 44) C dX6_auction_43 rfl rfl rfl ?_
    refine zw_cV11 (nx := 47) C dX6_auction_44 rfl cvX6_133 rfl rfl ⟨Nat.le_of_ble_eq_true rfl, Nat.le_of_ble_eq_true rfl⟩ rfl rfl (Nat.le_of_ble_eq_true rfl) (run_X2_topBidder hc hy) ?_
    refine zw_ist3 (nx := 48) C (eIst_n dX6_auction_47 rfl rfl) (Nat.le_of_ble_eq_true rfl) rfl ?_
    refine zw_iload_n (i := 3) (nx := 49) C dX6_auction_48 rfl rfl rfl ?_
    refine zw_iconst (nx := 50) C dX6_auction_49 rfl ?_
    refine zw_icmp_eq (tgt := 57) (nx := 53) C dX6_auction_50 rfl rfl (by omega) (fun h50 => ?_) (fun h50 => by exfalso; omega)
    refine zw_iload_n (i := 3) (nx := 58) C dX6_auction_57 rfl rfl rfl ?_
    refine zw_goto (nx := 70) C dX6_auction_58 rfl ?_
    exact zw_iret C hA hr hk dX6_auction_70 rfl rfl
  · refine zw_iload_n (i := 1) (nx := 1) C dX6_auction_0 rfl rfl rfl ?_
    refine zw_cS11 (nx := 4) C dX6_auction_1 rfl csX6_91 ⟨Nat.le_of_ble_eq_true rfl, Nat.le_of_ble_eq_true rfl⟩ (Nat.le_of_ble_eq_true rfl) (run_X6_isYard_t (by omega)) ?_
    refine zw_if_eq (tgt := 15) (nx := 7) C dX6_auction_4 rfl rfl (by omega) (fun h4 => by exfalso; omega) (fun h4 => ?_)
    refine zw_iload_n (i := 2) (nx := 8) C dX6_auction_7 rfl rfl rfl ?_
    refine zw_iconst (nx := 9) C dX6_auction_8 rfl ?_
    refine zw_cS21 (nx := 12) C dX6_auction_9 rfl csX6_95 ⟨Nat.le_of_ble_eq_true rfl, Nat.le_of_ble_eq_true rfl⟩ (Nat.le_of_ble_eq_true rfl) (run_X6_within_t (by omega) hw) ?_
    refine zw_if_ne (tgt := 22) (nx := 15) C dX6_auction_12 rfl rfl (by omega) (fun h12 => ?_) (fun h12 => by exfalso; omega)
    refine zw_aload_n (i := 0) (nx := 23) C dX6_auction_22 rfl rfl rfl ?_
    refine zw_getr (nx := 26) C dX6_auction_23 rfl flX6_12 iq5 rfl rfl rfl rfl ?_
    refine zw_iload_n (i := 1) (nx := 27) C dX6_auction_26 rfl rfl rfl ?_
    refine zw_cV11 (nx := 30) C dX6_auction_27 rfl cvX6_127 rfl rfl ⟨Nat.le_of_ble_eq_true rfl, Nat.le_of_ble_eq_true rfl⟩ rfl rfl (Nat.le_of_ble_eq_true rfl) (run_X2_holder hc (by omega)) ?_
    refine zw_iconst (nx := 31) C dX6_auction_30 rfl ?_
    refine zw_icmp_eq (tgt := 39) (nx := 34) C dX6_auction_31 rfl rfl (by omega) (fun h31 => ?_) (fun h31 => by exfalso; omega)
    refine zw_aload_n (i := 0) (nx := 40) C dX6_auction_39 rfl rfl rfl ?_
    refine zw_getr (nx := 43) C dX6_auction_40 rfl flX6_12 iq5 rfl rfl rfl rfl ?_
    refine zw_iload_n (i := 1) (nx := 44) C dX6_auction_43 rfl rfl rfl ?_
    refine zw_cV11 (nx := 47) C dX6_auction_44 rfl cvX6_133 rfl rfl ⟨Nat.le_of_ble_eq_true rfl, Nat.le_of_ble_eq_true rfl⟩ rfl rfl (Nat.le_of_ble_eq_true rfl) (run_X2_topBidder hc hy) ?_
    refine zw_ist3 (nx := 48) C (eIst_n dX6_auction_47 rfl rfl) (Nat.le_of_ble_eq_true rfl) rfl ?_
    refine zw_iload_n (i := 3) (nx := 49) C dX6_auction_48 rfl rfl rfl ?_
    refine zw_iconst (nx := 50) C dX6_auction_49 rfl ?_
    refine zw_icmp_eq (tgt := 57) (nx := 53) C dX6_auction_50 rfl rfl (by omega) (fun h50 => by exfalso; omega) (fun h50 => ?_)
    refine zw_iload_n (i := 2) (nx := 54) C dX6_auction_53 rfl rfl rfl ?_
    refine zw_if_ne (tgt := 61) (nx := 57) C dX6_auction_54 rfl rfl (by omega) (fun h54 => by exfalso; omega) (fun h54 => ?_)
    refine zw_iload_n (i := 3) (nx := 58) C dX6_auction_57 rfl rfl rfl ?_
    refine zw_goto (nx := 70) C dX6_auction_58 rfl ?_
    exact zw_iret C hA hr hk dX6_auction_70 rfl rfl
theorem run_X6_auction_price {n y : Nat} {w : Int} (hc : cOk ζ n) (hy : y < 8) (hw : w = 1) (h : sHol (cV ζ) y 0 n = -1) (h2 : (sTop (sOff (cV ζ) n y) n).1 ≠ -1) : zRun l B mX6_auction [.ref 0, zi y, zi w] ζ (some (zi (sPri (sOff (cV ζ) n y) (sTop (sOff (cV ζ) n y) n).1 n))) ζ := by
  have hn := hc.1.1
  have hbd := sTop_bd (f := sOff (cV ζ) n y) (n := n) (fun p hp => hc.1.off hp hy) n (Nat.le_refl n)
  refine zrun_intro (M := mX6_auction) (ls := [some (.ref 0), some (zi y), some (zi w), none]) (by decide) rfl rfl rfl (Nat.le_of_ble_eq_true rfl) ?_
  intro X A C hX hA hr hk
  replace C : CX X B A mX6_auction.2.2.2.2 RX6 cX6_auction 4 0 0 := C
  have hr : (xMeth X).sig.returnType = (some .int) := hr
  change ZW X B A 4 0 0 _ _ 0 [some (.ref 0), some (zi y), some (zi w), none] []
  refine zw_iload_n (i := 1) (nx := 1) C dX6_auction_0 rfl rfl rfl ?_
  refine zw_cS11 (nx := 4) C dX6_auction_1 rfl csX6_91 ⟨Nat.le_of_ble_eq_true rfl, Nat.le_of_ble_eq_true rfl⟩ (Nat.le_of_ble_eq_true rfl) (run_X6_isYard_t (by omega)) ?_
  refine zw_if_eq (tgt := 15) (nx := 7) C dX6_auction_4 rfl rfl (by omega) (fun h4 => by exfalso; omega) (fun h4 => ?_)
  refine zw_iload_n (i := 2) (nx := 8) C dX6_auction_7 rfl rfl rfl ?_
  refine zw_iconst (nx := 9) C dX6_auction_8 rfl ?_
  refine zw_cS21 (nx := 12) C dX6_auction_9 rfl csX6_95 ⟨Nat.le_of_ble_eq_true rfl, Nat.le_of_ble_eq_true rfl⟩ (Nat.le_of_ble_eq_true rfl) (run_X6_within_t (by omega) (by omega)) ?_
  refine zw_if_ne (tgt := 22) (nx := 15) C dX6_auction_12 rfl rfl (by omega) (fun h12 => ?_) (fun h12 => by exfalso; omega)
  refine zw_aload_n (i := 0) (nx := 23) C dX6_auction_22 rfl rfl rfl ?_
  refine zw_getr (nx := 26) C dX6_auction_23 rfl flX6_12 iq5 rfl rfl rfl rfl ?_
  refine zw_iload_n (i := 1) (nx := 27) C dX6_auction_26 rfl rfl rfl ?_
  refine zw_cV11 (nx := 30) C dX6_auction_27 rfl cvX6_127 rfl rfl ⟨Nat.le_of_ble_eq_true rfl, Nat.le_of_ble_eq_true rfl⟩ rfl rfl (Nat.le_of_ble_eq_true rfl) (run_X2_holder hc (by omega)) ?_
  refine zw_iconst (nx := 31) C dX6_auction_30 rfl ?_
  refine zw_icmp_eq (tgt := 39) (nx := 34) C dX6_auction_31 rfl rfl (by omega) (fun h31 => ?_) (fun h31 => by exfalso; omega)
  refine zw_aload_n (i := 0) (nx := 40) C dX6_auction_39 rfl rfl rfl ?_
  refine zw_getr (nx := 43) C dX6_auction_40 rfl flX6_12 iq5 rfl rfl rfl rfl ?_
  refine zw_iload_n (i := 1) (nx := 44) C dX6_auction_43 rfl rfl rfl ?_
  refine zw_cV11 (nx := 47) C dX6_auction_44 rfl cvX6_133 rfl rfl ⟨Nat.le_of_ble_eq_true rfl, Nat.le_of_ble_eq_true rfl⟩ rfl rfl (Nat.le_of_ble_eq_true rfl) (run_X2_topBidder hc hy) ?_
  refine zw_ist3 (nx := 48) C (eIst_n dX6_auction_47 rfl rfl) (Nat.le_of_ble_eq_true rfl) rfl ?_
  refine zw_iload_n (i := 3) (nx := 49) C dX6_auction_48 rfl rfl rfl ?_
  refine zw_iconst (nx := 50) C dX6_auction_49 rfl ?_
  refine zw_icmp_eq (tgt := 57) (nx := 53) C dX6_auction_50 rfl rfl (by omega) (fun h50 => by exfalso; omega) (fun h50 => ?_)
  refine zw_iload_n (i := 2) (nx := 54) C dX6_auction_53 rfl rfl rfl ?_
  refine zw_if_ne (tgt := 61) (nx := 57) C dX6_auction_54 rfl rfl (by omega) (fun h54 => ?_) (fun h54 => by exfalso; omega)
  refine zw_aload_n (i := 0) (nx := 62) C dX6_auction_61 rfl rfl rfl ?_
  refine zw_getr (nx := 65) C dX6_auction_62 rfl flX6_12 iq5 rfl rfl rfl rfl ?_
  refine zw_iload_n (i := 1) (nx := 66) C dX6_auction_65 rfl rfl rfl ?_
  refine zw_iload_n (i := 3) (nx := 67) C dX6_auction_66 rfl rfl rfl ?_
  refine zw_cV21 (nx := 70) C dX6_auction_67 rfl cvX6_136 rfl rfl ⟨Nat.le_of_ble_eq_true rfl, Nat.le_of_ble_eq_true rfl⟩ rfl rfl (Nat.le_of_ble_eq_true rfl) (run_X2_price hc hy (by omega)) ?_
  exact zw_iret C hA hr hk dX6_auction_70 rfl rfl
theorem run_X6_hurt_bad {n : Nat} (hn : n ≤ 5) (hn3 : ζ.1 1 3 = n) {p y : Int} (hp : -2147483648 ≤ p ∧ p ≤ 2147483647) (hy : -2147483648 ≤ y ∧ y ≤ 2147483647) (h : ¬ ((0 ≤ p ∧ p < n) ∧ (0 ≤ y ∧ y ≤ 7))) : zRun l B mX6_hurt [.ref 0, zi p, zi y] ζ (some (zi (-2))) (bdS ζ) := by
  refine zrun_intro (M := mX6_hurt) (ls := [some (.ref 0), some (zi p), some (zi y)]) (by decide) rfl rfl rfl (Nat.le_of_ble_eq_true rfl) ?_
  intro X A C hX hA hr hk
  replace C : CX X B A mX6_hurt.2.2.2.2 RX6 cX6_hurt 3 0 0 := C
  have hr : (xMeth X).sig.returnType = (some .int) := hr
  change ZW X B A 3 0 0 _ _ 0 [some (.ref 0), some (zi p), some (zi y)] []
  by_cases h1 : 0 ≤ p ∧ p < n
  · refine zw_aload_n (i := 0) (nx := 1) C dX6_hurt_0 rfl rfl rfl ?_
    refine zw_iload_n (i := 1) (nx := 2) C dX6_hurt_1 rfl rfl rfl ?_
    refine zw_cV11 (nx := 5) C dX6_hurt_2 rfl cvX6_151 rfl rfl ⟨Nat.le_of_ble_eq_true rfl, Nat.le_of_ble_eq_true rfl⟩ rfl rfl (Nat.le_of_ble_eq_true rfl) (run_X6_isBidder_t hn hn3 h1) ?_
    refine zw_if_eq (tgt := 15) (nx := 8) C dX6_hurt_5 rfl rfl (by omega) (fun h5 => by exfalso; omega) (fun h5 => ?_)
    refine zw_iload_n (i := 2) (nx := 9) C dX6_hurt_8 rfl rfl rfl ?_
    refine zw_cS11 (nx := 12) C dX6_hurt_9 rfl csX6_91 ⟨Nat.le_of_ble_eq_true rfl, Nat.le_of_ble_eq_true rfl⟩ (Nat.le_of_ble_eq_true rfl) (run_X6_isYard_f hy (fun q => h ⟨h1, q⟩)) ?_
    refine zw_if_ne (tgt := 22) (nx := 15) C dX6_hurt_12 rfl rfl (by omega) (fun h12 => by exfalso; omega) (fun h12 => ?_)
    refine zw_aload_n (i := 0) (nx := 16) C dX6_hurt_15 rfl rfl rfl ?_
    refine zw_bipush (v := -2) (nx := 18) C dX6_hurt_16 (by decide) rfl ?_
    refine zw_cV11 (nx := 21) C dX6_hurt_18 rfl cvX6_71 rfl rfl ⟨Nat.le_of_ble_eq_true rfl, Nat.le_of_ble_eq_true rfl⟩ rfl rfl (Nat.le_of_ble_eq_true rfl) run_X6_bad ?_
    exact zw_iret C hA hr hk dX6_hurt_21 rfl rfl
  · refine zw_aload_n (i := 0) (nx := 1) C dX6_hurt_0 rfl rfl rfl ?_
    refine zw_iload_n (i := 1) (nx := 2) C dX6_hurt_1 rfl rfl rfl ?_
    refine zw_cV11 (nx := 5) C dX6_hurt_2 rfl cvX6_151 rfl rfl ⟨Nat.le_of_ble_eq_true rfl, Nat.le_of_ble_eq_true rfl⟩ rfl rfl (Nat.le_of_ble_eq_true rfl) (run_X6_isBidder_f hn hn3 hp h1) ?_
    refine zw_if_eq (tgt := 15) (nx := 8) C dX6_hurt_5 rfl rfl (by omega) (fun h5 => ?_) (fun h5 => by exfalso; omega)
    refine zw_aload_n (i := 0) (nx := 16) C dX6_hurt_15 rfl rfl rfl ?_
    refine zw_bipush (v := -2) (nx := 18) C dX6_hurt_16 (by decide) rfl ?_
    refine zw_cV11 (nx := 21) C dX6_hurt_18 rfl cvX6_71 rfl rfl ⟨Nat.le_of_ble_eq_true rfl, Nat.le_of_ble_eq_true rfl⟩ rfl rfl (Nat.le_of_ble_eq_true rfl) run_X6_bad ?_
    exact zw_iret C hA hr hk dX6_hurt_21 rfl rfl
theorem run_X6_hurt_in {n p y : Nat} (hc : cOk ζ n) (hp : p < n) (hy : y < 8) (ho : sOpn (cV ζ) n p y = true) : zRun l B mX6_hurt [.ref 0, zi p, zi y] ζ (some (zi (sSum (sHurt (cV ζ) n p y) n))) ζ := by
  have hn := hc.1.1
  have ro := fun X : eX => run_X2_isOpenTo (l := xLa X) (B := B) hc (p := p) (y := y) (by omega) (by omega)
  rw [ho, show b2i true = 1 from rfl] at ro
  refine zrun_intro (M := mX6_hurt) (ls := [some (.ref 0), some (zi p), some (zi y)]) (by decide) rfl rfl rfl (Nat.le_of_ble_eq_true rfl) ?_
  intro X A C hX hA hr hk
  replace C : CX X B A mX6_hurt.2.2.2.2 RX6 cX6_hurt 3 0 0 := C
  have hr : (xMeth X).sig.returnType = (some .int) := hr
  change ZW X B A 3 0 0 _ _ 0 [some (.ref 0), some (zi p), some (zi y)] []
  refine zw_aload_n (i := 0) (nx := 1) C dX6_hurt_0 rfl rfl rfl ?_
  refine zw_iload_n (i := 1) (nx := 2) C dX6_hurt_1 rfl rfl rfl ?_
  refine zw_cV11 (nx := 5) C dX6_hurt_2 rfl cvX6_151 rfl rfl ⟨Nat.le_of_ble_eq_true rfl, Nat.le_of_ble_eq_true rfl⟩ rfl rfl (Nat.le_of_ble_eq_true rfl) (run_X6_isBidder_t hc.1.1 hc.2.1 (by omega)) ?_
  refine zw_if_eq (tgt := 15) (nx := 8) C dX6_hurt_5 rfl rfl (by omega) (fun h5 => by exfalso; omega) (fun h5 => ?_)
  refine zw_iload_n (i := 2) (nx := 9) C dX6_hurt_8 rfl rfl rfl ?_
  refine zw_cS11 (nx := 12) C dX6_hurt_9 rfl csX6_91 ⟨Nat.le_of_ble_eq_true rfl, Nat.le_of_ble_eq_true rfl⟩ (Nat.le_of_ble_eq_true rfl) (run_X6_isYard_t (by omega)) ?_
  refine zw_if_ne (tgt := 22) (nx := 15) C dX6_hurt_12 rfl rfl (by omega) (fun h12 => ?_) (fun h12 => by exfalso; omega)
  refine zw_aload_n (i := 0) (nx := 23) C dX6_hurt_22 rfl rfl rfl ?_
  refine zw_getr (nx := 26) C dX6_hurt_23 rfl flX6_12 iq5 rfl rfl rfl rfl ?_
  refine zw_iload_n (i := 1) (nx := 27) C dX6_hurt_26 rfl rfl rfl ?_
  refine zw_iload_n (i := 2) (nx := 28) C dX6_hurt_27 rfl rfl rfl ?_
  refine zw_cV21 (nx := 31) C dX6_hurt_28 rfl cvX6_172 rfl rfl ⟨Nat.le_of_ble_eq_true rfl, Nat.le_of_ble_eq_true rfl⟩ rfl rfl (Nat.le_of_ble_eq_true rfl) (ro X) ?_
  refine zw_if_eq (tgt := 46) (nx := 34) C dX6_hurt_31 rfl rfl (by omega) (fun h31 => by exfalso; omega) (fun h31 => ?_)
  refine zw_aload_n (i := 0) (nx := 35) C dX6_hurt_34 rfl rfl rfl ?_
  refine zw_getr (nx := 38) C dX6_hurt_35 rfl flX6_12 iq5 rfl rfl rfl rfl ?_
  refine zw_iload_n (i := 1) (nx := 39) C dX6_hurt_38 rfl rfl rfl ?_
  refine zw_iload_n (i := 2) (nx := 40) C dX6_hurt_39 rfl rfl rfl ?_
  refine zw_cV21 (nx := 43) C dX6_hurt_40 rfl cvX6_181 rfl rfl ⟨Nat.le_of_ble_eq_true rfl, Nat.le_of_ble_eq_true rfl⟩ rfl rfl (Nat.le_of_ble_eq_true rfl) (run_X2_harm hc hp hy) ?_
  refine zw_goto (nx := 50) C dX6_hurt_43 rfl ?_
  exact zw_iret C hA hr hk dX6_hurt_50 rfl rfl
theorem run_X6_hurt_no {n p y : Nat} (hc : cOk ζ n) (hp : p < n) (hy : y < 8) (ho : sOpn (cV ζ) n p y = false) : zRun l B mX6_hurt [.ref 0, zi p, zi y] ζ (some (zi (-3))) (noS ζ) := by
  have hn := hc.1.1
  have ro := fun X : eX => run_X2_isOpenTo (l := xLa X) (B := B) hc (p := p) (y := y) (by omega) (by omega)
  rw [ho, show b2i false = 0 from rfl] at ro
  refine zrun_intro (M := mX6_hurt) (ls := [some (.ref 0), some (zi p), some (zi y)]) (by decide) rfl rfl rfl (Nat.le_of_ble_eq_true rfl) ?_
  intro X A C hX hA hr hk
  replace C : CX X B A mX6_hurt.2.2.2.2 RX6 cX6_hurt 3 0 0 := C
  have hr : (xMeth X).sig.returnType = (some .int) := hr
  change ZW X B A 3 0 0 _ _ 0 [some (.ref 0), some (zi p), some (zi y)] []
  refine zw_aload_n (i := 0) (nx := 1) C dX6_hurt_0 rfl rfl rfl ?_
  refine zw_iload_n (i := 1) (nx := 2) C dX6_hurt_1 rfl rfl rfl ?_
  refine zw_cV11 (nx := 5) C dX6_hurt_2 rfl cvX6_151 rfl rfl ⟨Nat.le_of_ble_eq_true rfl, Nat.le_of_ble_eq_true rfl⟩ rfl rfl (Nat.le_of_ble_eq_true rfl) (run_X6_isBidder_t hc.1.1 hc.2.1 (by omega)) ?_
  refine zw_if_eq (tgt := 15) (nx := 8) C dX6_hurt_5 rfl rfl (by omega) (fun h5 => by exfalso; omega) (fun h5 => ?_)
  refine zw_iload_n (i := 2) (nx := 9) C dX6_hurt_8 rfl rfl rfl ?_
  refine zw_cS11 (nx := 12) C dX6_hurt_9 rfl csX6_91 ⟨Nat.le_of_ble_eq_true rfl, Nat.le_of_ble_eq_true rfl⟩ (Nat.le_of_ble_eq_true rfl) (run_X6_isYard_t (by omega)) ?_
  refine zw_if_ne (tgt := 22) (nx := 15) C dX6_hurt_12 rfl rfl (by omega) (fun h12 => ?_) (fun h12 => by exfalso; omega)
  refine zw_aload_n (i := 0) (nx := 23) C dX6_hurt_22 rfl rfl rfl ?_
  refine zw_getr (nx := 26) C dX6_hurt_23 rfl flX6_12 iq5 rfl rfl rfl rfl ?_
  refine zw_iload_n (i := 1) (nx := 27) C dX6_hurt_26 rfl rfl rfl ?_
  refine zw_iload_n (i := 2) (nx := 28) C dX6_hurt_27 rfl rfl rfl ?_
  refine zw_cV21 (nx := 31) C dX6_hurt_28 rfl cvX6_172 rfl rfl ⟨Nat.le_of_ble_eq_true rfl, Nat.le_of_ble_eq_true rfl⟩ rfl rfl (Nat.le_of_ble_eq_true rfl) (ro X) ?_
  refine zw_if_eq (tgt := 46) (nx := 34) C dX6_hurt_31 rfl rfl (by omega) (fun h31 => ?_) (fun h31 => by exfalso; omega)
  refine zw_aload_n (i := 0) (nx := 47) C dX6_hurt_46 rfl rfl rfl ?_
  refine zw_cV01 (nx := 50) C dX6_hurt_47 rfl cvX6_130 rfl rfl ⟨Nat.le_of_ble_eq_true rfl, Nat.le_of_ble_eq_true rfl⟩ rfl rfl (Nat.le_of_ble_eq_true rfl) run_X6_no ?_
  exact zw_iret C hA hr hk dX6_hurt_50 rfl rfl
theorem run_X6_best_bad {n : Nat} (hn : n ≤ 5) (hn3 : ζ.1 1 3 = n) {p w : Int} (hp : -2147483648 ≤ p ∧ p ≤ 2147483647) (hw : -2147483648 ≤ w ∧ w ≤ 2147483647) (h : ¬ ((0 ≤ p ∧ p < n) ∧ (0 ≤ w ∧ w ≤ 1))) : zRun l B mX6_best [.ref 0, zi p, zi w] ζ (some (zi (-10000))) (bdS ζ) := by
  refine zrun_intro (M := mX6_best) (ls := [some (.ref 0), some (zi p), some (zi w), none, none, none, none]) (by decide) rfl rfl rfl (Nat.le_of_ble_eq_true rfl) ?_
  intro X A C hX hA hr hk
  replace C : CX X B A mX6_best.2.2.2.2 RX6 cX6_best 7 0 0 := C
  have hr : (xMeth X).sig.returnType = (some .int) := hr
  change ZW X B A 7 0 0 _ _ 0 [some (.ref 0), some (zi p), some (zi w), none, none, none, none] []
  by_cases h1 : 0 ≤ p ∧ p < n
  · refine zw_aload_n (i := 0) (nx := 1) C dX6_best_0 rfl rfl rfl ?_
    refine zw_iload_n (i := 1) (nx := 2) C dX6_best_1 rfl rfl rfl ?_
    refine zw_cV11 (nx := 5) C dX6_best_2 rfl cvX6_151 rfl rfl ⟨Nat.le_of_ble_eq_true rfl, Nat.le_of_ble_eq_true rfl⟩ rfl rfl (Nat.le_of_ble_eq_true rfl) (run_X6_isBidder_t hn hn3 h1) ?_
    refine zw_if_eq (tgt := 16) (nx := 8) C dX6_best_5 rfl rfl (by omega) (fun h5 => by exfalso; omega) (fun h5 => ?_)
    refine zw_iload_n (i := 2) (nx := 9) C dX6_best_8 rfl rfl rfl ?_
    refine zw_iconst (nx := 10) C dX6_best_9 rfl ?_
    refine zw_cS21 (nx := 13) C dX6_best_10 rfl csX6_95 ⟨Nat.le_of_ble_eq_true rfl, Nat.le_of_ble_eq_true rfl⟩ (Nat.le_of_ble_eq_true rfl) (run_X6_within_f hw (by omega) (fun q => h ⟨h1, q⟩)) ?_
    refine zw_if_ne (tgt := 24) (nx := 16) C dX6_best_13 rfl rfl (by omega) (fun h13 => by exfalso; omega) (fun h13 => ?_)
    refine zw_aload_n (i := 0) (nx := 17) C dX6_best_16 rfl rfl rfl ?_
    refine zw_sipush (v := -10000) (nx := 20) C dX6_best_17 (by decide) rfl ?_
    refine zw_cV11 (nx := 23) C dX6_best_20 rfl cvX6_71 rfl rfl ⟨Nat.le_of_ble_eq_true rfl, Nat.le_of_ble_eq_true rfl⟩ rfl rfl (Nat.le_of_ble_eq_true rfl) run_X6_bad ?_
    exact zw_iret C hA hr hk dX6_best_23 rfl rfl
  · refine zw_aload_n (i := 0) (nx := 1) C dX6_best_0 rfl rfl rfl ?_
    refine zw_iload_n (i := 1) (nx := 2) C dX6_best_1 rfl rfl rfl ?_
    refine zw_cV11 (nx := 5) C dX6_best_2 rfl cvX6_151 rfl rfl ⟨Nat.le_of_ble_eq_true rfl, Nat.le_of_ble_eq_true rfl⟩ rfl rfl (Nat.le_of_ble_eq_true rfl) (run_X6_isBidder_f hn hn3 hp h1) ?_
    refine zw_if_eq (tgt := 16) (nx := 8) C dX6_best_5 rfl rfl (by omega) (fun h5 => ?_) (fun h5 => by exfalso; omega)
    refine zw_aload_n (i := 0) (nx := 17) C dX6_best_16 rfl rfl rfl ?_
    refine zw_sipush (v := -10000) (nx := 20) C dX6_best_17 (by decide) rfl ?_
    refine zw_cV11 (nx := 23) C dX6_best_20 rfl cvX6_71 rfl rfl ⟨Nat.le_of_ble_eq_true rfl, Nat.le_of_ble_eq_true rfl⟩ rfl rfl (Nat.le_of_ble_eq_true rfl) run_X6_bad ?_
    exact zw_iret C hA hr hk dX6_best_23 rfl rfl
theorem sAm_bd {ok : Nat → Bool} {f : Nat → Int} {z : Int × Int} {a b : Int} (hz : a ≤ z.2 ∧ z.2 ≤ b) {n : Nat} (h : ∀ p, p < n → a ≤ f p ∧ f p ≤ b) : ∀ p, p ≤ n → a ≤ (sAm ok f z p).2 ∧ (sAm ok f z p).2 ≤ b
  | 0, _ => hz
  | p + 1, hp => by
    unfold sAm
    split
    · exact h p (by omega)
    · exact sAm_bd hz h p (by omega)
set_option maxHeartbeats 4000000 in
theorem run_X6_best_ok {n p : Nat} {w : Int} (hc : cOk ζ n) (hp : p < n) (hw : 0 ≤ w ∧ w ≤ 1) : zRun l B mX6_best [.ref 0, zi p, zi w] ζ (some (zi (if w = 0 then (sBst (cV ζ) n p).1 else (sBst (cV ζ) n p).2))) ζ := by
  have hn := hc.1.1
  have hgb : ∀ y, y < 8 → -10000 ≤ sGain (cV ζ) n p y ∧ sGain (cV ζ) n p y ≤ 420 := fun y hy => by
    have := hc.1.win p hy
    have := hc.1.hurt p y
    unfold sGain; omega
  have hbd := sAm_bd (ok := fun y => sOpn (cV ζ) n p y) (f := sGain (cV ζ) n p) (z := (-1, -10000)) (a := -10000) (b := 420) ⟨by decide, by decide⟩ (n := 8) hgb
  refine zrun_intro (M := mX6_best) (ls := [some (.ref 0), some (zi p), some (zi w), none, none, none, none]) (by decide) rfl rfl rfl (Nat.le_of_ble_eq_true rfl) ?_
  intro X A C hX hA hr hk
  replace C : CX X B A mX6_best.2.2.2.2 RX6 cX6_best 7 0 0 := C
  have hr : (xMeth X).sig.returnType = (some .int) := hr
  change ZW X B A 7 0 0 _ _ 0 [some (.ref 0), some (zi p), some (zi w), none, none, none, none] []
  have loop : ∀ k y : Nat, y + k = 8 → ∀ o6 : Option Value, ZW X B A 7 0 0 (eFin X B (some (zi (if w = 0 then (sBst (cV ζ) n p).1 else (sBst (cV ζ) n p).2))) (zz ζ)) ζ 34 [some (.ref 0), some (zi p), some (zi w), some (zi (sAm (fun y => sOpn (cV ζ) n p y) (sGain (cV ζ) n p) (-1, -10000) y).1), some (zi (sAm (fun y => sOpn (cV ζ) n p y) (sGain (cV ζ) n p) (-1, -10000) y).2), some (zi y), o6] [] := by
    intro k
    induction k with
    | zero =>
      intro y hy o6
      have e : y = 8 := by omega
      subst e
      refine zw_iload (nx := 36) C dX6_best_34 rfl rfl ?_
      refine zw_bipush (v := 8) (nx := 38) C dX6_best_36 (by decide) rfl ?_
      refine zw_icmp_ge (tgt := 97) (nx := 41) C dX6_best_38 rfl rfl (by omega) (fun h38 => ?_) (fun h38 => by exfalso; omega)
      refine zw_iload_n (i := 2) (nx := 98) C dX6_best_97 rfl rfl rfl ?_
      refine zw_if_ne (tgt := 105) (nx := 101) C dX6_best_98 rfl rfl (by omega) (fun h98 => ?_) (fun h98 => ?_)
      · refine zw_iload (nx := 107) C dX6_best_105 rfl rfl ?_
        exact zw_iret C hA hr hk dX6_best_107 (zr (if_neg h98)) rfl
      · refine zw_iload_n (i := 3) (nx := 102) C dX6_best_101 rfl rfl rfl ?_
        refine zw_goto (nx := 107) C dX6_best_102 rfl ?_
        exact zw_iret C hA hr hk dX6_best_107 (zr (if_pos h98)) rfl
    | succ k ih =>
      intro y hy o6
      have hb1 := hbd y (by omega)
      have hb2 := hgb y (by omega)
      have go : ∀ o6 : Option Value, ¬ (sOpn (cV ζ) n p y = true ∧ (sAm (fun y => sOpn (cV ζ) n p y) (sGain (cV ζ) n p) (-1, -10000) y).2 < sGain (cV ζ) n p y) → ZW X B A 7 0 0 (eFin X B (some (zi (if w = 0 then (sBst (cV ζ) n p).1 else (sBst (cV ζ) n p).2))) (zz ζ)) ζ 91 [some (.ref 0), some (zi p), some (zi w), some (zi (sAm (fun y => sOpn (cV ζ) n p y) (sGain (cV ζ) n p) (-1, -10000) y).1), some (zi (sAm (fun y => sOpn (cV ζ) n p y) (sGain (cV ζ) n p) (-1, -10000) y).2), some (zi y), o6] [] := by
        intro o6 hno
        have e : sAm (fun y => sOpn (cV ζ) n p y) (sGain (cV ζ) n p) (-1, -10000) (y + 1) = sAm (fun y => sOpn (cV ζ) n p y) (sGain (cV ζ) n p) (-1, -10000) y := if_neg hno
        refine zw_iinc5 (nx := 94) C dX6_best_91 rfl (Nat.le_of_ble_eq_true rfl) rfl ?_
        refine zw_goto (nx := 34) C dX6_best_94 rfl ?_
        have := ih (y + 1) (by omega) o6
        rw [e] at this
        exact this
      refine zw_iload (nx := 36) C dX6_best_34 rfl rfl ?_
      refine zw_bipush (v := 8) (nx := 38) C dX6_best_36 (by decide) rfl ?_
      refine zw_icmp_ge (tgt := 97) (nx := 41) C dX6_best_38 rfl rfl (by omega) (fun h38 => by exfalso; omega) (fun h38 => ?_)
      refine zw_aload_n (i := 0) (nx := 42) C dX6_best_41 rfl rfl rfl ?_
      refine zw_getr (nx := 45) C dX6_best_42 rfl flX6_12 iq5 rfl rfl rfl rfl ?_
      refine zw_iload_n (i := 1) (nx := 46) C dX6_best_45 rfl rfl rfl ?_
      refine zw_iload (nx := 48) C dX6_best_46 rfl rfl ?_
      refine zw_cV21 (nx := 51) C dX6_best_48 rfl cvX6_172 rfl rfl ⟨Nat.le_of_ble_eq_true rfl, Nat.le_of_ble_eq_true rfl⟩ rfl rfl (Nat.le_of_ble_eq_true rfl) (run_X2_isOpenTo hc (p := p) (y := y) (by omega) (by omega)) ?_
      refine zw_ifb_eq (tgt := 91) (nx := 54) C dX6_best_51 rfl rfl (fun h51 => ?_) (fun h51 => ?_)
      · exact go _ (fun q => by rw [h51] at q; cases q.1)
      · refine zw_aload_n (i := 0) (nx := 55) C dX6_best_54 rfl rfl rfl ?_
        refine zw_getr (nx := 58) C dX6_best_55 rfl flX6_12 iq5 rfl rfl rfl rfl ?_
        refine zw_iload_n (i := 1) (nx := 59) C dX6_best_58 rfl rfl rfl ?_
        refine zw_iload (nx := 61) C dX6_best_59 rfl rfl ?_
        refine zw_cV21 (nx := 64) C dX6_best_61 rfl cvX6_184 rfl rfl ⟨Nat.le_of_ble_eq_true rfl, Nat.le_of_ble_eq_true rfl⟩ rfl rfl (Nat.le_of_ble_eq_true rfl) (run_X2_worthIn hc hp (by omega)) ?_
        refine zw_aload_n (i := 0) (nx := 65) C dX6_best_64 rfl rfl rfl ?_
        refine zw_getr (nx := 68) C dX6_best_65 rfl flX6_12 iq5 rfl rfl rfl rfl ?_
        refine zw_iload_n (i := 1) (nx := 69) C dX6_best_68 rfl rfl rfl ?_
        refine zw_iload (nx := 71) C dX6_best_69 rfl rfl ?_
        refine zw_cV21 (nx := 74) C dX6_best_71 rfl cvX6_181 rfl rfl ⟨Nat.le_of_ble_eq_true rfl, Nat.le_of_ble_eq_true rfl⟩ rfl rfl (Nat.le_of_ble_eq_true rfl) (run_X2_harm hc hp (by omega)) ?_
        refine zw_isub (nx := 75) C dX6_best_74 rfl ?_
        rw [show sWin (cV ζ) n p y - sSum (sHurt (cV ζ) n p y) n = sGain (cV ζ) n p y from rfl]
        refine zw_ist6 (nx := 77) C (eIst_w dX6_best_75 rfl) (Nat.le_of_ble_eq_true rfl) rfl ?_
        refine zw_iload (nx := 79) C dX6_best_77 rfl rfl ?_
        refine zw_iload (nx := 81) C dX6_best_79 rfl rfl ?_
        refine zw_icmp_le (tgt := 91) (nx := 84) C dX6_best_81 rfl rfl (by omega) (fun h81 => ?_) (fun h81 => ?_)
        · exact go _ (fun q => by omega)
        · have e : sAm (fun y => sOpn (cV ζ) n p y) (sGain (cV ζ) n p) (-1, -10000) (y + 1) = ((y : Int), sGain (cV ζ) n p y) := if_pos ⟨h51, h81⟩
          refine zw_iload (nx := 86) C dX6_best_84 rfl rfl ?_
          refine zw_ist4 (nx := 88) C (eIst_w dX6_best_86 rfl) (Nat.le_of_ble_eq_true rfl) rfl ?_
          refine zw_iload (nx := 90) C dX6_best_88 rfl rfl ?_
          refine zw_ist3 (nx := 91) C (eIst_n dX6_best_90 rfl rfl) (Nat.le_of_ble_eq_true rfl) rfl ?_
          refine zw_iinc5 (nx := 94) C dX6_best_91 rfl (Nat.le_of_ble_eq_true rfl) rfl ?_
          refine zw_goto (nx := 34) C dX6_best_94 rfl ?_
          have := ih (y + 1) (by omega) (some (zi (sGain (cV ζ) n p y)))
          rw [e] at this
          exact this
  refine zw_aload_n (i := 0) (nx := 1) C dX6_best_0 rfl rfl rfl ?_
  refine zw_iload_n (i := 1) (nx := 2) C dX6_best_1 rfl rfl rfl ?_
  refine zw_cV11 (nx := 5) C dX6_best_2 rfl cvX6_151 rfl rfl ⟨Nat.le_of_ble_eq_true rfl, Nat.le_of_ble_eq_true rfl⟩ rfl rfl (Nat.le_of_ble_eq_true rfl) (run_X6_isBidder_t hc.1.1 hc.2.1 (by omega)) ?_
  refine zw_if_eq (tgt := 16) (nx := 8) C dX6_best_5 rfl rfl (by omega) (fun h5 => by exfalso; omega) (fun h5 => ?_)
  refine zw_iload_n (i := 2) (nx := 9) C dX6_best_8 rfl rfl rfl ?_
  refine zw_iconst (nx := 10) C dX6_best_9 rfl ?_
  refine zw_cS21 (nx := 13) C dX6_best_10 rfl csX6_95 ⟨Nat.le_of_ble_eq_true rfl, Nat.le_of_ble_eq_true rfl⟩ (Nat.le_of_ble_eq_true rfl) (run_X6_within_t (by omega) hw) ?_
  refine zw_if_ne (tgt := 24) (nx := 16) C dX6_best_13 rfl rfl (by omega) (fun h13 => ?_) (fun h13 => by exfalso; omega)
  refine zw_iconst (nx := 25) C dX6_best_24 rfl ?_
  refine zw_ist3 (nx := 26) C (eIst_n dX6_best_25 rfl rfl) (Nat.le_of_ble_eq_true rfl) rfl ?_
  refine zw_sipush (v := -10000) (nx := 29) C dX6_best_26 (by decide) rfl ?_
  refine zw_ist4 (nx := 31) C (eIst_w dX6_best_29 rfl) (Nat.le_of_ble_eq_true rfl) rfl ?_
  refine zw_iconst (nx := 32) C dX6_best_31 rfl ?_
  refine zw_ist5 (nx := 34) C (eIst_w dX6_best_32 rfl) (Nat.le_of_ble_eq_true rfl) rfl ?_
  exact loop 8 0 (by omega) _
theorem run_X6_move_bad {w : Int} (hw : -2147483648 ≤ w ∧ w ≤ 2147483647) (h : ¬ (0 ≤ w ∧ w ≤ 1)) : zRun l B mX6_move [.ref 0, zi w] ζ (some (zi (-2))) (bdS ζ) := by
  refine zrun_intro (M := mX6_move) (ls := [some (.ref 0), some (zi w), none, none, none, none]) (by decide) rfl rfl rfl (Nat.le_of_ble_eq_true rfl) ?_
  intro X A C hX hA hr hk
  replace C : CX X B A mX6_move.2.2.2.2 RX6 cX6_move 6 0 0 := C
  have hr : (xMeth X).sig.returnType = (some .int) := hr
  change ZW X B A 6 0 0 _ _ 0 [some (.ref 0), some (zi w), none, none, none, none] []
  refine zw_iload_n (i := 1) (nx := 1) C dX6_move_0 rfl rfl rfl ?_
  refine zw_iconst (nx := 2) C dX6_move_1 rfl ?_
  refine zw_cS21 (nx := 5) C dX6_move_2 rfl csX6_95 ⟨Nat.le_of_ble_eq_true rfl, Nat.le_of_ble_eq_true rfl⟩ (Nat.le_of_ble_eq_true rfl) (run_X6_within_f hw (by omega) h) ?_
  refine zw_if_ne (tgt := 15) (nx := 8) C dX6_move_5 rfl rfl (by omega) (fun h5 => by exfalso; omega) (fun h5 => ?_)
  refine zw_aload_n (i := 0) (nx := 9) C dX6_move_8 rfl rfl rfl ?_
  refine zw_bipush (v := -2) (nx := 11) C dX6_move_9 (by decide) rfl ?_
  refine zw_cV11 (nx := 14) C dX6_move_11 rfl cvX6_71 rfl rfl ⟨Nat.le_of_ble_eq_true rfl, Nat.le_of_ble_eq_true rfl⟩ rfl rfl (Nat.le_of_ble_eq_true rfl) run_X6_bad ?_
  exact zw_iret C hA hr hk dX6_move_14 rfl rfl
set_option maxHeartbeats 4000000 in
theorem run_X6_move_ok {n : Nat} {w : Int} (hc : cOk ζ n) (hw : 0 ≤ w ∧ w ≤ 1) : zRun l B mX6_move [.ref 0, zi w] ζ (some (zi (if w = 0 then (sMov (cV ζ) n n).1 else (sMov (cV ζ) n n).2))) ζ := by
  have hn := hc.1.1
  have hn3 := hc.2.1
  have hgb : ∀ p, p < n → -1 ≤ sMvH (cV ζ) n p ∧ sMvH (cV ζ) n p ≤ 1200 := fun p _ => by
    have := hc.1.hurt p (cV ζ 5 p).toNat
    unfold sMvH; omega
  have hbd := sAm_bd (ok := fun p => decide (cV ζ 5 p ≠ -1)) (f := sMvH (cV ζ) n) (z := (-1, -1)) (a := -1) (b := 1200) ⟨by decide, by decide⟩ (n := n) hgb
  refine zrun_intro (M := mX6_move) (ls := [some (.ref 0), some (zi w), none, none, none, none]) (by decide) rfl rfl rfl (Nat.le_of_ble_eq_true rfl) ?_
  intro X A C hX hA hr hk
  replace C : CX X B A mX6_move.2.2.2.2 RX6 cX6_move 6 0 0 := C
  have hr : (xMeth X).sig.returnType = (some .int) := hr
  change ZW X B A 6 0 0 _ _ 0 [some (.ref 0), some (zi w), none, none, none, none] []
  have loop : ∀ k p : Nat, p + k = n → ∀ o5 : Option Value, ZW X B A 6 0 0 (eFin X B (some (zi (if w = 0 then (sMov (cV ζ) n n).1 else (sMov (cV ζ) n n).2))) (zz ζ)) ζ 22 [some (.ref 0), some (zi w), some (zi (sMov (cV ζ) n p).1), some (zi (sMov (cV ζ) n p).2), some (zi p), o5] [] := by
    intro k
    induction k with
    | zero =>
      intro p hpk o5
      have e : p = n := by omega
      subst e
      refine zw_iload (nx := 24) C dX6_move_22 rfl rfl ?_
      refine zw_aload_n (i := 0) (nx := 25) C dX6_move_24 rfl rfl rfl ?_
      refine zw_getr (nx := 28) C dX6_move_25 rfl flX6_12 iq5 rfl rfl rfl rfl ?_
      refine zw_geti (nx := 31) C dX6_move_28 rfl flX6_75 iq2 rfl rfl rfl rfl ?_
      refine zw_icmp_ge (tgt := 87) (nx := 34) C dX6_move_31 rfl rfl (by omega) (fun h31 => ?_) (fun h31 => by exfalso; omega)
      refine zw_iload_n (i := 1) (nx := 88) C dX6_move_87 rfl rfl rfl ?_
      refine zw_if_ne (tgt := 95) (nx := 91) C dX6_move_88 rfl rfl (by omega) (fun h88 => ?_) (fun h88 => ?_)
      · refine zw_iload_n (i := 3) (nx := 96) C dX6_move_95 rfl rfl rfl ?_
        exact zw_iret C hA hr hk dX6_move_96 (zr (if_neg h88)) rfl
      · refine zw_iload_n (i := 2) (nx := 92) C dX6_move_91 rfl rfl rfl ?_
        refine zw_goto (nx := 96) C dX6_move_92 rfl ?_
        exact zw_iret C hA hr hk dX6_move_96 (zr (if_pos h88)) rfl
    | succ k ih =>
      intro p hpk o5
      have hb1 : -1 ≤ (sMov (cV ζ) n p).2 ∧ (sMov (cV ζ) n p).2 ≤ 1200 := hbd p (by omega)
      have hb2 := hgb p (by omega)
      have hs : -1 ≤ ζ.1 7 p ∧ ζ.1 7 p ≤ 7 := (hc.1.2.2.2.2 p (by omega)).2.2.2
      have go : ∀ o5 : Option Value, ¬ (decide (cV ζ 5 p ≠ -1) = true ∧ (sMov (cV ζ) n p).2 < sMvH (cV ζ) n p) → ZW X B A 6 0 0 (eFin X B (some (zi (if w = 0 then (sMov (cV ζ) n n).1 else (sMov (cV ζ) n n).2))) (zz ζ)) ζ 81 [some (.ref 0), some (zi w), some (zi (sMov (cV ζ) n p).1), some (zi (sMov (cV ζ) n p).2), some (zi p), o5] [] := by
        intro o5 hno
        have e : sMov (cV ζ) n (p + 1) = sMov (cV ζ) n p := if_neg hno
        refine zw_iinc4 (nx := 84) C dX6_move_81 rfl (Nat.le_of_ble_eq_true rfl) rfl ?_
        refine zw_goto (nx := 22) C dX6_move_84 rfl ?_
        have := ih (p + 1) (by omega) o5
        rw [e] at this
        exact this
      refine zw_iload (nx := 24) C dX6_move_22 rfl rfl ?_
      refine zw_aload_n (i := 0) (nx := 25) C dX6_move_24 rfl rfl rfl ?_
      refine zw_getr (nx := 28) C dX6_move_25 rfl flX6_12 iq5 rfl rfl rfl rfl ?_
      refine zw_geti (nx := 31) C dX6_move_28 rfl flX6_75 iq2 rfl rfl rfl rfl ?_
      refine zw_icmp_ge (tgt := 87) (nx := 34) C dX6_move_31 rfl rfl (by omega) (fun h31 => by exfalso; omega) (fun h31 => ?_)
      refine zw_aload_n (i := 0) (nx := 35) C dX6_move_34 rfl rfl rfl ?_
      refine zw_getr (nx := 38) C dX6_move_35 rfl flX6_12 iq5 rfl rfl rfl rfl ?_
      refine zw_getr (nx := 41) C dX6_move_38 rfl flX6_148 iq2 rfl rfl rfl rfl ?_
      refine zw_iload (nx := 43) C dX6_move_41 rfl rfl ?_
      refine zw_iald (p) (nx := 44) C dX6_move_43 rfl rfl rfl rfl (by omega) ?_
      refine zw_iconst (nx := 45) C dX6_move_44 rfl ?_
      refine zw_icmp_eq (tgt := 81) (nx := 48) C dX6_move_45 rfl rfl (by omega) (fun h45 => ?_) (fun h45 => ?_)
      · exact go _ (fun q => (of_decide_eq_true q.1) h45)
      · obtain ⟨s, hs'⟩ := Int.eq_ofNat_of_zero_le (show 0 ≤ ζ.1 7 p by omega)
        have es : (ζ.1 7 p).toNat = s := by omega
        have eh : sSum (sHurt (cV ζ) n p s) n = sMvH (cV ζ) n p := by
          show _ = sSum (sHurt (cV ζ) n p (ζ.1 7 p).toNat) n
          rw [es]
        refine zw_aload_n (i := 0) (nx := 49) C dX6_move_48 rfl rfl rfl ?_
        refine zw_getr (nx := 52) C dX6_move_49 rfl flX6_12 iq5 rfl rfl rfl rfl ?_
        refine zw_iload (nx := 54) C dX6_move_52 rfl rfl ?_
        refine zw_aload_n (i := 0) (nx := 55) C dX6_move_54 rfl rfl rfl ?_
        refine zw_getr (nx := 58) C dX6_move_55 rfl flX6_12 iq5 rfl rfl rfl rfl ?_
        refine zw_getr (nx := 61) C dX6_move_58 rfl flX6_148 iq2 rfl rfl rfl rfl ?_
        refine zw_iload (nx := 63) C dX6_move_61 rfl rfl ?_
        refine zw_iald (p) (nx := 64) C dX6_move_63 rfl rfl rfl rfl (by omega) ?_
        refine zw_cV21 (nx := 67) C dX6_move_64 rfl cvX6_181 rfl rfl ⟨Nat.le_of_ble_eq_true rfl, Nat.le_of_ble_eq_true rfl⟩ rfl rfl (Nat.le_of_ble_eq_true rfl) (by rw [hs']; exact run_X2_harm hc (by omega) (by omega)) ?_
        rw [eh]
        refine zw_ist5 (nx := 69) C (eIst_w dX6_move_67 rfl) (Nat.le_of_ble_eq_true rfl) rfl ?_
        refine zw_iload (nx := 71) C dX6_move_69 rfl rfl ?_
        refine zw_iload_n (i := 3) (nx := 72) C dX6_move_71 rfl rfl rfl ?_
        refine zw_icmp_le (tgt := 81) (nx := 75) C dX6_move_72 rfl rfl (by omega) (fun h72 => ?_) (fun h72 => ?_)
        · exact go _ (fun q => by omega)
        · have e : sMov (cV ζ) n (p + 1) = ((p : Int), sMvH (cV ζ) n p) := if_pos ⟨decide_eq_true h45, h72⟩
          refine zw_iload (nx := 77) C dX6_move_75 rfl rfl ?_
          refine zw_ist3 (nx := 78) C (eIst_n dX6_move_77 rfl rfl) (Nat.le_of_ble_eq_true rfl) rfl ?_
          refine zw_iload (nx := 80) C dX6_move_78 rfl rfl ?_
          refine zw_ist2 (nx := 81) C (eIst_n dX6_move_80 rfl rfl) (Nat.le_of_ble_eq_true rfl) rfl ?_
          refine zw_iinc4 (nx := 84) C dX6_move_81 rfl (Nat.le_of_ble_eq_true rfl) rfl ?_
          refine zw_goto (nx := 22) C dX6_move_84 rfl ?_
          have := ih (p + 1) (by omega) (some (zi (sMvH (cV ζ) n p)))
          rw [e] at this
          exact this
  refine zw_iload_n (i := 1) (nx := 1) C dX6_move_0 rfl rfl rfl ?_
  refine zw_iconst (nx := 2) C dX6_move_1 rfl ?_
  refine zw_cS21 (nx := 5) C dX6_move_2 rfl csX6_95 ⟨Nat.le_of_ble_eq_true rfl, Nat.le_of_ble_eq_true rfl⟩ (Nat.le_of_ble_eq_true rfl) (run_X6_within_t (by omega) hw) ?_
  refine zw_if_ne (tgt := 15) (nx := 8) C dX6_move_5 rfl rfl (by omega) (fun h5 => ?_) (fun h5 => by exfalso; omega)
  refine zw_iconst (nx := 16) C dX6_move_15 rfl ?_
  refine zw_ist2 (nx := 17) C (eIst_n dX6_move_16 rfl rfl) (Nat.le_of_ble_eq_true rfl) rfl ?_
  refine zw_iconst (nx := 18) C dX6_move_17 rfl ?_
  refine zw_ist3 (nx := 19) C (eIst_n dX6_move_18 rfl rfl) (Nat.le_of_ble_eq_true rfl) rfl ?_
  refine zw_iconst (nx := 20) C dX6_move_19 rfl ?_
  refine zw_ist4 (nx := 22) C (eIst_w dX6_move_20 rfl) (Nat.le_of_ble_eq_true rfl) rfl ?_
  exact loop n 0 (by omega) _
theorem run_X6_note_bad {n : Nat} (hn : n ≤ 5) (hn3 : ζ.1 1 3 = n) {p s h w : Int} (hp : -2147483648 ≤ p ∧ p ≤ 2147483647) (hs : -2147483648 ≤ s ∧ s ≤ 2147483647) (hh : -2147483648 ≤ h ∧ h ≤ 2147483647) (hw : -2147483648 ≤ w ∧ w ≤ 2147483647) (hno : ¬ ((0 ≤ p ∧ p < n) ∧ (0 ≤ s ∧ s ≤ 240) ∧ (0 ≤ h ∧ h ≤ 9) ∧ (0 ≤ w ∧ w ≤ 500))) : zRun l B mX6_note [.ref 0, zi p, zi s, zi h, zi w] ζ (some (zi (-2))) (bdS ζ) := by
  refine zrun_intro (M := mX6_note) (ls := [some (.ref 0), some (zi p), some (zi s), some (zi h), some (zi w), none]) (by decide) rfl rfl rfl (Nat.le_of_ble_eq_true rfl) ?_
  intro X A C hX hA hr hk
  replace C : CX X B A mX6_note.2.2.2.2 RX6 cX6_note 6 0 0 := C
  have hr : (xMeth X).sig.returnType = (some .int) := hr
  change ZW X B A 6 0 0 _ _ 0 [some (.ref 0), some (zi p), some (zi s), some (zi h), some (zi w), none] []
  by_cases h1 : 0 ≤ p ∧ p < n
  · by_cases h2 : 0 ≤ s ∧ s ≤ 240
    · by_cases h3 : 0 ≤ h ∧ h ≤ 9
      · refine zw_aload_n (i := 0) (nx := 1) C dX6_note_0 rfl rfl rfl ?_
        refine zw_iload_n (i := 1) (nx := 2) C dX6_note_1 rfl rfl rfl ?_
        refine zw_cV11 (nx := 5) C dX6_note_2 rfl cvX6_151 rfl rfl ⟨Nat.le_of_ble_eq_true rfl, Nat.le_of_ble_eq_true rfl⟩ rfl rfl (Nat.le_of_ble_eq_true rfl) (run_X6_isBidder_t hn hn3 h1) ?_
        refine zw_if_eq (tgt := 38) (nx := 8) C dX6_note_5 rfl rfl (by omega) (fun h5 => by exfalso; omega) (fun h5 => ?_)
        refine zw_iload_n (i := 2) (nx := 9) C dX6_note_8 rfl rfl rfl ?_
        refine zw_sipush (v := 240) (nx := 12) C dX6_note_9 (by decide) rfl ?_
        refine zw_cS21 (nx := 15) C dX6_note_12 rfl csX6_95 ⟨Nat.le_of_ble_eq_true rfl, Nat.le_of_ble_eq_true rfl⟩ (Nat.le_of_ble_eq_true rfl) (run_X6_within_t (by omega) h2) ?_
        refine zw_if_eq (tgt := 38) (nx := 18) C dX6_note_15 rfl rfl (by omega) (fun h15 => by exfalso; omega) (fun h15 => ?_)
        refine zw_iload_n (i := 3) (nx := 19) C dX6_note_18 rfl rfl rfl ?_
        refine zw_bipush (v := 9) (nx := 21) C dX6_note_19 (by decide) rfl ?_
        refine zw_cS21 (nx := 24) C dX6_note_21 rfl csX6_95 ⟨Nat.le_of_ble_eq_true rfl, Nat.le_of_ble_eq_true rfl⟩ (Nat.le_of_ble_eq_true rfl) (run_X6_within_t (by omega) h3) ?_
        refine zw_if_eq (tgt := 38) (nx := 27) C dX6_note_24 rfl rfl (by omega) (fun h24 => by exfalso; omega) (fun h24 => ?_)
        refine zw_iload (nx := 29) C dX6_note_27 rfl rfl ?_
        refine zw_sipush (v := 500) (nx := 32) C dX6_note_29 (by decide) rfl ?_
        refine zw_cS21 (nx := 35) C dX6_note_32 rfl csX6_95 ⟨Nat.le_of_ble_eq_true rfl, Nat.le_of_ble_eq_true rfl⟩ (Nat.le_of_ble_eq_true rfl) (run_X6_within_f hw (by omega) (fun q => hno ⟨h1, h2, h3, q⟩)) ?_
        refine zw_if_ne (tgt := 45) (nx := 38) C dX6_note_35 rfl rfl (by omega) (fun h35 => by exfalso; omega) (fun h35 => ?_)
        refine zw_aload_n (i := 0) (nx := 39) C dX6_note_38 rfl rfl rfl ?_
        refine zw_bipush (v := -2) (nx := 41) C dX6_note_39 (by decide) rfl ?_
        refine zw_cV11 (nx := 44) C dX6_note_41 rfl cvX6_71 rfl rfl ⟨Nat.le_of_ble_eq_true rfl, Nat.le_of_ble_eq_true rfl⟩ rfl rfl (Nat.le_of_ble_eq_true rfl) run_X6_bad ?_
        exact zw_iret C hA hr hk dX6_note_44 rfl rfl
      · refine zw_aload_n (i := 0) (nx := 1) C dX6_note_0 rfl rfl rfl ?_
        refine zw_iload_n (i := 1) (nx := 2) C dX6_note_1 rfl rfl rfl ?_
        refine zw_cV11 (nx := 5) C dX6_note_2 rfl cvX6_151 rfl rfl ⟨Nat.le_of_ble_eq_true rfl, Nat.le_of_ble_eq_true rfl⟩ rfl rfl (Nat.le_of_ble_eq_true rfl) (run_X6_isBidder_t hn hn3 h1) ?_
        refine zw_if_eq (tgt := 38) (nx := 8) C dX6_note_5 rfl rfl (by omega) (fun h5 => by exfalso; omega) (fun h5 => ?_)
        refine zw_iload_n (i := 2) (nx := 9) C dX6_note_8 rfl rfl rfl ?_
        refine zw_sipush (v := 240) (nx := 12) C dX6_note_9 (by decide) rfl ?_
        refine zw_cS21 (nx := 15) C dX6_note_12 rfl csX6_95 ⟨Nat.le_of_ble_eq_true rfl, Nat.le_of_ble_eq_true rfl⟩ (Nat.le_of_ble_eq_true rfl) (run_X6_within_t (by omega) h2) ?_
        refine zw_if_eq (tgt := 38) (nx := 18) C dX6_note_15 rfl rfl (by omega) (fun h15 => by exfalso; omega) (fun h15 => ?_)
        refine zw_iload_n (i := 3) (nx := 19) C dX6_note_18 rfl rfl rfl ?_
        refine zw_bipush (v := 9) (nx := 21) C dX6_note_19 (by decide) rfl ?_
        refine zw_cS21 (nx := 24) C dX6_note_21 rfl csX6_95 ⟨Nat.le_of_ble_eq_true rfl, Nat.le_of_ble_eq_true rfl⟩ (Nat.le_of_ble_eq_true rfl) (run_X6_within_f hh (by omega) h3) ?_
        refine zw_if_eq (tgt := 38) (nx := 27) C dX6_note_24 rfl rfl (by omega) (fun h24 => ?_) (fun h24 => by exfalso; omega)
        refine zw_aload_n (i := 0) (nx := 39) C dX6_note_38 rfl rfl rfl ?_
        refine zw_bipush (v := -2) (nx := 41) C dX6_note_39 (by decide) rfl ?_
        refine zw_cV11 (nx := 44) C dX6_note_41 rfl cvX6_71 rfl rfl ⟨Nat.le_of_ble_eq_true rfl, Nat.le_of_ble_eq_true rfl⟩ rfl rfl (Nat.le_of_ble_eq_true rfl) run_X6_bad ?_
        exact zw_iret C hA hr hk dX6_note_44 rfl rfl
    · refine zw_aload_n (i := 0) (nx := 1) C dX6_note_0 rfl rfl rfl ?_
      refine zw_iload_n (i := 1) (nx := 2) C dX6_note_1 rfl rfl rfl ?_
      refine zw_cV11 (nx := 5) C dX6_note_2 rfl cvX6_151 rfl rfl ⟨Nat.le_of_ble_eq_true rfl, Nat.le_of_ble_eq_true rfl⟩ rfl rfl (Nat.le_of_ble_eq_true rfl) (run_X6_isBidder_t hn hn3 h1) ?_
      refine zw_if_eq (tgt := 38) (nx := 8) C dX6_note_5 rfl rfl (by omega) (fun h5 => by exfalso; omega) (fun h5 => ?_)
      refine zw_iload_n (i := 2) (nx := 9) C dX6_note_8 rfl rfl rfl ?_
      refine zw_sipush (v := 240) (nx := 12) C dX6_note_9 (by decide) rfl ?_
      refine zw_cS21 (nx := 15) C dX6_note_12 rfl csX6_95 ⟨Nat.le_of_ble_eq_true rfl, Nat.le_of_ble_eq_true rfl⟩ (Nat.le_of_ble_eq_true rfl) (run_X6_within_f hs (by omega) h2) ?_
      refine zw_if_eq (tgt := 38) (nx := 18) C dX6_note_15 rfl rfl (by omega) (fun h15 => ?_) (fun h15 => by exfalso; omega)
      refine zw_aload_n (i := 0) (nx := 39) C dX6_note_38 rfl rfl rfl ?_
      refine zw_bipush (v := -2) (nx := 41) C dX6_note_39 (by decide) rfl ?_
      refine zw_cV11 (nx := 44) C dX6_note_41 rfl cvX6_71 rfl rfl ⟨Nat.le_of_ble_eq_true rfl, Nat.le_of_ble_eq_true rfl⟩ rfl rfl (Nat.le_of_ble_eq_true rfl) run_X6_bad ?_
      exact zw_iret C hA hr hk dX6_note_44 rfl rfl
  · refine zw_aload_n (i := 0) (nx := 1) C dX6_note_0 rfl rfl rfl ?_
    refine zw_iload_n (i := 1) (nx := 2) C dX6_note_1 rfl rfl rfl ?_
    refine zw_cV11 (nx := 5) C dX6_note_2 rfl cvX6_151 rfl rfl ⟨Nat.le_of_ble_eq_true rfl, Nat.le_of_ble_eq_true rfl⟩ rfl rfl (Nat.le_of_ble_eq_true rfl) (run_X6_isBidder_f hn hn3 hp h1) ?_
    refine zw_if_eq (tgt := 38) (nx := 8) C dX6_note_5 rfl rfl (by omega) (fun h5 => ?_) (fun h5 => by exfalso; omega)
    refine zw_aload_n (i := 0) (nx := 39) C dX6_note_38 rfl rfl rfl ?_
    refine zw_bipush (v := -2) (nx := 41) C dX6_note_39 (by decide) rfl ?_
    refine zw_cV11 (nx := 44) C dX6_note_41 rfl cvX6_71 rfl rfl ⟨Nat.le_of_ble_eq_true rfl, Nat.le_of_ble_eq_true rfl⟩ rfl rfl (Nat.le_of_ble_eq_true rfl) run_X6_bad ?_
    exact zw_iret C hA hr hk dX6_note_44 rfl rfl
theorem run_X6_note_full {n : Nat} (hn : n ≤ 5) (hn3 : ζ.1 1 3 = n) (hc6 : ζ.1 1 9 = 6) {p s h w : Int} (h1 : 0 ≤ p ∧ p < n) (h2 : 0 ≤ s ∧ s ≤ 240) (h3 : 0 ≤ h ∧ h ≤ 9) (h4 : 0 ≤ w ∧ w ≤ 500) : zRun l B mX6_note [.ref 0, zi p, zi s, zi h, zi w] ζ (some (zi (-4))) (fuS ζ) := by
  refine zrun_intro (M := mX6_note) (ls := [some (.ref 0), some (zi p), some (zi s), some (zi h), some (zi w), none]) (by decide) rfl rfl rfl (Nat.le_of_ble_eq_true rfl) ?_
  intro X A C hX hA hr hk
  replace C : CX X B A mX6_note.2.2.2.2 RX6 cX6_note 6 0 0 := C
  have hr : (xMeth X).sig.returnType = (some .int) := hr
  change ZW X B A 6 0 0 _ _ 0 [some (.ref 0), some (zi p), some (zi s), some (zi h), some (zi w), none] []
  refine zw_aload_n (i := 0) (nx := 1) C dX6_note_0 rfl rfl rfl ?_
  refine zw_iload_n (i := 1) (nx := 2) C dX6_note_1 rfl rfl rfl ?_
  refine zw_cV11 (nx := 5) C dX6_note_2 rfl cvX6_151 rfl rfl ⟨Nat.le_of_ble_eq_true rfl, Nat.le_of_ble_eq_true rfl⟩ rfl rfl (Nat.le_of_ble_eq_true rfl) (run_X6_isBidder_t hn hn3 h1) ?_
  refine zw_if_eq (tgt := 38) (nx := 8) C dX6_note_5 rfl rfl (by omega) (fun h5 => by exfalso; omega) (fun h5 => ?_)
  refine zw_iload_n (i := 2) (nx := 9) C dX6_note_8 rfl rfl rfl ?_
  refine zw_sipush (v := 240) (nx := 12) C dX6_note_9 (by decide) rfl ?_
  refine zw_cS21 (nx := 15) C dX6_note_12 rfl csX6_95 ⟨Nat.le_of_ble_eq_true rfl, Nat.le_of_ble_eq_true rfl⟩ (Nat.le_of_ble_eq_true rfl) (run_X6_within_t (by omega) h2) ?_
  refine zw_if_eq (tgt := 38) (nx := 18) C dX6_note_15 rfl rfl (by omega) (fun h15 => by exfalso; omega) (fun h15 => ?_)
  refine zw_iload_n (i := 3) (nx := 19) C dX6_note_18 rfl rfl rfl ?_
  refine zw_bipush (v := 9) (nx := 21) C dX6_note_19 (by decide) rfl ?_
  refine zw_cS21 (nx := 24) C dX6_note_21 rfl csX6_95 ⟨Nat.le_of_ble_eq_true rfl, Nat.le_of_ble_eq_true rfl⟩ (Nat.le_of_ble_eq_true rfl) (run_X6_within_t (by omega) h3) ?_
  refine zw_if_eq (tgt := 38) (nx := 27) C dX6_note_24 rfl rfl (by omega) (fun h24 => by exfalso; omega) (fun h24 => ?_)
  refine zw_iload (nx := 29) C dX6_note_27 rfl rfl ?_
  refine zw_sipush (v := 500) (nx := 32) C dX6_note_29 (by decide) rfl ?_
  refine zw_cS21 (nx := 35) C dX6_note_32 rfl csX6_95 ⟨Nat.le_of_ble_eq_true rfl, Nat.le_of_ble_eq_true rfl⟩ (Nat.le_of_ble_eq_true rfl) (run_X6_within_t (by omega) h4) ?_
  refine zw_if_ne (tgt := 45) (nx := 38) C dX6_note_35 rfl rfl (by omega) (fun h35 => ?_) (fun h35 => by exfalso; omega)
  refine zw_aload_n (i := 0) (nx := 46) C dX6_note_45 rfl rfl rfl ?_
  refine zw_getr (nx := 49) C dX6_note_46 rfl flX6_12 iq5 rfl rfl rfl rfl ?_
  refine zw_geti (nx := 52) C dX6_note_49 rfl flX6_196 iq2 rfl rfl rfl rfl ?_
  refine zw_bipush (v := 6) (nx := 54) C dX6_note_52 (by decide) rfl ?_
  refine zw_icmp_lt (tgt := 62) (nx := 57) C dX6_note_54 rfl rfl (by omega) (fun h54 => by exfalso; omega) (fun h54 => ?_)
  refine zw_aload_n (i := 0) (nx := 58) C dX6_note_57 rfl rfl rfl ?_
  refine zw_cV01 (nx := 61) C dX6_note_58 rfl cvX6_104 rfl rfl ⟨Nat.le_of_ble_eq_true rfl, Nat.le_of_ble_eq_true rfl⟩ rfl rfl (Nat.le_of_ble_eq_true rfl) run_X6_full ?_
  exact zw_iret C hA hr hk dX6_note_61 rfl rfl
theorem run_X6_note_ok {n c : Nat} (hn : n ≤ 5) (hn3 : ζ.1 1 3 = n) (hc : c < 6) (hc6 : ζ.1 1 9 = c) {p s h w : Int} (h1 : 0 ≤ p ∧ p < n) (h2 : 0 ≤ s ∧ s ≤ 240) (h3 : 0 ≤ h ∧ h ≤ 9) (h4 : 0 ≤ w ∧ w ≤ 500) : zRun l B mX6_note [.ref 0, zi p, zi s, zi h, zi w] ζ (some (zi (c + 1))) (zU (zU (zU (zU (zU ζ 8 (4 * c) p) 8 (4 * c + 1) s) 8 (4 * c + 2) h) 8 (4 * c + 3) w) 1 9 (c + 1)) := by
  refine zrun_intro (M := mX6_note) (ls := [some (.ref 0), some (zi p), some (zi s), some (zi h), some (zi w), none]) (by decide) rfl rfl rfl (Nat.le_of_ble_eq_true rfl) ?_
  intro X A C hX hA hr hk
  replace C : CX X B A mX6_note.2.2.2.2 RX6 cX6_note 6 0 0 := C
  have hr : (xMeth X).sig.returnType = (some .int) := hr
  change ZW X B A 6 0 0 _ _ 0 [some (.ref 0), some (zi p), some (zi s), some (zi h), some (zi w), none] []
  refine zw_aload_n (i := 0) (nx := 1) C dX6_note_0 rfl rfl rfl ?_
  refine zw_iload_n (i := 1) (nx := 2) C dX6_note_1 rfl rfl rfl ?_
  refine zw_cV11 (nx := 5) C dX6_note_2 rfl cvX6_151 rfl rfl ⟨Nat.le_of_ble_eq_true rfl, Nat.le_of_ble_eq_true rfl⟩ rfl rfl (Nat.le_of_ble_eq_true rfl) (run_X6_isBidder_t hn hn3 h1) ?_
  refine zw_if_eq (tgt := 38) (nx := 8) C dX6_note_5 rfl rfl (by omega) (fun h5 => by exfalso; omega) (fun h5 => ?_)
  refine zw_iload_n (i := 2) (nx := 9) C dX6_note_8 rfl rfl rfl ?_
  refine zw_sipush (v := 240) (nx := 12) C dX6_note_9 (by decide) rfl ?_
  refine zw_cS21 (nx := 15) C dX6_note_12 rfl csX6_95 ⟨Nat.le_of_ble_eq_true rfl, Nat.le_of_ble_eq_true rfl⟩ (Nat.le_of_ble_eq_true rfl) (run_X6_within_t (by omega) h2) ?_
  refine zw_if_eq (tgt := 38) (nx := 18) C dX6_note_15 rfl rfl (by omega) (fun h15 => by exfalso; omega) (fun h15 => ?_)
  refine zw_iload_n (i := 3) (nx := 19) C dX6_note_18 rfl rfl rfl ?_
  refine zw_bipush (v := 9) (nx := 21) C dX6_note_19 (by decide) rfl ?_
  refine zw_cS21 (nx := 24) C dX6_note_21 rfl csX6_95 ⟨Nat.le_of_ble_eq_true rfl, Nat.le_of_ble_eq_true rfl⟩ (Nat.le_of_ble_eq_true rfl) (run_X6_within_t (by omega) h3) ?_
  refine zw_if_eq (tgt := 38) (nx := 27) C dX6_note_24 rfl rfl (by omega) (fun h24 => by exfalso; omega) (fun h24 => ?_)
  refine zw_iload (nx := 29) C dX6_note_27 rfl rfl ?_
  refine zw_sipush (v := 500) (nx := 32) C dX6_note_29 (by decide) rfl ?_
  refine zw_cS21 (nx := 35) C dX6_note_32 rfl csX6_95 ⟨Nat.le_of_ble_eq_true rfl, Nat.le_of_ble_eq_true rfl⟩ (Nat.le_of_ble_eq_true rfl) (run_X6_within_t (by omega) h4) ?_
  refine zw_if_ne (tgt := 45) (nx := 38) C dX6_note_35 rfl rfl (by omega) (fun h35 => ?_) (fun h35 => by exfalso; omega)
  refine zw_aload_n (i := 0) (nx := 46) C dX6_note_45 rfl rfl rfl ?_
  refine zw_getr (nx := 49) C dX6_note_46 rfl flX6_12 iq5 rfl rfl rfl rfl ?_
  refine zw_geti (nx := 52) C dX6_note_49 rfl flX6_196 iq2 rfl rfl rfl rfl ?_
  refine zw_bipush (v := 6) (nx := 54) C dX6_note_52 (by decide) rfl ?_
  refine zw_icmp_lt (tgt := 62) (nx := 57) C dX6_note_54 rfl rfl (by omega) (fun h54 => ?_) (fun h54 => by exfalso; omega)
  refine zw_aload_n (i := 0) (nx := 63) C dX6_note_62 rfl rfl rfl ?_
  refine zw_getr (nx := 66) C dX6_note_63 rfl flX6_12 iq5 rfl rfl rfl rfl ?_
  refine zw_geti (nx := 69) C dX6_note_66 rfl flX6_196 iq2 rfl rfl rfl rfl ?_
  rw [hc6]
  refine zw_iconst (nx := 70) C dX6_note_69 rfl ?_
  refine zw_imul (nx := 71) C dX6_note_70 rfl ?_
  refine zw_ist5 (nx := 73) C (eIst_w dX6_note_71 rfl) (Nat.le_of_ble_eq_true rfl) rfl ?_
  refine zw_aload_n (i := 0) (nx := 74) C dX6_note_73 rfl rfl rfl ?_
  refine zw_getr (nx := 77) C dX6_note_74 rfl flX6_12 iq5 rfl rfl rfl rfl ?_
  refine zw_getr (nx := 80) C dX6_note_77 rfl flX6_199 iq2 rfl rfl rfl rfl ?_
  refine zw_iload (nx := 82) C dX6_note_80 rfl rfl ?_
  refine zw_iload_n (i := 1) (nx := 83) C dX6_note_82 rfl rfl rfl ?_
  refine zw_iast ((4 * c)) (nx := 84) C dX6_note_83 rfl rfl rfl rfl (by omega) ?_
  refine zw_aload_n (i := 0) (nx := 85) C dX6_note_84 rfl rfl rfl ?_
  refine zw_getr (nx := 88) C dX6_note_85 rfl flX6_12 iq5 rfl rfl rfl rfl ?_
  refine zw_getr (nx := 91) C dX6_note_88 rfl flX6_199 iq2 rfl rfl rfl rfl ?_
  refine zw_iload (nx := 93) C dX6_note_91 rfl rfl ?_
  refine zw_iconst (nx := 94) C dX6_note_93 rfl ?_
  refine zw_iadd (nx := 95) C dX6_note_94 rfl ?_
  refine zw_iload_n (i := 2) (nx := 96) C dX6_note_95 rfl rfl rfl ?_
  refine zw_iast ((4 * c + 1)) (nx := 97) C dX6_note_96 rfl rfl rfl rfl (by omega) ?_
  refine zw_aload_n (i := 0) (nx := 98) C dX6_note_97 rfl rfl rfl ?_
  refine zw_getr (nx := 101) C dX6_note_98 rfl flX6_12 iq5 rfl rfl rfl rfl ?_
  refine zw_getr (nx := 104) C dX6_note_101 rfl flX6_199 iq2 rfl rfl rfl rfl ?_
  refine zw_iload (nx := 106) C dX6_note_104 rfl rfl ?_
  refine zw_iconst (nx := 107) C dX6_note_106 rfl ?_
  refine zw_iadd (nx := 108) C dX6_note_107 rfl ?_
  refine zw_iload_n (i := 3) (nx := 109) C dX6_note_108 rfl rfl rfl ?_
  refine zw_iast ((4 * c + 2)) (nx := 110) C dX6_note_109 rfl rfl rfl rfl (by omega) ?_
  refine zw_aload_n (i := 0) (nx := 111) C dX6_note_110 rfl rfl rfl ?_
  refine zw_getr (nx := 114) C dX6_note_111 rfl flX6_12 iq5 rfl rfl rfl rfl ?_
  refine zw_getr (nx := 117) C dX6_note_114 rfl flX6_199 iq2 rfl rfl rfl rfl ?_
  refine zw_iload (nx := 119) C dX6_note_117 rfl rfl ?_
  refine zw_iconst (nx := 120) C dX6_note_119 rfl ?_
  refine zw_iadd (nx := 121) C dX6_note_120 rfl ?_
  refine zw_iload (nx := 123) C dX6_note_121 rfl rfl ?_
  refine zw_iast ((4 * c + 3)) (nx := 124) C dX6_note_123 rfl rfl rfl rfl (by omega) ?_
  refine zw_aload_n (i := 0) (nx := 125) C dX6_note_124 rfl rfl rfl ?_
  refine zw_getr (nx := 128) C dX6_note_125 rfl flX6_12 iq5 rfl rfl rfl rfl ?_
  refine zw_dup (nx := 129) C dX6_note_128 rfl rfl ?_
  refine zw_geti (nx := 132) C dX6_note_129 rfl flX6_196 iq2 rfl rfl rfl rfl ?_
  simp only [zU_at, zCp_at, zR_at, zFill_at, Nat.reduceEqDiff, reduceIte, and_self, and_true, true_and, and_false, false_and]
  rw [hc6]
  refine zw_iconst (nx := 133) C dX6_note_132 rfl ?_
  refine zw_iadd (nx := 134) C dX6_note_133 rfl ?_
  refine zw_puti (nx := 137) C dX6_note_134 rfl flX6_196 ic2 nf2_9 rfl rfl rfl rfl rfl ?_
  refine zw_aload_n (i := 0) (nx := 138) C dX6_note_137 rfl rfl rfl ?_
  refine zw_getr (nx := 141) C dX6_note_138 rfl flX6_12 iq5 rfl rfl rfl rfl ?_
  refine zw_geti (nx := 144) C dX6_note_141 rfl flX6_196 iq2 rfl rfl rfl rfl ?_
  simp only [zU_at, zCp_at, zR_at, zFill_at, Nat.reduceEqDiff, reduceIte, and_self, and_true, true_and, and_false, false_and]
  exact zw_iret C hA hr hk dX6_note_144 rfl rfl
theorem run_X6_forget : zRun l B mX6_forget [.ref 0] ζ (some (zi (ζ.1 1 9))) (zU ζ 1 9 0) := by
  refine zrun_intro (M := mX6_forget) (ls := [some (.ref 0), none]) (by decide) rfl rfl rfl (Nat.le_of_ble_eq_true rfl) ?_
  intro X A C hX hA hr hk
  replace C : CX X B A mX6_forget.2.2.2.2 RX6 cX6_forget 2 0 0 := C
  have hr : (xMeth X).sig.returnType = (some .int) := hr
  change ZW X B A 2 0 0 _ _ 0 [some (.ref 0), none] []
  refine zw_aload_n (i := 0) (nx := 1) C dX6_forget_0 rfl rfl rfl ?_
  refine zw_getr (nx := 4) C dX6_forget_1 rfl flX6_12 iq5 rfl rfl rfl rfl ?_
  refine zw_geti (nx := 7) C dX6_forget_4 rfl flX6_196 iq2 rfl rfl rfl rfl ?_
  refine zw_ist1 (nx := 8) C (eIst_n dX6_forget_7 rfl rfl) (Nat.le_of_ble_eq_true rfl) rfl ?_
  refine zw_aload_n (i := 0) (nx := 9) C dX6_forget_8 rfl rfl rfl ?_
  refine zw_getr (nx := 12) C dX6_forget_9 rfl flX6_12 iq5 rfl rfl rfl rfl ?_
  refine zw_iconst (nx := 13) C dX6_forget_12 rfl ?_
  refine zw_puti (nx := 16) C dX6_forget_13 rfl flX6_196 ic2 nf2_9 rfl rfl rfl rfl rfl ?_
  refine zw_iload_n (i := 1) (nx := 17) C dX6_forget_16 rfl rfl rfl ?_
  exact zw_iret C hA hr hk dX6_forget_17 rfl rfl
theorem run_X6_status_0 : zRun l B mX6_status [.ref 0, zi 0] ζ (some (zi (ζ.1 0 9))) ζ := by
  refine zrun_intro (M := mX6_status) (ls := [some (.ref 0), some (zi 0)]) (by decide) rfl rfl rfl (Nat.le_of_ble_eq_true rfl) ?_
  intro X A C hX hA hr hk
  replace C : CX X B A mX6_status.2.2.2.2 RX6 cX6_status 2 0 0 := C
  have hr : (xMeth X).sig.returnType = (some .int) := hr
  change ZW X B A 2 0 0 _ _ 0 [some (.ref 0), some (zi 0)] []
  refine zw_iload_n (i := 1) (nx := 1) C dX6_status_0 rfl rfl rfl ?_
  refine zw_tableIn (nx := 28) C dX6_status_1 (by omega) (by omega) (by omega) rfl rfl ?_
  refine zw_aload_n (i := 0) (nx := 29) C dX6_status_28 rfl rfl rfl ?_
  refine zw_geti (nx := 32) C dX6_status_29 rfl flX6_58 iq5 rfl rfl rfl rfl ?_
  exact zw_iret C hA hr hk dX6_status_32 rfl rfl
theorem run_X6_status_1 : zRun l B mX6_status [.ref 0, zi 1] ζ (some (zi (ζ.1 0 10))) ζ := by
  refine zrun_intro (M := mX6_status) (ls := [some (.ref 0), some (zi 1)]) (by decide) rfl rfl rfl (Nat.le_of_ble_eq_true rfl) ?_
  intro X A C hX hA hr hk
  replace C : CX X B A mX6_status.2.2.2.2 RX6 cX6_status 2 0 0 := C
  have hr : (xMeth X).sig.returnType = (some .int) := hr
  change ZW X B A 2 0 0 _ _ 0 [some (.ref 0), some (zi 1)] []
  refine zw_iload_n (i := 1) (nx := 1) C dX6_status_0 rfl rfl rfl ?_
  refine zw_tableIn (nx := 33) C dX6_status_1 (by omega) (by omega) (by omega) rfl rfl ?_
  refine zw_aload_n (i := 0) (nx := 34) C dX6_status_33 rfl rfl rfl ?_
  refine zw_geti (nx := 37) C dX6_status_34 rfl flX6_61 iq5 rfl rfl rfl rfl ?_
  exact zw_iret C hA hr hk dX6_status_37 rfl rfl
theorem run_X6_status_2 : zRun l B mX6_status [.ref 0, zi 2] ζ (some (zi (ζ.1 0 11))) ζ := by
  refine zrun_intro (M := mX6_status) (ls := [some (.ref 0), some (zi 2)]) (by decide) rfl rfl rfl (Nat.le_of_ble_eq_true rfl) ?_
  intro X A C hX hA hr hk
  replace C : CX X B A mX6_status.2.2.2.2 RX6 cX6_status 2 0 0 := C
  have hr : (xMeth X).sig.returnType = (some .int) := hr
  change ZW X B A 2 0 0 _ _ 0 [some (.ref 0), some (zi 2)] []
  refine zw_iload_n (i := 1) (nx := 1) C dX6_status_0 rfl rfl rfl ?_
  refine zw_tableIn (nx := 38) C dX6_status_1 (by omega) (by omega) (by omega) rfl rfl ?_
  refine zw_aload_n (i := 0) (nx := 39) C dX6_status_38 rfl rfl rfl ?_
  refine zw_geti (nx := 42) C dX6_status_39 rfl flX6_64 iq5 rfl rfl rfl rfl ?_
  exact zw_iret C hA hr hk dX6_status_42 rfl rfl
theorem run_X6_status_bad {w : Int} (hw : -2147483648 ≤ w ∧ w ≤ 2147483647) (h : ¬ (0 ≤ w ∧ w ≤ 2)) : zRun l B mX6_status [.ref 0, zi w] ζ (some (zi (-1))) (bdS ζ) := by
  refine zrun_intro (M := mX6_status) (ls := [some (.ref 0), some (zi w)]) (by decide) rfl rfl rfl (Nat.le_of_ble_eq_true rfl) ?_
  intro X A C hX hA hr hk
  replace C : CX X B A mX6_status.2.2.2.2 RX6 cX6_status 2 0 0 := C
  have hr : (xMeth X).sig.returnType = (some .int) := hr
  change ZW X B A 2 0 0 _ _ 0 [some (.ref 0), some (zi w)] []
  refine zw_iload_n (i := 1) (nx := 1) C dX6_status_0 rfl rfl rfl ?_
  refine zw_tableOut (nx := 43) C dX6_status_1 (by omega) (by omega) rfl ?_
  refine zw_aload_n (i := 0) (nx := 44) C dX6_status_43 rfl rfl rfl ?_
  refine zw_iconst (nx := 45) C dX6_status_44 rfl ?_
  refine zw_cV11 (nx := 48) C dX6_status_45 rfl cvX6_71 rfl rfl ⟨Nat.le_of_ble_eq_true rfl, Nat.le_of_ble_eq_true rfl⟩ rfl rfl (Nat.le_of_ble_eq_true rfl) run_X6_bad ?_
  exact zw_iret C hA hr hk dX6_status_48 rfl rfl
theorem run_X6_howMany {n k : Nat} (hc : cOk ζ n) (hk7 : k < 7) : zRun l B mX6_howMany [.ref 0, zi k] ζ (some (zi (cCnt ζ n k))) ζ := by
  match k, hk7 with
  | 0, _ =>
    refine zrun_intro (M := mX6_howMany) (ls := [some (.ref 0), some (zi (0 : Nat))]) (by decide) rfl rfl rfl (Nat.le_of_ble_eq_true rfl) ?_
    intro X A C hX hA hr hk
    replace C : CX X B A mX6_howMany.2.2.2.2 RX6 cX6_howMany 2 0 0 := C
    have hr : (xMeth X).sig.returnType = (some .int) := hr
    change ZW X B A 2 0 0 _ _ 0 [some (.ref 0), some (zi (0 : Nat))] []
    refine zw_iload_n (i := 1) (nx := 1) C dX6_howMany_0 rfl rfl rfl ?_
    refine zw_tableIn (nx := 40) C dX6_howMany_1 (by omega) (by omega) (by omega) rfl rfl ?_
    refine zw_aload_n (i := 0) (nx := 41) C dX6_howMany_40 rfl rfl rfl ?_
    refine zw_getr (nx := 44) C dX6_howMany_41 rfl flX6_12 iq5 rfl rfl rfl rfl ?_
    refine zw_geti (nx := 47) C dX6_howMany_44 rfl flX6_75 iq2 rfl rfl rfl rfl ?_
    exact zw_iret C hA hr hk dX6_howMany_47 (zr hc.2.1.symm) rfl
  | 1, _ =>
    refine zrun_intro (M := mX6_howMany) (ls := [some (.ref 0), some (zi (1 : Nat))]) (by decide) rfl rfl rfl (Nat.le_of_ble_eq_true rfl) ?_
    intro X A C hX hA hr hk
    replace C : CX X B A mX6_howMany.2.2.2.2 RX6 cX6_howMany 2 0 0 := C
    have hr : (xMeth X).sig.returnType = (some .int) := hr
    change ZW X B A 2 0 0 _ _ 0 [some (.ref 0), some (zi (1 : Nat))] []
    refine zw_iload_n (i := 1) (nx := 1) C dX6_howMany_0 rfl rfl rfl ?_
    refine zw_tableIn (nx := 48) C dX6_howMany_1 (by omega) (by omega) (by omega) rfl rfl ?_
    refine zw_aload_n (i := 0) (nx := 49) C dX6_howMany_48 rfl rfl rfl ?_
    refine zw_getr (nx := 52) C dX6_howMany_49 rfl flX6_12 iq5 rfl rfl rfl rfl ?_
    refine zw_cV01 (nx := 55) C dX6_howMany_52 rfl cvX6_157 rfl rfl ⟨Nat.le_of_ble_eq_true rfl, Nat.le_of_ble_eq_true rfl⟩ rfl rfl (Nat.le_of_ble_eq_true rfl) (run_X2_freeYards hc) ?_
    exact zw_iret C hA hr hk dX6_howMany_55 rfl rfl
  | 2, _ =>
    refine zrun_intro (M := mX6_howMany) (ls := [some (.ref 0), some (zi (2 : Nat))]) (by decide) rfl rfl rfl (Nat.le_of_ble_eq_true rfl) ?_
    intro X A C hX hA hr hk
    replace C : CX X B A mX6_howMany.2.2.2.2 RX6 cX6_howMany 2 0 0 := C
    have hr : (xMeth X).sig.returnType = (some .int) := hr
    change ZW X B A 2 0 0 _ _ 0 [some (.ref 0), some (zi (2 : Nat))] []
    refine zw_iload_n (i := 1) (nx := 1) C dX6_howMany_0 rfl rfl rfl ?_
    refine zw_tableIn (nx := 56) C dX6_howMany_1 (by omega) (by omega) (by omega) rfl rfl ?_
    refine zw_aload_n (i := 0) (nx := 57) C dX6_howMany_56 rfl rfl rfl ?_
    refine zw_getr (nx := 60) C dX6_howMany_57 rfl flX6_12 iq5 rfl rfl rfl rfl ?_
    refine zw_cV01 (nx := 63) C dX6_howMany_60 rfl cvX6_215 rfl rfl ⟨Nat.le_of_ble_eq_true rfl, Nat.le_of_ble_eq_true rfl⟩ rfl rfl (Nat.le_of_ble_eq_true rfl) (run_X2_seenByAll hc) ?_
    exact zw_iret C hA hr hk dX6_howMany_63 rfl rfl
  | 3, _ =>
    refine zrun_intro (M := mX6_howMany) (ls := [some (.ref 0), some (zi (3 : Nat))]) (by decide) rfl rfl rfl (Nat.le_of_ble_eq_true rfl) ?_
    intro X A C hX hA hr hk
    replace C : CX X B A mX6_howMany.2.2.2.2 RX6 cX6_howMany 2 0 0 := C
    have hr : (xMeth X).sig.returnType = (some .int) := hr
    change ZW X B A 2 0 0 _ _ 0 [some (.ref 0), some (zi (3 : Nat))] []
    refine zw_iload_n (i := 1) (nx := 1) C dX6_howMany_0 rfl rfl rfl ?_
    refine zw_tableIn (nx := 64) C dX6_howMany_1 (by omega) (by omega) (by omega) rfl rfl ?_
    refine zw_aload_n (i := 0) (nx := 65) C dX6_howMany_64 rfl rfl rfl ?_
    refine zw_getr (nx := 68) C dX6_howMany_65 rfl flX6_12 iq5 rfl rfl rfl rfl ?_
    refine zw_cV01 (nx := 71) C dX6_howMany_68 rfl cvX6_250 rfl rfl ⟨Nat.le_of_ble_eq_true rfl, Nat.le_of_ble_eq_true rfl⟩ rfl rfl (Nat.le_of_ble_eq_true rfl) (run_X2_paidByAll hc) ?_
    exact zw_iret C hA hr hk dX6_howMany_71 rfl rfl
  | 4, _ =>
    refine zrun_intro (M := mX6_howMany) (ls := [some (.ref 0), some (zi (4 : Nat))]) (by decide) rfl rfl rfl (Nat.le_of_ble_eq_true rfl) ?_
    intro X A C hX hA hr hk
    replace C : CX X B A mX6_howMany.2.2.2.2 RX6 cX6_howMany 2 0 0 := C
    have hr : (xMeth X).sig.returnType = (some .int) := hr
    change ZW X B A 2 0 0 _ _ 0 [some (.ref 0), some (zi (4 : Nat))] []
    refine zw_iload_n (i := 1) (nx := 1) C dX6_howMany_0 rfl rfl rfl ?_
    refine zw_tableIn (nx := 72) C dX6_howMany_1 (by omega) (by omega) (by omega) rfl rfl ?_
    refine zw_aload_n (i := 0) (nx := 73) C dX6_howMany_72 rfl rfl rfl ?_
    refine zw_getr (nx := 76) C dX6_howMany_73 rfl flX6_12 iq5 rfl rfl rfl rfl ?_
    refine zw_geti (nx := 79) C dX6_howMany_76 rfl flX6_196 iq2 rfl rfl rfl rfl ?_
    exact zw_iret C hA hr hk dX6_howMany_79 rfl rfl
  | 5, _ =>
    refine zrun_intro (M := mX6_howMany) (ls := [some (.ref 0), some (zi (5 : Nat))]) (by decide) rfl rfl rfl (Nat.le_of_ble_eq_true rfl) ?_
    intro X A C hX hA hr hk
    replace C : CX X B A mX6_howMany.2.2.2.2 RX6 cX6_howMany 2 0 0 := C
    have hr : (xMeth X).sig.returnType = (some .int) := hr
    change ZW X B A 2 0 0 _ _ 0 [some (.ref 0), some (zi (5 : Nat))] []
    refine zw_iload_n (i := 1) (nx := 1) C dX6_howMany_0 rfl rfl rfl ?_
    refine zw_tableIn (nx := 80) C dX6_howMany_1 (by omega) (by omega) (by omega) rfl rfl ?_
    refine zw_aload_n (i := 0) (nx := 81) C dX6_howMany_80 rfl rfl rfl ?_
    refine zw_getr (nx := 84) C dX6_howMany_81 rfl flX6_12 iq5 rfl rfl rfl rfl ?_
    refine zw_geti (nx := 87) C dX6_howMany_84 rfl flX6_88 iq2 rfl rfl rfl rfl ?_
    exact zw_iret C hA hr hk dX6_howMany_87 rfl rfl
  | 6, _ =>
    refine zrun_intro (M := mX6_howMany) (ls := [some (.ref 0), some (zi (6 : Nat))]) (by decide) rfl rfl rfl (Nat.le_of_ble_eq_true rfl) ?_
    intro X A C hX hA hr hk
    replace C : CX X B A mX6_howMany.2.2.2.2 RX6 cX6_howMany 2 0 0 := C
    have hr : (xMeth X).sig.returnType = (some .int) := hr
    change ZW X B A 2 0 0 _ _ 0 [some (.ref 0), some (zi (6 : Nat))] []
    refine zw_iload_n (i := 1) (nx := 1) C dX6_howMany_0 rfl rfl rfl ?_
    refine zw_tableOut (nx := 88) C dX6_howMany_1 (by omega) (by omega) rfl ?_
    refine zw_aload_n (i := 0) (nx := 89) C dX6_howMany_88 rfl rfl rfl ?_
    refine zw_getr (nx := 92) C dX6_howMany_89 rfl flX6_26 iq5 rfl rfl rfl rfl ?_
    refine zw_geti (nx := 95) C dX6_howMany_92 rfl flX6_112 iq4 rfl rfl rfl rfl ?_
    exact zw_iret C hA hr hk dX6_howMany_95 rfl rfl
theorem run_X6_count_ok {n k : Nat} (hc : cOk ζ n) (hk7 : k < 7) : zRun l B mX6_count [.ref 0, zi k] ζ (some (zi (cCnt ζ n k))) ζ := by
  refine zrun_intro (M := mX6_count) (ls := [some (.ref 0), some (zi k)]) (by decide) rfl rfl rfl (Nat.le_of_ble_eq_true rfl) ?_
  intro X A C hX hA hr hk
  replace C : CX X B A mX6_count.2.2.2.2 RX6 cX6_count 2 0 0 := C
  have hr : (xMeth X).sig.returnType = (some .int) := hr
  change ZW X B A 2 0 0 _ _ 0 [some (.ref 0), some (zi k)] []
  refine zw_iload_n (i := 1) (nx := 1) C dX6_count_0 rfl rfl rfl ?_
  refine zw_bipush (v := 6) (nx := 3) C dX6_count_1 (by decide) rfl ?_
  refine zw_cS21 (nx := 6) C dX6_count_3 rfl csX6_95 ⟨Nat.le_of_ble_eq_true rfl, Nat.le_of_ble_eq_true rfl⟩ (Nat.le_of_ble_eq_true rfl) (run_X6_within_t (by omega) (by omega)) ?_
  refine zw_if_eq (tgt := 17) (nx := 9) C dX6_count_6 rfl rfl (by omega) (fun h6 => by exfalso; omega) (fun h6 => ?_)
  refine zw_aload_n (i := 0) (nx := 10) C dX6_count_9 rfl rfl rfl ?_
  refine zw_iload_n (i := 1) (nx := 11) C dX6_count_10 rfl rfl rfl ?_
  refine zw_cV11 (nx := 14) C dX6_count_11 rfl cvX6_243 rfl rfl ⟨Nat.le_of_ble_eq_true rfl, Nat.le_of_ble_eq_true rfl⟩ rfl rfl (Nat.le_of_ble_eq_true rfl) (run_X6_howMany hc hk7) ?_
  refine zw_goto (nx := 23) C dX6_count_14 rfl ?_
  exact zw_iret C hA hr hk dX6_count_23 rfl rfl
theorem run_X6_count_bad {w : Int} (hw : -2147483648 ≤ w ∧ w ≤ 2147483647) (h : ¬ (0 ≤ w ∧ w ≤ 6)) : zRun l B mX6_count [.ref 0, zi w] ζ (some (zi (-2))) (bdS ζ) := by
  refine zrun_intro (M := mX6_count) (ls := [some (.ref 0), some (zi w)]) (by decide) rfl rfl rfl (Nat.le_of_ble_eq_true rfl) ?_
  intro X A C hX hA hr hk
  replace C : CX X B A mX6_count.2.2.2.2 RX6 cX6_count 2 0 0 := C
  have hr : (xMeth X).sig.returnType = (some .int) := hr
  change ZW X B A 2 0 0 _ _ 0 [some (.ref 0), some (zi w)] []
  refine zw_iload_n (i := 1) (nx := 1) C dX6_count_0 rfl rfl rfl ?_
  refine zw_bipush (v := 6) (nx := 3) C dX6_count_1 (by decide) rfl ?_
  refine zw_cS21 (nx := 6) C dX6_count_3 rfl csX6_95 ⟨Nat.le_of_ble_eq_true rfl, Nat.le_of_ble_eq_true rfl⟩ (Nat.le_of_ble_eq_true rfl) (run_X6_within_f hw (by omega) h) ?_
  refine zw_if_eq (tgt := 17) (nx := 9) C dX6_count_6 rfl rfl (by omega) (fun h6 => ?_) (fun h6 => by exfalso; omega)
  refine zw_aload_n (i := 0) (nx := 18) C dX6_count_17 rfl rfl rfl ?_
  refine zw_bipush (v := -2) (nx := 20) C dX6_count_18 (by decide) rfl ?_
  refine zw_cV11 (nx := 23) C dX6_count_20 rfl cvX6_71 rfl rfl ⟨Nat.le_of_ble_eq_true rfl, Nat.le_of_ble_eq_true rfl⟩ rfl rfl (Nat.le_of_ble_eq_true rfl) run_X6_bad ?_
  exact zw_iret C hA hr hk dX6_count_23 rfl rfl
theorem run_X6_part_0 (h : -2147483648 ≤ ζ.1 0 7 ∧ ζ.1 0 7 ≤ 2147483647) : zRun l B mX6_part [.ref 0, zi 0] ζ (some (zl (ζ.1 0 7))) ζ := by
  refine zrun_intro (M := mX6_part) (ls := [some (.ref 0), some (zi 0)]) (by decide) rfl rfl rfl (Nat.le_of_ble_eq_true rfl) ?_
  intro X A C hX hA hr hk
  replace C : CX X B A mX6_part.2.2.2.2 RX6 cX6_part 2 0 0 := C
  have hr : (xMeth X).sig.returnType = (some .long) := hr
  change ZW X B A 2 0 0 _ _ 0 [some (.ref 0), some (zi 0)] []
  refine zw_iload_n (i := 1) (nx := 1) C dX6_part_0 rfl rfl rfl ?_
  refine zw_lookup (nx := 28) C dX6_part_1 (by omega) rfl rfl rfl ?_
  refine zw_aload_n (i := 0) (nx := 29) C dX6_part_28 rfl rfl rfl ?_
  refine zw_geti (nx := 32) C dX6_part_29 rfl flX6_51 iq5 rfl rfl rfl rfl ?_
  refine zw_i2l (nx := 33) C dX6_part_32 (by omega) rfl ?_
  exact zw_lret C hA hr hk dX6_part_33 rfl rfl
theorem run_X6_part_1 (h : -2147483648 ≤ ζ.1 0 8 ∧ ζ.1 0 8 ≤ 2147483647) : zRun l B mX6_part [.ref 0, zi 1] ζ (some (zl (ζ.1 0 8))) ζ := by
  refine zrun_intro (M := mX6_part) (ls := [some (.ref 0), some (zi 1)]) (by decide) rfl rfl rfl (Nat.le_of_ble_eq_true rfl) ?_
  intro X A C hX hA hr hk
  replace C : CX X B A mX6_part.2.2.2.2 RX6 cX6_part 2 0 0 := C
  have hr : (xMeth X).sig.returnType = (some .long) := hr
  change ZW X B A 2 0 0 _ _ 0 [some (.ref 0), some (zi 1)] []
  refine zw_iload_n (i := 1) (nx := 1) C dX6_part_0 rfl rfl rfl ?_
  refine zw_lookup (nx := 34) C dX6_part_1 (by omega) rfl rfl rfl ?_
  refine zw_aload_n (i := 0) (nx := 35) C dX6_part_34 rfl rfl rfl ?_
  refine zw_geti (nx := 38) C dX6_part_35 rfl flX6_55 iq5 rfl rfl rfl rfl ?_
  refine zw_i2l (nx := 39) C dX6_part_38 (by omega) rfl ?_
  exact zw_lret C hA hr hk dX6_part_39 rfl rfl
theorem run_X6_from_bad {w : Int} (hw : -2147483648 ≤ w ∧ w ≤ 2147483647) (h : ¬ (0 ≤ w ∧ w ≤ 1)) : zRun l B mX6_from [.ref 0, zi w] ζ (some (zi (-2))) (bdS ζ) := by
  refine zrun_intro (M := mX6_from) (ls := [some (.ref 0), some (zi w), none]) (by decide) rfl rfl rfl (Nat.le_of_ble_eq_true rfl) ?_
  intro X A C hX hA hr hk
  replace C : CX X B A mX6_from.2.2.2.2 RX6 cX6_from 3 0 0 := C
  have hr : (xMeth X).sig.returnType = (some .int) := hr
  change ZW X B A 3 0 0 _ _ 0 [some (.ref 0), some (zi w), none] []
  refine zw_iload_n (i := 1) (nx := 1) C dX6_from_0 rfl rfl rfl ?_
  refine zw_iconst (nx := 2) C dX6_from_1 rfl ?_
  refine zw_cS21 (nx := 5) C dX6_from_2 rfl csX6_95 ⟨Nat.le_of_ble_eq_true rfl, Nat.le_of_ble_eq_true rfl⟩ (Nat.le_of_ble_eq_true rfl) (run_X6_within_f hw (by omega) h) ?_
  refine zw_if_ne (tgt := 15) (nx := 8) C dX6_from_5 rfl rfl (by omega) (fun h5 => by exfalso; omega) (fun h5 => ?_)
  refine zw_aload_n (i := 0) (nx := 9) C dX6_from_8 rfl rfl rfl ?_
  refine zw_bipush (v := -2) (nx := 11) C dX6_from_9 (by decide) rfl ?_
  refine zw_cV11 (nx := 14) C dX6_from_11 rfl cvX6_71 rfl rfl ⟨Nat.le_of_ble_eq_true rfl, Nat.le_of_ble_eq_true rfl⟩ rfl rfl (Nat.le_of_ble_eq_true rfl) run_X6_bad ?_
  exact zw_iret C hA hr hk dX6_from_14 rfl rfl
theorem run_X6_from_no {i : Nat} (hi : i < 2) (h : ζ.1 38 i = 0) : zRun l B mX6_from [.ref 0, zi i] ζ (some (zi (-3))) (noS ζ) := by
  refine zrun_intro (M := mX6_from) (ls := [some (.ref 0), some (zi i), none]) (by decide) rfl rfl rfl (Nat.le_of_ble_eq_true rfl) ?_
  intro X A C hX hA hr hk
  replace C : CX X B A mX6_from.2.2.2.2 RX6 cX6_from 3 0 0 := C
  have hr : (xMeth X).sig.returnType = (some .int) := hr
  change ZW X B A 3 0 0 _ _ 0 [some (.ref 0), some (zi i), none] []
  refine zw_iload_n (i := 1) (nx := 1) C dX6_from_0 rfl rfl rfl ?_
  refine zw_iconst (nx := 2) C dX6_from_1 rfl ?_
  refine zw_cS21 (nx := 5) C dX6_from_2 rfl csX6_95 ⟨Nat.le_of_ble_eq_true rfl, Nat.le_of_ble_eq_true rfl⟩ (Nat.le_of_ble_eq_true rfl) (run_X6_within_t (by omega) (by omega)) ?_
  refine zw_if_ne (tgt := 15) (nx := 8) C dX6_from_5 rfl rfl (by omega) (fun h5 => ?_) (fun h5 => by exfalso; omega)
  refine zw_aload_n (i := 0) (nx := 16) C dX6_from_15 rfl rfl rfl ?_
  refine zw_getr (nx := 19) C dX6_from_16 rfl flX6_19 iq5 rfl rfl rfl rfl ?_
  refine zw_iload_n (i := 1) (nx := 20) C dX6_from_19 rfl rfl rfl ?_
  refine zw_aald0 (i) (nx := 21) C dX6_from_20 rfl rfl rfl rfl (by omega) h ?_
  refine zw_ast2N (nx := 22) C dX6_from_21 rfl (Nat.le_of_ble_eq_true rfl) rfl ?_
  refine zw_aload_nN (i := 2) (nx := 23) C dX6_from_22 rfl rfl rfl ?_
  refine zw_ifnnN (nx := 26) C dX6_from_23 rfl ?_
  refine zw_aload_n (i := 0) (nx := 27) C dX6_from_26 rfl rfl rfl ?_
  refine zw_cV01 (nx := 30) C dX6_from_27 rfl cvX6_130 rfl rfl ⟨Nat.le_of_ble_eq_true rfl, Nat.le_of_ble_eq_true rfl⟩ rfl rfl (Nat.le_of_ble_eq_true rfl) run_X6_no ?_
  exact zw_iret C hA hr hk dX6_from_30 rfl rfl
theorem hp_of {j : Nat} (h : ζ.1 38 j = 1) : ¬ (zz ζ).1 38 j = 0 := by
  show ¬ iI (ζ.1 38 j) = 0
  rw [h]
  decide
theorem run_X6_from_0 (h : ζ.1 38 0 = 1) : zRun l B mX6_from [.ref 0, zi 0] ζ (some (zi 1)) (cpS ζ 1 20) := by
  refine zrun_intro (M := mX6_from) (ls := [some (.ref 0), some (zi 0), none]) (by decide) rfl rfl rfl (Nat.le_of_ble_eq_true rfl) ?_
  intro X A C hX hA hr hk
  replace C : CX X B A mX6_from.2.2.2.2 RX6 cX6_from 3 0 0 := C
  have hr : (xMeth X).sig.returnType = (some .int) := hr
  change ZW X B A 3 0 0 _ _ 0 [some (.ref 0), some (zi 0), none] []
  refine zw_iload_n (i := 1) (nx := 1) C dX6_from_0 rfl rfl rfl ?_
  refine zw_iconst (nx := 2) C dX6_from_1 rfl ?_
  refine zw_cS21 (nx := 5) C dX6_from_2 rfl csX6_95 ⟨Nat.le_of_ble_eq_true rfl, Nat.le_of_ble_eq_true rfl⟩ (Nat.le_of_ble_eq_true rfl) (run_X6_within_t (by omega) (by omega)) ?_
  refine zw_if_ne (tgt := 15) (nx := 8) C dX6_from_5 rfl rfl (by omega) (fun h5 => ?_) (fun h5 => by exfalso; omega)
  refine zw_aload_n (i := 0) (nx := 16) C dX6_from_15 rfl rfl rfl ?_
  refine zw_getr (nx := 19) C dX6_from_16 rfl flX6_19 iq5 rfl rfl rfl rfl ?_
  refine zw_iload_n (i := 1) (nx := 20) C dX6_from_19 rfl rfl rfl ?_
  refine zw_aald1 (0) (nx := 21) C dX6_from_20 rfl rfl rfl rfl (by omega) h ?_
  refine zw_ast2 (nx := 22) C dX6_from_21 rfl (Nat.le_of_ble_eq_true rfl) rfl ?_
  refine zw_aload_n (i := 2) (nx := 23) C dX6_from_22 rfl rfl rfl ?_
  refine zw_ifnn (nx := 31) C dX6_from_23 rfl ?_
  refine zw_aload_n (i := 0) (nx := 32) C dX6_from_31 rfl rfl rfl ?_
  refine zw_getr (nx := 35) C dX6_from_32 rfl flX6_12 iq5 rfl rfl rfl rfl ?_
  refine zw_aload_n (i := 2) (nx := 36) C dX6_from_35 rfl rfl rfl ?_
  refine zw_cV10 (nx := 39) C dX6_from_36 rfl cvX6_123 rfl rfl ⟨Nat.le_of_ble_eq_true rfl, Nat.le_of_ble_eq_true rfl⟩ rfl rfl (Nat.le_of_ble_eq_true rfl) (run_X2_copyOf_1_20 (hp_of h)) ?_
  refine zw_iconst (nx := 40) C dX6_from_39 rfl ?_
  exact zw_iret C hA hr hk dX6_from_40 rfl rfl
theorem run_X6_from_1 (h : ζ.1 38 1 = 1) : zRun l B mX6_from [.ref 0, zi 1] ζ (some (zi 1)) (cpS ζ 1 29) := by
  refine zrun_intro (M := mX6_from) (ls := [some (.ref 0), some (zi 1), none]) (by decide) rfl rfl rfl (Nat.le_of_ble_eq_true rfl) ?_
  intro X A C hX hA hr hk
  replace C : CX X B A mX6_from.2.2.2.2 RX6 cX6_from 3 0 0 := C
  have hr : (xMeth X).sig.returnType = (some .int) := hr
  change ZW X B A 3 0 0 _ _ 0 [some (.ref 0), some (zi 1), none] []
  refine zw_iload_n (i := 1) (nx := 1) C dX6_from_0 rfl rfl rfl ?_
  refine zw_iconst (nx := 2) C dX6_from_1 rfl ?_
  refine zw_cS21 (nx := 5) C dX6_from_2 rfl csX6_95 ⟨Nat.le_of_ble_eq_true rfl, Nat.le_of_ble_eq_true rfl⟩ (Nat.le_of_ble_eq_true rfl) (run_X6_within_t (by omega) (by omega)) ?_
  refine zw_if_ne (tgt := 15) (nx := 8) C dX6_from_5 rfl rfl (by omega) (fun h5 => ?_) (fun h5 => by exfalso; omega)
  refine zw_aload_n (i := 0) (nx := 16) C dX6_from_15 rfl rfl rfl ?_
  refine zw_getr (nx := 19) C dX6_from_16 rfl flX6_19 iq5 rfl rfl rfl rfl ?_
  refine zw_iload_n (i := 1) (nx := 20) C dX6_from_19 rfl rfl rfl ?_
  refine zw_aald1 (1) (nx := 21) C dX6_from_20 rfl rfl rfl rfl (by omega) h ?_
  refine zw_ast2 (nx := 22) C dX6_from_21 rfl (Nat.le_of_ble_eq_true rfl) rfl ?_
  refine zw_aload_n (i := 2) (nx := 23) C dX6_from_22 rfl rfl rfl ?_
  refine zw_ifnn (nx := 31) C dX6_from_23 rfl ?_
  refine zw_aload_n (i := 0) (nx := 32) C dX6_from_31 rfl rfl rfl ?_
  refine zw_getr (nx := 35) C dX6_from_32 rfl flX6_12 iq5 rfl rfl rfl rfl ?_
  refine zw_aload_n (i := 2) (nx := 36) C dX6_from_35 rfl rfl rfl ?_
  refine zw_cV10 (nx := 39) C dX6_from_36 rfl cvX6_123 rfl rfl ⟨Nat.le_of_ble_eq_true rfl, Nat.le_of_ble_eq_true rfl⟩ rfl rfl (Nat.le_of_ble_eq_true rfl) (run_X2_copyOf_1_29 (hp_of h)) ?_
  refine zw_iconst (nx := 40) C dX6_from_39 rfl ?_
  exact zw_iret C hA hr hk dX6_from_40 rfl rfl
end Pub2
