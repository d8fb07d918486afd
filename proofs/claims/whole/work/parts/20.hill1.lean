/-! specs of a hill, over a view V: V 0 0 track, V 0 1 dark; V 1 heights, V 2 kinds, V 3 purses, V 4 paid, V 5 seats -/
def cV (ζ : zSt) (a b : Nat) : Int := match a with
  | 0 => (match b with | 0 => ζ.1 1 0 | _ => ζ.1 1 1)
  | 1 => ζ.1 2 b
  | 2 => ζ.1 3 b
  | 3 => ζ.1 5 b
  | 4 => ζ.1 6 b
  | 5 => ζ.1 7 b
  | 6 => ζ.1 8 b
  | _ => ζ.1 9 b
def sDkF (t d y : Int) : Int := if 0 < d - 9 * (if 0 ≤ y - t then y - t else -(y - t)) then d - 9 * (if 0 ≤ y - t then y - t else -(y - t)) else 0
def sDk (V : Nat → Nat → Int) (y : Int) : Int := sDkF (V 0 0) (V 0 1) y
def sHd (k : Int) : Int := if k = 1 then 3 else if k = 3 then 0 else if k = 4 then 4 else if k = 5 then 0 else 1
def sWo (k s h : Int) : Int := if k = 2 then s / 2 else if k = 3 then (if s = 0 then 0 else s + 20 * h) else if k = 4 then (if s < 200 then 0 else s) else if k = 5 then 3 * (s / 2) else s
def sHol (V : Nat → Nat → Int) (y : Int) : Nat → Nat → Int
  | _, 0 => -1
  | p, k + 1 => if V 5 p = y then (p : Int) else sHol V y (p + 1) k
def sBl (V : Nat → Nat → Int) (q f y : Nat) : Bool := decide (f < y ∧ V 1 y < V 1 f + sHd (V 2 q))
def sHid (V : Nat → Nat → Int) (y a b : Nat) : Nat → Nat → Bool
  | _, 0 => false
  | p, k + 1 => if (p ≠ a ∧ p ≠ b ∧ V 5 p ≠ -1) ∧ sBl V p (V 5 p).toNat y = true then true else sHid V y a b (p + 1) k
def sSeen (V : Nat → Nat → Int) (n p y : Nat) : Int := if sHid V y p p 0 n = true then 0 else sDk V y
def sNow (V : Nat → Nat → Int) (n p : Nat) : Int := if V 5 p = -1 then 0 else sSeen V n p (V 5 p).toNat
def sFree (V : Nat → Nat → Int) : Nat → Int
  | 0 => 8
  | p + 1 => if V 5 p = -1 then sFree V p else sFree V p - 1
def sSum (f : Nat → Int) : Nat → Int
  | 0 => 0
  | p + 1 => sSum f p + f p
def sWin (V : Nat → Nat → Int) (n p y : Nat) : Int := sWo (V 2 p) (sSeen V n p y) (V 1 y)
def sBid (V : Nat → Nat → Int) (n p y : Nat) : Int := if V 3 p < sWin V n p y then V 3 p else sWin V n p y
def sOff (V : Nat → Nat → Int) (n y p : Nat) : Int := if V 5 p = -1 then sBid V n p y else 0
def sTop (f : Nat → Int) : Nat → Int × Int
  | 0 => (-1, 0)
  | p + 1 => if (sTop f p).2 < f p then ((p : Int), f p) else sTop f p
def sPri (f : Nat → Int) (w : Int) : Nat → Int
  | 0 => 0
  | p + 1 => if (p : Int) = w then sPri f w p else if sPri f w p < f p then f p else sPri f w p
def sHurt (V : Nat → Nat → Int) (n p y q : Nat) : Int := if ((q ≠ p ∧ V 5 q ≠ -1) ∧ sBl V p y (V 5 q).toNat = true) ∧ sHid V (V 5 q).toNat q p 0 n = false then sDk V (V 5 q) else 0
/-- what holds of a view of n bidders -/
def vOk (V : Nat → Nat → Int) (n : Nat) : Prop := n ≤ 5 ∧ (0 ≤ V 0 0 ∧ V 0 0 ≤ 7) ∧ (0 ≤ V 0 1 ∧ V 0 1 ≤ 240) ∧ (∀ y, y < 8 → 0 ≤ V 1 y ∧ V 1 y ≤ 9) ∧ (∀ p, p < n → (0 ≤ V 2 p ∧ V 2 p ≤ 5) ∧ (0 ≤ V 3 p ∧ V 3 p ≤ 500) ∧ (0 ≤ V 4 p ∧ V 4 p ≤ 500) ∧ (-1 ≤ V 5 p ∧ V 5 p ≤ 7))
/-- the hill that is now: its number of bidders, and its heads -/
def cOk (ζ : zSt) (n : Nat) : Prop := vOk (cV ζ) n ∧ ζ.1 1 3 = n ∧ ∀ p, p < n → ζ.1 4 p = sHd (ζ.1 3 p)
theorem sDkF_bd {t d y : Int} (hd : 0 ≤ d ∧ d ≤ 240) : 0 ≤ sDkF t d y ∧ sDkF t d y ≤ 240 := by
  unfold sDkF; omega
theorem sHd_bd (k : Int) : 0 ≤ sHd k ∧ sHd k ≤ 4 := by
  unfold sHd; omega
theorem sWo_bd {k s h : Int} (hs : 0 ≤ s ∧ s ≤ 240) (hh : 0 ≤ h ∧ h ≤ 9) : 0 ≤ sWo k s h ∧ sWo k s h ≤ 420 := by
  unfold sWo; omega
theorem vOk.dk {V : Nat → Nat → Int} {n : Nat} (h : vOk V n) (y : Int) : 0 ≤ sDk V y ∧ sDk V y ≤ 240 := sDkF_bd h.2.2.1
theorem vOk.seen {V : Nat → Nat → Int} {n : Nat} (h : vOk V n) (p y : Nat) : 0 ≤ sSeen V n p y ∧ sSeen V n p y ≤ 240 := by
  have := h.dk y
  unfold sSeen; split <;> omega
theorem vOk.now {V : Nat → Nat → Int} {n : Nat} (h : vOk V n) (p : Nat) : 0 ≤ sNow V n p ∧ sNow V n p ≤ 240 := by
  have := h.seen p (V 5 p).toNat
  unfold sNow; split <;> omega
theorem vOk.win {V : Nat → Nat → Int} {n : Nat} (h : vOk V n) (p : Nat) {y : Nat} (hy : y < 8) : 0 ≤ sWin V n p y ∧ sWin V n p y ≤ 420 := sWo_bd (h.seen p y) (h.2.2.2.1 y hy)
theorem vOk.bid {V : Nat → Nat → Int} {n p : Nat} (h : vOk V n) (hp : p < n) {y : Nat} (hy : y < 8) : 0 ≤ sBid V n p y ∧ sBid V n p y ≤ 420 := by
  have := h.win p hy
  have := (h.2.2.2.2 p hp).2.1
  unfold sBid; split <;> omega
theorem vOk.off {V : Nat → Nat → Int} {n p : Nat} (h : vOk V n) (hp : p < n) {y : Nat} (hy : y < 8) : 0 ≤ sOff V n y p ∧ sOff V n y p ≤ 420 := by
  have := h.bid hp hy
  unfold sOff; split <;> omega
theorem sTop_bd {f : Nat → Int} {n : Nat} (h : ∀ p, p < n → 0 ≤ f p ∧ f p ≤ 420) : ∀ p, p ≤ n → (0 ≤ (sTop f p).2 ∧ (sTop f p).2 ≤ 420) ∧ -1 ≤ (sTop f p).1 ∧ (sTop f p).1 < p
  | 0, _ => ⟨⟨Int.le_refl 0, (by decide : (0 : Int) ≤ 420)⟩, Int.le_refl (-1), (by decide : (-1 : Int) < 0)⟩
  | p + 1, hp => by
    have ih := sTop_bd h p (by omega)
    have := h p (by omega)
    unfold sTop
    split
    · exact ⟨this, by show (-1 : Int) ≤ p; omega, by show (p : Int) < ((p + 1 : Nat) : Int); omega⟩
    · exact ⟨ih.1, ih.2.1, by have := ih.2.2; omega⟩
theorem sPri_bd {f : Nat → Int} {n : Nat} {w : Int} (h : ∀ p, p < n → 0 ≤ f p ∧ f p ≤ 420) : ∀ p, p ≤ n → 0 ≤ sPri f w p ∧ sPri f w p ≤ 420
  | 0, _ => ⟨Int.le_refl 0, (by decide : (0 : Int) ≤ 420)⟩
  | p + 1, hp => by
    have ih := sPri_bd (w := w) h p (by omega)
    have := h p (by omega)
    unfold sPri
    split
    · exact ih
    · split
      · exact this
      · exact ih
section Hill1
variable {l : Launch} {B : eB} {ζ : zSt}
set_option maxHeartbeats 4000000 in
theorem run_X3_worth {k s h : Int} (hk0 : 0 ≤ k ∧ k ≤ 5) (hs : 0 ≤ s ∧ s ≤ 240) (hh : 0 ≤ h ∧ h ≤ 9) : zRun l B mX3_worth [zi k, zi s, zi h] ζ (some (zi (sWo k s h))) ζ := by
  rcases (show k = 0 ∨ k = 1 ∨ k = 2 ∨ k = 3 ∨ k = 4 ∨ k = 5 by omega) with rfl | rfl | rfl | rfl | rfl | rfl
  · refine zrun_intro (M := mX3_worth) (ls := [some (zi 0), some (zi s), some (zi h)]) (by decide) rfl rfl rfl (Nat.le_of_ble_eq_true rfl) ?_
    intro X A C hX hA hr hk
    replace C : CX X B A mX3_worth.2.2.2.2 RX3 cX3_worth 3 0 0 := C
    have hr : (xMeth X).sig.returnType = (some .int) := hr
    change ZW X B A 3 0 0 _ _ 0 [some (zi 0), some (zi s), some (zi h)] []
    refine zw_iload_n (i := 0) (nx := 1) C dX3_worth_0 rfl rfl rfl ?_
    refine zw_tableOut (nx := 70) C dX3_worth_1 (by omega) (by omega) rfl ?_
    refine zw_iload_n (i := 1) (nx := 71) C dX3_worth_70 rfl rfl rfl ?_
    exact zw_iret C hA hr hk dX3_worth_71 (by simp [sWo]) rfl
  · refine zrun_intro (M := mX3_worth) (ls := [some (zi 1), some (zi s), some (zi h)]) (by decide) rfl rfl rfl (Nat.le_of_ble_eq_true rfl) ?_
    intro X A C hX hA hr hk
    replace C : CX X B A mX3_worth.2.2.2.2 RX3 cX3_worth 3 0 0 := C
    have hr : (xMeth X).sig.returnType = (some .int) := hr
    change ZW X B A 3 0 0 _ _ 0 [some (zi 1), some (zi s), some (zi h)] []
    refine zw_iload_n (i := 0) (nx := 1) C dX3_worth_0 rfl rfl rfl ?_
    refine zw_tableOut (nx := 70) C dX3_worth_1 (by omega) (by omega) rfl ?_
    refine zw_iload_n (i := 1) (nx := 71) C dX3_worth_70 rfl rfl rfl ?_
    exact zw_iret C hA hr hk dX3_worth_71 (by simp [sWo]) rfl
  · refine zrun_intro (M := mX3_worth) (ls := [some (zi 2), some (zi s), some (zi h)]) (by decide) rfl rfl rfl (Nat.le_of_ble_eq_true rfl) ?_
    intro X A C hX hA hr hk
    replace C : CX X B A mX3_worth.2.2.2.2 RX3 cX3_worth 3 0 0 := C
    have hr : (xMeth X).sig.returnType = (some .int) := hr
    change ZW X B A 3 0 0 _ _ 0 [some (zi 2), some (zi s), some (zi h)] []
    refine zw_iload_n (i := 0) (nx := 1) C dX3_worth_0 rfl rfl rfl ?_
    refine zw_tableIn (nx := 32) C dX3_worth_1 (by omega) (by omega) (by omega) rfl rfl ?_
    refine zw_iload_n (i := 1) (nx := 33) C dX3_worth_32 rfl rfl rfl ?_
    refine zw_iconst (nx := 34) C dX3_worth_33 rfl ?_
    refine zw_idiv (nx := 35) C dX3_worth_34 (by omega) rfl ?_
    exact zw_iret C hA hr hk dX3_worth_35 (by simp [sWo]) rfl
  · refine zrun_intro (M := mX3_worth) (ls := [some (zi 3), some (zi s), some (zi h)]) (by decide) rfl rfl rfl (Nat.le_of_ble_eq_true rfl) ?_
    intro X A C hX hA hr hk
    replace C : CX X B A mX3_worth.2.2.2.2 RX3 cX3_worth 3 0 0 := C
    have hr : (xMeth X).sig.returnType = (some .int) := hr
    change ZW X B A 3 0 0 _ _ 0 [some (zi 3), some (zi s), some (zi h)] []
    refine zw_iload_n (i := 0) (nx := 1) C dX3_worth_0 rfl rfl rfl ?_
    refine zw_tableIn (nx := 36) C dX3_worth_1 (by omega) (by omega) (by omega) rfl rfl ?_
    refine zw_iload_n (i := 1) (nx := 37) C dX3_worth_36 rfl rfl rfl ?_
    refine zw_if_ne (tgt := 44) (nx := 40) C dX3_worth_37 rfl rfl (by omega) (fun h37 => ?_) (fun h37 => ?_)
    · refine zw_iload_n (i := 1) (nx := 45) C dX3_worth_44 rfl rfl rfl ?_
      refine zw_bipush (v := 20) (nx := 47) C dX3_worth_45 (by decide) rfl ?_
      refine zw_iload_n (i := 2) (nx := 48) C dX3_worth_47 rfl rfl rfl ?_
      refine zw_imul (nx := 49) C dX3_worth_48 rfl ?_
      refine zw_iadd (nx := 50) C dX3_worth_49 rfl ?_
      exact zw_iret C hA hr hk dX3_worth_50 (by simp [sWo, h37]) rfl
    · refine zw_iconst (nx := 41) C dX3_worth_40 rfl ?_
      refine zw_goto (nx := 50) C dX3_worth_41 rfl ?_
      exact zw_iret C hA hr hk dX3_worth_50 (by simp [sWo, h37]) rfl
  · refine zrun_intro (M := mX3_worth) (ls := [some (zi 4), some (zi s), some (zi h)]) (by decide) rfl rfl rfl (Nat.le_of_ble_eq_true rfl) ?_
    intro X A C hX hA hr hk
    replace C : CX X B A mX3_worth.2.2.2.2 RX3 cX3_worth 3 0 0 := C
    have hr : (xMeth X).sig.returnType = (some .int) := hr
    change ZW X B A 3 0 0 _ _ 0 [some (zi 4), some (zi s), some (zi h)] []
    refine zw_iload_n (i := 0) (nx := 1) C dX3_worth_0 rfl rfl rfl ?_
    refine zw_tableIn (nx := 51) C dX3_worth_1 (by omega) (by omega) (by omega) rfl rfl ?_
    refine zw_iload_n (i := 1) (nx := 52) C dX3_worth_51 rfl rfl rfl ?_
    refine zw_sipush (v := 200) (nx := 55) C dX3_worth_52 (by decide) rfl ?_
    refine zw_icmp_ge (tgt := 62) (nx := 58) C dX3_worth_55 rfl rfl (by omega) (fun h55 => ?_) (fun h55 => ?_)
    · refine zw_iload_n (i := 1) (nx := 63) C dX3_worth_62 rfl rfl rfl ?_
      exact zw_iret C hA hr hk dX3_worth_63 (zr (by unfold sWo; omega)) rfl
    · refine zw_iconst (nx := 59) C dX3_worth_58 rfl ?_
      refine zw_goto (nx := 63) C dX3_worth_59 rfl ?_
      exact zw_iret C hA hr hk dX3_worth_63 (by simp [sWo, h55]) rfl
  · refine zrun_intro (M := mX3_worth) (ls := [some (zi 5), some (zi s), some (zi h)]) (by decide) rfl rfl rfl (Nat.le_of_ble_eq_true rfl) ?_
    intro X A C hX hA hr hk
    replace C : CX X B A mX3_worth.2.2.2.2 RX3 cX3_worth 3 0 0 := C
    have hr : (xMeth X).sig.returnType = (some .int) := hr
    change ZW X B A 3 0 0 _ _ 0 [some (zi 5), some (zi s), some (zi h)] []
    refine zw_iload_n (i := 0) (nx := 1) C dX3_worth_0 rfl rfl rfl ?_
    refine zw_tableIn (nx := 64) C dX3_worth_1 (by omega) (by omega) (by omega) rfl rfl ?_
    refine zw_iconst (nx := 65) C dX3_worth_64 rfl ?_
    refine zw_iload_n (i := 1) (nx := 66) C dX3_worth_65 rfl rfl rfl ?_
    refine zw_iconst (nx := 67) C dX3_worth_66 rfl ?_
    refine zw_idiv (nx := 68) C dX3_worth_67 (by omega) rfl ?_
    refine zw_imul (nx := 69) C dX3_worth_68 rfl ?_
    exact zw_iret C hA hr hk dX3_worth_69 (by simp [sWo]) rfl
theorem run_X3_head {k : Int} (hk0 : 0 ≤ k ∧ k ≤ 5) : zRun l B mX3_head [zi k] ζ (some (zi (sHd k))) ζ := by
  rcases (show k = 0 ∨ k = 1 ∨ k = 2 ∨ k = 3 ∨ k = 4 ∨ k = 5 by omega) with rfl | rfl | rfl | rfl | rfl | rfl
  · refine zrun_intro (M := mX3_head) (ls := [some (zi 0)]) (by decide) rfl rfl rfl (Nat.le_of_ble_eq_true rfl) ?_
    intro X A C hX hA hr hk
    replace C : CX X B A mX3_head.2.2.2.2 RX3 cX3_head 1 0 0 := C
    have hr : (xMeth X).sig.returnType = (some .int) := hr
    change ZW X B A 1 0 0 _ _ 0 [some (zi 0)] []
    refine zw_iload_n (i := 0) (nx := 1) C dX3_head_0 rfl rfl rfl ?_
    refine zw_tableOut (nx := 44) C dX3_head_1 (by omega) (by omega) rfl ?_
    refine zw_iconst (nx := 45) C dX3_head_44 rfl ?_
    exact zw_iret C hA hr hk dX3_head_45 rfl rfl
  · refine zrun_intro (M := mX3_head) (ls := [some (zi 1)]) (by decide) rfl rfl rfl (Nat.le_of_ble_eq_true rfl) ?_
    intro X A C hX hA hr hk
    replace C : CX X B A mX3_head.2.2.2.2 RX3 cX3_head 1 0 0 := C
    have hr : (xMeth X).sig.returnType = (some .int) := hr
    change ZW X B A 1 0 0 _ _ 0 [some (zi 1)] []
    refine zw_iload_n (i := 0) (nx := 1) C dX3_head_0 rfl rfl rfl ?_
    refine zw_tableIn (nx := 36) C dX3_head_1 (by omega) (by omega) (by omega) rfl rfl ?_
    refine zw_iconst (nx := 37) C dX3_head_36 rfl ?_
    exact zw_iret C hA hr hk dX3_head_37 rfl rfl
  · refine zrun_intro (M := mX3_head) (ls := [some (zi 2)]) (by decide) rfl rfl rfl (Nat.le_of_ble_eq_true rfl) ?_
    intro X A C hX hA hr hk
    replace C : CX X B A mX3_head.2.2.2.2 RX3 cX3_head 1 0 0 := C
    have hr : (xMeth X).sig.returnType = (some .int) := hr
    change ZW X B A 1 0 0 _ _ 0 [some (zi 2)] []
    refine zw_iload_n (i := 0) (nx := 1) C dX3_head_0 rfl rfl rfl ?_
    refine zw_tableIn (nx := 44) C dX3_head_1 (by omega) (by omega) (by omega) rfl rfl ?_
    refine zw_iconst (nx := 45) C dX3_head_44 rfl ?_
    exact zw_iret C hA hr hk dX3_head_45 rfl rfl
  · refine zrun_intro (M := mX3_head) (ls := [some (zi 3)]) (by decide) rfl rfl rfl (Nat.le_of_ble_eq_true rfl) ?_
    intro X A C hX hA hr hk
    replace C : CX X B A mX3_head.2.2.2.2 RX3 cX3_head 1 0 0 := C
    have hr : (xMeth X).sig.returnType = (some .int) := hr
    change ZW X B A 1 0 0 _ _ 0 [some (zi 3)] []
    refine zw_iload_n (i := 0) (nx := 1) C dX3_head_0 rfl rfl rfl ?_
    refine zw_tableIn (nx := 38) C dX3_head_1 (by omega) (by omega) (by omega) rfl rfl ?_
    refine zw_iconst (nx := 39) C dX3_head_38 rfl ?_
    exact zw_iret C hA hr hk dX3_head_39 rfl rfl
  · refine zrun_intro (M := mX3_head) (ls := [some (zi 4)]) (by decide) rfl rfl rfl (Nat.le_of_ble_eq_true rfl) ?_
    intro X A C hX hA hr hk
    replace C : CX X B A mX3_head.2.2.2.2 RX3 cX3_head 1 0 0 := C
    have hr : (xMeth X).sig.returnType = (some .int) := hr
    change ZW X B A 1 0 0 _ _ 0 [some (zi 4)] []
    refine zw_iload_n (i := 0) (nx := 1) C dX3_head_0 rfl rfl rfl ?_
    refine zw_tableIn (nx := 40) C dX3_head_1 (by omega) (by omega) (by omega) rfl rfl ?_
    refine zw_iconst (nx := 41) C dX3_head_40 rfl ?_
    exact zw_iret C hA hr hk dX3_head_41 rfl rfl
  · refine zrun_intro (M := mX3_head) (ls := [some (zi 5)]) (by decide) rfl rfl rfl (Nat.le_of_ble_eq_true rfl) ?_
    intro X A C hX hA hr hk
    replace C : CX X B A mX3_head.2.2.2.2 RX3 cX3_head 1 0 0 := C
    have hr : (xMeth X).sig.returnType = (some .int) := hr
    change ZW X B A 1 0 0 _ _ 0 [some (zi 5)] []
    refine zw_iload_n (i := 0) (nx := 1) C dX3_head_0 rfl rfl rfl ?_
    refine zw_tableIn (nx := 42) C dX3_head_1 (by omega) (by omega) (by omega) rfl rfl ?_
    refine zw_iconst (nx := 43) C dX3_head_42 rfl ?_
    exact zw_iret C hA hr hk dX3_head_43 rfl rfl
theorem run_X6_darkFrom {t d y : Int} (ht : 0 ≤ t ∧ t ≤ 7) (hd : 0 ≤ d ∧ d ≤ 240) (hy : 0 ≤ y ∧ y ≤ 7) : zRun l B mX6_darkFrom [zi t, zi d, zi y] ζ (some (zi (sDkF t d y))) ζ := by
  refine zrun_intro (M := mX6_darkFrom) (ls := [some (zi t), some (zi d), some (zi y)]) (by decide) rfl rfl rfl (Nat.le_of_ble_eq_true rfl) ?_
  intro X A C hX hA hr hk
  replace C : CX X B A mX6_darkFrom.2.2.2.2 RX6 cX6_darkFrom 3 0 0 := C
  have hr : (xMeth X).sig.returnType = (some .int) := hr
  change ZW X B A 3 0 0 _ _ 0 [some (zi t), some (zi d), some (zi y)] []
  refine zw_iconst (nx := 1) C dX6_darkFrom_0 rfl ?_
  refine zw_iload_n (i := 1) (nx := 2) C dX6_darkFrom_1 rfl rfl rfl ?_
  refine zw_bipush (v := 9) (nx := 4) C dX6_darkFrom_2 (by decide) rfl ?_
  refine zw_iload_n (i := 2) (nx := 5) C dX6_darkFrom_4 rfl rfl rfl ?_
  refine zw_iload_n (i := 0) (nx := 6) C dX6_darkFrom_5 rfl rfl rfl ?_
  refine zw_isub (nx := 7) C dX6_darkFrom_6 rfl ?_
  refine zw_abs (nx := 10) C dX6_darkFrom_7 rfl wlX6_253 ws_abs wi_math wc_abs (Nat.le_of_ble_eq_true rfl) (Nat.le_of_ble_eq_true rfl) (Nat.le_of_ble_eq_true rfl) (by omega) ?_
  refine zw_imul (nx := 11) C dX6_darkFrom_10 rfl ?_
  refine zw_isub (nx := 12) C dX6_darkFrom_11 rfl ?_
  refine zw_max (nx := 15) C dX6_darkFrom_12 rfl wlX6_258 ws_max wi_math wc_max (Nat.le_of_ble_eq_true rfl) (Nat.le_of_ble_eq_true rfl) (Nat.le_of_ble_eq_true rfl) (by omega) ?_
  exact zw_iret C hA hr hk dX6_darkFrom_15 rfl rfl
theorem run_X2_darkIn {n : Nat} (hc : cOk ζ n) {y : Int} (hy : 0 ≤ y ∧ y ≤ 7) : zRun l B mX2_darkIn [.ref 1, zi y] ζ (some (zi (sDk (cV ζ) y))) ζ := by
  refine zrun_intro (M := mX2_darkIn) (ls := [some (.ref 1), some (zi y)]) (by decide) rfl rfl rfl (Nat.le_of_ble_eq_true rfl) ?_
  intro X A C hX hA hr hk
  replace C : CX X B A mX2_darkIn.2.2.2.2 RX2 cX2_darkIn 2 0 0 := C
  have hr : (xMeth X).sig.returnType = (some .int) := hr
  change ZW X B A 2 0 0 _ _ 0 [some (.ref 1), some (zi y)] []
  refine zw_aload_n (i := 0) (nx := 1) C dX2_darkIn_0 rfl rfl rfl ?_
  refine zw_geti (nx := 4) C dX2_darkIn_1 rfl flX2_9 iq2 rfl rfl rfl rfl ?_
  refine zw_aload_n (i := 0) (nx := 5) C dX2_darkIn_4 rfl rfl rfl ?_
  refine zw_geti (nx := 8) C dX2_darkIn_5 rfl flX2_15 iq2 rfl rfl rfl rfl ?_
  refine zw_iload_n (i := 1) (nx := 9) C dX2_darkIn_8 rfl rfl rfl ?_
  refine zw_cN31 (M := mX6_darkFrom) (host := "EclipseSeats") (nx := 12) C dX2_darkIn_9 rfl C.2.2.2.2.2.2.2.1.2.2.2.2.1 cn_darkFrom ⟨Nat.le_of_ble_eq_true rfl, Nat.le_of_ble_eq_true rfl⟩ (Nat.le_of_ble_eq_true rfl) (run_X6_darkFrom hc.1.2.1 hc.1.2.2.1 hy) ?_
  exact zw_iret C hA hr hk dX2_darkIn_12 rfl rfl
set_option maxHeartbeats 4000000 in
theorem run_X2_holder {n : Nat} (hc : cOk ζ n) {y : Int} (hy : -2147483648 ≤ y ∧ y ≤ 2147483647) : zRun l B mX2_holder [.ref 1, zi y] ζ (some (zi (sHol (cV ζ) y 0 n))) ζ := by
  obtain ⟨⟨hn, h0, h1, hh, hp⟩, hn3, hhd⟩ := hc
  refine zrun_intro (M := mX2_holder) (ls := [some (.ref 1), some (zi y), none]) (by decide) rfl rfl rfl (Nat.le_of_ble_eq_true rfl) ?_
  intro X A C hX hA hr hk
  replace C : CX X B A mX2_holder.2.2.2.2 RX2 cX2_holder 3 0 0 := C
  have hr : (xMeth X).sig.returnType = (some .int) := hr
  change ZW X B A 3 0 0 _ _ 0 [some (.ref 1), some (zi y), none] []
  have loop : ∀ k p : Nat, p + k = n → sHol (cV ζ) y 0 n = sHol (cV ζ) y p k → ZW X B A 3 0 0 (eFin X B (some (zi (sHol (cV ζ) y 0 n))) (zz ζ)) ζ 2 [some (.ref 1), some (zi y), some (zi p)] [] := by
    intro k
    induction k with
    | zero =>
      intro p hpk e
      refine zw_iload_n (i := 2) (nx := 3) C dX2_holder_2 rfl rfl rfl ?_
      refine zw_aload_n (i := 0) (nx := 4) C dX2_holder_3 rfl rfl rfl ?_
      refine zw_geti (nx := 7) C dX2_holder_4 rfl flX2_22 iq2 rfl rfl rfl rfl ?_
      refine zw_icmp_ge (tgt := 28) (nx := 10) C dX2_holder_7 rfl rfl (by omega) (fun h7 => ?_) (fun h7 => by exfalso; omega)
      refine zw_iconst (nx := 29) C dX2_holder_28 rfl ?_
      exact zw_iret C hA hr hk dX2_holder_29 (by rw [e]; rfl) rfl
    | succ k ih =>
      intro p hpk e
      have hs : -1 ≤ ζ.1 7 p ∧ ζ.1 7 p ≤ 7 := (hp p (by omega)).2.2.2
      refine zw_iload_n (i := 2) (nx := 3) C dX2_holder_2 rfl rfl rfl ?_
      refine zw_aload_n (i := 0) (nx := 4) C dX2_holder_3 rfl rfl rfl ?_
      refine zw_geti (nx := 7) C dX2_holder_4 rfl flX2_22 iq2 rfl rfl rfl rfl ?_
      refine zw_icmp_ge (tgt := 28) (nx := 10) C dX2_holder_7 rfl rfl (by omega) (fun h7 => by exfalso; omega) (fun h7 => ?_)
      refine zw_aload_n (i := 0) (nx := 11) C dX2_holder_10 rfl rfl rfl ?_
      refine zw_getr (nx := 14) C dX2_holder_11 rfl flX2_37 iq2 rfl rfl rfl rfl ?_
      refine zw_iload_n (i := 2) (nx := 15) C dX2_holder_14 rfl rfl rfl ?_
      refine zw_iald (p) (nx := 16) C dX2_holder_15 rfl rfl rfl rfl (by omega) ?_
      refine zw_iload_n (i := 1) (nx := 17) C dX2_holder_16 rfl rfl rfl ?_
      refine zw_icmp_ne (tgt := 22) (nx := 20) C dX2_holder_17 rfl rfl (by omega) (fun h17 => ?_) (fun h17 => ?_)
      · refine zw_iinc2 (nx := 25) C dX2_holder_22 rfl (Nat.le_of_ble_eq_true rfl) rfl ?_
        refine zw_goto (nx := 2) C dX2_holder_25 rfl ?_
        exact ih (p + 1) (by omega) (by rw [e]; exact if_neg h17)
      · refine zw_iload_n (i := 2) (nx := 21) C dX2_holder_20 rfl rfl rfl ?_
        exact zw_iret C hA hr hk dX2_holder_21 (by rw [e]; exact congrArg (fun z => some (zi z)) (if_pos h17)) rfl
  refine zw_iconst (nx := 1) C dX2_holder_0 rfl ?_
  refine zw_ist2 (nx := 2) C (eIst_n dX2_holder_1 rfl rfl) (Nat.le_of_ble_eq_true rfl) rfl ?_
  exact loop n 0 (by omega) rfl
theorem sHol_bd (V : Nat → Nat → Int) (y : Int) : ∀ k p, -1 ≤ sHol V y p k ∧ sHol V y p k < ((p + k : Nat) : Int) ∨ (sHol V y p k = -1)
  | 0, p => Or.inr rfl
  | k + 1, p => by
    unfold sHol
    split
    · left; omega
    · rcases sHol_bd V y k (p + 1) with h | h
      · left; omega
      · right; exact h
def sOpn (V : Nat → Nat → Int) (n : Nat) (p y : Int) : Bool := decide (sHol V y 0 n = -1 ∨ sHol V y 0 n = p)
theorem run_X2_isOpenTo {n : Nat} (hc : cOk ζ n) {p y : Int} (hp : -2147483648 ≤ p ∧ p ≤ 2147483647) (hy : -2147483648 ≤ y ∧ y ≤ 2147483647) : zRun l B mX2_isOpenTo [.ref 1, zi p, zi y] ζ (some (zi (b2i (sOpn (cV ζ) n p y)))) ζ := by
  have hb := sHol_bd (cV ζ) y n 0
  have hn := hc.1.1
  refine zrun_intro (M := mX2_isOpenTo) (ls := [some (.ref 1), some (zi p), some (zi y), none]) (by decide) rfl rfl rfl (Nat.le_of_ble_eq_true rfl) ?_
  intro X A C hX hA hr hk
  replace C : CX X B A mX2_isOpenTo.2.2.2.2 RX2 cX2_isOpenTo 4 0 0 := C
  have hr : (xMeth X).sig.returnType = (some .boolean) := hr
  change ZW X B A 4 0 0 _ _ 0 [some (.ref 1), some (zi p), some (zi y), none] []
  refine zw_aload_n (i := 0) (nx := 1) C dX2_isOpenTo_0 rfl rfl rfl ?_
  refine zw_iload_n (i := 2) (nx := 2) C dX2_isOpenTo_1 rfl rfl rfl ?_
  refine zw_cV11 (nx := 5) C dX2_isOpenTo_2 rfl cvX2_68 rfl rfl ⟨Nat.le_of_ble_eq_true rfl, Nat.le_of_ble_eq_true rfl⟩ rfl rfl (Nat.le_of_ble_eq_true rfl) (run_X2_holder hc hy) ?_
  refine zw_ist3 (nx := 6) C (eIst_n dX2_isOpenTo_5 rfl rfl) (Nat.le_of_ble_eq_true rfl) rfl ?_
  refine zw_iload_n (i := 3) (nx := 7) C dX2_isOpenTo_6 rfl rfl rfl ?_
  refine zw_iconst (nx := 8) C dX2_isOpenTo_7 rfl ?_
  refine zw_icmp_eq (tgt := 16) (nx := 11) C dX2_isOpenTo_8 rfl rfl (by omega) (fun h8 => ?_) (fun h8 => ?_)
  · refine zw_iconst (nx := 17) C dX2_isOpenTo_16 rfl ?_
    refine zw_goto (nx := 21) C dX2_isOpenTo_17 rfl ?_
    exact zw_bret C hA hr hk dX2_isOpenTo_21 (by unfold sOpn; rw [decide_eq_true (Or.inl h8)]; rfl) rfl rfl
  · refine zw_iload_n (i := 3) (nx := 12) C dX2_isOpenTo_11 rfl rfl rfl ?_
    refine zw_iload_n (i := 1) (nx := 13) C dX2_isOpenTo_12 rfl rfl rfl ?_
    refine zw_icmp_ne (tgt := 20) (nx := 16) C dX2_isOpenTo_13 rfl rfl (by omega) (fun h13 => ?_) (fun h13 => ?_)
    · refine zw_iconst (nx := 21) C dX2_isOpenTo_20 rfl ?_
      exact zw_bret C hA hr hk dX2_isOpenTo_21 (by unfold sOpn; rw [decide_eq_false (by omega)]; rfl) rfl rfl
    · refine zw_iconst (nx := 17) C dX2_isOpenTo_16 rfl ?_
      refine zw_goto (nx := 21) C dX2_isOpenTo_17 rfl ?_
      exact zw_bret C hA hr hk dX2_isOpenTo_21 (by unfold sOpn; rw [decide_eq_true (Or.inr h13)]; rfl) rfl rfl
theorem run_X2_freeYards {n : Nat} (hc : cOk ζ n) : zRun l B mX2_freeYards [.ref 1] ζ (some (zi (sFree (cV ζ) n))) ζ := by
  obtain ⟨⟨hn, h0, h1, hh, hp⟩, hn3, hhd⟩ := hc
  refine zrun_intro (M := mX2_freeYards) (ls := [some (.ref 1), none, none]) (by decide) rfl rfl rfl (Nat.le_of_ble_eq_true rfl) ?_
  intro X A C hX hA hr hk
  replace C : CX X B A mX2_freeYards.2.2.2.2 RX2 cX2_freeYards 3 0 0 := C
  have hr : (xMeth X).sig.returnType = (some .int) := hr
  change ZW X B A 3 0 0 _ _ 0 [some (.ref 1), none, none] []
  have loop : ∀ k p : Nat, p + k = n → ZW X B A 3 0 0 (eFin X B (some (zi (sFree (cV ζ) n))) (zz ζ)) ζ 5 [some (.ref 1), some (zi (sFree (cV ζ) p)), some (zi p)] [] := by
    intro k
    induction k with
    | zero =>
      intro p hpk
      have e : p = n := by omega
      subst e
      refine zw_iload_n (i := 2) (nx := 6) C dX2_freeYards_5 rfl rfl rfl ?_
      refine zw_aload_n (i := 0) (nx := 7) C dX2_freeYards_6 rfl rfl rfl ?_
      refine zw_geti (nx := 10) C dX2_freeYards_7 rfl flX2_22 iq2 rfl rfl rfl rfl ?_
      refine zw_icmp_ge (tgt := 32) (nx := 13) C dX2_freeYards_10 rfl rfl (by omega) (fun h10 => ?_) (fun h10 => by exfalso; omega)
      refine zw_iload_n (i := 1) (nx := 33) C dX2_freeYards_32 rfl rfl rfl ?_
      exact zw_iret C hA hr hk dX2_freeYards_33 rfl rfl
    | succ k ih =>
      intro p hpk
      have hs : -1 ≤ ζ.1 7 p ∧ ζ.1 7 p ≤ 7 := (hp p (by omega)).2.2.2
      refine zw_iload_n (i := 2) (nx := 6) C dX2_freeYards_5 rfl rfl rfl ?_
      refine zw_aload_n (i := 0) (nx := 7) C dX2_freeYards_6 rfl rfl rfl ?_
      refine zw_geti (nx := 10) C dX2_freeYards_7 rfl flX2_22 iq2 rfl rfl rfl rfl ?_
      refine zw_icmp_ge (tgt := 32) (nx := 13) C dX2_freeYards_10 rfl rfl (by omega) (fun h10 => by exfalso; omega) (fun h10 => ?_)
      refine zw_aload_n (i := 0) (nx := 14) C dX2_freeYards_13 rfl rfl rfl ?_
      refine zw_getr (nx := 17) C dX2_freeYards_14 rfl flX2_37 iq2 rfl rfl rfl rfl ?_
      refine zw_iload_n (i := 2) (nx := 18) C dX2_freeYards_17 rfl rfl rfl ?_
      refine zw_iald (p) (nx := 19) C dX2_freeYards_18 rfl rfl rfl rfl (by omega) ?_
      refine zw_iconst (nx := 20) C dX2_freeYards_19 rfl ?_
      refine zw_icmp_eq (tgt := 26) (nx := 23) C dX2_freeYards_20 rfl rfl (by omega) (fun h20 => ?_) (fun h20 => ?_)
      · have e : sFree (cV ζ) (p + 1) = sFree (cV ζ) p := if_pos h20
        rw [← e]
        refine zw_iinc2 (nx := 29) C dX2_freeYards_26 rfl (Nat.le_of_ble_eq_true rfl) rfl ?_
        refine zw_goto (nx := 5) C dX2_freeYards_29 rfl ?_
        exact ih (p + 1) (by omega)
      · have e : sFree (cV ζ) (p + 1) = sFree (cV ζ) p + -1 := if_neg h20
        refine zw_iinc1 (nx := 26) C dX2_freeYards_23 rfl (Nat.le_of_ble_eq_true rfl) rfl ?_
        rw [← e]
        refine zw_iinc2 (nx := 29) C dX2_freeYards_26 rfl (Nat.le_of_ble_eq_true rfl) rfl ?_
        refine zw_goto (nx := 5) C dX2_freeYards_29 rfl ?_
        exact ih (p + 1) (by omega)
  refine zw_bipush (v := 8) (nx := 2) C dX2_freeYards_0 (by decide) rfl ?_
  refine zw_ist1 (nx := 3) C (eIst_n dX2_freeYards_2 rfl rfl) (Nat.le_of_ble_eq_true rfl) rfl ?_
  refine zw_iconst (nx := 4) C dX2_freeYards_3 rfl ?_
  refine zw_ist2 (nx := 5) C (eIst_n dX2_freeYards_4 rfl rfl) (Nat.le_of_ble_eq_true rfl) rfl ?_
  exact loop n 0 (by omega)
theorem run_X2_hides {n : Nat} (hc : cOk ζ n) {p f y : Nat} (hp : p < n) (hf : f < 8) (hy : y < 8) : zRun l B mX2_hides [.ref 1, zi p, zi f, zi y] ζ (some (zi (b2i (sBl (cV ζ) p f y)))) ζ := by
  obtain ⟨⟨hn, h0, h1, hh, hp'⟩, hn3, hhd⟩ := hc
  have a1 : 0 ≤ ζ.1 2 f ∧ ζ.1 2 f ≤ 9 := hh f hf
  have a2 : 0 ≤ ζ.1 2 y ∧ ζ.1 2 y ≤ 9 := hh y hy
  have a3 := hhd p hp
  have a4 := sHd_bd (ζ.1 3 p)
  refine zrun_intro (M := mX2_hides) (ls := [some (.ref 1), some (zi p), some (zi f), some (zi y)]) (by decide) rfl rfl rfl (Nat.le_of_ble_eq_true rfl) ?_
  intro X A C hX hA hr hk
  replace C : CX X B A mX2_hides.2.2.2.2 RX2 cX2_hides 4 0 0 := C
  have hr : (xMeth X).sig.returnType = (some .boolean) := hr
  change ZW X B A 4 0 0 _ _ 0 [some (.ref 1), some (zi p), some (zi f), some (zi y)] []
  refine zw_iload_n (i := 2) (nx := 1) C dX2_hides_0 rfl rfl rfl ?_
  refine zw_iload_n (i := 3) (nx := 2) C dX2_hides_1 rfl rfl rfl ?_
  refine zw_icmp_ge (tgt := 31) (nx := 5) C dX2_hides_2 rfl rfl (by omega) (fun h2 => ?_) (fun h2 => ?_)
  · refine zw_iconst (nx := 32) C dX2_hides_31 rfl ?_
    exact zw_bret C hA hr hk dX2_hides_32 (by unfold sBl; rw [decide_eq_false (by omega)]; rfl) rfl rfl
  · refine zw_aload_n (i := 0) (nx := 6) C dX2_hides_5 rfl rfl rfl ?_
    refine zw_getr (nx := 9) C dX2_hides_6 rfl flX2_18 iq2 rfl rfl rfl rfl ?_
    refine zw_iload_n (i := 2) (nx := 10) C dX2_hides_9 rfl rfl rfl ?_
    refine zw_iald (f) (nx := 11) C dX2_hides_10 rfl rfl rfl rfl (by omega) ?_
    refine zw_aload_n (i := 0) (nx := 12) C dX2_hides_11 rfl rfl rfl ?_
    refine zw_getr (nx := 15) C dX2_hides_12 rfl flX2_28 iq2 rfl rfl rfl rfl ?_
    refine zw_iload_n (i := 1) (nx := 16) C dX2_hides_15 rfl rfl rfl ?_
    refine zw_iald (p) (nx := 17) C dX2_hides_16 rfl rfl rfl rfl (by omega) ?_
    refine zw_iadd (nx := 18) C dX2_hides_17 rfl ?_
    refine zw_aload_n (i := 0) (nx := 19) C dX2_hides_18 rfl rfl rfl ?_
    refine zw_getr (nx := 22) C dX2_hides_19 rfl flX2_18 iq2 rfl rfl rfl rfl ?_
    refine zw_iload_n (i := 3) (nx := 23) C dX2_hides_22 rfl rfl rfl ?_
    refine zw_iald (y) (nx := 24) C dX2_hides_23 rfl rfl rfl rfl (by omega) ?_
    refine zw_icmp_le (tgt := 31) (nx := 27) C dX2_hides_24 rfl rfl (by omega) (fun h24 => ?_) (fun h24 => ?_)
    · refine zw_iconst (nx := 32) C dX2_hides_31 rfl ?_
      exact zw_bret C hA hr hk dX2_hides_32 (by unfold sBl; rw [decide_eq_false (fun q => by have q2 : ζ.1 2 y < ζ.1 2 f + sHd (ζ.1 3 p) := q.2; omega)]; rfl) rfl rfl
    · refine zw_iconst (nx := 28) C dX2_hides_27 rfl ?_
      refine zw_goto (nx := 32) C dX2_hides_28 rfl ?_
      exact zw_bret C hA hr hk dX2_hides_32 (by unfold sBl; rw [decide_eq_true ⟨by omega, by show ζ.1 2 y < ζ.1 2 f + sHd (ζ.1 3 p); omega⟩]; rfl) rfl rfl
theorem run_X2_isHidden {n : Nat} (hc : cOk ζ n) {y a b : Nat} (hy : y < 8) (ha : a < 8) (hb : b < 8) : zRun l B mX2_isHidden [.ref 1, zi y, zi a, zi b] ζ (some (zi (b2i (sHid (cV ζ) y a b 0 n)))) ζ := by
  have hc' := hc
  obtain ⟨⟨hn, h0, h1, hh, hp⟩, hn3, hhd⟩ := hc'
  refine zrun_intro (M := mX2_isHidden) (ls := [some (.ref 1), some (zi y), some (zi a), some (zi b), none]) (by decide) rfl rfl rfl (Nat.le_of_ble_eq_true rfl) ?_
  intro X A C hX hA hr hk
  replace C : CX X B A mX2_isHidden.2.2.2.2 RX2 cX2_isHidden 5 0 0 := C
  have hr : (xMeth X).sig.returnType = (some .boolean) := hr
  change ZW X B A 5 0 0 _ _ 0 [some (.ref 1), some (zi y), some (zi a), some (zi b), none] []
  have loop : ∀ k p : Nat, p + k = n → sHid (cV ζ) y a b 0 n = sHid (cV ζ) y a b p k → ZW X B A 5 0 0 (eFin X B (some (zi (b2i (sHid (cV ζ) y a b 0 n)))) (zz ζ)) ζ 3 [some (.ref 1), some (zi y), some (zi a), some (zi b), some (zi p)] [] := by
    intro k
    induction k with
    | zero =>
      intro p hpk e
      refine zw_iload (nx := 5) C dX2_isHidden_3 rfl rfl ?_
      refine zw_aload_n (i := 0) (nx := 6) C dX2_isHidden_5 rfl rfl rfl ?_
      refine zw_geti (nx := 9) C dX2_isHidden_6 rfl flX2_22 iq2 rfl rfl rfl rfl ?_
      refine zw_icmp_ge (tgt := 60) (nx := 12) C dX2_isHidden_9 rfl rfl (by omega) (fun h9 => ?_) (fun h9 => by exfalso; omega)
      refine zw_iconst (nx := 61) C dX2_isHidden_60 rfl ?_
      exact zw_bret C hA hr hk dX2_isHidden_61 (by rw [e]; rfl) rfl rfl
    | succ k ih =>
      intro p hpk e
      have hs : -1 ≤ ζ.1 7 p ∧ ζ.1 7 p ≤ 7 := (hp p (by omega)).2.2.2
      have skip : ¬ ((p ≠ a ∧ p ≠ b ∧ ζ.1 7 p ≠ -1) ∧ sBl (cV ζ) p (ζ.1 7 p).toNat y = true) → ZW X B A 5 0 0 (eFin X B (some (zi (b2i (sHid (cV ζ) y a b 0 n)))) (zz ζ)) ζ 54 [some (.ref 1), some (zi y), some (zi a), some (zi b), some (zi p)] [] := by
        intro hno
        refine zw_iinc4 (nx := 57) C dX2_isHidden_54 rfl (Nat.le_of_ble_eq_true rfl) rfl ?_
        refine zw_goto (nx := 3) C dX2_isHidden_57 rfl ?_
        exact ih (p + 1) (by omega) (by rw [e]; exact if_neg hno)
      refine zw_iload (nx := 5) C dX2_isHidden_3 rfl rfl ?_
      refine zw_aload_n (i := 0) (nx := 6) C dX2_isHidden_5 rfl rfl rfl ?_
      refine zw_geti (nx := 9) C dX2_isHidden_6 rfl flX2_22 iq2 rfl rfl rfl rfl ?_
      refine zw_icmp_ge (tgt := 60) (nx := 12) C dX2_isHidden_9 rfl rfl (by omega) (fun h9 => by exfalso; omega) (fun h9 => ?_)
      refine zw_iload (nx := 14) C dX2_isHidden_12 rfl rfl ?_
      refine zw_iload_n (i := 2) (nx := 15) C dX2_isHidden_14 rfl rfl rfl ?_
      refine zw_icmp_eq (tgt := 54) (nx := 18) C dX2_isHidden_15 rfl rfl (by omega) (fun h15 => ?_) (fun h15 => ?_)
      · exact skip (fun q => by omega)
      · refine zw_iload (nx := 20) C dX2_isHidden_18 rfl rfl ?_
        refine zw_iload_n (i := 3) (nx := 21) C dX2_isHidden_20 rfl rfl rfl ?_
        refine zw_icmp_eq (tgt := 54) (nx := 24) C dX2_isHidden_21 rfl rfl (by omega) (fun h21 => ?_) (fun h21 => ?_)
        · exact skip (fun q => by omega)
        · refine zw_aload_n (i := 0) (nx := 25) C dX2_isHidden_24 rfl rfl rfl ?_
          refine zw_getr (nx := 28) C dX2_isHidden_25 rfl flX2_37 iq2 rfl rfl rfl rfl ?_
          refine zw_iload (nx := 30) C dX2_isHidden_28 rfl rfl ?_
          refine zw_iald (p) (nx := 31) C dX2_isHidden_30 rfl rfl rfl rfl (by omega) ?_
          refine zw_iconst (nx := 32) C dX2_isHidden_31 rfl ?_
          refine zw_icmp_eq (tgt := 54) (nx := 35) C dX2_isHidden_32 rfl rfl (by omega) (fun h32 => ?_) (fun h32 => ?_)
          · exact skip (fun q => by omega)
          · obtain ⟨s, hs'⟩ := Int.eq_ofNat_of_zero_le (show 0 ≤ ζ.1 7 p by omega)
            have es : (ζ.1 7 p).toNat = s := by omega
            refine zw_aload_n (i := 0) (nx := 36) C dX2_isHidden_35 rfl rfl rfl ?_
            refine zw_iload (nx := 38) C dX2_isHidden_36 rfl rfl ?_
            refine zw_aload_n (i := 0) (nx := 39) C dX2_isHidden_38 rfl rfl rfl ?_
            refine zw_getr (nx := 42) C dX2_isHidden_39 rfl flX2_37 iq2 rfl rfl rfl rfl ?_
            refine zw_iload (nx := 44) C dX2_isHidden_42 rfl rfl ?_
            refine zw_iald (p) (nx := 45) C dX2_isHidden_44 rfl rfl rfl rfl (by omega) ?_
            refine zw_iload_n (i := 1) (nx := 46) C dX2_isHidden_45 rfl rfl rfl ?_
            refine zw_cV31 (nx := 49) C dX2_isHidden_46 rfl cvX2_71 rfl rfl ⟨Nat.le_of_ble_eq_true rfl, Nat.le_of_ble_eq_true rfl⟩ rfl rfl (Nat.le_of_ble_eq_true rfl) (by rw [hs']; exact run_X2_hides hc (by omega) (by omega) hy) ?_
            refine zw_ifb_eq (tgt := 54) (nx := 52) C dX2_isHidden_49 rfl rfl (fun h49 => ?_) (fun h49 => ?_)
            · exact skip (fun q => by have := q.2; rw [es, h49] at this; cases this)
            · have yes : sHid (cV ζ) y a b p (k + 1) = true := if_pos ⟨⟨by omega, by omega, h32⟩, by rw [show (cV ζ 5 p).toNat = s from es]; exact h49⟩
              refine zw_iconst (nx := 53) C dX2_isHidden_52 rfl ?_
              exact zw_bret C hA hr hk dX2_isHidden_53 (by rw [e, yes]; rfl) rfl rfl
  refine zw_iconst (nx := 1) C dX2_isHidden_0 rfl ?_
  refine zw_ist4 (nx := 3) C (eIst_w dX2_isHidden_1 rfl) (Nat.le_of_ble_eq_true rfl) rfl ?_
  exact loop n 0 (by omega) rfl
theorem run_X2_seenIn {n : Nat} (hc : cOk ζ n) {p y : Nat} (hp : p < 8) (hy : y < 8) : zRun l B mX2_seenIn [.ref 1, zi p, zi y] ζ (some (zi (sSeen (cV ζ) n p y))) ζ := by
  refine zrun_intro (M := mX2_seenIn) (ls := [some (.ref 1), some (zi p), some (zi y)]) (by decide) rfl rfl rfl (Nat.le_of_ble_eq_true rfl) ?_
  intro X A C hX hA hr hk
  replace C : CX X B A mX2_seenIn.2.2.2.2 RX2 cX2_seenIn 3 0 0 := C
  have hr : (xMeth X).sig.returnType = (some .int) := hr
  change ZW X B A 3 0 0 _ _ 0 [some (.ref 1), some (zi p), some (zi y)] []
  refine zw_aload_n (i := 0) (nx := 1) C dX2_seenIn_0 rfl rfl rfl ?_
  refine zw_iload_n (i := 2) (nx := 2) C dX2_seenIn_1 rfl rfl rfl ?_
  refine zw_iload_n (i := 1) (nx := 3) C dX2_seenIn_2 rfl rfl rfl ?_
  refine zw_iload_n (i := 1) (nx := 4) C dX2_seenIn_3 rfl rfl rfl ?_
  refine zw_cV31 (nx := 7) C dX2_seenIn_4 rfl cvX2_75 rfl rfl ⟨Nat.le_of_ble_eq_true rfl, Nat.le_of_ble_eq_true rfl⟩ rfl rfl (Nat.le_of_ble_eq_true rfl) (run_X2_isHidden hc hy hp hp) ?_
  refine zw_ifb_eq (tgt := 14) (nx := 10) C dX2_seenIn_7 rfl rfl (fun h7 => ?_) (fun h7 => ?_)
  · refine zw_aload_n (i := 0) (nx := 15) C dX2_seenIn_14 rfl rfl rfl ?_
    refine zw_iload_n (i := 2) (nx := 16) C dX2_seenIn_15 rfl rfl rfl ?_
    refine zw_cV11 (nx := 19) C dX2_seenIn_16 rfl cvX2_78 rfl rfl ⟨Nat.le_of_ble_eq_true rfl, Nat.le_of_ble_eq_true rfl⟩ rfl rfl (Nat.le_of_ble_eq_true rfl) (run_X2_darkIn hc (by omega)) ?_
    exact zw_iret C hA hr hk dX2_seenIn_19 (by unfold sSeen; rw [h7]; rfl) rfl
  · refine zw_iconst (nx := 11) C dX2_seenIn_10 rfl ?_
    refine zw_goto (nx := 19) C dX2_seenIn_11 rfl ?_
    exact zw_iret C hA hr hk dX2_seenIn_19 (by unfold sSeen; rw [h7]; rfl) rfl
theorem run_X2_seenNow {n : Nat} (hc : cOk ζ n) {p : Nat} (hp : p < n) : zRun l B mX2_seenNow [.ref 1, zi p] ζ (some (zi (sNow (cV ζ) n p))) ζ := by
  have hn := hc.1.1
  have hs : -1 ≤ ζ.1 7 p ∧ ζ.1 7 p ≤ 7 := (hc.1.2.2.2.2 p hp).2.2.2
  refine zrun_intro (M := mX2_seenNow) (ls := [some (.ref 1), some (zi p)]) (by decide) rfl rfl rfl (Nat.le_of_ble_eq_true rfl) ?_
  intro X A C hX hA hr hk
  replace C : CX X B A mX2_seenNow.2.2.2.2 RX2 cX2_seenNow 2 0 0 := C
  have hr : (xMeth X).sig.returnType = (some .int) := hr
  change ZW X B A 2 0 0 _ _ 0 [some (.ref 1), some (zi p)] []
  refine zw_aload_n (i := 0) (nx := 1) C dX2_seenNow_0 rfl rfl rfl ?_
  refine zw_getr (nx := 4) C dX2_seenNow_1 rfl flX2_37 iq2 rfl rfl rfl rfl ?_
  refine zw_iload_n (i := 1) (nx := 5) C dX2_seenNow_4 rfl rfl rfl ?_
  refine zw_iald (p) (nx := 6) C dX2_seenNow_5 rfl rfl rfl rfl (by omega) ?_
  refine zw_iconst (nx := 7) C dX2_seenNow_6 rfl ?_
  refine zw_icmp_ne (tgt := 14) (nx := 10) C dX2_seenNow_7 rfl rfl (by omega) (fun h7 => ?_) (fun h7 => ?_)
  · obtain ⟨s, hs'⟩ := Int.eq_ofNat_of_zero_le (show 0 ≤ ζ.1 7 p by omega)
    have es : (ζ.1 7 p).toNat = s := by omega
    refine zw_aload_n (i := 0) (nx := 15) C dX2_seenNow_14 rfl rfl rfl ?_
    refine zw_iload_n (i := 1) (nx := 16) C dX2_seenNow_15 rfl rfl rfl ?_
    refine zw_aload_n (i := 0) (nx := 17) C dX2_seenNow_16 rfl rfl rfl ?_
    refine zw_getr (nx := 20) C dX2_seenNow_17 rfl flX2_37 iq2 rfl rfl rfl rfl ?_
    refine zw_iload_n (i := 1) (nx := 21) C dX2_seenNow_20 rfl rfl rfl ?_
    refine zw_iald (p) (nx := 22) C dX2_seenNow_21 rfl rfl rfl rfl (by omega) ?_
    refine zw_cV21 (nx := 25) C dX2_seenNow_22 rfl cvX2_81 rfl rfl ⟨Nat.le_of_ble_eq_true rfl, Nat.le_of_ble_eq_true rfl⟩ rfl rfl (Nat.le_of_ble_eq_true rfl) (by rw [hs']; exact run_X2_seenIn hc (by omega) (by omega)) ?_
    exact zw_iret C hA hr hk dX2_seenNow_25 (zr (by show (if ζ.1 7 p = -1 then 0 else sSeen (cV ζ) n p (ζ.1 7 p).toNat) = _; rw [if_neg h7, es])) rfl
  · refine zw_iconst (nx := 11) C dX2_seenNow_10 rfl ?_
    refine zw_goto (nx := 25) C dX2_seenNow_11 rfl ?_
    exact zw_iret C hA hr hk dX2_seenNow_25 (zr (if_pos h7)) rfl
theorem run_X2_seenByAll {n : Nat} (hc : cOk ζ n) : zRun l B mX2_seenByAll [.ref 1] ζ (some (zi (sSum (sNow (cV ζ) n) n))) ζ := by
  have hn3 := hc.2.1
  have hn := hc.1.1
  refine zrun_intro (M := mX2_seenByAll) (ls := [some (.ref 1), none, none]) (by decide) rfl rfl rfl (Nat.le_of_ble_eq_true rfl) ?_
  intro X A C hX hA hr hk
  replace C : CX X B A mX2_seenByAll.2.2.2.2 RX2 cX2_seenByAll 3 0 0 := C
  have hr : (xMeth X).sig.returnType = (some .int) := hr
  change ZW X B A 3 0 0 _ _ 0 [some (.ref 1), none, none] []
  have loop : ∀ k p : Nat, p + k = n → ZW X B A 3 0 0 (eFin X B (some (zi (sSum (sNow (cV ζ) n) n))) (zz ζ)) ζ 4 [some (.ref 1), some (zi (sSum (sNow (cV ζ) n) p)), some (zi p)] [] := by
    intro k
    induction k with
    | zero =>
      intro p hpk
      have e : p = n := by omega
      subst e
      refine zw_iload_n (i := 2) (nx := 5) C dX2_seenByAll_4 rfl rfl rfl ?_
      refine zw_aload_n (i := 0) (nx := 6) C dX2_seenByAll_5 rfl rfl rfl ?_
      refine zw_geti (nx := 9) C dX2_seenByAll_6 rfl flX2_22 iq2 rfl rfl rfl rfl ?_
      refine zw_icmp_ge (tgt := 26) (nx := 12) C dX2_seenByAll_9 rfl rfl (by omega) (fun h9 => ?_) (fun h9 => by exfalso; omega)
      refine zw_iload_n (i := 1) (nx := 27) C dX2_seenByAll_26 rfl rfl rfl ?_
      exact zw_iret C hA hr hk dX2_seenByAll_27 rfl rfl
    | succ k ih =>
      intro p hpk
      refine zw_iload_n (i := 2) (nx := 5) C dX2_seenByAll_4 rfl rfl rfl ?_
      refine zw_aload_n (i := 0) (nx := 6) C dX2_seenByAll_5 rfl rfl rfl ?_
      refine zw_geti (nx := 9) C dX2_seenByAll_6 rfl flX2_22 iq2 rfl rfl rfl rfl ?_
      refine zw_icmp_ge (tgt := 26) (nx := 12) C dX2_seenByAll_9 rfl rfl (by omega) (fun h9 => by exfalso; omega) (fun h9 => ?_)
      refine zw_iload_n (i := 1) (nx := 13) C dX2_seenByAll_12 rfl rfl rfl ?_
      refine zw_aload_n (i := 0) (nx := 14) C dX2_seenByAll_13 rfl rfl rfl ?_
      refine zw_iload_n (i := 2) (nx := 15) C dX2_seenByAll_14 rfl rfl rfl ?_
      refine zw_cV11 (nx := 18) C dX2_seenByAll_15 rfl cvX2_85 rfl rfl ⟨Nat.le_of_ble_eq_true rfl, Nat.le_of_ble_eq_true rfl⟩ rfl rfl (Nat.le_of_ble_eq_true rfl) (run_X2_seenNow hc (by omega)) ?_
      refine zw_iadd (nx := 19) C dX2_seenByAll_18 rfl ?_
      refine zw_ist1 (nx := 20) C (eIst_n dX2_seenByAll_19 rfl rfl) (Nat.le_of_ble_eq_true rfl) rfl ?_
      refine zw_iinc2 (nx := 23) C dX2_seenByAll_20 rfl (Nat.le_of_ble_eq_true rfl) rfl ?_
      refine zw_goto (nx := 4) C dX2_seenByAll_23 rfl ?_
      exact ih (p + 1) (by omega)
  refine zw_iconst (nx := 1) C dX2_seenByAll_0 rfl ?_
  refine zw_ist1 (nx := 2) C (eIst_n dX2_seenByAll_1 rfl rfl) (Nat.le_of_ble_eq_true rfl) rfl ?_
  refine zw_iconst (nx := 3) C dX2_seenByAll_2 rfl ?_
  refine zw_ist2 (nx := 4) C (eIst_n dX2_seenByAll_3 rfl rfl) (Nat.le_of_ble_eq_true rfl) rfl ?_
  exact loop n 0 (by omega)
end Hill1
