/-! all seated anew: the class -/
def sS (ζ : zSt) (a w t : Nat → Int) : zSt := zR (zR (zR ζ 42 a) 43 w) 44 t
theorem sS_at (ζ : zSt) (a w t : Nat → Int) (k b : Nat) : (sS ζ a w t).1 k b = if k = 44 then t b else if k = 43 then w b else if k = 42 then a b else ζ.1 k b := rfl
theorem sS_self (ζ : zSt) : sS ζ (ζ.1 42) (ζ.1 43) (ζ.1 44) = ζ := by
  unfold sS
  have h1 : zR ζ 42 (ζ.1 42) = ζ := zR_self ζ 42
  rw [h1, zR_self ζ 43, zR_self ζ 44]
theorem sS_44 (ζ : zSt) (a w t : Nat → Int) (i : Nat) (x : Int) : zU (sS ζ a w t) 44 i x = sS ζ a w (zu t i x) := zRU _ 44 t i x
theorem sS_43 (ζ : zSt) (a w t : Nat → Int) (i : Nat) (x : Int) : zU (sS ζ a w t) 43 i x = sS ζ a (zu w i x) t := by
  unfold sS; rw [zRR _ (by decide), zRU]
theorem sS_42 (ζ : zSt) (a w t : Nat → Int) (i : Nat) (x : Int) : zU (sS ζ a w t) 42 i x = sS ζ (zu a i x) w t := by
  unfold sS; rw [zRR _ (by decide), zRR _ (by decide), zRU]
theorem cOk_sS {ζ : zSt} {n : Nat} (h : cOk ζ n) (a w t : Nat → Int) : cOk (sS ζ a w t) n := h
theorem cV_sS (ζ : zSt) (a w t : Nat → Int) : cV (sS ζ a w t) = cV ζ := rfl
def aFor (ζ : zSt) (n : Nat) (h : aH) : Prop := h.1 = n ∧ (∀ y, y < 8 → ζ.1 2 y = h.2.1 y) ∧ (∀ p y : Nat, p < n → y < 8 → sWo (ζ.1 3 p) (sDk (cV ζ) y) (ζ.1 2 y) = h.2.2.2 p y) ∧ (∀ p y : Nat, p < n → y < 8 → (if ζ.1 2 y + ζ.1 4 p < 10 then ζ.1 2 y + ζ.1 4 p else 10) = (h.2.2.1 p y : Int))
def rwR (g : Nat → Nat → Int) (n : Nat) (f : Nat → Int) : Nat → Nat → Int
  | 0 => f
  | y + 1 => hF (fun p => g p y) (rwR g n f y) n
theorem shl15 {x : Int} (h : 0 ≤ x ∧ x ≤ 4000) : iI x <<< (iI 15 &&& 31) = iI (x * 32768) := by
  obtain ⟨a, rfl⟩ := Int.eq_ofNat_of_zero_le h.1
  have := shlN (a := a) (k := 15) (by omega) (by decide)
  rw [show ((15 : Nat) : Int) = 15 from rfl, show ((a * 2 ^ 15 : Nat) : Int) = (a : Int) * 32768 from by omega] at this
  exact this
section Sea
variable {l : Launch} {B : eB} {ζ : zSt}
theorem run_X4_seatShift {p : Int} : zRun l B mX4_seatShift [zi p] ζ (some (zi (3 * (4 - p)))) ζ := by
  refine zrun_intro (M := mX4_seatShift) (ls := [some (zi p)]) (by decide) rfl rfl rfl (Nat.le_of_ble_eq_true rfl) ?_
  intro X A C hX hA hr hk
  replace C : CX X B A mX4_seatShift.2.2.2.2 RX4 cX4_seatShift 1 0 0 := C
  have hr : (xMeth X).sig.returnType = (some .int) := hr
  change ZW X B A 1 0 0 _ _ 0 [some (zi p)] []
  refine zw_iconst (nx := 1) C dX4_seatShift_0 rfl ?_
  refine zw_iconst (nx := 2) C dX4_seatShift_1 rfl ?_
  refine zw_iload_n (i := 0) (nx := 3) C dX4_seatShift_2 rfl rfl rfl ?_
  refine zw_isub (nx := 4) C dX4_seatShift_3 rfl ?_
  refine zw_imul (nx := 5) C dX4_seatShift_4 rfl ?_
  exact zw_iret C hA hr hk dX4_seatShift_5 rfl rfl
set_option maxHeartbeats 8000000 in
theorem run_X4_lookAt {n y : Nat} {h : aH} (hc : cOk ζ n) (hf : aFor ζ n h) (hy : y < 8) {a w t : Nat → Int} : zRun l B mX4_lookAt [.ref 41, .ref 1, zi y] (sS ζ a w t) none (sS ζ a (hF (fun p => h.2.2.2 p y) w n) (hF (fun p => (h.2.2.1 p y : Int)) t n)) := by
  have hn := hc.1.1
  have hn3 := hc.2.1
  have hhy : 0 ≤ ζ.1 2 y ∧ ζ.1 2 y ≤ 9 := hc.1.2.2.2.1 y hy
  refine zrun_intro (M := mX4_lookAt) (ls := [some (.ref 41), some (.ref 1), some (zi y), none, none]) (by decide) rfl rfl rfl (Nat.le_of_ble_eq_true rfl) ?_
  intro X A C hX hA hr hk
  replace C : CX X B A mX4_lookAt.2.2.2.2 RX4 cX4_lookAt 5 0 0 := C
  have hr : (xMeth X).sig.returnType = none := hr
  change ZW X B A 5 0 0 _ _ 0 [some (.ref 41), some (.ref 1), some (zi y), none, none] []
  have loop : ∀ m p : Nat, p + m = n → ZW X B A 5 0 0 (eFin X B none (zz (sS ζ a (hF (fun p => h.2.2.2 p y) w n) (hF (fun p => (h.2.2.1 p y : Int)) t n)))) (sS ζ a (hF (fun p => h.2.2.2 p y) w p) (hF (fun p => (h.2.2.1 p y : Int)) t p)) 9 [some (.ref 41), some (.ref 1), some (zi y), some (zi (sDk (cV ζ) y)), some (zi p)] [] := by
    intro m
    induction m with
    | zero =>
      intro p hpm
      have e : p = n := by omega
      subst e
      have r3 : (sS ζ a (hF (fun p => h.2.2.2 p y) w p) (hF (fun p => (h.2.2.1 p y : Int)) t p)).1 1 3 = (p : Int) := hn3
      refine zw_iload (nx := 11) C dX4_lookAt_9 rfl rfl ?_
      refine zw_aload_n (i := 1) (nx := 12) C dX4_lookAt_11 rfl rfl rfl ?_
      refine zw_geti (nx := 15) C dX4_lookAt_12 rfl flX4_26 iq2 rfl rfl rfl rfl ?_
      refine zw_icmp_ge (tgt := 74) (nx := 18) C dX4_lookAt_15 rfl rfl (by omega) (fun h15 => ?_) (fun h15 => by exfalso; omega)
      exact zw_vret C hA hr hk dX4_lookAt_74 rfl rfl
    | succ m ih =>
      intro p hpm
      have r3 : (sS ζ a (hF (fun p => h.2.2.2 p y) w p) (hF (fun p => (h.2.2.1 p y : Int)) t p)).1 1 3 = (n : Int) := hn3
      have hhd := hc.2.2 p (by omega)
      have hhb := sHd_bd (ζ.1 3 p)
      refine zw_iload (nx := 11) C dX4_lookAt_9 rfl rfl ?_
      refine zw_aload_n (i := 1) (nx := 12) C dX4_lookAt_11 rfl rfl rfl ?_
      refine zw_geti (nx := 15) C dX4_lookAt_12 rfl flX4_26 iq2 rfl rfl rfl rfl ?_
      refine zw_icmp_ge (tgt := 74) (nx := 18) C dX4_lookAt_15 rfl rfl (by omega) (fun h15 => by exfalso; omega) (fun h15 => ?_)
      refine zw_aload_n (i := 0) (nx := 19) C dX4_lookAt_18 rfl rfl rfl ?_
      refine zw_getr (nx := 22) C dX4_lookAt_19 rfl flX4_15 iq3 rfl rfl rfl rfl ?_
      refine zw_iload (nx := 24) C dX4_lookAt_22 rfl rfl ?_
      refine zw_aload_n (i := 1) (nx := 25) C dX4_lookAt_24 rfl rfl rfl ?_
      refine zw_getr (nx := 28) C dX4_lookAt_25 rfl flX4_57 iq2 rfl rfl rfl rfl ?_
      refine zw_iload (nx := 30) C dX4_lookAt_28 rfl rfl ?_
      refine zw_iald (p) (nx := 31) C dX4_lookAt_30 rfl rfl rfl rfl (by omega) ?_
      refine zw_iload_n (i := 3) (nx := 32) C dX4_lookAt_31 rfl rfl rfl ?_
      refine zw_aload_n (i := 1) (nx := 33) C dX4_lookAt_32 rfl rfl rfl ?_
      refine zw_getr (nx := 36) C dX4_lookAt_33 rfl flX4_60 iq2 rfl rfl rfl rfl ?_
      refine zw_iload_n (i := 2) (nx := 37) C dX4_lookAt_36 rfl rfl rfl ?_
      refine zw_iald (y) (nx := 38) C dX4_lookAt_37 rfl rfl rfl rfl (by omega) ?_
      refine zw_cS31 (nx := 41) C dX4_lookAt_38 rfl csX4_63 ⟨Nat.le_of_ble_eq_true rfl, Nat.le_of_ble_eq_true rfl⟩ (Nat.le_of_ble_eq_true rfl) (run_X3_worth (hc.1.2.2.2.2 p (by omega)).1 (hc.1.dk y) (hc.1.2.2.2.1 y hy)) ?_
      rw [show sWo ((sS ζ a (hF (fun p => h.2.2.2 p y) w p) (hF (fun p => (h.2.2.1 p y : Int)) t p)).1 3 p) (sDk (cV ζ) y) ((sS ζ a (hF (fun p => h.2.2.2 p y) w p) (hF (fun p => (h.2.2.1 p y : Int)) t p)).1 2 y) = h.2.2.2 p y from hf.2.2.1 p y (by omega) hy]
      refine zw_iast (p) (nx := 42) C dX4_lookAt_41 rfl rfl rfl rfl (by omega) ?_
      rw [sS_43, hF_s (fun p => h.2.2.2 p y)]
      have r2 : (sS ζ a (hF (fun p => h.2.2.2 p y) w (p + 1)) (hF (fun p => (h.2.2.1 p y : Int)) t p)).1 2 y = ζ.1 2 y := rfl
      have r4 : (sS ζ a (hF (fun p => h.2.2.2 p y) w (p + 1)) (hF (fun p => (h.2.2.1 p y : Int)) t p)).1 4 p = ζ.1 4 p := rfl
      refine zw_aload_n (i := 0) (nx := 43) C dX4_lookAt_42 rfl rfl rfl ?_
      refine zw_getr (nx := 46) C dX4_lookAt_43 rfl flX4_18 iq3 rfl rfl rfl rfl ?_
      refine zw_iload (nx := 48) C dX4_lookAt_46 rfl rfl ?_
      refine zw_bipush (v := 10) (nx := 50) C dX4_lookAt_48 (by decide) rfl ?_
      refine zw_aload_n (i := 1) (nx := 51) C dX4_lookAt_50 rfl rfl rfl ?_
      refine zw_getr (nx := 54) C dX4_lookAt_51 rfl flX4_60 iq2 rfl rfl rfl rfl ?_
      refine zw_iload_n (i := 2) (nx := 55) C dX4_lookAt_54 rfl rfl rfl ?_
      refine zw_iald (y) (nx := 56) C dX4_lookAt_55 rfl rfl rfl rfl (by omega) ?_
      refine zw_aload_n (i := 1) (nx := 57) C dX4_lookAt_56 rfl rfl rfl ?_
      refine zw_getr (nx := 60) C dX4_lookAt_57 rfl flX4_69 iq2 rfl rfl rfl rfl ?_
      refine zw_iload (nx := 62) C dX4_lookAt_60 rfl rfl ?_
      refine zw_iald (p) (nx := 63) C dX4_lookAt_62 rfl rfl rfl rfl (by omega) ?_
      refine zw_iadd (nx := 64) C dX4_lookAt_63 rfl ?_
      refine zw_min (nx := 67) C dX4_lookAt_64 rfl wlX4_72 ws_min wi_math wc_min (Nat.le_of_ble_eq_true rfl) (Nat.le_of_ble_eq_true rfl) (Nat.le_of_ble_eq_true rfl) (by omega) ?_
      rw [r2, r4, hf.2.2.2 p y (by omega) hy]
      refine zw_iast (p) (nx := 68) C dX4_lookAt_67 rfl rfl rfl rfl (by omega) ?_
      rw [sS_44, hF_s (fun p => (h.2.2.1 p y : Int))]
      refine zw_iinc4 (nx := 71) C dX4_lookAt_68 rfl (Nat.le_of_ble_eq_true rfl) rfl ?_
      refine zw_goto (nx := 9) C dX4_lookAt_71 rfl ?_
      exact ih (p + 1) (by omega)
  refine zw_aload_n (i := 1) (nx := 1) C dX4_lookAt_0 rfl rfl rfl ?_
  refine zw_iload_n (i := 2) (nx := 2) C dX4_lookAt_1 rfl rfl rfl ?_
  refine zw_cV11 (nx := 5) C dX4_lookAt_2 rfl cvX4_54 rfl rfl ⟨Nat.le_of_ble_eq_true rfl, Nat.le_of_ble_eq_true rfl⟩ rfl rfl (Nat.le_of_ble_eq_true rfl) (run_X2_darkIn (cOk_sS hc a w t) (by omega)) ?_
  rw [cV_sS]
  refine zw_ist3 (nx := 6) C (eIst_n dX4_lookAt_5 rfl rfl) (Nat.le_of_ble_eq_true rfl) rfl ?_
  refine zw_iconst (nx := 7) C dX4_lookAt_6 rfl ?_
  refine zw_ist4 (nx := 9) C (eIst_w dX4_lookAt_7 rfl) (Nat.le_of_ble_eq_true rfl) rfl ?_
  have := loop n 0 (by omega)
  rw [hF_0, hF_0] at this
  exact this
set_option maxHeartbeats 16000000 in
theorem run_X4_spread {n y s : Nat} {h : aH} (hc : cOk ζ n) (hok : aOk h) (hf : aFor ζ n h) (hy : y < 8) (hs : s < 2 ^ h.1) {a w t' : Nat → Int} (hw : ∀ p, p < n → w p = h.2.2.2 p y) (ht' : ∀ p, p < n → t' p = (h.2.2.1 p y : Int)) (hi : dI h y (fun S' _ _ => s < S') a) : zRun l B mX4_spread [.ref 41, .ref 1, zi y, zi s] (sS ζ a w t') none (sS ζ (spT h s y a 11) w t') := by
  have hn := hc.1.1
  have hn3 := hc.2.1
  have h1 := hf.1
  have h32 : 2 ^ h.1 ≤ 2 ^ 5 := Nat.pow_le_pow_right (by decide) hok.1
  have hHy := hok.2.1 y hy
  have hrH := hf.2.1 y hy
  refine zrun_intro (M := mX4_spread) (ls := [some (.ref 41), some (.ref 1), some (zi y), some (zi s), none, none, none, none, none, none]) (by decide) rfl rfl rfl (Nat.le_of_ble_eq_true rfl) ?_
  intro X A C hX hA hr hk
  replace C : CX X B A mX4_spread.2.2.2.2 RX4 cX4_spread 10 0 0 := C
  have hr : (xMeth X).sig.returnType = none := hr
  change ZW X B A 10 0 0 _ _ 0 [some (.ref 41), some (.ref 1), some (zi y), some (zi s), none, none, none, none, none, none] []
  have tl : ∀ m t : Nat, t + m = 11 → ∀ o5 o6 o7 o8 o9 : Option Value, ZW X B A 10 0 0 (eFin X B none (zz (sS ζ (spT h s y a 11) w t'))) (sS ζ (spT h s y a t) w t') 3 [some (.ref 41), some (.ref 1), some (zi y), some (zi s), some (zi t), o5, o6, o7, o8, o9] [] := by
    intro m
    induction m with
    | zero =>
      intro t htm o5 o6 o7 o8 o9
      have e : t = 11 := by omega
      subst e
      refine zw_iload (nx := 5) C dX4_spread_3 rfl rfl ?_
      refine zw_bipush (v := 11) (nx := 7) C dX4_spread_5 (by decide) rfl ?_
      refine zw_icmp_ge (tgt := 157) (nx := 10) C dX4_spread_7 rfl rfl (by omega) (fun h7 => ?_) (fun h7 => by exfalso; omega)
      exact zw_vret C hA hr hk dX4_spread_157 rfl rfl
    | succ m ih =>
      intro t htm o5 o6 o7 o8 o9
      have dt := dI_spT hok hy hs hi t (by omega)
      have hbr := dI_rng hok (by omega) (fun e => by omega) dt hs (show t < 11 by omega)
      have hm := dI_src (t := t) (fun S' t' p' q => by omega) hs (by omega) dt
      have stp : spT h s y a (t + 1) = if spT h s y a t (11 * s + t) = -1000000 then spT h s y a t else spP h s y t (spT h s y a t (11 * s + t)) (spT h s y a t) h.1 := rfl
      refine zw_iload (nx := 5) C dX4_spread_3 rfl rfl ?_
      refine zw_bipush (v := 11) (nx := 7) C dX4_spread_5 (by decide) rfl ?_
      refine zw_icmp_ge (tgt := 157) (nx := 10) C dX4_spread_7 rfl rfl (by omega) (fun h7 => by exfalso; omega) (fun h7 => ?_)
      refine zw_aload_n (i := 0) (nx := 11) C dX4_spread_10 rfl rfl rfl ?_
      refine zw_getr (nx := 14) C dX4_spread_11 rfl flX4_11 iq3 rfl rfl rfl rfl ?_
      refine zw_iload_n (i := 3) (nx := 15) C dX4_spread_14 rfl rfl rfl ?_
      refine zw_bipush (v := 11) (nx := 17) C dX4_spread_15 (by decide) rfl ?_
      refine zw_imul (nx := 18) C dX4_spread_17 rfl ?_
      refine zw_iload (nx := 20) C dX4_spread_18 rfl rfl ?_
      refine zw_iadd (nx := 21) C dX4_spread_20 rfl ?_
      refine zw_iald ((11 * s + t)) (nx := 22) C dX4_spread_21 rfl rfl rfl rfl (by omega) ?_
      rw [show (sS ζ (spT h s y a t) w t').1 42 (11 * s + t) = spT h s y a t (11 * s + t) from rfl]
      generalize spT h s y a t (11 * s + t) = b at hbr hm stp
      generalize spT h s y a t = a1 at dt stp
      refine zw_ist5 (nx := 24) C (eIst_w dX4_spread_22 rfl) (Nat.le_of_ble_eq_true rfl) rfl ?_
      refine zw_iload (nx := 26) C dX4_spread_24 rfl rfl ?_
      refine zw_ldc (v := -1000000) (nx := 28) C dX4_spread_26 kiX4_25 (by decide) rfl ?_
      refine zw_icmp_eq (tgt := 151) (nx := 31) C dX4_spread_28 rfl rfl (by omega) (fun h28 => ?_) (fun h28 => ?_)
      · rw [if_pos h28] at stp
        rw [← stp]
        refine zw_iinc4 (nx := 154) C dX4_spread_151 rfl (Nat.le_of_ble_eq_true rfl) rfl ?_
        refine zw_goto (nx := 3) C dX4_spread_154 rfl ?_
        exact ih (t + 1) (by omega) _ _ _ _ _
      · rw [if_neg h28] at stp
        have dp := dI_spP hok hy hs (show t < 11 by omega) hm h28 dt
        have pl : ∀ (o : Bool), o = decide ((t : Int) ≤ h.2.1 y) → ∀ m p : Nat, p + m = n → ∀ o8 o9 : Option Value, ZW X B A 10 0 0 (eFin X B none (zz (sS ζ (spT h s y a 11) w t'))) (sS ζ (spP h s y t b a1 p) w t') 52 [some (.ref 41), some (.ref 1), some (zi y), some (zi s), some (zi t), some (zi b), some (zi (b2i o)), some (zi p), o8, o9] [] := by
          intro o ho m
          induction m with
          | zero =>
            intro p hpm o8 o9
            have e : p = n := by omega
            have r3 : (sS ζ (spP h s y t b a1 p) w t').1 1 3 = (n : Int) := hn3
            refine zw_iload (nx := 54) C dX4_spread_52 rfl rfl ?_
            refine zw_aload_n (i := 1) (nx := 55) C dX4_spread_54 rfl rfl rfl ?_
            refine zw_geti (nx := 58) C dX4_spread_55 rfl flX4_26 iq2 rfl rfl rfl rfl ?_
            refine zw_icmp_ge (tgt := 151) (nx := 61) C dX4_spread_58 rfl rfl (by omega) (fun h58 => ?_) (fun h58 => by exfalso; omega)
            rw [show spP h s y t b a1 p = spT h s y a (t + 1) from by rw [stp, h1, e]]
            refine zw_iinc4 (nx := 154) C dX4_spread_151 rfl (Nat.le_of_ble_eq_true rfl) rfl ?_
            refine zw_goto (nx := 3) C dX4_spread_154 rfl ?_
            exact ih (t + 1) (by omega) _ _ _ _ _
          | succ m ih2 =>
            intro p hpm o8 o9
            have r3 : (sS ζ (spP h s y t b a1 p) w t').1 1 3 = (n : Int) := hn3
            have hm2 : (s >>> p) % 2 < 2 := Nat.mod_lt _ (by decide)
            have hgn := gn_bd hok t (show p < h.1 by omega) hy
            have hyp := ypw hy (show p < 5 by omega)
            have htp := hok.2.2.1 p y
            have hwo := hok.2.2.2 p y (by omega) hy
            have put : s.testBit p = false → ∀ o9 : Option Value, ZW X B A 10 0 0 (eFin X B none (zz (sS ζ (spT h s y a 11) w t'))) (sS ζ (spP h s y t b a1 p) w t') 91 [some (.ref 41), some (.ref 1), some (zi y), some (zi s), some (zi t), some (zi b), some (zi (b2i o)), some (zi p), some (zi (gn h p y t)), o9] [] := by
              intro hb o9
              have r44 : (sS ζ (spP h s y t b a1 p) w t').1 44 p = (h.2.2.1 p y : Int) := ht' p (by omega)
              have hor : s ||| 2 ^ p < 2 ^ h.1 := Nat.or_lt_two_pow hs (Nat.pow_lt_pow_right (by decide) (by omega))
              have hnm : nm t (h.2.2.1 p y) < 11 := by unfold nm; split <;> omega
              have hto := dI_rng hok (by omega) (fun e => by omega) (dp p (by omega)) hor hnm
              refine zw_iload_n (i := 3) (nx := 92) C dX4_spread_91 rfl rfl rfl ?_
              refine zw_iconst (nx := 93) C dX4_spread_92 rfl ?_
              refine zw_iload (nx := 95) C dX4_spread_93 rfl rfl ?_
              refine zw_ishl (c := ((2 ^ p : Nat) : Int)) (nx := 96) C dX4_spread_95 (by exact shl_ok (by omega)) rfl ?_
              refine zw_ior (c := ((s ||| 2 ^ p : Nat) : Int)) (nx := 97) C dX4_spread_96 (by exact or_ok (by omega) (by omega)) rfl ?_
              refine zw_bipush (v := 11) (nx := 99) C dX4_spread_97 (by decide) rfl ?_
              refine zw_imul (nx := 100) C dX4_spread_99 rfl ?_
              refine zw_iload (nx := 102) C dX4_spread_100 rfl rfl ?_
              refine zw_aload_n (i := 0) (nx := 103) C dX4_spread_102 rfl rfl rfl ?_
              refine zw_getr (nx := 106) C dX4_spread_103 rfl flX4_18 iq3 rfl rfl rfl rfl ?_
              refine zw_iload (nx := 108) C dX4_spread_106 rfl rfl ?_
              refine zw_iald (p) (nx := 109) C dX4_spread_108 rfl rfl rfl rfl (by omega) ?_
              refine zw_max (nx := 112) C dX4_spread_109 rfl wlX4_39 ws_max wi_math wc_max (Nat.le_of_ble_eq_true rfl) (Nat.le_of_ble_eq_true rfl) (Nat.le_of_ble_eq_true rfl) (by omega) ?_
              rw [r44, nm_i]
              refine zw_iadd (nx := 113) C dX4_spread_112 rfl ?_
              rw [show ((s ||| 2 ^ p : Nat) : Int) * 11 + ((nm t (h.2.2.1 p y) : Nat) : Int) = ((11 * (s ||| 2 ^ p) + nm t (h.2.2.1 p y) : Nat) : Int) from by omega]
              refine zw_ist9 (nx := 115) C (eIst_w dX4_spread_113 rfl) (Nat.le_of_ble_eq_true rfl) rfl ?_
              refine zw_aload_n (i := 0) (nx := 116) C dX4_spread_115 rfl rfl rfl ?_
              refine zw_getr (nx := 119) C dX4_spread_116 rfl flX4_11 iq3 rfl rfl rfl rfl ?_
              refine zw_iload (nx := 121) C dX4_spread_119 rfl rfl ?_
              refine zw_aload_n (i := 0) (nx := 122) C dX4_spread_121 rfl rfl rfl ?_
              refine zw_getr (nx := 125) C dX4_spread_122 rfl flX4_11 iq3 rfl rfl rfl rfl ?_
              refine zw_iload (nx := 127) C dX4_spread_125 rfl rfl ?_
              refine zw_iald ((11 * (s ||| 2 ^ p) + nm t (h.2.2.1 p y))) (nx := 128) C dX4_spread_127 rfl rfl rfl rfl (by omega) ?_
              rw [show (sS ζ (spP h s y t b a1 p) w t').1 42 (11 * (s ||| 2 ^ p) + nm t (h.2.2.1 p y)) = spP h s y t b a1 p (11 * (s ||| 2 ^ p) + nm t (h.2.2.1 p y)) from rfl]
              refine zw_iload (nx := 130) C dX4_spread_128 rfl rfl ?_
              refine zw_iload (nx := 132) C dX4_spread_130 rfl rfl ?_
              refine zw_iadd (nx := 133) C dX4_spread_132 rfl ?_
              refine zw_iload_n (i := 2) (nx := 134) C dX4_spread_133 rfl rfl rfl ?_
              refine zw_iload (nx := 136) C dX4_spread_134 rfl rfl ?_
              refine zw_cS11 (nx := 139) C dX4_spread_136 rfl csX4_50 ⟨Nat.le_of_ble_eq_true rfl, Nat.le_of_ble_eq_true rfl⟩ (Nat.le_of_ble_eq_true rfl) run_X4_seatShift ?_
              refine zw_ishl (c := ((y : Int) * pw p)) (nx := 140) C dX4_spread_139 (by exact shl_seat hy (by omega)) rfl ?_
              refine zw_isub (nx := 141) C dX4_spread_140 rfl ?_
              refine zw_max (nx := 144) C dX4_spread_141 rfl wlX4_39 ws_max wi_math wc_max (Nat.le_of_ble_eq_true rfl) (Nat.le_of_ble_eq_true rfl) (Nat.le_of_ble_eq_true rfl) (by omega) ?_
              refine zw_iast ((11 * (s ||| 2 ^ p) + nm t (h.2.2.1 p y))) (nx := 145) C dX4_spread_144 rfl rfl rfl rfl (by omega) ?_
              have es : spP h s y t b a1 (p + 1) = zu (spP h s y t b a1 p) (11 * (s ||| 2 ^ p) + nm t (h.2.2.1 p y)) (im (spP h s y t b a1 p (11 * (s ||| 2 ^ p) + nm t (h.2.2.1 p y))) (b + gn h p y t - (y : Int) * pw p)) := if_neg (by rw [hb]; decide)
              rw [sS_42, show zu (spP h s y t b a1 p) (11 * (s ||| 2 ^ p) + nm t (h.2.2.1 p y)) (if spP h s y t b a1 p (11 * (s ||| 2 ^ p) + nm t (h.2.2.1 p y)) < b + gn h p y t - (y : Int) * pw p then b + gn h p y t - (y : Int) * pw p else spP h s y t b a1 p (11 * (s ||| 2 ^ p) + nm t (h.2.2.1 p y))) = spP h s y t b a1 (p + 1) from es.symm]
              refine zw_iinc7 (nx := 148) C dX4_spread_145 rfl (Nat.le_of_ble_eq_true rfl) rfl ?_
              refine zw_goto (nx := 52) C dX4_spread_148 rfl ?_
              exact ih2 (p + 1) (by omega) _ _
            refine zw_iload (nx := 54) C dX4_spread_52 rfl rfl ?_
            refine zw_aload_n (i := 1) (nx := 55) C dX4_spread_54 rfl rfl rfl ?_
            refine zw_geti (nx := 58) C dX4_spread_55 rfl flX4_26 iq2 rfl rfl rfl rfl ?_
            refine zw_icmp_ge (tgt := 151) (nx := 61) C dX4_spread_58 rfl rfl (by omega) (fun h58 => by exfalso; omega) (fun h58 => ?_)
            refine zw_iload_n (i := 3) (nx := 62) C dX4_spread_61 rfl rfl rfl ?_
            refine zw_iload (nx := 64) C dX4_spread_62 rfl rfl ?_
            refine zw_ishr (c := ((s >>> p : Nat) : Int)) (nx := 65) C dX4_spread_64 (by exact shr_ok (by omega) (by omega)) rfl ?_
            refine zw_iconst (nx := 66) C dX4_spread_65 rfl ?_
            refine zw_iand (c := ((s >>> p % 2 : Nat) : Int)) (nx := 67) C dX4_spread_66 (by exact and_ok (shr_lt (by omega))) rfl ?_
            refine zw_if_ne (tgt := 145) (nx := 70) C dX4_spread_67 rfl rfl (by omega) (fun h67 => ?_) (fun h67 => ?_)
            · have hb : s.testBit p = true := by rw [bit_iff]; omega
              have es : spP h s y t b a1 (p + 1) = spP h s y t b a1 p := if_pos hb
              rw [← es]
              refine zw_iinc7 (nx := 148) C dX4_spread_145 rfl (Nat.le_of_ble_eq_true rfl) rfl ?_
              refine zw_goto (nx := 52) C dX4_spread_148 rfl ?_
              exact ih2 (p + 1) (by omega) _ _
            · have hb : s.testBit p = false := by
                cases hb : s.testBit p with
                | false => rfl
                | true => rw [bit_iff] at hb; omega
              refine zw_iload (nx := 72) C dX4_spread_70 rfl rfl ?_
              refine zw_ifb_eq (tgt := 88) (nx := 75) C dX4_spread_72 rfl rfl (fun h72 => ?_) (fun h72 => ?_)
              · have eg : gn h p y t = 0 := if_neg (by rw [ho] at h72; exact of_decide_eq_false h72)
                refine zw_iconst (nx := 89) C dX4_spread_88 rfl ?_
                refine zw_ist8 (nx := 91) C (eIst_w dX4_spread_89 rfl) (Nat.le_of_ble_eq_true rfl) rfl ?_
                have := put hb o9
                rw [eg] at this
                exact this
              · have eg : gn h p y t = h.2.2.2 p y * 32768 := if_pos (by rw [ho] at h72; exact of_decide_eq_true h72)
                have r43 : (sS ζ (spP h s y t b a1 p) w t').1 43 p = h.2.2.2 p y := hw p (by omega)
                refine zw_aload_n (i := 0) (nx := 76) C dX4_spread_75 rfl rfl rfl ?_
                refine zw_getr (nx := 79) C dX4_spread_76 rfl flX4_15 iq3 rfl rfl rfl rfl ?_
                refine zw_iload (nx := 81) C dX4_spread_79 rfl rfl ?_
                refine zw_iald (p) (nx := 82) C dX4_spread_81 rfl rfl rfl rfl (by omega) ?_
                rw [r43]
                refine zw_bipush (v := 15) (nx := 84) C dX4_spread_82 (by decide) rfl ?_
                refine zw_ishl (c := (h.2.2.2 p y * 32768)) (nx := 85) C dX4_spread_84 (by exact shl15 (by omega)) rfl ?_
                refine zw_goto (nx := 89) C dX4_spread_85 rfl ?_
                refine zw_ist8 (nx := 91) C (eIst_w dX4_spread_89 rfl) (Nat.le_of_ble_eq_true rfl) rfl ?_
                have := put hb o9
                rw [eg] at this
                exact this
        refine zw_iload (nx := 33) C dX4_spread_31 rfl rfl ?_
        refine zw_aload_n (i := 1) (nx := 34) C dX4_spread_33 rfl rfl rfl ?_
        refine zw_getr (nx := 37) C dX4_spread_34 rfl flX4_60 iq2 rfl rfl rfl rfl ?_
        refine zw_iload_n (i := 2) (nx := 38) C dX4_spread_37 rfl rfl rfl ?_
        refine zw_iald (y) (nx := 39) C dX4_spread_38 rfl rfl rfl rfl (by omega) ?_
        rw [show (sS ζ a1 w t').1 2 y = h.2.1 y from hrH]
        refine zw_icmp_gt (tgt := 46) (nx := 42) C dX4_spread_39 rfl rfl (by omega) (fun h39 => ?_) (fun h39 => ?_)
        · have := pl false (decide_eq_false (by omega)).symm n 0 (by omega) o8 o9
          refine zw_iconst (nx := 47) C dX4_spread_46 rfl ?_
          refine zw_ist6 (nx := 49) C (eIst_w dX4_spread_47 rfl) (Nat.le_of_ble_eq_true rfl) rfl ?_
          refine zw_iconst (nx := 50) C dX4_spread_49 rfl ?_
          refine zw_ist7 (nx := 52) C (eIst_w dX4_spread_50 rfl) (Nat.le_of_ble_eq_true rfl) rfl ?_
          exact this
        · have := pl true (decide_eq_true (by omega)).symm n 0 (by omega) o8 o9
          refine zw_iconst (nx := 43) C dX4_spread_42 rfl ?_
          refine zw_goto (nx := 47) C dX4_spread_43 rfl ?_
          refine zw_ist6 (nx := 49) C (eIst_w dX4_spread_47 rfl) (Nat.le_of_ble_eq_true rfl) rfl ?_
          refine zw_iconst (nx := 50) C dX4_spread_49 rfl ?_
          refine zw_ist7 (nx := 52) C (eIst_w dX4_spread_50 rfl) (Nat.le_of_ble_eq_true rfl) rfl ?_
          exact this
  refine zw_iconst (nx := 1) C dX4_spread_0 rfl ?_
  refine zw_ist4 (nx := 3) C (eIst_w dX4_spread_1 rfl) (Nat.le_of_ble_eq_true rfl) rfl ?_
  exact tl 11 0 (by omega) _ _ _ _ _
end Sea
