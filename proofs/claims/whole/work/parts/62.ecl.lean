/-! eclipses -/
theorem or_ok {a s : Nat} (ha : a < 256) (hs : s < 8) : iI (a : Int) ||| iI ((2 ^ s : Nat) : Int) = iI ((a ||| 2 ^ s : Nat) : Int) := by
  have h : ∀ a : Fin 256, ∀ s : Fin 8, iI ((a.val : Nat) : Int) ||| iI ((2 ^ s.val : Nat) : Int) = iI ((a.val ||| 2 ^ s.val : Nat) : Int) := by decide +kernel
  exact h ⟨a, ha⟩ ⟨s, hs⟩
theorem shl_ok {s : Nat} (hs : s < 8) : iI 1 <<< (iI (s : Int) &&& 31) = iI ((2 ^ s : Nat) : Int) := by
  have h : ∀ s : Fin 8, iI 1 <<< (iI ((s.val : Nat) : Int) &&& 31) = iI ((2 ^ s.val : Nat) : Int) := by decide +kernel
  exact h ⟨s, hs⟩
theorem shr_ok {a s : Nat} (ha : a < 256) (hs : s < 8) : iI (a : Int) >>> (iI (s : Int) &&& 31) = iI ((a >>> s : Nat) : Int) := by
  have h : ∀ a : Fin 256, ∀ s : Fin 8, iI ((a.val : Nat) : Int) >>> (iI ((s.val : Nat) : Int) &&& 31) = iI ((a.val >>> s.val : Nat) : Int) := by decide +kernel
  exact h ⟨a, ha⟩ ⟨s, hs⟩
theorem and_ok {a : Nat} (ha : a < 256) : iI (a : Int) &&& iI 1 = iI ((a % 2 : Nat) : Int) := by
  have h : ∀ a : Fin 256, iI ((a.val : Nat) : Int) &&& iI 1 = iI ((a.val % 2 : Nat) : Int) := by decide +kernel
  exact h ⟨a, ha⟩
theorem shr_lt {a s : Nat} (ha : a < 256) : a >>> s < 256 := by
  rw [Nat.shiftRight_eq_div_pow]; exact Nat.lt_of_le_of_lt (Nat.div_le_self _ _) ha
theorem or_lt {a s : Nat} (ha : a < 256) (hs : s < 8) : a ||| 2 ^ s < 256 := by
  have : 2 ^ s < 2 ^ 8 := Nat.pow_lt_pow_right (by decide) hs
  exact Nat.or_lt_two_pow (n := 8) ha this
theorem bit_iff (a s : Nat) : a.testBit s = true ↔ (a >>> s) % 2 = 1 := by
  rw [Nat.testBit_eq_decide_div_mod_eq, Nat.shiftRight_eq_div_pow]
  simp
/-- the yards, as bits, of those in whose way nobody is -/
def opB (V : Nat → Nat → Int) (n : Nat) : Nat → Nat
  | 0 => 0
  | p + 1 => if V 5 p ≠ -1 ∧ sHid V (V 5 p).toNat p p 0 n = false then opB V n p ||| 2 ^ (V 5 p).toNat else opB V n p
theorem opB_lt {V : Nat → Nat → Int} {n : Nat} (h : vOk V n) : ∀ p, p ≤ n → opB V n p < 256
  | 0, _ => by show 0 < 256; decide
  | p + 1, hp => by
    have := h.2.2.2.2 p (by omega)
    unfold opB
    split
    · exact or_lt (opB_lt h p (by omega)) (by omega)
    · exact opB_lt h p (by omega)
def dOv (a : Nat) (t d : Int) : Nat → Int
  | 0 => 0
  | y + 1 => if a.testBit y = true then dOv a t d y + sDkF t d y else dOv a t d y
theorem dOv_or (a : Nat) (t d : Int) (s : Nat) (h : a.testBit s = false) : ∀ y, dOv (a ||| 2 ^ s) t d y = dOv a t d y + if s < y then sDkF t d s else 0
  | 0 => by rw [if_neg (by omega)]; rfl
  | y + 1 => by
    show (if (a ||| 2 ^ s).testBit y = true then _ else _) = (if a.testBit y = true then _ else _) + _
    rw [dOv_or a t d s h y, Nat.testBit_or, Nat.testBit_two_pow]
    by_cases e : s = y
    · subst e
      rw [h]
      simp
    · by_cases hb : a.testBit y = true
      · simp only [hb, Bool.true_or, if_true]
        by_cases hs : s < y
        · rw [if_pos hs, if_pos (by omega)]; omega
        · rw [if_neg hs, if_neg (by omega)]; omega
      · have hb' : a.testBit y = false := by simpa using hb
        have : decide (s = y) = false := decide_eq_false e
        simp only [hb', this, Bool.or_false, Bool.false_eq_true, if_false]
        by_cases hs : s < y
        · rw [if_pos hs, if_pos (by omega)]
        · rw [if_neg hs, if_neg (by omega)]
def vT (V : Nat → Nat → Int) (t d : Int) (a b : Nat) : Int := if a = 0 then (if b = 0 then t else d) else V a b
theorem vT_off (V : Nat → Nat → Int) (t d : Int) {a : Nat} (b : Nat) (h : a ≠ 0) : vT V t d a b = V a b := if_neg h
theorem sHid_vT (V : Nat → Nat → Int) (t d : Int) (y a b : Nat) : ∀ k p, sHid (vT V t d) y a b p k = sHid V y a b p k
  | 0, p => rfl
  | k + 1, p => by
    unfold sHid
    rw [sHid_vT V t d y a b k (p + 1), vT_off V t d p (by decide)]
    rfl
theorem sNow_vT (V : Nat → Nat → Int) (n : Nat) (t d : Int) (p : Nat) : sNow (vT V t d) n p = if V 5 p = -1 then 0 else if sHid V (V 5 p).toNat p p 0 n = true then 0 else sDkF t d ((V 5 p).toNat : Int) := by
  unfold sNow sSeen
  rw [vT_off V t d p (by decide), sHid_vT]
  rfl
theorem opB_bit {V : Nat → Nat → Int} {n : Nat} (s : Nat) : ∀ k, (opB V n k).testBit s = true → ∃ p, p < k ∧ V 5 p ≠ -1 ∧ (V 5 p).toNat = s
  | 0, h => by simp [opB] at h
  | k + 1, h => by
    unfold opB at h
    split at h
    · rename_i hh
      rw [Nat.testBit_or, Nat.testBit_two_pow, Bool.or_eq_true] at h
      rcases h with h | h
      · obtain ⟨p, h1, h2⟩ := opB_bit s k h
        exact ⟨p, by omega, h2⟩
      · exact ⟨k, by omega, hh.1, of_decide_eq_true h⟩
    · obtain ⟨p, h1, h2⟩ := opB_bit s k h
      exact ⟨p, by omega, h2⟩
theorem dOv_0 (t d : Int) : ∀ y, dOv 0 t d y = 0
  | 0 => rfl
  | y + 1 => by
    unfold dOv
    rw [if_neg (by simp), dOv_0 t d y]
theorem sum_open {V : Nat → Nat → Int} {n : Nat} (h : vOk V n) (hd : ∀ p q, p < n → q < n → V 5 p = V 5 q → V 5 p ≠ -1 → p = q) (t d : Int) : ∀ k, k ≤ n → sSum (sNow (vT V t d) n) k = dOv (opB V n k) t d 8
  | 0, _ => (dOv_0 t d 8).symm
  | k + 1, hk => by
    have ih := sum_open h hd t d k (by omega)
    have hs := (h.2.2.2.2 k (by omega)).2.2.2
    show sSum (sNow (vT V t d) n) k + sNow (vT V t d) n k = dOv (if V 5 k ≠ -1 ∧ sHid V (V 5 k).toNat k k 0 n = false then opB V n k ||| 2 ^ (V 5 k).toNat else opB V n k) t d 8
    rw [ih, sNow_vT]
    by_cases e : V 5 k = -1
    · rw [if_pos e, if_neg (fun q => q.1 e), Int.add_zero]
    · rw [if_neg e]
      by_cases e2 : sHid V (V 5 k).toNat k k 0 n = true
      · rw [if_pos e2, if_neg (fun q => by rw [e2] at q; cases q.2), Int.add_zero]
      · have e3 : sHid V (V 5 k).toNat k k 0 n = false := by simpa using e2
        rw [if_neg e2, if_pos ⟨e, e3⟩, dOv_or _ t d _ ?_ 8, if_pos (by omega)]
        by_cases hb : (opB V n k).testBit (V 5 k).toNat = true
        · obtain ⟨p, hp, h2, h3⟩ := opB_bit _ k hb
          have hs2 := (h.2.2.2.2 p (by omega)).2.2.2
          have := hd p k (by omega) (by omega) (by omega) h2
          omega
        · simpa using hb
def xs (seed : Int) : Nat → Int
  | 0 => seed
  | i + 1 => (xs seed i * 1103515245 + 12345) % 2147483648
def ecS (G : Int → Int → Int) (seed : Int) : Nat → Int
  | 0 => 0
  | i + 1 => ecS G seed i + G (xs seed (i + 1) / 65536 % 8) (xs seed (i + 1) / 1048576 % 241)
theorem ecS_cg {G H : Int → Int → Int} (seed : Int) (h : ∀ t d, (0 ≤ t ∧ t ≤ 7) → (0 ≤ d ∧ d ≤ 240) → G t d = H t d) : ∀ i, ecS G seed i = ecS H seed i
  | 0 => rfl
  | i + 1 => by
    show ecS G seed i + G _ _ = ecS H seed i + H _ _
    rw [ecS_cg seed h i, h _ _ (by omega) (by omega)]
theorem xs_bd {seed : Int} (h : 0 ≤ seed ∧ seed ≤ 999999) : ∀ i, 0 ≤ xs seed i ∧ xs seed i ≤ 2147483647
  | 0 => by show 0 ≤ seed ∧ seed ≤ 2147483647; omega
  | i + 1 => by show 0 ≤ (xs seed i * 1103515245 + 12345) % 2147483648 ∧ (xs seed i * 1103515245 + 12345) % 2147483648 ≤ 2147483647; omega
theorem td_over (ζ : zSt) (t d t' d' : Int) : zU (zU (zU (zU ζ 52 2 t) 52 3 d) 52 2 t') 52 3 d' = zU (zU ζ 52 2 t') 52 3 d' := by
  refine Prod.ext (funext fun a => funext fun b => ?_) rfl
  show (if a = 52 ∧ b = 3 then d' else if a = 52 ∧ b = 2 then t' else if a = 52 ∧ b = 3 then d else if a = 52 ∧ b = 2 then t else ζ.1 a b) = if a = 52 ∧ b = 3 then d' else if a = 52 ∧ b = 2 then t' else ζ.1 a b
  by_cases h1 : a = 52 ∧ b = 3
  · rw [if_pos h1, if_pos h1]
  · by_cases h2 : a = 52 ∧ b = 2
    · rw [if_neg h1, if_pos h2, if_neg h1, if_pos h2]
    · rw [if_neg h1, if_neg h2, if_neg h1, if_neg h2, if_neg h1, if_neg h2]
theorem td_same (ζ : zSt) : zU (zU ζ 52 2 (ζ.1 52 2)) 52 3 (ζ.1 52 3) = ζ := by
  refine Prod.ext (funext fun a => funext fun b => ?_) rfl
  show (if a = 52 ∧ b = 3 then ζ.1 52 3 else if a = 52 ∧ b = 2 then ζ.1 52 2 else ζ.1 a b) = ζ.1 a b
  by_cases h1 : a = 52 ∧ b = 3
  · rw [if_pos h1, h1.1, h1.2]
  · by_cases h2 : a = 52 ∧ b = 2
    · rw [if_neg h1, if_pos h2, h2.1, h2.2]
    · rw [if_neg h1, if_neg h2]
theorem mV_T (ζ : zSt) (t d : Int) (a b : Nat) (ha : a < 6) (hb : a = 0 → True) : mV (zU (zU ζ 52 2 t) 52 3 d) a b = vT (mV ζ) t d a b := by
  match a, ha with
  | 0, _ => cases b <;> rfl
  | 1, _ => rfl
  | 2, _ => rfl
  | 3, _ => rfl
  | 4, _ => rfl
  | 5, _ => rfl
theorem vOk_T {V : Nat → Nat → Int} {n : Nat} (h : vOk V n) {t d : Int} (ht : 0 ≤ t ∧ t ≤ 7) (hd : 0 ≤ d ∧ d ≤ 240) : vOk (vT V t d) n := ⟨h.1, ht, hd, h.2.2.2.1, h.2.2.2.2⟩
theorem mOk_T {ζ : zSt} {n : Nat} (h : mOk ζ n) {t d : Int} (ht : 0 ≤ t ∧ t ≤ 7) (hd : 0 ≤ d ∧ d ≤ 240) : mOk (zU (zU ζ 52 2 t) 52 3 d) n := ⟨vOk_cg (fun a b ha => mV_T ζ t d a b ha (fun _ => trivial)) (vOk_T h.1 ht hd), h.2⟩
section Ecl
variable {l : Launch} {B : eB} {ζ : zSt}
set_option maxHeartbeats 4000000 in
theorem run_X2_openSeats {n : Nat} (hc : cOk ζ n) : zRun l B mX2_openSeats [.ref 1] ζ (some (zi (opB (cV ζ) n n))) ζ := by
  have hn3 := hc.2.1
  have hn := hc.1.1
  refine zrun_intro (M := mX2_openSeats) (ls := [some (.ref 1), none, none]) (by decide) rfl rfl rfl (Nat.le_of_ble_eq_true rfl) ?_
  intro X A C hX hA hr hk
  replace C : CX X B A mX2_openSeats.2.2.2.2 RX2 cX2_openSeats 3 0 0 := C
  have hr : (xMeth X).sig.returnType = (some .int) := hr
  change ZW X B A 3 0 0 _ _ 0 [some (.ref 1), none, none] []
  have loop : ∀ k p : Nat, p + k = n → ZW X B A 3 0 0 (eFin X B (some (zi (opB (cV ζ) n n))) (zz ζ)) ζ 4 [some (.ref 1), some (zi (opB (cV ζ) n p)), some (zi p)] [] := by
    intro k
    induction k with
    | zero =>
      intro p hpk
      have e : p = n := by omega
      subst e
      refine zw_iload_n (i := 2) (nx := 5) C dX2_openSeats_4 rfl rfl rfl ?_
      refine zw_aload_n (i := 0) (nx := 6) C dX2_openSeats_5 rfl rfl rfl ?_
      refine zw_geti (nx := 9) C dX2_openSeats_6 rfl flX2_22 iq2 rfl rfl rfl rfl ?_
      refine zw_icmp_ge (tgt := 54) (nx := 12) C dX2_openSeats_9 rfl rfl (by omega) (fun h9 => ?_) (fun h9 => by exfalso; omega)
      refine zw_iload_n (i := 1) (nx := 55) C dX2_openSeats_54 rfl rfl rfl ?_
      exact zw_iret C hA hr hk dX2_openSeats_55 rfl rfl
    | succ k ih =>
      intro p hpk
      have hs : -1 ≤ ζ.1 7 p ∧ ζ.1 7 p ≤ 7 := (hc.1.2.2.2.2 p (by omega)).2.2.2
      have skip : ¬ (ζ.1 7 p ≠ -1 ∧ sHid (cV ζ) (ζ.1 7 p).toNat p p 0 n = false) → ZW X B A 3 0 0 (eFin X B (some (zi (opB (cV ζ) n n))) (zz ζ)) ζ 48 [some (.ref 1), some (zi (opB (cV ζ) n p)), some (zi p)] [] := by
        intro hno
        have e : opB (cV ζ) n (p + 1) = opB (cV ζ) n p := if_neg hno
        rw [← e]
        refine zw_iinc2 (nx := 51) C dX2_openSeats_48 rfl (Nat.le_of_ble_eq_true rfl) rfl ?_
        refine zw_goto (nx := 4) C dX2_openSeats_51 rfl ?_
        exact ih (p + 1) (by omega)
      refine zw_iload_n (i := 2) (nx := 5) C dX2_openSeats_4 rfl rfl rfl ?_
      refine zw_aload_n (i := 0) (nx := 6) C dX2_openSeats_5 rfl rfl rfl ?_
      refine zw_geti (nx := 9) C dX2_openSeats_6 rfl flX2_22 iq2 rfl rfl rfl rfl ?_
      refine zw_icmp_ge (tgt := 54) (nx := 12) C dX2_openSeats_9 rfl rfl (by omega) (fun h9 => by exfalso; omega) (fun h9 => ?_)
      refine zw_aload_n (i := 0) (nx := 13) C dX2_openSeats_12 rfl rfl rfl ?_
      refine zw_getr (nx := 16) C dX2_openSeats_13 rfl flX2_37 iq2 rfl rfl rfl rfl ?_
      refine zw_iload_n (i := 2) (nx := 17) C dX2_openSeats_16 rfl rfl rfl ?_
      refine zw_iald (p) (nx := 18) C dX2_openSeats_17 rfl rfl rfl rfl (by omega) ?_
      refine zw_iconst (nx := 19) C dX2_openSeats_18 rfl ?_
      refine zw_icmp_eq (tgt := 48) (nx := 22) C dX2_openSeats_19 rfl rfl (by omega) (fun h19 => ?_) (fun h19 => ?_)
      · exact skip (fun q => q.1 h19)
      · obtain ⟨s, hs'⟩ := Int.eq_ofNat_of_zero_le (show 0 ≤ ζ.1 7 p by omega)
        have es : (ζ.1 7 p).toNat = s := by omega
        have hs8 : s < 8 := by omega
        refine zw_aload_n (i := 0) (nx := 23) C dX2_openSeats_22 rfl rfl rfl ?_
        refine zw_aload_n (i := 0) (nx := 24) C dX2_openSeats_23 rfl rfl rfl ?_
        refine zw_getr (nx := 27) C dX2_openSeats_24 rfl flX2_37 iq2 rfl rfl rfl rfl ?_
        refine zw_iload_n (i := 2) (nx := 28) C dX2_openSeats_27 rfl rfl rfl ?_
        refine zw_iald (p) (nx := 29) C dX2_openSeats_28 rfl rfl rfl rfl (by omega) ?_
        refine zw_iload_n (i := 2) (nx := 30) C dX2_openSeats_29 rfl rfl rfl ?_
        refine zw_iload_n (i := 2) (nx := 31) C dX2_openSeats_30 rfl rfl rfl ?_
        refine zw_cV31 (nx := 34) C dX2_openSeats_31 rfl cvX2_75 rfl rfl ⟨Nat.le_of_ble_eq_true rfl, Nat.le_of_ble_eq_true rfl⟩ rfl rfl (Nat.le_of_ble_eq_true rfl) (by rw [hs']; exact run_X2_isHidden hc (by omega) (by omega) (by omega)) ?_
        refine zw_ifb_ne (tgt := 48) (nx := 37) C dX2_openSeats_34 rfl rfl (fun h34 => ?_) (fun h34 => ?_)
        · exact skip (fun q => by have := q.2; rw [es, h34] at this; cases this)
        · have e : opB (cV ζ) n (p + 1) = opB (cV ζ) n p ||| 2 ^ s := by
            have : opB (cV ζ) n (p + 1) = opB (cV ζ) n p ||| 2 ^ (ζ.1 7 p).toNat := if_pos ⟨h19, by rw [show (cV ζ 5 p).toNat = s from es]; exact h34⟩
            rw [this, es]
          refine zw_iload_n (i := 1) (nx := 38) C dX2_openSeats_37 rfl rfl rfl ?_
          refine zw_iconst (nx := 39) C dX2_openSeats_38 rfl ?_
          refine zw_aload_n (i := 0) (nx := 40) C dX2_openSeats_39 rfl rfl rfl ?_
          refine zw_getr (nx := 43) C dX2_openSeats_40 rfl flX2_37 iq2 rfl rfl rfl rfl ?_
          refine zw_iload_n (i := 2) (nx := 44) C dX2_openSeats_43 rfl rfl rfl ?_
          refine zw_iald (p) (nx := 45) C dX2_openSeats_44 rfl rfl rfl rfl (by omega) ?_
          refine zw_ishl (c := ((2 ^ s : Nat) : Int)) (nx := 46) C dX2_openSeats_45 (by rw [hs']; exact shl_ok hs8) rfl ?_
          refine zw_ior (c := ((opB (cV ζ) n p ||| 2 ^ s : Nat) : Int)) (nx := 47) C dX2_openSeats_46 (by exact or_ok (opB_lt hc.1 p (by omega)) hs8) rfl ?_
          refine zw_ist1 (nx := 48) C (eIst_n dX2_openSeats_47 rfl rfl) (Nat.le_of_ble_eq_true rfl) rfl ?_
          rw [← e]
          refine zw_iinc2 (nx := 51) C dX2_openSeats_48 rfl (Nat.le_of_ble_eq_true rfl) rfl ?_
          refine zw_goto (nx := 4) C dX2_openSeats_51 rfl ?_
          exact ih (p + 1) (by omega)
  refine zw_iconst (nx := 1) C dX2_openSeats_0 rfl ?_
  refine zw_ist1 (nx := 2) C (eIst_n dX2_openSeats_1 rfl rfl) (Nat.le_of_ble_eq_true rfl) rfl ?_
  refine zw_iconst (nx := 3) C dX2_openSeats_2 rfl ?_
  refine zw_ist2 (nx := 4) C (eIst_n dX2_openSeats_3 rfl rfl) (Nat.le_of_ble_eq_true rfl) rfl ?_
  exact loop n 0 (by omega)
theorem run_X6_darkOver {a : Nat} {t d : Int} (ha : a < 256) (ht : 0 ≤ t ∧ t ≤ 7) (hd : 0 ≤ d ∧ d ≤ 240) : zRun l B mX6_darkOver [zi a, zi t, zi d] ζ (some (zi (dOv a t d 8))) ζ := by
  refine zrun_intro (M := mX6_darkOver) (ls := [some (zi a), some (zi t), some (zi d), none, none]) (by decide) rfl rfl rfl (Nat.le_of_ble_eq_true rfl) ?_
  intro X A C hX hA hr hk
  replace C : CX X B A mX6_darkOver.2.2.2.2 RX6 cX6_darkOver 5 0 0 := C
  have hr : (xMeth X).sig.returnType = (some .int) := hr
  change ZW X B A 5 0 0 _ _ 0 [some (zi a), some (zi t), some (zi d), none, none] []
  have loop : ∀ k y : Nat, y + k = 8 → ZW X B A 5 0 0 (eFin X B (some (zi (dOv a t d 8))) (zz ζ)) ζ 5 [some (zi a), some (zi t), some (zi d), some (zi (dOv a t d y)), some (zi y)] [] := by
    intro k
    induction k with
    | zero =>
      intro y hy
      have e : y = 8 := by omega
      subst e
      refine zw_iload (nx := 7) C dX6_darkOver_5 rfl rfl ?_
      refine zw_bipush (v := 8) (nx := 9) C dX6_darkOver_7 (by decide) rfl ?_
      refine zw_icmp_ge (tgt := 38) (nx := 12) C dX6_darkOver_9 rfl rfl (by omega) (fun h9 => ?_) (fun h9 => by exfalso; omega)
      refine zw_iload_n (i := 3) (nx := 39) C dX6_darkOver_38 rfl rfl rfl ?_
      exact zw_iret C hA hr hk dX6_darkOver_39 rfl rfl
    | succ k ih =>
      intro y hy
      have hm : (a >>> y) % 2 < 2 := Nat.mod_lt _ (by decide)
      refine zw_iload (nx := 7) C dX6_darkOver_5 rfl rfl ?_
      refine zw_bipush (v := 8) (nx := 9) C dX6_darkOver_7 (by decide) rfl ?_
      refine zw_icmp_ge (tgt := 38) (nx := 12) C dX6_darkOver_9 rfl rfl (by omega) (fun h9 => by exfalso; omega) (fun h9 => ?_)
      refine zw_iload_n (i := 0) (nx := 13) C dX6_darkOver_12 rfl rfl rfl ?_
      refine zw_iload (nx := 15) C dX6_darkOver_13 rfl rfl ?_
      refine zw_ishr (c := ((a >>> y : Nat) : Int)) (nx := 16) C dX6_darkOver_15 (by exact shr_ok ha (by omega)) rfl ?_
      refine zw_iconst (nx := 17) C dX6_darkOver_16 rfl ?_
      refine zw_iand (c := ((a >>> y % 2 : Nat) : Int)) (nx := 18) C dX6_darkOver_17 (by exact and_ok (shr_lt ha)) rfl ?_
      refine zw_iconst (nx := 19) C dX6_darkOver_18 rfl ?_
      refine zw_icmp_ne (tgt := 32) (nx := 22) C dX6_darkOver_19 rfl rfl (by omega) (fun h19 => ?_) (fun h19 => ?_)
      · have e : dOv a t d (y + 1) = dOv a t d y := if_neg (fun q => by rw [bit_iff] at q; omega)
        rw [← e]
        refine zw_iinc4 (nx := 35) C dX6_darkOver_32 rfl (Nat.le_of_ble_eq_true rfl) rfl ?_
        refine zw_goto (nx := 5) C dX6_darkOver_35 rfl ?_
        exact ih (y + 1) (by omega)
      · have e : dOv a t d (y + 1) = dOv a t d y + sDkF t d y := if_pos (by rw [bit_iff]; omega)
        refine zw_iload_n (i := 3) (nx := 23) C dX6_darkOver_22 rfl rfl rfl ?_
        refine zw_iload_n (i := 1) (nx := 24) C dX6_darkOver_23 rfl rfl rfl ?_
        refine zw_iload_n (i := 2) (nx := 25) C dX6_darkOver_24 rfl rfl rfl ?_
        refine zw_iload (nx := 27) C dX6_darkOver_25 rfl rfl ?_
        refine zw_cS31 (nx := 30) C dX6_darkOver_27 rfl csX6_261 ⟨Nat.le_of_ble_eq_true rfl, Nat.le_of_ble_eq_true rfl⟩ (Nat.le_of_ble_eq_true rfl) (run_X6_darkFrom ht hd (by omega)) ?_
        refine zw_iadd (nx := 31) C dX6_darkOver_30 rfl ?_
        refine zw_ist3 (nx := 32) C (eIst_n dX6_darkOver_31 rfl rfl) (Nat.le_of_ble_eq_true rfl) rfl ?_
        rw [← e]
        refine zw_iinc4 (nx := 35) C dX6_darkOver_32 rfl (Nat.le_of_ble_eq_true rfl) rfl ?_
        refine zw_goto (nx := 5) C dX6_darkOver_35 rfl ?_
        exact ih (y + 1) (by omega)
  refine zw_iconst (nx := 1) C dX6_darkOver_0 rfl ?_
  refine zw_ist3 (nx := 2) C (eIst_n dX6_darkOver_1 rfl rfl) (Nat.le_of_ble_eq_true rfl) rfl ?_
  refine zw_iconst (nx := 3) C dX6_darkOver_2 rfl ?_
  refine zw_ist4 (nx := 5) C (eIst_w dX6_darkOver_3 rfl) (Nat.le_of_ble_eq_true rfl) rfl ?_
  exact loop 8 0 (by omega)
theorem run_X6_eclipses_bad {u w : Int} (hu : -2147483648 ≤ u ∧ u ≤ 2147483647) (hw : -2147483648 ≤ w ∧ w ≤ 2147483647) (h : ¬ ((0 ≤ u ∧ u ≤ 999999) ∧ (0 ≤ w ∧ w ≤ 60))) : zRun l B mX6_eclipses [.ref 0, zi u, zi w] ζ (some (zi (-2))) (bdS ζ) := by
  refine zrun_intro (M := mX6_eclipses) (ls := [some (.ref 0), some (zi u), some (zi w), none, none, none, none, none, none, none]) (by decide) rfl rfl rfl (Nat.le_of_ble_eq_true rfl) ?_
  intro X A C hX hA hr hk
  replace C : CX X B A mX6_eclipses.2.2.2.2 RX6 cX6_eclipses 10 0 0 := C
  have hr : (xMeth X).sig.returnType = (some .int) := hr
  change ZW X B A 10 0 0 _ _ 0 [some (.ref 0), some (zi u), some (zi w), none, none, none, none, none, none, none] []
  by_cases h1 : 0 ≤ u ∧ u ≤ 999999
  · refine zw_iload_n (i := 1) (nx := 1) C dX6_eclipses_0 rfl rfl rfl ?_
    refine zw_ldc (v := 999999) (nx := 3) C dX6_eclipses_1 kiX6_221 (by decide) rfl ?_
    refine zw_cS21 (nx := 6) C dX6_eclipses_3 rfl csX6_95 ⟨Nat.le_of_ble_eq_true rfl, Nat.le_of_ble_eq_true rfl⟩ (Nat.le_of_ble_eq_true rfl) (run_X6_within_t (by omega) h1) ?_
    refine zw_if_eq (tgt := 18) (nx := 9) C dX6_eclipses_6 rfl rfl (by omega) (fun h6 => by exfalso; omega) (fun h6 => ?_)
    refine zw_iload_n (i := 2) (nx := 10) C dX6_eclipses_9 rfl rfl rfl ?_
    refine zw_bipush (v := 60) (nx := 12) C dX6_eclipses_10 (by decide) rfl ?_
    refine zw_cS21 (nx := 15) C dX6_eclipses_12 rfl csX6_95 ⟨Nat.le_of_ble_eq_true rfl, Nat.le_of_ble_eq_true rfl⟩ (Nat.le_of_ble_eq_true rfl) (run_X6_within_f hw (by omega) (fun q => h ⟨h1, q⟩)) ?_
    refine zw_if_ne (tgt := 25) (nx := 18) C dX6_eclipses_15 rfl rfl (by omega) (fun h15 => by exfalso; omega) (fun h15 => ?_)
    refine zw_aload_n (i := 0) (nx := 19) C dX6_eclipses_18 rfl rfl rfl ?_
    refine zw_bipush (v := -2) (nx := 21) C dX6_eclipses_19 (by decide) rfl ?_
    refine zw_cV11 (nx := 24) C dX6_eclipses_21 rfl cvX6_71 rfl rfl ⟨Nat.le_of_ble_eq_true rfl, Nat.le_of_ble_eq_true rfl⟩ rfl rfl (Nat.le_of_ble_eq_true rfl) run_X6_bad ?_
    exact zw_iret C hA hr hk dX6_eclipses_24 rfl rfl
  · refine zw_iload_n (i := 1) (nx := 1) C dX6_eclipses_0 rfl rfl rfl ?_
    refine zw_ldc (v := 999999) (nx := 3) C dX6_eclipses_1 kiX6_221 (by decide) rfl ?_
    refine zw_cS21 (nx := 6) C dX6_eclipses_3 rfl csX6_95 ⟨Nat.le_of_ble_eq_true rfl, Nat.le_of_ble_eq_true rfl⟩ (Nat.le_of_ble_eq_true rfl) (run_X6_within_f hu (by omega) h1) ?_
    refine zw_if_eq (tgt := 18) (nx := 9) C dX6_eclipses_6 rfl rfl (by omega) (fun h6 => ?_) (fun h6 => by exfalso; omega)
    refine zw_aload_n (i := 0) (nx := 19) C dX6_eclipses_18 rfl rfl rfl ?_
    refine zw_bipush (v := -2) (nx := 21) C dX6_eclipses_19 (by decide) rfl ?_
    refine zw_cV11 (nx := 24) C dX6_eclipses_21 rfl cvX6_71 rfl rfl ⟨Nat.le_of_ble_eq_true rfl, Nat.le_of_ble_eq_true rfl⟩ rfl rfl (Nat.le_of_ble_eq_true rfl) run_X6_bad ?_
    exact zw_iret C hA hr hk dX6_eclipses_24 rfl rfl
set_option maxHeartbeats 4000000 in
theorem run_X6_eclipses_ok {n w : Nat} {u : Int} (hc : cOk ζ n) (hu : 0 ≤ u ∧ u ≤ 999999) (hw : w ≤ 60) : zRun l B mX6_eclipses [.ref 0, zi u, zi w] ζ (some (zi (ecS (fun t d => dOv (opB (cV ζ) n n) t d 8) u w))) ζ := by
  refine zrun_intro (M := mX6_eclipses) (ls := [some (.ref 0), some (zi u), some (zi w), none, none, none, none, none, none, none]) (by decide) rfl rfl rfl (Nat.le_of_ble_eq_true rfl) ?_
  intro X A C hX hA hr hk
  replace C : CX X B A mX6_eclipses.2.2.2.2 RX6 cX6_eclipses 10 0 0 := C
  have hr : (xMeth X).sig.returnType = (some .int) := hr
  change ZW X B A 10 0 0 _ _ 0 [some (.ref 0), some (zi u), some (zi w), none, none, none, none, none, none, none] []
  have loop : ∀ k i : Nat, i + k = w → ∀ o8 o9 : Option Value, ZW X B A 10 0 0 (eFin X B (some (zi (ecS (fun t d => dOv (opB (cV ζ) n n) t d 8) u w))) (zz ζ)) ζ 43 [some (.ref 0), some (zi u), some (zi w), some (zi (opB (cV ζ) n n)), some (zl (xs u i)), none, some (zi (ecS (fun t d => dOv (opB (cV ζ) n n) t d 8) u i)), some (zi i), o8, o9] [] := by
    intro k
    induction k with
    | zero =>
      intro i hik o8 o9
      have e : i = w := by omega
      subst e
      refine zw_iload (nx := 45) C dX6_eclipses_43 rfl rfl ?_
      refine zw_iload_n (i := 2) (nx := 46) C dX6_eclipses_45 rfl rfl rfl ?_
      refine zw_icmp_ge (tgt := 110) (nx := 49) C dX6_eclipses_46 rfl rfl (by omega) (fun h46 => ?_) (fun h46 => by exfalso; omega)
      refine zw_iload (nx := 112) C dX6_eclipses_110 rfl rfl ?_
      exact zw_iret C hA hr hk dX6_eclipses_112 rfl rfl
    | succ k ih =>
      intro i hik o8 o9
      have hx := xs_bd hu i
      refine zw_iload (nx := 45) C dX6_eclipses_43 rfl rfl ?_
      refine zw_iload_n (i := 2) (nx := 46) C dX6_eclipses_45 rfl rfl rfl ?_
      refine zw_icmp_ge (tgt := 110) (nx := 49) C dX6_eclipses_46 rfl rfl (by omega) (fun h46 => by exfalso; omega) (fun h46 => ?_)
      refine zw_lload (nx := 51) C dX6_eclipses_49 rfl rfl ?_
      refine zw_ldc2 (v := 1103515245) (nx := 54) C dX6_eclipses_51 klX6_225 (by decide) rfl ?_
      refine zw_lmul (nx := 55) C dX6_eclipses_54 rfl ?_
      refine zw_ldc2 (v := 12345) (nx := 58) C dX6_eclipses_55 klX6_227 (by decide) rfl ?_
      refine zw_ladd (nx := 59) C dX6_eclipses_58 rfl ?_
      refine zw_ldc2 (v := 2147483648) (nx := 62) C dX6_eclipses_59 klX6_229 (by decide) rfl ?_
      refine zw_lrem (nx := 63) C dX6_eclipses_62 (by omega) rfl ?_
      rw [show (xs u i * 1103515245 + 12345) % 2147483648 = xs u (i + 1) from rfl]
      have hx := xs_bd hu (i + 1)
      refine zw_lst4 (nx := 65) C (eLst_w dX6_eclipses_63 rfl) (Nat.le_of_ble_eq_true rfl) rfl ?_
      refine zw_lload (nx := 67) C dX6_eclipses_65 rfl rfl ?_
      refine zw_ldc2 (v := 65536) (nx := 70) C dX6_eclipses_67 klX6_231 (by decide) rfl ?_
      refine zw_ldiv (nx := 71) C dX6_eclipses_70 (by omega) rfl ?_
      refine zw_ldc2 (v := 8) (nx := 74) C dX6_eclipses_71 klX6_233 (by decide) rfl ?_
      refine zw_lrem (nx := 75) C dX6_eclipses_74 (by omega) rfl ?_
      refine zw_l2i (nx := 76) C dX6_eclipses_75 (by omega) rfl ?_
      refine zw_ist8 (nx := 78) C (eIst_w dX6_eclipses_76 rfl) (Nat.le_of_ble_eq_true rfl) rfl ?_
      refine zw_lload (nx := 80) C dX6_eclipses_78 rfl rfl ?_
      refine zw_ldc2 (v := 1048576) (nx := 83) C dX6_eclipses_80 klX6_235 (by decide) rfl ?_
      refine zw_ldiv (nx := 84) C dX6_eclipses_83 (by omega) rfl ?_
      refine zw_ldc2 (v := 241) (nx := 87) C dX6_eclipses_84 klX6_237 (by decide) rfl ?_
      refine zw_lrem (nx := 88) C dX6_eclipses_87 (by omega) rfl ?_
      refine zw_l2i (nx := 89) C dX6_eclipses_88 (by omega) rfl ?_
      refine zw_ist9 (nx := 91) C (eIst_w dX6_eclipses_89 rfl) (Nat.le_of_ble_eq_true rfl) rfl ?_
      refine zw_iload (nx := 93) C dX6_eclipses_91 rfl rfl ?_
      refine zw_iload_n (i := 3) (nx := 94) C dX6_eclipses_93 rfl rfl rfl ?_
      refine zw_iload (nx := 96) C dX6_eclipses_94 rfl rfl ?_
      refine zw_iload (nx := 98) C dX6_eclipses_96 rfl rfl ?_
      refine zw_cS31 (nx := 101) C dX6_eclipses_98 rfl csX6_239 ⟨Nat.le_of_ble_eq_true rfl, Nat.le_of_ble_eq_true rfl⟩ (Nat.le_of_ble_eq_true rfl) (run_X6_darkOver (opB_lt hc.1 n (Nat.le_refl n)) (by omega) (by omega)) ?_
      refine zw_iadd (nx := 102) C dX6_eclipses_101 rfl ?_
      refine zw_ist6 (nx := 104) C (eIst_w dX6_eclipses_102 rfl) (Nat.le_of_ble_eq_true rfl) rfl ?_
      refine zw_iinc7 (nx := 107) C dX6_eclipses_104 rfl (Nat.le_of_ble_eq_true rfl) rfl ?_
      refine zw_goto (nx := 43) C dX6_eclipses_107 rfl ?_
      exact ih (i + 1) (by omega) _ _
  refine zw_iload_n (i := 1) (nx := 1) C dX6_eclipses_0 rfl rfl rfl ?_
  refine zw_ldc (v := 999999) (nx := 3) C dX6_eclipses_1 kiX6_221 (by decide) rfl ?_
  refine zw_cS21 (nx := 6) C dX6_eclipses_3 rfl csX6_95 ⟨Nat.le_of_ble_eq_true rfl, Nat.le_of_ble_eq_true rfl⟩ (Nat.le_of_ble_eq_true rfl) (run_X6_within_t (by omega) hu) ?_
  refine zw_if_eq (tgt := 18) (nx := 9) C dX6_eclipses_6 rfl rfl (by omega) (fun h6 => by exfalso; omega) (fun h6 => ?_)
  refine zw_iload_n (i := 2) (nx := 10) C dX6_eclipses_9 rfl rfl rfl ?_
  refine zw_bipush (v := 60) (nx := 12) C dX6_eclipses_10 (by decide) rfl ?_
  refine zw_cS21 (nx := 15) C dX6_eclipses_12 rfl csX6_95 ⟨Nat.le_of_ble_eq_true rfl, Nat.le_of_ble_eq_true rfl⟩ (Nat.le_of_ble_eq_true rfl) (run_X6_within_t (by omega) (by omega)) ?_
  refine zw_if_ne (tgt := 25) (nx := 18) C dX6_eclipses_15 rfl rfl (by omega) (fun h15 => ?_) (fun h15 => by exfalso; omega)
  refine zw_aload_n (i := 0) (nx := 26) C dX6_eclipses_25 rfl rfl rfl ?_
  refine zw_getr (nx := 29) C dX6_eclipses_26 rfl flX6_12 iq5 rfl rfl rfl rfl ?_
  refine zw_cV01 (nx := 32) C dX6_eclipses_29 rfl cvX6_222 rfl rfl ⟨Nat.le_of_ble_eq_true rfl, Nat.le_of_ble_eq_true rfl⟩ rfl rfl (Nat.le_of_ble_eq_true rfl) (run_X2_openSeats hc) ?_
  refine zw_ist3 (nx := 33) C (eIst_n dX6_eclipses_32 rfl rfl) (Nat.le_of_ble_eq_true rfl) rfl ?_
  refine zw_iload_n (i := 1) (nx := 34) C dX6_eclipses_33 rfl rfl rfl ?_
  refine zw_i2l (nx := 35) C dX6_eclipses_34 (by omega) rfl ?_
  refine zw_lst4 (nx := 37) C (eLst_w dX6_eclipses_35 rfl) (Nat.le_of_ble_eq_true rfl) rfl ?_
  refine zw_iconst (nx := 38) C dX6_eclipses_37 rfl ?_
  refine zw_ist6 (nx := 40) C (eIst_w dX6_eclipses_38 rfl) (Nat.le_of_ble_eq_true rfl) rfl ?_
  refine zw_iconst (nx := 41) C dX6_eclipses_40 rfl ?_
  refine zw_ist7 (nx := 43) C (eIst_w dX6_eclipses_41 rfl) (Nat.le_of_ble_eq_true rfl) rfl ?_
  exact loop w 0 (by omega) _ _
theorem run_X7_eclipses_bad {u w : Int} (hu : -2147483648 ≤ u ∧ u ≤ 2147483647) (hw : -2147483648 ≤ w ∧ w ≤ 2147483647) (h : ¬ ((0 ≤ u ∧ u ≤ 999999) ∧ (0 ≤ w ∧ w ≤ 60))) : zRun l B mX7_eclipses [.ref 52, zi u, zi w] ζ (some (zi (-2))) (mBd ζ) := by
  refine zrun_intro (M := mX7_eclipses) (ls := [some (.ref 52), some (zi u), some (zi w), none, none, none, none, none, none]) (by decide) rfl rfl rfl (Nat.le_of_ble_eq_true rfl) ?_
  intro X A C hX hA hr hk
  replace C : CX X B A mX7_eclipses.2.2.2.2 RX7 cX7_eclipses 9 0 0 := C
  have hr : (xMeth X).sig.returnType = (some .int) := hr
  change ZW X B A 9 0 0 _ _ 0 [some (.ref 52), some (zi u), some (zi w), none, none, none, none, none, none] []
  by_cases h1 : 0 ≤ u ∧ u ≤ 999999
  · refine zw_iload_n (i := 1) (nx := 1) C dX7_eclipses_0 rfl rfl rfl ?_
    refine zw_iconst (nx := 2) C dX7_eclipses_1 rfl ?_
    refine zw_ldcw (v := 999999) (nx := 5) C dX7_eclipses_2 kiX7_277 (by decide) rfl ?_
    refine zw_cS31 (nx := 8) C dX7_eclipses_5 rfl csX7_88 ⟨Nat.le_of_ble_eq_true rfl, Nat.le_of_ble_eq_true rfl⟩ (Nat.le_of_ble_eq_true rfl) (run_X7_in_t hu (by omega) h1) ?_
    refine zw_if_eq (tgt := 21) (nx := 11) C dX7_eclipses_8 rfl rfl (by omega) (fun h8 => by exfalso; omega) (fun h8 => ?_)
    refine zw_iload_n (i := 2) (nx := 12) C dX7_eclipses_11 rfl rfl rfl ?_
    refine zw_iconst (nx := 13) C dX7_eclipses_12 rfl ?_
    refine zw_bipush (v := 60) (nx := 15) C dX7_eclipses_13 (by decide) rfl ?_
    refine zw_cS31 (nx := 18) C dX7_eclipses_15 rfl csX7_88 ⟨Nat.le_of_ble_eq_true rfl, Nat.le_of_ble_eq_true rfl⟩ (Nat.le_of_ble_eq_true rfl) (run_X7_in_f hw (by omega) (fun q => h ⟨h1, q⟩)) ?_
    refine zw_if_ne (tgt := 26) (nx := 21) C dX7_eclipses_18 rfl rfl (by omega) (fun h18 => by exfalso; omega) (fun h18 => ?_)
    refine zw_aload_n (i := 0) (nx := 22) C dX7_eclipses_21 rfl rfl rfl ?_
    refine zw_cV01 (nx := 25) C dX7_eclipses_22 rfl cvX7_96 rfl rfl ⟨Nat.le_of_ble_eq_true rfl, Nat.le_of_ble_eq_true rfl⟩ rfl rfl (Nat.le_of_ble_eq_true rfl) run_X7_bad ?_
    exact zw_iret C hA hr hk dX7_eclipses_25 rfl rfl
  · refine zw_iload_n (i := 1) (nx := 1) C dX7_eclipses_0 rfl rfl rfl ?_
    refine zw_iconst (nx := 2) C dX7_eclipses_1 rfl ?_
    refine zw_ldcw (v := 999999) (nx := 5) C dX7_eclipses_2 kiX7_277 (by decide) rfl ?_
    refine zw_cS31 (nx := 8) C dX7_eclipses_5 rfl csX7_88 ⟨Nat.le_of_ble_eq_true rfl, Nat.le_of_ble_eq_true rfl⟩ (Nat.le_of_ble_eq_true rfl) (run_X7_in_f hu (by omega) h1) ?_
    refine zw_if_eq (tgt := 21) (nx := 11) C dX7_eclipses_8 rfl rfl (by omega) (fun h8 => ?_) (fun h8 => by exfalso; omega)
    refine zw_aload_n (i := 0) (nx := 22) C dX7_eclipses_21 rfl rfl rfl ?_
    refine zw_cV01 (nx := 25) C dX7_eclipses_22 rfl cvX7_96 rfl rfl ⟨Nat.le_of_ble_eq_true rfl, Nat.le_of_ble_eq_true rfl⟩ rfl rfl (Nat.le_of_ble_eq_true rfl) run_X7_bad ?_
    exact zw_iret C hA hr hk dX7_eclipses_25 rfl rfl
set_option maxHeartbeats 4000000 in
theorem run_X7_eclipses_ok {n w : Nat} {u : Int} (hc : mOk ζ n) (hu : 0 ≤ u ∧ u ≤ 999999) (hw : w ≤ 60) : zRun l B mX7_eclipses [.ref 52, zi u, zi w] ζ (some (zi (ecS (fun t d => sSum (sOth (mV (zU (zU ζ 52 2 t) 52 3 d)) n (-1)) n) u w))) ζ := by
  refine zrun_intro (M := mX7_eclipses) (ls := [some (.ref 52), some (zi u), some (zi w), none, none, none, none, none, none]) (by decide) rfl rfl rfl (Nat.le_of_ble_eq_true rfl) ?_
  intro X A C hX hA hr hk
  replace C : CX X B A mX7_eclipses.2.2.2.2 RX7 cX7_eclipses 9 0 0 := C
  have hr : (xMeth X).sig.returnType = (some .int) := hr
  change ZW X B A 9 0 0 _ _ 0 [some (.ref 52), some (zi u), some (zi w), none, none, none, none, none, none] []
  have loop : ∀ k i : Nat, i + k = w → ∀ t d : Int, ZW X B A 9 0 0 (eFin X B (some (zi (ecS (fun t d => sSum (sOth (mV (zU (zU ζ 52 2 t) 52 3 d)) n (-1)) n) u w))) (zz ζ)) (zU (zU ζ 52 2 t) 52 3 d) 47 [some (.ref 52), some (zi u), some (zi w), some (zi (ζ.1 52 2)), some (zi (ζ.1 52 3)), some (zl (xs u i)), none, some (zi (ecS (fun t d => sSum (sOth (mV (zU (zU ζ 52 2 t) 52 3 d)) n (-1)) n) u i)), some (zi i)] [] := by
    intro k
    induction k with
    | zero =>
      intro i hik t d
      have e : i = w := by omega
      subst e
      refine zw_iload (nx := 49) C dX7_eclipses_47 rfl rfl ?_
      refine zw_iload_n (i := 2) (nx := 50) C dX7_eclipses_49 rfl rfl rfl ?_
      refine zw_icmp_ge (tgt := 115) (nx := 53) C dX7_eclipses_50 rfl rfl (by omega) (fun h50 => ?_) (fun h50 => by exfalso; omega)
      refine zw_aload_n (i := 0) (nx := 116) C dX7_eclipses_115 rfl rfl rfl ?_
      refine zw_iload_n (i := 3) (nx := 117) C dX7_eclipses_116 rfl rfl rfl ?_
      refine zw_puti (nx := 120) C dX7_eclipses_117 rfl flX7_13 ic6 nf6_2 rfl rfl rfl rfl rfl ?_
      refine zw_aload_n (i := 0) (nx := 121) C dX7_eclipses_120 rfl rfl rfl ?_
      refine zw_iload (nx := 123) C dX7_eclipses_121 rfl rfl ?_
      refine zw_puti (nx := 126) C dX7_eclipses_123 rfl flX7_17 ic6 nf6_3 rfl rfl rfl rfl rfl ?_
      refine zw_iload (nx := 128) C dX7_eclipses_126 rfl rfl ?_
      exact zw_iret C hA hr hk dX7_eclipses_128 rfl (by rw [td_over, td_same])
    | succ k ih =>
      intro i hik t d
      have hx := xs_bd hu i
      refine zw_iload (nx := 49) C dX7_eclipses_47 rfl rfl ?_
      refine zw_iload_n (i := 2) (nx := 50) C dX7_eclipses_49 rfl rfl rfl ?_
      refine zw_icmp_ge (tgt := 115) (nx := 53) C dX7_eclipses_50 rfl rfl (by omega) (fun h50 => by exfalso; omega) (fun h50 => ?_)
      refine zw_lload (nx := 55) C dX7_eclipses_53 rfl rfl ?_
      refine zw_ldc2 (v := 1103515245) (nx := 58) C dX7_eclipses_55 klX7_278 (by decide) rfl ?_
      refine zw_lmul (nx := 59) C dX7_eclipses_58 rfl ?_
      refine zw_ldc2 (v := 12345) (nx := 62) C dX7_eclipses_59 klX7_280 (by decide) rfl ?_
      refine zw_ladd (nx := 63) C dX7_eclipses_62 rfl ?_
      refine zw_ldc2 (v := 2147483648) (nx := 66) C dX7_eclipses_63 klX7_282 (by decide) rfl ?_
      refine zw_lrem (nx := 67) C dX7_eclipses_66 (by omega) rfl ?_
      rw [show (xs u i * 1103515245 + 12345) % 2147483648 = xs u (i + 1) from rfl]
      have hx := xs_bd hu (i + 1)
      refine zw_lst5 (nx := 69) C (eLst_w dX7_eclipses_67 rfl) (Nat.le_of_ble_eq_true rfl) rfl ?_
      refine zw_aload_n (i := 0) (nx := 70) C dX7_eclipses_69 rfl rfl rfl ?_
      refine zw_lload (nx := 72) C dX7_eclipses_70 rfl rfl ?_
      refine zw_ldc2 (v := 65536) (nx := 75) C dX7_eclipses_72 klX7_284 (by decide) rfl ?_
      refine zw_ldiv (nx := 76) C dX7_eclipses_75 (by omega) rfl ?_
      refine zw_ldc2 (v := 8) (nx := 79) C dX7_eclipses_76 klX7_286 (by decide) rfl ?_
      refine zw_lrem (nx := 80) C dX7_eclipses_79 (by omega) rfl ?_
      refine zw_l2i (nx := 81) C dX7_eclipses_80 (by omega) rfl ?_
      refine zw_puti (nx := 84) C dX7_eclipses_81 rfl flX7_13 ic6 nf6_2 rfl rfl rfl rfl rfl ?_
      refine zw_aload_n (i := 0) (nx := 85) C dX7_eclipses_84 rfl rfl rfl ?_
      refine zw_lload (nx := 87) C dX7_eclipses_85 rfl rfl ?_
      refine zw_ldc2 (v := 1048576) (nx := 90) C dX7_eclipses_87 klX7_288 (by decide) rfl ?_
      refine zw_ldiv (nx := 91) C dX7_eclipses_90 (by omega) rfl ?_
      refine zw_ldc2 (v := 241) (nx := 94) C dX7_eclipses_91 klX7_290 (by decide) rfl ?_
      refine zw_lrem (nx := 95) C dX7_eclipses_94 (by omega) rfl ?_
      refine zw_l2i (nx := 96) C dX7_eclipses_95 (by omega) rfl ?_
      refine zw_puti (nx := 99) C dX7_eclipses_96 rfl flX7_17 ic6 nf6_3 rfl rfl rfl rfl rfl ?_
      rw [td_over]
      refine zw_iload (nx := 101) C dX7_eclipses_99 rfl rfl ?_
      refine zw_aload_n (i := 0) (nx := 102) C dX7_eclipses_101 rfl rfl rfl ?_
      refine zw_iconst (nx := 103) C dX7_eclipses_102 rfl ?_
      refine zw_cV11 (nx := 106) C dX7_eclipses_103 rfl cvX7_242 rfl rfl ⟨Nat.le_of_ble_eq_true rfl, Nat.le_of_ble_eq_true rfl⟩ rfl rfl (Nat.le_of_ble_eq_true rfl) (run_X7_othersSee (mOk_T hc (by omega) (by omega)) (by omega)) ?_
      refine zw_iadd (nx := 107) C dX7_eclipses_106 rfl ?_
      refine zw_ist7 (nx := 109) C (eIst_w dX7_eclipses_107 rfl) (Nat.le_of_ble_eq_true rfl) rfl ?_
      refine zw_iinc8 (nx := 112) C dX7_eclipses_109 rfl (Nat.le_of_ble_eq_true rfl) rfl ?_
      refine zw_goto (nx := 47) C dX7_eclipses_112 rfl ?_
      exact ih (i + 1) (by omega) _ _
  refine zw_iload_n (i := 1) (nx := 1) C dX7_eclipses_0 rfl rfl rfl ?_
  refine zw_iconst (nx := 2) C dX7_eclipses_1 rfl ?_
  refine zw_ldcw (v := 999999) (nx := 5) C dX7_eclipses_2 kiX7_277 (by decide) rfl ?_
  refine zw_cS31 (nx := 8) C dX7_eclipses_5 rfl csX7_88 ⟨Nat.le_of_ble_eq_true rfl, Nat.le_of_ble_eq_true rfl⟩ (Nat.le_of_ble_eq_true rfl) (run_X7_in_t (by omega) (by omega) hu) ?_
  refine zw_if_eq (tgt := 21) (nx := 11) C dX7_eclipses_8 rfl rfl (by omega) (fun h8 => by exfalso; omega) (fun h8 => ?_)
  refine zw_iload_n (i := 2) (nx := 12) C dX7_eclipses_11 rfl rfl rfl ?_
  refine zw_iconst (nx := 13) C dX7_eclipses_12 rfl ?_
  refine zw_bipush (v := 60) (nx := 15) C dX7_eclipses_13 (by decide) rfl ?_
  refine zw_cS31 (nx := 18) C dX7_eclipses_15 rfl csX7_88 ⟨Nat.le_of_ble_eq_true rfl, Nat.le_of_ble_eq_true rfl⟩ (Nat.le_of_ble_eq_true rfl) (run_X7_in_t (by omega) (by omega) (by omega)) ?_
  refine zw_if_ne (tgt := 26) (nx := 21) C dX7_eclipses_18 rfl rfl (by omega) (fun h18 => ?_) (fun h18 => by exfalso; omega)
  refine zw_aload_n (i := 0) (nx := 27) C dX7_eclipses_26 rfl rfl rfl ?_
  refine zw_geti (nx := 30) C dX7_eclipses_27 rfl flX7_13 iq6 rfl rfl rfl rfl ?_
  refine zw_ist3 (nx := 31) C (eIst_n dX7_eclipses_30 rfl rfl) (Nat.le_of_ble_eq_true rfl) rfl ?_
  refine zw_aload_n (i := 0) (nx := 32) C dX7_eclipses_31 rfl rfl rfl ?_
  refine zw_geti (nx := 35) C dX7_eclipses_32 rfl flX7_17 iq6 rfl rfl rfl rfl ?_
  refine zw_ist4 (nx := 37) C (eIst_w dX7_eclipses_35 rfl) (Nat.le_of_ble_eq_true rfl) rfl ?_
  refine zw_iload_n (i := 1) (nx := 38) C dX7_eclipses_37 rfl rfl rfl ?_
  refine zw_i2l (nx := 39) C dX7_eclipses_38 (by omega) rfl ?_
  refine zw_lst5 (nx := 41) C (eLst_w dX7_eclipses_39 rfl) (Nat.le_of_ble_eq_true rfl) rfl ?_
  refine zw_iconst (nx := 42) C dX7_eclipses_41 rfl ?_
  refine zw_ist7 (nx := 44) C (eIst_w dX7_eclipses_42 rfl) (Nat.le_of_ble_eq_true rfl) rfl ?_
  refine zw_iconst (nx := 45) C dX7_eclipses_44 rfl ?_
  refine zw_ist8 (nx := 47) C (eIst_w dX7_eclipses_45 rfl) (Nat.le_of_ble_eq_true rfl) rfl ?_
  have := loop w 0 (by omega) (ζ.1 52 2) (ζ.1 52 3)
  rw [td_same] at this
  exact this
theorem Agr.vT {V W : Nat → Nat → Int} {n : Nat} (h : Agr V W n) (t d : Int) : Agr (vT V t d) (vT W t d) n := ⟨⟨rfl, rfl⟩, h.2.1, h.2.2⟩
theorem sOth_cg {V W : Nat → Nat → Int} (h : ∀ a b, a < 6 → V a b = W a b) (n : Nat) (p : Int) (q : Nat) : sOth V n p q = sOth W n p q := by
  unfold sOth; rw [sNow_cg h]
theorem st_eclipses (hR : Rel ζ) {u w : Int} (hu : -2147483648 ≤ u ∧ u ≤ 2147483647) (hw : -2147483648 ≤ w ∧ w ≤ 2147483647) : eStep l B mX6_eclipses mX7_eclipses [zi u, zi w] ζ := by
  obtain ⟨n, c, s, hN⟩ := hR.1
  by_cases h : (0 ≤ u ∧ u ≤ 999999) ∧ (0 ≤ w ∧ w ≤ 60)
  · obtain ⟨h1, h2⟩ := h
    obtain ⟨k, rfl⟩ := Int.eq_ofNat_of_zero_le h2.1
    have rm := run_X7_eclipses_ok (l := l) (B := B) hN.mOk h1 (show k ≤ 60 by omega)
    rw [ecS_cg (H := fun t d => dOv (opB (cV ζ) n n) t d 8) u (fun t d ht hd => by
      show sSum (sOth (mV (zU (zU ζ 52 2 t) 52 3 d)) n (-1)) n = dOv (opB (cV ζ) n n) t d 8
      rw [sSum_congr n (fun q _ => sOth_cg (fun a b ha => mV_T ζ t d a b ha (fun _ => trivial)) n (-1) q), (hN.agr.vT t d).all (vOk_T hN.cOk.1 ht hd)]
      exact sum_open hN.cOk.1 hN.2.2.2.2.2.1.1.2 t d n (Nat.le_refl n)) k] at rm
    exact ⟨_, _, _, run_X6_eclipses_ok hN.cOk h1 (by omega), rm, hR⟩
  · exact ⟨_, _, _, run_X6_eclipses_bad hu hw h, run_X7_eclipses_bad hu hw h, rel_bad hR⟩
end Ecl
