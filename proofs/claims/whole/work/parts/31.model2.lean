/-! seats tried and taken back -/
def vS (V : Nat → Nat → Int) (p : Nat) (z : Int) (a b : Nat) : Int := if a = 5 ∧ b = p then z else V a b
theorem mV_S (ζ : zSt) (p : Nat) (z : Int) (a b : Nat) (ha : a < 6) : mV (zU ζ 58 p z) a b = vS (mV ζ) p z a b := by
  unfold vS
  match a, ha with
  | 0, _ => cases b <;> rfl
  | 1, _ => rfl
  | 2, _ => rfl
  | 3, _ => rfl
  | 4, _ => rfl
  | 5, _ =>
    show (if 58 = 58 ∧ b = p then z else ζ.1 58 b) = if 5 = 5 ∧ b = p then z else ζ.1 58 b
    by_cases h : b = p
    · rw [if_pos ⟨rfl, h⟩, if_pos ⟨rfl, h⟩]
    · rw [if_neg (fun q => h q.2), if_neg (fun q => h q.2)]
theorem sBl_congr {V W : Nat → Nat → Int} {q f y : Nat} (h1 : V 1 f = W 1 f) (h2 : V 1 y = W 1 y) (h3 : V 2 q = W 2 q) : sBl V q f y = sBl W q f y := by
  unfold sBl; rw [h1, h2, h3]
theorem sHid_iff (V : Nat → Nat → Int) (y a b : Nat) : ∀ k p, sHid V y a b p k = true ↔ ∃ q, p ≤ q ∧ q < p + k ∧ (q ≠ a ∧ q ≠ b ∧ V 5 q ≠ -1) ∧ sBl V q (V 5 q).toNat y = true
  | 0, p => by
    constructor
    · intro h; cases h
    · rintro ⟨q, h1, h2, -⟩; omega
  | k + 1, p => by
    unfold sHid
    by_cases h : (p ≠ a ∧ p ≠ b ∧ V 5 p ≠ -1) ∧ sBl V p (V 5 p).toNat y = true
    · rw [if_pos h]
      exact ⟨fun _ => ⟨p, Nat.le_refl p, by omega, h.1, h.2⟩, fun _ => rfl⟩
    · rw [if_neg h, sHid_iff V y a b k (p + 1)]
      constructor
      · rintro ⟨q, h1, h2, h3⟩
        exact ⟨q, by omega, by omega, h3⟩
      · rintro ⟨q, h1, h2, h3⟩
        rcases Nat.lt_or_ge p q with hq | hq
        · exact ⟨q, by omega, by omega, h3⟩
        · have : q = p := by omega
          subst this
          exact absurd h3 h
theorem bool_eq {a b : Bool} (h : a = true ↔ b = true) : a = b := by
  cases a <;> cases b <;> simp_all
/-- p's own seat is no matter where p is left out -/
theorem sHid_vS1 (V : Nat → Nat → Int) (y p : Nat) (z : Int) (q k : Nat) : sHid (vS V p z) y p p q k = sHid V y p p q k := by
  apply bool_eq
  rw [sHid_iff, sHid_iff]
  constructor
  · rintro ⟨j, h1, h2, h3, h4⟩
    have e : vS V p z 5 j = V 5 j := if_neg (fun w => h3.1 w.2)
    rw [e] at h3 h4
    exact ⟨j, h1, h2, h3, by rw [← h4]; exact sBl_congr rfl rfl rfl⟩
  · rintro ⟨j, h1, h2, h3, h4⟩
    have e : vS V p z 5 j = V 5 j := if_neg (fun w => h3.1 w.2)
    refine ⟨j, h1, h2, ?_, ?_⟩
    · rw [e]; exact h3
    · rw [e, ← h4]; exact sBl_congr rfl rfl rfl
theorem sHid_none (V : Nat → Nat → Int) (y q p n : Nat) : sHid (vS V p (-1)) y q q 0 n = sHid V y q p 0 n := by
  apply bool_eq
  rw [sHid_iff, sHid_iff]
  constructor
  · rintro ⟨j, h1, h2, h3, h4⟩
    have hj : j ≠ p := fun w => h3.2.2 (if_pos ⟨rfl, w⟩)
    have e : vS V p (-1) 5 j = V 5 j := if_neg (fun w => hj w.2)
    rw [e] at h3 h4
    exact ⟨j, h1, h2, ⟨h3.1, hj, h3.2.2⟩, by rw [← h4]; exact sBl_congr rfl rfl rfl⟩
  · rintro ⟨j, h1, h2, h3, h4⟩
    have e : vS V p (-1) 5 j = V 5 j := if_neg (fun w => h3.2.1 w.2)
    refine ⟨j, h1, h2, ?_, ?_⟩
    · rw [e]; exact ⟨h3.1, h3.1, h3.2.2⟩
    · rw [e, ← h4]; exact sBl_congr rfl rfl rfl
theorem sHid_some (V : Nat → Nat → Int) (y q p n z : Nat) (hp : p < n) (hq : q ≠ p) : sHid (vS V p z) y q q 0 n = (sHid V y q p 0 n || sBl V p z y) := by
  apply bool_eq
  rw [Bool.or_eq_true, sHid_iff, sHid_iff]
  constructor
  · rintro ⟨j, h1, h2, h3, h4⟩
    by_cases hj : j = p
    · subst hj
      right
      have e : vS V j z 5 j = (z : Int) := if_pos ⟨rfl, rfl⟩
      rw [e] at h4
      rw [← h4]; exact sBl_congr rfl rfl rfl
    · left
      have e : vS V p z 5 j = V 5 j := if_neg (fun w => hj w.2)
      rw [e] at h3 h4
      exact ⟨j, h1, h2, ⟨h3.1, hj, h3.2.2⟩, by rw [← h4]; exact sBl_congr rfl rfl rfl⟩
  · rintro (⟨j, h1, h2, h3, h4⟩ | h4)
    · have e : vS V p z 5 j = V 5 j := if_neg (fun w => h3.2.1 w.2)
      refine ⟨j, h1, h2, ?_, ?_⟩
      · rw [e]; exact ⟨h3.1, h3.1, h3.2.2⟩
      · rw [e, ← h4]; exact sBl_congr rfl rfl rfl
    · have e : vS V p z 5 p = (z : Int) := if_pos ⟨rfl, rfl⟩
      refine ⟨p, by omega, by omega, ?_, ?_⟩
      · rw [e]; exact ⟨fun w => hq w.symm, fun w => hq w.symm, by omega⟩
      · rw [e, ← h4]; exact sBl_congr rfl rfl rfl
theorem sNow_vS (V : Nat → Nat → Int) (n p z : Nat) : sNow (vS V p z) n p = sSeen V n p z := by
  have e : vS V p z 5 p = (z : Int) := if_pos ⟨rfl, rfl⟩
  unfold sNow
  rw [e, if_neg (by omega)]
  unfold sSeen
  rw [sHid_vS1]
  rfl
def sOth (V : Nat → Nat → Int) (n : Nat) (p : Int) (q : Nat) : Int := if (q : Int) = p then 0 else sNow V n q
theorem sHurt_eq (V : Nat → Nat → Int) (n p y q : Nat) (hp : p < n) (hv : -1 ≤ V 5 q) : sOth (vS V p (-1)) n p q - sOth (vS V p y) n p q = sHurt V n p y q := by
  unfold sOth sHurt
  by_cases hq : q = p
  · subst hq
    rw [if_pos rfl, if_pos rfl, if_neg (fun w => w.1.1.1 rfl)]; rfl
  · have hq2 : ¬ (q : Int) = p := by omega
    rw [if_neg hq2, if_neg hq2]
    unfold sNow
    have e1 : vS V p (-1) 5 q = V 5 q := if_neg (fun w => hq w.2)
    have e2 : vS V p y 5 q = V 5 q := if_neg (fun w => hq w.2)
    rw [e1, e2]
    by_cases hs : V 5 q = -1
    · rw [if_pos hs, if_pos hs, if_neg (fun w => w.1.1.2 hs)]; rfl
    · rw [if_neg hs, if_neg hs]
      unfold sSeen
      rw [sHid_none, sHid_some V _ q p n y hp hq]
      have d1 : sDk (vS V p (-1)) (V 5 q).toNat = sDk V (V 5 q).toNat := rfl
      have d2 : sDk (vS V p y) (V 5 q).toNat = sDk V (V 5 q).toNat := rfl
      have d3 : ((V 5 q).toNat : Int) = V 5 q := by omega
      rw [d1, d2, d3]
      cases h1 : sHid V (V 5 q).toNat q p 0 n <;> cases h2 : sBl V p y (V 5 q).toNat <;> simp [hq, hs]
theorem sSum_sub (f g h : Nat → Int) : ∀ n, (∀ q, q < n → f q - g q = h q) → sSum f n - sSum g n = sSum h n
  | 0, _ => rfl
  | n + 1, e => by
    have := sSum_sub f g h n (fun q hq => e q (by omega))
    have := e n (by omega)
    show (sSum f n + f n) - (sSum g n + g n) = sSum h n + h n
    omega
theorem sSum_congr {f g : Nat → Int} : ∀ n, (∀ q, q < n → f q = g q) → sSum f n = sSum g n
  | 0, _ => rfl
  | n + 1, h => by
    show sSum f n + f n = sSum g n + g n
    rw [sSum_congr n (fun q hq => h q (by omega)), h n (by omega)]
/-- a view is looked at in its first six rows alone -/
theorem sHid_cg {V W : Nat → Nat → Int} (h : ∀ a b, a < 6 → V a b = W a b) (y a b : Nat) : ∀ k p, sHid V y a b p k = sHid W y a b p k
  | 0, p => rfl
  | k + 1, p => by
    unfold sHid
    rw [h 5 p (by omega), sBl_congr (W := W) (h 1 _ (by omega)) (h 1 _ (by omega)) (h 2 _ (by omega)), sHid_cg h y a b k (p + 1)]
theorem sNow_cg {V W : Nat → Nat → Int} (h : ∀ a b, a < 6 → V a b = W a b) (n p : Nat) : sNow V n p = sNow W n p := by
  unfold sNow sSeen sDk
  rw [h 5 p (by omega), sHid_cg h, h 0 0 (by omega), h 0 1 (by omega)]
theorem vOk_cg {V W : Nat → Nat → Int} (h : ∀ a b, a < 6 → V a b = W a b) {n : Nat} (hv : vOk W n) : vOk V n := by
  unfold vOk at *
  rw [h 0 0 (by omega), h 0 1 (by omega)]
  refine ⟨hv.1, hv.2.1, hv.2.2.1, fun y hy => ?_, fun p hp => ?_⟩
  · rw [h 1 y (by omega)]; exact hv.2.2.2.1 y hy
  · rw [h 2 p (by omega), h 3 p (by omega), h 4 p (by omega), h 5 p (by omega)]; exact hv.2.2.2.2 p hp
theorem vOk_S {V : Nat → Nat → Int} {n : Nat} (hv : vOk V n) (p : Nat) {z : Int} (hz : -1 ≤ z ∧ z ≤ 7) : vOk (vS V p z) n := by
  refine ⟨hv.1, hv.2.1, hv.2.2.1, hv.2.2.2.1, fun q hq => ?_⟩
  have := hv.2.2.2.2 q hq
  refine ⟨this.1, this.2.1, this.2.2.1, ?_⟩
  unfold vS
  split
  · exact hz
  · exact this.2.2.2
section Model2
variable {l : Launch} {B : eB} {ζ : zSt}
theorem mOk_S {n : Nat} (hc : mOk ζ n) (p : Nat) {z : Int} (hz : -1 ≤ z ∧ z ≤ 7) : mOk (zU ζ 58 p z) n := ⟨vOk_cg (mV_S ζ p z) (vOk_S hc.1 p hz), hc.2⟩
theorem run_X7_worth {n : Nat} (hc : mOk ζ n) {p s : Nat} (hp : p < n) (hs : ζ.1 58 p = s) : zRun l B mX7_worth [.ref 52, zi p] ζ (some (zi (sWo (mV ζ 2 p) (sNow (mV ζ) n p) (mV ζ 1 s)))) ζ := by
  have hn := hc.1.1
  have hs8 : -1 ≤ ζ.1 58 p ∧ ζ.1 58 p ≤ 7 := (hc.1.2.2.2.2 p hp).2.2.2
  refine zrun_intro (M := mX7_worth) (ls := [some (.ref 52), some (zi p)]) (by decide) rfl rfl rfl (Nat.le_of_ble_eq_true rfl) ?_
  intro X A C hX hA hr hk
  replace C : CX X B A mX7_worth.2.2.2.2 RX7 cX7_worth 2 0 0 := C
  have hr : (xMeth X).sig.returnType = (some .int) := hr
  change ZW X B A 2 0 0 _ _ 0 [some (.ref 52), some (zi p)] []
  refine zw_aload_n (i := 0) (nx := 1) C dX7_worth_0 rfl rfl rfl ?_
  refine zw_getr (nx := 4) C dX7_worth_1 rfl flX7_32 iq6 rfl rfl rfl rfl ?_
  refine zw_iload_n (i := 1) (nx := 5) C dX7_worth_4 rfl rfl rfl ?_
  refine zw_iald (p) (nx := 6) C dX7_worth_5 rfl rfl rfl rfl (by omega) ?_
  refine zw_iconst (nx := 7) C dX7_worth_6 rfl ?_
  refine zw_icmp_ne (tgt := 14) (nx := 10) C dX7_worth_7 rfl rfl (by omega) (fun h7 => ?_) (fun h7 => by exfalso; omega)
  refine zw_aload_n (i := 0) (nx := 15) C dX7_worth_14 rfl rfl rfl ?_
  refine zw_getr (nx := 18) C dX7_worth_15 rfl flX7_23 iq6 rfl rfl rfl rfl ?_
  refine zw_iload_n (i := 1) (nx := 19) C dX7_worth_18 rfl rfl rfl ?_
  refine zw_iald (p) (nx := 20) C dX7_worth_19 rfl rfl rfl rfl (by omega) ?_
  refine zw_aload_n (i := 0) (nx := 21) C dX7_worth_20 rfl rfl rfl ?_
  refine zw_iload_n (i := 1) (nx := 22) C dX7_worth_21 rfl rfl rfl ?_
  refine zw_cV11 (nx := 25) C dX7_worth_22 rfl cvX7_186 rfl rfl ⟨Nat.le_of_ble_eq_true rfl, Nat.le_of_ble_eq_true rfl⟩ rfl rfl (Nat.le_of_ble_eq_true rfl) (run_X7_seen hc hp) ?_
  refine zw_aload_n (i := 0) (nx := 26) C dX7_worth_25 rfl rfl rfl ?_
  refine zw_getr (nx := 29) C dX7_worth_26 rfl flX7_20 iq6 rfl rfl rfl rfl ?_
  refine zw_aload_n (i := 0) (nx := 30) C dX7_worth_29 rfl rfl rfl ?_
  refine zw_getr (nx := 33) C dX7_worth_30 rfl flX7_32 iq6 rfl rfl rfl rfl ?_
  refine zw_iload_n (i := 1) (nx := 34) C dX7_worth_33 rfl rfl rfl ?_
  refine zw_iald (p) (nx := 35) C dX7_worth_34 rfl rfl rfl rfl (by omega) ?_
  refine zw_iald (s) (nx := 36) C dX7_worth_35 rfl rfl rfl rfl (by omega) ?_
  refine zw_cS31 (nx := 39) C dX7_worth_36 rfl csX7_189 ⟨Nat.le_of_ble_eq_true rfl, Nat.le_of_ble_eq_true rfl⟩ (Nat.le_of_ble_eq_true rfl) (run_X7_worthBy (hc.1.2.2.2.2 p hp).1 (hc.1.now p) (hc.1.2.2.2.1 s (by omega))) ?_
  exact zw_iret C hA hr hk dX7_worth_39 rfl rfl
theorem run_X7_worth0 {n : Nat} (hc : mOk ζ n) {p : Nat} (hp : p < n) (hs : ζ.1 58 p = -1) : zRun l B mX7_worth [.ref 52, zi p] ζ (some (zi 0)) ζ := by
  have hn := hc.1.1
  refine zrun_intro (M := mX7_worth) (ls := [some (.ref 52), some (zi p)]) (by decide) rfl rfl rfl (Nat.le_of_ble_eq_true rfl) ?_
  intro X A C hX hA hr hk
  replace C : CX X B A mX7_worth.2.2.2.2 RX7 cX7_worth 2 0 0 := C
  have hr : (xMeth X).sig.returnType = (some .int) := hr
  change ZW X B A 2 0 0 _ _ 0 [some (.ref 52), some (zi p)] []
  refine zw_aload_n (i := 0) (nx := 1) C dX7_worth_0 rfl rfl rfl ?_
  refine zw_getr (nx := 4) C dX7_worth_1 rfl flX7_32 iq6 rfl rfl rfl rfl ?_
  refine zw_iload_n (i := 1) (nx := 5) C dX7_worth_4 rfl rfl rfl ?_
  refine zw_iald (p) (nx := 6) C dX7_worth_5 rfl rfl rfl rfl (by omega) ?_
  refine zw_iconst (nx := 7) C dX7_worth_6 rfl ?_
  refine zw_icmp_ne (tgt := 14) (nx := 10) C dX7_worth_7 rfl rfl (by omega) (fun h7 => by exfalso; omega) (fun h7 => ?_)
  refine zw_iconst (nx := 11) C dX7_worth_10 rfl ?_
  refine zw_goto (nx := 39) C dX7_worth_11 rfl ?_
  exact zw_iret C hA hr hk dX7_worth_39 rfl rfl
theorem run_X7_othersSee {n : Nat} (hc : mOk ζ n) {p : Int} (hp : -1 ≤ p ∧ p ≤ 5) : zRun l B mX7_othersSee [.ref 52, zi p] ζ (some (zi (sSum (sOth (mV ζ) n p) n))) ζ := by
  have hn3 := hc.2
  have hn := hc.1.1
  refine zrun_intro (M := mX7_othersSee) (ls := [some (.ref 52), some (zi p), none, none]) (by decide) rfl rfl rfl (Nat.le_of_ble_eq_true rfl) ?_
  intro X A C hX hA hr hk
  replace C : CX X B A mX7_othersSee.2.2.2.2 RX7 cX7_othersSee 4 0 0 := C
  have hr : (xMeth X).sig.returnType = (some .int) := hr
  change ZW X B A 4 0 0 _ _ 0 [some (.ref 52), some (zi p), none, none] []
  have loop : ∀ k q : Nat, q + k = n → ZW X B A 4 0 0 (eFin X B (some (zi (sSum (sOth (mV ζ) n p) n))) (zz ζ)) ζ 4 [some (.ref 52), some (zi p), some (zi (sSum (sOth (mV ζ) n p) q)), some (zi q)] [] := by
    intro k
    induction k with
    | zero =>
      intro q hqk
      have e : q = n := by omega
      subst e
      refine zw_iload_n (i := 3) (nx := 5) C dX7_othersSee_4 rfl rfl rfl ?_
      refine zw_aload_n (i := 0) (nx := 6) C dX7_othersSee_5 rfl rfl rfl ?_
      refine zw_geti (nx := 9) C dX7_othersSee_6 rfl flX7_79 iq6 rfl rfl rfl rfl ?_
      refine zw_icmp_ge (tgt := 35) (nx := 12) C dX7_othersSee_9 rfl rfl (by omega) (fun h9 => ?_) (fun h9 => by exfalso; omega)
      refine zw_iload_n (i := 2) (nx := 36) C dX7_othersSee_35 rfl rfl rfl ?_
      exact zw_iret C hA hr hk dX7_othersSee_36 rfl rfl
    | succ k ih =>
      intro q hqk
      refine zw_iload_n (i := 3) (nx := 5) C dX7_othersSee_4 rfl rfl rfl ?_
      refine zw_aload_n (i := 0) (nx := 6) C dX7_othersSee_5 rfl rfl rfl ?_
      refine zw_geti (nx := 9) C dX7_othersSee_6 rfl flX7_79 iq6 rfl rfl rfl rfl ?_
      refine zw_icmp_ge (tgt := 35) (nx := 12) C dX7_othersSee_9 rfl rfl (by omega) (fun h9 => by exfalso; omega) (fun h9 => ?_)
      refine zw_iload_n (i := 2) (nx := 13) C dX7_othersSee_12 rfl rfl rfl ?_
      refine zw_iload_n (i := 3) (nx := 14) C dX7_othersSee_13 rfl rfl rfl ?_
      refine zw_iload_n (i := 1) (nx := 15) C dX7_othersSee_14 rfl rfl rfl ?_
      refine zw_icmp_ne (tgt := 22) (nx := 18) C dX7_othersSee_15 rfl rfl (by omega) (fun h15 => ?_) (fun h15 => ?_)
      · have e : sSum (sOth (mV ζ) n p) (q + 1) = sSum (sOth (mV ζ) n p) q + sNow (mV ζ) n q := by
          show _ + sOth (mV ζ) n p q = _
          rw [show sOth (mV ζ) n p q = sNow (mV ζ) n q from if_neg h15]
        refine zw_aload_n (i := 0) (nx := 23) C dX7_othersSee_22 rfl rfl rfl ?_
        refine zw_iload_n (i := 3) (nx := 24) C dX7_othersSee_23 rfl rfl rfl ?_
        refine zw_cV11 (nx := 27) C dX7_othersSee_24 rfl cvX7_186 rfl rfl ⟨Nat.le_of_ble_eq_true rfl, Nat.le_of_ble_eq_true rfl⟩ rfl rfl (Nat.le_of_ble_eq_true rfl) (run_X7_seen hc (by omega)) ?_
        refine zw_iadd (nx := 28) C dX7_othersSee_27 rfl ?_
        refine zw_ist2 (nx := 29) C (eIst_n dX7_othersSee_28 rfl rfl) (Nat.le_of_ble_eq_true rfl) rfl ?_
        rw [← e]
        refine zw_iinc3 (nx := 32) C dX7_othersSee_29 rfl (Nat.le_of_ble_eq_true rfl) rfl ?_
        refine zw_goto (nx := 4) C dX7_othersSee_32 rfl ?_
        exact ih (q + 1) (by omega)
      · have e : sSum (sOth (mV ζ) n p) (q + 1) = sSum (sOth (mV ζ) n p) q + 0 := by
          show _ + sOth (mV ζ) n p q = _
          rw [show sOth (mV ζ) n p q = 0 from if_pos h15]
        refine zw_iconst (nx := 19) C dX7_othersSee_18 rfl ?_
        refine zw_goto (nx := 27) C dX7_othersSee_19 rfl ?_
        refine zw_iadd (nx := 28) C dX7_othersSee_27 rfl ?_
        refine zw_ist2 (nx := 29) C (eIst_n dX7_othersSee_28 rfl rfl) (Nat.le_of_ble_eq_true rfl) rfl ?_
        rw [← e]
        refine zw_iinc3 (nx := 32) C dX7_othersSee_29 rfl (Nat.le_of_ble_eq_true rfl) rfl ?_
        refine zw_goto (nx := 4) C dX7_othersSee_32 rfl ?_
        exact ih (q + 1) (by omega)
  refine zw_iconst (nx := 1) C dX7_othersSee_0 rfl ?_
  refine zw_ist2 (nx := 2) C (eIst_n dX7_othersSee_1 rfl rfl) (Nat.le_of_ble_eq_true rfl) rfl ?_
  refine zw_iconst (nx := 3) C dX7_othersSee_2 rfl ?_
  refine zw_ist3 (nx := 4) C (eIst_n dX7_othersSee_3 rfl rfl) (Nat.le_of_ble_eq_true rfl) rfl ?_
  exact loop n 0 (by omega)
theorem run_X7_seesIn {n : Nat} (hc : mOk ζ n) {p y : Nat} (hp : p < n) (hy : y < 8) : zRun l B mX7_seesIn [.ref 52, zi p, zi y] ζ (some (zi (sSeen (mV ζ) n p y))) ζ := by
  have hn := hc.1.1
  have e : sNow (mV (zU ζ 58 p y)) n p = sSeen (mV ζ) n p y := by
    rw [sNow_cg (mV_S ζ p y), sNow_vS]
  rw [← e]
  refine zrun_intro (M := mX7_seesIn) (ls := [some (.ref 52), some (zi p), some (zi y), none, none]) (by decide) rfl rfl rfl (Nat.le_of_ble_eq_true rfl) ?_
  intro X A C hX hA hr hk
  replace C : CX X B A mX7_seesIn.2.2.2.2 RX7 cX7_seesIn 5 0 0 := C
  have hr : (xMeth X).sig.returnType = (some .int) := hr
  change ZW X B A 5 0 0 _ _ 0 [some (.ref 52), some (zi p), some (zi y), none, none] []
  refine zw_aload_n (i := 0) (nx := 1) C dX7_seesIn_0 rfl rfl rfl ?_
  refine zw_getr (nx := 4) C dX7_seesIn_1 rfl flX7_32 iq6 rfl rfl rfl rfl ?_
  refine zw_iload_n (i := 1) (nx := 5) C dX7_seesIn_4 rfl rfl rfl ?_
  refine zw_iald (p) (nx := 6) C dX7_seesIn_5 rfl rfl rfl rfl (by omega) ?_
  refine zw_ist3 (nx := 7) C (eIst_n dX7_seesIn_6 rfl rfl) (Nat.le_of_ble_eq_true rfl) rfl ?_
  refine zw_aload_n (i := 0) (nx := 8) C dX7_seesIn_7 rfl rfl rfl ?_
  refine zw_getr (nx := 11) C dX7_seesIn_8 rfl flX7_32 iq6 rfl rfl rfl rfl ?_
  refine zw_iload_n (i := 1) (nx := 12) C dX7_seesIn_11 rfl rfl rfl ?_
  refine zw_iload_n (i := 2) (nx := 13) C dX7_seesIn_12 rfl rfl rfl ?_
  refine zw_iast (p) (nx := 14) C dX7_seesIn_13 rfl rfl rfl rfl (by omega) ?_
  refine zw_aload_n (i := 0) (nx := 15) C dX7_seesIn_14 rfl rfl rfl ?_
  refine zw_iload_n (i := 1) (nx := 16) C dX7_seesIn_15 rfl rfl rfl ?_
  refine zw_cV11 (nx := 19) C dX7_seesIn_16 rfl cvX7_186 rfl rfl ⟨Nat.le_of_ble_eq_true rfl, Nat.le_of_ble_eq_true rfl⟩ rfl rfl (Nat.le_of_ble_eq_true rfl) (run_X7_seen (mOk_S hc p (by omega)) hp) ?_
  refine zw_ist4 (nx := 21) C (eIst_w dX7_seesIn_19 rfl) (Nat.le_of_ble_eq_true rfl) rfl ?_
  refine zw_aload_n (i := 0) (nx := 22) C dX7_seesIn_21 rfl rfl rfl ?_
  refine zw_getr (nx := 25) C dX7_seesIn_22 rfl flX7_32 iq6 rfl rfl rfl rfl ?_
  refine zw_iload_n (i := 1) (nx := 26) C dX7_seesIn_25 rfl rfl rfl ?_
  refine zw_iload_n (i := 3) (nx := 27) C dX7_seesIn_26 rfl rfl rfl ?_
  refine zw_iast (p) (nx := 28) C dX7_seesIn_27 rfl rfl rfl rfl (by omega) ?_
  refine zw_iload (nx := 30) C dX7_seesIn_28 rfl rfl ?_
  exact zw_iret C hA hr hk dX7_seesIn_30 rfl (zU_back ζ 58 p y (ζ.1 58 p) rfl).symm
theorem run_X7_worthIn {n : Nat} (hc : mOk ζ n) {p y : Nat} (hp : p < n) (hy : y < 8) : zRun l B mX7_worthIn [.ref 52, zi p, zi y] ζ (some (zi (sWin (mV ζ) n p y))) ζ := by
  have hn := hc.1.1
  refine zrun_intro (M := mX7_worthIn) (ls := [some (.ref 52), some (zi p), some (zi y)]) (by decide) rfl rfl rfl (Nat.le_of_ble_eq_true rfl) ?_
  intro X A C hX hA hr hk
  replace C : CX X B A mX7_worthIn.2.2.2.2 RX7 cX7_worthIn 3 0 0 := C
  have hr : (xMeth X).sig.returnType = (some .int) := hr
  change ZW X B A 3 0 0 _ _ 0 [some (.ref 52), some (zi p), some (zi y)] []
  refine zw_aload_n (i := 0) (nx := 1) C dX7_worthIn_0 rfl rfl rfl ?_
  refine zw_getr (nx := 4) C dX7_worthIn_1 rfl flX7_23 iq6 rfl rfl rfl rfl ?_
  refine zw_iload_n (i := 1) (nx := 5) C dX7_worthIn_4 rfl rfl rfl ?_
  refine zw_iald (p) (nx := 6) C dX7_worthIn_5 rfl rfl rfl rfl (by omega) ?_
  refine zw_aload_n (i := 0) (nx := 7) C dX7_worthIn_6 rfl rfl rfl ?_
  refine zw_iload_n (i := 1) (nx := 8) C dX7_worthIn_7 rfl rfl rfl ?_
  refine zw_iload_n (i := 2) (nx := 9) C dX7_worthIn_8 rfl rfl rfl ?_
  refine zw_cV21 (nx := 12) C dX7_worthIn_9 rfl cvX7_224 rfl rfl ⟨Nat.le_of_ble_eq_true rfl, Nat.le_of_ble_eq_true rfl⟩ rfl rfl (Nat.le_of_ble_eq_true rfl) (run_X7_seesIn hc hp hy) ?_
  refine zw_aload_n (i := 0) (nx := 13) C dX7_worthIn_12 rfl rfl rfl ?_
  refine zw_getr (nx := 16) C dX7_worthIn_13 rfl flX7_20 iq6 rfl rfl rfl rfl ?_
  refine zw_iload_n (i := 2) (nx := 17) C dX7_worthIn_16 rfl rfl rfl ?_
  refine zw_iald (y) (nx := 18) C dX7_worthIn_17 rfl rfl rfl rfl (by omega) ?_
  refine zw_cS31 (nx := 21) C dX7_worthIn_18 rfl csX7_189 ⟨Nat.le_of_ble_eq_true rfl, Nat.le_of_ble_eq_true rfl⟩ (Nat.le_of_ble_eq_true rfl) (run_X7_worthBy (hc.1.2.2.2.2 p hp).1 (hc.1.seen p y) (hc.1.2.2.2.1 y hy)) ?_
  exact zw_iret C hA hr hk dX7_worthIn_21 rfl rfl
theorem run_X7_bidOf {n : Nat} (hc : mOk ζ n) {p y : Nat} (hp : p < n) (hy : y < 8) : zRun l B mX7_bidOf [.ref 52, zi p, zi y] ζ (some (zi (sOff (mV ζ) n y p))) ζ := by
  have hn := hc.1.1
  have a1 := hc.1.win p hy
  have a2 : 0 ≤ ζ.1 56 p ∧ ζ.1 56 p ≤ 500 := (hc.1.2.2.2.2 p hp).2.1
  have a3 : -1 ≤ ζ.1 58 p ∧ ζ.1 58 p ≤ 7 := (hc.1.2.2.2.2 p hp).2.2.2
  refine zrun_intro (M := mX7_bidOf) (ls := [some (.ref 52), some (zi p), some (zi y)]) (by decide) rfl rfl rfl (Nat.le_of_ble_eq_true rfl) ?_
  intro X A C hX hA hr hk
  replace C : CX X B A mX7_bidOf.2.2.2.2 RX7 cX7_bidOf 3 0 0 := C
  have hr : (xMeth X).sig.returnType = (some .int) := hr
  change ZW X B A 3 0 0 _ _ 0 [some (.ref 52), some (zi p), some (zi y)] []
  refine zw_aload_n (i := 0) (nx := 1) C dX7_bidOf_0 rfl rfl rfl ?_
  refine zw_getr (nx := 4) C dX7_bidOf_1 rfl flX7_32 iq6 rfl rfl rfl rfl ?_
  refine zw_iload_n (i := 1) (nx := 5) C dX7_bidOf_4 rfl rfl rfl ?_
  refine zw_iald (p) (nx := 6) C dX7_bidOf_5 rfl rfl rfl rfl (by omega) ?_
  refine zw_iconst (nx := 7) C dX7_bidOf_6 rfl ?_
  refine zw_icmp_ne (tgt := 28) (nx := 10) C dX7_bidOf_7 rfl rfl (by omega) (fun h7 => ?_) (fun h7 => ?_)
  · refine zw_iconst (nx := 29) C dX7_bidOf_28 rfl ?_
    exact zw_iret C hA hr hk dX7_bidOf_29 (zr (if_neg h7)) rfl
  · refine zw_aload_n (i := 0) (nx := 11) C dX7_bidOf_10 rfl rfl rfl ?_
    refine zw_getr (nx := 14) C dX7_bidOf_11 rfl flX7_26 iq6 rfl rfl rfl rfl ?_
    refine zw_iload_n (i := 1) (nx := 15) C dX7_bidOf_14 rfl rfl rfl ?_
    refine zw_iald (p) (nx := 16) C dX7_bidOf_15 rfl rfl rfl rfl (by omega) ?_
    refine zw_aload_n (i := 0) (nx := 17) C dX7_bidOf_16 rfl rfl rfl ?_
    refine zw_iload_n (i := 1) (nx := 18) C dX7_bidOf_17 rfl rfl rfl ?_
    refine zw_iload_n (i := 2) (nx := 19) C dX7_bidOf_18 rfl rfl rfl ?_
    refine zw_cV21 (nx := 22) C dX7_bidOf_19 rfl cvX7_236 rfl rfl ⟨Nat.le_of_ble_eq_true rfl, Nat.le_of_ble_eq_true rfl⟩ rfl rfl (Nat.le_of_ble_eq_true rfl) (run_X7_worthIn hc hp hy) ?_
    refine zw_cS21 (nx := 25) C dX7_bidOf_22 rfl csX7_233 ⟨Nat.le_of_ble_eq_true rfl, Nat.le_of_ble_eq_true rfl⟩ (Nat.le_of_ble_eq_true rfl) (run_X7_lesser (by omega)) ?_
    refine zw_goto (nx := 29) C dX7_bidOf_25 rfl ?_
    exact zw_iret C hA hr hk dX7_bidOf_29 (zr (if_pos h7)) rfl
set_option maxHeartbeats 4000000 in
theorem run_X7_winner {n : Nat} (hc : mOk ζ n) {y : Nat} (hy : y < 8) : zRun l B mX7_winner [.ref 52, zi y] ζ (some (zi (sTop (sOff (mV ζ) n y) n).1)) ζ := by
  have hn3 := hc.2
  have hn := hc.1.1
  have hbd := sTop_bd (f := sOff (mV ζ) n y) (n := n) (fun p hp => hc.1.off hp hy)
  refine zrun_intro (M := mX7_winner) (ls := [some (.ref 52), some (zi y), none, none, none, none]) (by decide) rfl rfl rfl (Nat.le_of_ble_eq_true rfl) ?_
  intro X A C hX hA hr hk
  replace C : CX X B A mX7_winner.2.2.2.2 RX7 cX7_winner 6 0 0 := C
  have hr : (xMeth X).sig.returnType = (some .int) := hr
  change ZW X B A 6 0 0 _ _ 0 [some (.ref 52), some (zi y), none, none, none, none] []
  have loop : ∀ k p : Nat, p + k = n → ∀ o5 : Option Value, ZW X B A 6 0 0 (eFin X B (some (zi (sTop (sOff (mV ζ) n y) n).1)) (zz ζ)) ζ 7 [some (.ref 52), some (zi y), some (zi (sTop (sOff (mV ζ) n y) p).1), some (zi (sTop (sOff (mV ζ) n y) p).2), some (zi p), o5] [] := by
    intro k
    induction k with
    | zero =>
      intro p hpk o5
      have e : p = n := by omega
      subst e
      refine zw_iload (nx := 9) C dX7_winner_7 rfl rfl ?_
      refine zw_aload_n (i := 0) (nx := 10) C dX7_winner_9 rfl rfl rfl ?_
      refine zw_geti (nx := 13) C dX7_winner_10 rfl flX7_79 iq6 rfl rfl rfl rfl ?_
      refine zw_icmp_ge (tgt := 57) (nx := 16) C dX7_winner_13 rfl rfl (by omega) (fun h13 => ?_) (fun h13 => by exfalso; omega)
      refine zw_iload_n (i := 2) (nx := 58) C dX7_winner_57 rfl rfl rfl ?_
      exact zw_iret C hA hr hk dX7_winner_58 rfl rfl
    | succ k ih =>
      intro p hpk o5
      have hb1 := hbd p (by omega)
      have hb2 := hc.1.off (p := p) (by omega) hy
      refine zw_iload (nx := 9) C dX7_winner_7 rfl rfl ?_
      refine zw_aload_n (i := 0) (nx := 10) C dX7_winner_9 rfl rfl rfl ?_
      refine zw_geti (nx := 13) C dX7_winner_10 rfl flX7_79 iq6 rfl rfl rfl rfl ?_
      refine zw_icmp_ge (tgt := 57) (nx := 16) C dX7_winner_13 rfl rfl (by omega) (fun h13 => by exfalso; omega) (fun h13 => ?_)
      refine zw_aload_n (i := 0) (nx := 17) C dX7_winner_16 rfl rfl rfl ?_
      refine zw_iload (nx := 19) C dX7_winner_17 rfl rfl ?_
      refine zw_iload_n (i := 1) (nx := 20) C dX7_winner_19 rfl rfl rfl ?_
      refine zw_cV21 (nx := 23) C dX7_winner_20 rfl cvX7_239 rfl rfl ⟨Nat.le_of_ble_eq_true rfl, Nat.le_of_ble_eq_true rfl⟩ rfl rfl (Nat.le_of_ble_eq_true rfl) (run_X7_bidOf hc (by omega) hy) ?_
      refine zw_ist5 (nx := 25) C (eIst_w dX7_winner_23 rfl) (Nat.le_of_ble_eq_true rfl) rfl ?_
      refine zw_iload (nx := 27) C dX7_winner_25 rfl rfl ?_
      refine zw_iload_n (i := 3) (nx := 28) C dX7_winner_27 rfl rfl rfl ?_
      refine zw_icmp_le (tgt := 36) (nx := 31) C dX7_winner_28 rfl rfl (by omega) (fun h28 => ?_) (fun h28 => ?_)
      · have e : sTop (sOff (mV ζ) n y) (p + 1) = sTop (sOff (mV ζ) n y) p := if_neg (by omega)
        refine zw_iload_n (i := 2) (nx := 37) C dX7_winner_36 rfl rfl rfl ?_
        refine zw_ist2 (nx := 38) C (eIst_n dX7_winner_37 rfl rfl) (Nat.le_of_ble_eq_true rfl) rfl ?_
        refine zw_iload (nx := 40) C dX7_winner_38 rfl rfl ?_
        refine zw_iload_n (i := 3) (nx := 41) C dX7_winner_40 rfl rfl rfl ?_
        refine zw_icmp_le (tgt := 49) (nx := 44) C dX7_winner_41 rfl rfl (by omega) (fun h41 => ?_) (fun h41 => by exfalso; omega)
        refine zw_iload_n (i := 3) (nx := 50) C dX7_winner_49 rfl rfl rfl ?_
        refine zw_ist3 (nx := 51) C (eIst_n dX7_winner_50 rfl rfl) (Nat.le_of_ble_eq_true rfl) rfl ?_
        rw [← e]
        refine zw_iinc4 (nx := 54) C dX7_winner_51 rfl (Nat.le_of_ble_eq_true rfl) rfl ?_
        refine zw_goto (nx := 7) C dX7_winner_54 rfl ?_
        exact ih (p + 1) (by omega) _
      · have e : sTop (sOff (mV ζ) n y) (p + 1) = ((p : Int), sOff (mV ζ) n y p) := if_pos h28
        refine zw_iload (nx := 33) C dX7_winner_31 rfl rfl ?_
        refine zw_goto (nx := 37) C dX7_winner_33 rfl ?_
        refine zw_ist2 (nx := 38) C (eIst_n dX7_winner_37 rfl rfl) (Nat.le_of_ble_eq_true rfl) rfl ?_
        refine zw_iload (nx := 40) C dX7_winner_38 rfl rfl ?_
        refine zw_iload_n (i := 3) (nx := 41) C dX7_winner_40 rfl rfl rfl ?_
        refine zw_icmp_le (tgt := 49) (nx := 44) C dX7_winner_41 rfl rfl (by omega) (fun h41 => by exfalso; omega) (fun h41 => ?_)
        refine zw_iload (nx := 46) C dX7_winner_44 rfl rfl ?_
        refine zw_goto (nx := 50) C dX7_winner_46 rfl ?_
        refine zw_ist3 (nx := 51) C (eIst_n dX7_winner_50 rfl rfl) (Nat.le_of_ble_eq_true rfl) rfl ?_
        refine zw_iinc4 (nx := 54) C dX7_winner_51 rfl (Nat.le_of_ble_eq_true rfl) rfl ?_
        refine zw_goto (nx := 7) C dX7_winner_54 rfl ?_
        have := ih (p + 1) (by omega) (some (zi (sOff (mV ζ) n y p)))
        rw [e] at this
        exact this
  refine zw_iconst (nx := 1) C dX7_winner_0 rfl ?_
  refine zw_ist2 (nx := 2) C (eIst_n dX7_winner_1 rfl rfl) (Nat.le_of_ble_eq_true rfl) rfl ?_
  refine zw_iconst (nx := 3) C dX7_winner_2 rfl ?_
  refine zw_ist3 (nx := 4) C (eIst_n dX7_winner_3 rfl rfl) (Nat.le_of_ble_eq_true rfl) rfl ?_
  refine zw_iconst (nx := 5) C dX7_winner_4 rfl ?_
  refine zw_ist4 (nx := 7) C (eIst_w dX7_winner_5 rfl) (Nat.le_of_ble_eq_true rfl) rfl ?_
  exact loop n 0 (by omega) _
set_option maxHeartbeats 4000000 in
theorem run_X7_priceOf {n : Nat} (hc : mOk ζ n) {y : Nat} (hy : y < 8) {w : Int} (hw : -1 ≤ w ∧ w ≤ 5) : zRun l B mX7_priceOf [.ref 52, zi w, zi y] ζ (some (zi (sPri (sOff (mV ζ) n y) w n))) ζ := by
  have hn3 := hc.2
  have hn := hc.1.1
  have hbd := sPri_bd (f := sOff (mV ζ) n y) (n := n) (w := w) (fun p hp => hc.1.off hp hy)
  refine zrun_intro (M := mX7_priceOf) (ls := [some (.ref 52), some (zi w), some (zi y), none, none, none]) (by decide) rfl rfl rfl (Nat.le_of_ble_eq_true rfl) ?_
  intro X A C hX hA hr hk
  replace C : CX X B A mX7_priceOf.2.2.2.2 RX7 cX7_priceOf 6 0 0 := C
  have hr : (xMeth X).sig.returnType = (some .int) := hr
  change ZW X B A 6 0 0 _ _ 0 [some (.ref 52), some (zi w), some (zi y), none, none, none] []
  have loop : ∀ k p : Nat, p + k = n → ∀ o5 : Option Value, ZW X B A 6 0 0 (eFin X B (some (zi (sPri (sOff (mV ζ) n y) w n))) (zz ζ)) ζ 5 [some (.ref 52), some (zi w), some (zi y), some (zi (sPri (sOff (mV ζ) n y) w p)), some (zi p), o5] [] := by
    intro k
    induction k with
    | zero =>
      intro p hpk o5
      have e : p = n := by omega
      subst e
      refine zw_iload (nx := 7) C dX7_priceOf_5 rfl rfl ?_
      refine zw_aload_n (i := 0) (nx := 8) C dX7_priceOf_7 rfl rfl rfl ?_
      refine zw_geti (nx := 11) C dX7_priceOf_8 rfl flX7_79 iq6 rfl rfl rfl rfl ?_
      refine zw_icmp_ge (tgt := 52) (nx := 14) C dX7_priceOf_11 rfl rfl (by omega) (fun h11 => ?_) (fun h11 => by exfalso; omega)
      refine zw_iload_n (i := 3) (nx := 53) C dX7_priceOf_52 rfl rfl rfl ?_
      exact zw_iret C hA hr hk dX7_priceOf_53 rfl rfl
    | succ k ih =>
      intro p hpk o5
      have hb1 := hbd p (by omega)
      have hb2 := hc.1.off (p := p) (by omega) hy
      have go : ∀ o5 : Option Value, sPri (sOff (mV ζ) n y) w (p + 1) = sPri (sOff (mV ζ) n y) w p → ZW X B A 6 0 0 (eFin X B (some (zi (sPri (sOff (mV ζ) n y) w n))) (zz ζ)) ζ 44 [some (.ref 52), some (zi w), some (zi y), some (zi (sPri (sOff (mV ζ) n y) w p)), some (zi p), o5] [] := by
        intro o5 e
        rw [← e]
        refine zw_iload_n (i := 3) (nx := 45) C dX7_priceOf_44 rfl rfl rfl ?_
        refine zw_ist3 (nx := 46) C (eIst_n dX7_priceOf_45 rfl rfl) (Nat.le_of_ble_eq_true rfl) rfl ?_
        refine zw_iinc4 (nx := 49) C dX7_priceOf_46 rfl (Nat.le_of_ble_eq_true rfl) rfl ?_
        refine zw_goto (nx := 5) C dX7_priceOf_49 rfl ?_
        exact ih (p + 1) (by omega) _
      refine zw_iload (nx := 7) C dX7_priceOf_5 rfl rfl ?_
      refine zw_aload_n (i := 0) (nx := 8) C dX7_priceOf_7 rfl rfl rfl ?_
      refine zw_geti (nx := 11) C dX7_priceOf_8 rfl flX7_79 iq6 rfl rfl rfl rfl ?_
      refine zw_icmp_ge (tgt := 52) (nx := 14) C dX7_priceOf_11 rfl rfl (by omega) (fun h11 => by exfalso; omega) (fun h11 => ?_)
      refine zw_iload (nx := 16) C dX7_priceOf_14 rfl rfl ?_
      refine zw_iload_n (i := 1) (nx := 17) C dX7_priceOf_16 rfl rfl rfl ?_
      refine zw_icmp_ne (tgt := 24) (nx := 20) C dX7_priceOf_17 rfl rfl (by omega) (fun h17 => ?_) (fun h17 => ?_)
      · refine zw_aload_n (i := 0) (nx := 25) C dX7_priceOf_24 rfl rfl rfl ?_
        refine zw_iload (nx := 27) C dX7_priceOf_25 rfl rfl ?_
        refine zw_iload_n (i := 2) (nx := 28) C dX7_priceOf_27 rfl rfl rfl ?_
        refine zw_cV21 (nx := 31) C dX7_priceOf_28 rfl cvX7_239 rfl rfl ⟨Nat.le_of_ble_eq_true rfl, Nat.le_of_ble_eq_true rfl⟩ rfl rfl (Nat.le_of_ble_eq_true rfl) (run_X7_bidOf hc (by omega) hy) ?_
        refine zw_ist5 (nx := 33) C (eIst_w dX7_priceOf_31 rfl) (Nat.le_of_ble_eq_true rfl) rfl ?_
        refine zw_iload (nx := 35) C dX7_priceOf_33 rfl rfl ?_
        refine zw_iload_n (i := 3) (nx := 36) C dX7_priceOf_35 rfl rfl rfl ?_
        refine zw_icmp_le (tgt := 44) (nx := 39) C dX7_priceOf_36 rfl rfl (by omega) (fun h36 => ?_) (fun h36 => ?_)
        · refine go _ ?_
          show (if (p : Int) = w then _ else if _ < sOff (mV ζ) n y p then _ else _) = _
          rw [if_neg h17, if_neg (by omega)]
        · have e : sPri (sOff (mV ζ) n y) w (p + 1) = sOff (mV ζ) n y p := by
            show (if (p : Int) = w then _ else if _ < sOff (mV ζ) n y p then _ else _) = _
            rw [if_neg h17, if_pos h36]
          refine zw_iload (nx := 41) C dX7_priceOf_39 rfl rfl ?_
          refine zw_goto (nx := 45) C dX7_priceOf_41 rfl ?_
          refine zw_ist3 (nx := 46) C (eIst_n dX7_priceOf_45 rfl rfl) (Nat.le_of_ble_eq_true rfl) rfl ?_
          refine zw_iinc4 (nx := 49) C dX7_priceOf_46 rfl (Nat.le_of_ble_eq_true rfl) rfl ?_
          refine zw_goto (nx := 5) C dX7_priceOf_49 rfl ?_
          have := ih (p + 1) (by omega) (some (zi (sOff (mV ζ) n y p)))
          rw [e] at this
          exact this
      · refine zw_iconst (nx := 21) C dX7_priceOf_20 rfl ?_
        refine zw_goto (nx := 31) C dX7_priceOf_21 rfl ?_
        refine zw_ist5 (nx := 33) C (eIst_w dX7_priceOf_31 rfl) (Nat.le_of_ble_eq_true rfl) rfl ?_
        refine zw_iload (nx := 35) C dX7_priceOf_33 rfl rfl ?_
        refine zw_iload_n (i := 3) (nx := 36) C dX7_priceOf_35 rfl rfl rfl ?_
        refine zw_icmp_le (tgt := 44) (nx := 39) C dX7_priceOf_36 rfl rfl (by omega) (fun h36 => ?_) (fun h36 => by exfalso; omega)
        exact go _ (if_pos h17)
  refine zw_iconst (nx := 1) C dX7_priceOf_0 rfl ?_
  refine zw_ist3 (nx := 2) C (eIst_n dX7_priceOf_1 rfl rfl) (Nat.le_of_ble_eq_true rfl) rfl ?_
  refine zw_iconst (nx := 3) C dX7_priceOf_2 rfl ?_
  refine zw_ist4 (nx := 5) C (eIst_w dX7_priceOf_3 rfl) (Nat.le_of_ble_eq_true rfl) rfl ?_
  exact loop n 0 (by omega) _
theorem run_X7_hurtIn {n : Nat} (hc : mOk ζ n) {p y : Nat} (hp : p < n) (hy : y < 8) : zRun l B mX7_hurtIn [.ref 52, zi p, zi y] ζ (some (zi (sSum (sHurt (mV ζ) n p y) n))) ζ := by
  have hn := hc.1.1
  have e1 : sSum (sOth (mV (zU ζ 58 p (-1))) n p) n = sSum (sOth (vS (mV ζ) p (-1)) n p) n := sSum_congr n (fun q _ => by unfold sOth; rw [sNow_cg (mV_S ζ p (-1))])
  have e2 : sSum (sOth (mV (zU (zU ζ 58 p (-1)) 58 p y)) n p) n = sSum (sOth (vS (mV ζ) p y) n p) n := by
    rw [zU_over]
    exact sSum_congr n (fun q _ => by unfold sOth; rw [sNow_cg (mV_S ζ p y)])
  have e3 := sSum_sub _ _ _ n (fun q hq => sHurt_eq (mV ζ) n p y q hp (hc.1.2.2.2.2 q hq).2.2.2.1)
  rw [← e3, ← e1, ← e2]
  refine zrun_intro (M := mX7_hurtIn) (ls := [some (.ref 52), some (zi p), some (zi y), none, none, none]) (by decide) rfl rfl rfl (Nat.le_of_ble_eq_true rfl) ?_
  intro X A C hX hA hr hk
  replace C : CX X B A mX7_hurtIn.2.2.2.2 RX7 cX7_hurtIn 6 0 0 := C
  have hr : (xMeth X).sig.returnType = (some .int) := hr
  change ZW X B A 6 0 0 _ _ 0 [some (.ref 52), some (zi p), some (zi y), none, none, none] []
  refine zw_aload_n (i := 0) (nx := 1) C dX7_hurtIn_0 rfl rfl rfl ?_
  refine zw_getr (nx := 4) C dX7_hurtIn_1 rfl flX7_32 iq6 rfl rfl rfl rfl ?_
  refine zw_iload_n (i := 1) (nx := 5) C dX7_hurtIn_4 rfl rfl rfl ?_
  refine zw_iald (p) (nx := 6) C dX7_hurtIn_5 rfl rfl rfl rfl (by omega) ?_
  refine zw_ist3 (nx := 7) C (eIst_n dX7_hurtIn_6 rfl rfl) (Nat.le_of_ble_eq_true rfl) rfl ?_
  refine zw_aload_n (i := 0) (nx := 8) C dX7_hurtIn_7 rfl rfl rfl ?_
  refine zw_getr (nx := 11) C dX7_hurtIn_8 rfl flX7_32 iq6 rfl rfl rfl rfl ?_
  refine zw_iload_n (i := 1) (nx := 12) C dX7_hurtIn_11 rfl rfl rfl ?_
  refine zw_iconst (nx := 13) C dX7_hurtIn_12 rfl ?_
  refine zw_iast (p) (nx := 14) C dX7_hurtIn_13 rfl rfl rfl rfl (by omega) ?_
  refine zw_aload_n (i := 0) (nx := 15) C dX7_hurtIn_14 rfl rfl rfl ?_
  refine zw_iload_n (i := 1) (nx := 16) C dX7_hurtIn_15 rfl rfl rfl ?_
  refine zw_cV11 (nx := 19) C dX7_hurtIn_16 rfl cvX7_242 rfl rfl ⟨Nat.le_of_ble_eq_true rfl, Nat.le_of_ble_eq_true rfl⟩ rfl rfl (Nat.le_of_ble_eq_true rfl) (run_X7_othersSee (mOk_S hc p (by omega)) (by omega)) ?_
  refine zw_ist4 (nx := 21) C (eIst_w dX7_hurtIn_19 rfl) (Nat.le_of_ble_eq_true rfl) rfl ?_
  refine zw_aload_n (i := 0) (nx := 22) C dX7_hurtIn_21 rfl rfl rfl ?_
  refine zw_getr (nx := 25) C dX7_hurtIn_22 rfl flX7_32 iq6 rfl rfl rfl rfl ?_
  refine zw_iload_n (i := 1) (nx := 26) C dX7_hurtIn_25 rfl rfl rfl ?_
  refine zw_iload_n (i := 2) (nx := 27) C dX7_hurtIn_26 rfl rfl rfl ?_
  refine zw_iast (p) (nx := 28) C dX7_hurtIn_27 rfl rfl rfl rfl (by omega) ?_
  refine zw_aload_n (i := 0) (nx := 29) C dX7_hurtIn_28 rfl rfl rfl ?_
  refine zw_iload_n (i := 1) (nx := 30) C dX7_hurtIn_29 rfl rfl rfl ?_
  refine zw_cV11 (nx := 33) C dX7_hurtIn_30 rfl cvX7_242 rfl rfl ⟨Nat.le_of_ble_eq_true rfl, Nat.le_of_ble_eq_true rfl⟩ rfl rfl (Nat.le_of_ble_eq_true rfl) (run_X7_othersSee (mOk_S (mOk_S hc p (by omega)) p (by omega)) (by omega)) ?_
  refine zw_ist5 (nx := 35) C (eIst_w dX7_hurtIn_33 rfl) (Nat.le_of_ble_eq_true rfl) rfl ?_
  refine zw_aload_n (i := 0) (nx := 36) C dX7_hurtIn_35 rfl rfl rfl ?_
  refine zw_getr (nx := 39) C dX7_hurtIn_36 rfl flX7_32 iq6 rfl rfl rfl rfl ?_
  refine zw_iload_n (i := 1) (nx := 40) C dX7_hurtIn_39 rfl rfl rfl ?_
  refine zw_iload_n (i := 3) (nx := 41) C dX7_hurtIn_40 rfl rfl rfl ?_
  refine zw_iast (p) (nx := 42) C dX7_hurtIn_41 rfl rfl rfl rfl (by omega) ?_
  refine zw_iload (nx := 44) C dX7_hurtIn_42 rfl rfl ?_
  refine zw_iload (nx := 46) C dX7_hurtIn_44 rfl rfl ?_
  refine zw_isub (nx := 47) C dX7_hurtIn_46 rfl ?_
  exact zw_iret C hA hr hk dX7_hurtIn_47 rfl (by rw [zU_over]; exact (zU_back ζ 58 p (-1) (ζ.1 58 p) rfl).symm)
end Model2
