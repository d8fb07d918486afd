/-! reading a text: the pure tokens, and the class's tokens -/
def rn (P : Int → Bool) (T : Nat → Int) : Nat → Nat → Nat
  | 0, i => i
  | k + 1, i => if P (T i) = true then rn P T k (i + 1) else i
theorem rn_bd {P : Int → Bool} {T : Nat → Int} : ∀ k i, i ≤ rn P T k i ∧ rn P T k i ≤ i + k
  | 0, i => ⟨Nat.le_refl _, Nat.le_refl _⟩
  | k + 1, i => by
    have ih := rn_bd (P := P) (T := T) k (i + 1)
    unfold rn
    split
    · omega
    · omega
theorem rn_all {P : Int → Bool} {T : Nat → Int} : ∀ k i j, i ≤ j → j < rn P T k i → P (T j) = true
  | 0, i, j, h1, h2 => by unfold rn at h2; omega
  | k + 1, i, j, h1, h2 => by
    unfold rn at h2
    by_cases e : P (T i) = true
    · rw [if_pos e] at h2
      by_cases hj : j = i
      · rw [hj]; exact e
      · exact rn_all k (i + 1) j (by omega) h2
    · rw [if_neg e] at h2; omega
theorem rn_end {P : Int → Bool} {T : Nat → Int} : ∀ k i, rn P T k i < i + k → P (T (rn P T k i)) = false
  | 0, i, h => by unfold rn at h; omega
  | k + 1, i, h => by
    by_cases e : P (T i) = true
    · have e2 : rn P T (k + 1) i = rn P T k (i + 1) := if_pos e
      rw [e2] at h ⊢
      exact rn_end k (i + 1) (by omega)
    · have e2 : rn P T (k + 1) i = i := if_neg e
      rw [e2]
      simpa using e
theorem rn_s {P : Int → Bool} {T : Nat → Int} {k i : Nat} (e : P (T i) = true) : rn P T (k + 1) i = rn P T k (i + 1) := if_pos e
theorem rn_n {P : Int → Bool} {T : Nat → Int} {k i : Nat} (e : P (T i) = false) : rn P T (k + 1) i = i := if_neg (by rw [e]; decide)
def isSp (c : Int) : Bool := decide (c = 32)
def isLt (c : Int) : Bool := decide (97 ≤ c ∧ c ≤ 122)
def isFg (c : Int) : Bool := decide (48 ≤ c ∧ c ≤ 57)
def sk (T : Nat → Int) (t i : Nat) : Nat := rn isSp T (t - i) i
def lE (T : Nat → Int) (t s : Nat) : Nat := rn isLt T (t - s) s
def fE (T : Nat → Int) (t s : Nat) : Nat := rn isFg T (t - s) s
theorem sk_bd (T : Nat → Int) {t i : Nat} (h : i ≤ t) : i ≤ sk T t i ∧ sk T t i ≤ t := by
  have := rn_bd (P := isSp) (T := T) (t - i) i
  unfold sk; omega
theorem lE_bd (T : Nat → Int) {t i : Nat} (h : i ≤ t) : i ≤ lE T t i ∧ lE T t i ≤ t := by
  have := rn_bd (P := isLt) (T := T) (t - i) i
  unfold lE; omega
theorem fE_bd (T : Nat → Int) {t i : Nat} (h : i ≤ t) : i ≤ fE T t i ∧ fE T t i ≤ t := by
  have := rn_bd (P := isFg) (T := T) (t - i) i
  unfold fE; omega
theorem fE_lE {T : Nat → Int} {t s : Nat} (h : s < fE T t s) : lE T t s = s := by
  have h1 := of_decide_eq_true (rn_all (P := isFg) (T := T) (t - s) s s (Nat.le_refl _) h)
  have hb := rn_bd (P := isFg) (T := T) (t - s) s
  unfold fE at h
  unfold lE
  rw [show t - s = (t - s - 1) + 1 by omega]
  exact rn_n (decide_eq_false (by omega))
def tkE (T : Nat → Int) (t s : Nat) : Nat := if t ≤ s then s else if s < lE T t s then lE T t s else if s < fE T t s then fE T t s else s + 1
def tkK (T : Nat → Int) (t s : Nat) : Int := if t ≤ s then 0 else if s < lE T t s then 1 else if s < fE T t s then (if fE T t s - s ≤ 2 then 2 else 4) else if T s = 59 then 3 else 4
def nV (T : Nat → Int) (s e : Nat) : Int := 10 * (if e - s = 2 then T s - 48 else 0) + T (e - 1) - 48
def tkV (T : Nat → Int) (t s : Nat) (v : Int) : Int := if t ≤ s then v else if s < lE T t s then v else if s < fE T t s then nV T s (fE T t s) else v
/-- the text as the class has it -/
def TXo (ζ : zSt) (t : Nat) (T : Nat → Int) : Prop := (ζ.1 39 1 = t ∧ t ≤ 150) ∧ ∀ j, j < t → ζ.1 40 j = T j ∧ 0 ≤ T j ∧ T j ≤ 127
def tS (ζ : zSt) (a k s v : Int) : zSt := zU (zU (zU (zU ζ 39 2 a) 39 3 k) 39 4 s) 39 5 v
theorem tS_at (ζ : zSt) (a k s v : Int) (i j : Nat) : (tS ζ a k s v).1 i j = if i = 39 ∧ j = 5 then v else if i = 39 ∧ j = 4 then s else if i = 39 ∧ j = 3 then k else if i = 39 ∧ j = 2 then a else ζ.1 i j := rfl
theorem tS_2 (ζ : zSt) (a k s v x : Int) : zU (tS ζ a k s v) 39 2 x = tS ζ x k s v := by
  refine Prod.ext (funext fun i => funext fun j => ?_) rfl
  rw [zU_at, tS_at, tS_at]
  by_cases h : i = 39 ∧ j = 2
  · obtain ⟨rfl, rfl⟩ := h; simp
  · simp only [if_neg h]
theorem tS_3 (ζ : zSt) (a k s v x : Int) : zU (tS ζ a k s v) 39 3 x = tS ζ a x s v := by
  refine Prod.ext (funext fun i => funext fun j => ?_) rfl
  rw [zU_at, tS_at, tS_at]
  by_cases h : i = 39 ∧ j = 3
  · obtain ⟨rfl, rfl⟩ := h; simp
  · simp only [if_neg h]
theorem tS_4 (ζ : zSt) (a k s v x : Int) : zU (tS ζ a k s v) 39 4 x = tS ζ a k x v := by
  refine Prod.ext (funext fun i => funext fun j => ?_) rfl
  rw [zU_at, tS_at, tS_at]
  by_cases h : i = 39 ∧ j = 4
  · obtain ⟨rfl, rfl⟩ := h; simp
  · simp only [if_neg h]
theorem tS_5 (ζ : zSt) (a k s v x : Int) : zU (tS ζ a k s v) 39 5 x = tS ζ a k s x := by
  refine Prod.ext (funext fun i => funext fun j => ?_) rfl
  rw [zU_at, tS_at, tS_at]
  by_cases h : i = 39 ∧ j = 5
  · obtain ⟨rfl, rfl⟩ := h; simp
  · simp only [if_neg h]
theorem tS_self (ζ : zSt) : tS ζ (ζ.1 39 2) (ζ.1 39 3) (ζ.1 39 4) (ζ.1 39 5) = ζ := by
  refine Prod.ext (funext fun i => funext fun j => ?_) rfl
  rw [tS_at]
  split
  · rename_i h; rw [h.1, h.2]
  · split
    · rename_i h; rw [h.1, h.2]
    · split
      · rename_i h; rw [h.1, h.2]
      · split
        · rename_i h; rw [h.1, h.2]
        · rfl
section TextC
variable {l : Launch} {B : eB} {ζ : zSt}
theorem run_X5_isLetter {c : Int} (hc : -2147483648 ≤ c ∧ c ≤ 2147483647) : zRun l B mX5_isLetter [zi c] ζ (some (zi (b2i (isLt c)))) ζ := by
  refine zrun_intro (M := mX5_isLetter) (ls := [some (zi c)]) (by decide) rfl rfl rfl (Nat.le_of_ble_eq_true rfl) ?_
  intro X A C hX hA hr hk
  replace C : CX X B A mX5_isLetter.2.2.2.2 RX5 cX5_isLetter 1 0 0 := C
  have hr : (xMeth X).sig.returnType = (some .boolean) := hr
  change ZW X B A 1 0 0 _ _ 0 [some (zi c)] []
  by_cases h1 : 97 ≤ c
  · by_cases h2 : c ≤ 122
    · have e : isLt c = true := decide_eq_true ⟨h1, h2⟩
      rw [e]
      refine zw_iload_n (i := 0) (nx := 1) C dX5_isLetter_0 rfl rfl rfl ?_
      refine zw_bipush (v := 97) (nx := 3) C dX5_isLetter_1 (by decide) rfl ?_
      refine zw_icmp_lt (tgt := 16) (nx := 6) C dX5_isLetter_3 rfl rfl (by omega) (fun h3 => by exfalso; omega) (fun h3 => ?_)
      refine zw_iload_n (i := 0) (nx := 7) C dX5_isLetter_6 rfl rfl rfl ?_
      refine zw_bipush (v := 122) (nx := 9) C dX5_isLetter_7 (by decide) rfl ?_
      refine zw_icmp_gt (tgt := 16) (nx := 12) C dX5_isLetter_9 rfl rfl (by omega) (fun h9 => by exfalso; omega) (fun h9 => ?_)
      refine zw_iconst (nx := 13) C dX5_isLetter_12 rfl ?_
      refine zw_goto (nx := 17) C dX5_isLetter_13 rfl ?_
      exact zw_zret C hA hr hk dX5_isLetter_17 rfl rfl rfl
    · have e : isLt c = false := decide_eq_false (by omega)
      rw [e]
      refine zw_iload_n (i := 0) (nx := 1) C dX5_isLetter_0 rfl rfl rfl ?_
      refine zw_bipush (v := 97) (nx := 3) C dX5_isLetter_1 (by decide) rfl ?_
      refine zw_icmp_lt (tgt := 16) (nx := 6) C dX5_isLetter_3 rfl rfl (by omega) (fun h3 => by exfalso; omega) (fun h3 => ?_)
      refine zw_iload_n (i := 0) (nx := 7) C dX5_isLetter_6 rfl rfl rfl ?_
      refine zw_bipush (v := 122) (nx := 9) C dX5_isLetter_7 (by decide) rfl ?_
      refine zw_icmp_gt (tgt := 16) (nx := 12) C dX5_isLetter_9 rfl rfl (by omega) (fun h9 => ?_) (fun h9 => by exfalso; omega)
      refine zw_iconst (nx := 17) C dX5_isLetter_16 rfl ?_
      exact zw_zret C hA hr hk dX5_isLetter_17 rfl rfl rfl
  · have e : isLt c = false := decide_eq_false (by omega)
    rw [e]
    refine zw_iload_n (i := 0) (nx := 1) C dX5_isLetter_0 rfl rfl rfl ?_
    refine zw_bipush (v := 97) (nx := 3) C dX5_isLetter_1 (by decide) rfl ?_
    refine zw_icmp_lt (tgt := 16) (nx := 6) C dX5_isLetter_3 rfl rfl (by omega) (fun h3 => ?_) (fun h3 => by exfalso; omega)
    refine zw_iconst (nx := 17) C dX5_isLetter_16 rfl ?_
    exact zw_zret C hA hr hk dX5_isLetter_17 rfl rfl rfl
theorem run_X5_isFigure {c : Int} (hc : -2147483648 ≤ c ∧ c ≤ 2147483647) : zRun l B mX5_isFigure [zi c] ζ (some (zi (b2i (isFg c)))) ζ := by
  refine zrun_intro (M := mX5_isFigure) (ls := [some (zi c)]) (by decide) rfl rfl rfl (Nat.le_of_ble_eq_true rfl) ?_
  intro X A C hX hA hr hk
  replace C : CX X B A mX5_isFigure.2.2.2.2 RX5 cX5_isFigure 1 0 0 := C
  have hr : (xMeth X).sig.returnType = (some .boolean) := hr
  change ZW X B A 1 0 0 _ _ 0 [some (zi c)] []
  by_cases h1 : 48 ≤ c
  · by_cases h2 : c ≤ 57
    · have e : isFg c = true := decide_eq_true ⟨h1, h2⟩
      rw [e]
      refine zw_iload_n (i := 0) (nx := 1) C dX5_isFigure_0 rfl rfl rfl ?_
      refine zw_bipush (v := 48) (nx := 3) C dX5_isFigure_1 (by decide) rfl ?_
      refine zw_icmp_lt (tgt := 16) (nx := 6) C dX5_isFigure_3 rfl rfl (by omega) (fun h3 => by exfalso; omega) (fun h3 => ?_)
      refine zw_iload_n (i := 0) (nx := 7) C dX5_isFigure_6 rfl rfl rfl ?_
      refine zw_bipush (v := 57) (nx := 9) C dX5_isFigure_7 (by decide) rfl ?_
      refine zw_icmp_gt (tgt := 16) (nx := 12) C dX5_isFigure_9 rfl rfl (by omega) (fun h9 => by exfalso; omega) (fun h9 => ?_)
      refine zw_iconst (nx := 13) C dX5_isFigure_12 rfl ?_
      refine zw_goto (nx := 17) C dX5_isFigure_13 rfl ?_
      exact zw_zret C hA hr hk dX5_isFigure_17 rfl rfl rfl
    · have e : isFg c = false := decide_eq_false (by omega)
      rw [e]
      refine zw_iload_n (i := 0) (nx := 1) C dX5_isFigure_0 rfl rfl rfl ?_
      refine zw_bipush (v := 48) (nx := 3) C dX5_isFigure_1 (by decide) rfl ?_
      refine zw_icmp_lt (tgt := 16) (nx := 6) C dX5_isFigure_3 rfl rfl (by omega) (fun h3 => by exfalso; omega) (fun h3 => ?_)
      refine zw_iload_n (i := 0) (nx := 7) C dX5_isFigure_6 rfl rfl rfl ?_
      refine zw_bipush (v := 57) (nx := 9) C dX5_isFigure_7 (by decide) rfl ?_
      refine zw_icmp_gt (tgt := 16) (nx := 12) C dX5_isFigure_9 rfl rfl (by omega) (fun h9 => ?_) (fun h9 => by exfalso; omega)
      refine zw_iconst (nx := 17) C dX5_isFigure_16 rfl ?_
      exact zw_zret C hA hr hk dX5_isFigure_17 rfl rfl rfl
  · have e : isFg c = false := decide_eq_false (by omega)
    rw [e]
    refine zw_iload_n (i := 0) (nx := 1) C dX5_isFigure_0 rfl rfl rfl ?_
    refine zw_bipush (v := 48) (nx := 3) C dX5_isFigure_1 (by decide) rfl ?_
    refine zw_icmp_lt (tgt := 16) (nx := 6) C dX5_isFigure_3 rfl rfl (by omega) (fun h3 => ?_) (fun h3 => by exfalso; omega)
    refine zw_iconst (nx := 17) C dX5_isFigure_16 rfl ?_
    exact zw_zret C hA hr hk dX5_isFigure_17 rfl rfl rfl
set_option maxHeartbeats 8000000 in
theorem run_X5_step {t i : Nat} {T : Nat → Int} (hx : TXo ζ t T) (hit : i ≤ t) {k s v : Int} : zRun l B mX5_step [.ref 39] (tS ζ i k s v) none (tS ζ (tkE T t (sk T t i)) (tkK T t (sk T t i)) (sk T t i) (tkV T t (sk T t i) v)) := by
  obtain ⟨⟨hx1, hx2⟩, hx3⟩ := hx
  have f1 : ∀ a k s v, (tS ζ a k s v).1 39 1 = (t : Int) := fun _ _ _ _ => hx1
  have f4 : ∀ a k s v j, j < t → (tS ζ a k s v).1 40 j = T j := fun _ _ _ _ j hj => (hx3 j hj).1
  have hSb := sk_bd T hit
  refine zrun_intro (M := mX5_step) (ls := [some (.ref 39)]) (by decide) rfl rfl rfl (Nat.le_of_ble_eq_true rfl) ?_
  intro X A C hX hA hr hk
  replace C : CX X B A mX5_step.2.2.2.2 RX5 cX5_step 1 0 0 := C
  have hr : (xMeth X).sig.returnType = none := hr
  change ZW X B A 1 0 0 _ _ 0 [some (.ref 39)] []
  generalize hτ : tS ζ (tkE T t (sk T t i)) (tkK T t (sk T t i)) (sk T t i) (tkV T t (sk T t i) v) = τ
  have l1 : ∀ m i : Nat, i + m = t → ZW X B A 1 0 0 (eFin X B none (zz τ)) (tS ζ (rn isSp T m i) k s v) 38 [some (.ref 39)] [] → ZW X B A 1 0 0 (eFin X B none (zz τ)) (tS ζ i k s v) 0 [some (.ref 39)] [] := by
    intro m
    induction m with
    | zero =>
      intro i hi K
      have r1 := f1 i k s v
      have r2 : (tS ζ i k s v).1 39 2 = (i : Int) := rfl
      refine zw_aload_n (i := 0) (nx := 1) C dX5_step_0 rfl rfl rfl ?_
      refine zw_geti (nx := 4) C dX5_step_1 rfl flX5_19 iq4 rfl rfl rfl rfl ?_
      refine zw_aload_n (i := 0) (nx := 5) C dX5_step_4 rfl rfl rfl ?_
      refine zw_geti (nx := 8) C dX5_step_5 rfl flX5_15 iq4 rfl rfl rfl rfl ?_
      refine zw_icmp_ge (tgt := 38) (nx := 11) C dX5_step_8 rfl rfl (by omega) (fun h8 => ?_) (fun h8 => by exfalso; omega)
      exact K
    | succ m ih =>
      intro i hi K
      have r1 := f1 i k s v
      have r2 : (tS ζ i k s v).1 39 2 = (i : Int) := rfl
      have r4 := f4 i k s v i (by omega)
      have b4 := (hx3 i (by omega)).2
      refine zw_aload_n (i := 0) (nx := 1) C dX5_step_0 rfl rfl rfl ?_
      refine zw_geti (nx := 4) C dX5_step_1 rfl flX5_19 iq4 rfl rfl rfl rfl ?_
      refine zw_aload_n (i := 0) (nx := 5) C dX5_step_4 rfl rfl rfl ?_
      refine zw_geti (nx := 8) C dX5_step_5 rfl flX5_15 iq4 rfl rfl rfl rfl ?_
      refine zw_icmp_ge (tgt := 38) (nx := 11) C dX5_step_8 rfl rfl (by omega) (fun h8 => by exfalso; omega) (fun h8 => ?_)
      refine zw_aload_n (i := 0) (nx := 12) C dX5_step_11 rfl rfl rfl ?_
      refine zw_getr (nx := 15) C dX5_step_12 rfl flX5_9 iq4 rfl rfl rfl rfl ?_
      refine zw_aload_n (i := 0) (nx := 16) C dX5_step_15 rfl rfl rfl ?_
      refine zw_geti (nx := 19) C dX5_step_16 rfl flX5_19 iq4 rfl rfl rfl rfl ?_
      refine zw_bald (i) (nx := 20) C dX5_step_19 rfl rfl rfl rfl (by omega) ?_
      rw [r4]
      refine zw_bipush (v := 32) (nx := 22) C dX5_step_20 (by decide) rfl ?_
      refine zw_icmp_ne (tgt := 38) (nx := 25) C dX5_step_22 rfl rfl (by omega) (fun h22 => ?_) (fun h22 => ?_)
      · rw [rn_n (decide_eq_false h22)] at K
        exact K
      · rw [rn_s (decide_eq_true h22)] at K
        refine zw_aload_n (i := 0) (nx := 26) C dX5_step_25 rfl rfl rfl ?_
        refine zw_dup (nx := 27) C dX5_step_26 rfl rfl ?_
        refine zw_geti (nx := 30) C dX5_step_27 rfl flX5_19 iq4 rfl rfl rfl rfl ?_
        refine zw_iconst (nx := 31) C dX5_step_30 rfl ?_
        refine zw_iadd (nx := 32) C dX5_step_31 rfl ?_
        refine zw_puti (nx := 35) C dX5_step_32 rfl flX5_19 ic4 nf4_2 rfl rfl rfl rfl rfl ?_
        refine zw_goto (nx := 0) C dX5_step_35 rfl ?_
        rw [tS_2, r2]
        exact ih (i + 1) (by omega) K
  have l2 : ∀ m j : Nat, j + m = t → ∀ s : Int, ZW X B A 1 0 0 (eFin X B none (zz τ)) (tS ζ (rn isLt T m j) k s v) 102 [some (.ref 39)] [] → ZW X B A 1 0 0 (eFin X B none (zz τ)) (tS ζ j k s v) 63 [some (.ref 39)] [] := by
    intro m
    induction m with
    | zero =>
      intro i hi s K
      have r1 := f1 i k s v
      have r2 : (tS ζ i k s v).1 39 2 = (i : Int) := rfl
      refine zw_aload_n (i := 0) (nx := 64) C dX5_step_63 rfl rfl rfl ?_
      refine zw_geti (nx := 67) C dX5_step_64 rfl flX5_19 iq4 rfl rfl rfl rfl ?_
      refine zw_aload_n (i := 0) (nx := 68) C dX5_step_67 rfl rfl rfl ?_
      refine zw_geti (nx := 71) C dX5_step_68 rfl flX5_15 iq4 rfl rfl rfl rfl ?_
      refine zw_icmp_ge (tgt := 102) (nx := 74) C dX5_step_71 rfl rfl (by omega) (fun h71 => ?_) (fun h71 => by exfalso; omega)
      exact K
    | succ m ih =>
      intro i hi s K
      have r1 := f1 i k s v
      have r2 : (tS ζ i k s v).1 39 2 = (i : Int) := rfl
      have r4 := f4 i k s v i (by omega)
      have b4 := (hx3 i (by omega)).2
      refine zw_aload_n (i := 0) (nx := 64) C dX5_step_63 rfl rfl rfl ?_
      refine zw_geti (nx := 67) C dX5_step_64 rfl flX5_19 iq4 rfl rfl rfl rfl ?_
      refine zw_aload_n (i := 0) (nx := 68) C dX5_step_67 rfl rfl rfl ?_
      refine zw_geti (nx := 71) C dX5_step_68 rfl flX5_15 iq4 rfl rfl rfl rfl ?_
      refine zw_icmp_ge (tgt := 102) (nx := 74) C dX5_step_71 rfl rfl (by omega) (fun h71 => by exfalso; omega) (fun h71 => ?_)
      refine zw_aload_n (i := 0) (nx := 75) C dX5_step_74 rfl rfl rfl ?_
      refine zw_getr (nx := 78) C dX5_step_75 rfl flX5_9 iq4 rfl rfl rfl rfl ?_
      refine zw_aload_n (i := 0) (nx := 79) C dX5_step_78 rfl rfl rfl ?_
      refine zw_geti (nx := 82) C dX5_step_79 rfl flX5_19 iq4 rfl rfl rfl rfl ?_
      refine zw_bald (i) (nx := 83) C dX5_step_82 rfl rfl rfl rfl (by omega) ?_
      rw [r4]
      refine zw_cS11 (nx := 86) C dX5_step_83 rfl csX5_106 ⟨Nat.le_of_ble_eq_true rfl, Nat.le_of_ble_eq_true rfl⟩ (Nat.le_of_ble_eq_true rfl) (run_X5_isLetter (by omega)) ?_
      refine zw_ifb_eq (tgt := 102) (nx := 89) C dX5_step_86 rfl rfl (fun h86 => ?_) (fun h86 => ?_)
      · rw [rn_n h86] at K
        exact K
      · rw [rn_s h86] at K
        refine zw_aload_n (i := 0) (nx := 90) C dX5_step_89 rfl rfl rfl ?_
        refine zw_dup (nx := 91) C dX5_step_90 rfl rfl ?_
        refine zw_geti (nx := 94) C dX5_step_91 rfl flX5_19 iq4 rfl rfl rfl rfl ?_
        refine zw_iconst (nx := 95) C dX5_step_94 rfl ?_
        refine zw_iadd (nx := 96) C dX5_step_95 rfl ?_
        refine zw_puti (nx := 99) C dX5_step_96 rfl flX5_19 ic4 nf4_2 rfl rfl rfl rfl rfl ?_
        refine zw_goto (nx := 63) C dX5_step_99 rfl ?_
        rw [tS_2, r2]
        exact ih (i + 1) (by omega) s K
  have l3 : ∀ m j : Nat, j + m = t → ∀ s : Int, ZW X B A 1 0 0 (eFin X B none (zz τ)) (tS ζ (rn isFg T m j) k s v) 158 [some (.ref 39)] [] → ZW X B A 1 0 0 (eFin X B none (zz τ)) (tS ζ j k s v) 119 [some (.ref 39)] [] := by
    intro m
    induction m with
    | zero =>
      intro i hi s K
      have r1 := f1 i k s v
      have r2 : (tS ζ i k s v).1 39 2 = (i : Int) := rfl
      refine zw_aload_n (i := 0) (nx := 120) C dX5_step_119 rfl rfl rfl ?_
      refine zw_geti (nx := 123) C dX5_step_120 rfl flX5_19 iq4 rfl rfl rfl rfl ?_
      refine zw_aload_n (i := 0) (nx := 124) C dX5_step_123 rfl rfl rfl ?_
      refine zw_geti (nx := 127) C dX5_step_124 rfl flX5_15 iq4 rfl rfl rfl rfl ?_
      refine zw_icmp_ge (tgt := 158) (nx := 130) C dX5_step_127 rfl rfl (by omega) (fun h127 => ?_) (fun h127 => by exfalso; omega)
      exact K
    | succ m ih =>
      intro i hi s K
      have r1 := f1 i k s v
      have r2 : (tS ζ i k s v).1 39 2 = (i : Int) := rfl
      have r4 := f4 i k s v i (by omega)
      have b4 := (hx3 i (by omega)).2
      refine zw_aload_n (i := 0) (nx := 120) C dX5_step_119 rfl rfl rfl ?_
      refine zw_geti (nx := 123) C dX5_step_120 rfl flX5_19 iq4 rfl rfl rfl rfl ?_
      refine zw_aload_n (i := 0) (nx := 124) C dX5_step_123 rfl rfl rfl ?_
      refine zw_geti (nx := 127) C dX5_step_124 rfl flX5_15 iq4 rfl rfl rfl rfl ?_
      refine zw_icmp_ge (tgt := 158) (nx := 130) C dX5_step_127 rfl rfl (by omega) (fun h127 => by exfalso; omega) (fun h127 => ?_)
      refine zw_aload_n (i := 0) (nx := 131) C dX5_step_130 rfl rfl rfl ?_
      refine zw_getr (nx := 134) C dX5_step_131 rfl flX5_9 iq4 rfl rfl rfl rfl ?_
      refine zw_aload_n (i := 0) (nx := 135) C dX5_step_134 rfl rfl rfl ?_
      refine zw_geti (nx := 138) C dX5_step_135 rfl flX5_19 iq4 rfl rfl rfl rfl ?_
      refine zw_bald (i) (nx := 139) C dX5_step_138 rfl rfl rfl rfl (by omega) ?_
      rw [r4]
      refine zw_cS11 (nx := 142) C dX5_step_139 rfl csX5_109 ⟨Nat.le_of_ble_eq_true rfl, Nat.le_of_ble_eq_true rfl⟩ (Nat.le_of_ble_eq_true rfl) (run_X5_isFigure (by omega)) ?_
      refine zw_ifb_eq (tgt := 158) (nx := 145) C dX5_step_142 rfl rfl (fun h142 => ?_) (fun h142 => ?_)
      · rw [rn_n h142] at K
        exact K
      · rw [rn_s h142] at K
        refine zw_aload_n (i := 0) (nx := 146) C dX5_step_145 rfl rfl rfl ?_
        refine zw_dup (nx := 147) C dX5_step_146 rfl rfl ?_
        refine zw_geti (nx := 150) C dX5_step_147 rfl flX5_19 iq4 rfl rfl rfl rfl ?_
        refine zw_iconst (nx := 151) C dX5_step_150 rfl ?_
        refine zw_iadd (nx := 152) C dX5_step_151 rfl ?_
        refine zw_puti (nx := 155) C dX5_step_152 rfl flX5_19 ic4 nf4_2 rfl rfl rfl rfl rfl ?_
        refine zw_goto (nx := 119) C dX5_step_155 rfl ?_
        rw [tS_2, r2]
        exact ih (i + 1) (by omega) s K
  refine l1 (t - i) i (by omega) ?_
  rw [show rn isSp T (t - i) i = sk T t i from rfl]
  generalize sk T t i = S at hτ hSb
  refine zw_aload_n (i := 0) (nx := 39) C dX5_step_38 rfl rfl rfl ?_
  refine zw_aload_n (i := 0) (nx := 40) C dX5_step_39 rfl rfl rfl ?_
  refine zw_geti (nx := 43) C dX5_step_40 rfl flX5_19 iq4 rfl rfl rfl rfl ?_
  refine zw_puti (nx := 46) C dX5_step_43 rfl flX5_25 ic4 nf4_4 rfl rfl rfl rfl rfl ?_
  rw [tS_4, show (tS ζ S k s v).1 39 2 = (S : Int) from rfl]
  have r1 := f1 S k S v
  have r2 : (tS ζ S k S v).1 39 2 = (S : Int) := rfl
  have r3 : (tS ζ S k S v).1 39 4 = (S : Int) := rfl
  by_cases hS : t ≤ S
  · have e1 : tkE T t S = S := if_pos hS
    have e2 : tkK T t S = 0 := if_pos hS
    have e3 : tkV T t S v = v := if_pos hS
    refine zw_aload_n (i := 0) (nx := 47) C dX5_step_46 rfl rfl rfl ?_
    refine zw_geti (nx := 50) C dX5_step_47 rfl flX5_19 iq4 rfl rfl rfl rfl ?_
    refine zw_aload_n (i := 0) (nx := 51) C dX5_step_50 rfl rfl rfl ?_
    refine zw_geti (nx := 54) C dX5_step_51 rfl flX5_15 iq4 rfl rfl rfl rfl ?_
    refine zw_icmp_lt (tgt := 63) (nx := 57) C dX5_step_54 rfl rfl (by omega) (fun h54 => by exfalso; omega) (fun h54 => ?_)
    refine zw_aload_n (i := 0) (nx := 58) C dX5_step_57 rfl rfl rfl ?_
    refine zw_iconst (nx := 59) C dX5_step_58 rfl ?_
    refine zw_puti (nx := 62) C dX5_step_59 rfl flX5_22 ic4 nf4_3 rfl rfl rfl rfl rfl ?_
    exact zw_vret C hA hr hk dX5_step_62 rfl (by rw [tS_3, ← hτ, e1, e2, e3])
  · refine zw_aload_n (i := 0) (nx := 47) C dX5_step_46 rfl rfl rfl ?_
    refine zw_geti (nx := 50) C dX5_step_47 rfl flX5_19 iq4 rfl rfl rfl rfl ?_
    refine zw_aload_n (i := 0) (nx := 51) C dX5_step_50 rfl rfl rfl ?_
    refine zw_geti (nx := 54) C dX5_step_51 rfl flX5_15 iq4 rfl rfl rfl rfl ?_
    refine zw_icmp_lt (tgt := 63) (nx := 57) C dX5_step_54 rfl rfl (by omega) (fun h54 => ?_) (fun h54 => by exfalso; omega)
    refine l2 (t - S) S (by omega) S ?_
    rw [show rn isLt T (t - S) S = lE T t S from rfl]
    have hLb := lE_bd T (show S ≤ t by omega)
    have q2 : (tS ζ (lE T t S) k S v).1 39 2 = (lE T t S : Int) := rfl
    have q3 : (tS ζ (lE T t S) k S v).1 39 4 = (S : Int) := rfl
    by_cases hL : S < lE T t S
    · have e1 : tkE T t S = lE T t S := by unfold tkE; rw [if_neg hS, if_pos hL]
      have e2 : tkK T t S = 1 := by unfold tkK; rw [if_neg hS, if_pos hL]
      have e3 : tkV T t S v = v := by unfold tkV; rw [if_neg hS, if_pos hL]
      refine zw_aload_n (i := 0) (nx := 103) C dX5_step_102 rfl rfl rfl ?_
      refine zw_geti (nx := 106) C dX5_step_103 rfl flX5_19 iq4 rfl rfl rfl rfl ?_
      refine zw_aload_n (i := 0) (nx := 107) C dX5_step_106 rfl rfl rfl ?_
      refine zw_geti (nx := 110) C dX5_step_107 rfl flX5_25 iq4 rfl rfl rfl rfl ?_
      refine zw_icmp_le (tgt := 119) (nx := 113) C dX5_step_110 rfl rfl (by omega) (fun h110 => by exfalso; omega) (fun h110 => ?_)
      refine zw_aload_n (i := 0) (nx := 114) C dX5_step_113 rfl rfl rfl ?_
      refine zw_iconst (nx := 115) C dX5_step_114 rfl ?_
      refine zw_puti (nx := 118) C dX5_step_115 rfl flX5_22 ic4 nf4_3 rfl rfl rfl rfl rfl ?_
      exact zw_vret C hA hr hk dX5_step_118 rfl (by rw [tS_3, ← hτ, e1, e2, e3])
    · refine zw_aload_n (i := 0) (nx := 103) C dX5_step_102 rfl rfl rfl ?_
      refine zw_geti (nx := 106) C dX5_step_103 rfl flX5_19 iq4 rfl rfl rfl rfl ?_
      refine zw_aload_n (i := 0) (nx := 107) C dX5_step_106 rfl rfl rfl ?_
      refine zw_geti (nx := 110) C dX5_step_107 rfl flX5_25 iq4 rfl rfl rfl rfl ?_
      refine zw_icmp_le (tgt := 119) (nx := 113) C dX5_step_110 rfl rfl (by omega) (fun h110 => ?_) (fun h110 => by exfalso; omega)
      have eL : lE T t S = S := by omega
      rw [eL]
      refine l3 (t - S) S (by omega) S ?_
      rw [show rn isFg T (t - S) S = fE T t S from rfl]
      have hFb := fE_bd T (show S ≤ t by omega)
      have p2 : (tS ζ (fE T t S) k S v).1 39 2 = (fE T t S : Int) := rfl
      have p3 : (tS ζ (fE T t S) k S v).1 39 4 = (S : Int) := rfl
      by_cases hF : S < fE T t S
      · have e1 : tkE T t S = fE T t S := by unfold tkE; rw [if_neg hS, if_neg hL, if_pos hF]
        have e3 : tkV T t S v = nV T S (fE T t S) := by unfold tkV; rw [if_neg hS, if_neg hL, if_pos hF]
        have bS := (hx3 S (by omega)).2
        have bE := (hx3 (fE T t S - 1) (by omega)).2
        by_cases g1 : fE T t S - S ≤ 2
        · have e2 : tkK T t S = 2 := by unfold tkK; rw [if_neg hS, if_neg hL, if_pos hF, if_pos g1]
          refine zw_aload_n (i := 0) (nx := 159) C dX5_step_158 rfl rfl rfl ?_
          refine zw_geti (nx := 162) C dX5_step_159 rfl flX5_19 iq4 rfl rfl rfl rfl ?_
          refine zw_aload_n (i := 0) (nx := 163) C dX5_step_162 rfl rfl rfl ?_
          refine zw_geti (nx := 166) C dX5_step_163 rfl flX5_25 iq4 rfl rfl rfl rfl ?_
          refine zw_icmp_le (tgt := 243) (nx := 169) C dX5_step_166 rfl rfl (by omega) (fun h166 => by exfalso; omega) (fun h166 => ?_)
          refine zw_aload_n (i := 0) (nx := 170) C dX5_step_169 rfl rfl rfl ?_
          refine zw_aload_n (i := 0) (nx := 171) C dX5_step_170 rfl rfl rfl ?_
          refine zw_geti (nx := 174) C dX5_step_171 rfl flX5_19 iq4 rfl rfl rfl rfl ?_
          refine zw_aload_n (i := 0) (nx := 175) C dX5_step_174 rfl rfl rfl ?_
          refine zw_geti (nx := 178) C dX5_step_175 rfl flX5_25 iq4 rfl rfl rfl rfl ?_
          refine zw_isub (nx := 179) C dX5_step_178 rfl ?_
          refine zw_iconst (nx := 180) C dX5_step_179 rfl ?_
          refine zw_icmp_gt (tgt := 187) (nx := 183) C dX5_step_180 rfl rfl (by omega) (fun h180 => by exfalso; omega) (fun h180 => ?_)
          refine zw_iconst (nx := 184) C dX5_step_183 rfl ?_
          refine zw_goto (nx := 188) C dX5_step_184 rfl ?_
          refine zw_puti (nx := 191) C dX5_step_188 rfl flX5_22 ic4 nf4_3 rfl rfl rfl rfl rfl ?_
          rw [tS_3]
          have u2 : (tS ζ (fE T t S) 2 S v).1 39 2 = (fE T t S : Int) := rfl
          have u3 : (tS ζ (fE T t S) 2 S v).1 39 4 = (S : Int) := rfl
          have u4 := f4 (fE T t S) 2 S v (fE T t S - 1) (by omega)
          have u5 := f4 (fE T t S) 2 S v S (by omega)
          by_cases g2 : fE T t S - S = 2
          · refine zw_aload_n (i := 0) (nx := 192) C dX5_step_191 rfl rfl rfl ?_
            refine zw_bipush (v := 10) (nx := 194) C dX5_step_192 (by decide) rfl ?_
            refine zw_aload_n (i := 0) (nx := 195) C dX5_step_194 rfl rfl rfl ?_
            refine zw_geti (nx := 198) C dX5_step_195 rfl flX5_19 iq4 rfl rfl rfl rfl ?_
            refine zw_aload_n (i := 0) (nx := 199) C dX5_step_198 rfl rfl rfl ?_
            refine zw_geti (nx := 202) C dX5_step_199 rfl flX5_25 iq4 rfl rfl rfl rfl ?_
            refine zw_isub (nx := 203) C dX5_step_202 rfl ?_
            refine zw_iconst (nx := 204) C dX5_step_203 rfl ?_
            refine zw_icmp_ne (tgt := 222) (nx := 207) C dX5_step_204 rfl rfl (by omega) (fun h204 => by exfalso; omega) (fun h204 => ?_)
            refine zw_aload_n (i := 0) (nx := 208) C dX5_step_207 rfl rfl rfl ?_
            refine zw_getr (nx := 211) C dX5_step_208 rfl flX5_9 iq4 rfl rfl rfl rfl ?_
            refine zw_aload_n (i := 0) (nx := 212) C dX5_step_211 rfl rfl rfl ?_
            refine zw_geti (nx := 215) C dX5_step_212 rfl flX5_25 iq4 rfl rfl rfl rfl ?_
            refine zw_bald (S) (nx := 216) C dX5_step_215 rfl rfl rfl rfl (by omega) ?_
            refine zw_bipush (v := 48) (nx := 218) C dX5_step_216 (by decide) rfl ?_
            refine zw_isub (nx := 219) C dX5_step_218 rfl ?_
            refine zw_goto (nx := 223) C dX5_step_219 rfl ?_
            refine zw_imul (nx := 224) C dX5_step_223 rfl ?_
            refine zw_aload_n (i := 0) (nx := 225) C dX5_step_224 rfl rfl rfl ?_
            refine zw_getr (nx := 228) C dX5_step_225 rfl flX5_9 iq4 rfl rfl rfl rfl ?_
            refine zw_aload_n (i := 0) (nx := 229) C dX5_step_228 rfl rfl rfl ?_
            refine zw_geti (nx := 232) C dX5_step_229 rfl flX5_19 iq4 rfl rfl rfl rfl ?_
            refine zw_iconst (nx := 233) C dX5_step_232 rfl ?_
            refine zw_isub (nx := 234) C dX5_step_233 rfl ?_
            refine zw_bald ((fE T t S - 1)) (nx := 235) C dX5_step_234 rfl rfl rfl rfl (by omega) ?_
            refine zw_iadd (nx := 236) C dX5_step_235 rfl ?_
            refine zw_bipush (v := 48) (nx := 238) C dX5_step_236 (by decide) rfl ?_
            refine zw_isub (nx := 239) C dX5_step_238 rfl ?_
            refine zw_puti (nx := 242) C dX5_step_239 rfl flX5_28 ic4 nf4_5 rfl rfl rfl rfl rfl ?_
            exact zw_vret C hA hr hk dX5_step_242 rfl (by rw [tS_5, ← hτ, e1, e2, e3, u4, u5]; unfold nV; rw [if_pos g2])
          · refine zw_aload_n (i := 0) (nx := 192) C dX5_step_191 rfl rfl rfl ?_
            refine zw_bipush (v := 10) (nx := 194) C dX5_step_192 (by decide) rfl ?_
            refine zw_aload_n (i := 0) (nx := 195) C dX5_step_194 rfl rfl rfl ?_
            refine zw_geti (nx := 198) C dX5_step_195 rfl flX5_19 iq4 rfl rfl rfl rfl ?_
            refine zw_aload_n (i := 0) (nx := 199) C dX5_step_198 rfl rfl rfl ?_
            refine zw_geti (nx := 202) C dX5_step_199 rfl flX5_25 iq4 rfl rfl rfl rfl ?_
            refine zw_isub (nx := 203) C dX5_step_202 rfl ?_
            refine zw_iconst (nx := 204) C dX5_step_203 rfl ?_
            refine zw_icmp_ne (tgt := 222) (nx := 207) C dX5_step_204 rfl rfl (by omega) (fun h204 => ?_) (fun h204 => by exfalso; omega)
            refine zw_iconst (nx := 223) C dX5_step_222 rfl ?_
            refine zw_imul (nx := 224) C dX5_step_223 rfl ?_
            refine zw_aload_n (i := 0) (nx := 225) C dX5_step_224 rfl rfl rfl ?_
            refine zw_getr (nx := 228) C dX5_step_225 rfl flX5_9 iq4 rfl rfl rfl rfl ?_
            refine zw_aload_n (i := 0) (nx := 229) C dX5_step_228 rfl rfl rfl ?_
            refine zw_geti (nx := 232) C dX5_step_229 rfl flX5_19 iq4 rfl rfl rfl rfl ?_
            refine zw_iconst (nx := 233) C dX5_step_232 rfl ?_
            refine zw_isub (nx := 234) C dX5_step_233 rfl ?_
            refine zw_bald ((fE T t S - 1)) (nx := 235) C dX5_step_234 rfl rfl rfl rfl (by omega) ?_
            refine zw_iadd (nx := 236) C dX5_step_235 rfl ?_
            refine zw_bipush (v := 48) (nx := 238) C dX5_step_236 (by decide) rfl ?_
            refine zw_isub (nx := 239) C dX5_step_238 rfl ?_
            refine zw_puti (nx := 242) C dX5_step_239 rfl flX5_28 ic4 nf4_5 rfl rfl rfl rfl rfl ?_
            exact zw_vret C hA hr hk dX5_step_242 rfl (by rw [tS_5, ← hτ, e1, e2, e3, u4]; unfold nV; rw [if_neg g2])
        · have e2 : tkK T t S = 4 := by unfold tkK; rw [if_neg hS, if_neg hL, if_pos hF, if_neg g1]
          refine zw_aload_n (i := 0) (nx := 159) C dX5_step_158 rfl rfl rfl ?_
          refine zw_geti (nx := 162) C dX5_step_159 rfl flX5_19 iq4 rfl rfl rfl rfl ?_
          refine zw_aload_n (i := 0) (nx := 163) C dX5_step_162 rfl rfl rfl ?_
          refine zw_geti (nx := 166) C dX5_step_163 rfl flX5_25 iq4 rfl rfl rfl rfl ?_
          refine zw_icmp_le (tgt := 243) (nx := 169) C dX5_step_166 rfl rfl (by omega) (fun h166 => by exfalso; omega) (fun h166 => ?_)
          refine zw_aload_n (i := 0) (nx := 170) C dX5_step_169 rfl rfl rfl ?_
          refine zw_aload_n (i := 0) (nx := 171) C dX5_step_170 rfl rfl rfl ?_
          refine zw_geti (nx := 174) C dX5_step_171 rfl flX5_19 iq4 rfl rfl rfl rfl ?_
          refine zw_aload_n (i := 0) (nx := 175) C dX5_step_174 rfl rfl rfl ?_
          refine zw_geti (nx := 178) C dX5_step_175 rfl flX5_25 iq4 rfl rfl rfl rfl ?_
          refine zw_isub (nx := 179) C dX5_step_178 rfl ?_
          refine zw_iconst (nx := 180) C dX5_step_179 rfl ?_
          refine zw_icmp_gt (tgt := 187) (nx := 183) C dX5_step_180 rfl rfl (by omega) (fun h180 => ?_) (fun h180 => by exfalso; omega)
          refine zw_iconst (nx := 188) C dX5_step_187 rfl ?_
          refine zw_puti (nx := 191) C dX5_step_188 rfl flX5_22 ic4 nf4_3 rfl rfl rfl rfl rfl ?_
          rw [tS_3]
          have u2 : (tS ζ (fE T t S) 4 S v).1 39 2 = (fE T t S : Int) := rfl
          have u3 : (tS ζ (fE T t S) 4 S v).1 39 4 = (S : Int) := rfl
          have u4 := f4 (fE T t S) 4 S v (fE T t S - 1) (by omega)
          refine zw_aload_n (i := 0) (nx := 192) C dX5_step_191 rfl rfl rfl ?_
          refine zw_bipush (v := 10) (nx := 194) C dX5_step_192 (by decide) rfl ?_
          refine zw_aload_n (i := 0) (nx := 195) C dX5_step_194 rfl rfl rfl ?_
          refine zw_geti (nx := 198) C dX5_step_195 rfl flX5_19 iq4 rfl rfl rfl rfl ?_
          refine zw_aload_n (i := 0) (nx := 199) C dX5_step_198 rfl rfl rfl ?_
          refine zw_geti (nx := 202) C dX5_step_199 rfl flX5_25 iq4 rfl rfl rfl rfl ?_
          refine zw_isub (nx := 203) C dX5_step_202 rfl ?_
          refine zw_iconst (nx := 204) C dX5_step_203 rfl ?_
          refine zw_icmp_ne (tgt := 222) (nx := 207) C dX5_step_204 rfl rfl (by omega) (fun h204 => ?_) (fun h204 => by exfalso; omega)
          refine zw_iconst (nx := 223) C dX5_step_222 rfl ?_
          refine zw_imul (nx := 224) C dX5_step_223 rfl ?_
          refine zw_aload_n (i := 0) (nx := 225) C dX5_step_224 rfl rfl rfl ?_
          refine zw_getr (nx := 228) C dX5_step_225 rfl flX5_9 iq4 rfl rfl rfl rfl ?_
          refine zw_aload_n (i := 0) (nx := 229) C dX5_step_228 rfl rfl rfl ?_
          refine zw_geti (nx := 232) C dX5_step_229 rfl flX5_19 iq4 rfl rfl rfl rfl ?_
          refine zw_iconst (nx := 233) C dX5_step_232 rfl ?_
          refine zw_isub (nx := 234) C dX5_step_233 rfl ?_
          refine zw_bald ((fE T t S - 1)) (nx := 235) C dX5_step_234 rfl rfl rfl rfl (by omega) ?_
          refine zw_iadd (nx := 236) C dX5_step_235 rfl ?_
          refine zw_bipush (v := 48) (nx := 238) C dX5_step_236 (by decide) rfl ?_
          refine zw_isub (nx := 239) C dX5_step_238 rfl ?_
          refine zw_puti (nx := 242) C dX5_step_239 rfl flX5_28 ic4 nf4_5 rfl rfl rfl rfl rfl ?_
          exact zw_vret C hA hr hk dX5_step_242 rfl (by rw [tS_5, ← hτ, e1, e2, e3, u4]; unfold nV; rw [if_neg (by omega)])
      · refine zw_aload_n (i := 0) (nx := 159) C dX5_step_158 rfl rfl rfl ?_
        refine zw_geti (nx := 162) C dX5_step_159 rfl flX5_19 iq4 rfl rfl rfl rfl ?_
        refine zw_aload_n (i := 0) (nx := 163) C dX5_step_162 rfl rfl rfl ?_
        refine zw_geti (nx := 166) C dX5_step_163 rfl flX5_25 iq4 rfl rfl rfl rfl ?_
        refine zw_icmp_le (tgt := 243) (nx := 169) C dX5_step_166 rfl rfl (by omega) (fun h166 => ?_) (fun h166 => by exfalso; omega)
        have eF : fE T t S = S := by omega
        rw [eF]
        have r4 := f4 S k S v S (by omega)
        have bS := (hx3 S (by omega)).2
        have e1 : tkE T t S = S + 1 := by unfold tkE; rw [if_neg hS, if_neg hL, if_neg hF]
        have e3 : tkV T t S v = v := by unfold tkV; rw [if_neg hS, if_neg hL, if_neg hF]
        by_cases g : T S = 59
        · have e2 : tkK T t S = 3 := by unfold tkK; rw [if_neg hS, if_neg hL, if_neg hF, if_pos g]
          refine zw_aload_n (i := 0) (nx := 244) C dX5_step_243 rfl rfl rfl ?_
          refine zw_aload_n (i := 0) (nx := 245) C dX5_step_244 rfl rfl rfl ?_
          refine zw_getr (nx := 248) C dX5_step_245 rfl flX5_9 iq4 rfl rfl rfl rfl ?_
          refine zw_aload_n (i := 0) (nx := 249) C dX5_step_248 rfl rfl rfl ?_
          refine zw_geti (nx := 252) C dX5_step_249 rfl flX5_19 iq4 rfl rfl rfl rfl ?_
          refine zw_bald (S) (nx := 253) C dX5_step_252 rfl rfl rfl rfl (by omega) ?_
          rw [r4]
          refine zw_bipush (v := 59) (nx := 255) C dX5_step_253 (by decide) rfl ?_
          refine zw_icmp_ne (tgt := 262) (nx := 258) C dX5_step_255 rfl rfl (by omega) (fun h255 => by exfalso; omega) (fun h255 => ?_)
          refine zw_iconst (nx := 259) C dX5_step_258 rfl ?_
          refine zw_goto (nx := 263) C dX5_step_259 rfl ?_
          refine zw_puti (nx := 266) C dX5_step_263 rfl flX5_22 ic4 nf4_3 rfl rfl rfl rfl rfl ?_
          rw [tS_3]
          refine zw_aload_n (i := 0) (nx := 267) C dX5_step_266 rfl rfl rfl ?_
          refine zw_dup (nx := 268) C dX5_step_267 rfl rfl ?_
          refine zw_geti (nx := 271) C dX5_step_268 rfl flX5_19 iq4 rfl rfl rfl rfl ?_
          refine zw_iconst (nx := 272) C dX5_step_271 rfl ?_
          refine zw_iadd (nx := 273) C dX5_step_272 rfl ?_
          refine zw_puti (nx := 276) C dX5_step_273 rfl flX5_19 ic4 nf4_2 rfl rfl rfl rfl rfl ?_
          exact zw_vret C hA hr hk dX5_step_276 rfl (by rw [tS_2, ← hτ, e1, e2, e3]; rfl)
        · have e2 : tkK T t S = 4 := by unfold tkK; rw [if_neg hS, if_neg hL, if_neg hF, if_neg g]
          refine zw_aload_n (i := 0) (nx := 244) C dX5_step_243 rfl rfl rfl ?_
          refine zw_aload_n (i := 0) (nx := 245) C dX5_step_244 rfl rfl rfl ?_
          refine zw_getr (nx := 248) C dX5_step_245 rfl flX5_9 iq4 rfl rfl rfl rfl ?_
          refine zw_aload_n (i := 0) (nx := 249) C dX5_step_248 rfl rfl rfl ?_
          refine zw_geti (nx := 252) C dX5_step_249 rfl flX5_19 iq4 rfl rfl rfl rfl ?_
          refine zw_bald (S) (nx := 253) C dX5_step_252 rfl rfl rfl rfl (by omega) ?_
          rw [r4]
          refine zw_bipush (v := 59) (nx := 255) C dX5_step_253 (by decide) rfl ?_
          refine zw_icmp_ne (tgt := 262) (nx := 258) C dX5_step_255 rfl rfl (by omega) (fun h255 => ?_) (fun h255 => by exfalso; omega)
          refine zw_iconst (nx := 263) C dX5_step_262 rfl ?_
          refine zw_puti (nx := 266) C dX5_step_263 rfl flX5_22 ic4 nf4_3 rfl rfl rfl rfl rfl ?_
          rw [tS_3]
          refine zw_aload_n (i := 0) (nx := 267) C dX5_step_266 rfl rfl rfl ?_
          refine zw_dup (nx := 268) C dX5_step_267 rfl rfl ?_
          refine zw_geti (nx := 271) C dX5_step_268 rfl flX5_19 iq4 rfl rfl rfl rfl ?_
          refine zw_iconst (nx := 272) C dX5_step_271 rfl ?_
          refine zw_iadd (nx := 273) C dX5_step_272 rfl ?_
          refine zw_puti (nx := 276) C dX5_step_273 rfl flX5_19 ic4 nf4_2 rfl rfl rfl rfl rfl ?_
          exact zw_vret C hA hr hk dX5_step_276 rfl (by rw [tS_2, ← hτ, e1, e2, e3]; rfl)
/-- the word's letters -/
def mch (T : Nat → Int) (s i : Nat) : Nat → Nat → Bool
  | 0, _ => true
  | m + 1, k => if T (s + k) = eChr i k then mch T s i m (k + 1) else false
def wQ (T : Nat → Int) (s e i : Nat) : Bool := if e - s = eLen.getD i 0 then mch T s i (eLen.getD i 0) 0 else false
theorem run_X5_isWord {t s e i : Nat} {T : Nat → Int} (hx : TXo ζ t T) (hi : i < 5) (h2 : ζ.1 39 2 = e) (h4 : ζ.1 39 4 = s) (hse : s ≤ e) (het : e ≤ t) : zRun l B mX5_isWord [.ref 39, .ref (1000 + i)] ζ (some (zi (b2i (wQ T s e i)))) ζ := by
  obtain ⟨⟨hx1, hx2⟩, hx3⟩ := hx
  have hL := eLen_ok i hi
  refine zrun_intro (M := mX5_isWord) (ls := [some (.ref 39), some (.ref (1000 + i)), none]) (by decide) rfl rfl rfl (Nat.le_of_ble_eq_true rfl) ?_
  intro X A C hX hA hr hk
  replace C : CX X B A mX5_isWord.2.2.2.2 RX5 cX5_isWord 3 0 0 := C
  have hr : (xMeth X).sig.returnType = (some .boolean) := hr
  change ZW X B A 3 0 0 _ _ 0 [some (.ref 39), some (.ref (1000 + i)), none] []
  by_cases hlen : e - s = eLen.getD i 0
  · have eQ : wQ T s e i = mch T s i (eLen.getD i 0) 0 := if_pos hlen
    rw [eQ]
    have loop : ∀ m k : Nat, k + m = eLen.getD i 0 → ZW X B A 3 0 0 (eFin X B (some (zi (b2i (mch T s i m k)))) (zz ζ)) ζ 20 [some (.ref 39), some (.ref (1000 + i)), some (zi k)] [] := by
      intro m
      induction m with
      | zero =>
        intro k hk9
        refine zw_iload_n (i := 2) (nx := 21) C dX5_isWord_20 rfl rfl rfl ?_
        refine zw_aload_n (i := 1) (nx := 22) C dX5_isWord_21 rfl rfl rfl ?_
        refine zw_cW01 hi (nx := 25) C dX5_isWord_22 rfl cvX5_112 rfl ⟨Nat.le_of_ble_eq_true rfl, Nat.le_of_ble_eq_true rfl⟩ (Nat.le_of_ble_eq_true rfl) (run_J0_length hi) ?_
        refine zw_icmp_ge (tgt := 55) (nx := 28) C dX5_isWord_25 rfl rfl (by omega) (fun h25 => ?_) (fun h25 => by exfalso; omega)
        refine zw_iconst (nx := 56) C dX5_isWord_55 rfl ?_
        exact zw_zret C hA hr hk dX5_isWord_56 rfl rfl rfl
      | succ m ih =>
        intro k hk9
        have c0 := (eChr_ok i hi k (by omega)).2.2.2
        obtain ⟨t1, t2⟩ := hx3 (s + k) (by omega)
        refine zw_iload_n (i := 2) (nx := 21) C dX5_isWord_20 rfl rfl rfl ?_
        refine zw_aload_n (i := 1) (nx := 22) C dX5_isWord_21 rfl rfl rfl ?_
        refine zw_cW01 hi (nx := 25) C dX5_isWord_22 rfl cvX5_112 rfl ⟨Nat.le_of_ble_eq_true rfl, Nat.le_of_ble_eq_true rfl⟩ (Nat.le_of_ble_eq_true rfl) (run_J0_length hi) ?_
        refine zw_icmp_ge (tgt := 55) (nx := 28) C dX5_isWord_25 rfl rfl (by omega) (fun h25 => by exfalso; omega) (fun h25 => ?_)
        refine zw_aload_n (i := 0) (nx := 29) C dX5_isWord_28 rfl rfl rfl ?_
        refine zw_getr (nx := 32) C dX5_isWord_29 rfl flX5_9 iq4 rfl rfl rfl rfl ?_
        refine zw_aload_n (i := 0) (nx := 33) C dX5_isWord_32 rfl rfl rfl ?_
        refine zw_geti (nx := 36) C dX5_isWord_33 rfl flX5_25 iq4 rfl rfl rfl rfl ?_
        refine zw_iload_n (i := 2) (nx := 37) C dX5_isWord_36 rfl rfl rfl ?_
        refine zw_iadd (nx := 38) C dX5_isWord_37 rfl ?_
        refine zw_bald ((s + k)) (nx := 39) C dX5_isWord_38 rfl rfl rfl rfl (by omega) ?_
        rw [t1]
        refine zw_aload_n (i := 1) (nx := 40) C dX5_isWord_39 rfl rfl rfl ?_
        refine zw_iload_n (i := 2) (nx := 41) C dX5_isWord_40 rfl rfl rfl ?_
        refine zw_cW11 hi (nx := 44) C dX5_isWord_41 rfl cvX5_117 rfl ⟨Nat.le_of_ble_eq_true rfl, Nat.le_of_ble_eq_true rfl⟩ (Nat.le_of_ble_eq_true rfl) (run_J0_charAt hi (by omega)) ?_
        refine zw_icmp_eq (tgt := 49) (nx := 47) C dX5_isWord_44 rfl rfl (by omega) (fun h44 => ?_) (fun h44 => ?_)
        · rw [show mch T s i (m + 1) k = mch T s i m (k + 1) from if_pos h44]
          refine zw_iinc2 (nx := 52) C dX5_isWord_49 rfl (Nat.le_of_ble_eq_true rfl) rfl ?_
          refine zw_goto (nx := 20) C dX5_isWord_52 rfl ?_
          exact ih (k + 1) (by omega)
        · rw [show mch T s i (m + 1) k = false from if_neg h44]
          refine zw_iconst (nx := 48) C dX5_isWord_47 rfl ?_
          exact zw_zret C hA hr hk dX5_isWord_48 rfl rfl rfl
    refine zw_aload_n (i := 0) (nx := 1) C dX5_isWord_0 rfl rfl rfl ?_
    refine zw_geti (nx := 4) C dX5_isWord_1 rfl flX5_19 iq4 rfl rfl rfl rfl ?_
    refine zw_aload_n (i := 0) (nx := 5) C dX5_isWord_4 rfl rfl rfl ?_
    refine zw_geti (nx := 8) C dX5_isWord_5 rfl flX5_25 iq4 rfl rfl rfl rfl ?_
    refine zw_isub (nx := 9) C dX5_isWord_8 rfl ?_
    refine zw_aload_n (i := 1) (nx := 10) C dX5_isWord_9 rfl rfl rfl ?_
    refine zw_cW01 hi (nx := 13) C dX5_isWord_10 rfl cvX5_112 rfl ⟨Nat.le_of_ble_eq_true rfl, Nat.le_of_ble_eq_true rfl⟩ (Nat.le_of_ble_eq_true rfl) (run_J0_length hi) ?_
    refine zw_icmp_eq (tgt := 18) (nx := 16) C dX5_isWord_13 rfl rfl (by omega) (fun h13 => ?_) (fun h13 => by exfalso; omega)
    refine zw_iconst (nx := 19) C dX5_isWord_18 rfl ?_
    refine zw_ist2 (nx := 20) C (eIst_n dX5_isWord_19 rfl rfl) (Nat.le_of_ble_eq_true rfl) rfl ?_
    exact loop (eLen.getD i 0) 0 (by omega)
  · have eQ : wQ T s e i = false := if_neg hlen
    rw [eQ]
    refine zw_aload_n (i := 0) (nx := 1) C dX5_isWord_0 rfl rfl rfl ?_
    refine zw_geti (nx := 4) C dX5_isWord_1 rfl flX5_19 iq4 rfl rfl rfl rfl ?_
    refine zw_aload_n (i := 0) (nx := 5) C dX5_isWord_4 rfl rfl rfl ?_
    refine zw_geti (nx := 8) C dX5_isWord_5 rfl flX5_25 iq4 rfl rfl rfl rfl ?_
    refine zw_isub (nx := 9) C dX5_isWord_8 rfl ?_
    refine zw_aload_n (i := 1) (nx := 10) C dX5_isWord_9 rfl rfl rfl ?_
    refine zw_cW01 hi (nx := 13) C dX5_isWord_10 rfl cvX5_112 rfl ⟨Nat.le_of_ble_eq_true rfl, Nat.le_of_ble_eq_true rfl⟩ (Nat.le_of_ble_eq_true rfl) (run_J0_length hi) ?_
    refine zw_icmp_eq (tgt := 18) (nx := 16) C dX5_isWord_13 rfl rfl (by omega) (fun h13 => by exfalso; omega) (fun h13 => ?_)
    refine zw_iconst (nx := 17) C dX5_isWord_16 rfl ?_
    exact zw_zret C hA hr hk dX5_isWord_17 rfl rfl rfl
theorem run_X5_takeNumber {t i : Nat} {T : Nat → Int} (hx : TXo ζ t T) (hit : i ≤ t) {k s v m : Int} (hm : -1 ≤ m ∧ m ≤ 100) : zRun l B mX5_takeNumber [.ref 39, zi m] (tS ζ i k s v) (some (zi (b2i (decide (tkK T t (sk T t i) = 2 ∧ tkV T t (sk T t i) v ≤ m))))) (tS ζ (tkE T t (sk T t i)) (tkK T t (sk T t i)) (sk T t i) (tkV T t (sk T t i) v)) := by
  have st := run_X5_step (l := l) (B := B) hx hit (k := k) (s := s) (v := v)
  have hSb := sk_bd T hit
  have kb : 0 ≤ tkK T t (sk T t i) ∧ tkK T t (sk T t i) ≤ 4 := by
    unfold tkK
    split
    · omega
    · split
      · omega
      · split
        · split <;> omega
        · split <;> omega
  have vb : tkK T t (sk T t i) = 2 → -600 ≤ tkV T t (sk T t i) v ∧ tkV T t (sk T t i) v ≤ 2000 := fun h => by
    unfold tkK at h
    unfold tkV
    split at h
    · omega
    · rename_i g0
      rw [if_neg g0]
      split at h
      · omega
      · rename_i g1
        rw [if_neg g1]
        split at h
        · rename_i g2
          rw [if_pos g2]
          have hf := fE_bd T hSb.2
          have a1 := (hx.2 (sk T t i) (by omega)).2
          have a2 := (hx.2 (fE T t (sk T t i) - 1) (by omega)).2
          unfold nV
          split <;> omega
        · split at h <;> omega
  generalize tkV T t (sk T t i) v = w at st vb
  generalize tkK T t (sk T t i) = kd at st kb vb
  generalize tkE T t (sk T t i) = ee at st
  generalize sk T t i = ss at st
  have r3 : (tS ζ ee kd ss w).1 39 3 = kd := rfl
  have r5 : (tS ζ ee kd ss w).1 39 5 = w := rfl
  refine zrun_intro (M := mX5_takeNumber) (ls := [some (.ref 39), some (zi m)]) (by decide) rfl rfl rfl (Nat.le_of_ble_eq_true rfl) ?_
  intro X A C hX hA hr hk
  replace C : CX X B A mX5_takeNumber.2.2.2.2 RX5 cX5_takeNumber 2 0 0 := C
  have hr : (xMeth X).sig.returnType = (some .boolean) := hr
  change ZW X B A 2 0 0 _ _ 0 [some (.ref 39), some (zi m)] []
  subst hX
  by_cases h1 : kd = 2
  · have := vb h1
    by_cases h2 : w ≤ m
    · rw [decide_eq_true (show kd = 2 ∧ w ≤ m from ⟨h1, h2⟩)]
      refine zw_aload_n (i := 0) (nx := 1) C dX5_takeNumber_0 rfl rfl rfl ?_
      refine zw_cV00 (nx := 4) C dX5_takeNumber_1 rfl cvX5_37 rfl rfl ⟨Nat.le_of_ble_eq_true rfl, Nat.le_of_ble_eq_true rfl⟩ rfl rfl (Nat.le_of_ble_eq_true rfl) st ?_
      refine zw_aload_n (i := 0) (nx := 5) C dX5_takeNumber_4 rfl rfl rfl ?_
      refine zw_geti (nx := 8) C dX5_takeNumber_5 rfl flX5_22 iq4 rfl rfl rfl rfl ?_
      refine zw_iconst (nx := 9) C dX5_takeNumber_8 rfl ?_
      refine zw_icmp_ne (tgt := 24) (nx := 12) C dX5_takeNumber_9 rfl rfl (by omega) (fun h9 => by exfalso; omega) (fun h9 => ?_)
      refine zw_aload_n (i := 0) (nx := 13) C dX5_takeNumber_12 rfl rfl rfl ?_
      refine zw_geti (nx := 16) C dX5_takeNumber_13 rfl flX5_28 iq4 rfl rfl rfl rfl ?_
      refine zw_iload_n (i := 1) (nx := 17) C dX5_takeNumber_16 rfl rfl rfl ?_
      refine zw_icmp_gt (tgt := 24) (nx := 20) C dX5_takeNumber_17 rfl rfl (by omega) (fun h17 => by exfalso; omega) (fun h17 => ?_)
      refine zw_iconst (nx := 21) C dX5_takeNumber_20 rfl ?_
      refine zw_goto (nx := 25) C dX5_takeNumber_21 rfl ?_
      exact zw_zret C hA hr hk dX5_takeNumber_25 rfl rfl rfl
    · rw [decide_eq_false (show ¬ (kd = 2 ∧ w ≤ m) from fun q => h2 q.2)]
      refine zw_aload_n (i := 0) (nx := 1) C dX5_takeNumber_0 rfl rfl rfl ?_
      refine zw_cV00 (nx := 4) C dX5_takeNumber_1 rfl cvX5_37 rfl rfl ⟨Nat.le_of_ble_eq_true rfl, Nat.le_of_ble_eq_true rfl⟩ rfl rfl (Nat.le_of_ble_eq_true rfl) st ?_
      refine zw_aload_n (i := 0) (nx := 5) C dX5_takeNumber_4 rfl rfl rfl ?_
      refine zw_geti (nx := 8) C dX5_takeNumber_5 rfl flX5_22 iq4 rfl rfl rfl rfl ?_
      refine zw_iconst (nx := 9) C dX5_takeNumber_8 rfl ?_
      refine zw_icmp_ne (tgt := 24) (nx := 12) C dX5_takeNumber_9 rfl rfl (by omega) (fun h9 => by exfalso; omega) (fun h9 => ?_)
      refine zw_aload_n (i := 0) (nx := 13) C dX5_takeNumber_12 rfl rfl rfl ?_
      refine zw_geti (nx := 16) C dX5_takeNumber_13 rfl flX5_28 iq4 rfl rfl rfl rfl ?_
      refine zw_iload_n (i := 1) (nx := 17) C dX5_takeNumber_16 rfl rfl rfl ?_
      refine zw_icmp_gt (tgt := 24) (nx := 20) C dX5_takeNumber_17 rfl rfl (by omega) (fun h17 => ?_) (fun h17 => by exfalso; omega)
      refine zw_iconst (nx := 25) C dX5_takeNumber_24 rfl ?_
      exact zw_zret C hA hr hk dX5_takeNumber_25 rfl rfl rfl
  · rw [decide_eq_false (show ¬ (kd = 2 ∧ w ≤ m) from fun q => h1 q.1)]
    refine zw_aload_n (i := 0) (nx := 1) C dX5_takeNumber_0 rfl rfl rfl ?_
    refine zw_cV00 (nx := 4) C dX5_takeNumber_1 rfl cvX5_37 rfl rfl ⟨Nat.le_of_ble_eq_true rfl, Nat.le_of_ble_eq_true rfl⟩ rfl rfl (Nat.le_of_ble_eq_true rfl) st ?_
    refine zw_aload_n (i := 0) (nx := 5) C dX5_takeNumber_4 rfl rfl rfl ?_
    refine zw_geti (nx := 8) C dX5_takeNumber_5 rfl flX5_22 iq4 rfl rfl rfl rfl ?_
    refine zw_iconst (nx := 9) C dX5_takeNumber_8 rfl ?_
    refine zw_icmp_ne (tgt := 24) (nx := 12) C dX5_takeNumber_9 rfl rfl (by omega) (fun h9 => ?_) (fun h9 => by exfalso; omega)
    refine zw_iconst (nx := 25) C dX5_takeNumber_24 rfl ?_
    exact zw_zret C hA hr hk dX5_takeNumber_25 rfl rfl rfl
theorem run_X5_takeStop {t i : Nat} {T : Nat → Int} (hx : TXo ζ t T) (hit : i ≤ t) {k s v : Int} : zRun l B mX5_takeStop [.ref 39] (tS ζ i k s v) (some (zi (b2i (decide (tkK T t (sk T t i) = 3))))) (tS ζ (tkE T t (sk T t i)) (tkK T t (sk T t i)) (sk T t i) (tkV T t (sk T t i) v)) := by
  have st := run_X5_step (l := l) (B := B) hx hit (k := k) (s := s) (v := v)
  have kb : 0 ≤ tkK T t (sk T t i) ∧ tkK T t (sk T t i) ≤ 4 := by
    unfold tkK
    split
    · omega
    · split
      · omega
      · split
        · split <;> omega
        · split <;> omega
  generalize tkV T t (sk T t i) v = w at st
  generalize tkK T t (sk T t i) = kd at st kb
  generalize tkE T t (sk T t i) = ee at st
  generalize sk T t i = ss at st
  have r3 : (tS ζ ee kd ss w).1 39 3 = kd := rfl
  refine zrun_intro (M := mX5_takeStop) (ls := [some (.ref 39)]) (by decide) rfl rfl rfl (Nat.le_of_ble_eq_true rfl) ?_
  intro X A C hX hA hr hk
  replace C : CX X B A mX5_takeStop.2.2.2.2 RX5 cX5_takeStop 1 0 0 := C
  have hr : (xMeth X).sig.returnType = (some .boolean) := hr
  change ZW X B A 1 0 0 _ _ 0 [some (.ref 39)] []
  subst hX
  by_cases h1 : kd = 3
  · rw [decide_eq_true h1]
    refine zw_aload_n (i := 0) (nx := 1) C dX5_takeStop_0 rfl rfl rfl ?_
    refine zw_cV00 (nx := 4) C dX5_takeStop_1 rfl cvX5_37 rfl rfl ⟨Nat.le_of_ble_eq_true rfl, Nat.le_of_ble_eq_true rfl⟩ rfl rfl (Nat.le_of_ble_eq_true rfl) st ?_
    refine zw_aload_n (i := 0) (nx := 5) C dX5_takeStop_4 rfl rfl rfl ?_
    refine zw_geti (nx := 8) C dX5_takeStop_5 rfl flX5_22 iq4 rfl rfl rfl rfl ?_
    refine zw_iconst (nx := 9) C dX5_takeStop_8 rfl ?_
    refine zw_icmp_ne (tgt := 16) (nx := 12) C dX5_takeStop_9 rfl rfl (by omega) (fun h9 => by exfalso; omega) (fun h9 => ?_)
    refine zw_iconst (nx := 13) C dX5_takeStop_12 rfl ?_
    refine zw_goto (nx := 17) C dX5_takeStop_13 rfl ?_
    exact zw_zret C hA hr hk dX5_takeStop_17 rfl rfl rfl
  · rw [decide_eq_false h1]
    refine zw_aload_n (i := 0) (nx := 1) C dX5_takeStop_0 rfl rfl rfl ?_
    refine zw_cV00 (nx := 4) C dX5_takeStop_1 rfl cvX5_37 rfl rfl ⟨Nat.le_of_ble_eq_true rfl, Nat.le_of_ble_eq_true rfl⟩ rfl rfl (Nat.le_of_ble_eq_true rfl) st ?_
    refine zw_aload_n (i := 0) (nx := 5) C dX5_takeStop_4 rfl rfl rfl ?_
    refine zw_geti (nx := 8) C dX5_takeStop_5 rfl flX5_22 iq4 rfl rfl rfl rfl ?_
    refine zw_iconst (nx := 9) C dX5_takeStop_8 rfl ?_
    refine zw_icmp_ne (tgt := 16) (nx := 12) C dX5_takeStop_9 rfl rfl (by omega) (fun h9 => ?_) (fun h9 => by exfalso; omega)
    refine zw_iconst (nx := 17) C dX5_takeStop_16 rfl ?_
    exact zw_zret C hA hr hk dX5_takeStop_17 rfl rfl rfl
end TextC
