/-! reading a text: the reference's tokens -/
def TXm (ζ : zSt) (t : Nat) (T : Nat → Int) : Prop := (ζ.1 52 15 = t ∧ t ≤ 150) ∧ ∀ j, j < t → ζ.1 63 j = T j ∧ 0 ≤ T j ∧ T j ≤ 127
def nvr (T : Nat → Int) (s : Nat) : Nat → Int
  | 0 => 0
  | n + 1 => if n < 2 then 10 * nvr T s n + T (s + n) - 48 else nvr T s n
theorem nvr_2 (T : Nat → Int) (s : Nat) : ∀ n, nvr T s (n + 2) = nvr T s 2
  | 0 => rfl
  | n + 1 => (if_neg (by omega)).trans (nvr_2 T s n)
theorem nvr_bd {T : Nat → Int} {s n : Nat} (h : ∀ j, s ≤ j → j < s + n → 0 ≤ T j ∧ T j ≤ 127) : -1000 ≤ nvr T s n ∧ nvr T s n ≤ 2000 := by
  match n, h with
  | 0, _ => exact ⟨by show (-1000 : Int) ≤ 0; decide, by show (0 : Int) ≤ 2000; decide⟩
  | 1, h =>
    have a := h s (by omega) (by omega)
    show -1000 ≤ 10 * 0 + T (s + 0) - 48 ∧ 10 * 0 + T (s + 0) - 48 ≤ 2000
    rw [Nat.add_zero]; omega
  | n + 2, h =>
    have a := h s (by omega) (by omega)
    have b := h (s + 1) (by omega) (by omega)
    rw [nvr_2]
    show -1000 ≤ 10 * (10 * 0 + T (s + 0) - 48) + T (s + 1) - 48 ∧ 10 * (10 * 0 + T (s + 0) - 48) + T (s + 1) - 48 ≤ 2000
    rw [Nat.add_zero]; omega
theorem nvr_nV {T : Nat → Int} {s e : Nat} (h : 1 ≤ e - s ∧ e - s ≤ 2) : nvr T s (e - s) = nV T s e := by
  unfold nV
  rcases (show e - s = 1 ∨ e - s = 2 by omega) with h1 | h1
  · rw [h1, if_neg (by omega), show e - 1 = s by omega]
    show 10 * 0 + T (s + 0) - 48 = _
    rw [Nat.add_zero]
  · rw [h1, if_pos rfl, show e - 1 = s + 1 by omega]
    show 10 * (10 * 0 + T (s + 0) - 48) + T (s + 1) - 48 = _
    rw [Nat.add_zero]; omega
section TextM
variable {l : Launch} {B : eB} {ζ : zSt} {t : Nat} {T : Nat → Int}
theorem run_X7_isLetter {c : Int} (hc : -2147483648 ≤ c ∧ c ≤ 2147483647) : zRun l B mX7_isLetter [zi c] ζ (some (zi (b2i (isLt c)))) ζ := by
  by_cases h : 97 ≤ c ∧ c ≤ 122
  · have e : isLt c = true := decide_eq_true h
    rw [e]
    refine zrun_intro (M := mX7_isLetter) (ls := [some (zi c)]) (by decide) rfl rfl rfl (Nat.le_of_ble_eq_true rfl) ?_
    intro X A C hX hA hr hk
    replace C : CX X B A mX7_isLetter.2.2.2.2 RX7 cX7_isLetter 1 0 0 := C
    have hr : (xMeth X).sig.returnType = (some .boolean) := hr
    change ZW X B A 1 0 0 _ _ 0 [some (zi c)] []
    refine zw_iload_n (i := 0) (nx := 1) C dX7_isLetter_0 rfl rfl rfl ?_
    refine zw_bipush (v := 97) (nx := 3) C dX7_isLetter_1 (by decide) rfl ?_
    refine zw_bipush (v := 122) (nx := 5) C dX7_isLetter_3 (by decide) rfl ?_
    refine zw_cS31 (nx := 8) C dX7_isLetter_5 rfl csX7_88 ⟨Nat.le_of_ble_eq_true rfl, Nat.le_of_ble_eq_true rfl⟩ (Nat.le_of_ble_eq_true rfl) (run_X7_in_t hc (by omega) h) ?_
    exact zw_zret C hA hr hk dX7_isLetter_8 rfl rfl rfl
  · have e : isLt c = false := decide_eq_false h
    rw [e]
    refine zrun_intro (M := mX7_isLetter) (ls := [some (zi c)]) (by decide) rfl rfl rfl (Nat.le_of_ble_eq_true rfl) ?_
    intro X A C hX hA hr hk
    replace C : CX X B A mX7_isLetter.2.2.2.2 RX7 cX7_isLetter 1 0 0 := C
    have hr : (xMeth X).sig.returnType = (some .boolean) := hr
    change ZW X B A 1 0 0 _ _ 0 [some (zi c)] []
    refine zw_iload_n (i := 0) (nx := 1) C dX7_isLetter_0 rfl rfl rfl ?_
    refine zw_bipush (v := 97) (nx := 3) C dX7_isLetter_1 (by decide) rfl ?_
    refine zw_bipush (v := 122) (nx := 5) C dX7_isLetter_3 (by decide) rfl ?_
    refine zw_cS31 (nx := 8) C dX7_isLetter_5 rfl csX7_88 ⟨Nat.le_of_ble_eq_true rfl, Nat.le_of_ble_eq_true rfl⟩ (Nat.le_of_ble_eq_true rfl) (run_X7_in_f hc (by omega) h) ?_
    exact zw_zret C hA hr hk dX7_isLetter_8 rfl rfl rfl
theorem run_X7_isFigure {c : Int} (hc : -2147483648 ≤ c ∧ c ≤ 2147483647) : zRun l B mX7_isFigure [zi c] ζ (some (zi (b2i (isFg c)))) ζ := by
  by_cases h : 48 ≤ c ∧ c ≤ 57
  · have e : isFg c = true := decide_eq_true h
    rw [e]
    refine zrun_intro (M := mX7_isFigure) (ls := [some (zi c)]) (by decide) rfl rfl rfl (Nat.le_of_ble_eq_true rfl) ?_
    intro X A C hX hA hr hk
    replace C : CX X B A mX7_isFigure.2.2.2.2 RX7 cX7_isFigure 1 0 0 := C
    have hr : (xMeth X).sig.returnType = (some .boolean) := hr
    change ZW X B A 1 0 0 _ _ 0 [some (zi c)] []
    refine zw_iload_n (i := 0) (nx := 1) C dX7_isFigure_0 rfl rfl rfl ?_
    refine zw_bipush (v := 48) (nx := 3) C dX7_isFigure_1 (by decide) rfl ?_
    refine zw_bipush (v := 57) (nx := 5) C dX7_isFigure_3 (by decide) rfl ?_
    refine zw_cS31 (nx := 8) C dX7_isFigure_5 rfl csX7_88 ⟨Nat.le_of_ble_eq_true rfl, Nat.le_of_ble_eq_true rfl⟩ (Nat.le_of_ble_eq_true rfl) (run_X7_in_t hc (by omega) h) ?_
    exact zw_zret C hA hr hk dX7_isFigure_8 rfl rfl rfl
  · have e : isFg c = false := decide_eq_false h
    rw [e]
    refine zrun_intro (M := mX7_isFigure) (ls := [some (zi c)]) (by decide) rfl rfl rfl (Nat.le_of_ble_eq_true rfl) ?_
    intro X A C hX hA hr hk
    replace C : CX X B A mX7_isFigure.2.2.2.2 RX7 cX7_isFigure 1 0 0 := C
    have hr : (xMeth X).sig.returnType = (some .boolean) := hr
    change ZW X B A 1 0 0 _ _ 0 [some (zi c)] []
    refine zw_iload_n (i := 0) (nx := 1) C dX7_isFigure_0 rfl rfl rfl ?_
    refine zw_bipush (v := 48) (nx := 3) C dX7_isFigure_1 (by decide) rfl ?_
    refine zw_bipush (v := 57) (nx := 5) C dX7_isFigure_3 (by decide) rfl ?_
    refine zw_cS31 (nx := 8) C dX7_isFigure_5 rfl csX7_88 ⟨Nat.le_of_ble_eq_true rfl, Nat.le_of_ble_eq_true rfl⟩ (Nat.le_of_ble_eq_true rfl) (run_X7_in_f hc (by omega) h) ?_
    exact zw_zret C hA hr hk dX7_isFigure_8 rfl rfl rfl
theorem run_X7_here_in (hx : TXm ζ t T) {i : Nat} (hi : ζ.1 52 16 = i) (hit : i < t) : zRun l B mX7_here [.ref 52] ζ (some (zi (T i))) ζ := by
  obtain ⟨⟨hx1, hx2⟩, hx3⟩ := hx
  obtain ⟨t1, t2⟩ := hx3 i hit
  refine zrun_intro (M := mX7_here) (ls := [some (.ref 52)]) (by decide) rfl rfl rfl (Nat.le_of_ble_eq_true rfl) ?_
  intro X A C hX hA hr hk
  replace C : CX X B A mX7_here.2.2.2.2 RX7 cX7_here 1 0 0 := C
  have hr : (xMeth X).sig.returnType = (some .int) := hr
  change ZW X B A 1 0 0 _ _ 0 [some (.ref 52)] []
  refine zw_aload_n (i := 0) (nx := 1) C dX7_here_0 rfl rfl rfl ?_
  refine zw_geti (nx := 4) C dX7_here_1 rfl flX7_110 iq6 rfl rfl rfl rfl ?_
  refine zw_aload_n (i := 0) (nx := 5) C dX7_here_4 rfl rfl rfl ?_
  refine zw_geti (nx := 8) C dX7_here_5 rfl flX7_107 iq6 rfl rfl rfl rfl ?_
  refine zw_icmp_ge (tgt := 23) (nx := 11) C dX7_here_8 rfl rfl (by omega) (fun h8 => by exfalso; omega) (fun h8 => ?_)
  refine zw_aload_n (i := 0) (nx := 12) C dX7_here_11 rfl rfl rfl ?_
  refine zw_getr (nx := 15) C dX7_here_12 rfl flX7_47 iq6 rfl rfl rfl rfl ?_
  refine zw_aload_n (i := 0) (nx := 16) C dX7_here_15 rfl rfl rfl ?_
  refine zw_geti (nx := 19) C dX7_here_16 rfl flX7_110 iq6 rfl rfl rfl rfl ?_
  refine zw_iald (i) (nx := 20) C dX7_here_19 rfl rfl rfl rfl (by omega) ?_
  rw [t1]
  refine zw_goto (nx := 24) C dX7_here_20 rfl ?_
  exact zw_iret C hA hr hk dX7_here_24 rfl rfl
theorem run_X7_here_out (hx : TXm ζ t T) {i : Nat} (hi : ζ.1 52 16 = i) (hit : i = t) : zRun l B mX7_here [.ref 52] ζ (some (zi (-1))) ζ := by
  obtain ⟨⟨hx1, hx2⟩, hx3⟩ := hx
  refine zrun_intro (M := mX7_here) (ls := [some (.ref 52)]) (by decide) rfl rfl rfl (Nat.le_of_ble_eq_true rfl) ?_
  intro X A C hX hA hr hk
  replace C : CX X B A mX7_here.2.2.2.2 RX7 cX7_here 1 0 0 := C
  have hr : (xMeth X).sig.returnType = (some .int) := hr
  change ZW X B A 1 0 0 _ _ 0 [some (.ref 52)] []
  refine zw_aload_n (i := 0) (nx := 1) C dX7_here_0 rfl rfl rfl ?_
  refine zw_geti (nx := 4) C dX7_here_1 rfl flX7_110 iq6 rfl rfl rfl rfl ?_
  refine zw_aload_n (i := 0) (nx := 5) C dX7_here_4 rfl rfl rfl ?_
  refine zw_geti (nx := 8) C dX7_here_5 rfl flX7_107 iq6 rfl rfl rfl rfl ?_
  refine zw_icmp_ge (tgt := 23) (nx := 11) C dX7_here_8 rfl rfl (by omega) (fun h8 => ?_) (fun h8 => by exfalso; omega)
  refine zw_iconst (nx := 24) C dX7_here_23 rfl ?_
  exact zw_iret C hA hr hk dX7_here_24 rfl rfl
theorem run_X7_skip' (hx : TXm ζ t T) {i : Nat} (hit : i ≤ t) : zRun l B mX7_skip [.ref 52] (zU ζ 52 16 i) none (zU ζ 52 16 (sk T t i)) := by
  have ht := hx.1.2
  have hxz : ∀ x : Int, TXm (zU ζ 52 16 x) t T := fun x => hx
  refine zrun_intro (M := mX7_skip) (ls := [some (.ref 52)]) (by decide) rfl rfl rfl (Nat.le_of_ble_eq_true rfl) ?_
  intro X A C hX hA hr hk
  replace C : CX X B A mX7_skip.2.2.2.2 RX7 cX7_skip 1 0 0 := C
  have hr : (xMeth X).sig.returnType = none := hr
  change ZW X B A 1 0 0 _ _ 0 [some (.ref 52)] []
  have loop : ∀ m i : Nat, i + m = t → ZW X B A 1 0 0 (eFin X B none (zz (zU ζ 52 16 (rn isSp T m i)))) (zU ζ 52 16 i) 0 [some (.ref 52)] [] := by
    intro m
    induction m with
    | zero =>
      intro i hi
      refine zw_aload_n (i := 0) (nx := 1) C dX7_skip_0 rfl rfl rfl ?_
      refine zw_cV01 (nx := 4) C dX7_skip_1 rfl cvX7_113 rfl rfl ⟨Nat.le_of_ble_eq_true rfl, Nat.le_of_ble_eq_true rfl⟩ rfl rfl (Nat.le_of_ble_eq_true rfl) (run_X7_here_out (hxz i) rfl (by omega)) ?_
      refine zw_bipush (v := 32) (nx := 6) C dX7_skip_4 (by decide) rfl ?_
      refine zw_icmp_ne (tgt := 22) (nx := 9) C dX7_skip_6 rfl rfl (by omega) (fun h6 => ?_) (fun h6 => by exfalso; omega)
      exact zw_vret C hA hr hk dX7_skip_22 rfl rfl
    | succ m ih =>
      intro i hi
      have b4 := (hx.2 i (by omega)).2
      have r2 : (zU ζ 52 16 i).1 52 16 = (i : Int) := rfl
      refine zw_aload_n (i := 0) (nx := 1) C dX7_skip_0 rfl rfl rfl ?_
      refine zw_cV01 (nx := 4) C dX7_skip_1 rfl cvX7_113 rfl rfl ⟨Nat.le_of_ble_eq_true rfl, Nat.le_of_ble_eq_true rfl⟩ rfl rfl (Nat.le_of_ble_eq_true rfl) (run_X7_here_in (hxz i) rfl (by omega)) ?_
      refine zw_bipush (v := 32) (nx := 6) C dX7_skip_4 (by decide) rfl ?_
      refine zw_icmp_ne (tgt := 22) (nx := 9) C dX7_skip_6 rfl rfl (by omega) (fun h6 => ?_) (fun h6 => ?_)
      · exact zw_vret C hA hr hk dX7_skip_22 rfl (by rw [rn_n (decide_eq_false h6)])
      · rw [rn_s (decide_eq_true h6)]
        refine zw_aload_n (i := 0) (nx := 10) C dX7_skip_9 rfl rfl rfl ?_
        refine zw_dup (nx := 11) C dX7_skip_10 rfl rfl ?_
        refine zw_geti (nx := 14) C dX7_skip_11 rfl flX7_110 iq6 rfl rfl rfl rfl ?_
        refine zw_iconst (nx := 15) C dX7_skip_14 rfl ?_
        refine zw_iadd (nx := 16) C dX7_skip_15 rfl ?_
        refine zw_puti (nx := 19) C dX7_skip_16 rfl flX7_110 ic6 nf6_16 rfl rfl rfl rfl rfl ?_
        refine zw_goto (nx := 0) C dX7_skip_19 rfl ?_
        rw [zU_over, r2]
        exact ih (i + 1) (by omega)
  exact loop (t - i) i (by omega)
theorem zU_self (ζ : zSt) (k i : Nat) : zU ζ k i (ζ.1 k i) = ζ := by
  refine Prod.ext (funext fun a => funext fun b => ?_) rfl
  rw [zU_at]
  split
  · rename_i h; rw [h.1, h.2]
  · rfl
theorem run_X7_skip (hx : TXm ζ t T) {i : Nat} (hi : ζ.1 52 16 = i) (hit : i ≤ t) : zRun l B mX7_skip [.ref 52] ζ none (zU ζ 52 16 (sk T t i)) := by
  have r := run_X7_skip' (l := l) (B := B) hx hit
  rw [← hi, zU_self, ] at r
  exact r
theorem run_X7_wordSize (hx : TXm ζ t T) {s : Nat} (hi : ζ.1 52 16 = s) (hst : s ≤ t) : zRun l B mX7_wordSize [.ref 52] ζ (some (zi ((lE T t s - s : Nat) : Int))) ζ := by
  obtain ⟨⟨hx1, hx2⟩, hx3⟩ := hx
  refine zrun_intro (M := mX7_wordSize) (ls := [some (.ref 52), none]) (by decide) rfl rfl rfl (Nat.le_of_ble_eq_true rfl) ?_
  intro X A C hX hA hr hk
  replace C : CX X B A mX7_wordSize.2.2.2.2 RX7 cX7_wordSize 2 0 0 := C
  have hr : (xMeth X).sig.returnType = (some .int) := hr
  change ZW X B A 2 0 0 _ _ 0 [some (.ref 52), none] []
  have loop : ∀ m n : Nat, s + n + m = t → ZW X B A 2 0 0 (eFin X B (some (zi ((rn isLt T m (s + n) - s : Nat) : Int))) (zz ζ)) ζ 2 [some (.ref 52), some (zi n)] [] := by
    intro m
    induction m with
    | zero =>
      intro n hn
      refine zw_aload_n (i := 0) (nx := 3) C dX7_wordSize_2 rfl rfl rfl ?_
      refine zw_geti (nx := 6) C dX7_wordSize_3 rfl flX7_110 iq6 rfl rfl rfl rfl ?_
      refine zw_iload_n (i := 1) (nx := 7) C dX7_wordSize_6 rfl rfl rfl ?_
      refine zw_iadd (nx := 8) C dX7_wordSize_7 rfl ?_
      refine zw_aload_n (i := 0) (nx := 9) C dX7_wordSize_8 rfl rfl rfl ?_
      refine zw_geti (nx := 12) C dX7_wordSize_9 rfl flX7_107 iq6 rfl rfl rfl rfl ?_
      refine zw_icmp_ge (tgt := 38) (nx := 15) C dX7_wordSize_12 rfl rfl (by omega) (fun h12 => ?_) (fun h12 => by exfalso; omega)
      refine zw_iload_n (i := 1) (nx := 39) C dX7_wordSize_38 rfl rfl rfl ?_
      exact zw_iret C hA hr hk dX7_wordSize_39 (zr (by show ((s + n - s : Nat) : Int) = (n : Int); omega)) rfl
    | succ m ih =>
      intro n hn
      obtain ⟨t1, t2⟩ := hx3 (s + n) (by omega)
      refine zw_aload_n (i := 0) (nx := 3) C dX7_wordSize_2 rfl rfl rfl ?_
      refine zw_geti (nx := 6) C dX7_wordSize_3 rfl flX7_110 iq6 rfl rfl rfl rfl ?_
      refine zw_iload_n (i := 1) (nx := 7) C dX7_wordSize_6 rfl rfl rfl ?_
      refine zw_iadd (nx := 8) C dX7_wordSize_7 rfl ?_
      refine zw_aload_n (i := 0) (nx := 9) C dX7_wordSize_8 rfl rfl rfl ?_
      refine zw_geti (nx := 12) C dX7_wordSize_9 rfl flX7_107 iq6 rfl rfl rfl rfl ?_
      refine zw_icmp_ge (tgt := 38) (nx := 15) C dX7_wordSize_12 rfl rfl (by omega) (fun h12 => by exfalso; omega) (fun h12 => ?_)
      refine zw_aload_n (i := 0) (nx := 16) C dX7_wordSize_15 rfl rfl rfl ?_
      refine zw_getr (nx := 19) C dX7_wordSize_16 rfl flX7_47 iq6 rfl rfl rfl rfl ?_
      refine zw_aload_n (i := 0) (nx := 20) C dX7_wordSize_19 rfl rfl rfl ?_
      refine zw_geti (nx := 23) C dX7_wordSize_20 rfl flX7_110 iq6 rfl rfl rfl rfl ?_
      refine zw_iload_n (i := 1) (nx := 24) C dX7_wordSize_23 rfl rfl rfl ?_
      refine zw_iadd (nx := 25) C dX7_wordSize_24 rfl ?_
      refine zw_iald ((s + n)) (nx := 26) C dX7_wordSize_25 rfl rfl rfl rfl (by omega) ?_
      rw [t1]
      refine zw_cS11 (nx := 29) C dX7_wordSize_26 rfl csX7_116 ⟨Nat.le_of_ble_eq_true rfl, Nat.le_of_ble_eq_true rfl⟩ (Nat.le_of_ble_eq_true rfl) (run_X7_isLetter (by omega)) ?_
      refine zw_ifb_eq (tgt := 38) (nx := 32) C dX7_wordSize_29 rfl rfl (fun h29 => ?_) (fun h29 => ?_)
      · rw [rn_n h29]
        refine zw_iload_n (i := 1) (nx := 39) C dX7_wordSize_38 rfl rfl rfl ?_
        exact zw_iret C hA hr hk dX7_wordSize_39 (zr (by omega)) rfl
      · rw [rn_s h29]
        refine zw_iinc1 (nx := 35) C dX7_wordSize_32 rfl (Nat.le_of_ble_eq_true rfl) rfl ?_
        refine zw_goto (nx := 2) C dX7_wordSize_35 rfl ?_
        exact ih (n + 1) (by omega)
  refine zw_iconst (nx := 1) C dX7_wordSize_0 rfl ?_
  refine zw_ist1 (nx := 2) C (eIst_n dX7_wordSize_1 rfl rfl) (Nat.le_of_ble_eq_true rfl) rfl ?_
  exact loop (t - s) 0 (by omega)
theorem run_X7_letter (hx : TXm ζ t T) {s k : Nat} (hi : ζ.1 52 16 = s) (hst : s + k < t) : zRun l B mX7_letter [.ref 52, zi k] ζ (some (zi (T (s + k)))) ζ := by
  obtain ⟨⟨hx1, hx2⟩, hx3⟩ := hx
  obtain ⟨t1, t2⟩ := hx3 (s + k) hst
  refine zrun_intro (M := mX7_letter) (ls := [some (.ref 52), some (zi k)]) (by decide) rfl rfl rfl (Nat.le_of_ble_eq_true rfl) ?_
  intro X A C hX hA hr hk
  replace C : CX X B A mX7_letter.2.2.2.2 RX7 cX7_letter 2 0 0 := C
  have hr : (xMeth X).sig.returnType = (some .int) := hr
  change ZW X B A 2 0 0 _ _ 0 [some (.ref 52), some (zi k)] []
  refine zw_aload_n (i := 0) (nx := 1) C dX7_letter_0 rfl rfl rfl ?_
  refine zw_getr (nx := 4) C dX7_letter_1 rfl flX7_47 iq6 rfl rfl rfl rfl ?_
  refine zw_aload_n (i := 0) (nx := 5) C dX7_letter_4 rfl rfl rfl ?_
  refine zw_geti (nx := 8) C dX7_letter_5 rfl flX7_110 iq6 rfl rfl rfl rfl ?_
  refine zw_iload_n (i := 1) (nx := 9) C dX7_letter_8 rfl rfl rfl ?_
  refine zw_iadd (nx := 10) C dX7_letter_9 rfl ?_
  refine zw_iald ((s + k)) (nx := 11) C dX7_letter_10 rfl rfl rfl rfl (by omega) ?_
  rw [t1]
  exact zw_iret C hA hr hk dX7_letter_11 rfl rfl
theorem run_X7_spells (hx : TXm ζ t T) {s : Nat} (hi : ζ.1 52 16 = s) (hst : s + 3 < t) {a b c d : Int} (ha : 0 ≤ a ∧ a ≤ 200) (hb : 0 ≤ b ∧ b ≤ 200) (hc : 0 ≤ c ∧ c ≤ 200) (hd : 0 ≤ d ∧ d ≤ 200) : zRun l B mX7_spells [.ref 52, zi a, zi b, zi c, zi d] ζ (some (zi (b2i (decide (T s = a ∧ T (s + 1) = b ∧ T (s + 2) = c ∧ T (s + 3) = d))))) ζ := by
  have b0 := (hx.2 s (by omega)).2
  have b1 := (hx.2 (s + 1) (by omega)).2
  have b2 := (hx.2 (s + 2) (by omega)).2
  have b3 := (hx.2 (s + 3) (by omega)).2
  have l0 : zRun l B mX7_letter [.ref 52, zi 0] ζ (some (zi (T s))) ζ := run_X7_letter hx (k := 0) hi (by omega)
  have l1 : zRun l B mX7_letter [.ref 52, zi 1] ζ (some (zi (T (s + 1)))) ζ := run_X7_letter hx (k := 1) hi (by omega)
  have l2 : zRun l B mX7_letter [.ref 52, zi 2] ζ (some (zi (T (s + 2)))) ζ := run_X7_letter hx (k := 2) hi (by omega)
  have l3 : zRun l B mX7_letter [.ref 52, zi 3] ζ (some (zi (T (s + 3)))) ζ := run_X7_letter hx (k := 3) hi (by omega)
  refine zrun_intro (M := mX7_spells) (ls := [some (.ref 52), some (zi a), some (zi b), some (zi c), some (zi d)]) (by decide) rfl rfl rfl (Nat.le_of_ble_eq_true rfl) ?_
  intro X A C hX hA hr hk
  replace C : CX X B A mX7_spells.2.2.2.2 RX7 cX7_spells 5 0 0 := C
  have hr : (xMeth X).sig.returnType = (some .boolean) := hr
  change ZW X B A 5 0 0 _ _ 0 [some (.ref 52), some (zi a), some (zi b), some (zi c), some (zi d)] []
  subst hX
  by_cases h0 : T s = a
  · by_cases h1 : T (s + 1) = b
    · by_cases h2 : T (s + 2) = c
      · by_cases h3 : T (s + 3) = d
        · rw [decide_eq_true (show T s = a ∧ T (s + 1) = b ∧ T (s + 2) = c ∧ T (s + 3) = d from ⟨h0, h1, h2, h3⟩)]
          refine zw_aload_n (i := 0) (nx := 1) C dX7_spells_0 rfl rfl rfl ?_
          refine zw_iconst (nx := 2) C dX7_spells_1 rfl ?_
          refine zw_cV11 (nx := 5) C dX7_spells_2 rfl cvX7_119 rfl rfl ⟨Nat.le_of_ble_eq_true rfl, Nat.le_of_ble_eq_true rfl⟩ rfl rfl (Nat.le_of_ble_eq_true rfl) l0 ?_
          refine zw_iload_n (i := 1) (nx := 6) C dX7_spells_5 rfl rfl rfl ?_
          refine zw_icmp_ne (tgt := 41) (nx := 9) C dX7_spells_6 rfl rfl (by omega) (fun h6 => by exfalso; omega) (fun h6 => ?_)
          refine zw_aload_n (i := 0) (nx := 10) C dX7_spells_9 rfl rfl rfl ?_
          refine zw_iconst (nx := 11) C dX7_spells_10 rfl ?_
          refine zw_cV11 (nx := 14) C dX7_spells_11 rfl cvX7_119 rfl rfl ⟨Nat.le_of_ble_eq_true rfl, Nat.le_of_ble_eq_true rfl⟩ rfl rfl (Nat.le_of_ble_eq_true rfl) l1 ?_
          refine zw_iload_n (i := 2) (nx := 15) C dX7_spells_14 rfl rfl rfl ?_
          refine zw_icmp_ne (tgt := 41) (nx := 18) C dX7_spells_15 rfl rfl (by omega) (fun h15 => by exfalso; omega) (fun h15 => ?_)
          refine zw_aload_n (i := 0) (nx := 19) C dX7_spells_18 rfl rfl rfl ?_
          refine zw_iconst (nx := 20) C dX7_spells_19 rfl ?_
          refine zw_cV11 (nx := 23) C dX7_spells_20 rfl cvX7_119 rfl rfl ⟨Nat.le_of_ble_eq_true rfl, Nat.le_of_ble_eq_true rfl⟩ rfl rfl (Nat.le_of_ble_eq_true rfl) l2 ?_
          refine zw_iload_n (i := 3) (nx := 24) C dX7_spells_23 rfl rfl rfl ?_
          refine zw_icmp_ne (tgt := 41) (nx := 27) C dX7_spells_24 rfl rfl (by omega) (fun h24 => by exfalso; omega) (fun h24 => ?_)
          refine zw_aload_n (i := 0) (nx := 28) C dX7_spells_27 rfl rfl rfl ?_
          refine zw_iconst (nx := 29) C dX7_spells_28 rfl ?_
          refine zw_cV11 (nx := 32) C dX7_spells_29 rfl cvX7_119 rfl rfl ⟨Nat.le_of_ble_eq_true rfl, Nat.le_of_ble_eq_true rfl⟩ rfl rfl (Nat.le_of_ble_eq_true rfl) l3 ?_
          refine zw_iload (nx := 34) C dX7_spells_32 rfl rfl ?_
          refine zw_icmp_ne (tgt := 41) (nx := 37) C dX7_spells_34 rfl rfl (by omega) (fun h34 => by exfalso; omega) (fun h34 => ?_)
          refine zw_iconst (nx := 38) C dX7_spells_37 rfl ?_
          refine zw_goto (nx := 42) C dX7_spells_38 rfl ?_
          exact zw_zret C hA hr hk dX7_spells_42 rfl rfl rfl
        · rw [decide_eq_false (show ¬ (T s = a ∧ T (s + 1) = b ∧ T (s + 2) = c ∧ T (s + 3) = d) from fun q => h3 q.2.2.2)]
          refine zw_aload_n (i := 0) (nx := 1) C dX7_spells_0 rfl rfl rfl ?_
          refine zw_iconst (nx := 2) C dX7_spells_1 rfl ?_
          refine zw_cV11 (nx := 5) C dX7_spells_2 rfl cvX7_119 rfl rfl ⟨Nat.le_of_ble_eq_true rfl, Nat.le_of_ble_eq_true rfl⟩ rfl rfl (Nat.le_of_ble_eq_true rfl) l0 ?_
          refine zw_iload_n (i := 1) (nx := 6) C dX7_spells_5 rfl rfl rfl ?_
          refine zw_icmp_ne (tgt := 41) (nx := 9) C dX7_spells_6 rfl rfl (by omega) (fun h6 => by exfalso; omega) (fun h6 => ?_)
          refine zw_aload_n (i := 0) (nx := 10) C dX7_spells_9 rfl rfl rfl ?_
          refine zw_iconst (nx := 11) C dX7_spells_10 rfl ?_
          refine zw_cV11 (nx := 14) C dX7_spells_11 rfl cvX7_119 rfl rfl ⟨Nat.le_of_ble_eq_true rfl, Nat.le_of_ble_eq_true rfl⟩ rfl rfl (Nat.le_of_ble_eq_true rfl) l1 ?_
          refine zw_iload_n (i := 2) (nx := 15) C dX7_spells_14 rfl rfl rfl ?_
          refine zw_icmp_ne (tgt := 41) (nx := 18) C dX7_spells_15 rfl rfl (by omega) (fun h15 => by exfalso; omega) (fun h15 => ?_)
          refine zw_aload_n (i := 0) (nx := 19) C dX7_spells_18 rfl rfl rfl ?_
          refine zw_iconst (nx := 20) C dX7_spells_19 rfl ?_
          refine zw_cV11 (nx := 23) C dX7_spells_20 rfl cvX7_119 rfl rfl ⟨Nat.le_of_ble_eq_true rfl, Nat.le_of_ble_eq_true rfl⟩ rfl rfl (Nat.le_of_ble_eq_true rfl) l2 ?_
          refine zw_iload_n (i := 3) (nx := 24) C dX7_spells_23 rfl rfl rfl ?_
          refine zw_icmp_ne (tgt := 41) (nx := 27) C dX7_spells_24 rfl rfl (by omega) (fun h24 => by exfalso; omega) (fun h24 => ?_)
          refine zw_aload_n (i := 0) (nx := 28) C dX7_spells_27 rfl rfl rfl ?_
          refine zw_iconst (nx := 29) C dX7_spells_28 rfl ?_
          refine zw_cV11 (nx := 32) C dX7_spells_29 rfl cvX7_119 rfl rfl ⟨Nat.le_of_ble_eq_true rfl, Nat.le_of_ble_eq_true rfl⟩ rfl rfl (Nat.le_of_ble_eq_true rfl) l3 ?_
          refine zw_iload (nx := 34) C dX7_spells_32 rfl rfl ?_
          refine zw_icmp_ne (tgt := 41) (nx := 37) C dX7_spells_34 rfl rfl (by omega) (fun h34 => ?_) (fun h34 => by exfalso; omega)
          refine zw_iconst (nx := 42) C dX7_spells_41 rfl ?_
          exact zw_zret C hA hr hk dX7_spells_42 rfl rfl rfl
      · rw [decide_eq_false (show ¬ (T s = a ∧ T (s + 1) = b ∧ T (s + 2) = c ∧ T (s + 3) = d) from fun q => h2 q.2.2.1)]
        refine zw_aload_n (i := 0) (nx := 1) C dX7_spells_0 rfl rfl rfl ?_
        refine zw_iconst (nx := 2) C dX7_spells_1 rfl ?_
        refine zw_cV11 (nx := 5) C dX7_spells_2 rfl cvX7_119 rfl rfl ⟨Nat.le_of_ble_eq_true rfl, Nat.le_of_ble_eq_true rfl⟩ rfl rfl (Nat.le_of_ble_eq_true rfl) l0 ?_
        refine zw_iload_n (i := 1) (nx := 6) C dX7_spells_5 rfl rfl rfl ?_
        refine zw_icmp_ne (tgt := 41) (nx := 9) C dX7_spells_6 rfl rfl (by omega) (fun h6 => by exfalso; omega) (fun h6 => ?_)
        refine zw_aload_n (i := 0) (nx := 10) C dX7_spells_9 rfl rfl rfl ?_
        refine zw_iconst (nx := 11) C dX7_spells_10 rfl ?_
        refine zw_cV11 (nx := 14) C dX7_spells_11 rfl cvX7_119 rfl rfl ⟨Nat.le_of_ble_eq_true rfl, Nat.le_of_ble_eq_true rfl⟩ rfl rfl (Nat.le_of_ble_eq_true rfl) l1 ?_
        refine zw_iload_n (i := 2) (nx := 15) C dX7_spells_14 rfl rfl rfl ?_
        refine zw_icmp_ne (tgt := 41) (nx := 18) C dX7_spells_15 rfl rfl (by omega) (fun h15 => by exfalso; omega) (fun h15 => ?_)
        refine zw_aload_n (i := 0) (nx := 19) C dX7_spells_18 rfl rfl rfl ?_
        refine zw_iconst (nx := 20) C dX7_spells_19 rfl ?_
        refine zw_cV11 (nx := 23) C dX7_spells_20 rfl cvX7_119 rfl rfl ⟨Nat.le_of_ble_eq_true rfl, Nat.le_of_ble_eq_true rfl⟩ rfl rfl (Nat.le_of_ble_eq_true rfl) l2 ?_
        refine zw_iload_n (i := 3) (nx := 24) C dX7_spells_23 rfl rfl rfl ?_
        refine zw_icmp_ne (tgt := 41) (nx := 27) C dX7_spells_24 rfl rfl (by omega) (fun h24 => ?_) (fun h24 => by exfalso; omega)
        refine zw_iconst (nx := 42) C dX7_spells_41 rfl ?_
        exact zw_zret C hA hr hk dX7_spells_42 rfl rfl rfl
    · rw [decide_eq_false (show ¬ (T s = a ∧ T (s + 1) = b ∧ T (s + 2) = c ∧ T (s + 3) = d) from fun q => h1 q.2.1)]
      refine zw_aload_n (i := 0) (nx := 1) C dX7_spells_0 rfl rfl rfl ?_
      refine zw_iconst (nx := 2) C dX7_spells_1 rfl ?_
      refine zw_cV11 (nx := 5) C dX7_spells_2 rfl cvX7_119 rfl rfl ⟨Nat.le_of_ble_eq_true rfl, Nat.le_of_ble_eq_true rfl⟩ rfl rfl (Nat.le_of_ble_eq_true rfl) l0 ?_
      refine zw_iload_n (i := 1) (nx := 6) C dX7_spells_5 rfl rfl rfl ?_
      refine zw_icmp_ne (tgt := 41) (nx := 9) C dX7_spells_6 rfl rfl (by omega) (fun h6 => by exfalso; omega) (fun h6 => ?_)
      refine zw_aload_n (i := 0) (nx := 10) C dX7_spells_9 rfl rfl rfl ?_
      refine zw_iconst (nx := 11) C dX7_spells_10 rfl ?_
      refine zw_cV11 (nx := 14) C dX7_spells_11 rfl cvX7_119 rfl rfl ⟨Nat.le_of_ble_eq_true rfl, Nat.le_of_ble_eq_true rfl⟩ rfl rfl (Nat.le_of_ble_eq_true rfl) l1 ?_
      refine zw_iload_n (i := 2) (nx := 15) C dX7_spells_14 rfl rfl rfl ?_
      refine zw_icmp_ne (tgt := 41) (nx := 18) C dX7_spells_15 rfl rfl (by omega) (fun h15 => ?_) (fun h15 => by exfalso; omega)
      refine zw_iconst (nx := 42) C dX7_spells_41 rfl ?_
      exact zw_zret C hA hr hk dX7_spells_42 rfl rfl rfl
  · rw [decide_eq_false (show ¬ (T s = a ∧ T (s + 1) = b ∧ T (s + 2) = c ∧ T (s + 3) = d) from fun q => h0 q.1)]
    refine zw_aload_n (i := 0) (nx := 1) C dX7_spells_0 rfl rfl rfl ?_
    refine zw_iconst (nx := 2) C dX7_spells_1 rfl ?_
    refine zw_cV11 (nx := 5) C dX7_spells_2 rfl cvX7_119 rfl rfl ⟨Nat.le_of_ble_eq_true rfl, Nat.le_of_ble_eq_true rfl⟩ rfl rfl (Nat.le_of_ble_eq_true rfl) l0 ?_
    refine zw_iload_n (i := 1) (nx := 6) C dX7_spells_5 rfl rfl rfl ?_
    refine zw_icmp_ne (tgt := 41) (nx := 9) C dX7_spells_6 rfl rfl (by omega) (fun h6 => ?_) (fun h6 => by exfalso; omega)
    refine zw_iconst (nx := 42) C dX7_spells_41 rfl ?_
    exact zw_zret C hA hr hk dX7_spells_42 rfl rfl rfl
end TextM
