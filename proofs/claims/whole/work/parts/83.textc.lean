/-! reading a text: the class's items -/
def DR (ζ : zSt) (d : pD) : Prop := (ζ.1 10 0 = d.1 ∧ ζ.1 10 1 = d.2.1 ∧ ζ.1 10 3 = d.2.2.2.1 ∧ ζ.1 10 9 = 0 ∧ ζ.1 10 11 = 0) ∧ (∀ y, y < 8 → ζ.1 11 y = d.2.2.1 y) ∧ ∀ p, p < d.2.2.2.1 → ζ.1 12 p = d.2.2.2.2.1 p ∧ ζ.1 13 p = sHd (d.2.2.2.2.1 p) ∧ ζ.1 14 p = d.2.2.2.2.2.1 p ∧ ζ.1 15 p = 0 ∧ ζ.1 16 p = d.2.2.2.2.2.2 p
def PS (ζ0 ζ : zSt) : Prop := ((∀ r, r ∉ [10, 11, 12, 13, 14, 15, 16, 39] → ζ.1 r = ζ0.1 r) ∧ ζ.2 = ζ0.2) ∧ ζ.1 39 1 = ζ0.1 39 1
def PC (ζ0 ζ : zSt) (a : Nat) (k s : Int) (d : pD) : Prop := PS ζ0 ζ ∧ (ζ.1 39 2 = a ∧ ζ.1 39 3 = k ∧ ζ.1 39 4 = s) ∧ DR ζ d
def PF (ζ0 ζ : zSt) (p : Nat) : Prop := PS ζ0 ζ ∧ ζ.1 39 4 = p
theorem PC.toF {ζ0 ζ : zSt} {a s : Nat} {k : Int} {d : pD} (h : PC ζ0 ζ a k s d) : PF ζ0 ζ s := ⟨h.1, h.2.1.2.2⟩
theorem PS.txo {ζ0 ζ : zSt} {t : Nat} {T : Nat → Int} (h : PS ζ0 ζ) (hx : TXo ζ0 t T) : TXo ζ t T := ⟨⟨h.2.trans hx.1.1, hx.1.2⟩, fun j hj => by rw [h.1.1 40 (by decide)]; exact hx.2 j hj⟩
theorem PC_tS {ζ0 ζ : zSt} {a a' : Nat} {k s k' s' v' : Int} {d : pD} (h : PC ζ0 ζ a k s d) : PC ζ0 (tS ζ a' k' s' v') a' k' s' d := ⟨⟨⟨fun r hr => by
  rw [← h.1.1.1 r hr]
  funext j
  have h9 : r ≠ 39 := fun e => by subst e; revert hr; decide
  rw [tS_at, if_neg (fun q => h9 q.1), if_neg (fun q => h9 q.1), if_neg (fun q => h9 q.1), if_neg (fun q => h9 q.1)], h.1.1.2⟩, h.1.2⟩, ⟨rfl, rfl, rfl⟩, h.2.2⟩
theorem PC.put {ζ0 ζ η : zSt} {a : Nat} {k s : Int} {d d' : pD} (h : PC ζ0 ζ a k s d) (hr : ∀ r, r ∉ [10, 11, 12, 13, 14, 15, 16] → η.1 r = ζ.1 r) (h2 : η.2 = ζ.2) (hd : DR η d') : PC ζ0 η a k s d' := ⟨⟨⟨fun r hr' => (hr r (fun q => hr' (List.mem_append_left [39] q))).trans (h.1.1.1 r hr'), h2.trans h.1.1.2⟩, by rw [hr 39 (by decide)]; exact h.1.2⟩, by rw [hr 39 (by decide)]; exact h.2.1, hd⟩
def zAt (l : Launch) (B : eB) (M : eM) (r : Option Value) (ζ' ζ : zSt) (pc : Nat) (ls : List (Option Value)) (st : List Value) : Prop := ∀ (X : eX) (A : Nat → Prop), CX X B A M.2.2.2.2 M.1.cls M.2.1 M.2.2.1 0 0 → xLa X = l → A = eAA B (xS X).heap.size → (xMeth X).sig.returnType = M.2.2.2.1 → (xMeth X).locks = false → ZW X B A M.2.2.1 0 0 (eFin X B r (zz ζ')) ζ pc ls st
def Out (l : Launch) (B : eB) (M : eM) (as : List Value) (ζ0 ζ : zSt) (r : Nat ⊕ (pD × Nat)) : Prop := match r with
  | .inl p => ∃ ζ', zRun l B M as ζ (some (zi 0)) ζ' ∧ PF ζ0 ζ' p
  | .inr q => ∃ (ζ' : zSt) (k s : Int), zRun l B M as ζ (some (zi 1)) ζ' ∧ PC ζ0 ζ' q.2 k s q.1
section TextI
variable {l : Launch} {B : eB} {ζ0 ζ : zSt} {t : Nat} {T : Nat → Int}
theorem PC.back {a : Nat} {k s : Int} {d : pD} (h : PC ζ0 ζ a k s d) : tS ζ a (ζ.1 39 3) (ζ.1 39 4) (ζ.1 39 5) = ζ := by
  have e := tS_self ζ
  rw [h.2.1.1] at e
  exact e
theorem c_num (hx : TXo ζ0 t T) {i : Nat} {k s m : Int} {d : pD} (hp : PC ζ0 ζ i k s d) (hit : i ≤ t) (hm : -1 ≤ m ∧ m ≤ 100) :
    (∀ p, pNum T t i m = .inl p → ∃ ζ', zRun l B mX5_takeNumber [.ref 39, zi m] ζ (some (zi 0)) ζ' ∧ PF ζ0 ζ' p) ∧
    (∀ q, pNum T t i m = .inr q → ∃ ζ', zRun l B mX5_takeNumber [.ref 39, zi m] ζ (some (zi 1)) ζ' ∧ PC ζ0 ζ' q.2 2 (sk T t i) d ∧ ζ'.1 39 5 = q.1) := by
  have r := run_X5_takeNumber (l := l) (B := B) (hp.1.txo hx) hit (k := ζ.1 39 3) (s := ζ.1 39 4) (v := ζ.1 39 5) hm
  rw [hp.back] at r
  have hs := sk_bd T hit
  obtain ⟨t1, t2⟩ := tk_two (T := T) hs.2
  unfold pNum
  by_cases c : tkK T t (sk T t i) = 2
  · obtain ⟨e1, e2⟩ := t2 c
    have c2 := t1.mp c
    rw [e1, e2, c] at r
    by_cases c3 : nV T (sk T t i) (fE T t (sk T t i)) ≤ m
    · rw [if_pos ⟨c2, c3⟩]
      rw [decide_eq_true (show (2 : Int) = 2 ∧ nV T (sk T t i) (fE T t (sk T t i)) ≤ m from ⟨rfl, c3⟩)] at r
      refine ⟨fun p h => (by cases h), fun q h => ?_⟩
      cases h
      exact ⟨_, r, PC_tS hp, rfl⟩
    · rw [if_neg (fun q => c3 q.2)]
      rw [decide_eq_false (show ¬ ((2 : Int) = 2 ∧ nV T (sk T t i) (fE T t (sk T t i)) ≤ m) from fun q => c3 q.2)] at r
      refine ⟨fun p h => ?_, fun q h => by cases h⟩
      cases h
      exact ⟨_, r, (PC_tS hp).toF⟩
  · rw [if_neg (fun q => c (t1.mpr q.1))]
    rw [decide_eq_false (show ¬ (tkK T t (sk T t i) = 2 ∧ tkV T t (sk T t i) (ζ.1 39 5) ≤ m) from fun q => c q.1)] at r
    refine ⟨fun p h => ?_, fun q h => by cases h⟩
    cases h
    exact ⟨_, r, (PC_tS hp).toF⟩
theorem c_end (hx : TXo ζ0 t T) {i : Nat} {k s : Int} {d : pD} (hp : PC ζ0 ζ i k s d) (hit : i ≤ t) :
    (∀ p, pEnd T t i = .inl p → ∃ ζ', zRun l B mX5_takeStop [.ref 39] ζ (some (zi 0)) ζ' ∧ PF ζ0 ζ' p) ∧
    (∀ j, pEnd T t i = .inr j → ∃ ζ', zRun l B mX5_takeStop [.ref 39] ζ (some (zi 1)) ζ' ∧ PC ζ0 ζ' j 3 (sk T t i) d) := by
  have r := run_X5_takeStop (l := l) (B := B) (hp.1.txo hx) hit (k := ζ.1 39 3) (s := ζ.1 39 4) (v := ζ.1 39 5)
  rw [hp.back] at r
  have hs := sk_bd T hit
  obtain ⟨t1, t2⟩ := tk_three (T := T) hs.2
  unfold pEnd
  by_cases c : tkK T t (sk T t i) = 3
  · rw [if_pos (t1.mp c)]
    rw [t2 c, c, decide_eq_true (show (3 : Int) = 3 from rfl)] at r
    refine ⟨fun p h => (by cases h), fun q h => ?_⟩
    cases h
    exact ⟨_, r, PC_tS hp⟩
  · rw [if_neg (fun q => c (t1.mpr q))]
    rw [decide_eq_false c] at r
    refine ⟨fun p h => ?_, fun q h => by cases h⟩
    cases h
    exact ⟨_, r, (PC_tS hp).toF⟩
theorem c_step (hx : TXo ζ0 t T) {i : Nat} {k s : Int} {d : pD} (hp : PC ζ0 ζ i k s d) (hit : i ≤ t) : ∃ ζ', zRun l B mX5_step [.ref 39] ζ none ζ' ∧ PC ζ0 ζ' (tkE T t (sk T t i)) (tkK T t (sk T t i)) (sk T t i) d := by
  have r := run_X5_step (l := l) (B := B) (hp.1.txo hx) hit (k := ζ.1 39 3) (s := ζ.1 39 4) (v := ζ.1 39 5)
  rw [hp.back] at r
  exact ⟨_, r, PC_tS hp⟩
theorem c_track (hx : TXo ζ0 t T) {i : Nat} {k s : Int} {d : pD} (hp : PC ζ0 ζ i k s d) (hit : i ≤ t) : Out l B mX5_takeTrack [.ref 39, .ref 10] ζ0 ζ (pTr T t i d) := by
  obtain ⟨n1, n2⟩ := c_num (l := l) (B := B) hx hp hit (m := 7) (by omega)
  unfold pTr
  cases hq : pNum T t i 7 with
  | inl p =>
    obtain ⟨ζ', r, h⟩ := n1 p hq
    refine ⟨ζ', ?_, h⟩
    refine zrun_intro (M := mX5_takeTrack) (ls := [some (.ref 39), some (.ref 10)]) (by decide) rfl rfl rfl (Nat.le_of_ble_eq_true rfl) ?_
    intro X A C hX hA hr hk
    replace C : CX X B A mX5_takeTrack.2.2.2.2 RX5 cX5_takeTrack 2 0 0 := C
    have hr : (xMeth X).sig.returnType = (some .boolean) := hr
    change ZW X B A 2 0 0 _ _ 0 [some (.ref 39), some (.ref 10)] []
    subst hX
    refine zw_aload_n (i := 0) (nx := 1) C dX5_takeTrack_0 rfl rfl rfl ?_
    refine zw_bipush (v := 7) (nx := 3) C dX5_takeTrack_1 (by decide) rfl ?_
    refine zw_cV11 (nx := 6) C dX5_takeTrack_3 rfl cvX5_78 rfl rfl ⟨Nat.le_of_ble_eq_true rfl, Nat.le_of_ble_eq_true rfl⟩ rfl rfl (Nat.le_of_ble_eq_true rfl) r ?_
    refine zw_if_ne (tgt := 11) (nx := 9) C dX5_takeTrack_6 rfl rfl (by omega) (fun h6 => by exfalso; omega) (fun h6 => ?_)
    refine zw_iconst (nx := 10) C dX5_takeTrack_9 rfl ?_
    exact zw_zret C hA hr hk dX5_takeTrack_10 rfl rfl rfl
  | inr q =>
    obtain ⟨ζ', r, h, hv⟩ := n2 q hq
    refine ⟨zU ζ' 10 0 q.1, 2, sk T t i, ?_, ?_⟩
    · refine zrun_intro (M := mX5_takeTrack) (ls := [some (.ref 39), some (.ref 10)]) (by decide) rfl rfl rfl (Nat.le_of_ble_eq_true rfl) ?_
      intro X A C hX hA hr hk
      replace C : CX X B A mX5_takeTrack.2.2.2.2 RX5 cX5_takeTrack 2 0 0 := C
      have hr : (xMeth X).sig.returnType = (some .boolean) := hr
      change ZW X B A 2 0 0 _ _ 0 [some (.ref 39), some (.ref 10)] []
      subst hX
      refine zw_aload_n (i := 0) (nx := 1) C dX5_takeTrack_0 rfl rfl rfl ?_
      refine zw_bipush (v := 7) (nx := 3) C dX5_takeTrack_1 (by decide) rfl ?_
      refine zw_cV11 (nx := 6) C dX5_takeTrack_3 rfl cvX5_78 rfl rfl ⟨Nat.le_of_ble_eq_true rfl, Nat.le_of_ble_eq_true rfl⟩ rfl rfl (Nat.le_of_ble_eq_true rfl) r ?_
      refine zw_if_ne (tgt := 11) (nx := 9) C dX5_takeTrack_6 rfl rfl (by omega) (fun h6 => ?_) (fun h6 => by exfalso; omega)
      refine zw_aload_n (i := 1) (nx := 12) C dX5_takeTrack_11 rfl rfl rfl ?_
      refine zw_aload_n (i := 0) (nx := 13) C dX5_takeTrack_12 rfl rfl rfl ?_
      refine zw_geti (nx := 16) C dX5_takeTrack_13 rfl flX5_28 iq4 rfl rfl rfl rfl ?_
      rw [hv]
      refine zw_puti (nx := 19) C dX5_takeTrack_16 rfl flX5_82 ic2 nf2_0 rfl rfl rfl rfl rfl ?_
      refine zw_iconst (nx := 20) C dX5_takeTrack_19 rfl ?_
      exact zw_zret C hA hr hk dX5_takeTrack_20 rfl rfl rfl
    · refine h.put (fun r hr => row_off (fun e => by subst e; revert hr; decide)) rfl ?_
      obtain ⟨⟨b1, b2, b3, b4, b5⟩, b6, b7⟩ := h.2.2
      exact ⟨⟨rfl, b2, b3, b4, b5⟩, b6, b7⟩
theorem c_dark (hx : TXo ζ0 t T) {i : Nat} {k s : Int} {d : pD} (hp : PC ζ0 ζ i k s d) (hit : i ≤ t) : Out l B mX5_takeDark [.ref 39, .ref 10] ζ0 ζ (pDk T t i d) := by
  obtain ⟨n1, n2⟩ := c_num (l := l) (B := B) hx hp hit (m := 24) (by omega)
  unfold pDk
  cases hq : pNum T t i 24 with
  | inl p =>
    obtain ⟨ζ', r, h⟩ := n1 p hq
    refine ⟨ζ', ?_, h⟩
    refine zrun_intro (M := mX5_takeDark) (ls := [some (.ref 39), some (.ref 10)]) (by decide) rfl rfl rfl (Nat.le_of_ble_eq_true rfl) ?_
    intro X A C hX hA hr hk
    replace C : CX X B A mX5_takeDark.2.2.2.2 RX5 cX5_takeDark 2 0 0 := C
    have hr : (xMeth X).sig.returnType = (some .boolean) := hr
    change ZW X B A 2 0 0 _ _ 0 [some (.ref 39), some (.ref 10)] []
    subst hX
    refine zw_aload_n (i := 0) (nx := 1) C dX5_takeDark_0 rfl rfl rfl ?_
    refine zw_bipush (v := 24) (nx := 3) C dX5_takeDark_1 (by decide) rfl ?_
    refine zw_cV11 (nx := 6) C dX5_takeDark_3 rfl cvX5_78 rfl rfl ⟨Nat.le_of_ble_eq_true rfl, Nat.le_of_ble_eq_true rfl⟩ rfl rfl (Nat.le_of_ble_eq_true rfl) r ?_
    refine zw_if_ne (tgt := 11) (nx := 9) C dX5_takeDark_6 rfl rfl (by omega) (fun h6 => by exfalso; omega) (fun h6 => ?_)
    refine zw_iconst (nx := 10) C dX5_takeDark_9 rfl ?_
    exact zw_zret C hA hr hk dX5_takeDark_10 rfl rfl rfl
  | inr q =>
    obtain ⟨ζ', r, h, hv⟩ := n2 q hq
    refine ⟨zU ζ' 10 1 (10 * q.1), 2, sk T t i, ?_, ?_⟩
    · refine zrun_intro (M := mX5_takeDark) (ls := [some (.ref 39), some (.ref 10)]) (by decide) rfl rfl rfl (Nat.le_of_ble_eq_true rfl) ?_
      intro X A C hX hA hr hk
      replace C : CX X B A mX5_takeDark.2.2.2.2 RX5 cX5_takeDark 2 0 0 := C
      have hr : (xMeth X).sig.returnType = (some .boolean) := hr
      change ZW X B A 2 0 0 _ _ 0 [some (.ref 39), some (.ref 10)] []
      subst hX
      refine zw_aload_n (i := 0) (nx := 1) C dX5_takeDark_0 rfl rfl rfl ?_
      refine zw_bipush (v := 24) (nx := 3) C dX5_takeDark_1 (by decide) rfl ?_
      refine zw_cV11 (nx := 6) C dX5_takeDark_3 rfl cvX5_78 rfl rfl ⟨Nat.le_of_ble_eq_true rfl, Nat.le_of_ble_eq_true rfl⟩ rfl rfl (Nat.le_of_ble_eq_true rfl) r ?_
      refine zw_if_ne (tgt := 11) (nx := 9) C dX5_takeDark_6 rfl rfl (by omega) (fun h6 => ?_) (fun h6 => by exfalso; omega)
      refine zw_aload_n (i := 1) (nx := 12) C dX5_takeDark_11 rfl rfl rfl ?_
      refine zw_bipush (v := 10) (nx := 14) C dX5_takeDark_12 (by decide) rfl ?_
      refine zw_aload_n (i := 0) (nx := 15) C dX5_takeDark_14 rfl rfl rfl ?_
      refine zw_geti (nx := 18) C dX5_takeDark_15 rfl flX5_28 iq4 rfl rfl rfl rfl ?_
      rw [hv]
      refine zw_imul (nx := 19) C dX5_takeDark_18 rfl ?_
      refine zw_puti (nx := 22) C dX5_takeDark_19 rfl flX5_85 ic2 nf2_1 rfl rfl rfl rfl rfl ?_
      refine zw_iconst (nx := 23) C dX5_takeDark_22 rfl ?_
      exact zw_zret C hA hr hk dX5_takeDark_23 rfl rfl rfl
    · refine h.put (fun r hr => row_off (fun e => by subst e; revert hr; decide)) rfl ?_
      obtain ⟨⟨b1, b2, b3, b4, b5⟩, b6, b7⟩ := h.2.2
      exact ⟨⟨b1, rfl, b3, b4, b5⟩, b6, b7⟩
theorem c_hloop (hx : TXo ζ0 t T) {tr dk : Int} {rs : Nat × (Nat → Int) × (Nat → Int) × (Nat → Int)} : ∀ (k y i : Nat) (H : Nat → Int) (ζ : zSt) (kk s : Int), y + k = 8 → i ≤ t → PC ζ0 ζ i kk s (tr, dk, H, rs) → match pHt T t k y i H with
    | .inl p => ∃ ζ', zAt l B mX5_takeHeights (some (zi 0)) ζ' ζ 2 [some (.ref 39), some (.ref 10), some (zi y)] [] ∧ PF ζ0 ζ' p
    | .inr q => ∃ (ζ' : zSt) (k2 s2 : Int), zAt l B mX5_takeHeights (some (zi 1)) ζ' ζ 2 [some (.ref 39), some (.ref 10), some (zi y)] [] ∧ PC ζ0 ζ' q.2 k2 s2 (tr, dk, q.1, rs) := by
  intro k
  induction k with
  | zero =>
    intro y i H ζ kk s hy hi hp
    refine ⟨ζ, kk, s, ?_, hp⟩
    intro X A C hX hA hr hk
    replace C : CX X B A mX5_takeHeights.2.2.2.2 RX5 cX5_takeHeights 3 0 0 := C
    have hr : (xMeth X).sig.returnType = (some .boolean) := hr
    change ZW X B A 3 0 0 _ _ _ _ _
    subst hX
    refine zw_iload_n (i := 2) (nx := 3) C dX5_takeHeights_2 rfl rfl rfl ?_
    refine zw_bipush (v := 8) (nx := 5) C dX5_takeHeights_3 (by decide) rfl ?_
    refine zw_icmp_ge (tgt := 35) (nx := 8) C dX5_takeHeights_5 rfl rfl (by omega) (fun h5 => ?_) (fun h5 => by exfalso; omega)
    refine zw_iconst (nx := 36) C dX5_takeHeights_35 rfl ?_
    exact zw_zret C hA hr hk dX5_takeHeights_36 rfl rfl rfl
  | succ k ih =>
    intro y i H ζ kk s hy hi hp
    obtain ⟨n1, n2⟩ := c_num (l := l) (B := B) hx hp hi (m := 9) (by omega)
    unfold pHt
    cases hq : pNum T t i 9 with
    | inl p =>
      obtain ⟨ζ', r, h⟩ := n1 p hq
      refine ⟨ζ', ?_, h⟩
      intro X A C hX hA hr hk
      replace C : CX X B A mX5_takeHeights.2.2.2.2 RX5 cX5_takeHeights 3 0 0 := C
      have hr : (xMeth X).sig.returnType = (some .boolean) := hr
      change ZW X B A 3 0 0 _ _ _ _ _
      subst hX
      refine zw_iload_n (i := 2) (nx := 3) C dX5_takeHeights_2 rfl rfl rfl ?_
      refine zw_bipush (v := 8) (nx := 5) C dX5_takeHeights_3 (by decide) rfl ?_
      refine zw_icmp_ge (tgt := 35) (nx := 8) C dX5_takeHeights_5 rfl rfl (by omega) (fun h5 => by exfalso; omega) (fun h5 => ?_)
      refine zw_aload_n (i := 0) (nx := 9) C dX5_takeHeights_8 rfl rfl rfl ?_
      refine zw_bipush (v := 9) (nx := 11) C dX5_takeHeights_9 (by decide) rfl ?_
      refine zw_cV11 (nx := 14) C dX5_takeHeights_11 rfl cvX5_78 rfl rfl ⟨Nat.le_of_ble_eq_true rfl, Nat.le_of_ble_eq_true rfl⟩ rfl rfl (Nat.le_of_ble_eq_true rfl) r ?_
      refine zw_if_ne (tgt := 19) (nx := 17) C dX5_takeHeights_14 rfl rfl (by omega) (fun h14 => by exfalso; omega) (fun h14 => ?_)
      refine zw_iconst (nx := 18) C dX5_takeHeights_17 rfl ?_
      exact zw_zret C hA hr hk dX5_takeHeights_18 rfl rfl rfl
    | inr q =>
      obtain ⟨ζ', r, h, hv⟩ := n2 q hq
      have hqo := pNum_ok hi hq
      have hp2 : PC ζ0 (zU ζ' 11 y q.1) q.2 2 (sk T t i) (tr, dk, zu H y q.1, rs) := by
        refine h.put (fun r hr => row_off (fun e => by subst e; revert hr; decide)) rfl ?_
        obtain ⟨b1, b6, b7⟩ := h.2.2
        refine ⟨b1, fun z hz => ?_, b7⟩
        show (zU ζ' 11 y q.1).1 11 z = zu H y q.1 z
        rw [zU_at, zu_at]
        by_cases e : z = y
        · rw [if_pos ⟨rfl, e⟩, if_pos e]
        · rw [if_neg (fun q => e q.2), if_neg e]; exact b6 z hz
      have nx := ih (y + 1) q.2 (zu H y q.1) (zU ζ' 11 y q.1) 2 (sk T t i) (by omega) hqo.2.2 hp2
      show match pHt T t k (y + 1) q.2 (zu H y q.1) with
        | .inl p => ∃ ζ', zAt l B mX5_takeHeights (some (zi 0)) ζ' ζ 2 [some (.ref 39), some (.ref 10), some (zi y)] [] ∧ PF ζ0 ζ' p
        | .inr q => ∃ (ζ' : zSt) (k2 s2 : Int), zAt l B mX5_takeHeights (some (zi 1)) ζ' ζ 2 [some (.ref 39), some (.ref 10), some (zi y)] [] ∧ PC ζ0 ζ' q.2 k2 s2 (tr, dk, q.1, rs)
      have go : ∀ (r0 : Option Value) (η : zSt), zAt l B mX5_takeHeights r0 η (zU ζ' 11 y q.1) 2 [some (.ref 39), some (.ref 10), some (zi ((y + 1 : Nat) : Int))] [] → zAt l B mX5_takeHeights r0 η ζ 2 [some (.ref 39), some (.ref 10), some (zi y)] [] := by
        intro r0 η K
        intro X A C hX hA hr hk
        replace C : CX X B A mX5_takeHeights.2.2.2.2 RX5 cX5_takeHeights 3 0 0 := C
        have hr : (xMeth X).sig.returnType = (some .boolean) := hr
        change ZW X B A 3 0 0 _ _ _ _ _
        subst hX
        refine zw_iload_n (i := 2) (nx := 3) C dX5_takeHeights_2 rfl rfl rfl ?_
        refine zw_bipush (v := 8) (nx := 5) C dX5_takeHeights_3 (by decide) rfl ?_
        refine zw_icmp_ge (tgt := 35) (nx := 8) C dX5_takeHeights_5 rfl rfl (by omega) (fun h5 => by exfalso; omega) (fun h5 => ?_)
        refine zw_aload_n (i := 0) (nx := 9) C dX5_takeHeights_8 rfl rfl rfl ?_
        refine zw_bipush (v := 9) (nx := 11) C dX5_takeHeights_9 (by decide) rfl ?_
        refine zw_cV11 (nx := 14) C dX5_takeHeights_11 rfl cvX5_78 rfl rfl ⟨Nat.le_of_ble_eq_true rfl, Nat.le_of_ble_eq_true rfl⟩ rfl rfl (Nat.le_of_ble_eq_true rfl) r ?_
        refine zw_if_ne (tgt := 19) (nx := 17) C dX5_takeHeights_14 rfl rfl (by omega) (fun h14 => ?_) (fun h14 => by exfalso; omega)
        refine zw_aload_n (i := 1) (nx := 20) C dX5_takeHeights_19 rfl rfl rfl ?_
        refine zw_getr (nx := 23) C dX5_takeHeights_20 rfl flX5_87 iq2 rfl rfl rfl rfl ?_
        refine zw_iload_n (i := 2) (nx := 24) C dX5_takeHeights_23 rfl rfl rfl ?_
        refine zw_aload_n (i := 0) (nx := 25) C dX5_takeHeights_24 rfl rfl rfl ?_
        refine zw_geti (nx := 28) C dX5_takeHeights_25 rfl flX5_28 iq4 rfl rfl rfl rfl ?_
        rw [hv]
        refine zw_iast (y) (nx := 29) C dX5_takeHeights_28 rfl rfl rfl rfl (by omega) ?_
        refine zw_iinc2 (nx := 32) C dX5_takeHeights_29 rfl (Nat.le_of_ble_eq_true rfl) rfl ?_
        refine zw_goto (nx := 2) C dX5_takeHeights_32 rfl ?_
        exact K X A C rfl hA hr hk
      cases hh : pHt T t k (y + 1) q.2 (zu H y q.1) with
      | inl p =>
        rw [hh] at nx
        obtain ⟨η, a1, a2⟩ := nx
        exact ⟨η, go _ _ a1, a2⟩
      | inr w =>
        rw [hh] at nx
        obtain ⟨η, k2, s2, a1, a2⟩ := nx
        exact ⟨η, k2, s2, go _ _ a1, a2⟩
theorem c_heights (hx : TXo ζ0 t T) {i : Nat} {k s : Int} {d : pD} (hp : PC ζ0 ζ i k s d) (hit : i ≤ t) : Out l B mX5_takeHeights [.ref 39, .ref 10] ζ0 ζ (pHs T t i d) := by
  have nx := c_hloop (l := l) (B := B) hx 8 0 i d.2.2.1 ζ k s (by omega) hit hp
  have go : ∀ (r0 : Int) (η : zSt), zAt l B mX5_takeHeights (some (zi r0)) η ζ 2 [some (.ref 39), some (.ref 10), some (zi ((0 : Nat) : Int))] [] → zRun l B mX5_takeHeights [.ref 39, .ref 10] ζ (some (zi r0)) η := by
    intro r0 η K
    refine zrun_intro (M := mX5_takeHeights) (ls := [some (.ref 39), some (.ref 10), none]) (by decide) rfl rfl rfl (Nat.le_of_ble_eq_true rfl) ?_
    intro X A C hX hA hr hk
    replace C : CX X B A mX5_takeHeights.2.2.2.2 RX5 cX5_takeHeights 3 0 0 := C
    have hr : (xMeth X).sig.returnType = (some .boolean) := hr
    change ZW X B A 3 0 0 _ _ 0 [some (.ref 39), some (.ref 10), none] []
    refine zw_iconst (nx := 1) C dX5_takeHeights_0 rfl ?_
    refine zw_ist2 (nx := 2) C (eIst_n dX5_takeHeights_1 rfl rfl) (Nat.le_of_ble_eq_true rfl) rfl ?_
    exact K X A C hX hA hr hk
  unfold pHs
  cases hh : pHt T t 8 0 i d.2.2.1 with
  | inl p =>
    rw [hh] at nx
    obtain ⟨η, a1, a2⟩ := nx
    exact ⟨η, go _ _ a1, a2⟩
  | inr w =>
    rw [hh] at nx
    obtain ⟨η, k2, s2, a1, a2⟩ := nx
    exact ⟨η, k2, s2, go _ _ a1, a2⟩
theorem c_bidder (hx : TXo ζ0 t T) {i s : Nat} {k : Int} {d : pD} (hp : PC ζ0 ζ i k s d) (hit : i ≤ t) (hd : dK d) : Out l B mX5_takeBidder [.ref 39, .ref 10] ζ0 ζ (pOn T t s i d) := by
  obtain ⟨⟨b1, b2, b3, b4, b5⟩, b6, b7⟩ := hp.2.2
  have hn5 := hd.1
  unfold pOn
  by_cases h5 : d.2.2.2.1 = 5
  · rw [if_pos h5]
    refine ⟨ζ, ?_, hp.toF⟩
    refine zrun_intro (M := mX5_takeBidder) (ls := [some (.ref 39), some (.ref 10), none]) (by decide) rfl rfl rfl (Nat.le_of_ble_eq_true rfl) ?_
    intro X A C hX hA hr hk
    replace C : CX X B A mX5_takeBidder.2.2.2.2 RX5 cX5_takeBidder 3 0 0 := C
    have hr : (xMeth X).sig.returnType = (some .boolean) := hr
    change ZW X B A 3 0 0 _ _ 0 [some (.ref 39), some (.ref 10), none] []
    refine zw_aload_n (i := 1) (nx := 1) C dX5_takeBidder_0 rfl rfl rfl ?_
    refine zw_geti (nx := 4) C dX5_takeBidder_1 rfl flX5_90 iq2 rfl rfl rfl rfl ?_
    refine zw_iconst (nx := 5) C dX5_takeBidder_4 rfl ?_
    refine zw_icmp_ge (tgt := 16) (nx := 8) C dX5_takeBidder_5 rfl rfl (by omega) (fun h5 => ?_) (fun h5 => by exfalso; omega)
    refine zw_iconst (nx := 17) C dX5_takeBidder_16 rfl ?_
    exact zw_zret C hA hr hk dX5_takeBidder_17 rfl rfl rfl
  · rw [if_neg h5]
    obtain ⟨n1, n2⟩ := c_num (l := l) (B := B) hx hp hit (m := 5) (by omega)
    cases hq : pNum T t i 5 with
    | inl p =>
      obtain ⟨ζ', r, h⟩ := n1 p hq
      refine ⟨ζ', ?_, h⟩
      refine zrun_intro (M := mX5_takeBidder) (ls := [some (.ref 39), some (.ref 10), none]) (by decide) rfl rfl rfl (Nat.le_of_ble_eq_true rfl) ?_
      intro X A C hX hA hr hk
      replace C : CX X B A mX5_takeBidder.2.2.2.2 RX5 cX5_takeBidder 3 0 0 := C
      have hr : (xMeth X).sig.returnType = (some .boolean) := hr
      change ZW X B A 3 0 0 _ _ 0 [some (.ref 39), some (.ref 10), none] []
      subst hX
      refine zw_aload_n (i := 1) (nx := 1) C dX5_takeBidder_0 rfl rfl rfl ?_
      refine zw_geti (nx := 4) C dX5_takeBidder_1 rfl flX5_90 iq2 rfl rfl rfl rfl ?_
      refine zw_iconst (nx := 5) C dX5_takeBidder_4 rfl ?_
      refine zw_icmp_ge (tgt := 16) (nx := 8) C dX5_takeBidder_5 rfl rfl (by omega) (fun h5 => by exfalso; omega) (fun h5 => ?_)
      refine zw_aload_n (i := 0) (nx := 9) C dX5_takeBidder_8 rfl rfl rfl ?_
      refine zw_iconst (nx := 10) C dX5_takeBidder_9 rfl ?_
      refine zw_cV11 (nx := 13) C dX5_takeBidder_10 rfl cvX5_78 rfl rfl ⟨Nat.le_of_ble_eq_true rfl, Nat.le_of_ble_eq_true rfl⟩ rfl rfl (Nat.le_of_ble_eq_true rfl) r ?_
      refine zw_if_ne (tgt := 18) (nx := 16) C dX5_takeBidder_13 rfl rfl (by omega) (fun h13 => by exfalso; omega) (fun h13 => ?_)
      refine zw_iconst (nx := 17) C dX5_takeBidder_16 rfl ?_
      exact zw_zret C hA hr hk dX5_takeBidder_17 rfl rfl rfl
    | inr q =>
      obtain ⟨ζ1, r, h, hv⟩ := n2 q hq
      have hqo := pNum_ok hit hq
      obtain ⟨m1, m2⟩ := c_num (l := l) (B := B) hx h hqo.2.2 (m := 50) (by omega)
      show Out l B mX5_takeBidder [.ref 39, .ref 10] ζ0 ζ (bnd (pNum T t q.2 50) _)
      cases hw : pNum T t q.2 50 with
      | inl p =>
        obtain ⟨ζ', r2, h2⟩ := m1 p hw
        refine ⟨ζ', ?_, h2⟩
        refine zrun_intro (M := mX5_takeBidder) (ls := [some (.ref 39), some (.ref 10), none]) (by decide) rfl rfl rfl (Nat.le_of_ble_eq_true rfl) ?_
        intro X A C hX hA hr hk
        replace C : CX X B A mX5_takeBidder.2.2.2.2 RX5 cX5_takeBidder 3 0 0 := C
        have hr : (xMeth X).sig.returnType = (some .boolean) := hr
        change ZW X B A 3 0 0 _ _ 0 [some (.ref 39), some (.ref 10), none] []
        subst hX
        refine zw_aload_n (i := 1) (nx := 1) C dX5_takeBidder_0 rfl rfl rfl ?_
        refine zw_geti (nx := 4) C dX5_takeBidder_1 rfl flX5_90 iq2 rfl rfl rfl rfl ?_
        refine zw_iconst (nx := 5) C dX5_takeBidder_4 rfl ?_
        refine zw_icmp_ge (tgt := 16) (nx := 8) C dX5_takeBidder_5 rfl rfl (by omega) (fun h5 => by exfalso; omega) (fun h5 => ?_)
        refine zw_aload_n (i := 0) (nx := 9) C dX5_takeBidder_8 rfl rfl rfl ?_
        refine zw_iconst (nx := 10) C dX5_takeBidder_9 rfl ?_
        refine zw_cV11 (nx := 13) C dX5_takeBidder_10 rfl cvX5_78 rfl rfl ⟨Nat.le_of_ble_eq_true rfl, Nat.le_of_ble_eq_true rfl⟩ rfl rfl (Nat.le_of_ble_eq_true rfl) r ?_
        refine zw_if_ne (tgt := 18) (nx := 16) C dX5_takeBidder_13 rfl rfl (by omega) (fun h13 => ?_) (fun h13 => by exfalso; omega)
        refine zw_aload_n (i := 0) (nx := 19) C dX5_takeBidder_18 rfl rfl rfl ?_
        refine zw_geti (nx := 22) C dX5_takeBidder_19 rfl flX5_28 iq4 rfl rfl rfl rfl ?_
        rw [hv]
        refine zw_ist2 (nx := 23) C (eIst_n dX5_takeBidder_22 rfl rfl) (Nat.le_of_ble_eq_true rfl) rfl ?_
        refine zw_aload_n (i := 0) (nx := 24) C dX5_takeBidder_23 rfl rfl rfl ?_
        refine zw_bipush (v := 50) (nx := 26) C dX5_takeBidder_24 (by decide) rfl ?_
        refine zw_cV11 (nx := 29) C dX5_takeBidder_26 rfl cvX5_78 rfl rfl ⟨Nat.le_of_ble_eq_true rfl, Nat.le_of_ble_eq_true rfl⟩ rfl rfl (Nat.le_of_ble_eq_true rfl) r2 ?_
        refine zw_if_ne (tgt := 34) (nx := 32) C dX5_takeBidder_29 rfl rfl (by omega) (fun h29 => by exfalso; omega) (fun h29 => ?_)
        refine zw_iconst (nx := 33) C dX5_takeBidder_32 rfl ?_
        exact zw_zret C hA hr hk dX5_takeBidder_33 rfl rfl rfl
      | inr w =>
        obtain ⟨ζ2, r2, h2, hv2⟩ := m2 w hw
        obtain ⟨⟨c1, c2, c3, c4, c5⟩, c6, c7⟩ := h2.2.2
        have ad := run_X2_addBidder10 (l := l) (B := B) (ζ := ζ2) (n := d.2.2.2.1) (by omega) c3 (k := q.1) (u := 10 * w.1) (by omega)
        refine ⟨adS ζ2 10 d.2.2.2.1 q.1 (10 * w.1), 2, sk T t q.2, ?_, ?_⟩
        · refine zrun_intro (M := mX5_takeBidder) (ls := [some (.ref 39), some (.ref 10), none]) (by decide) rfl rfl rfl (Nat.le_of_ble_eq_true rfl) ?_
          intro X A C hX hA hr hk
          replace C : CX X B A mX5_takeBidder.2.2.2.2 RX5 cX5_takeBidder 3 0 0 := C
          have hr : (xMeth X).sig.returnType = (some .boolean) := hr
          change ZW X B A 3 0 0 _ _ 0 [some (.ref 39), some (.ref 10), none] []
          subst hX
          refine zw_aload_n (i := 1) (nx := 1) C dX5_takeBidder_0 rfl rfl rfl ?_
          refine zw_geti (nx := 4) C dX5_takeBidder_1 rfl flX5_90 iq2 rfl rfl rfl rfl ?_
          refine zw_iconst (nx := 5) C dX5_takeBidder_4 rfl ?_
          refine zw_icmp_ge (tgt := 16) (nx := 8) C dX5_takeBidder_5 rfl rfl (by omega) (fun h5 => by exfalso; omega) (fun h5 => ?_)
          refine zw_aload_n (i := 0) (nx := 9) C dX5_takeBidder_8 rfl rfl rfl ?_
          refine zw_iconst (nx := 10) C dX5_takeBidder_9 rfl ?_
          refine zw_cV11 (nx := 13) C dX5_takeBidder_10 rfl cvX5_78 rfl rfl ⟨Nat.le_of_ble_eq_true rfl, Nat.le_of_ble_eq_true rfl⟩ rfl rfl (Nat.le_of_ble_eq_true rfl) r ?_
          refine zw_if_ne (tgt := 18) (nx := 16) C dX5_takeBidder_13 rfl rfl (by omega) (fun h13 => ?_) (fun h13 => by exfalso; omega)
          refine zw_aload_n (i := 0) (nx := 19) C dX5_takeBidder_18 rfl rfl rfl ?_
          refine zw_geti (nx := 22) C dX5_takeBidder_19 rfl flX5_28 iq4 rfl rfl rfl rfl ?_
          rw [hv]
          refine zw_ist2 (nx := 23) C (eIst_n dX5_takeBidder_22 rfl rfl) (Nat.le_of_ble_eq_true rfl) rfl ?_
          refine zw_aload_n (i := 0) (nx := 24) C dX5_takeBidder_23 rfl rfl rfl ?_
          refine zw_bipush (v := 50) (nx := 26) C dX5_takeBidder_24 (by decide) rfl ?_
          refine zw_cV11 (nx := 29) C dX5_takeBidder_26 rfl cvX5_78 rfl rfl ⟨Nat.le_of_ble_eq_true rfl, Nat.le_of_ble_eq_true rfl⟩ rfl rfl (Nat.le_of_ble_eq_true rfl) r2 ?_
          refine zw_if_ne (tgt := 34) (nx := 32) C dX5_takeBidder_29 rfl rfl (by omega) (fun h29 => ?_) (fun h29 => by exfalso; omega)
          refine zw_aload_n (i := 1) (nx := 35) C dX5_takeBidder_34 rfl rfl rfl ?_
          refine zw_iload_n (i := 2) (nx := 36) C dX5_takeBidder_35 rfl rfl rfl ?_
          refine zw_bipush (v := 10) (nx := 38) C dX5_takeBidder_36 (by decide) rfl ?_
          refine zw_aload_n (i := 0) (nx := 39) C dX5_takeBidder_38 rfl rfl rfl ?_
          refine zw_geti (nx := 42) C dX5_takeBidder_39 rfl flX5_28 iq4 rfl rfl rfl rfl ?_
          rw [hv2]
          refine zw_imul (nx := 43) C dX5_takeBidder_42 rfl ?_
          refine zw_cV21 (nx := 46) C dX5_takeBidder_43 rfl cvX5_95 rfl rfl ⟨Nat.le_of_ble_eq_true rfl, Nat.le_of_ble_eq_true rfl⟩ rfl rfl (Nat.le_of_ble_eq_true rfl) ad ?_
          refine zw_pop (nx := 47) C dX5_takeBidder_46 rfl rfl ?_
          refine zw_iconst (nx := 48) C dX5_takeBidder_47 rfl ?_
          exact zw_zret C hA hr hk dX5_takeBidder_48 rfl rfl rfl
        · refine h2.put (fun r hr => ?_) rfl ?_
          · unfold adS
            rw [row_off (fun e => by subst e; revert hr; decide), row_off (fun e => by subst e; revert hr; decide), row_off (fun e => by subst e; revert hr; decide), row_off (fun e => by subst e; revert hr; decide), row_off (fun e => by subst e; revert hr; decide), row_off (fun e => by subst e; revert hr; decide)]
          · refine ⟨⟨c1, c2, ?_, c4, c5⟩, c6, fun p hp => ?_⟩
            · show ((d.2.2.2.1 : Int) + 1) = ((d.2.2.2.1 + 1 : Nat) : Int); omega
            · have hp : p < d.2.2.2.1 + 1 := hp
              have a12 : (adS ζ2 10 d.2.2.2.1 q.1 (10 * w.1)).1 12 p = if p = d.2.2.2.1 then q.1 else ζ2.1 12 p := by
                show (if 12 = 12 ∧ p = d.2.2.2.1 then q.1 else ζ2.1 12 p) = _
                simp
              have a13 : (adS ζ2 10 d.2.2.2.1 q.1 (10 * w.1)).1 13 p = if p = d.2.2.2.1 then sHd q.1 else ζ2.1 13 p := by
                show (if 13 = 13 ∧ p = d.2.2.2.1 then sHd q.1 else ζ2.1 13 p) = _
                simp
              have a14 : (adS ζ2 10 d.2.2.2.1 q.1 (10 * w.1)).1 14 p = if p = d.2.2.2.1 then 10 * w.1 else ζ2.1 14 p := by
                show (if 14 = 14 ∧ p = d.2.2.2.1 then 10 * w.1 else ζ2.1 14 p) = _
                simp
              have a15 : (adS ζ2 10 d.2.2.2.1 q.1 (10 * w.1)).1 15 p = if p = d.2.2.2.1 then 0 else ζ2.1 15 p := by
                show (if 15 = 15 ∧ p = d.2.2.2.1 then 0 else ζ2.1 15 p) = _
                simp
              have a16 : (adS ζ2 10 d.2.2.2.1 q.1 (10 * w.1)).1 16 p = if p = d.2.2.2.1 then -1 else ζ2.1 16 p := by
                show (if 16 = 16 ∧ p = d.2.2.2.1 then -1 else ζ2.1 16 p) = _
                simp
              rw [a12, a13, a14, a15, a16]
              show _ = zu _ _ _ p ∧ _ = sHd (zu _ _ _ p) ∧ _ = zu _ _ _ p ∧ _ ∧ _ = zu _ _ _ p
              rw [zu_at, zu_at, zu_at]
              by_cases e : p = d.2.2.2.1
              · simp only [if_pos e]; exact ⟨trivial, trivial, trivial, trivial, trivial⟩
              · simp only [if_neg e]; exact c7 p (by omega)
theorem run_X2_holder10 {n : Nat} {S : Nat → Int} (hn : n ≤ 5) (hn3 : ζ.1 10 3 = n) (hS : ∀ p, p < n → ζ.1 16 p = S p ∧ -1 ≤ S p ∧ S p ≤ 7) {y : Int} (hy : -2147483648 ≤ y ∧ y ≤ 2147483647) : zRun l B mX2_holder [.ref 10, zi y] ζ (some (zi (sH S y n))) ζ := by
  refine zrun_intro (M := mX2_holder) (ls := [some (.ref 10), some (zi y), none]) (by decide) rfl rfl rfl (Nat.le_of_ble_eq_true rfl) ?_
  intro X A C hX hA hr hk
  replace C : CX X B A mX2_holder.2.2.2.2 RX2 cX2_holder 3 0 0 := C
  have hr : (xMeth X).sig.returnType = (some .int) := hr
  change ZW X B A 3 0 0 _ _ 0 [some (.ref 10), some (zi y), none] []
  have loop : ∀ k p : Nat, p + k = n → sH S y n = sHol (fun _ b => S b) y p k → ZW X B A 3 0 0 (eFin X B (some (zi (sH S y n))) (zz ζ)) ζ 2 [some (.ref 10), some (zi y), some (zi p)] [] := by
    intro k
    induction k with
    | zero =>
      intro p hpk e
      refine zw_iload_n (i := 2) (nx := 3) C dX2_holder_2 rfl rfl rfl ?_
      refine zw_aload_n (i := 0) (nx := 4) C dX2_holder_3 rfl rfl rfl ?_
      refine zw_geti (nx := 7) C dX2_holder_4 rfl flX2_22 iq2 rfl rfl rfl rfl ?_
      refine zw_icmp_ge (tgt := 28) (nx := 10) C dX2_holder_7 rfl rfl (by omega) (fun h7 => ?_) (fun h7 => by exfalso; omega)
      refine zw_iconst (nx := 29) C dX2_holder_28 rfl ?_
      exact zw_iret C hA hr hk dX2_holder_29 (by rw [e]; rfl) rfl
    | succ k ih =>
      intro p hpk e
      obtain ⟨hs1, hs2⟩ := hS p (by omega)
      refine zw_iload_n (i := 2) (nx := 3) C dX2_holder_2 rfl rfl rfl ?_
      refine zw_aload_n (i := 0) (nx := 4) C dX2_holder_3 rfl rfl rfl ?_
      refine zw_geti (nx := 7) C dX2_holder_4 rfl flX2_22 iq2 rfl rfl rfl rfl ?_
      refine zw_icmp_ge (tgt := 28) (nx := 10) C dX2_holder_7 rfl rfl (by omega) (fun h7 => by exfalso; omega) (fun h7 => ?_)
      refine zw_aload_n (i := 0) (nx := 11) C dX2_holder_10 rfl rfl rfl ?_
      refine zw_getr (nx := 14) C dX2_holder_11 rfl flX2_37 iq2 rfl rfl rfl rfl ?_
      refine zw_iload_n (i := 2) (nx := 15) C dX2_holder_14 rfl rfl rfl ?_
      refine zw_iald (p) (nx := 16) C dX2_holder_15 rfl rfl rfl rfl (by omega) ?_
      rw [hs1]
      refine zw_iload_n (i := 1) (nx := 17) C dX2_holder_16 rfl rfl rfl ?_
      refine zw_icmp_ne (tgt := 22) (nx := 20) C dX2_holder_17 rfl rfl (by omega) (fun h17 => ?_) (fun h17 => ?_)
      · refine zw_iinc2 (nx := 25) C dX2_holder_22 rfl (Nat.le_of_ble_eq_true rfl) rfl ?_
        refine zw_goto (nx := 2) C dX2_holder_25 rfl ?_
        exact ih (p + 1) (by omega) (by rw [e]; exact if_neg h17)
      · refine zw_iload_n (i := 2) (nx := 21) C dX2_holder_20 rfl rfl rfl ?_
        exact zw_iret C hA hr hk dX2_holder_21 (by rw [e]; exact congrArg (fun z => some (zi z)) (if_pos h17)) rfl
  refine zw_iconst (nx := 1) C dX2_holder_0 rfl ?_
  refine zw_ist2 (nx := 2) C (eIst_n dX2_holder_1 rfl rfl) (Nat.le_of_ble_eq_true rfl) rfl ?_
  exact loop n 0 (by omega) rfl
theorem c_seat (hx : TXo ζ0 t T) {i : Nat} {k s : Int} {d : pD} (hp : PC ζ0 ζ i k s d) (hit : i ≤ t) (hd : dK d) : Out l B mX5_takeSeat [.ref 39, .ref 10] ζ0 ζ (pSe T t i d) := by
  obtain ⟨⟨b1, b2, b3, b4, b5⟩, b6, b7⟩ := hp.2.2
  have hn5 := hd.1
  unfold pSe
  obtain ⟨n1, n2⟩ := c_num (l := l) (B := B) hx hp hit (m := (d.2.2.2.1 : Int) - 1) (by omega)
  cases hq : pNum T t i ((d.2.2.2.1 : Int) - 1) with
  | inl p =>
    obtain ⟨ζ', r, h⟩ := n1 p hq
    refine ⟨ζ', ?_, h⟩
    refine zrun_intro (M := mX5_takeSeat) (ls := [some (.ref 39), some (.ref 10), none]) (by decide) rfl rfl rfl (Nat.le_of_ble_eq_true rfl) ?_
    intro X A C hX hA hr hk
    replace C : CX X B A mX5_takeSeat.2.2.2.2 RX5 cX5_takeSeat 3 0 0 := C
    have hr : (xMeth X).sig.returnType = (some .boolean) := hr
    change ZW X B A 3 0 0 _ _ 0 [some (.ref 39), some (.ref 10), none] []
    subst hX
    refine zw_aload_n (i := 0) (nx := 1) C dX5_takeSeat_0 rfl rfl rfl ?_
    refine zw_aload_n (i := 1) (nx := 2) C dX5_takeSeat_1 rfl rfl rfl ?_
    refine zw_geti (nx := 5) C dX5_takeSeat_2 rfl flX5_90 iq2 rfl rfl rfl rfl ?_
    rw [b3]
    refine zw_iconst (nx := 6) C dX5_takeSeat_5 rfl ?_
    refine zw_isub (nx := 7) C dX5_takeSeat_6 rfl ?_
    refine zw_cV11 (nx := 10) C dX5_takeSeat_7 rfl cvX5_78 rfl rfl ⟨Nat.le_of_ble_eq_true rfl, Nat.le_of_ble_eq_true rfl⟩ rfl rfl (Nat.le_of_ble_eq_true rfl) r ?_
    refine zw_if_eq (tgt := 26) (nx := 13) C dX5_takeSeat_10 rfl rfl (by omega) (fun h10 => ?_) (fun h10 => by exfalso; omega)
    refine zw_iconst (nx := 27) C dX5_takeSeat_26 rfl ?_
    exact zw_zret C hA hr hk dX5_takeSeat_27 rfl rfl rfl
  | inr q =>
    obtain ⟨ζ1, r, h, hv⟩ := n2 q hq
    have hqo := pNum_ok hit hq
    obtain ⟨pN, hpN⟩ := Int.eq_ofNat_of_zero_le hqo.1.1.1
    have hpn : pN < d.2.2.2.1 := by omega
    have etn : q.1.toNat = pN := by omega
    obtain ⟨c1, c6, c7⟩ := h.2.2
    have s16 := (c7 pN hpn).2.2.2.2
    have sb := (hd.2.2.2.2.1 pN hpn).2.2
    show Out l B mX5_takeSeat [.ref 39, .ref 10] ζ0 ζ (if d.2.2.2.2.2.2 q.1.toNat ≠ -1 then .inl (sk T t i) else bnd (pNum T t q.2 7) _)
    rw [etn]
    by_cases g : d.2.2.2.2.2.2 pN = -1
    · rw [if_neg (fun z => z g)]
      obtain ⟨m1, m2⟩ := c_num (l := l) (B := B) hx h hqo.2.2 (m := 7) (by omega)
      cases hw : pNum T t q.2 7 with
      | inl p =>
        obtain ⟨ζ', r2, h2⟩ := m1 p hw
        refine ⟨ζ', ?_, h2⟩
        refine zrun_intro (M := mX5_takeSeat) (ls := [some (.ref 39), some (.ref 10), none]) (by decide) rfl rfl rfl (Nat.le_of_ble_eq_true rfl) ?_
        intro X A C hX hA hr hk
        replace C : CX X B A mX5_takeSeat.2.2.2.2 RX5 cX5_takeSeat 3 0 0 := C
        have hr : (xMeth X).sig.returnType = (some .boolean) := hr
        change ZW X B A 3 0 0 _ _ 0 [some (.ref 39), some (.ref 10), none] []
        subst hX
        refine zw_aload_n (i := 0) (nx := 1) C dX5_takeSeat_0 rfl rfl rfl ?_
        refine zw_aload_n (i := 1) (nx := 2) C dX5_takeSeat_1 rfl rfl rfl ?_
        refine zw_geti (nx := 5) C dX5_takeSeat_2 rfl flX5_90 iq2 rfl rfl rfl rfl ?_
        rw [b3]
        refine zw_iconst (nx := 6) C dX5_takeSeat_5 rfl ?_
        refine zw_isub (nx := 7) C dX5_takeSeat_6 rfl ?_
        refine zw_cV11 (nx := 10) C dX5_takeSeat_7 rfl cvX5_78 rfl rfl ⟨Nat.le_of_ble_eq_true rfl, Nat.le_of_ble_eq_true rfl⟩ rfl rfl (Nat.le_of_ble_eq_true rfl) r ?_
        refine zw_if_eq (tgt := 26) (nx := 13) C dX5_takeSeat_10 rfl rfl (by omega) (fun h10 => by exfalso; omega) (fun h10 => ?_)
        refine zw_aload_n (i := 1) (nx := 14) C dX5_takeSeat_13 rfl rfl rfl ?_
        refine zw_getr (nx := 17) C dX5_takeSeat_14 rfl flX5_99 iq2 rfl rfl rfl rfl ?_
        refine zw_aload_n (i := 0) (nx := 18) C dX5_takeSeat_17 rfl rfl rfl ?_
        refine zw_geti (nx := 21) C dX5_takeSeat_18 rfl flX5_28 iq4 rfl rfl rfl rfl ?_
        rw [hv]
        refine zw_iald (pN) (nx := 22) C dX5_takeSeat_21 rfl rfl rfl rfl (by omega) ?_
        rw [s16]
        refine zw_iconst (nx := 23) C dX5_takeSeat_22 rfl ?_
        refine zw_icmp_eq (tgt := 28) (nx := 26) C dX5_takeSeat_23 rfl rfl (by omega) (fun h23 => ?_) (fun h23 => by exfalso; omega)
        refine zw_aload_n (i := 0) (nx := 29) C dX5_takeSeat_28 rfl rfl rfl ?_
        refine zw_geti (nx := 32) C dX5_takeSeat_29 rfl flX5_28 iq4 rfl rfl rfl rfl ?_
        rw [hv]
        refine zw_ist2 (nx := 33) C (eIst_n dX5_takeSeat_32 rfl rfl) (Nat.le_of_ble_eq_true rfl) rfl ?_
        refine zw_aload_n (i := 0) (nx := 34) C dX5_takeSeat_33 rfl rfl rfl ?_
        refine zw_bipush (v := 7) (nx := 36) C dX5_takeSeat_34 (by decide) rfl ?_
        refine zw_cV11 (nx := 39) C dX5_takeSeat_36 rfl cvX5_78 rfl rfl ⟨Nat.le_of_ble_eq_true rfl, Nat.le_of_ble_eq_true rfl⟩ rfl rfl (Nat.le_of_ble_eq_true rfl) r2 ?_
        refine zw_if_eq (tgt := 54) (nx := 42) C dX5_takeSeat_39 rfl rfl (by omega) (fun h39 => ?_) (fun h39 => by exfalso; omega)
        refine zw_iconst (nx := 55) C dX5_takeSeat_54 rfl ?_
        exact zw_zret C hA hr hk dX5_takeSeat_55 rfl rfl rfl
      | inr w =>
        obtain ⟨ζ2, r2, h2, hv2⟩ := m2 w hw
        have hwo := pNum_ok hqo.2.2 hw
        obtain ⟨⟨e1, e2, e3, e4, e5⟩, e6, e7⟩ := h2.2.2
        have ho := run_X2_holder10 (l := l) (B := B) (ζ := ζ2) hn5 e3 (fun p hp => ⟨(e7 p hp).2.2.2.2, (hd.2.2.2.2.1 p hp).2.2⟩) (y := w.1) (by omega)
        have hb := sHol_bd (fun _ b => d.2.2.2.2.2.2 b) w.1 d.2.2.2.1 0
        have hb2 : -1 ≤ sH d.2.2.2.2.2.2 w.1 d.2.2.2.1 ∧ sH d.2.2.2.2.2.2 w.1 d.2.2.2.1 ≤ 5 := by
          unfold sH; omega
        show Out l B mX5_takeSeat [.ref 39, .ref 10] ζ0 ζ (if sH d.2.2.2.2.2.2 w.1 d.2.2.2.1 ≠ -1 then .inl (sk T t q.2) else .inr _)
        by_cases g2 : sH d.2.2.2.2.2.2 w.1 d.2.2.2.1 = -1
        · rw [if_neg (fun z => z g2)]
          rw [g2] at ho
          refine ⟨zU ζ2 16 pN w.1, 2, sk T t q.2, ?_, ?_⟩
          · refine zrun_intro (M := mX5_takeSeat) (ls := [some (.ref 39), some (.ref 10), none]) (by decide) rfl rfl rfl (Nat.le_of_ble_eq_true rfl) ?_
            intro X A C hX hA hr hk
            replace C : CX X B A mX5_takeSeat.2.2.2.2 RX5 cX5_takeSeat 3 0 0 := C
            have hr : (xMeth X).sig.returnType = (some .boolean) := hr
            change ZW X B A 3 0 0 _ _ 0 [some (.ref 39), some (.ref 10), none] []
            subst hX
            refine zw_aload_n (i := 0) (nx := 1) C dX5_takeSeat_0 rfl rfl rfl ?_
            refine zw_aload_n (i := 1) (nx := 2) C dX5_takeSeat_1 rfl rfl rfl ?_
            refine zw_geti (nx := 5) C dX5_takeSeat_2 rfl flX5_90 iq2 rfl rfl rfl rfl ?_
            rw [b3]
            refine zw_iconst (nx := 6) C dX5_takeSeat_5 rfl ?_
            refine zw_isub (nx := 7) C dX5_takeSeat_6 rfl ?_
            refine zw_cV11 (nx := 10) C dX5_takeSeat_7 rfl cvX5_78 rfl rfl ⟨Nat.le_of_ble_eq_true rfl, Nat.le_of_ble_eq_true rfl⟩ rfl rfl (Nat.le_of_ble_eq_true rfl) r ?_
            refine zw_if_eq (tgt := 26) (nx := 13) C dX5_takeSeat_10 rfl rfl (by omega) (fun h10 => by exfalso; omega) (fun h10 => ?_)
            refine zw_aload_n (i := 1) (nx := 14) C dX5_takeSeat_13 rfl rfl rfl ?_
            refine zw_getr (nx := 17) C dX5_takeSeat_14 rfl flX5_99 iq2 rfl rfl rfl rfl ?_
            refine zw_aload_n (i := 0) (nx := 18) C dX5_takeSeat_17 rfl rfl rfl ?_
            refine zw_geti (nx := 21) C dX5_takeSeat_18 rfl flX5_28 iq4 rfl rfl rfl rfl ?_
            rw [hv]
            refine zw_iald (pN) (nx := 22) C dX5_takeSeat_21 rfl rfl rfl rfl (by omega) ?_
            rw [s16]
            refine zw_iconst (nx := 23) C dX5_takeSeat_22 rfl ?_
            refine zw_icmp_eq (tgt := 28) (nx := 26) C dX5_takeSeat_23 rfl rfl (by omega) (fun h23 => ?_) (fun h23 => by exfalso; omega)
            refine zw_aload_n (i := 0) (nx := 29) C dX5_takeSeat_28 rfl rfl rfl ?_
            refine zw_geti (nx := 32) C dX5_takeSeat_29 rfl flX5_28 iq4 rfl rfl rfl rfl ?_
            rw [hv]
            refine zw_ist2 (nx := 33) C (eIst_n dX5_takeSeat_32 rfl rfl) (Nat.le_of_ble_eq_true rfl) rfl ?_
            refine zw_aload_n (i := 0) (nx := 34) C dX5_takeSeat_33 rfl rfl rfl ?_
            refine zw_bipush (v := 7) (nx := 36) C dX5_takeSeat_34 (by decide) rfl ?_
            refine zw_cV11 (nx := 39) C dX5_takeSeat_36 rfl cvX5_78 rfl rfl ⟨Nat.le_of_ble_eq_true rfl, Nat.le_of_ble_eq_true rfl⟩ rfl rfl (Nat.le_of_ble_eq_true rfl) r2 ?_
            refine zw_if_eq (tgt := 54) (nx := 42) C dX5_takeSeat_39 rfl rfl (by omega) (fun h39 => by exfalso; omega) (fun h39 => ?_)
            refine zw_aload_n (i := 1) (nx := 43) C dX5_takeSeat_42 rfl rfl rfl ?_
            refine zw_aload_n (i := 0) (nx := 44) C dX5_takeSeat_43 rfl rfl rfl ?_
            refine zw_geti (nx := 47) C dX5_takeSeat_44 rfl flX5_28 iq4 rfl rfl rfl rfl ?_
            rw [hv2]
            refine zw_cV11 (nx := 50) C dX5_takeSeat_47 rfl cvX5_102 rfl rfl ⟨Nat.le_of_ble_eq_true rfl, Nat.le_of_ble_eq_true rfl⟩ rfl rfl (Nat.le_of_ble_eq_true rfl) ho ?_
            refine zw_iconst (nx := 51) C dX5_takeSeat_50 rfl ?_
            refine zw_icmp_eq (tgt := 56) (nx := 54) C dX5_takeSeat_51 rfl rfl (by omega) (fun h51 => ?_) (fun h51 => by exfalso; omega)
            refine zw_aload_n (i := 1) (nx := 57) C dX5_takeSeat_56 rfl rfl rfl ?_
            refine zw_getr (nx := 60) C dX5_takeSeat_57 rfl flX5_99 iq2 rfl rfl rfl rfl ?_
            refine zw_iload_n (i := 2) (nx := 61) C dX5_takeSeat_60 rfl rfl rfl ?_
            refine zw_aload_n (i := 0) (nx := 62) C dX5_takeSeat_61 rfl rfl rfl ?_
            refine zw_geti (nx := 65) C dX5_takeSeat_62 rfl flX5_28 iq4 rfl rfl rfl rfl ?_
            rw [hv2]
            refine zw_iast (pN) (nx := 66) C dX5_takeSeat_65 rfl rfl rfl rfl (by omega) ?_
            refine zw_iconst (nx := 67) C dX5_takeSeat_66 rfl ?_
            exact zw_zret C hA hr hk dX5_takeSeat_67 rfl rfl rfl
          · refine h2.put (fun r hr => row_off (fun e => by subst e; revert hr; decide)) rfl ?_
            refine ⟨⟨e1, e2, e3, e4, e5⟩, e6, fun p hp => ?_⟩
            obtain ⟨x1, x2, x3, x4, x5⟩ := e7 p hp
            refine ⟨x1, x2, x3, x4, ?_⟩
            show (zU ζ2 16 pN w.1).1 16 p = zu d.2.2.2.2.2.2 pN w.1 p
            rw [zU_at, zu_at]
            by_cases e : p = pN
            · rw [if_pos ⟨rfl, e⟩, if_pos e]
            · rw [if_neg (fun q => e q.2), if_neg e]; exact x5
        · rw [if_pos g2]
          refine ⟨ζ2, ?_, h2.toF⟩
          refine zrun_intro (M := mX5_takeSeat) (ls := [some (.ref 39), some (.ref 10), none]) (by decide) rfl rfl rfl (Nat.le_of_ble_eq_true rfl) ?_
          intro X A C hX hA hr hk
          replace C : CX X B A mX5_takeSeat.2.2.2.2 RX5 cX5_takeSeat 3 0 0 := C
          have hr : (xMeth X).sig.returnType = (some .boolean) := hr
          change ZW X B A 3 0 0 _ _ 0 [some (.ref 39), some (.ref 10), none] []
          subst hX
          refine zw_aload_n (i := 0) (nx := 1) C dX5_takeSeat_0 rfl rfl rfl ?_
          refine zw_aload_n (i := 1) (nx := 2) C dX5_takeSeat_1 rfl rfl rfl ?_
          refine zw_geti (nx := 5) C dX5_takeSeat_2 rfl flX5_90 iq2 rfl rfl rfl rfl ?_
          rw [b3]
          refine zw_iconst (nx := 6) C dX5_takeSeat_5 rfl ?_
          refine zw_isub (nx := 7) C dX5_takeSeat_6 rfl ?_
          refine zw_cV11 (nx := 10) C dX5_takeSeat_7 rfl cvX5_78 rfl rfl ⟨Nat.le_of_ble_eq_true rfl, Nat.le_of_ble_eq_true rfl⟩ rfl rfl (Nat.le_of_ble_eq_true rfl) r ?_
          refine zw_if_eq (tgt := 26) (nx := 13) C dX5_takeSeat_10 rfl rfl (by omega) (fun h10 => by exfalso; omega) (fun h10 => ?_)
          refine zw_aload_n (i := 1) (nx := 14) C dX5_takeSeat_13 rfl rfl rfl ?_
          refine zw_getr (nx := 17) C dX5_takeSeat_14 rfl flX5_99 iq2 rfl rfl rfl rfl ?_
          refine zw_aload_n (i := 0) (nx := 18) C dX5_takeSeat_17 rfl rfl rfl ?_
          refine zw_geti (nx := 21) C dX5_takeSeat_18 rfl flX5_28 iq4 rfl rfl rfl rfl ?_
          rw [hv]
          refine zw_iald (pN) (nx := 22) C dX5_takeSeat_21 rfl rfl rfl rfl (by omega) ?_
          rw [s16]
          refine zw_iconst (nx := 23) C dX5_takeSeat_22 rfl ?_
          refine zw_icmp_eq (tgt := 28) (nx := 26) C dX5_takeSeat_23 rfl rfl (by omega) (fun h23 => ?_) (fun h23 => by exfalso; omega)
          refine zw_aload_n (i := 0) (nx := 29) C dX5_takeSeat_28 rfl rfl rfl ?_
          refine zw_geti (nx := 32) C dX5_takeSeat_29 rfl flX5_28 iq4 rfl rfl rfl rfl ?_
          rw [hv]
          refine zw_ist2 (nx := 33) C (eIst_n dX5_takeSeat_32 rfl rfl) (Nat.le_of_ble_eq_true rfl) rfl ?_
          refine zw_aload_n (i := 0) (nx := 34) C dX5_takeSeat_33 rfl rfl rfl ?_
          refine zw_bipush (v := 7) (nx := 36) C dX5_takeSeat_34 (by decide) rfl ?_
          refine zw_cV11 (nx := 39) C dX5_takeSeat_36 rfl cvX5_78 rfl rfl ⟨Nat.le_of_ble_eq_true rfl, Nat.le_of_ble_eq_true rfl⟩ rfl rfl (Nat.le_of_ble_eq_true rfl) r2 ?_
          refine zw_if_eq (tgt := 54) (nx := 42) C dX5_takeSeat_39 rfl rfl (by omega) (fun h39 => by exfalso; omega) (fun h39 => ?_)
          refine zw_aload_n (i := 1) (nx := 43) C dX5_takeSeat_42 rfl rfl rfl ?_
          refine zw_aload_n (i := 0) (nx := 44) C dX5_takeSeat_43 rfl rfl rfl ?_
          refine zw_geti (nx := 47) C dX5_takeSeat_44 rfl flX5_28 iq4 rfl rfl rfl rfl ?_
          rw [hv2]
          refine zw_cV11 (nx := 50) C dX5_takeSeat_47 rfl cvX5_102 rfl rfl ⟨Nat.le_of_ble_eq_true rfl, Nat.le_of_ble_eq_true rfl⟩ rfl rfl (Nat.le_of_ble_eq_true rfl) ho ?_
          refine zw_iconst (nx := 51) C dX5_takeSeat_50 rfl ?_
          refine zw_icmp_eq (tgt := 56) (nx := 54) C dX5_takeSeat_51 rfl rfl (by omega) (fun h51 => by exfalso; omega) (fun h51 => ?_)
          refine zw_iconst (nx := 55) C dX5_takeSeat_54 rfl ?_
          exact zw_zret C hA hr hk dX5_takeSeat_55 rfl rfl rfl
    · rw [if_pos g]
      refine ⟨ζ1, ?_, h.toF⟩
      refine zrun_intro (M := mX5_takeSeat) (ls := [some (.ref 39), some (.ref 10), none]) (by decide) rfl rfl rfl (Nat.le_of_ble_eq_true rfl) ?_
      intro X A C hX hA hr hk
      replace C : CX X B A mX5_takeSeat.2.2.2.2 RX5 cX5_takeSeat 3 0 0 := C
      have hr : (xMeth X).sig.returnType = (some .boolean) := hr
      change ZW X B A 3 0 0 _ _ 0 [some (.ref 39), some (.ref 10), none] []
      subst hX
      refine zw_aload_n (i := 0) (nx := 1) C dX5_takeSeat_0 rfl rfl rfl ?_
      refine zw_aload_n (i := 1) (nx := 2) C dX5_takeSeat_1 rfl rfl rfl ?_
      refine zw_geti (nx := 5) C dX5_takeSeat_2 rfl flX5_90 iq2 rfl rfl rfl rfl ?_
      rw [b3]
      refine zw_iconst (nx := 6) C dX5_takeSeat_5 rfl ?_
      refine zw_isub (nx := 7) C dX5_takeSeat_6 rfl ?_
      refine zw_cV11 (nx := 10) C dX5_takeSeat_7 rfl cvX5_78 rfl rfl ⟨Nat.le_of_ble_eq_true rfl, Nat.le_of_ble_eq_true rfl⟩ rfl rfl (Nat.le_of_ble_eq_true rfl) r ?_
      refine zw_if_eq (tgt := 26) (nx := 13) C dX5_takeSeat_10 rfl rfl (by omega) (fun h10 => by exfalso; omega) (fun h10 => ?_)
      refine zw_aload_n (i := 1) (nx := 14) C dX5_takeSeat_13 rfl rfl rfl ?_
      refine zw_getr (nx := 17) C dX5_takeSeat_14 rfl flX5_99 iq2 rfl rfl rfl rfl ?_
      refine zw_aload_n (i := 0) (nx := 18) C dX5_takeSeat_17 rfl rfl rfl ?_
      refine zw_geti (nx := 21) C dX5_takeSeat_18 rfl flX5_28 iq4 rfl rfl rfl rfl ?_
      rw [hv]
      refine zw_iald (pN) (nx := 22) C dX5_takeSeat_21 rfl rfl rfl rfl (by omega) ?_
      rw [s16]
      refine zw_iconst (nx := 23) C dX5_takeSeat_22 rfl ?_
      refine zw_icmp_eq (tgt := 28) (nx := 26) C dX5_takeSeat_23 rfl rfl (by omega) (fun h23 => by exfalso; omega) (fun h23 => ?_)
      refine zw_iconst (nx := 27) C dX5_takeSeat_26 rfl ?_
      exact zw_zret C hA hr hk dX5_takeSeat_27 rfl rfl rfl
end TextI
