/-! reading a text: the class's whole -/
theorem bnd_l {α β : Type} {a : Nat ⊕ α} {f : α → Nat ⊕ β} {p : Nat} (h : bnd a f = .inl p) : a = .inl p ∨ ∃ x, a = .inr x ∧ f x = .inl p := by
  cases a with
  | inl z => cases h; exact Or.inl rfl
  | inr x => exact Or.inr ⟨x, rfl, h⟩
section PLt
variable {T : Nat → Int} {t : Nat}
theorem pNum_lt {i p : Nat} (hi : i ≤ t) {m : Int} (h : pNum T t i m = .inl p) : p ≤ t := by
  unfold pNum at h
  have hs := sk_bd T hi
  split at h
  · cases h
  · cases h; exact hs.2
theorem pEnd_lt {i p : Nat} (hi : i ≤ t) (h : pEnd T t i = .inl p) : p ≤ t := by
  unfold pEnd at h
  have hs := sk_bd T hi
  split at h
  · cases h
  · cases h; exact hs.2
theorem pHt_lt : ∀ k y i H p, i ≤ t → pHt T t k y i H = .inl p → p ≤ t
  | 0, y, i, H, p, hi, h => by cases h
  | k + 1, y, i, H, p, hi, h => by
    rcases bnd_l (a := pNum T t i 9) (f := fun (q : Int × Nat) => pHt T t k (y + 1) q.2 (zu H y q.1)) h with h1 | ⟨x, h1, h2⟩
    · exact pNum_lt hi h1
    · exact pHt_lt k (y + 1) x.2 _ p (pNum_ok hi h1).2.2 h2
theorem pB_lt {s p : Nat} {d : pD} (hs : s ≤ t) (h : pB2 T t s d = .inl p ∨ pB1 T t s d = .inl p) : p ≤ t := by
  have hl := (lE_bd T hs).2
  rcases h with h | h
  · unfold pB2 at h
    split at h
    · rcases bnd_l h with h1 | ⟨x, h1, h2⟩
      · exact pNum_lt hl h1
      · cases h2
    · split at h
      · rcases bnd_l h with h1 | ⟨x, h1, h2⟩
        · exact pHt_lt _ _ _ _ p hl h1
        · cases h2
      · split at h
        · unfold pOn at h
          split at h
          · cases h; exact hs
          · rcases bnd_l h with h1 | ⟨x, h1, h2⟩
            · exact pNum_lt hl h1
            · rcases bnd_l h2 with h3 | ⟨w, h3, h4⟩
              · exact pNum_lt (pNum_ok hl h1).2.2 h3
              · cases h4
        · split at h
          · rcases bnd_l h with h1 | ⟨x, h1, h2⟩
            · exact pNum_lt hl h1
            · have h5 := (pNum_ok hl h1).2.2
              split at h2
              · cases h2; exact (sk_bd T hl).2
              · rcases bnd_l h2 with h3 | ⟨w, h3, h4⟩
                · exact pNum_lt h5 h3
                · split at h4
                  · cases h4; exact (sk_bd T h5).2
                  · cases h4
          · cases h; exact hs
  · unfold pB1 at h
    split at h
    · rcases bnd_l h with h1 | ⟨x, h1, h2⟩
      · exact pNum_lt hl h1
      · cases h2
    · cases h; exact hs
theorem pIt_lt {s p : Nat} {d : pD} (hs : s ≤ t) (hd : dK d) (h : pIt T t (pB2 T t s d) = .inl p ∨ pIt T t (pB1 T t s d) = .inl p) : p ≤ t := by
  rcases h with h | h
  · rcases bnd_l h with h1 | ⟨x, h1, h2⟩
    · exact pB_lt hs (Or.inl h1)
    · rcases bnd_l h2 with h3 | ⟨w, h3, h4⟩
      · exact pEnd_lt (pB_ok hs hd (Or.inl h1)).2.2 h3
      · cases h4
  · rcases bnd_l h with h1 | ⟨x, h1, h2⟩
    · exact pB_lt hs (Or.inr h1)
    · rcases bnd_l h2 with h3 | ⟨w, h3, h4⟩
      · exact pEnd_lt (pB_ok hs hd (Or.inr h1)).2.2 h3
      · cases h4
theorem pLoop_ok : ∀ (k n s : Nat) (d : pD), s ≤ t → n ≤ s → dK d → (∀ p, pLoop T t k n s d = .inl p → p ≤ t) ∧ ∀ q, pLoop T t k n s d = .inr q → dK q.2 ∧ q.1 ≤ t
  | 0, n, s, d, hs, hn, hd => ⟨fun p h => (by cases h), fun q h => (by cases h; exact ⟨hd, Nat.le_trans hn hs⟩)⟩
  | k + 1, n, s, d, hs, hn, hd => by
    unfold pLoop
    by_cases h : t ≤ s
    · rw [if_pos h]
      exact ⟨fun p h => (by cases h), fun q h => (by cases h; exact ⟨hd, Nat.le_trans hn hs⟩)⟩
    · rw [if_neg h]
      cases hi : pIt T t (pB2 T t s d) with
      | inl z => exact ⟨fun p h => (by cases h; exact pIt_lt hs hd (Or.inl hi)), fun q h => (by cases h)⟩
      | inr z =>
        obtain ⟨a1, a2, a3⟩ := pIt_ok hs hd (Or.inl hi)
        have hsk := sk_bd T a3
        exact pLoop_ok k (n + 1) (sk T t z.2) z.1 hsk.2 (by omega) a1
theorem pAll_ok : (∀ p, pAll T t = .inl p → p ≤ t) ∧ ∀ q, pAll T t = .inr q → dK q.2 ∧ q.1 ≤ t := by
  have h0 := sk_bd T (Nat.zero_le t)
  unfold pAll
  cases hi : pIt T t (pB1 T t (sk T t 0) d0) with
  | inl z => exact ⟨fun p h => (by cases h; exact pIt_lt h0.2 d0_ok (Or.inr hi)), fun q h => (by cases h)⟩
  | inr z =>
    obtain ⟨a1, a2, a3⟩ := pIt_ok h0.2 d0_ok (Or.inr hi)
    have hsk := sk_bd T a3
    exact pLoop_ok (t + 1) 1 (sk T t z.2) z.1 hsk.2 (by omega) a1
theorem wd_iff {s i : Nat} (hi : i < 5) : wd T t s = i ↔ wE T t s i = true := by
  constructor
  · intro h
    rcases wE_cases T t s with ⟨j, hj, hw⟩ | hno
    · have := wd_is hj hw
      rw [show i = j by omega]; exact hw
    · have := wd_no hno
      omega
  · exact wd_is hi
end PLt
section TextR
variable {l : Launch} {B : eB} {ζ0 ζ : zSt} {t : Nat} {T : Nat → Int}
theorem c_word (hx : TXo ζ0 t T) {s : Nat} {d : pD} (hs : s ≤ t) (hp : PC ζ0 ζ (tkE T t s) (tkK T t s) s d) (h1 : tkK T t s = 1) {i : Nat} (hi : i < 5) : zRun l B mX5_isWord [.ref 39, .ref (1000 + i)] ζ (some (zi (b2i (wE T t s i)))) ζ := by
  have hl := lE_bd T hs
  exact run_X5_isWord (hp.1.txo hx) hi (by rw [hp.2.1.1, (tk_one hs).2 h1]) hp.2.1.2.2 hl.1 hl.2
theorem c_fin (hx : TXo ζ0 t T) {M : eM} {f : Int} {body : Nat ⊕ (pD × Nat)} (ho : Out l B M [.ref 39, .ref 10] ζ0 ζ body) (hb : ∀ q, body = .inr q → q.2 ≤ t)
    (go : ∀ (v : Int) (ζ1 ζ' : zSt) (r : Int), (v = 0 ∨ v = 1) → zRun l B M [.ref 39, .ref 10] ζ (some (zi v)) ζ1 → zAt l B mX5_takeItem (some (zi r)) ζ' ζ1 104 [some (.ref 39), some (.ref 10), some (zi f), some (zi v)] [] → zRun l B mX5_takeItem [.ref 39, .ref 10, zi f] ζ (some (zi r)) ζ') : Out l B mX5_takeItem [.ref 39, .ref 10, zi f] ζ0 ζ (pIt T t body) := by
  unfold pIt
  cases body with
  | inl p =>
    obtain ⟨ζ', r, h⟩ := ho
    refine ⟨ζ', go 0 ζ' ζ' 0 (Or.inl rfl) r ?_, h⟩
    intro X A C hX hA hr hk
    replace C : CX X B A mX5_takeItem.2.2.2.2 RX5 cX5_takeItem 4 0 0 := C
    have hr : (xMeth X).sig.returnType = (some .boolean) := hr
    change ZW X B A 4 0 0 _ _ _ _ _
    subst hX
    refine zw_iload_n (i := 3) (nx := 105) C dX5_takeItem_104 rfl rfl rfl ?_
    refine zw_if_eq (tgt := 119) (nx := 108) C dX5_takeItem_105 rfl rfl (by omega) (fun h105 => ?_) (fun h105 => by exfalso; omega)
    refine zw_iconst (nx := 120) C dX5_takeItem_119 rfl ?_
    exact zw_zret C hA hr hk dX5_takeItem_120 rfl rfl rfl
  | inr q =>
    obtain ⟨ζ1, k, s1, r, h⟩ := ho
    obtain ⟨e1, e2⟩ := c_end (l := l) (B := B) hx h (hb q rfl)
    show Out l B mX5_takeItem [.ref 39, .ref 10, zi f] ζ0 ζ (bnd (pEnd T t q.2) fun j => .inr (q.1, j))
    cases he : pEnd T t q.2 with
    | inl p =>
      obtain ⟨ζ', r2, h2⟩ := e1 p he
      refine ⟨ζ', go 1 ζ1 ζ' 0 (Or.inr rfl) r ?_, h2⟩
      intro X A C hX hA hr hk
      replace C : CX X B A mX5_takeItem.2.2.2.2 RX5 cX5_takeItem 4 0 0 := C
      have hr : (xMeth X).sig.returnType = (some .boolean) := hr
      change ZW X B A 4 0 0 _ _ _ _ _
      subst hX
      refine zw_iload_n (i := 3) (nx := 105) C dX5_takeItem_104 rfl rfl rfl ?_
      refine zw_if_eq (tgt := 119) (nx := 108) C dX5_takeItem_105 rfl rfl (by omega) (fun h105 => by exfalso; omega) (fun h105 => ?_)
      refine zw_aload_n (i := 0) (nx := 109) C dX5_takeItem_108 rfl rfl rfl ?_
      refine zw_cV01 (nx := 112) C dX5_takeItem_109 rfl cvX5_74 rfl rfl ⟨Nat.le_of_ble_eq_true rfl, Nat.le_of_ble_eq_true rfl⟩ rfl rfl (Nat.le_of_ble_eq_true rfl) r2 ?_
      refine zw_if_eq (tgt := 119) (nx := 115) C dX5_takeItem_112 rfl rfl (by omega) (fun h112 => ?_) (fun h112 => by exfalso; omega)
      refine zw_iconst (nx := 120) C dX5_takeItem_119 rfl ?_
      exact zw_zret C hA hr hk dX5_takeItem_120 rfl rfl rfl
    | inr j =>
      obtain ⟨ζ', r2, h2⟩ := e2 j he
      refine ⟨ζ', 3, sk T t q.2, go 1 ζ1 ζ' 1 (Or.inr rfl) r ?_, h2⟩
      intro X A C hX hA hr hk
      replace C : CX X B A mX5_takeItem.2.2.2.2 RX5 cX5_takeItem 4 0 0 := C
      have hr : (xMeth X).sig.returnType = (some .boolean) := hr
      change ZW X B A 4 0 0 _ _ _ _ _
      subst hX
      refine zw_iload_n (i := 3) (nx := 105) C dX5_takeItem_104 rfl rfl rfl ?_
      refine zw_if_eq (tgt := 119) (nx := 108) C dX5_takeItem_105 rfl rfl (by omega) (fun h105 => by exfalso; omega) (fun h105 => ?_)
      refine zw_aload_n (i := 0) (nx := 109) C dX5_takeItem_108 rfl rfl rfl ?_
      refine zw_cV01 (nx := 112) C dX5_takeItem_109 rfl cvX5_74 rfl rfl ⟨Nat.le_of_ble_eq_true rfl, Nat.le_of_ble_eq_true rfl⟩ rfl rfl (Nat.le_of_ble_eq_true rfl) r2 ?_
      refine zw_if_eq (tgt := 119) (nx := 115) C dX5_takeItem_112 rfl rfl (by omega) (fun h112 => by exfalso; omega) (fun h112 => ?_)
      refine zw_iconst (nx := 116) C dX5_takeItem_115 rfl ?_
      refine zw_goto (nx := 120) C dX5_takeItem_116 rfl ?_
      exact zw_zret C hA hr hk dX5_takeItem_120 rfl rfl rfl
theorem c_first (hx : TXo ζ0 t T) {s : Nat} {d : pD} (hs : s ≤ t) (hp : PC ζ0 ζ (tkE T t s) (tkK T t s) s d) (hd : dK d) : Out l B mX5_takeItem [.ref 39, .ref 10, zi 1] ζ0 ζ (pIt T t (pB1 T t s d)) := by
  have q3 := hp.2.1.2.1
  have hl := lE_bd T hs
  have kb : 0 ≤ tkK T t s ∧ tkK T t s ≤ 4 := by
    unfold tkK
    split
    · omega
    · split
      · omega
      · split
        · split <;> omega
        · split <;> omega
  cases h0 : wE T t s 0 with
  | true =>
    have k1 := (tk_one hs).1.mpr (wE_lt (by decide) h0)
    have e1 := (tk_one hs).2 k1
    have w0 := c_word (l := l) (B := B) hx hs hp k1 (i := 0) (by decide)
    rw [h0] at w0
    replace w0 : zRun l B mX5_isWord [.ref 39, .ref (1000 + 0)] ζ (some (zi 1)) ζ := w0
    have eb : pB1 T t s d = pTr T t (lE T t s) d := if_pos ((wd_iff (by decide)).mpr h0)
    rw [e1] at hp
    refine c_fin hx (by rw [eb]; exact c_track hx hp hl.2) (fun q hq => (pB_ok hs hd (Or.inr hq)).2.2) (fun v ζ1 ζ' r hv rn K => ?_)
    refine zrun_intro (M := mX5_takeItem) (ls := [some (.ref 39), some (.ref 10), some (zi 1), none]) (by decide) rfl rfl rfl (Nat.le_of_ble_eq_true rfl) ?_
    intro X A C hX hA hr hk
    replace C : CX X B A mX5_takeItem.2.2.2.2 RX5 cX5_takeItem 4 0 0 := C
    have hr : (xMeth X).sig.returnType = (some .boolean) := hr
    change ZW X B A 4 0 0 _ _ 0 [some (.ref 39), some (.ref 10), some (zi 1), none] []
    subst hX
    refine zw_aload_n (i := 0) (nx := 1) C dX5_takeItem_0 rfl rfl rfl ?_
    refine zw_geti (nx := 4) C dX5_takeItem_1 rfl flX5_22 iq4 rfl rfl rfl rfl ?_
    refine zw_iconst (nx := 5) C dX5_takeItem_4 rfl ?_
    refine zw_icmp_ne (tgt := 18) (nx := 8) C dX5_takeItem_5 rfl rfl (by omega) (fun h5 => by exfalso; omega) (fun h5 => ?_)
    refine zw_aload_n (i := 0) (nx := 9) C dX5_takeItem_8 rfl rfl rfl ?_
    refine zw_ldcs (i := 1000 + 0) (nx := 11) C dX5_takeItem_9 rfl C.str.2.1.1 ?_
    refine zw_cV11 (nx := 14) C dX5_takeItem_11 rfl cvX5_46 rfl rfl ⟨Nat.le_of_ble_eq_true rfl, Nat.le_of_ble_eq_true rfl⟩ rfl rfl (Nat.le_of_ble_eq_true rfl) w0 ?_
    refine zw_iload_n (i := 2) (nx := 15) C dX5_takeItem_14 rfl rfl rfl ?_
    refine zw_icmp_eq (tgt := 20) (nx := 18) C dX5_takeItem_15 rfl rfl (by omega) (fun h15 => ?_) (fun h15 => by exfalso; omega)
    refine zw_iconst (nx := 21) C dX5_takeItem_20 rfl ?_
    refine zw_ist3 (nx := 22) C (eIst_n dX5_takeItem_21 rfl rfl) (Nat.le_of_ble_eq_true rfl) rfl ?_
    refine zw_iload_n (i := 2) (nx := 23) C dX5_takeItem_22 rfl rfl rfl ?_
    refine zw_if_eq (tgt := 35) (nx := 26) C dX5_takeItem_23 rfl rfl (by omega) (fun h23 => by exfalso; omega) (fun h23 => ?_)
    refine zw_aload_n (i := 0) (nx := 27) C dX5_takeItem_26 rfl rfl rfl ?_
    refine zw_aload_n (i := 1) (nx := 28) C dX5_takeItem_27 rfl rfl rfl ?_
    refine zw_cV11 (nx := 31) C dX5_takeItem_28 rfl cvX5_50 rfl rfl ⟨Nat.le_of_ble_eq_true rfl, Nat.le_of_ble_eq_true rfl⟩ rfl rfl (Nat.le_of_ble_eq_true rfl) rn ?_
    refine zw_ist3 (nx := 32) C (eIst_n dX5_takeItem_31 rfl rfl) (Nat.le_of_ble_eq_true rfl) rfl ?_
    refine zw_goto (nx := 104) C dX5_takeItem_32 rfl ?_
    exact K X A C rfl hA hr hk
  | false =>
    have eb : pB1 T t s d = .inl s := if_neg (fun q => by
      have : wE T t s 0 = true := (wd_iff (by decide)).mp q
      rw [h0] at this; cases this)
    rw [eb]
    refine ⟨ζ, ?_, hp.toF⟩
    by_cases k1 : tkK T t s = 1
    · have w0 := c_word (l := l) (B := B) hx hs hp k1 (i := 0) (by decide)
      rw [h0] at w0
      replace w0 : zRun l B mX5_isWord [.ref 39, .ref (1000 + 0)] ζ (some (zi 0)) ζ := w0
      refine zrun_intro (M := mX5_takeItem) (ls := [some (.ref 39), some (.ref 10), some (zi 1), none]) (by decide) rfl rfl rfl (Nat.le_of_ble_eq_true rfl) ?_
      intro X A C hX hA hr hk
      replace C : CX X B A mX5_takeItem.2.2.2.2 RX5 cX5_takeItem 4 0 0 := C
      have hr : (xMeth X).sig.returnType = (some .boolean) := hr
      change ZW X B A 4 0 0 _ _ 0 [some (.ref 39), some (.ref 10), some (zi 1), none] []
      subst hX
      refine zw_aload_n (i := 0) (nx := 1) C dX5_takeItem_0 rfl rfl rfl ?_
      refine zw_geti (nx := 4) C dX5_takeItem_1 rfl flX5_22 iq4 rfl rfl rfl rfl ?_
      refine zw_iconst (nx := 5) C dX5_takeItem_4 rfl ?_
      refine zw_icmp_ne (tgt := 18) (nx := 8) C dX5_takeItem_5 rfl rfl (by omega) (fun h5 => by exfalso; omega) (fun h5 => ?_)
      refine zw_aload_n (i := 0) (nx := 9) C dX5_takeItem_8 rfl rfl rfl ?_
      refine zw_ldcs (i := 1000 + 0) (nx := 11) C dX5_takeItem_9 rfl C.str.2.1.1 ?_
      refine zw_cV11 (nx := 14) C dX5_takeItem_11 rfl cvX5_46 rfl rfl ⟨Nat.le_of_ble_eq_true rfl, Nat.le_of_ble_eq_true rfl⟩ rfl rfl (Nat.le_of_ble_eq_true rfl) w0 ?_
      refine zw_iload_n (i := 2) (nx := 15) C dX5_takeItem_14 rfl rfl rfl ?_
      refine zw_icmp_eq (tgt := 20) (nx := 18) C dX5_takeItem_15 rfl rfl (by omega) (fun h15 => by exfalso; omega) (fun h15 => ?_)
      refine zw_iconst (nx := 19) C dX5_takeItem_18 rfl ?_
      exact zw_zret C hA hr hk dX5_takeItem_19 rfl rfl rfl
    · refine zrun_intro (M := mX5_takeItem) (ls := [some (.ref 39), some (.ref 10), some (zi 1), none]) (by decide) rfl rfl rfl (Nat.le_of_ble_eq_true rfl) ?_
      intro X A C hX hA hr hk
      replace C : CX X B A mX5_takeItem.2.2.2.2 RX5 cX5_takeItem 4 0 0 := C
      have hr : (xMeth X).sig.returnType = (some .boolean) := hr
      change ZW X B A 4 0 0 _ _ 0 [some (.ref 39), some (.ref 10), some (zi 1), none] []
      refine zw_aload_n (i := 0) (nx := 1) C dX5_takeItem_0 rfl rfl rfl ?_
      refine zw_geti (nx := 4) C dX5_takeItem_1 rfl flX5_22 iq4 rfl rfl rfl rfl ?_
      refine zw_iconst (nx := 5) C dX5_takeItem_4 rfl ?_
      refine zw_icmp_ne (tgt := 18) (nx := 8) C dX5_takeItem_5 rfl rfl (by omega) (fun h5 => ?_) (fun h5 => by exfalso; omega)
      refine zw_iconst (nx := 19) C dX5_takeItem_18 rfl ?_
      exact zw_zret C hA hr hk dX5_takeItem_19 rfl rfl rfl
theorem c_rest (hx : TXo ζ0 t T) {s : Nat} {d : pD} (hs : s ≤ t) (hp : PC ζ0 ζ (tkE T t s) (tkK T t s) s d) (hd : dK d) : Out l B mX5_takeItem [.ref 39, .ref 10, zi 0] ζ0 ζ (pIt T t (pB2 T t s d)) := by
  have q3 := hp.2.1.2.1
  have hl := lE_bd T hs
  have kb : 0 ≤ tkK T t s ∧ tkK T t s ≤ 4 := by
    unfold tkK
    split
    · omega
    · split
      · omega
      · split
        · split <;> omega
        · split <;> omega
  have wz : ∀ i, i < 5 → tkK T t s = 1 → wE T t s i = false → zRun l B mX5_isWord [.ref 39, .ref (1000 + i)] ζ (some (zi 0)) ζ := fun i hi k1 h => by
    have w0 := c_word (l := l) (B := B) hx hs hp k1 hi
    rw [h] at w0
    exact w0
  have wo : ∀ i, i < 5 → tkK T t s = 1 → wE T t s i = true → zRun l B mX5_isWord [.ref 39, .ref (1000 + i)] ζ (some (zi 1)) ζ := fun i hi k1 h => by
    have w0 := c_word (l := l) (B := B) hx hs hp k1 hi
    rw [h] at w0
    exact w0
  rcases wE_cases T t s with ⟨i, hi, hw⟩ | hno
  · have k1 := (tk_one hs).1.mpr (wE_lt hi hw)
    have e1 := (tk_one hs).2 k1
    have wd1 := wd_is hi hw
    have ex : ∀ j, j < 5 → i ≠ j → wE T t s j = false := fun j hj hn => wE_ex hi hj hw hn
    have hpl := hp
    rw [e1] at hpl
    rcases (show i = 0 ∨ i = 1 ∨ i = 2 ∨ i = 3 ∨ i = 4 by omega) with rfl | rfl | rfl | rfl | rfl
    · have eb : pB2 T t s d = .inl s := by unfold pB2; rw [if_neg (by omega), if_neg (by omega), if_neg (by omega), if_neg (by omega)]
      rw [eb]
      refine ⟨ζ, ?_, hp.toF⟩
      have w0 := wo 0 hi k1 hw
      refine zrun_intro (M := mX5_takeItem) (ls := [some (.ref 39), some (.ref 10), some (zi 0), none]) (by decide) rfl rfl rfl (Nat.le_of_ble_eq_true rfl) ?_
      intro X A C hX hA hr hk
      replace C : CX X B A mX5_takeItem.2.2.2.2 RX5 cX5_takeItem 4 0 0 := C
      have hr : (xMeth X).sig.returnType = (some .boolean) := hr
      change ZW X B A 4 0 0 _ _ 0 [some (.ref 39), some (.ref 10), some (zi 0), none] []
      subst hX
      refine zw_aload_n (i := 0) (nx := 1) C dX5_takeItem_0 rfl rfl rfl ?_
      refine zw_geti (nx := 4) C dX5_takeItem_1 rfl flX5_22 iq4 rfl rfl rfl rfl ?_
      refine zw_iconst (nx := 5) C dX5_takeItem_4 rfl ?_
      refine zw_icmp_ne (tgt := 18) (nx := 8) C dX5_takeItem_5 rfl rfl (by omega) (fun h5 => by exfalso; omega) (fun h5 => ?_)
      refine zw_aload_n (i := 0) (nx := 9) C dX5_takeItem_8 rfl rfl rfl ?_
      refine zw_ldcs (i := 1000 + 0) (nx := 11) C dX5_takeItem_9 rfl C.str.2.1.1 ?_
      refine zw_cV11 (nx := 14) C dX5_takeItem_11 rfl cvX5_46 rfl rfl ⟨Nat.le_of_ble_eq_true rfl, Nat.le_of_ble_eq_true rfl⟩ rfl rfl (Nat.le_of_ble_eq_true rfl) w0 ?_
      refine zw_iload_n (i := 2) (nx := 15) C dX5_takeItem_14 rfl rfl rfl ?_
      refine zw_icmp_eq (tgt := 20) (nx := 18) C dX5_takeItem_15 rfl rfl (by omega) (fun h15 => by exfalso; omega) (fun h15 => ?_)
      refine zw_iconst (nx := 19) C dX5_takeItem_18 rfl ?_
      exact zw_zret C hA hr hk dX5_takeItem_19 rfl rfl rfl
    · have eb : pB2 T t s d = pDk T t (lE T t s) d := by unfold pB2; rw [if_pos (by omega)]
      have w0 := wz 0 (by decide) k1 (ex 0 (by decide) (by decide))
      have w1 := wo 1 hi k1 hw
      refine c_fin hx (by rw [eb]; exact c_dark hx hpl hl.2) (fun q hq => (pB_ok hs hd (Or.inl hq)).2.2) (fun v ζ1 ζ' r hv rn K => ?_)
      refine zrun_intro (M := mX5_takeItem) (ls := [some (.ref 39), some (.ref 10), some (zi 0), none]) (by decide) rfl rfl rfl (Nat.le_of_ble_eq_true rfl) ?_
      intro X A C hX hA hr hk
      replace C : CX X B A mX5_takeItem.2.2.2.2 RX5 cX5_takeItem 4 0 0 := C
      have hr : (xMeth X).sig.returnType = (some .boolean) := hr
      change ZW X B A 4 0 0 _ _ 0 [some (.ref 39), some (.ref 10), some (zi 0), none] []
      subst hX
      refine zw_aload_n (i := 0) (nx := 1) C dX5_takeItem_0 rfl rfl rfl ?_
      refine zw_geti (nx := 4) C dX5_takeItem_1 rfl flX5_22 iq4 rfl rfl rfl rfl ?_
      refine zw_iconst (nx := 5) C dX5_takeItem_4 rfl ?_
      refine zw_icmp_ne (tgt := 18) (nx := 8) C dX5_takeItem_5 rfl rfl (by omega) (fun h5 => by exfalso; omega) (fun h5 => ?_)
      refine zw_aload_n (i := 0) (nx := 9) C dX5_takeItem_8 rfl rfl rfl ?_
      refine zw_ldcs (i := 1000 + 0) (nx := 11) C dX5_takeItem_9 rfl C.str.2.1.1 ?_
      refine zw_cV11 (nx := 14) C dX5_takeItem_11 rfl cvX5_46 rfl rfl ⟨Nat.le_of_ble_eq_true rfl, Nat.le_of_ble_eq_true rfl⟩ rfl rfl (Nat.le_of_ble_eq_true rfl) w0 ?_
      refine zw_iload_n (i := 2) (nx := 15) C dX5_takeItem_14 rfl rfl rfl ?_
      refine zw_icmp_eq (tgt := 20) (nx := 18) C dX5_takeItem_15 rfl rfl (by omega) (fun h15 => ?_) (fun h15 => by exfalso; omega)
      refine zw_iconst (nx := 21) C dX5_takeItem_20 rfl ?_
      refine zw_ist3 (nx := 22) C (eIst_n dX5_takeItem_21 rfl rfl) (Nat.le_of_ble_eq_true rfl) rfl ?_
      refine zw_iload_n (i := 2) (nx := 23) C dX5_takeItem_22 rfl rfl rfl ?_
      refine zw_if_eq (tgt := 35) (nx := 26) C dX5_takeItem_23 rfl rfl (by omega) (fun h23 => ?_) (fun h23 => by exfalso; omega)
      refine zw_aload_n (i := 0) (nx := 36) C dX5_takeItem_35 rfl rfl rfl ?_
      refine zw_ldcs (i := 1000 + 1) (nx := 38) C dX5_takeItem_36 rfl C.str.2.1.2.1 ?_
      refine zw_cV11 (nx := 41) C dX5_takeItem_38 rfl cvX5_46 rfl rfl ⟨Nat.le_of_ble_eq_true rfl, Nat.le_of_ble_eq_true rfl⟩ rfl rfl (Nat.le_of_ble_eq_true rfl) w1 ?_
      refine zw_if_eq (tgt := 53) (nx := 44) C dX5_takeItem_41 rfl rfl (by omega) (fun h41 => by exfalso; omega) (fun h41 => ?_)
      refine zw_aload_n (i := 0) (nx := 45) C dX5_takeItem_44 rfl rfl rfl ?_
      refine zw_aload_n (i := 1) (nx := 46) C dX5_takeItem_45 rfl rfl rfl ?_
      refine zw_cV11 (nx := 49) C dX5_takeItem_46 rfl cvX5_56 rfl rfl ⟨Nat.le_of_ble_eq_true rfl, Nat.le_of_ble_eq_true rfl⟩ rfl rfl (Nat.le_of_ble_eq_true rfl) rn ?_
      refine zw_ist3 (nx := 50) C (eIst_n dX5_takeItem_49 rfl rfl) (Nat.le_of_ble_eq_true rfl) rfl ?_
      refine zw_goto (nx := 104) C dX5_takeItem_50 rfl ?_
      exact K X A C rfl hA hr hk
    · have eb : pB2 T t s d = pHs T t (lE T t s) d := by unfold pB2; rw [if_neg (by omega), if_pos (by omega)]
      have w0 := wz 0 (by decide) k1 (ex 0 (by decide) (by decide))
      have w1 := wz 1 (by decide) k1 (ex 1 (by decide) (by decide))
      have w2 := wo 2 hi k1 hw
      refine c_fin hx (by rw [eb]; exact c_heights hx hpl hl.2) (fun q hq => (pB_ok hs hd (Or.inl hq)).2.2) (fun v ζ1 ζ' r hv rn K => ?_)
      refine zrun_intro (M := mX5_takeItem) (ls := [some (.ref 39), some (.ref 10), some (zi 0), none]) (by decide) rfl rfl rfl (Nat.le_of_ble_eq_true rfl) ?_
      intro X A C hX hA hr hk
      replace C : CX X B A mX5_takeItem.2.2.2.2 RX5 cX5_takeItem 4 0 0 := C
      have hr : (xMeth X).sig.returnType = (some .boolean) := hr
      change ZW X B A 4 0 0 _ _ 0 [some (.ref 39), some (.ref 10), some (zi 0), none] []
      subst hX
      refine zw_aload_n (i := 0) (nx := 1) C dX5_takeItem_0 rfl rfl rfl ?_
      refine zw_geti (nx := 4) C dX5_takeItem_1 rfl flX5_22 iq4 rfl rfl rfl rfl ?_
      refine zw_iconst (nx := 5) C dX5_takeItem_4 rfl ?_
      refine zw_icmp_ne (tgt := 18) (nx := 8) C dX5_takeItem_5 rfl rfl (by omega) (fun h5 => by exfalso; omega) (fun h5 => ?_)
      refine zw_aload_n (i := 0) (nx := 9) C dX5_takeItem_8 rfl rfl rfl ?_
      refine zw_ldcs (i := 1000 + 0) (nx := 11) C dX5_takeItem_9 rfl C.str.2.1.1 ?_
      refine zw_cV11 (nx := 14) C dX5_takeItem_11 rfl cvX5_46 rfl rfl ⟨Nat.le_of_ble_eq_true rfl, Nat.le_of_ble_eq_true rfl⟩ rfl rfl (Nat.le_of_ble_eq_true rfl) w0 ?_
      refine zw_iload_n (i := 2) (nx := 15) C dX5_takeItem_14 rfl rfl rfl ?_
      refine zw_icmp_eq (tgt := 20) (nx := 18) C dX5_takeItem_15 rfl rfl (by omega) (fun h15 => ?_) (fun h15 => by exfalso; omega)
      refine zw_iconst (nx := 21) C dX5_takeItem_20 rfl ?_
      refine zw_ist3 (nx := 22) C (eIst_n dX5_takeItem_21 rfl rfl) (Nat.le_of_ble_eq_true rfl) rfl ?_
      refine zw_iload_n (i := 2) (nx := 23) C dX5_takeItem_22 rfl rfl rfl ?_
      refine zw_if_eq (tgt := 35) (nx := 26) C dX5_takeItem_23 rfl rfl (by omega) (fun h23 => ?_) (fun h23 => by exfalso; omega)
      refine zw_aload_n (i := 0) (nx := 36) C dX5_takeItem_35 rfl rfl rfl ?_
      refine zw_ldcs (i := 1000 + 1) (nx := 38) C dX5_takeItem_36 rfl C.str.2.1.2.1 ?_
      refine zw_cV11 (nx := 41) C dX5_takeItem_38 rfl cvX5_46 rfl rfl ⟨Nat.le_of_ble_eq_true rfl, Nat.le_of_ble_eq_true rfl⟩ rfl rfl (Nat.le_of_ble_eq_true rfl) w1 ?_
      refine zw_if_eq (tgt := 53) (nx := 44) C dX5_takeItem_41 rfl rfl (by omega) (fun h41 => ?_) (fun h41 => by exfalso; omega)
      refine zw_aload_n (i := 0) (nx := 54) C dX5_takeItem_53 rfl rfl rfl ?_
      refine zw_ldcs (i := 1000 + 2) (nx := 56) C dX5_takeItem_54 rfl C.str.2.1.2.2.1 ?_
      refine zw_cV11 (nx := 59) C dX5_takeItem_56 rfl cvX5_46 rfl rfl ⟨Nat.le_of_ble_eq_true rfl, Nat.le_of_ble_eq_true rfl⟩ rfl rfl (Nat.le_of_ble_eq_true rfl) w2 ?_
      refine zw_if_eq (tgt := 71) (nx := 62) C dX5_takeItem_59 rfl rfl (by omega) (fun h59 => by exfalso; omega) (fun h59 => ?_)
      refine zw_aload_n (i := 0) (nx := 63) C dX5_takeItem_62 rfl rfl rfl ?_
      refine zw_aload_n (i := 1) (nx := 64) C dX5_takeItem_63 rfl rfl rfl ?_
      refine zw_cV11 (nx := 67) C dX5_takeItem_64 rfl cvX5_61 rfl rfl ⟨Nat.le_of_ble_eq_true rfl, Nat.le_of_ble_eq_true rfl⟩ rfl rfl (Nat.le_of_ble_eq_true rfl) rn ?_
      refine zw_ist3 (nx := 68) C (eIst_n dX5_takeItem_67 rfl rfl) (Nat.le_of_ble_eq_true rfl) rfl ?_
      refine zw_goto (nx := 104) C dX5_takeItem_68 rfl ?_
      exact K X A C rfl hA hr hk
    · have eb : pB2 T t s d = pOn T t s (lE T t s) d := by unfold pB2; rw [if_neg (by omega), if_neg (by omega), if_pos (by omega)]
      have w0 := wz 0 (by decide) k1 (ex 0 (by decide) (by decide))
      have w1 := wz 1 (by decide) k1 (ex 1 (by decide) (by decide))
      have w2 := wz 2 (by decide) k1 (ex 2 (by decide) (by decide))
      have w3 := wo 3 hi k1 hw
      refine c_fin hx (by rw [eb]; exact c_bidder hx hpl hl.2 hd) (fun q hq => (pB_ok hs hd (Or.inl hq)).2.2) (fun v ζ1 ζ' r hv rn K => ?_)
      refine zrun_intro (M := mX5_takeItem) (ls := [some (.ref 39), some (.ref 10), some (zi 0), none]) (by decide) rfl rfl rfl (Nat.le_of_ble_eq_true rfl) ?_
      intro X A C hX hA hr hk
      replace C : CX X B A mX5_takeItem.2.2.2.2 RX5 cX5_takeItem 4 0 0 := C
      have hr : (xMeth X).sig.returnType = (some .boolean) := hr
      change ZW X B A 4 0 0 _ _ 0 [some (.ref 39), some (.ref 10), some (zi 0), none] []
      subst hX
      refine zw_aload_n (i := 0) (nx := 1) C dX5_takeItem_0 rfl rfl rfl ?_
      refine zw_geti (nx := 4) C dX5_takeItem_1 rfl flX5_22 iq4 rfl rfl rfl rfl ?_
      refine zw_iconst (nx := 5) C dX5_takeItem_4 rfl ?_
      refine zw_icmp_ne (tgt := 18) (nx := 8) C dX5_takeItem_5 rfl rfl (by omega) (fun h5 => by exfalso; omega) (fun h5 => ?_)
      refine zw_aload_n (i := 0) (nx := 9) C dX5_takeItem_8 rfl rfl rfl ?_
      refine zw_ldcs (i := 1000 + 0) (nx := 11) C dX5_takeItem_9 rfl C.str.2.1.1 ?_
      refine zw_cV11 (nx := 14) C dX5_takeItem_11 rfl cvX5_46 rfl rfl ⟨Nat.le_of_ble_eq_true rfl, Nat.le_of_ble_eq_true rfl⟩ rfl rfl (Nat.le_of_ble_eq_true rfl) w0 ?_
      refine zw_iload_n (i := 2) (nx := 15) C dX5_takeItem_14 rfl rfl rfl ?_
      refine zw_icmp_eq (tgt := 20) (nx := 18) C dX5_takeItem_15 rfl rfl (by omega) (fun h15 => ?_) (fun h15 => by exfalso; omega)
      refine zw_iconst (nx := 21) C dX5_takeItem_20 rfl ?_
      refine zw_ist3 (nx := 22) C (eIst_n dX5_takeItem_21 rfl rfl) (Nat.le_of_ble_eq_true rfl) rfl ?_
      refine zw_iload_n (i := 2) (nx := 23) C dX5_takeItem_22 rfl rfl rfl ?_
      refine zw_if_eq (tgt := 35) (nx := 26) C dX5_takeItem_23 rfl rfl (by omega) (fun h23 => ?_) (fun h23 => by exfalso; omega)
      refine zw_aload_n (i := 0) (nx := 36) C dX5_takeItem_35 rfl rfl rfl ?_
      refine zw_ldcs (i := 1000 + 1) (nx := 38) C dX5_takeItem_36 rfl C.str.2.1.2.1 ?_
      refine zw_cV11 (nx := 41) C dX5_takeItem_38 rfl cvX5_46 rfl rfl ⟨Nat.le_of_ble_eq_true rfl, Nat.le_of_ble_eq_true rfl⟩ rfl rfl (Nat.le_of_ble_eq_true rfl) w1 ?_
      refine zw_if_eq (tgt := 53) (nx := 44) C dX5_takeItem_41 rfl rfl (by omega) (fun h41 => ?_) (fun h41 => by exfalso; omega)
      refine zw_aload_n (i := 0) (nx := 54) C dX5_takeItem_53 rfl rfl rfl ?_
      refine zw_ldcs (i := 1000 + 2) (nx := 56) C dX5_takeItem_54 rfl C.str.2.1.2.2.1 ?_
      refine zw_cV11 (nx := 59) C dX5_takeItem_56 rfl cvX5_46 rfl rfl ⟨Nat.le_of_ble_eq_true rfl, Nat.le_of_ble_eq_true rfl⟩ rfl rfl (Nat.le_of_ble_eq_true rfl) w2 ?_
      refine zw_if_eq (tgt := 71) (nx := 62) C dX5_takeItem_59 rfl rfl (by omega) (fun h59 => ?_) (fun h59 => by exfalso; omega)
      refine zw_aload_n (i := 0) (nx := 72) C dX5_takeItem_71 rfl rfl rfl ?_
      refine zw_ldcs (i := 1000 + 3) (nx := 74) C dX5_takeItem_72 rfl C.str.2.1.2.2.2.1 ?_
      refine zw_cV11 (nx := 77) C dX5_takeItem_74 rfl cvX5_46 rfl rfl ⟨Nat.le_of_ble_eq_true rfl, Nat.le_of_ble_eq_true rfl⟩ rfl rfl (Nat.le_of_ble_eq_true rfl) w3 ?_
      refine zw_if_eq (tgt := 89) (nx := 80) C dX5_takeItem_77 rfl rfl (by omega) (fun h77 => by exfalso; omega) (fun h77 => ?_)
      refine zw_aload_n (i := 0) (nx := 81) C dX5_takeItem_80 rfl rfl rfl ?_
      refine zw_aload_n (i := 1) (nx := 82) C dX5_takeItem_81 rfl rfl rfl ?_
      refine zw_cV11 (nx := 85) C dX5_takeItem_82 rfl cvX5_66 rfl rfl ⟨Nat.le_of_ble_eq_true rfl, Nat.le_of_ble_eq_true rfl⟩ rfl rfl (Nat.le_of_ble_eq_true rfl) rn ?_
      refine zw_ist3 (nx := 86) C (eIst_n dX5_takeItem_85 rfl rfl) (Nat.le_of_ble_eq_true rfl) rfl ?_
      refine zw_goto (nx := 104) C dX5_takeItem_86 rfl ?_
      exact K X A C rfl hA hr hk
    · have eb : pB2 T t s d = pSe T t (lE T t s) d := by unfold pB2; rw [if_neg (by omega), if_neg (by omega), if_neg (by omega), if_pos (by omega)]
      have w0 := wz 0 (by decide) k1 (ex 0 (by decide) (by decide))
      have w1 := wz 1 (by decide) k1 (ex 1 (by decide) (by decide))
      have w2 := wz 2 (by decide) k1 (ex 2 (by decide) (by decide))
      have w3 := wz 3 (by decide) k1 (ex 3 (by decide) (by decide))
      have w4 := wo 4 hi k1 hw
      refine c_fin hx (by rw [eb]; exact c_seat hx hpl hl.2 hd) (fun q hq => (pB_ok hs hd (Or.inl hq)).2.2) (fun v ζ1 ζ' r hv rn K => ?_)
      refine zrun_intro (M := mX5_takeItem) (ls := [some (.ref 39), some (.ref 10), some (zi 0), none]) (by decide) rfl rfl rfl (Nat.le_of_ble_eq_true rfl) ?_
      intro X A C hX hA hr hk
      replace C : CX X B A mX5_takeItem.2.2.2.2 RX5 cX5_takeItem 4 0 0 := C
      have hr : (xMeth X).sig.returnType = (some .boolean) := hr
      change ZW X B A 4 0 0 _ _ 0 [some (.ref 39), some (.ref 10), some (zi 0), none] []
      subst hX
      refine zw_aload_n (i := 0) (nx := 1) C dX5_takeItem_0 rfl rfl rfl ?_
      refine zw_geti (nx := 4) C dX5_takeItem_1 rfl flX5_22 iq4 rfl rfl rfl rfl ?_
      refine zw_iconst (nx := 5) C dX5_takeItem_4 rfl ?_
      refine zw_icmp_ne (tgt := 18) (nx := 8) C dX5_takeItem_5 rfl rfl (by omega) (fun h5 => by exfalso; omega) (fun h5 => ?_)
      refine zw_aload_n (i := 0) (nx := 9) C dX5_takeItem_8 rfl rfl rfl ?_
      refine zw_ldcs (i := 1000 + 0) (nx := 11) C dX5_takeItem_9 rfl C.str.2.1.1 ?_
      refine zw_cV11 (nx := 14) C dX5_takeItem_11 rfl cvX5_46 rfl rfl ⟨Nat.le_of_ble_eq_true rfl, Nat.le_of_ble_eq_true rfl⟩ rfl rfl (Nat.le_of_ble_eq_true rfl) w0 ?_
      refine zw_iload_n (i := 2) (nx := 15) C dX5_takeItem_14 rfl rfl rfl ?_
      refine zw_icmp_eq (tgt := 20) (nx := 18) C dX5_takeItem_15 rfl rfl (by omega) (fun h15 => ?_) (fun h15 => by exfalso; omega)
      refine zw_iconst (nx := 21) C dX5_takeItem_20 rfl ?_
      refine zw_ist3 (nx := 22) C (eIst_n dX5_takeItem_21 rfl rfl) (Nat.le_of_ble_eq_true rfl) rfl ?_
      refine zw_iload_n (i := 2) (nx := 23) C dX5_takeItem_22 rfl rfl rfl ?_
      refine zw_if_eq (tgt := 35) (nx := 26) C dX5_takeItem_23 rfl rfl (by omega) (fun h23 => ?_) (fun h23 => by exfalso; omega)
      refine zw_aload_n (i := 0) (nx := 36) C dX5_takeItem_35 rfl rfl rfl ?_
      refine zw_ldcs (i := 1000 + 1) (nx := 38) C dX5_takeItem_36 rfl C.str.2.1.2.1 ?_
      refine zw_cV11 (nx := 41) C dX5_takeItem_38 rfl cvX5_46 rfl rfl ⟨Nat.le_of_ble_eq_true rfl, Nat.le_of_ble_eq_true rfl⟩ rfl rfl (Nat.le_of_ble_eq_true rfl) w1 ?_
      refine zw_if_eq (tgt := 53) (nx := 44) C dX5_takeItem_41 rfl rfl (by omega) (fun h41 => ?_) (fun h41 => by exfalso; omega)
      refine zw_aload_n (i := 0) (nx := 54) C dX5_takeItem_53 rfl rfl rfl ?_
      refine zw_ldcs (i := 1000 + 2) (nx := 56) C dX5_takeItem_54 rfl C.str.2.1.2.2.1 ?_
      refine zw_cV11 (nx := 59) C dX5_takeItem_56 rfl cvX5_46 rfl rfl ⟨Nat.le_of_ble_eq_true rfl, Nat.le_of_ble_eq_true rfl⟩ rfl rfl (Nat.le_of_ble_eq_true rfl) w2 ?_
      refine zw_if_eq (tgt := 71) (nx := 62) C dX5_takeItem_59 rfl rfl (by omega) (fun h59 => ?_) (fun h59 => by exfalso; omega)
      refine zw_aload_n (i := 0) (nx := 72) C dX5_takeItem_71 rfl rfl rfl ?_
      refine zw_ldcs (i := 1000 + 3) (nx := 74) C dX5_takeItem_72 rfl C.str.2.1.2.2.2.1 ?_
      refine zw_cV11 (nx := 77) C dX5_takeItem_74 rfl cvX5_46 rfl rfl ⟨Nat.le_of_ble_eq_true rfl, Nat.le_of_ble_eq_true rfl⟩ rfl rfl (Nat.le_of_ble_eq_true rfl) w3 ?_
      refine zw_if_eq (tgt := 89) (nx := 80) C dX5_takeItem_77 rfl rfl (by omega) (fun h77 => ?_) (fun h77 => by exfalso; omega)
      refine zw_aload_n (i := 0) (nx := 90) C dX5_takeItem_89 rfl rfl rfl ?_
      refine zw_ldcs (i := 1000 + 4) (nx := 92) C dX5_takeItem_90 rfl C.str.2.1.2.2.2.2 ?_
      refine zw_cV11 (nx := 95) C dX5_takeItem_92 rfl cvX5_46 rfl rfl ⟨Nat.le_of_ble_eq_true rfl, Nat.le_of_ble_eq_true rfl⟩ rfl rfl (Nat.le_of_ble_eq_true rfl) w4 ?_
      refine zw_if_eq (tgt := 104) (nx := 98) C dX5_takeItem_95 rfl rfl (by omega) (fun h95 => by exfalso; omega) (fun h95 => ?_)
      refine zw_aload_n (i := 0) (nx := 99) C dX5_takeItem_98 rfl rfl rfl ?_
      refine zw_aload_n (i := 1) (nx := 100) C dX5_takeItem_99 rfl rfl rfl ?_
      refine zw_cV11 (nx := 103) C dX5_takeItem_100 rfl cvX5_71 rfl rfl ⟨Nat.le_of_ble_eq_true rfl, Nat.le_of_ble_eq_true rfl⟩ rfl rfl (Nat.le_of_ble_eq_true rfl) rn ?_
      refine zw_ist3 (nx := 104) C (eIst_n dX5_takeItem_103 rfl rfl) (Nat.le_of_ble_eq_true rfl) rfl ?_
      exact K X A C rfl hA hr hk
  · have wd1 := wd_no hno
    have eb : pB2 T t s d = .inl s := by unfold pB2; rw [if_neg (by omega), if_neg (by omega), if_neg (by omega), if_neg (by omega)]
    rw [eb]
    refine ⟨ζ, ?_, hp.toF⟩
    by_cases k1 : tkK T t s = 1
    · have w0 := wz 0 (by decide) k1 (hno 0 (by decide))
      have w1 := wz 1 (by decide) k1 (hno 1 (by decide))
      have w2 := wz 2 (by decide) k1 (hno 2 (by decide))
      have w3 := wz 3 (by decide) k1 (hno 3 (by decide))
      have w4 := wz 4 (by decide) k1 (hno 4 (by decide))
      refine zrun_intro (M := mX5_takeItem) (ls := [some (.ref 39), some (.ref 10), some (zi 0), none]) (by decide) rfl rfl rfl (Nat.le_of_ble_eq_true rfl) ?_
      intro X A C hX hA hr hk
      replace C : CX X B A mX5_takeItem.2.2.2.2 RX5 cX5_takeItem 4 0 0 := C
      have hr : (xMeth X).sig.returnType = (some .boolean) := hr
      change ZW X B A 4 0 0 _ _ 0 [some (.ref 39), some (.ref 10), some (zi 0), none] []
      subst hX
      refine zw_aload_n (i := 0) (nx := 1) C dX5_takeItem_0 rfl rfl rfl ?_
      refine zw_geti (nx := 4) C dX5_takeItem_1 rfl flX5_22 iq4 rfl rfl rfl rfl ?_
      refine zw_iconst (nx := 5) C dX5_takeItem_4 rfl ?_
      refine zw_icmp_ne (tgt := 18) (nx := 8) C dX5_takeItem_5 rfl rfl (by omega) (fun h5 => by exfalso; omega) (fun h5 => ?_)
      refine zw_aload_n (i := 0) (nx := 9) C dX5_takeItem_8 rfl rfl rfl ?_
      refine zw_ldcs (i := 1000 + 0) (nx := 11) C dX5_takeItem_9 rfl C.str.2.1.1 ?_
      refine zw_cV11 (nx := 14) C dX5_takeItem_11 rfl cvX5_46 rfl rfl ⟨Nat.le_of_ble_eq_true rfl, Nat.le_of_ble_eq_true rfl⟩ rfl rfl (Nat.le_of_ble_eq_true rfl) w0 ?_
      refine zw_iload_n (i := 2) (nx := 15) C dX5_takeItem_14 rfl rfl rfl ?_
      refine zw_icmp_eq (tgt := 20) (nx := 18) C dX5_takeItem_15 rfl rfl (by omega) (fun h15 => ?_) (fun h15 => by exfalso; omega)
      refine zw_iconst (nx := 21) C dX5_takeItem_20 rfl ?_
      refine zw_ist3 (nx := 22) C (eIst_n dX5_takeItem_21 rfl rfl) (Nat.le_of_ble_eq_true rfl) rfl ?_
      refine zw_iload_n (i := 2) (nx := 23) C dX5_takeItem_22 rfl rfl rfl ?_
      refine zw_if_eq (tgt := 35) (nx := 26) C dX5_takeItem_23 rfl rfl (by omega) (fun h23 => ?_) (fun h23 => by exfalso; omega)
      refine zw_aload_n (i := 0) (nx := 36) C dX5_takeItem_35 rfl rfl rfl ?_
      refine zw_ldcs (i := 1000 + 1) (nx := 38) C dX5_takeItem_36 rfl C.str.2.1.2.1 ?_
      refine zw_cV11 (nx := 41) C dX5_takeItem_38 rfl cvX5_46 rfl rfl ⟨Nat.le_of_ble_eq_true rfl, Nat.le_of_ble_eq_true rfl⟩ rfl rfl (Nat.le_of_ble_eq_true rfl) w1 ?_
      refine zw_if_eq (tgt := 53) (nx := 44) C dX5_takeItem_41 rfl rfl (by omega) (fun h41 => ?_) (fun h41 => by exfalso; omega)
      refine zw_aload_n (i := 0) (nx := 54) C dX5_takeItem_53 rfl rfl rfl ?_
      refine zw_ldcs (i := 1000 + 2) (nx := 56) C dX5_takeItem_54 rfl C.str.2.1.2.2.1 ?_
      refine zw_cV11 (nx := 59) C dX5_takeItem_56 rfl cvX5_46 rfl rfl ⟨Nat.le_of_ble_eq_true rfl, Nat.le_of_ble_eq_true rfl⟩ rfl rfl (Nat.le_of_ble_eq_true rfl) w2 ?_
      refine zw_if_eq (tgt := 71) (nx := 62) C dX5_takeItem_59 rfl rfl (by omega) (fun h59 => ?_) (fun h59 => by exfalso; omega)
      refine zw_aload_n (i := 0) (nx := 72) C dX5_takeItem_71 rfl rfl rfl ?_
      refine zw_ldcs (i := 1000 + 3) (nx := 74) C dX5_takeItem_72 rfl C.str.2.1.2.2.2.1 ?_
      refine zw_cV11 (nx := 77) C dX5_takeItem_74 rfl cvX5_46 rfl rfl ⟨Nat.le_of_ble_eq_true rfl, Nat.le_of_ble_eq_true rfl⟩ rfl rfl (Nat.le_of_ble_eq_true rfl) w3 ?_
      refine zw_if_eq (tgt := 89) (nx := 80) C dX5_takeItem_77 rfl rfl (by omega) (fun h77 => ?_) (fun h77 => by exfalso; omega)
      refine zw_aload_n (i := 0) (nx := 90) C dX5_takeItem_89 rfl rfl rfl ?_
      refine zw_ldcs (i := 1000 + 4) (nx := 92) C dX5_takeItem_90 rfl C.str.2.1.2.2.2.2 ?_
      refine zw_cV11 (nx := 95) C dX5_takeItem_92 rfl cvX5_46 rfl rfl ⟨Nat.le_of_ble_eq_true rfl, Nat.le_of_ble_eq_true rfl⟩ rfl rfl (Nat.le_of_ble_eq_true rfl) w4 ?_
      refine zw_if_eq (tgt := 104) (nx := 98) C dX5_takeItem_95 rfl rfl (by omega) (fun h95 => ?_) (fun h95 => by exfalso; omega)
      refine zw_iload_n (i := 3) (nx := 105) C dX5_takeItem_104 rfl rfl rfl ?_
      refine zw_if_eq (tgt := 119) (nx := 108) C dX5_takeItem_105 rfl rfl (by omega) (fun h105 => ?_) (fun h105 => by exfalso; omega)
      refine zw_iconst (nx := 120) C dX5_takeItem_119 rfl ?_
      exact zw_zret C hA hr hk dX5_takeItem_120 rfl rfl rfl
    · refine zrun_intro (M := mX5_takeItem) (ls := [some (.ref 39), some (.ref 10), some (zi 0), none]) (by decide) rfl rfl rfl (Nat.le_of_ble_eq_true rfl) ?_
      intro X A C hX hA hr hk
      replace C : CX X B A mX5_takeItem.2.2.2.2 RX5 cX5_takeItem 4 0 0 := C
      have hr : (xMeth X).sig.returnType = (some .boolean) := hr
      change ZW X B A 4 0 0 _ _ 0 [some (.ref 39), some (.ref 10), some (zi 0), none] []
      refine zw_aload_n (i := 0) (nx := 1) C dX5_takeItem_0 rfl rfl rfl ?_
      refine zw_geti (nx := 4) C dX5_takeItem_1 rfl flX5_22 iq4 rfl rfl rfl rfl ?_
      refine zw_iconst (nx := 5) C dX5_takeItem_4 rfl ?_
      refine zw_icmp_ne (tgt := 18) (nx := 8) C dX5_takeItem_5 rfl rfl (by omega) (fun h5 => ?_) (fun h5 => by exfalso; omega)
      refine zw_iconst (nx := 19) C dX5_takeItem_18 rfl ?_
      exact zw_zret C hA hr hk dX5_takeItem_19 rfl rfl rfl
theorem c_loop (hx : TXo ζ0 t T) : ∀ (k n s : Nat) (d : pD) (ζ : zSt), t - s < k → s ≤ t → n ≤ s → 1 ≤ n → dK d → PC ζ0 ζ (tkE T t s) (tkK T t s) s d → match pLoop T t k n s d with
    | .inl p => ∃ ζ', zAt l B mX5_readInto (some (zi (-10 - (p : Int)))) ζ' ζ 19 [some (.ref 39), some (.ref 10), some (zi n)] [] ∧ PF ζ0 ζ' p
    | .inr q => ∃ (ζ' : zSt) (a : Nat) (k2 s2 : Int), zAt l B mX5_readInto (some (zi q.1)) ζ' ζ 19 [some (.ref 39), some (.ref 10), some (zi n)] [] ∧ PC ζ0 ζ' a k2 s2 q.2 := by
  intro k
  induction k with
  | zero => intro n s d ζ h; omega
  | succ k ih =>
    intro n s d ζ hk0 hs hn hn1 hd hp
    have q3 := hp.2.1.2.1
    have ht := hx.1.2
    have kb : 0 ≤ tkK T t s ∧ tkK T t s ≤ 4 := by
      unfold tkK
      split
      · omega
      · split
        · omega
        · split
          · split <;> omega
          · split <;> omega
    unfold pLoop
    by_cases hts : t ≤ s
    · rw [if_pos hts]
      have e0 : tkK T t s = 0 := if_pos hts
      refine ⟨ζ, _, _, _, ?_, hp⟩
      by_cases h150 : 150 ≤ n
      · intro X A C hX hA hr hk
        replace C : CX X B A mX5_readInto.2.2.2.2 RX5 cX5_readInto 3 0 0 := C
        have hr : (xMeth X).sig.returnType = (some .int) := hr
        change ZW X B A 3 0 0 _ _ _ _ _
        subst hX
        refine zw_iload_n (i := 2) (nx := 20) C dX5_readInto_19 rfl rfl rfl ?_
        refine zw_sipush (v := 150) (nx := 23) C dX5_readInto_20 (by decide) rfl ?_
        refine zw_icmp_ge (tgt := 72) (nx := 26) C dX5_readInto_23 rfl rfl (by omega) (fun h23 => ?_) (fun h23 => by exfalso; omega)
        refine zw_iload_n (i := 2) (nx := 73) C dX5_readInto_72 rfl rfl rfl ?_
        exact zw_iret C hA hr hk dX5_readInto_73 rfl rfl
      · intro X A C hX hA hr hk
        replace C : CX X B A mX5_readInto.2.2.2.2 RX5 cX5_readInto 3 0 0 := C
        have hr : (xMeth X).sig.returnType = (some .int) := hr
        change ZW X B A 3 0 0 _ _ _ _ _
        subst hX
        refine zw_iload_n (i := 2) (nx := 20) C dX5_readInto_19 rfl rfl rfl ?_
        refine zw_sipush (v := 150) (nx := 23) C dX5_readInto_20 (by decide) rfl ?_
        refine zw_icmp_ge (tgt := 72) (nx := 26) C dX5_readInto_23 rfl rfl (by omega) (fun h23 => by exfalso; omega) (fun h23 => ?_)
        refine zw_iload_n (i := 2) (nx := 27) C dX5_readInto_26 rfl rfl rfl ?_
        refine zw_if_eq (tgt := 37) (nx := 30) C dX5_readInto_27 rfl rfl (by omega) (fun h27 => by exfalso; omega) (fun h27 => ?_)
        refine zw_aload_n (i := 0) (nx := 31) C dX5_readInto_30 rfl rfl rfl ?_
        refine zw_geti (nx := 34) C dX5_readInto_31 rfl flX5_22 iq4 rfl rfl rfl rfl ?_
        refine zw_if_eq (tgt := 72) (nx := 37) C dX5_readInto_34 rfl rfl (by omega) (fun h34 => ?_) (fun h34 => by exfalso; omega)
        refine zw_iload_n (i := 2) (nx := 73) C dX5_readInto_72 rfl rfl rfl ?_
        exact zw_iret C hA hr hk dX5_readInto_73 rfl rfl
    · rw [if_neg hts]
      have e0 := tk_zero (T := T) hts
      have it := c_rest (l := l) (B := B) hx hs hp hd
      cases hi : pIt T t (pB2 T t s d) with
      | inl p =>
        rw [hi] at it
        obtain ⟨ζ', r, h⟩ := it
        refine ⟨ζ', ?_, h⟩
        intro X A C hX hA hr hk
        replace C : CX X B A mX5_readInto.2.2.2.2 RX5 cX5_readInto 3 0 0 := C
        have hr : (xMeth X).sig.returnType = (some .int) := hr
        change ZW X B A 3 0 0 _ _ _ _ _
        subst hX
        refine zw_iload_n (i := 2) (nx := 20) C dX5_readInto_19 rfl rfl rfl ?_
        refine zw_sipush (v := 150) (nx := 23) C dX5_readInto_20 (by decide) rfl ?_
        refine zw_icmp_ge (tgt := 72) (nx := 26) C dX5_readInto_23 rfl rfl (by omega) (fun h23 => by exfalso; omega) (fun h23 => ?_)
        refine zw_iload_n (i := 2) (nx := 27) C dX5_readInto_26 rfl rfl rfl ?_
        refine zw_if_eq (tgt := 37) (nx := 30) C dX5_readInto_27 rfl rfl (by omega) (fun h27 => by exfalso; omega) (fun h27 => ?_)
        refine zw_aload_n (i := 0) (nx := 31) C dX5_readInto_30 rfl rfl rfl ?_
        refine zw_geti (nx := 34) C dX5_readInto_31 rfl flX5_22 iq4 rfl rfl rfl rfl ?_
        refine zw_if_eq (tgt := 72) (nx := 37) C dX5_readInto_34 rfl rfl (by omega) (fun h34 => by exfalso; omega) (fun h34 => ?_)
        refine zw_aload_n (i := 0) (nx := 38) C dX5_readInto_37 rfl rfl rfl ?_
        refine zw_aload_n (i := 1) (nx := 39) C dX5_readInto_38 rfl rfl rfl ?_
        refine zw_iload_n (i := 2) (nx := 40) C dX5_readInto_39 rfl rfl rfl ?_
        refine zw_if_ne (tgt := 47) (nx := 43) C dX5_readInto_40 rfl rfl (by omega) (fun h40 => ?_) (fun h40 => by exfalso; omega)
        refine zw_iconst (nx := 48) C dX5_readInto_47 rfl ?_
        refine zw_cV21 (nx := 51) C dX5_readInto_48 rfl cvX5_40 rfl rfl ⟨Nat.le_of_ble_eq_true rfl, Nat.le_of_ble_eq_true rfl⟩ rfl rfl (Nat.le_of_ble_eq_true rfl) r ?_
        refine zw_if_ne (tgt := 62) (nx := 54) C dX5_readInto_51 rfl rfl (by omega) (fun h51 => by exfalso; omega) (fun h51 => ?_)
        refine zw_bipush (v := -10) (nx := 56) C dX5_readInto_54 (by decide) rfl ?_
        refine zw_aload_n (i := 0) (nx := 57) C dX5_readInto_56 rfl rfl rfl ?_
        refine zw_geti (nx := 60) C dX5_readInto_57 rfl flX5_25 iq4 rfl rfl rfl rfl ?_
        refine zw_isub (nx := 61) C dX5_readInto_60 rfl ?_
        exact zw_iret C hA hr hk dX5_readInto_61 (zr (by rw [h.2])) rfl
      | inr q =>
        rw [hi] at it
        obtain ⟨ζ1, k1, s1, r, h1⟩ := it
        obtain ⟨a1, a2, a3⟩ := pIt_ok hs hd (Or.inl hi)
        obtain ⟨ζ2, r2, h2⟩ := c_step (l := l) (B := B) hx h1 a3
        have hsk := sk_bd T a3
        have nx := ih (n + 1) (sk T t q.2) q.1 ζ2 (by omega) hsk.2 (by omega) (by omega) a1 h2
        have go : ∀ (r0 : Int) (η : zSt), zAt l B mX5_readInto (some (zi r0)) η ζ2 19 [some (.ref 39), some (.ref 10), some (zi ((n + 1 : Nat) : Int))] [] → zAt l B mX5_readInto (some (zi r0)) η ζ 19 [some (.ref 39), some (.ref 10), some (zi n)] [] := by
          intro r0 η K
          intro X A C hX hA hr hk
          replace C : CX X B A mX5_readInto.2.2.2.2 RX5 cX5_readInto 3 0 0 := C
          have hr : (xMeth X).sig.returnType = (some .int) := hr
          change ZW X B A 3 0 0 _ _ _ _ _
          subst hX
          refine zw_iload_n (i := 2) (nx := 20) C dX5_readInto_19 rfl rfl rfl ?_
          refine zw_sipush (v := 150) (nx := 23) C dX5_readInto_20 (by decide) rfl ?_
          refine zw_icmp_ge (tgt := 72) (nx := 26) C dX5_readInto_23 rfl rfl (by omega) (fun h23 => by exfalso; omega) (fun h23 => ?_)
          refine zw_iload_n (i := 2) (nx := 27) C dX5_readInto_26 rfl rfl rfl ?_
          refine zw_if_eq (tgt := 37) (nx := 30) C dX5_readInto_27 rfl rfl (by omega) (fun h27 => by exfalso; omega) (fun h27 => ?_)
          refine zw_aload_n (i := 0) (nx := 31) C dX5_readInto_30 rfl rfl rfl ?_
          refine zw_geti (nx := 34) C dX5_readInto_31 rfl flX5_22 iq4 rfl rfl rfl rfl ?_
          refine zw_if_eq (tgt := 72) (nx := 37) C dX5_readInto_34 rfl rfl (by omega) (fun h34 => by exfalso; omega) (fun h34 => ?_)
          refine zw_aload_n (i := 0) (nx := 38) C dX5_readInto_37 rfl rfl rfl ?_
          refine zw_aload_n (i := 1) (nx := 39) C dX5_readInto_38 rfl rfl rfl ?_
          refine zw_iload_n (i := 2) (nx := 40) C dX5_readInto_39 rfl rfl rfl ?_
          refine zw_if_ne (tgt := 47) (nx := 43) C dX5_readInto_40 rfl rfl (by omega) (fun h40 => ?_) (fun h40 => by exfalso; omega)
          refine zw_iconst (nx := 48) C dX5_readInto_47 rfl ?_
          refine zw_cV21 (nx := 51) C dX5_readInto_48 rfl cvX5_40 rfl rfl ⟨Nat.le_of_ble_eq_true rfl, Nat.le_of_ble_eq_true rfl⟩ rfl rfl (Nat.le_of_ble_eq_true rfl) r ?_
          refine zw_if_ne (tgt := 62) (nx := 54) C dX5_readInto_51 rfl rfl (by omega) (fun h51 => ?_) (fun h51 => by exfalso; omega)
          refine zw_iinc2 (nx := 65) C dX5_readInto_62 rfl (Nat.le_of_ble_eq_true rfl) rfl ?_
          refine zw_aload_n (i := 0) (nx := 66) C dX5_readInto_65 rfl rfl rfl ?_
          refine zw_cV00 (nx := 69) C dX5_readInto_66 rfl cvX5_37 rfl rfl ⟨Nat.le_of_ble_eq_true rfl, Nat.le_of_ble_eq_true rfl⟩ rfl rfl (Nat.le_of_ble_eq_true rfl) r2 ?_
          refine zw_goto (nx := 19) C dX5_readInto_69 rfl ?_
          exact K X A C rfl hA hr hk
        show match pLoop T t k (n + 1) (sk T t q.2) q.1 with
          | .inl p => ∃ ζ', zAt l B mX5_readInto (some (zi (-10 - (p : Int)))) ζ' ζ 19 [some (.ref 39), some (.ref 10), some (zi n)] [] ∧ PF ζ0 ζ' p
          | .inr q => ∃ (ζ' : zSt) (a : Nat) (k2 s2 : Int), zAt l B mX5_readInto (some (zi q.1)) ζ' ζ 19 [some (.ref 39), some (.ref 10), some (zi n)] [] ∧ PC ζ0 ζ' a k2 s2 q.2
        cases hh : pLoop T t k (n + 1) (sk T t q.2) q.1 with
        | inl p =>
          rw [hh] at nx
          obtain ⟨η, x1, x2⟩ := nx
          exact ⟨η, go _ _ x1, x2⟩
        | inr w =>
          rw [hh] at nx
          obtain ⟨η, a, k2, s2, x1, x2⟩ := nx
          exact ⟨η, a, k2, s2, go _ _ x1, x2⟩
theorem bg_PC (ζ0 : zSt) : PC ζ0 (zU (bgS ζ0 10 3 240) 39 2 0) 0 (ζ0.1 39 3) (ζ0.1 39 4) d0 := by
  refine ⟨⟨⟨fun r hr => ?_, ?_⟩, rfl⟩, ⟨rfl, rfl, rfl⟩, ⟨rfl, rfl, rfl, rfl, rfl⟩, fun y hy => ?_, fun p hp => absurd hp (Nat.not_lt_zero p)⟩
  · have m : r ≠ 10 ∧ r ≠ 11 ∧ r ≠ 39 := ⟨fun e => by subst e; revert hr; decide, fun e => by subst e; revert hr; decide, fun e => by subst e; revert hr; decide⟩
    unfold bgS
    rw [row_off m.2.2, row_off m.1, row_off m.1, row_off m.1, zFill_row, if_neg m.2.1, row_off m.1, row_off m.1]
  · unfold bgS
    rw [zU_l, zU_l, zU_l, zU_l, zFill_l, zU_l, zU_l]
  · show (zFill (zU (zU ζ0 10 0 3) 10 1 240) 11 0 8).1 11 y = 0
    rw [zFill_at, if_pos ⟨rfl, hy⟩]
theorem c_read (hx : TXo ζ0 t T) : match pAll T t with
    | .inl p => ∃ ζ', zRun l B mX5_readInto [.ref 39, .ref 10] ζ0 (some (zi (-10 - (p : Int)))) ζ' ∧ PF ζ0 ζ' p
    | .inr q => ∃ (ζ' : zSt) (a : Nat) (k2 s2 : Int), zRun l B mX5_readInto [.ref 39, .ref 10] ζ0 (some (zi q.1)) ζ' ∧ PC ζ0 ζ' a k2 s2 q.2 := by
  have h0 := sk_bd T (Nat.zero_le t)
  have bg := run_X2_begin10 (l := l) (B := B) (ζ := ζ0) (t := 3) (d := 240)
  obtain ⟨ζ1, r1, h1⟩ := c_step (l := l) (B := B) hx (bg_PC ζ0) (Nat.zero_le t)
  have it := c_first (l := l) (B := B) hx h0.2 h1 d0_ok
  unfold pAll
  cases hi : pIt T t (pB1 T t (sk T t 0) d0) with
  | inl p =>
    rw [hi] at it
    obtain ⟨ζ', r, h⟩ := it
    refine ⟨ζ', ?_, h⟩
    refine zrun_intro (M := mX5_readInto) (ls := [some (.ref 39), some (.ref 10), none]) (by decide) rfl rfl rfl (Nat.le_of_ble_eq_true rfl) ?_
    intro X A C hX hA hr hk
    replace C : CX X B A mX5_readInto.2.2.2.2 RX5 cX5_readInto 3 0 0 := C
    have hr : (xMeth X).sig.returnType = (some .int) := hr
    change ZW X B A 3 0 0 _ _ 0 [some (.ref 39), some (.ref 10), none] []
    subst hX
    refine zw_aload_n (i := 1) (nx := 1) C dX5_readInto_0 rfl rfl rfl ?_
    refine zw_iconst (nx := 2) C dX5_readInto_1 rfl ?_
    refine zw_sipush (v := 240) (nx := 5) C dX5_readInto_2 (by decide) rfl ?_
    refine zw_cV20 (nx := 8) C dX5_readInto_5 rfl cvX5_31 rfl rfl ⟨Nat.le_of_ble_eq_true rfl, Nat.le_of_ble_eq_true rfl⟩ rfl rfl (Nat.le_of_ble_eq_true rfl) bg ?_
    refine zw_aload_n (i := 0) (nx := 9) C dX5_readInto_8 rfl rfl rfl ?_
    refine zw_iconst (nx := 10) C dX5_readInto_9 rfl ?_
    refine zw_puti (nx := 13) C dX5_readInto_10 rfl flX5_19 ic4 nf4_2 rfl rfl rfl rfl rfl ?_
    refine zw_aload_n (i := 0) (nx := 14) C dX5_readInto_13 rfl rfl rfl ?_
    refine zw_cV00 (nx := 17) C dX5_readInto_14 rfl cvX5_37 rfl rfl ⟨Nat.le_of_ble_eq_true rfl, Nat.le_of_ble_eq_true rfl⟩ rfl rfl (Nat.le_of_ble_eq_true rfl) r1 ?_
    refine zw_iconst (nx := 18) C dX5_readInto_17 rfl ?_
    refine zw_ist2 (nx := 19) C (eIst_n dX5_readInto_18 rfl rfl) (Nat.le_of_ble_eq_true rfl) rfl ?_
    refine zw_iload_n (i := 2) (nx := 20) C dX5_readInto_19 rfl rfl rfl ?_
    refine zw_sipush (v := 150) (nx := 23) C dX5_readInto_20 (by decide) rfl ?_
    refine zw_icmp_ge (tgt := 72) (nx := 26) C dX5_readInto_23 rfl rfl (by omega) (fun h23 => by exfalso; omega) (fun h23 => ?_)
    refine zw_iload_n (i := 2) (nx := 27) C dX5_readInto_26 rfl rfl rfl ?_
    refine zw_if_eq (tgt := 37) (nx := 30) C dX5_readInto_27 rfl rfl (by omega) (fun h27 => ?_) (fun h27 => by exfalso; omega)
    refine zw_aload_n (i := 0) (nx := 38) C dX5_readInto_37 rfl rfl rfl ?_
    refine zw_aload_n (i := 1) (nx := 39) C dX5_readInto_38 rfl rfl rfl ?_
    refine zw_iload_n (i := 2) (nx := 40) C dX5_readInto_39 rfl rfl rfl ?_
    refine zw_if_ne (tgt := 47) (nx := 43) C dX5_readInto_40 rfl rfl (by omega) (fun h40 => by exfalso; omega) (fun h40 => ?_)
    refine zw_iconst (nx := 44) C dX5_readInto_43 rfl ?_
    refine zw_goto (nx := 48) C dX5_readInto_44 rfl ?_
    refine zw_cV21 (nx := 51) C dX5_readInto_48 rfl cvX5_40 rfl rfl ⟨Nat.le_of_ble_eq_true rfl, Nat.le_of_ble_eq_true rfl⟩ rfl rfl (Nat.le_of_ble_eq_true rfl) r ?_
    refine zw_if_ne (tgt := 62) (nx := 54) C dX5_readInto_51 rfl rfl (by omega) (fun h51 => by exfalso; omega) (fun h51 => ?_)
    refine zw_bipush (v := -10) (nx := 56) C dX5_readInto_54 (by decide) rfl ?_
    refine zw_aload_n (i := 0) (nx := 57) C dX5_readInto_56 rfl rfl rfl ?_
    refine zw_geti (nx := 60) C dX5_readInto_57 rfl flX5_25 iq4 rfl rfl rfl rfl ?_
    refine zw_isub (nx := 61) C dX5_readInto_60 rfl ?_
    exact zw_iret C hA hr hk dX5_readInto_61 (zr (by rw [h.2])) rfl
  | inr q =>
    rw [hi] at it
    obtain ⟨ζ2, k1, s1, r, h2⟩ := it
    obtain ⟨a1, a2, a3⟩ := pIt_ok h0.2 d0_ok (Or.inr hi)
    obtain ⟨ζ3, r3, h3⟩ := c_step (l := l) (B := B) hx h2 a3
    have hsk := sk_bd T a3
    have nx := c_loop (l := l) (B := B) hx (t + 1) 1 (sk T t q.2) q.1 ζ3 (by omega) hsk.2 (by omega) (by omega) a1 h3
    have go : ∀ (r0 : Int) (η : zSt), zAt l B mX5_readInto (some (zi r0)) η ζ3 19 [some (.ref 39), some (.ref 10), some (zi ((1 : Nat) : Int))] [] → zRun l B mX5_readInto [.ref 39, .ref 10] ζ0 (some (zi r0)) η := by
      intro r0 η K
      refine zrun_intro (M := mX5_readInto) (ls := [some (.ref 39), some (.ref 10), none]) (by decide) rfl rfl rfl (Nat.le_of_ble_eq_true rfl) ?_
      intro X A C hX hA hr hk
      replace C : CX X B A mX5_readInto.2.2.2.2 RX5 cX5_readInto 3 0 0 := C
      have hr : (xMeth X).sig.returnType = (some .int) := hr
      change ZW X B A 3 0 0 _ _ 0 [some (.ref 39), some (.ref 10), none] []
      subst hX
      refine zw_aload_n (i := 1) (nx := 1) C dX5_readInto_0 rfl rfl rfl ?_
      refine zw_iconst (nx := 2) C dX5_readInto_1 rfl ?_
      refine zw_sipush (v := 240) (nx := 5) C dX5_readInto_2 (by decide) rfl ?_
      refine zw_cV20 (nx := 8) C dX5_readInto_5 rfl cvX5_31 rfl rfl ⟨Nat.le_of_ble_eq_true rfl, Nat.le_of_ble_eq_true rfl⟩ rfl rfl (Nat.le_of_ble_eq_true rfl) bg ?_
      refine zw_aload_n (i := 0) (nx := 9) C dX5_readInto_8 rfl rfl rfl ?_
      refine zw_iconst (nx := 10) C dX5_readInto_9 rfl ?_
      refine zw_puti (nx := 13) C dX5_readInto_10 rfl flX5_19 ic4 nf4_2 rfl rfl rfl rfl rfl ?_
      refine zw_aload_n (i := 0) (nx := 14) C dX5_readInto_13 rfl rfl rfl ?_
      refine zw_cV00 (nx := 17) C dX5_readInto_14 rfl cvX5_37 rfl rfl ⟨Nat.le_of_ble_eq_true rfl, Nat.le_of_ble_eq_true rfl⟩ rfl rfl (Nat.le_of_ble_eq_true rfl) r1 ?_
      refine zw_iconst (nx := 18) C dX5_readInto_17 rfl ?_
      refine zw_ist2 (nx := 19) C (eIst_n dX5_readInto_18 rfl rfl) (Nat.le_of_ble_eq_true rfl) rfl ?_
      refine zw_iload_n (i := 2) (nx := 20) C dX5_readInto_19 rfl rfl rfl ?_
      refine zw_sipush (v := 150) (nx := 23) C dX5_readInto_20 (by decide) rfl ?_
      refine zw_icmp_ge (tgt := 72) (nx := 26) C dX5_readInto_23 rfl rfl (by omega) (fun h23 => by exfalso; omega) (fun h23 => ?_)
      refine zw_iload_n (i := 2) (nx := 27) C dX5_readInto_26 rfl rfl rfl ?_
      refine zw_if_eq (tgt := 37) (nx := 30) C dX5_readInto_27 rfl rfl (by omega) (fun h27 => ?_) (fun h27 => by exfalso; omega)
      refine zw_aload_n (i := 0) (nx := 38) C dX5_readInto_37 rfl rfl rfl ?_
      refine zw_aload_n (i := 1) (nx := 39) C dX5_readInto_38 rfl rfl rfl ?_
      refine zw_iload_n (i := 2) (nx := 40) C dX5_readInto_39 rfl rfl rfl ?_
      refine zw_if_ne (tgt := 47) (nx := 43) C dX5_readInto_40 rfl rfl (by omega) (fun h40 => by exfalso; omega) (fun h40 => ?_)
      refine zw_iconst (nx := 44) C dX5_readInto_43 rfl ?_
      refine zw_goto (nx := 48) C dX5_readInto_44 rfl ?_
      refine zw_cV21 (nx := 51) C dX5_readInto_48 rfl cvX5_40 rfl rfl ⟨Nat.le_of_ble_eq_true rfl, Nat.le_of_ble_eq_true rfl⟩ rfl rfl (Nat.le_of_ble_eq_true rfl) r ?_
      refine zw_if_ne (tgt := 62) (nx := 54) C dX5_readInto_51 rfl rfl (by omega) (fun h51 => ?_) (fun h51 => by exfalso; omega)
      refine zw_iinc2 (nx := 65) C dX5_readInto_62 rfl (Nat.le_of_ble_eq_true rfl) rfl ?_
      refine zw_aload_n (i := 0) (nx := 66) C dX5_readInto_65 rfl rfl rfl ?_
      refine zw_cV00 (nx := 69) C dX5_readInto_66 rfl cvX5_37 rfl rfl ⟨Nat.le_of_ble_eq_true rfl, Nat.le_of_ble_eq_true rfl⟩ rfl rfl (Nat.le_of_ble_eq_true rfl) r3 ?_
      refine zw_goto (nx := 19) C dX5_readInto_69 rfl ?_
      exact K X A C rfl hA hr hk
    show match pLoop T t (t + 1) 1 (sk T t q.2) q.1 with
      | .inl p => ∃ ζ', zRun l B mX5_readInto [.ref 39, .ref 10] ζ0 (some (zi (-10 - (p : Int)))) ζ' ∧ PF ζ0 ζ' p
      | .inr q => ∃ (ζ' : zSt) (a : Nat) (k2 s2 : Int), zRun l B mX5_readInto [.ref 39, .ref 10] ζ0 (some (zi q.1)) ζ' ∧ PC ζ0 ζ' a k2 s2 q.2
    cases hh : pLoop T t (t + 1) 1 (sk T t q.2) q.1 with
    | inl p =>
      rw [hh] at nx
      obtain ⟨η, x1, x2⟩ := nx
      exact ⟨η, go _ _ x1, x2⟩
    | inr w =>
      rw [hh] at nx
      obtain ⟨η, a, k2, s2, x1, x2⟩ := nx
      exact ⟨η, a, k2, s2, go _ _ x1, x2⟩
theorem run_X6_read (hx : TXo ζ0 t T) : match pAll T t with
    | .inl p => ∃ ζ', zRun l B mX6_read [.ref 0] ζ0 (some (zi (-10 - (p : Int)))) ζ' ∧ PF ζ0 ζ' p
    | .inr q => ∃ (ζ' : zSt) (a : Nat) (k2 s2 : Int), zRun l B mX6_read [.ref 0] ζ0 (some (zi q.1)) (cpS ζ' 1 10) ∧ PC ζ0 ζ' a k2 s2 q.2 := by
  have rd := c_read (l := l) (B := B) hx
  have ok := pAll_ok (T := T) (t := t)
  have ht := hx.1.2
  cases hh : pAll T t with
  | inl p =>
    rw [hh] at rd
    have hpt := ok.1 p hh
    obtain ⟨ζ', r, h⟩ := rd
    refine ⟨ζ', ?_, h⟩
    refine zrun_intro (M := mX6_read) (ls := [some (.ref 0), none]) (by decide) rfl rfl rfl (Nat.le_of_ble_eq_true rfl) ?_
    intro X A C hX hA hr hk
    replace C : CX X B A mX6_read.2.2.2.2 RX6 cX6_read 2 0 0 := C
    have hr : (xMeth X).sig.returnType = (some .int) := hr
    change ZW X B A 2 0 0 _ _ 0 [some (.ref 0), none] []
    subst hX
    refine zw_aload_n (i := 0) (nx := 1) C dX6_read_0 rfl rfl rfl ?_
    refine zw_getr (nx := 4) C dX6_read_1 rfl flX6_26 iq5 rfl rfl rfl rfl ?_
    refine zw_aload_n (i := 0) (nx := 5) C dX6_read_4 rfl rfl rfl ?_
    refine zw_getr (nx := 8) C dX6_read_5 rfl flX6_16 iq5 rfl rfl rfl rfl ?_
    refine zw_cV11 (nx := 11) C dX6_read_8 rfl cvX6_119 rfl rfl ⟨Nat.le_of_ble_eq_true rfl, Nat.le_of_ble_eq_true rfl⟩ rfl rfl (Nat.le_of_ble_eq_true rfl) r ?_
    refine zw_ist1 (nx := 12) C (eIst_n dX6_read_11 rfl rfl) (Nat.le_of_ble_eq_true rfl) rfl ?_
    refine zw_iload_n (i := 1) (nx := 13) C dX6_read_12 rfl rfl rfl ?_
    refine zw_if_lt (tgt := 27) (nx := 16) C dX6_read_13 rfl rfl (by omega) (fun h13 => ?_) (fun h13 => by exfalso; omega)
    refine zw_iload_n (i := 1) (nx := 28) C dX6_read_27 rfl rfl rfl ?_
    exact zw_iret C hA hr hk dX6_read_28 rfl rfl
  | inr q =>
    rw [hh] at rd
    have hqt := (ok.2 q hh).2
    obtain ⟨ζ', a, k2, s2, r, h⟩ := rd
    refine ⟨ζ', a, k2, s2, ?_, h⟩
    refine zrun_intro (M := mX6_read) (ls := [some (.ref 0), none]) (by decide) rfl rfl rfl (Nat.le_of_ble_eq_true rfl) ?_
    intro X A C hX hA hr hk
    replace C : CX X B A mX6_read.2.2.2.2 RX6 cX6_read 2 0 0 := C
    have hr : (xMeth X).sig.returnType = (some .int) := hr
    change ZW X B A 2 0 0 _ _ 0 [some (.ref 0), none] []
    subst hX
    refine zw_aload_n (i := 0) (nx := 1) C dX6_read_0 rfl rfl rfl ?_
    refine zw_getr (nx := 4) C dX6_read_1 rfl flX6_26 iq5 rfl rfl rfl rfl ?_
    refine zw_aload_n (i := 0) (nx := 5) C dX6_read_4 rfl rfl rfl ?_
    refine zw_getr (nx := 8) C dX6_read_5 rfl flX6_16 iq5 rfl rfl rfl rfl ?_
    refine zw_cV11 (nx := 11) C dX6_read_8 rfl cvX6_119 rfl rfl ⟨Nat.le_of_ble_eq_true rfl, Nat.le_of_ble_eq_true rfl⟩ rfl rfl (Nat.le_of_ble_eq_true rfl) r ?_
    refine zw_ist1 (nx := 12) C (eIst_n dX6_read_11 rfl rfl) (Nat.le_of_ble_eq_true rfl) rfl ?_
    refine zw_iload_n (i := 1) (nx := 13) C dX6_read_12 rfl rfl rfl ?_
    refine zw_if_lt (tgt := 27) (nx := 16) C dX6_read_13 rfl rfl (by omega) (fun h13 => by exfalso; omega) (fun h13 => ?_)
    refine zw_aload_n (i := 0) (nx := 17) C dX6_read_16 rfl rfl rfl ?_
    refine zw_getr (nx := 20) C dX6_read_17 rfl flX6_12 iq5 rfl rfl rfl rfl ?_
    refine zw_aload_n (i := 0) (nx := 21) C dX6_read_20 rfl rfl rfl ?_
    refine zw_getr (nx := 24) C dX6_read_21 rfl flX6_16 iq5 rfl rfl rfl rfl ?_
    refine zw_cV10 (nx := 27) C dX6_read_24 rfl cvX6_123 rfl rfl ⟨Nat.le_of_ble_eq_true rfl, Nat.le_of_ble_eq_true rfl⟩ rfl rfl (Nat.le_of_ble_eq_true rfl) run_X2_copyOf_1_10 ?_
    refine zw_iload_n (i := 1) (nx := 28) C dX6_read_27 rfl rfl rfl ?_
    exact zw_iret C hA hr hk dX6_read_28 rfl rfl
end TextR
