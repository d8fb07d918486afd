/-! reading a text: the reference's items -/
def MS (ζ0 ζ : zSt) : Prop := ((∀ r, r ∉ [52, 64, 65] → ζ.1 r = ζ0.1 r) ∧ ζ.2 = ζ0.2) ∧ ∀ j, j ∉ [16, 17, 18, 19, 22] → ζ.1 52 j = ζ0.1 52 j
def MD (ζ : zSt) (d : pD) : Prop := (ζ.1 52 17 = d.1 ∧ ζ.1 52 18 = d.2.1 ∧ ζ.1 52 19 = d.2.2.2.1) ∧ (∀ y, y < 8 → ζ.1 65 y = d.2.2.1 y) ∧ ∀ p, p < d.2.2.2.1 → ζ.1 64 (3 * p) = d.2.2.2.2.1 p ∧ ζ.1 64 (3 * p + 1) = d.2.2.2.2.2.1 p ∧ ζ.1 64 (3 * p + 2) = d.2.2.2.2.2.2 p
def MC (ζ0 ζ : zSt) (i : Nat) (d : pD) : Prop := MS ζ0 ζ ∧ ζ.1 52 16 = i ∧ MD ζ d
def MF (ζ0 ζ : zSt) (p : Nat) : Prop := MS ζ0 ζ ∧ ζ.1 52 16 = p
theorem MC.toF {ζ0 ζ : zSt} {i : Nat} {d : pD} (h : MC ζ0 ζ i d) : MF ζ0 ζ i := ⟨h.1, h.2.1⟩
theorem MS.txm {ζ0 ζ : zSt} {t : Nat} {T : Nat → Int} (h : MS ζ0 ζ) (hx : TXm ζ0 t T) : TXm ζ t T := ⟨⟨(h.2 15 (by decide)).trans hx.1.1, hx.1.2⟩, fun j hj => by rw [h.1.1 63 (by decide)]; exact hx.2 j hj⟩
theorem MS.p52 {ζ0 ζ : zSt} (h : MS ζ0 ζ) {j : Nat} (hj : j ∈ [16, 17, 18, 19, 22]) (x : Int) : MS ζ0 (zU ζ 52 j x) := ⟨⟨fun r hr => by
  rw [row_off (fun e => by subst e; revert hr; decide)]; exact h.1.1 r hr, h.1.2⟩, fun k hk => by
  rw [zU_at, if_neg (fun q => by rw [q.2] at hk; exact hk hj)]; exact h.2 k hk⟩
theorem MS.p64 {ζ0 ζ : zSt} (h : MS ζ0 ζ) (j : Nat) (x : Int) : MS ζ0 (zU ζ 64 j x) := ⟨⟨fun r hr => by
  rw [row_off (fun e => by subst e; revert hr; decide)]; exact h.1.1 r hr, h.1.2⟩, h.2⟩
theorem MS.p65 {ζ0 ζ : zSt} (h : MS ζ0 ζ) (j : Nat) (x : Int) : MS ζ0 (zU ζ 65 j x) := ⟨⟨fun r hr => by
  rw [row_off (fun e => by subst e; revert hr; decide)]; exact h.1.1 r hr, h.1.2⟩, h.2⟩
def OutM (l : Launch) (B : eB) (M : eM) (ζ0 ζ : zSt) (r : Nat ⊕ (pD × Nat)) : Prop := match r with
  | .inl p => ∃ ζ', zRun l B M [.ref 52] ζ (some (zi 0)) ζ' ∧ MF ζ0 ζ' p
  | .inr q => ∃ ζ', zRun l B M [.ref 52] ζ (some (zi 1)) ζ' ∧ MC ζ0 ζ' q.2 q.1
def MB (l : Launch) (B : eB) (M : eM) (ζ0 ζ : zSt) (r : Nat ⊕ (pD × Nat)) : Prop := match r with
  | .inl p => ∃ ζ', zRun l B M [.ref 52] ζ (some (zi 0)) ζ' ∧ MF ζ0 ζ' p
  | .inr q => ∃ ζ1, MC ζ0 ζ1 q.2 q.1 ∧ ∀ (b : Bool) (ζ' : zSt), zRun l B mX7_ends [.ref 52] ζ1 (some (zi (b2i b))) ζ' → zRun l B M [.ref 52] ζ (some (zi (b2i b))) ζ'
theorem OutM.map {l : Launch} {B : eB} {M M' : eM} {ζ0 ζ ζ' : zSt} {r : Nat ⊕ (pD × Nat)} (h : OutM l B M ζ0 ζ' r) (go : ∀ (b : Bool) (ζ2 : zSt), zRun l B M [.ref 52] ζ' (some (zi (b2i b))) ζ2 → zRun l B M' [.ref 52] ζ (some (zi (b2i b))) ζ2) : OutM l B M' ζ0 ζ r := by
  cases r with
  | inl p =>
    obtain ⟨ζ2, a, b⟩ := h
    exact ⟨ζ2, go false ζ2 a, b⟩
  | inr q =>
    obtain ⟨ζ2, a, b⟩ := h
    exact ⟨ζ2, go true ζ2 a, b⟩
theorem sk_sk {T : Nat → Int} {t i : Nat} (hi : i ≤ t) : sk T t (sk T t i) = sk T t i := by
  have hs := sk_bd T hi
  by_cases h : sk T t i = t
  · rw [h]; unfold sk; rw [Nat.sub_self]; rfl
  · have e : isSp (T (sk T t i)) = false := rn_end (t - i) i (by have : sk T t i = rn isSp T (t - i) i := rfl; omega)
    exact rn_no e
theorem pNum_sk {T : Nat → Int} {t i : Nat} (hi : i ≤ t) (m : Int) : pNum T t (sk T t i) m = pNum T t i m := by
  unfold pNum; rw [sk_sk hi]
section ModR
variable {l : Launch} {B : eB} {ζ0 ζ : zSt} {t : Nat} {T : Nat → Int}
theorem m_num (hx : TXm ζ0 t T) {i : Nat} {m : Int} {d : pD} (hp : MC ζ0 ζ i d) (hit : i ≤ t) (hm : -1 ≤ m ∧ m ≤ 100) :
    (∀ p, pNum T t i m = .inl p → ∃ ζ', zRun l B mX7_number [.ref 52, zi 0, zi m] ζ (some (zi 0)) ζ' ∧ MC ζ0 ζ' p d) ∧
    (∀ q, pNum T t i m = .inr q → ∃ ζ', zRun l B mX7_number [.ref 52, zi 0, zi m] ζ (some (zi 1)) ζ' ∧ MC ζ0 ζ' q.2 d ∧ ζ'.1 52 22 = q.1 ∧ ζ'.1 64 = ζ.1 64) := by
  obtain ⟨n1, n2⟩ := run_X7_number (l := l) (B := B) (hp.1.txm hx) hp.2.1 hit hm
  exact ⟨fun p h => ⟨_, n1 p h, hp.1.p52 (by decide) _, rfl, hp.2.2⟩, fun q h => ⟨_, n2 q h, ⟨(hp.1.p52 (by decide) _).p52 (by decide) _, rfl, hp.2.2⟩, rfl, by rw [row_off (by decide), row_off (by decide)]⟩⟩
theorem m_fin (hx : TXm ζ0 t T) {M : eM} {body : Nat ⊕ (pD × Nat)} (h : MB l B M ζ0 ζ body) (hb : ∀ q, body = .inr q → q.2 ≤ t) : OutM l B M ζ0 ζ (pIt T t body) := by
  cases body with
  | inl p => exact h
  | inr q =>
    obtain ⟨ζ1, hc, go⟩ := h
    obtain ⟨e1, e2⟩ := run_X7_ends (l := l) (B := B) (hc.1.txm hx) hc.2.1 (hb q rfl)
    show OutM l B M ζ0 ζ (bnd (pEnd T t q.2) fun j => .inr (q.1, j))
    cases he : pEnd T t q.2 with
    | inl p => exact ⟨_, go false _ (e1 p he), hc.1.p52 (by decide) _, rfl⟩
    | inr j => exact ⟨_, go true _ (e2 j he), hc.1.p52 (by decide) _, rfl, hc.2.2⟩
theorem m_dark (hx : TXm ζ0 t T) {i : Nat} {d : pD} (hp : MC ζ0 ζ i d) (hit : i ≤ t) : MB l B mX7_readsDark ζ0 ζ (pDk T t i d) := by
  obtain ⟨n1, n2⟩ := m_num (l := l) (B := B) hx hp hit (m := 24) (by omega)
  unfold pDk
  cases hq : pNum T t i 24 with
  | inl p =>
    obtain ⟨ζ', r, h⟩ := n1 p hq
    refine ⟨ζ', ?_, h.toF⟩
    refine zrun_intro (M := mX7_readsDark) (ls := [some (.ref 52)]) (by decide) rfl rfl rfl (Nat.le_of_ble_eq_true rfl) ?_
    intro X A C hX hA hr hk
    replace C : CX X B A mX7_readsDark.2.2.2.2 RX7 cX7_readsDark 1 0 0 := C
    have hr : (xMeth X).sig.returnType = (some .boolean) := hr
    change ZW X B A 1 0 0 _ _ 0 [some (.ref 52)] []
    subst hX
    refine zw_aload_n (i := 0) (nx := 1) C dX7_readsDark_0 rfl rfl rfl ?_
    refine zw_iconst (nx := 2) C dX7_readsDark_1 rfl ?_
    refine zw_bipush (v := 24) (nx := 4) C dX7_readsDark_2 (by decide) rfl ?_
    refine zw_cV21 (nx := 7) C dX7_readsDark_4 rfl cvX7_139 rfl rfl ⟨Nat.le_of_ble_eq_true rfl, Nat.le_of_ble_eq_true rfl⟩ rfl rfl (Nat.le_of_ble_eq_true rfl) r ?_
    refine zw_if_ne (tgt := 12) (nx := 10) C dX7_readsDark_7 rfl rfl (by omega) (fun h7 => by exfalso; omega) (fun h7 => ?_)
    refine zw_iconst (nx := 11) C dX7_readsDark_10 rfl ?_
    exact zw_zret C hA hr hk dX7_readsDark_11 rfl rfl rfl
  | inr q =>
    obtain ⟨ζ', r, h, hv, -⟩ := n2 q hq
    obtain ⟨⟨b1, b2, b3⟩, b4, b5⟩ := h.2.2
    refine ⟨zU ζ' 52 18 (10 * q.1), ⟨h.1.p52 (by decide) _, h.2.1, ⟨b1, rfl, b3⟩, b4, b5⟩, fun b ζ2 re => ?_⟩
    refine zrun_intro (M := mX7_readsDark) (ls := [some (.ref 52)]) (by decide) rfl rfl rfl (Nat.le_of_ble_eq_true rfl) ?_
    intro X A C hX hA hr hk
    replace C : CX X B A mX7_readsDark.2.2.2.2 RX7 cX7_readsDark 1 0 0 := C
    have hr : (xMeth X).sig.returnType = (some .boolean) := hr
    change ZW X B A 1 0 0 _ _ 0 [some (.ref 52)] []
    subst hX
    refine zw_aload_n (i := 0) (nx := 1) C dX7_readsDark_0 rfl rfl rfl ?_
    refine zw_iconst (nx := 2) C dX7_readsDark_1 rfl ?_
    refine zw_bipush (v := 24) (nx := 4) C dX7_readsDark_2 (by decide) rfl ?_
    refine zw_cV21 (nx := 7) C dX7_readsDark_4 rfl cvX7_139 rfl rfl ⟨Nat.le_of_ble_eq_true rfl, Nat.le_of_ble_eq_true rfl⟩ rfl rfl (Nat.le_of_ble_eq_true rfl) r ?_
    refine zw_if_ne (tgt := 12) (nx := 10) C dX7_readsDark_7 rfl rfl (by omega) (fun h7 => ?_) (fun h7 => by exfalso; omega)
    refine zw_aload_n (i := 0) (nx := 13) C dX7_readsDark_12 rfl rfl rfl ?_
    refine zw_bipush (v := 10) (nx := 15) C dX7_readsDark_13 (by decide) rfl ?_
    refine zw_aload_n (i := 0) (nx := 16) C dX7_readsDark_15 rfl rfl rfl ?_
    refine zw_geti (nx := 19) C dX7_readsDark_16 rfl flX7_136 iq6 rfl rfl rfl rfl ?_
    rw [hv]
    refine zw_imul (nx := 20) C dX7_readsDark_19 rfl ?_
    refine zw_puti (nx := 23) C dX7_readsDark_20 rfl flX7_143 ic6 nf6_18 rfl rfl rfl rfl rfl ?_
    refine zw_aload_n (i := 0) (nx := 24) C dX7_readsDark_23 rfl rfl rfl ?_
    refine zw_cV01 (nx := 27) C dX7_readsDark_24 rfl cvX7_146 rfl rfl ⟨Nat.le_of_ble_eq_true rfl, Nat.le_of_ble_eq_true rfl⟩ rfl rfl (Nat.le_of_ble_eq_true rfl) re ?_
    exact zw_bret C hA hr hk dX7_readsDark_27 rfl rfl rfl
theorem m_hloop (hx : TXm ζ0 t T) {tr dk : Int} {rs : Nat × (Nat → Int) × (Nat → Int) × (Nat → Int)} : ∀ (k y i : Nat) (H : Nat → Int) (ζ : zSt), y + k = 8 → i ≤ t → MC ζ0 ζ i (tr, dk, H, rs) → match pHt T t k y i H with
    | .inl p => ∃ ζ', zAt l B mX7_readsHeights (some (zi 0)) ζ' ζ 2 [some (.ref 52), some (zi y)] [] ∧ MF ζ0 ζ' p
    | .inr q => ∃ ζ1, MC ζ0 ζ1 q.2 (tr, dk, q.1, rs) ∧ ∀ (b : Bool) (ζ' : zSt), zRun l B mX7_ends [.ref 52] ζ1 (some (zi (b2i b))) ζ' → zAt l B mX7_readsHeights (some (zi (b2i b))) ζ' ζ 2 [some (.ref 52), some (zi y)] [] := by
  intro k
  induction k with
  | zero =>
    intro y i H ζ hy hi hp
    refine ⟨ζ, hp, fun b ζ2 re => ?_⟩
    intro X A C hX hA hr hk
    replace C : CX X B A mX7_readsHeights.2.2.2.2 RX7 cX7_readsHeights 2 0 0 := C
    have hr : (xMeth X).sig.returnType = (some .boolean) := hr
    change ZW X B A 2 0 0 _ _ _ _ _
    subst hX
    refine zw_iload_n (i := 1) (nx := 3) C dX7_readsHeights_2 rfl rfl rfl ?_
    refine zw_bipush (v := 8) (nx := 5) C dX7_readsHeights_3 (by decide) rfl ?_
    refine zw_icmp_ge (tgt := 36) (nx := 8) C dX7_readsHeights_5 rfl rfl (by omega) (fun h5 => ?_) (fun h5 => by exfalso; omega)
    refine zw_aload_n (i := 0) (nx := 37) C dX7_readsHeights_36 rfl rfl rfl ?_
    refine zw_cV01 (nx := 40) C dX7_readsHeights_37 rfl cvX7_146 rfl rfl ⟨Nat.le_of_ble_eq_true rfl, Nat.le_of_ble_eq_true rfl⟩ rfl rfl (Nat.le_of_ble_eq_true rfl) re ?_
    exact zw_bret C hA hr hk dX7_readsHeights_40 rfl rfl rfl
  | succ k ih =>
    intro y i H ζ hy hi hp
    obtain ⟨n1, n2⟩ := m_num (l := l) (B := B) hx hp hi (m := 9) (by omega)
    unfold pHt
    cases hq : pNum T t i 9 with
    | inl p =>
      obtain ⟨ζ', r, h⟩ := n1 p hq
      refine ⟨ζ', ?_, h.toF⟩
      intro X A C hX hA hr hk
      replace C : CX X B A mX7_readsHeights.2.2.2.2 RX7 cX7_readsHeights 2 0 0 := C
      have hr : (xMeth X).sig.returnType = (some .boolean) := hr
      change ZW X B A 2 0 0 _ _ _ _ _
      subst hX
      refine zw_iload_n (i := 1) (nx := 3) C dX7_readsHeights_2 rfl rfl rfl ?_
      refine zw_bipush (v := 8) (nx := 5) C dX7_readsHeights_3 (by decide) rfl ?_
      refine zw_icmp_ge (tgt := 36) (nx := 8) C dX7_readsHeights_5 rfl rfl (by omega) (fun h5 => by exfalso; omega) (fun h5 => ?_)
      refine zw_aload_n (i := 0) (nx := 9) C dX7_readsHeights_8 rfl rfl rfl ?_
      refine zw_iconst (nx := 10) C dX7_readsHeights_9 rfl ?_
      refine zw_bipush (v := 9) (nx := 12) C dX7_readsHeights_10 (by decide) rfl ?_
      refine zw_cV21 (nx := 15) C dX7_readsHeights_12 rfl cvX7_139 rfl rfl ⟨Nat.le_of_ble_eq_true rfl, Nat.le_of_ble_eq_true rfl⟩ rfl rfl (Nat.le_of_ble_eq_true rfl) r ?_
      refine zw_if_ne (tgt := 20) (nx := 18) C dX7_readsHeights_15 rfl rfl (by omega) (fun h15 => by exfalso; omega) (fun h15 => ?_)
      refine zw_iconst (nx := 19) C dX7_readsHeights_18 rfl ?_
      exact zw_zret C hA hr hk dX7_readsHeights_19 rfl rfl rfl
    | inr q =>
      obtain ⟨ζ', r, h, hv, -⟩ := n2 q hq
      have hqo := pNum_ok hi hq
      have hp2 : MC ζ0 (zU ζ' 65 y q.1) q.2 (tr, dk, zu H y q.1, rs) := by
        obtain ⟨b1, b4, b5⟩ := h.2.2
        refine ⟨h.1.p65 _ _, h.2.1, b1, fun z hz => ?_, b5⟩
        show (zU ζ' 65 y q.1).1 65 z = zu H y q.1 z
        rw [zU_at, zu_at]
        by_cases e : z = y
        · rw [if_pos ⟨rfl, e⟩, if_pos e]
        · rw [if_neg (fun q => e q.2), if_neg e]; exact b4 z hz
      have nx := ih (y + 1) q.2 (zu H y q.1) (zU ζ' 65 y q.1) (by omega) hqo.2.2 hp2
      have go : ∀ (r0 : Option Value) (η : zSt), zAt l B mX7_readsHeights r0 η (zU ζ' 65 y q.1) 2 [some (.ref 52), some (zi ((y + 1 : Nat) : Int))] [] → zAt l B mX7_readsHeights r0 η ζ 2 [some (.ref 52), some (zi y)] [] := by
        intro r0 η K
        intro X A C hX hA hr hk
        replace C : CX X B A mX7_readsHeights.2.2.2.2 RX7 cX7_readsHeights 2 0 0 := C
        have hr : (xMeth X).sig.returnType = (some .boolean) := hr
        change ZW X B A 2 0 0 _ _ _ _ _
        subst hX
        refine zw_iload_n (i := 1) (nx := 3) C dX7_readsHeights_2 rfl rfl rfl ?_
        refine zw_bipush (v := 8) (nx := 5) C dX7_readsHeights_3 (by decide) rfl ?_
        refine zw_icmp_ge (tgt := 36) (nx := 8) C dX7_readsHeights_5 rfl rfl (by omega) (fun h5 => by exfalso; omega) (fun h5 => ?_)
        refine zw_aload_n (i := 0) (nx := 9) C dX7_readsHeights_8 rfl rfl rfl ?_
        refine zw_iconst (nx := 10) C dX7_readsHeights_9 rfl ?_
        refine zw_bipush (v := 9) (nx := 12) C dX7_readsHeights_10 (by decide) rfl ?_
        refine zw_cV21 (nx := 15) C dX7_readsHeights_12 rfl cvX7_139 rfl rfl ⟨Nat.le_of_ble_eq_true rfl, Nat.le_of_ble_eq_true rfl⟩ rfl rfl (Nat.le_of_ble_eq_true rfl) r ?_
        refine zw_if_ne (tgt := 20) (nx := 18) C dX7_readsHeights_15 rfl rfl (by omega) (fun h15 => ?_) (fun h15 => by exfalso; omega)
        refine zw_aload_n (i := 0) (nx := 21) C dX7_readsHeights_20 rfl rfl rfl ?_
        refine zw_getr (nx := 24) C dX7_readsHeights_21 rfl flX7_53 iq6 rfl rfl rfl rfl ?_
        refine zw_iload_n (i := 1) (nx := 25) C dX7_readsHeights_24 rfl rfl rfl ?_
        refine zw_aload_n (i := 0) (nx := 26) C dX7_readsHeights_25 rfl rfl rfl ?_
        refine zw_geti (nx := 29) C dX7_readsHeights_26 rfl flX7_136 iq6 rfl rfl rfl rfl ?_
        rw [hv]
        refine zw_iast (y) (nx := 30) C dX7_readsHeights_29 rfl rfl rfl rfl (by omega) ?_
        refine zw_iinc1 (nx := 33) C dX7_readsHeights_30 rfl (Nat.le_of_ble_eq_true rfl) rfl ?_
        refine zw_goto (nx := 2) C dX7_readsHeights_33 rfl ?_
        exact K X A C rfl hA hr hk
      show match pHt T t k (y + 1) q.2 (zu H y q.1) with
        | .inl p => ∃ ζ', zAt l B mX7_readsHeights (some (zi 0)) ζ' ζ 2 [some (.ref 52), some (zi y)] [] ∧ MF ζ0 ζ' p
        | .inr q => ∃ ζ1, MC ζ0 ζ1 q.2 (tr, dk, q.1, rs) ∧ ∀ (b : Bool) (ζ' : zSt), zRun l B mX7_ends [.ref 52] ζ1 (some (zi (b2i b))) ζ' → zAt l B mX7_readsHeights (some (zi (b2i b))) ζ' ζ 2 [some (.ref 52), some (zi y)] []
      cases hh : pHt T t k (y + 1) q.2 (zu H y q.1) with
      | inl p =>
        rw [hh] at nx
        obtain ⟨η, a1, a2⟩ := nx
        exact ⟨η, go _ _ a1, a2⟩
      | inr w =>
        rw [hh] at nx
        obtain ⟨η, a1, a2⟩ := nx
        exact ⟨η, a1, fun b ζ2 re => go _ _ (a2 b ζ2 re)⟩
theorem m_heights (hx : TXm ζ0 t T) {i : Nat} {d : pD} (hp : MC ζ0 ζ i d) (hit : i ≤ t) : MB l B mX7_readsHeights ζ0 ζ (pHs T t i d) := by
  have nx := m_hloop (l := l) (B := B) hx 8 0 i d.2.2.1 ζ (by omega) hit hp
  have go : ∀ (r0 : Int) (η : zSt), zAt l B mX7_readsHeights (some (zi r0)) η ζ 2 [some (.ref 52), some (zi ((0 : Nat) : Int))] [] → zRun l B mX7_readsHeights [.ref 52] ζ (some (zi r0)) η := by
    intro r0 η K
    refine zrun_intro (M := mX7_readsHeights) (ls := [some (.ref 52), none]) (by decide) rfl rfl rfl (Nat.le_of_ble_eq_true rfl) ?_
    intro X A C hX hA hr hk
    replace C : CX X B A mX7_readsHeights.2.2.2.2 RX7 cX7_readsHeights 2 0 0 := C
    have hr : (xMeth X).sig.returnType = (some .boolean) := hr
    change ZW X B A 2 0 0 _ _ 0 [some (.ref 52), none] []
    refine zw_iconst (nx := 1) C dX7_readsHeights_0 rfl ?_
    refine zw_ist1 (nx := 2) C (eIst_n dX7_readsHeights_1 rfl rfl) (Nat.le_of_ble_eq_true rfl) rfl ?_
    exact K X A C hX hA hr hk
  unfold pHs
  cases hh : pHt T t 8 0 i d.2.2.1 with
  | inl p =>
    rw [hh] at nx
    obtain ⟨η, a1, a2⟩ := nx
    exact ⟨η, go _ _ a1, a2⟩
  | inr w =>
    rw [hh] at nx
    obtain ⟨η, a1, a2⟩ := nx
    exact ⟨η, a1, fun b ζ2 re => go _ _ (a2 b ζ2 re)⟩
theorem m_one (hx : TXm ζ0 t T) {s i : Nat} {d : pD} (hp : MC ζ0 ζ i d) (hit : i ≤ t) (hd : dK d) (h5 : d.2.2.2.1 ≠ 5) : MB l B mX7_readsOne ζ0 ζ (pOn T t s i d) := by
  have hn5 := hd.1
  clear hd
  obtain ⟨tr, dk, H, n, K, U, S⟩ := d
  have hn : n < 5 := by have a : n ≠ 5 := h5; have b : n ≤ 5 := hn5; omega
  clear hn5
  unfold pOn
  rw [if_neg h5]
  clear h5
  obtain ⟨n1, n2⟩ := m_num (l := l) (B := B) hx hp hit (m := 5) (by omega)
  cases hq : pNum T t i 5 with
  | inl p =>
    obtain ⟨ζ', r, h⟩ := n1 p hq
    refine ⟨ζ', ?_, h.toF⟩
    refine zrun_intro (M := mX7_readsOne) (ls := [some (.ref 52)]) (by decide) rfl rfl rfl (Nat.le_of_ble_eq_true rfl) ?_
    intro X A C hX hA hr hk
    replace C : CX X B A mX7_readsOne.2.2.2.2 RX7 cX7_readsOne 1 0 0 := C
    have hr : (xMeth X).sig.returnType = (some .boolean) := hr
    change ZW X B A 1 0 0 _ _ 0 [some (.ref 52)] []
    subst hX
    refine zw_aload_n (i := 0) (nx := 1) C dX7_readsOne_0 rfl rfl rfl ?_
    refine zw_iconst (nx := 2) C dX7_readsOne_1 rfl ?_
    refine zw_iconst (nx := 3) C dX7_readsOne_2 rfl ?_
    refine zw_cV21 (nx := 6) C dX7_readsOne_3 rfl cvX7_139 rfl rfl ⟨Nat.le_of_ble_eq_true rfl, Nat.le_of_ble_eq_true rfl⟩ rfl rfl (Nat.le_of_ble_eq_true rfl) r ?_
    refine zw_if_ne (tgt := 11) (nx := 9) C dX7_readsOne_6 rfl rfl (by omega) (fun h6 => by exfalso; omega) (fun h6 => ?_)
    refine zw_iconst (nx := 10) C dX7_readsOne_9 rfl ?_
    exact zw_zret C hA hr hk dX7_readsOne_10 rfl rfl rfl
  | inr q =>
    obtain ⟨ζ1, r, h, hv, -⟩ := n2 q hq
    have hqo := pNum_ok hit hq
    obtain ⟨⟨b1, b2, b3⟩, b4, b5⟩ := h.2.2
    replace b3 : ζ1.1 52 19 = n := b3
    have hp2 : MC ζ0 (zU ζ1 64 (3 * n) q.1) q.2 (tr, dk, H, n, K, U, S) := ⟨h.1.p64 _ _, h.2.1, ⟨b1, b2, b3⟩, b4, fun p hp => by
      have hp : p < n := hp
      obtain ⟨c1, c2, c3⟩ := b5 p hp
      rw [zU_at, if_neg (by omega), zU_at, if_neg (by omega), zU_at, if_neg (by omega)]
      exact ⟨c1, c2, c3⟩⟩
    obtain ⟨m1, m2⟩ := m_num (l := l) (B := B) hx hp2 hqo.2.2 (m := 50) (by omega)
    show MB l B mX7_readsOne ζ0 ζ (bnd (pNum T t q.2 50) _)
    cases hw : pNum T t q.2 50 with
    | inl p =>
      obtain ⟨ζ', r2, h2⟩ := m1 p hw
      refine ⟨ζ', ?_, h2.toF⟩
      refine zrun_intro (M := mX7_readsOne) (ls := [some (.ref 52)]) (by decide) rfl rfl rfl (Nat.le_of_ble_eq_true rfl) ?_
      intro X A C hX hA hr hk
      replace C : CX X B A mX7_readsOne.2.2.2.2 RX7 cX7_readsOne 1 0 0 := C
      have hr : (xMeth X).sig.returnType = (some .boolean) := hr
      change ZW X B A 1 0 0 _ _ 0 [some (.ref 52)] []
      subst hX
      refine zw_aload_n (i := 0) (nx := 1) C dX7_readsOne_0 rfl rfl rfl ?_
      refine zw_iconst (nx := 2) C dX7_readsOne_1 rfl ?_
      refine zw_iconst (nx := 3) C dX7_readsOne_2 rfl ?_
      refine zw_cV21 (nx := 6) C dX7_readsOne_3 rfl cvX7_139 rfl rfl ⟨Nat.le_of_ble_eq_true rfl, Nat.le_of_ble_eq_true rfl⟩ rfl rfl (Nat.le_of_ble_eq_true rfl) r ?_
      refine zw_if_ne (tgt := 11) (nx := 9) C dX7_readsOne_6 rfl rfl (by omega) (fun h6 => ?_) (fun h6 => by exfalso; omega)
      refine zw_aload_n (i := 0) (nx := 12) C dX7_readsOne_11 rfl rfl rfl ?_
      refine zw_getr (nx := 15) C dX7_readsOne_12 rfl flX7_50 iq6 rfl rfl rfl rfl ?_
      refine zw_iconst (nx := 16) C dX7_readsOne_15 rfl ?_
      refine zw_aload_n (i := 0) (nx := 17) C dX7_readsOne_16 rfl rfl rfl ?_
      refine zw_geti (nx := 20) C dX7_readsOne_17 rfl flX7_150 iq6 rfl rfl rfl rfl ?_
      refine zw_imul (nx := 21) C dX7_readsOne_20 rfl ?_
      refine zw_aload_n (i := 0) (nx := 22) C dX7_readsOne_21 rfl rfl rfl ?_
      refine zw_geti (nx := 25) C dX7_readsOne_22 rfl flX7_136 iq6 rfl rfl rfl rfl ?_
      rw [hv]
      refine zw_iast ((3 * n)) (nx := 26) C dX7_readsOne_25 rfl rfl rfl rfl (by omega) ?_
      refine zw_aload_n (i := 0) (nx := 27) C dX7_readsOne_26 rfl rfl rfl ?_
      refine zw_iconst (nx := 28) C dX7_readsOne_27 rfl ?_
      refine zw_bipush (v := 50) (nx := 30) C dX7_readsOne_28 (by decide) rfl ?_
      refine zw_cV21 (nx := 33) C dX7_readsOne_30 rfl cvX7_139 rfl rfl ⟨Nat.le_of_ble_eq_true rfl, Nat.le_of_ble_eq_true rfl⟩ rfl rfl (Nat.le_of_ble_eq_true rfl) r2 ?_
      refine zw_if_ne (tgt := 38) (nx := 36) C dX7_readsOne_33 rfl rfl (by omega) (fun h33 => by exfalso; omega) (fun h33 => ?_)
      refine zw_iconst (nx := 37) C dX7_readsOne_36 rfl ?_
      exact zw_zret C hA hr hk dX7_readsOne_37 rfl rfl rfl
    | inr w =>
      obtain ⟨ζ2, r2, h2, hv2, h64⟩ := m2 w hw
      obtain ⟨⟨c1, c2, c3⟩, c4, c5⟩ := h2.2.2
      replace c3 : ζ2.1 52 19 = n := c3
      have key : MC ζ0 (zU (zU (zU ζ2 64 (3 * n + 1) (10 * w.1)) 64 (3 * n + 2) (-1)) 52 19 ((n : Int) + 1)) w.2 (tr, dk, H, n + 1, zu K n q.1, zu U n (10 * w.1), zu S n (-1)) := by
        refine ⟨((h2.1.p64 _ _).p64 _ _).p52 (by decide) _, h2.2.1, ⟨c1, c2, rfl⟩, c4, fun p hp => ?_⟩
        have hp : p < n + 1 := hp
        show (zU (zU ζ2 64 (3 * n + 1) (10 * w.1)) 64 (3 * n + 2) (-1)).1 64 (3 * p) = zu K n q.1 p ∧ (zU (zU ζ2 64 (3 * n + 1) (10 * w.1)) 64 (3 * n + 2) (-1)).1 64 (3 * p + 1) = zu U n (10 * w.1) p ∧ (zU (zU ζ2 64 (3 * n + 1) (10 * w.1)) 64 (3 * n + 2) (-1)).1 64 (3 * p + 2) = zu S n (-1) p
        rw [zu_at, zu_at, zu_at]
        by_cases e : p = n
        · subst e
          have q64 : ζ2.1 64 (3 * p) = q.1 := by rw [h64, zU_at, if_pos ⟨rfl, rfl⟩]
          rw [if_pos rfl, if_pos rfl, if_pos rfl, zU_at, if_neg (by omega), zU_at, if_neg (by omega), zU_at, if_neg (by omega), zU_at, if_pos ⟨rfl, rfl⟩, zU_at, if_pos ⟨rfl, rfl⟩]
          exact ⟨q64, rfl, rfl⟩
        · rw [if_neg e, if_neg e, if_neg e, zU_at, if_neg (by omega), zU_at, if_neg (by omega), zU_at, if_neg (by omega), zU_at, if_neg (by omega), zU_at, if_neg (by omega), zU_at, if_neg (by omega)]
          exact c5 p (by show p < n; omega)
      refine ⟨_, key, fun b ζ3 re => ?_⟩
      refine zrun_intro (M := mX7_readsOne) (ls := [some (.ref 52)]) (by decide) rfl rfl rfl (Nat.le_of_ble_eq_true rfl) ?_
      intro X A C hX hA hr hk
      replace C : CX X B A mX7_readsOne.2.2.2.2 RX7 cX7_readsOne 1 0 0 := C
      have hr : (xMeth X).sig.returnType = (some .boolean) := hr
      change ZW X B A 1 0 0 _ _ 0 [some (.ref 52)] []
      subst hX
      refine zw_aload_n (i := 0) (nx := 1) C dX7_readsOne_0 rfl rfl rfl ?_
      refine zw_iconst (nx := 2) C dX7_readsOne_1 rfl ?_
      refine zw_iconst (nx := 3) C dX7_readsOne_2 rfl ?_
      refine zw_cV21 (nx := 6) C dX7_readsOne_3 rfl cvX7_139 rfl rfl ⟨Nat.le_of_ble_eq_true rfl, Nat.le_of_ble_eq_true rfl⟩ rfl rfl (Nat.le_of_ble_eq_true rfl) r ?_
      refine zw_if_ne (tgt := 11) (nx := 9) C dX7_readsOne_6 rfl rfl (by omega) (fun h6 => ?_) (fun h6 => by exfalso; omega)
      refine zw_aload_n (i := 0) (nx := 12) C dX7_readsOne_11 rfl rfl rfl ?_
      refine zw_getr (nx := 15) C dX7_readsOne_12 rfl flX7_50 iq6 rfl rfl rfl rfl ?_
      refine zw_iconst (nx := 16) C dX7_readsOne_15 rfl ?_
      refine zw_aload_n (i := 0) (nx := 17) C dX7_readsOne_16 rfl rfl rfl ?_
      refine zw_geti (nx := 20) C dX7_readsOne_17 rfl flX7_150 iq6 rfl rfl rfl rfl ?_
      refine zw_imul (nx := 21) C dX7_readsOne_20 rfl ?_
      refine zw_aload_n (i := 0) (nx := 22) C dX7_readsOne_21 rfl rfl rfl ?_
      refine zw_geti (nx := 25) C dX7_readsOne_22 rfl flX7_136 iq6 rfl rfl rfl rfl ?_
      rw [hv]
      refine zw_iast ((3 * n)) (nx := 26) C dX7_readsOne_25 rfl rfl rfl rfl (by omega) ?_
      refine zw_aload_n (i := 0) (nx := 27) C dX7_readsOne_26 rfl rfl rfl ?_
      refine zw_iconst (nx := 28) C dX7_readsOne_27 rfl ?_
      refine zw_bipush (v := 50) (nx := 30) C dX7_readsOne_28 (by decide) rfl ?_
      refine zw_cV21 (nx := 33) C dX7_readsOne_30 rfl cvX7_139 rfl rfl ⟨Nat.le_of_ble_eq_true rfl, Nat.le_of_ble_eq_true rfl⟩ rfl rfl (Nat.le_of_ble_eq_true rfl) r2 ?_
      refine zw_if_ne (tgt := 38) (nx := 36) C dX7_readsOne_33 rfl rfl (by omega) (fun h33 => ?_) (fun h33 => by exfalso; omega)
      refine zw_aload_n (i := 0) (nx := 39) C dX7_readsOne_38 rfl rfl rfl ?_
      refine zw_getr (nx := 42) C dX7_readsOne_39 rfl flX7_50 iq6 rfl rfl rfl rfl ?_
      refine zw_iconst (nx := 43) C dX7_readsOne_42 rfl ?_
      refine zw_aload_n (i := 0) (nx := 44) C dX7_readsOne_43 rfl rfl rfl ?_
      refine zw_geti (nx := 47) C dX7_readsOne_44 rfl flX7_150 iq6 rfl rfl rfl rfl ?_
      refine zw_imul (nx := 48) C dX7_readsOne_47 rfl ?_
      refine zw_iconst (nx := 49) C dX7_readsOne_48 rfl ?_
      refine zw_iadd (nx := 50) C dX7_readsOne_49 rfl ?_
      refine zw_bipush (v := 10) (nx := 52) C dX7_readsOne_50 (by decide) rfl ?_
      refine zw_aload_n (i := 0) (nx := 53) C dX7_readsOne_52 rfl rfl rfl ?_
      refine zw_geti (nx := 56) C dX7_readsOne_53 rfl flX7_136 iq6 rfl rfl rfl rfl ?_
      rw [hv2]
      refine zw_imul (nx := 57) C dX7_readsOne_56 rfl ?_
      refine zw_iast ((3 * n + 1)) (nx := 58) C dX7_readsOne_57 rfl rfl rfl rfl (by omega) ?_
      refine zw_aload_n (i := 0) (nx := 59) C dX7_readsOne_58 rfl rfl rfl ?_
      refine zw_getr (nx := 62) C dX7_readsOne_59 rfl flX7_50 iq6 rfl rfl rfl rfl ?_
      refine zw_iconst (nx := 63) C dX7_readsOne_62 rfl ?_
      refine zw_aload_n (i := 0) (nx := 64) C dX7_readsOne_63 rfl rfl rfl ?_
      refine zw_geti (nx := 67) C dX7_readsOne_64 rfl flX7_150 iq6 rfl rfl rfl rfl ?_
      rw [show (zU ζ2 64 (3 * n + 1) (10 * w.1)).1 52 19 = (n : Int) from c3]
      refine zw_imul (nx := 68) C dX7_readsOne_67 rfl ?_
      refine zw_iconst (nx := 69) C dX7_readsOne_68 rfl ?_
      refine zw_iadd (nx := 70) C dX7_readsOne_69 rfl ?_
      refine zw_iconst (nx := 71) C dX7_readsOne_70 rfl ?_
      refine zw_iast ((3 * n + 2)) (nx := 72) C dX7_readsOne_71 rfl rfl rfl rfl (by omega) ?_
      refine zw_aload_n (i := 0) (nx := 73) C dX7_readsOne_72 rfl rfl rfl ?_
      refine zw_dup (nx := 74) C dX7_readsOne_73 rfl rfl ?_
      refine zw_geti (nx := 77) C dX7_readsOne_74 rfl flX7_150 iq6 rfl rfl rfl rfl ?_
      rw [show (zU (zU ζ2 64 (3 * n + 1) (10 * w.1)) 64 (3 * n + 2) (-1)).1 52 19 = (n : Int) from c3]
      refine zw_iconst (nx := 78) C dX7_readsOne_77 rfl ?_
      refine zw_iadd (nx := 79) C dX7_readsOne_78 rfl ?_
      refine zw_puti (nx := 82) C dX7_readsOne_79 rfl flX7_150 ic6 nf6_19 rfl rfl rfl rfl rfl ?_
      refine zw_aload_n (i := 0) (nx := 83) C dX7_readsOne_82 rfl rfl rfl ?_
      refine zw_cV01 (nx := 86) C dX7_readsOne_83 rfl cvX7_146 rfl rfl ⟨Nat.le_of_ble_eq_true rfl, Nat.le_of_ble_eq_true rfl⟩ rfl rfl (Nat.le_of_ble_eq_true rfl) re ?_
      exact zw_bret C hA hr hk dX7_readsOne_86 rfl rfl rfl
end ModR
