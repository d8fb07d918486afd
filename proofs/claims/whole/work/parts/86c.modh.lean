/-! reading a text: the reference's whole -/
theorem MS.rf (ζ : zSt) : MS ζ ζ := ⟨⟨fun _ _ => rfl, rfl⟩, fun _ _ => rfl⟩
theorem MS.fill {ζ0 ζ : zSt} (h : MS ζ0 ζ) : ∀ n, MS ζ0 (zFill ζ 65 0 n)
  | 0 => h
  | n + 1 => (MS.fill h n).p65 n 0
def iniM (ζ : zSt) : zSt := zU (zU (zU ζ 52 16 0) 52 19 0) 52 18 240
theorem ini_MC (ζ : zSt) : MC ζ (zFill (iniM ζ) 65 0 8) 0 (ζ.1 52 17, d0.2) := by
  refine ⟨MS.fill ((((MS.rf ζ).p52 (by decide) _).p52 (by decide) _).p52 (by decide) _) 8, rfl, ⟨rfl, rfl, rfl⟩, fun y hy => ?_, fun p hp => absurd hp (Nat.not_lt_zero p)⟩
  rw [zFill_at, if_pos ⟨rfl, hy⟩]; rfl
def bL (ζ : zSt) : Nat → zSt
  | 0 => ζ
  | p + 1 => zU (mAd (bL ζ p) p (ζ.1 64 (3 * p)) (ζ.1 64 (3 * p + 1))) 58 p (ζ.1 64 (3 * p + 2))
theorem mAd_at (ζ : zSt) (n : Nat) (k u : Int) (a b : Nat) : (mAd ζ n k u).1 a b = if a = 52 ∧ b = 24 then 0 else if a = 52 ∧ b = 1 then (n : Int) + 1 else if a = 58 ∧ b = n then -1 else if a = 57 ∧ b = n then 0 else if a = 56 ∧ b = n then u else if a = 55 ∧ b = n then k else ζ.1 a b := rfl
theorem bL_at (ζ : zSt) (h24 : ζ.1 52 24 = 0) (h1 : ζ.1 52 1 = 0) (a b : Nat) : ∀ n, (bL ζ n).1 a b = if a = 55 ∧ b < n then ζ.1 64 (3 * b) else if a = 56 ∧ b < n then ζ.1 64 (3 * b + 1) else if a = 57 ∧ b < n then 0 else if a = 58 ∧ b < n then ζ.1 64 (3 * b + 2) else if a = 52 ∧ b = 1 then (n : Int) else ζ.1 a b
  | 0 => by
    rw [if_neg (by omega), if_neg (by omega), if_neg (by omega), if_neg (by omega)]
    split
    · rename_i h; rw [h.1, h.2]; exact h1
    · rfl
  | n + 1 => by
    show (if a = 58 ∧ b = n then ζ.1 64 (3 * n + 2) else (mAd (bL ζ n) n (ζ.1 64 (3 * n)) (ζ.1 64 (3 * n + 1))).1 a b) = _
    rw [mAd_at, bL_at ζ h24 h1 a b n]
    by_cases e55 : a = 55
    · subst e55
      by_cases hb : b = n
      · subst hb; simp
      · by_cases hb2 : b < n
        · have : b < n + 1 := by omega
          simp [hb, hb2, this]
        · have : ¬ b < n + 1 := by omega
          simp [hb, hb2, this]
    · by_cases e56 : a = 56
      · subst e56
        by_cases hb : b = n
        · subst hb; simp
        · by_cases hb2 : b < n
          · have : b < n + 1 := by omega
            simp [hb, hb2, this]
          · have : ¬ b < n + 1 := by omega
            simp [hb, hb2, this]
      · by_cases e57 : a = 57
        · subst e57
          by_cases hb : b = n
          · subst hb; simp
          · by_cases hb2 : b < n
            · have : b < n + 1 := by omega
              simp [hb, hb2, this]
            · have : ¬ b < n + 1 := by omega
              simp [hb, hb2, this]
        · by_cases e58 : a = 58
          · subst e58
            by_cases hb : b = n
            · subst hb; simp
            · by_cases hb2 : b < n
              · have : b < n + 1 := by omega
                simp [hb, hb2, this]
              · have : ¬ b < n + 1 := by omega
                simp [hb, hb2, this]
          · by_cases e52 : a = 52
            · subst e52
              by_cases h24b : b = 24
              · subst h24b; simp [h24]
              · by_cases hb1 : b = 1
                · subst hb1; simp
                · simp [h24b, hb1]
            · simp [e55, e56, e57, e58, e52]
theorem bL_l (ζ : zSt) : ∀ n, (bL ζ n).2 = ζ.2
  | 0 => rfl
  | n + 1 => bL_l ζ n
theorem mBg_at (ζ : zSt) (t d : Int) (a b : Nat) : (mBg ζ t d).1 a b = if a = 54 ∧ b < 8 then 0 else if a = 52 ∧ b = 24 then 0 else if a = 52 ∧ b = 4 then 0 else if a = 52 ∧ b = 1 then 0 else if a = 52 ∧ b = 3 then d else if a = 52 ∧ b = 2 then t else ζ.1 a b := by
  unfold mBg
  rw [zFill_at]; rfl
theorem mBg_l (ζ : zSt) (t d : Int) : (mBg ζ t d).2 = ζ.2 := by
  unfold mBg
  rw [zFill_l]; rfl
def hgS (ζ : zSt) (y : Nat) : zSt := zR ζ 54 (hF (ζ.1 65) (ζ.1 54) y)
theorem hgS_s (ζ : zSt) (y : Nat) : zU (hgS ζ y) 54 y (ζ.1 65 y) = hgS ζ (y + 1) := by
  unfold hgS
  rw [zRU, hF_s]
theorem hgS_0 (ζ : zSt) : hgS ζ 0 = ζ := by
  unfold hgS
  rw [hF_0, zR_self]
/-- behind a text read -/
def MN (ζ0 ζ : zSt) (d : pD) : Prop := ((∀ r, r ∉ [52, 54, 55, 56, 57, 58, 64, 65] → ζ.1 r = ζ0.1 r) ∧ ζ.2 = ζ0.2) ∧ (ζ.1 52 1 = d.2.2.2.1 ∧ ζ.1 52 2 = d.1 ∧ ζ.1 52 3 = d.2.1 ∧ ζ.1 52 4 = 0 ∧ ζ.1 52 24 = 0 ∧ ζ.1 52 15 = ζ0.1 52 15) ∧ (∀ y, y < 8 → ζ.1 54 y = d.2.2.1 y) ∧ ∀ p, p < d.2.2.2.1 → ζ.1 55 p = d.2.2.2.2.1 p ∧ ζ.1 56 p = d.2.2.2.2.2.1 p ∧ ζ.1 57 p = 0 ∧ ζ.1 58 p = d.2.2.2.2.2.2 p
section ModH
variable {l : Launch} {B : eB} {ζ0 ζ : zSt} {t : Nat} {T : Nat → Int}
theorem m_loop (hx : TXm ζ0 t T) : ∀ (k n s : Nat) (d : pD) (ζ : zSt), t - s < k → s ≤ t → n ≤ s → dK d → MC ζ0 ζ s d → match pLoop T t k n s d with
    | .inl p => ∃ ζ', zAt l B mX7_readsHill (some (zi (-1))) ζ' ζ 53 [some (.ref 52), some (zi n)] [] ∧ MF ζ0 ζ' p
    | .inr q => ∃ (ζ' : zSt) (j : Nat), zAt l B mX7_readsHill (some (zi q.1)) ζ' ζ 53 [some (.ref 52), some (zi n)] [] ∧ MC ζ0 ζ' j q.2 := by
  intro k
  induction k with
  | zero => intro n s d ζ h; omega
  | succ k ih =>
    intro n s d ζ hk0 hs hn hd hp
    have h15 := (hp.1.txm hx).1.1
    have h16 := hp.2.1
    have ht := hx.1.2
    unfold pLoop
    by_cases hts : t ≤ s
    · rw [if_pos hts]
      refine ⟨ζ, s, ?_, hp⟩
      intro X A C hX hA hr hk
      replace C : CX X B A mX7_readsHill.2.2.2.2 RX7 cX7_readsHill 2 0 0 := C
      have hr : (xMeth X).sig.returnType = (some .int) := hr
      change ZW X B A 2 0 0 _ _ _ _ _
      subst hX
      refine zw_aload_n (i := 0) (nx := 54) C dX7_readsHill_53 rfl rfl rfl ?_
      refine zw_geti (nx := 57) C dX7_readsHill_54 rfl flX7_110 iq6 rfl rfl rfl rfl ?_
      refine zw_aload_n (i := 0) (nx := 58) C dX7_readsHill_57 rfl rfl rfl ?_
      refine zw_geti (nx := 61) C dX7_readsHill_58 rfl flX7_107 iq6 rfl rfl rfl rfl ?_
      refine zw_icmp_ge (tgt := 83) (nx := 64) C dX7_readsHill_61 rfl rfl (by omega) (fun h61 => ?_) (fun h61 => by exfalso; omega)
      refine zw_iload_n (i := 1) (nx := 84) C dX7_readsHill_83 rfl rfl rfl ?_
      exact zw_iret C hA hr hk dX7_readsHill_84 rfl rfl
    · rw [if_neg hts]
      have it := m_item (l := l) (B := B) hx hp hs hd
      cases hi : pIt T t (pB2 T t s d) with
      | inl p =>
        rw [hi] at it
        obtain ⟨ζ', r, h⟩ := it
        refine ⟨ζ', ?_, h⟩
        intro X A C hX hA hr hk
        replace C : CX X B A mX7_readsHill.2.2.2.2 RX7 cX7_readsHill 2 0 0 := C
        have hr : (xMeth X).sig.returnType = (some .int) := hr
        change ZW X B A 2 0 0 _ _ _ _ _
        subst hX
        refine zw_aload_n (i := 0) (nx := 54) C dX7_readsHill_53 rfl rfl rfl ?_
        refine zw_geti (nx := 57) C dX7_readsHill_54 rfl flX7_110 iq6 rfl rfl rfl rfl ?_
        refine zw_aload_n (i := 0) (nx := 58) C dX7_readsHill_57 rfl rfl rfl ?_
        refine zw_geti (nx := 61) C dX7_readsHill_58 rfl flX7_107 iq6 rfl rfl rfl rfl ?_
        refine zw_icmp_ge (tgt := 83) (nx := 64) C dX7_readsHill_61 rfl rfl (by omega) (fun h61 => by exfalso; omega) (fun h61 => ?_)
        refine zw_aload_n (i := 0) (nx := 65) C dX7_readsHill_64 rfl rfl rfl ?_
        refine zw_cV01 (nx := 68) C dX7_readsHill_65 rfl cvX7_174 rfl rfl ⟨Nat.le_of_ble_eq_true rfl, Nat.le_of_ble_eq_true rfl⟩ rfl rfl (Nat.le_of_ble_eq_true rfl) r ?_
        refine zw_if_ne (tgt := 73) (nx := 71) C dX7_readsHill_68 rfl rfl (by omega) (fun h68 => by exfalso; omega) (fun h68 => ?_)
        refine zw_iconst (nx := 72) C dX7_readsHill_71 rfl ?_
        exact zw_iret C hA hr hk dX7_readsHill_72 rfl rfl
      | inr q =>
        rw [hi] at it
        obtain ⟨ζ1, r, h1⟩ := it
        obtain ⟨a1, a2, a3⟩ := pIt_ok hs hd (Or.inl hi)
        obtain ⟨r2, h2⟩ := m_skip (l := l) (B := B) hx h1 a3
        have hsk := sk_bd T a3
        have nx := ih (n + 1) (sk T t q.2) q.1 _ (by omega) hsk.2 (by omega) a1 h2
        have go : ∀ (r0 : Int) (η : zSt), zAt l B mX7_readsHill (some (zi r0)) η (zU ζ1 52 16 (sk T t q.2)) 53 [some (.ref 52), some (zi ((n + 1 : Nat) : Int))] [] → zAt l B mX7_readsHill (some (zi r0)) η ζ 53 [some (.ref 52), some (zi n)] [] := by
          intro r0 η K
          intro X A C hX hA hr hk
          replace C : CX X B A mX7_readsHill.2.2.2.2 RX7 cX7_readsHill 2 0 0 := C
          have hr : (xMeth X).sig.returnType = (some .int) := hr
          change ZW X B A 2 0 0 _ _ _ _ _
          subst hX
          refine zw_aload_n (i := 0) (nx := 54) C dX7_readsHill_53 rfl rfl rfl ?_
          refine zw_geti (nx := 57) C dX7_readsHill_54 rfl flX7_110 iq6 rfl rfl rfl rfl ?_
          refine zw_aload_n (i := 0) (nx := 58) C dX7_readsHill_57 rfl rfl rfl ?_
          refine zw_geti (nx := 61) C dX7_readsHill_58 rfl flX7_107 iq6 rfl rfl rfl rfl ?_
          refine zw_icmp_ge (tgt := 83) (nx := 64) C dX7_readsHill_61 rfl rfl (by omega) (fun h61 => by exfalso; omega) (fun h61 => ?_)
          refine zw_aload_n (i := 0) (nx := 65) C dX7_readsHill_64 rfl rfl rfl ?_
          refine zw_cV01 (nx := 68) C dX7_readsHill_65 rfl cvX7_174 rfl rfl ⟨Nat.le_of_ble_eq_true rfl, Nat.le_of_ble_eq_true rfl⟩ rfl rfl (Nat.le_of_ble_eq_true rfl) r ?_
          refine zw_if_ne (tgt := 73) (nx := 71) C dX7_readsHill_68 rfl rfl (by omega) (fun h68 => ?_) (fun h68 => by exfalso; omega)
          refine zw_iinc1 (nx := 76) C dX7_readsHill_73 rfl (Nat.le_of_ble_eq_true rfl) rfl ?_
          refine zw_aload_n (i := 0) (nx := 77) C dX7_readsHill_76 rfl rfl rfl ?_
          refine zw_cV00 (nx := 80) C dX7_readsHill_77 rfl cvX7_130 rfl rfl ⟨Nat.le_of_ble_eq_true rfl, Nat.le_of_ble_eq_true rfl⟩ rfl rfl (Nat.le_of_ble_eq_true rfl) r2 ?_
          refine zw_goto (nx := 53) C dX7_readsHill_80 rfl ?_
          exact K X A C rfl hA hr hk
        show match pLoop T t k (n + 1) (sk T t q.2) q.1 with
          | .inl p => ∃ ζ', zAt l B mX7_readsHill (some (zi (-1))) ζ' ζ 53 [some (.ref 52), some (zi n)] [] ∧ MF ζ0 ζ' p
          | .inr q => ∃ (ζ' : zSt) (j : Nat), zAt l B mX7_readsHill (some (zi q.1)) ζ' ζ 53 [some (.ref 52), some (zi n)] [] ∧ MC ζ0 ζ' j q.2
        cases hh : pLoop T t k (n + 1) (sk T t q.2) q.1 with
        | inl p =>
          rw [hh] at nx
          obtain ⟨η, x1, x2⟩ := nx
          exact ⟨η, go _ _ x1, x2⟩
        | inr w =>
          rw [hh] at nx
          obtain ⟨η, j, x1, x2⟩ := nx
          exact ⟨η, j, go _ _ x1, x2⟩
theorem m_hill (hx : TXm ζ0 t T) : match pAll T t with
    | .inl p => ∃ ζ', zRun l B mX7_readsHill [.ref 52] ζ0 (some (zi (-1))) ζ' ∧ MF ζ0 ζ' p
    | .inr q => ∃ (ζ' : zSt) (j : Nat), zRun l B mX7_readsHill [.ref 52] ζ0 (some (zi q.1)) ζ' ∧ MC ζ0 ζ' j q.2 := by
  have h0 := sk_bd T (Nat.zero_le t)
  have mb := m_first (l := l) (B := B) hx (ini_MC ζ0) (Nat.zero_le t)
  have eb : pB1 T t (sk T t 0) (ζ0.1 52 17, d0.2) = pB1 T t (sk T t 0) d0 := rfl
  rw [eb] at mb
  have it := m_fin hx mb (fun q hq => (pB_ok h0.2 d0_ok (Or.inr hq)).2.2)
  have pre : ∀ (r0 : Option Value) (η : zSt), zAt l B mX7_readsHill r0 η (zFill (iniM ζ0) 65 0 8) 38 [some (.ref 52), some (zi ((8 : Nat) : Int))] [] → zRun l B mX7_readsHill [.ref 52] ζ0 r0 η := by
    intro r0 η K
    refine zrun_intro (M := mX7_readsHill) (ls := [some (.ref 52), none]) (by decide) rfl rfl rfl (Nat.le_of_ble_eq_true rfl) ?_
    intro X A C hX hA hr hk
    replace C : CX X B A mX7_readsHill.2.2.2.2 RX7 cX7_readsHill 2 0 0 := C
    have hr : (xMeth X).sig.returnType = (some .int) := hr
    change ZW X B A 2 0 0 _ _ 0 [some (.ref 52), none] []
    have loop : ∀ k y : Nat, y + k = 8 → ZW X B A 2 0 0 (eFin X B r0 (zz η)) (zFill (iniM ζ0) 65 0 y) 19 [some (.ref 52), some (zi y)] [] := by
      intro k
      induction k with
      | zero =>
        intro y hy
        have e : y = 8 := by omega
        subst e
        refine zw_iload_n (i := 1) (nx := 20) C dX7_readsHill_19 rfl rfl rfl ?_
        refine zw_bipush (v := 8) (nx := 22) C dX7_readsHill_20 (by decide) rfl ?_
        refine zw_icmp_ge (tgt := 38) (nx := 25) C dX7_readsHill_22 rfl rfl (by omega) (fun h22 => ?_) (fun h22 => by exfalso; omega)
        exact K X A C hX hA hr hk
      | succ k ih =>
        intro y hy
        refine zw_iload_n (i := 1) (nx := 20) C dX7_readsHill_19 rfl rfl rfl ?_
        refine zw_bipush (v := 8) (nx := 22) C dX7_readsHill_20 (by decide) rfl ?_
        refine zw_icmp_ge (tgt := 38) (nx := 25) C dX7_readsHill_22 rfl rfl (by omega) (fun h22 => by exfalso; omega) (fun h22 => ?_)
        refine zw_aload_n (i := 0) (nx := 26) C dX7_readsHill_25 rfl rfl rfl ?_
        refine zw_getr (nx := 29) C dX7_readsHill_26 rfl flX7_53 iq6 rfl rfl rfl rfl ?_
        refine zw_iload_n (i := 1) (nx := 30) C dX7_readsHill_29 rfl rfl rfl ?_
        refine zw_iconst (nx := 31) C dX7_readsHill_30 rfl ?_
        refine zw_iast (y) (nx := 32) C dX7_readsHill_31 rfl rfl rfl rfl (by omega) ?_
        refine zw_iinc1 (nx := 35) C dX7_readsHill_32 rfl (Nat.le_of_ble_eq_true rfl) rfl ?_
        refine zw_goto (nx := 19) C dX7_readsHill_35 rfl ?_
        exact ih (y + 1) (by omega)
    refine zw_aload_n (i := 0) (nx := 1) C dX7_readsHill_0 rfl rfl rfl ?_
    refine zw_iconst (nx := 2) C dX7_readsHill_1 rfl ?_
    refine zw_puti (nx := 5) C dX7_readsHill_2 rfl flX7_110 ic6 nf6_16 rfl rfl rfl rfl rfl ?_
    refine zw_aload_n (i := 0) (nx := 6) C dX7_readsHill_5 rfl rfl rfl ?_
    refine zw_iconst (nx := 7) C dX7_readsHill_6 rfl ?_
    refine zw_puti (nx := 10) C dX7_readsHill_7 rfl flX7_150 ic6 nf6_19 rfl rfl rfl rfl rfl ?_
    refine zw_aload_n (i := 0) (nx := 11) C dX7_readsHill_10 rfl rfl rfl ?_
    refine zw_sipush (v := 240) (nx := 14) C dX7_readsHill_11 (by decide) rfl ?_
    refine zw_puti (nx := 17) C dX7_readsHill_14 rfl flX7_143 ic6 nf6_18 rfl rfl rfl rfl rfl ?_
    refine zw_iconst (nx := 18) C dX7_readsHill_17 rfl ?_
    refine zw_ist1 (nx := 19) C (eIst_n dX7_readsHill_18 rfl rfl) (Nat.le_of_ble_eq_true rfl) rfl ?_
    exact loop 8 0 (by omega)
  unfold pAll
  cases hi : pIt T t (pB1 T t (sk T t 0) d0) with
  | inl p =>
    rw [hi] at it
    obtain ⟨ζ', r, h⟩ := it
    refine ⟨ζ', pre _ _ ?_, h⟩
    intro X A C hX hA hr hk
    replace C : CX X B A mX7_readsHill.2.2.2.2 RX7 cX7_readsHill 2 0 0 := C
    have hr : (xMeth X).sig.returnType = (some .int) := hr
    change ZW X B A 2 0 0 _ _ _ _ _
    subst hX
    refine zw_aload_n (i := 0) (nx := 39) C dX7_readsHill_38 rfl rfl rfl ?_
    refine zw_cV01 (nx := 42) C dX7_readsHill_39 rfl cvX7_171 rfl rfl ⟨Nat.le_of_ble_eq_true rfl, Nat.le_of_ble_eq_true rfl⟩ rfl rfl (Nat.le_of_ble_eq_true rfl) r ?_
    refine zw_if_ne (tgt := 47) (nx := 45) C dX7_readsHill_42 rfl rfl (by omega) (fun h42 => by exfalso; omega) (fun h42 => ?_)
    refine zw_iconst (nx := 46) C dX7_readsHill_45 rfl ?_
    exact zw_iret C hA hr hk dX7_readsHill_46 rfl rfl
  | inr q =>
    rw [hi] at it
    obtain ⟨ζ1, r, h1⟩ := it
    obtain ⟨a1, a2, a3⟩ := pIt_ok h0.2 d0_ok (Or.inr hi)
    obtain ⟨r2, h2⟩ := m_skip (l := l) (B := B) hx h1 a3
    have hsk := sk_bd T a3
    have nx := m_loop (l := l) (B := B) hx (t + 1) 1 (sk T t q.2) q.1 _ (by omega) hsk.2 (by omega) a1 h2
    have go : ∀ (r0 : Int) (η : zSt), zAt l B mX7_readsHill (some (zi r0)) η (zU ζ1 52 16 (sk T t q.2)) 53 [some (.ref 52), some (zi ((1 : Nat) : Int))] [] → zRun l B mX7_readsHill [.ref 52] ζ0 (some (zi r0)) η := by
      intro r0 η K
      refine pre _ _ ?_
      intro X A C hX hA hr hk
      replace C : CX X B A mX7_readsHill.2.2.2.2 RX7 cX7_readsHill 2 0 0 := C
      have hr : (xMeth X).sig.returnType = (some .int) := hr
      change ZW X B A 2 0 0 _ _ _ _ _
      subst hX
      refine zw_aload_n (i := 0) (nx := 39) C dX7_readsHill_38 rfl rfl rfl ?_
      refine zw_cV01 (nx := 42) C dX7_readsHill_39 rfl cvX7_171 rfl rfl ⟨Nat.le_of_ble_eq_true rfl, Nat.le_of_ble_eq_true rfl⟩ rfl rfl (Nat.le_of_ble_eq_true rfl) r ?_
      refine zw_if_ne (tgt := 47) (nx := 45) C dX7_readsHill_42 rfl rfl (by omega) (fun h42 => ?_) (fun h42 => by exfalso; omega)
      refine zw_iconst (nx := 48) C dX7_readsHill_47 rfl ?_
      refine zw_ist1 (nx := 49) C (eIst_n dX7_readsHill_48 rfl rfl) (Nat.le_of_ble_eq_true rfl) rfl ?_
      refine zw_aload_n (i := 0) (nx := 50) C dX7_readsHill_49 rfl rfl rfl ?_
      refine zw_cV00 (nx := 53) C dX7_readsHill_50 rfl cvX7_130 rfl rfl ⟨Nat.le_of_ble_eq_true rfl, Nat.le_of_ble_eq_true rfl⟩ rfl rfl (Nat.le_of_ble_eq_true rfl) r2 ?_
      exact K X A C rfl hA hr hk
    show match pLoop T t (t + 1) 1 (sk T t q.2) q.1 with
      | .inl p => ∃ ζ', zRun l B mX7_readsHill [.ref 52] ζ0 (some (zi (-1))) ζ' ∧ MF ζ0 ζ' p
      | .inr q => ∃ (ζ' : zSt) (j : Nat), zRun l B mX7_readsHill [.ref 52] ζ0 (some (zi q.1)) ζ' ∧ MC ζ0 ζ' j q.2
    cases hh : pLoop T t (t + 1) 1 (sk T t q.2) q.1 with
    | inl p =>
      rw [hh] at nx
      obtain ⟨η, x1, x2⟩ := nx
      exact ⟨η, go _ _ x1, x2⟩
    | inr w =>
      rw [hh] at nx
      obtain ⟨η, j, x1, x2⟩ := nx
      exact ⟨η, j, go _ _ x1, x2⟩
theorem run_X7_read (hx : TXm ζ0 t T) : match pAll T t with
    | .inl p => ∃ ζ', zRun l B mX7_read [.ref 52] ζ0 (some (zi (-10 - (p : Int)))) ζ' ∧ MF ζ0 ζ' p
    | .inr q => ∃ ζ', zRun l B mX7_read [.ref 52] ζ0 (some (zi q.1)) ζ' ∧ MN ζ0 ζ' q.2 := by
  have rd := m_hill (l := l) (B := B) hx
  have ok := pAll_ok (T := T) (t := t)
  have ht := hx.1.2
  cases hh : pAll T t with
  | inl p =>
    rw [hh] at rd
    have hpt := ok.1 p hh
    obtain ⟨ζ', r, h⟩ := rd
    refine ⟨ζ', ?_, h⟩
    refine zrun_intro (M := mX7_read) (ls := [some (.ref 52), none, none]) (by decide) rfl rfl rfl (Nat.le_of_ble_eq_true rfl) ?_
    intro X A C hX hA hr hk
    replace C : CX X B A mX7_read.2.2.2.2 RX7 cX7_read 3 0 0 := C
    have hr : (xMeth X).sig.returnType = (some .int) := hr
    change ZW X B A 3 0 0 _ _ 0 [some (.ref 52), none, none] []
    subst hX
    refine zw_aload_n (i := 0) (nx := 1) C dX7_read_0 rfl rfl rfl ?_
    refine zw_cV01 (nx := 4) C dX7_read_1 rfl cvX7_177 rfl rfl ⟨Nat.le_of_ble_eq_true rfl, Nat.le_of_ble_eq_true rfl⟩ rfl rfl (Nat.le_of_ble_eq_true rfl) r ?_
    refine zw_ist1 (nx := 5) C (eIst_n dX7_read_4 rfl rfl) (Nat.le_of_ble_eq_true rfl) rfl ?_
    refine zw_iload_n (i := 1) (nx := 6) C dX7_read_5 rfl rfl rfl ?_
    refine zw_if_ge (tgt := 17) (nx := 9) C dX7_read_6 rfl rfl (by omega) (fun h6 => by exfalso; omega) (fun h6 => ?_)
    refine zw_bipush (v := -10) (nx := 11) C dX7_read_9 (by decide) rfl ?_
    refine zw_aload_n (i := 0) (nx := 12) C dX7_read_11 rfl rfl rfl ?_
    refine zw_geti (nx := 15) C dX7_read_12 rfl flX7_110 iq6 rfl rfl rfl rfl ?_
    refine zw_isub (nx := 16) C dX7_read_15 rfl ?_
    exact zw_iret C hA hr hk dX7_read_16 (zr (by rw [h.2])) rfl
  | inr q =>
    rw [hh] at rd
    obtain ⟨hdk, hqt⟩ := ok.2 q hh
    obtain ⟨ζ', j, r, h⟩ := rd
    have hn5 := hdk.1
    clear hdk ok rd
    obtain ⟨items, tr, dk, H, n, K, U, S⟩ := q
    replace hqt : items ≤ t := hqt
    replace hn5 : n ≤ 5 := hn5
    obtain ⟨hms, h16, ⟨b17, b18, b19⟩, b65, b64⟩ := h
    replace b17 : ζ'.1 52 17 = tr := b17
    replace b18 : ζ'.1 52 18 = dk := b18
    replace b19 : ζ'.1 52 19 = n := b19
    replace b65 : ∀ y, y < 8 → ζ'.1 65 y = H y := b65
    replace b64 : ∀ p, p < n → ζ'.1 64 (3 * p) = K p ∧ ζ'.1 64 (3 * p + 1) = U p ∧ ζ'.1 64 (3 * p + 2) = S p := b64
    have bg := run_X7_begin (l := l) (B := B) (ζ := ζ') (t := tr) (d := dk)
    have gat := mBg_at ζ' tr dk
    have gl := mBg_l ζ' tr dk
    generalize mBg ζ' tr dk = ζb at bg gat gl
    have g1 : ζb.1 52 1 = 0 := by rw [gat]; simp
    have g24 : ζb.1 52 24 = 0 := by rw [gat]; simp
    have g19 : ζb.1 52 19 = n := by rw [gat]; simpa using b19
    have g64 : ζb.1 64 = ζ'.1 64 := by funext b; rw [gat]; simp
    have g65 : ζb.1 65 = ζ'.1 65 := by funext b; rw [gat]; simp
    have bat := bL_at (hgS ζb 8) g24 g1
    have o64 : ∀ p b, (bL (hgS ζb 8) p).1 64 b = (hgS ζb 8).1 64 b := fun p b => by
      rw [bat, if_neg (by omega), if_neg (by omega), if_neg (by omega), if_neg (by omega), if_neg (by omega)]
    have o19 : ∀ p, (bL (hgS ζb 8) p).1 52 19 = (n : Int) := fun p => by
      rw [bat, if_neg (by omega), if_neg (by omega), if_neg (by omega), if_neg (by omega), if_neg (by omega)]; exact g19
    have o1 : ∀ p, (bL (hgS ζb 8) p).1 52 1 = (p : Int) := fun p => by
      rw [bat, if_neg (by omega), if_neg (by omega), if_neg (by omega), if_neg (by omega), if_pos ⟨rfl, rfl⟩]
    refine ⟨bL (hgS ζb 8) n, ?_, ?_⟩
    · clear bat gat
      refine zrun_intro (M := mX7_read) (ls := [some (.ref 52), none, none]) (by decide) rfl rfl rfl (Nat.le_of_ble_eq_true rfl) ?_
      intro X A C hX hA hr hk
      replace C : CX X B A mX7_read.2.2.2.2 RX7 cX7_read 3 0 0 := C
      have hr : (xMeth X).sig.returnType = (some .int) := hr
      change ZW X B A 3 0 0 _ _ 0 [some (.ref 52), none, none] []
      subst hX
      have lp2 : ∀ k p : Nat, p + k = n → ZW X B A 3 0 0 (eFin X B (some (zi items)) (zz (bL (hgS ζb 8) n))) (bL (hgS ζb 8) p) 57 [some (.ref 52), some (zi items), some (zi p)] [] := by
        intro k
        induction k with
        | zero =>
          intro p hpk
          have e : p = n := by omega
          subst e
          have e19 := o19 p
          refine zw_iload_n (i := 2) (nx := 58) C dX7_read_57 rfl rfl rfl ?_
          refine zw_aload_n (i := 0) (nx := 59) C dX7_read_58 rfl rfl rfl ?_
          refine zw_geti (nx := 62) C dX7_read_59 rfl flX7_150 iq6 rfl rfl rfl rfl ?_
          refine zw_icmp_ge (tgt := 110) (nx := 65) C dX7_read_62 rfl rfl (by omega) (fun h62 => ?_) (fun h62 => by exfalso; omega)
          refine zw_iload_n (i := 1) (nx := 111) C dX7_read_110 rfl rfl rfl ?_
          exact zw_iret C hA hr hk dX7_read_111 rfl rfl
        | succ k ih =>
          intro p hpk
          have e19 := o19 p
          refine zw_iload_n (i := 2) (nx := 58) C dX7_read_57 rfl rfl rfl ?_
          refine zw_aload_n (i := 0) (nx := 59) C dX7_read_58 rfl rfl rfl ?_
          refine zw_geti (nx := 62) C dX7_read_59 rfl flX7_150 iq6 rfl rfl rfl rfl ?_
          refine zw_icmp_ge (tgt := 110) (nx := 65) C dX7_read_62 rfl rfl (by omega) (fun h62 => by exfalso; omega) (fun h62 => ?_)
          refine zw_aload_n (i := 0) (nx := 66) C dX7_read_65 rfl rfl rfl ?_
          refine zw_aload_n (i := 0) (nx := 67) C dX7_read_66 rfl rfl rfl ?_
          refine zw_getr (nx := 70) C dX7_read_67 rfl flX7_50 iq6 rfl rfl rfl rfl ?_
          refine zw_iconst (nx := 71) C dX7_read_70 rfl ?_
          refine zw_iload_n (i := 2) (nx := 72) C dX7_read_71 rfl rfl rfl ?_
          refine zw_imul (nx := 73) C dX7_read_72 rfl ?_
          refine zw_iald ((3 * p)) (nx := 74) C dX7_read_73 rfl rfl rfl rfl (by omega) ?_
          rw [o64 p]
          refine zw_aload_n (i := 0) (nx := 75) C dX7_read_74 rfl rfl rfl ?_
          refine zw_getr (nx := 78) C dX7_read_75 rfl flX7_50 iq6 rfl rfl rfl rfl ?_
          refine zw_iconst (nx := 79) C dX7_read_78 rfl ?_
          refine zw_iload_n (i := 2) (nx := 80) C dX7_read_79 rfl rfl rfl ?_
          refine zw_imul (nx := 81) C dX7_read_80 rfl ?_
          refine zw_iconst (nx := 82) C dX7_read_81 rfl ?_
          refine zw_iadd (nx := 83) C dX7_read_82 rfl ?_
          refine zw_iald ((3 * p + 1)) (nx := 84) C dX7_read_83 rfl rfl rfl rfl (by omega) ?_
          rw [o64 p]
          have ad := run_X7_addOne (l := xLa X) (B := B) (ζ := bL (hgS ζb 8) p) (n := p) (by omega) (o1 p) (k := (hgS ζb 8).1 64 (3 * p)) (u := (hgS ζb 8).1 64 (3 * p + 1))
          refine zw_cV21 (nx := 87) C dX7_read_84 rfl cvX7_103 rfl rfl ⟨Nat.le_of_ble_eq_true rfl, Nat.le_of_ble_eq_true rfl⟩ rfl rfl (Nat.le_of_ble_eq_true rfl) ad ?_
          refine zw_pop (nx := 88) C dX7_read_87 rfl rfl ?_
          refine zw_aload_n (i := 0) (nx := 89) C dX7_read_88 rfl rfl rfl ?_
          refine zw_getr (nx := 92) C dX7_read_89 rfl flX7_32 iq6 rfl rfl rfl rfl ?_
          refine zw_iload_n (i := 2) (nx := 93) C dX7_read_92 rfl rfl rfl ?_
          refine zw_aload_n (i := 0) (nx := 94) C dX7_read_93 rfl rfl rfl ?_
          refine zw_getr (nx := 97) C dX7_read_94 rfl flX7_50 iq6 rfl rfl rfl rfl ?_
          refine zw_iconst (nx := 98) C dX7_read_97 rfl ?_
          refine zw_iload_n (i := 2) (nx := 99) C dX7_read_98 rfl rfl rfl ?_
          refine zw_imul (nx := 100) C dX7_read_99 rfl ?_
          refine zw_iconst (nx := 101) C dX7_read_100 rfl ?_
          refine zw_iadd (nx := 102) C dX7_read_101 rfl ?_
          refine zw_iald ((3 * p + 2)) (nx := 103) C dX7_read_102 rfl rfl rfl rfl (by omega) ?_
          rw [show (mAd (bL (hgS ζb 8) p) p ((hgS ζb 8).1 64 (3 * p)) ((hgS ζb 8).1 64 (3 * p + 1))).1 64 (3 * p + 2) = (hgS ζb 8).1 64 (3 * p + 2) from o64 p _]
          refine zw_iast (p) (nx := 104) C dX7_read_103 rfl rfl rfl rfl (by omega) ?_
          refine zw_iinc2 (nx := 107) C dX7_read_104 rfl (Nat.le_of_ble_eq_true rfl) rfl ?_
          refine zw_goto (nx := 57) C dX7_read_107 rfl ?_
          exact ih (p + 1) (by omega)
      have lp1 : ∀ k y : Nat, y + k = 8 → ZW X B A 3 0 0 (eFin X B (some (zi items)) (zz (bL (hgS ζb 8) n))) (hgS ζb y) 31 [some (.ref 52), some (zi items), some (zi y)] [] := by
        intro k
        induction k with
        | zero =>
          intro y hy
          have e : y = 8 := by omega
          subst e
          refine zw_iload_n (i := 2) (nx := 32) C dX7_read_31 rfl rfl rfl ?_
          refine zw_bipush (v := 8) (nx := 34) C dX7_read_32 (by decide) rfl ?_
          refine zw_icmp_ge (tgt := 55) (nx := 37) C dX7_read_34 rfl rfl (by omega) (fun h34 => ?_) (fun h34 => by exfalso; omega)
          refine zw_iconst (nx := 56) C dX7_read_55 rfl ?_
          refine zw_ist2 (nx := 57) C (eIst_n dX7_read_56 rfl rfl) (Nat.le_of_ble_eq_true rfl) rfl ?_
          exact lp2 n 0 (by omega)
        | succ k ih =>
          intro y hy
          refine zw_iload_n (i := 2) (nx := 32) C dX7_read_31 rfl rfl rfl ?_
          refine zw_bipush (v := 8) (nx := 34) C dX7_read_32 (by decide) rfl ?_
          refine zw_icmp_ge (tgt := 55) (nx := 37) C dX7_read_34 rfl rfl (by omega) (fun h34 => by exfalso; omega) (fun h34 => ?_)
          refine zw_aload_n (i := 0) (nx := 38) C dX7_read_37 rfl rfl rfl ?_
          refine zw_getr (nx := 41) C dX7_read_38 rfl flX7_20 iq6 rfl rfl rfl rfl ?_
          refine zw_iload_n (i := 2) (nx := 42) C dX7_read_41 rfl rfl rfl ?_
          refine zw_aload_n (i := 0) (nx := 43) C dX7_read_42 rfl rfl rfl ?_
          refine zw_getr (nx := 46) C dX7_read_43 rfl flX7_53 iq6 rfl rfl rfl rfl ?_
          refine zw_iload_n (i := 2) (nx := 47) C dX7_read_46 rfl rfl rfl ?_
          refine zw_iald (y) (nx := 48) C dX7_read_47 rfl rfl rfl rfl (by omega) ?_
          rw [show (hgS ζb y).1 65 y = ζb.1 65 y from rfl]
          refine zw_iast (y) (nx := 49) C dX7_read_48 rfl rfl rfl rfl (by omega) ?_
          rw [hgS_s]
          refine zw_iinc2 (nx := 52) C dX7_read_49 rfl (Nat.le_of_ble_eq_true rfl) rfl ?_
          refine zw_goto (nx := 31) C dX7_read_52 rfl ?_
          exact ih (y + 1) (by omega)
      refine zw_aload_n (i := 0) (nx := 1) C dX7_read_0 rfl rfl rfl ?_
      refine zw_cV01 (nx := 4) C dX7_read_1 rfl cvX7_177 rfl rfl ⟨Nat.le_of_ble_eq_true rfl, Nat.le_of_ble_eq_true rfl⟩ rfl rfl (Nat.le_of_ble_eq_true rfl) r ?_
      refine zw_ist1 (nx := 5) C (eIst_n dX7_read_4 rfl rfl) (Nat.le_of_ble_eq_true rfl) rfl ?_
      refine zw_iload_n (i := 1) (nx := 6) C dX7_read_5 rfl rfl rfl ?_
      refine zw_if_ge (tgt := 17) (nx := 9) C dX7_read_6 rfl rfl (by omega) (fun h6 => ?_) (fun h6 => by exfalso; omega)
      refine zw_aload_n (i := 0) (nx := 18) C dX7_read_17 rfl rfl rfl ?_
      refine zw_aload_n (i := 0) (nx := 19) C dX7_read_18 rfl rfl rfl ?_
      refine zw_geti (nx := 22) C dX7_read_19 rfl flX7_168 iq6 rfl rfl rfl rfl ?_
      rw [b17]
      refine zw_aload_n (i := 0) (nx := 23) C dX7_read_22 rfl rfl rfl ?_
      refine zw_geti (nx := 26) C dX7_read_23 rfl flX7_143 iq6 rfl rfl rfl rfl ?_
      rw [b18]
      refine zw_cV20 (nx := 29) C dX7_read_26 rfl cvX7_75 rfl rfl ⟨Nat.le_of_ble_eq_true rfl, Nat.le_of_ble_eq_true rfl⟩ rfl rfl (Nat.le_of_ble_eq_true rfl) bg ?_
      refine zw_iconst (nx := 30) C dX7_read_29 rfl ?_
      refine zw_ist2 (nx := 31) C (eIst_n dX7_read_30 rfl rfl) (Nat.le_of_ble_eq_true rfl) rfl ?_
      have := lp1 8 0 (by omega)
      rw [hgS_0] at this
      exact this
    · have hb : ∀ a b, a ≠ 54 → (hgS ζb 8).1 a b = ζb.1 a b := fun a b h => by unfold hgS; rw [zR_at, if_neg h]
      refine ⟨⟨fun r hr => ?_, ?_⟩, ⟨o1 n, ?_, ?_, ?_, ?_, ?_⟩, fun y hy => ?_, fun p hp => ?_⟩
      · have m : r ≠ 52 ∧ r ≠ 54 ∧ r ≠ 55 ∧ r ≠ 56 ∧ r ≠ 57 ∧ r ≠ 58 ∧ r ≠ 64 ∧ r ≠ 65 := by simpa using hr
        rw [← hms.1.1 r (by simp; omega)]
        funext b
        rw [bat, if_neg (by omega), if_neg (by omega), if_neg (by omega), if_neg (by omega), if_neg (by omega), hb r b m.2.1, gat, if_neg (by omega), if_neg (by omega), if_neg (by omega), if_neg (by omega), if_neg (by omega), if_neg (by omega)]
      · rw [bL_l]; exact gl.trans hms.1.2
      · rw [bat, if_neg (by omega), if_neg (by omega), if_neg (by omega), if_neg (by omega), if_neg (by omega), hb 52 _ (by decide), gat]; simp
      · rw [bat, if_neg (by omega), if_neg (by omega), if_neg (by omega), if_neg (by omega), if_neg (by omega), hb 52 _ (by decide), gat]; simp
      · rw [bat, if_neg (by omega), if_neg (by omega), if_neg (by omega), if_neg (by omega), if_neg (by omega), hb 52 _ (by decide), gat]; simp
      · rw [bat, if_neg (by omega), if_neg (by omega), if_neg (by omega), if_neg (by omega), if_neg (by omega), hb 52 _ (by decide), gat]; simp
      · rw [bat, if_neg (by omega), if_neg (by omega), if_neg (by omega), if_neg (by omega), if_neg (by omega), hb 52 _ (by decide), gat]; simp; exact hms.2 15 (by decide)
      · rw [bat, if_neg (by omega), if_neg (by omega), if_neg (by omega), if_neg (by omega), if_neg (by omega)]
        show (if y < 8 then ζb.1 65 y else ζb.1 54 y) = H y
        rw [if_pos hy, g65]; exact b65 y hy
      · have hp : p < n := hp
        obtain ⟨c1, c2, c3⟩ := b64 p hp
        rw [bat, bat, bat, bat]
        refine ⟨?_, ?_, ?_, ?_⟩
        · rw [if_pos ⟨rfl, hp⟩, hb 64 _ (by decide), g64]; exact c1
        · rw [if_neg (by omega), if_pos ⟨rfl, hp⟩, hb 64 _ (by decide), g64]; exact c2
        · rw [if_neg (by omega), if_neg (by omega), if_pos ⟨rfl, hp⟩]
        · rw [if_neg (by omega), if_neg (by omega), if_neg (by omega), if_pos ⟨rfl, hp⟩, hb 64 _ (by decide), g64]; exact c3
end ModH
