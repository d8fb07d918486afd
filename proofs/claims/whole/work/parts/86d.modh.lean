/-! reading a text: the reference's hill -/
section ModH
variable {l : Launch} {B : eB} {ζ0 ζ : zSt} {t : Nat} {T : Nat → Int}
theorem m_loop (hx : TXm ζ0 t T) : ∀ (k n s : Nat) (d : pD) (ζ : zSt), t - s < k → s ≤ t → n ≤ s → dK d → MC ζ0 ζ s d → match pLoop T t k n s d with
    | .inl p => ∃ ζ', zAt l B mX7_readsHill (some (zi (-1))) ζ' ζ 53 [some (.ref 52), some (zi n)] [] ∧ MF ζ0 ζ' p
    | .inr q => ∃ (ζ' : zSt) (j : Nat), zAt l B mX7_readsHill (some (zi q.1)) ζ' ζ 53 [some (.ref 52), some (zi n)] [] ∧ MC ζ0 ζ' j q.2 := by
  intro k
  induction k with
  | zero => intro n s d ζ h; omega
  | succ k ih =>
    intro n s d ζ hk0 hs hn hd hp
    have h15 := (hp.1.txm hx).1.1
    have h16 := hp.2.1
    have ht := hx.1.2
    unfold pLoop
    by_cases hts : t ≤ s
    · rw [if_pos hts]
      refine ⟨ζ, s, ?_, hp⟩
      intro X A C hX hA hr hk
      replace C : CX X B A mX7_readsHill.2.2.2.2 RX7 cX7_readsHill 2 0 0 := C
      have hr : (xMeth X).sig.returnType = (some .int) := hr
      change ZW X B A 2 0 0 _ _ _ _ _
      subst hX
      refine zw_aload_n (i := 0) (nx := 54) C dX7_readsHill_53 rfl rfl rfl ?_
      refine zw_geti (nx := 57) C dX7_readsHill_54 rfl flX7_110 iq6 rfl rfl rfl rfl ?_
      refine zw_aload_n (i := 0) (nx := 58) C dX7_readsHill_57 rfl rfl rfl ?_
      refine zw_geti (nx := 61) C dX7_readsHill_58 rfl flX7_107 iq6 rfl rfl rfl rfl ?_
      refine zw_icmp_ge (tgt := 83) (nx := 64) C dX7_readsHill_61 rfl rfl (by omega) (fun h61 => ?_) (fun h61 => by exfalso; omega)
      refine zw_iload_n (i := 1) (nx := 84) C dX7_readsHill_83 rfl rfl rfl ?_
      exact zw_iret C hA hr hk dX7_readsHill_84 rfl rfl
    · rw [if_neg hts]
      have it := m_item (l := l) (B := B) hx hp hs hd
      cases hi : pIt T t (pB2 T t s d) with
      | inl p =>
        rw [hi] at it
        obtain ⟨ζ', r, h⟩ := it
        refine ⟨ζ', ?_, h⟩
        intro X A C hX hA hr hk
        replace C : CX X B A mX7_readsHill.2.2.2.2 RX7 cX7_readsHill 2 0 0 := C
        have hr : (xMeth X).sig.returnType = (some .int) := hr
        change ZW X B A 2 0 0 _ _ _ _ _
        subst hX
        refine zw_aload_n (i := 0) (nx := 54) C dX7_readsHill_53 rfl rfl rfl ?_
        refine zw_geti (nx := 57) C dX7_readsHill_54 rfl flX7_110 iq6 rfl rfl rfl rfl ?_
        refine zw_aload_n (i := 0) (nx := 58) C dX7_readsHill_57 rfl rfl rfl ?_
        refine zw_geti (nx := 61) C dX7_readsHill_58 rfl flX7_107 iq6 rfl rfl rfl rfl ?_
        refine zw_icmp_ge (tgt := 83) (nx := 64) C dX7_readsHill_61 rfl rfl (by omega) (fun h61 => by exfalso; omega) (fun h61 => ?_)
        refine zw_aload_n (i := 0) (nx := 65) C dX7_readsHill_64 rfl rfl rfl ?_
        refine zw_cV01 (nx := 68) C dX7_readsHill_65 rfl cvX7_174 rfl rfl ⟨Nat.le_of_ble_eq_true rfl, Nat.le_of_ble_eq_true rfl⟩ rfl rfl (Nat.le_of_ble_eq_true rfl) r ?_
        refine zw_if_ne (tgt := 73) (nx := 71) C dX7_readsHill_68 rfl rfl (by omega) (fun h68 => by exfalso; omega) (fun h68 => ?_)
        refine zw_iconst (nx := 72) C dX7_readsHill_71 rfl ?_
        exact zw_iret C hA hr hk dX7_readsHill_72 rfl rfl
      | inr q =>
        rw [hi] at it
        obtain ⟨ζ1, r, h1⟩ := it
        obtain ⟨a1, a2, a3⟩ := pIt_ok hs hd (Or.inl hi)
        obtain ⟨r2, h2⟩ := m_skip (l := l) (B := B) hx h1 a3
        have hsk := sk_bd T a3
        have nx := ih (n + 1) (sk T t q.2) q.1 _ (by omega) hsk.2 (by omega) a1 h2
        have go : ∀ (r0 : Int) (η : zSt), zAt l B mX7_readsHill (some (zi r0)) η (zU ζ1 52 16 (sk T t q.2)) 53 [some (.ref 52), some (zi ((n + 1 : Nat) : Int))] [] → zAt l B mX7_readsHill (some (zi r0)) η ζ 53 [some (.ref 52), some (zi n)] [] := by
          intro r0 η K
          intro X A C hX hA hr hk
          replace C : CX X B A mX7_readsHill.2.2.2.2 RX7 cX7_readsHill 2 0 0 := C
          have hr : (xMeth X).sig.returnType = (some .int) := hr
          change ZW X B A 2 0 0 _ _ _ _ _
          subst hX
          refine zw_aload_n (i := 0) (nx := 54) C dX7_readsHill_53 rfl rfl rfl ?_
          refine zw_geti (nx := 57) C dX7_readsHill_54 rfl flX7_110 iq6 rfl rfl rfl rfl ?_
          refine zw_aload_n (i := 0) (nx := 58) C dX7_readsHill_57 rfl rfl rfl ?_
          refine zw_geti (nx := 61) C dX7_readsHill_58 rfl flX7_107 iq6 rfl rfl rfl rfl ?_
          refine zw_icmp_ge (tgt := 83) (nx := 64) C dX7_readsHill_61 rfl rfl (by omega) (fun h61 => by exfalso; omega) (fun h61 => ?_)
          refine zw_aload_n (i := 0) (nx := 65) C dX7_readsHill_64 rfl rfl rfl ?_
          refine zw_cV01 (nx := 68) C dX7_readsHill_65 rfl cvX7_174 rfl rfl ⟨Nat.le_of_ble_eq_true rfl, Nat.le_of_ble_eq_true rfl⟩ rfl rfl (Nat.le_of_ble_eq_true rfl) r ?_
          refine zw_if_ne (tgt := 73) (nx := 71) C dX7_readsHill_68 rfl rfl (by omega) (fun h68 => ?_) (fun h68 => by exfalso; omega)
          refine zw_iinc1 (nx := 76) C dX7_readsHill_73 rfl (Nat.le_of_ble_eq_true rfl) rfl ?_
          refine zw_aload_n (i := 0) (nx := 77) C dX7_readsHill_76 rfl rfl rfl ?_
          refine zw_cV00 (nx := 80) C dX7_readsHill_77 rfl cvX7_130 rfl rfl ⟨Nat.le_of_ble_eq_true rfl, Nat.le_of_ble_eq_true rfl⟩ rfl rfl (Nat.le_of_ble_eq_true rfl) r2 ?_
          refine zw_goto (nx := 53) C dX7_readsHill_80 rfl ?_
          exact K X A C rfl hA hr hk
        show match pLoop T t k (n + 1) (sk T t q.2) q.1 with
          | .inl p => ∃ ζ', zAt l B mX7_readsHill (some (zi (-1))) ζ' ζ 53 [some (.ref 52), some (zi n)] [] ∧ MF ζ0 ζ' p
          | .inr q => ∃ (ζ' : zSt) (j : Nat), zAt l B mX7_readsHill (some (zi q.1)) ζ' ζ 53 [some (.ref 52), some (zi n)] [] ∧ MC ζ0 ζ' j q.2
        cases hh : pLoop T t k (n + 1) (sk T t q.2) q.1 with
        | inl p =>
          rw [hh] at nx
          obtain ⟨η, x1, x2⟩ := nx
          exact ⟨η, go _ _ x1, x2⟩
        | inr w =>
          rw [hh] at nx
          obtain ⟨η, j, x1, x2⟩ := nx
          exact ⟨η, j, go _ _ x1, x2⟩
theorem m_hill (hx : TXm ζ0 t T) : match pAll T t with
    | .inl p => ∃ ζ', zRun l B mX7_readsHill [.ref 52] ζ0 (some (zi (-1))) ζ' ∧ MF ζ0 ζ' p
    | .inr q => ∃ (ζ' : zSt) (j : Nat), zRun l B mX7_readsHill [.ref 52] ζ0 (some (zi q.1)) ζ' ∧ MC ζ0 ζ' j q.2 := by
  have h0 := sk_bd T (Nat.zero_le t)
  have mb := m_first (l := l) (B := B) hx (ini_MC ζ0) (Nat.zero_le t)
  have eb : pB1 T t (sk T t 0) (ζ0.1 52 17, d0.2) = pB1 T t (sk T t 0) d0 := rfl
  rw [eb] at mb
  have it := m_fin hx mb (fun q hq => (pB_ok h0.2 d0_ok (Or.inr hq)).2.2)
  have pre : ∀ (r0 : Option Value) (η : zSt), zAt l B mX7_readsHill r0 η (zFill (iniM ζ0) 65 0 8) 38 [some (.ref 52), some (zi ((8 : Nat) : Int))] [] → zRun l B mX7_readsHill [.ref 52] ζ0 r0 η := by
    intro r0 η K
    refine zrun_intro (M := mX7_readsHill) (ls := [some (.ref 52), none]) (by decide) rfl rfl rfl (Nat.le_of_ble_eq_true rfl) ?_
    intro X A C hX hA hr hk
    replace C : CX X B A mX7_readsHill.2.2.2.2 RX7 cX7_readsHill 2 0 0 := C
    have hr : (xMeth X).sig.returnType = (some .int) := hr
    change ZW X B A 2 0 0 _ _ 0 [some (.ref 52), none] []
    have loop : ∀ k y : Nat, y + k = 8 → ZW X B A 2 0 0 (eFin X B r0 (zz η)) (zFill (iniM ζ0) 65 0 y) 19 [some (.ref 52), some (zi y)] [] := by
      intro k
      induction k with
      | zero =>
        intro y hy
        have e : y = 8 := by omega
        subst e
        refine zw_iload_n (i := 1) (nx := 20) C dX7_readsHill_19 rfl rfl rfl ?_
        refine zw_bipush (v := 8) (nx := 22) C dX7_readsHill_20 (by decide) rfl ?_
        refine zw_icmp_ge (tgt := 38) (nx := 25) C dX7_readsHill_22 rfl rfl (by omega) (fun h22 => ?_) (fun h22 => by exfalso; omega)
        exact K X A C hX hA hr hk
      | succ k ih =>
        intro y hy
        refine zw_iload_n (i := 1) (nx := 20) C dX7_readsHill_19 rfl rfl rfl ?_
        refine zw_bipush (v := 8) (nx := 22) C dX7_readsHill_20 (by decide) rfl ?_
        refine zw_icmp_ge (tgt := 38) (nx := 25) C dX7_readsHill_22 rfl rfl (by omega) (fun h22 => by exfalso; omega) (fun h22 => ?_)
        refine zw_aload_n (i := 0) (nx := 26) C dX7_readsHill_25 rfl rfl rfl ?_
        refine zw_getr (nx := 29) C dX7_readsHill_26 rfl flX7_53 iq6 rfl rfl rfl rfl ?_
        refine zw_iload_n (i := 1) (nx := 30) C dX7_readsHill_29 rfl rfl rfl ?_
        refine zw_iconst (nx := 31) C dX7_readsHill_30 rfl ?_
        refine zw_iast (y) (nx := 32) C dX7_readsHill_31 rfl rfl rfl rfl (by omega) ?_
        refine zw_iinc1 (nx := 35) C dX7_readsHill_32 rfl (Nat.le_of_ble_eq_true rfl) rfl ?_
        refine zw_goto (nx := 19) C dX7_readsHill_35 rfl ?_
        exact ih (y + 1) (by omega)
    refine zw_aload_n (i := 0) (nx := 1) C dX7_readsHill_0 rfl rfl rfl ?_
    refine zw_iconst (nx := 2) C dX7_readsHill_1 rfl ?_
    refine zw_puti (nx := 5) C dX7_readsHill_2 rfl flX7_110 ic6 nf6_16 rfl rfl rfl rfl rfl ?_
    refine zw_aload_n (i := 0) (nx := 6) C dX7_readsHill_5 rfl rfl rfl ?_
    refine zw_iconst (nx := 7) C dX7_readsHill_6 rfl ?_
    refine zw_puti (nx := 10) C dX7_readsHill_7 rfl flX7_150 ic6 nf6_19 rfl rfl rfl rfl rfl ?_
    refine zw_aload_n (i := 0) (nx := 11) C dX7_readsHill_10 rfl rfl rfl ?_
    refine zw_sipush (v := 240) (nx := 14) C dX7_readsHill_11 (by decide) rfl ?_
    refine zw_puti (nx := 17) C dX7_readsHill_14 rfl flX7_143 ic6 nf6_18 rfl rfl rfl rfl rfl ?_
    refine zw_iconst (nx := 18) C dX7_readsHill_17 rfl ?_
    refine zw_ist1 (nx := 19) C (eIst_n dX7_readsHill_18 rfl rfl) (Nat.le_of_ble_eq_true rfl) rfl ?_
    exact loop 8 0 (by omega)
  unfold pAll
  cases hi : pIt T t (pB1 T t (sk T t 0) d0) with
  | inl p =>
    rw [hi] at it
    obtain ⟨ζ', r, h⟩ := it
    refine ⟨ζ', pre _ _ ?_, h⟩
    intro X A C hX hA hr hk
    replace C : CX X B A mX7_readsHill.2.2.2.2 RX7 cX7_readsHill 2 0 0 := C
    have hr : (xMeth X).sig.returnType = (some .int) := hr
    change ZW X B A 2 0 0 _ _ _ _ _
    subst hX
    refine zw_aload_n (i := 0) (nx := 39) C dX7_readsHill_38 rfl rfl rfl ?_
    refine zw_cV01 (nx := 42) C dX7_readsHill_39 rfl cvX7_171 rfl rfl ⟨Nat.le_of_ble_eq_true rfl, Nat.le_of_ble_eq_true rfl⟩ rfl rfl (Nat.le_of_ble_eq_true rfl) r ?_
    refine zw_if_ne (tgt := 47) (nx := 45) C dX7_readsHill_42 rfl rfl (by omega) (fun h42 => by exfalso; omega) (fun h42 => ?_)
    refine zw_iconst (nx := 46) C dX7_readsHill_45 rfl ?_
    exact zw_iret C hA hr hk dX7_readsHill_46 rfl rfl
  | inr q =>
    rw [hi] at it
    obtain ⟨ζ1, r, h1⟩ := it
    obtain ⟨a1, a2, a3⟩ := pIt_ok h0.2 d0_ok (Or.inr hi)
    obtain ⟨r2, h2⟩ := m_skip (l := l) (B := B) hx h1 a3
    have hsk := sk_bd T a3
    have nx := m_loop (l := l) (B := B) hx (t + 1) 1 (sk T t q.2) q.1 _ (by omega) hsk.2 (by omega) a1 h2
    have go : ∀ (r0 : Int) (η : zSt), zAt l B mX7_readsHill (some (zi r0)) η (zU ζ1 52 16 (sk T t q.2)) 53 [some (.ref 52), some (zi ((1 : Nat) : Int))] [] → zRun l B mX7_readsHill [.ref 52] ζ0 (some (zi r0)) η := by
      intro r0 η K
      refine pre _ _ ?_
      intro X A C hX hA hr hk
      replace C : CX X B A mX7_readsHill.2.2.2.2 RX7 cX7_readsHill 2 0 0 := C
      have hr : (xMeth X).sig.returnType = (some .int) := hr
      change ZW X B A 2 0 0 _ _ _ _ _
      subst hX
      refine zw_aload_n (i := 0) (nx := 39) C dX7_readsHill_38 rfl rfl rfl ?_
      refine zw_cV01 (nx := 42) C dX7_readsHill_39 rfl cvX7_171 rfl rfl ⟨Nat.le_of_ble_eq_true rfl, Nat.le_of_ble_eq_true rfl⟩ rfl rfl (Nat.le_of_ble_eq_true rfl) r ?_
      refine zw_if_ne (tgt := 47) (nx := 45) C dX7_readsHill_42 rfl rfl (by omega) (fun h42 => ?_) (fun h42 => by exfalso; omega)
      refine zw_iconst (nx := 48) C dX7_readsHill_47 rfl ?_
      refine zw_ist1 (nx := 49) C (eIst_n dX7_readsHill_48 rfl rfl) (Nat.le_of_ble_eq_true rfl) rfl ?_
      refine zw_aload_n (i := 0) (nx := 50) C dX7_readsHill_49 rfl rfl rfl ?_
      refine zw_cV00 (nx := 53) C dX7_readsHill_50 rfl cvX7_130 rfl rfl ⟨Nat.le_of_ble_eq_true rfl, Nat.le_of_ble_eq_true rfl⟩ rfl rfl (Nat.le_of_ble_eq_true rfl) r2 ?_
      exact K X A C rfl hA hr hk
    show match pLoop T t (t + 1) 1 (sk T t q.2) q.1 with
      | .inl p => ∃ ζ', zRun l B mX7_readsHill [.ref 52] ζ0 (some (zi (-1))) ζ' ∧ MF ζ0 ζ' p
      | .inr q => ∃ (ζ' : zSt) (j : Nat), zRun l B mX7_readsHill [.ref 52] ζ0 (some (zi q.1)) ζ' ∧ MC ζ0 ζ' j q.2
    cases hh : pLoop T t (t + 1) 1 (sk T t q.2) q.1 with
    | inl p =>
      rw [hh] at nx
      obtain ⟨η, x1, x2⟩ := nx
      exact ⟨η, go _ _ x1, x2⟩
    | inr w =>
      rw [hh] at nx
      obtain ⟨η, j, x1, x2⟩ := nx
      exact ⟨η, j, go _ _ x1, x2⟩
end ModH
