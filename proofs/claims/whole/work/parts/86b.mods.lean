/-! reading a text: the reference's seats, items -/
section ModS
variable {l : Launch} {B : eB} {ζ0 ζ : zSt} {t : Nat} {T : Nat → Int}
theorem m_skip (hx : TXm ζ0 t T) {i : Nat} {d : pD} (hp : MC ζ0 ζ i d) (hit : i ≤ t) : zRun l B mX7_skip [.ref 52] ζ none (zU ζ 52 16 (sk T t i)) ∧ MC ζ0 (zU ζ 52 16 (sk T t i)) (sk T t i) d :=
  ⟨run_X7_skip (hp.1.txm hx) hp.2.1 hit, hp.1.p52 (by decide) _, rfl, hp.2.2⟩
theorem m_seat (hx : TXm ζ0 t T) {i : Nat} {d : pD} (hp : MC ζ0 ζ i d) (hit : i ≤ t) (hd : dK d) : MB l B mX7_readsSeat ζ0 ζ (pSe T t i d) := by
  have hn5 := hd.1
  have hsb := hd.2.2.2.2.1
  clear hd
  obtain ⟨tr, dk, H, n, K, U, S⟩ := d
  replace hn5 : n ≤ 5 := hn5
  obtain ⟨sk1, hp1⟩ := m_skip (l := l) (B := B) hx hp hit
  have hs := sk_bd T hit
  have b19 : (zU ζ 52 16 (sk T t i)).1 52 19 = (n : Int) := hp.2.2.1.2.2
  unfold pSe
  obtain ⟨n1, n2⟩ := m_num (l := l) (B := B) hx hp1 hs.2 (m := (n : Int) - 1) (by omega)
  rw [pNum_sk hit] at n1 n2
  show MB l B mX7_readsSeat ζ0 ζ (bnd (pNum T t i ((n : Int) - 1)) _)
  cases hq : pNum T t i ((n : Int) - 1) with
  | inl p =>
    obtain ⟨ζ', r, h⟩ := n1 p hq
    refine ⟨ζ', ?_, h.toF⟩
    refine zrun_intro (M := mX7_readsSeat) (ls := [some (.ref 52), none, none, none]) (by decide) rfl rfl rfl (Nat.le_of_ble_eq_true rfl) ?_
    intro X A C hX hA hr hk
    replace C : CX X B A mX7_readsSeat.2.2.2.2 RX7 cX7_readsSeat 4 0 0 := C
    have hr : (xMeth X).sig.returnType = (some .boolean) := hr
    change ZW X B A 4 0 0 _ _ 0 [some (.ref 52), none, none, none] []
    subst hX
    refine zw_aload_n (i := 0) (nx := 1) C dX7_readsSeat_0 rfl rfl rfl ?_
    refine zw_cV00 (nx := 4) C dX7_readsSeat_1 rfl cvX7_130 rfl rfl ⟨Nat.le_of_ble_eq_true rfl, Nat.le_of_ble_eq_true rfl⟩ rfl rfl (Nat.le_of_ble_eq_true rfl) sk1 ?_
    refine zw_aload_n (i := 0) (nx := 5) C dX7_readsSeat_4 rfl rfl rfl ?_
    refine zw_geti (nx := 8) C dX7_readsSeat_5 rfl flX7_110 iq6 rfl rfl rfl rfl ?_
    refine zw_ist1 (nx := 9) C (eIst_n dX7_readsSeat_8 rfl rfl) (Nat.le_of_ble_eq_true rfl) rfl ?_
    refine zw_aload_n (i := 0) (nx := 10) C dX7_readsSeat_9 rfl rfl rfl ?_
    refine zw_iconst (nx := 11) C dX7_readsSeat_10 rfl ?_
    refine zw_aload_n (i := 0) (nx := 12) C dX7_readsSeat_11 rfl rfl rfl ?_
    refine zw_geti (nx := 15) C dX7_readsSeat_12 rfl flX7_150 iq6 rfl rfl rfl rfl ?_
    rw [b19]
    refine zw_iconst (nx := 16) C dX7_readsSeat_15 rfl ?_
    refine zw_isub (nx := 17) C dX7_readsSeat_16 rfl ?_
    refine zw_cV21 (nx := 20) C dX7_readsSeat_17 rfl cvX7_139 rfl rfl ⟨Nat.le_of_ble_eq_true rfl, Nat.le_of_ble_eq_true rfl⟩ rfl rfl (Nat.le_of_ble_eq_true rfl) r ?_
    refine zw_if_ne (tgt := 25) (nx := 23) C dX7_readsSeat_20 rfl rfl (by omega) (fun h20 => by exfalso; omega) (fun h20 => ?_)
    refine zw_iconst (nx := 24) C dX7_readsSeat_23 rfl ?_
    exact zw_zret C hA hr hk dX7_readsSeat_24 rfl rfl rfl
  | inr q =>
    obtain ⟨ζ1, r, h, hv, -⟩ := n2 q hq
    have hqo := pNum_ok hit hq
    obtain ⟨pN, hpN⟩ := Int.eq_ofNat_of_zero_le hqo.1.1.1
    have hpn : pN < n := by omega
    have etn : q.1.toNat = pN := by omega
    have s64 : ζ1.1 64 (3 * pN + 2) = S pN := (h.2.2.2.2 pN hpn).2.2
    have sb : -1 ≤ S pN ∧ S pN ≤ 7 := (hsb pN hpn).2.2
    show MB l B mX7_readsSeat ζ0 ζ (if S q.1.toNat ≠ -1 then .inl (sk T t i) else bnd (pNum T t q.2 7) _)
    rw [etn]
    rw [hpN] at hv
    by_cases g : S pN = -1
    · rw [if_neg (fun z => z g)]
      obtain ⟨sk2, hp2⟩ := m_skip (l := l) (B := B) hx h hqo.2.2
      have hs2 := sk_bd T hqo.2.2
      obtain ⟨m1, m2⟩ := m_num (l := l) (B := B) hx hp2 hs2.2 (m := 7) (by omega)
      rw [pNum_sk hqo.2.2] at m1 m2
      cases hw : pNum T t q.2 7 with
      | inl p =>
        obtain ⟨ζ', r2, h2⟩ := m1 p hw
        refine ⟨ζ', ?_, h2.toF⟩
        refine zrun_intro (M := mX7_readsSeat) (ls := [some (.ref 52), none, none, none]) (by decide) rfl rfl rfl (Nat.le_of_ble_eq_true rfl) ?_
        intro X A C hX hA hr hk
        replace C : CX X B A mX7_readsSeat.2.2.2.2 RX7 cX7_readsSeat 4 0 0 := C
        have hr : (xMeth X).sig.returnType = (some .boolean) := hr
        change ZW X B A 4 0 0 _ _ 0 [some (.ref 52), none, none, none] []
        subst hX
        refine zw_aload_n (i := 0) (nx := 1) C dX7_readsSeat_0 rfl rfl rfl ?_
        refine zw_cV00 (nx := 4) C dX7_readsSeat_1 rfl cvX7_130 rfl rfl ⟨Nat.le_of_ble_eq_true rfl, Nat.le_of_ble_eq_true rfl⟩ rfl rfl (Nat.le_of_ble_eq_true rfl) sk1 ?_
        refine zw_aload_n (i := 0) (nx := 5) C dX7_readsSeat_4 rfl rfl rfl ?_
        refine zw_geti (nx := 8) C dX7_readsSeat_5 rfl flX7_110 iq6 rfl rfl rfl rfl ?_
        refine zw_ist1 (nx := 9) C (eIst_n dX7_readsSeat_8 rfl rfl) (Nat.le_of_ble_eq_true rfl) rfl ?_
        refine zw_aload_n (i := 0) (nx := 10) C dX7_readsSeat_9 rfl rfl rfl ?_
        refine zw_iconst (nx := 11) C dX7_readsSeat_10 rfl ?_
        refine zw_aload_n (i := 0) (nx := 12) C dX7_readsSeat_11 rfl rfl rfl ?_
        refine zw_geti (nx := 15) C dX7_readsSeat_12 rfl flX7_150 iq6 rfl rfl rfl rfl ?_
        rw [b19]
        refine zw_iconst (nx := 16) C dX7_readsSeat_15 rfl ?_
        refine zw_isub (nx := 17) C dX7_readsSeat_16 rfl ?_
        refine zw_cV21 (nx := 20) C dX7_readsSeat_17 rfl cvX7_139 rfl rfl ⟨Nat.le_of_ble_eq_true rfl, Nat.le_of_ble_eq_true rfl⟩ rfl rfl (Nat.le_of_ble_eq_true rfl) r ?_
        refine zw_if_ne (tgt := 25) (nx := 23) C dX7_readsSeat_20 rfl rfl (by omega) (fun h20 => ?_) (fun h20 => by exfalso; omega)
        refine zw_aload_n (i := 0) (nx := 26) C dX7_readsSeat_25 rfl rfl rfl ?_
        refine zw_geti (nx := 29) C dX7_readsSeat_26 rfl flX7_136 iq6 rfl rfl rfl rfl ?_
        rw [hv]
        refine zw_ist2 (nx := 30) C (eIst_n dX7_readsSeat_29 rfl rfl) (Nat.le_of_ble_eq_true rfl) rfl ?_
        refine zw_aload_n (i := 0) (nx := 31) C dX7_readsSeat_30 rfl rfl rfl ?_
        refine zw_getr (nx := 34) C dX7_readsSeat_31 rfl flX7_50 iq6 rfl rfl rfl rfl ?_
        refine zw_iconst (nx := 35) C dX7_readsSeat_34 rfl ?_
        refine zw_iload_n (i := 2) (nx := 36) C dX7_readsSeat_35 rfl rfl rfl ?_
        refine zw_imul (nx := 37) C dX7_readsSeat_36 rfl ?_
        refine zw_iconst (nx := 38) C dX7_readsSeat_37 rfl ?_
        refine zw_iadd (nx := 39) C dX7_readsSeat_38 rfl ?_
        refine zw_iald ((3 * pN + 2)) (nx := 40) C dX7_readsSeat_39 rfl rfl rfl rfl (by omega) ?_
        rw [s64]
        refine zw_iconst (nx := 41) C dX7_readsSeat_40 rfl ?_
        refine zw_icmp_eq (tgt := 51) (nx := 44) C dX7_readsSeat_41 rfl rfl (by omega) (fun h41 => ?_) (fun h41 => by exfalso; omega)
        refine zw_aload_n (i := 0) (nx := 52) C dX7_readsSeat_51 rfl rfl rfl ?_
        refine zw_cV00 (nx := 55) C dX7_readsSeat_52 rfl cvX7_130 rfl rfl ⟨Nat.le_of_ble_eq_true rfl, Nat.le_of_ble_eq_true rfl⟩ rfl rfl (Nat.le_of_ble_eq_true rfl) sk2 ?_
        refine zw_aload_n (i := 0) (nx := 56) C dX7_readsSeat_55 rfl rfl rfl ?_
        refine zw_geti (nx := 59) C dX7_readsSeat_56 rfl flX7_110 iq6 rfl rfl rfl rfl ?_
        refine zw_ist1 (nx := 60) C (eIst_n dX7_readsSeat_59 rfl rfl) (Nat.le_of_ble_eq_true rfl) rfl ?_
        refine zw_aload_n (i := 0) (nx := 61) C dX7_readsSeat_60 rfl rfl rfl ?_
        refine zw_iconst (nx := 62) C dX7_readsSeat_61 rfl ?_
        refine zw_bipush (v := 7) (nx := 64) C dX7_readsSeat_62 (by decide) rfl ?_
        refine zw_cV21 (nx := 67) C dX7_readsSeat_64 rfl cvX7_139 rfl rfl ⟨Nat.le_of_ble_eq_true rfl, Nat.le_of_ble_eq_true rfl⟩ rfl rfl (Nat.le_of_ble_eq_true rfl) r2 ?_
        refine zw_if_ne (tgt := 72) (nx := 70) C dX7_readsSeat_67 rfl rfl (by omega) (fun h67 => by exfalso; omega) (fun h67 => ?_)
        refine zw_iconst (nx := 71) C dX7_readsSeat_70 rfl ?_
        exact zw_zret C hA hr hk dX7_readsSeat_71 rfl rfl rfl
      | inr w =>
        obtain ⟨ζ2, r2, h2, hv2, -⟩ := m2 w hw
        have hwo := pNum_ok hqo.2.2 hw
        have c19 : ζ2.1 52 19 = (n : Int) := h2.2.2.1.2.2
        have c64 : ∀ p, p < n → ζ2.1 64 (3 * p + 2) = S p := fun p hp => (h2.2.2.2.2 p hp).2.2
        show MB l B mX7_readsSeat ζ0 ζ (if sH S w.1 n ≠ -1 then .inl (sk T t q.2) else .inr _)
        have f16 : (zU ζ1 52 16 (sk T t q.2)).1 52 16 = ((sk T t q.2 : Nat) : Int) := rfl
        have pre : ∀ (r0 : Option Value) (η : zSt), zAt l B mX7_readsSeat r0 η ζ2 74 [some (.ref 52), some (zi ((sk T t q.2 : Nat) : Int)), some (zi pN), some (zi ((0 : Nat) : Int))] [] → zRun l B mX7_readsSeat [.ref 52] ζ r0 η := by
          intro r0 η K9
          refine zrun_intro (M := mX7_readsSeat) (ls := [some (.ref 52), none, none, none]) (by decide) rfl rfl rfl (Nat.le_of_ble_eq_true rfl) ?_
          intro X A C hX hA hr hk
          replace C : CX X B A mX7_readsSeat.2.2.2.2 RX7 cX7_readsSeat 4 0 0 := C
          have hr : (xMeth X).sig.returnType = (some .boolean) := hr
          change ZW X B A 4 0 0 _ _ 0 [some (.ref 52), none, none, none] []
          subst hX
          refine zw_aload_n (i := 0) (nx := 1) C dX7_readsSeat_0 rfl rfl rfl ?_
          refine zw_cV00 (nx := 4) C dX7_readsSeat_1 rfl cvX7_130 rfl rfl ⟨Nat.le_of_ble_eq_true rfl, Nat.le_of_ble_eq_true rfl⟩ rfl rfl (Nat.le_of_ble_eq_true rfl) sk1 ?_
          refine zw_aload_n (i := 0) (nx := 5) C dX7_readsSeat_4 rfl rfl rfl ?_
          refine zw_geti (nx := 8) C dX7_readsSeat_5 rfl flX7_110 iq6 rfl rfl rfl rfl ?_
          refine zw_ist1 (nx := 9) C (eIst_n dX7_readsSeat_8 rfl rfl) (Nat.le_of_ble_eq_true rfl) rfl ?_
          refine zw_aload_n (i := 0) (nx := 10) C dX7_readsSeat_9 rfl rfl rfl ?_
          refine zw_iconst (nx := 11) C dX7_readsSeat_10 rfl ?_
          refine zw_aload_n (i := 0) (nx := 12) C dX7_readsSeat_11 rfl rfl rfl ?_
          refine zw_geti (nx := 15) C dX7_readsSeat_12 rfl flX7_150 iq6 rfl rfl rfl rfl ?_
          rw [b19]
          refine zw_iconst (nx := 16) C dX7_readsSeat_15 rfl ?_
          refine zw_isub (nx := 17) C dX7_readsSeat_16 rfl ?_
          refine zw_cV21 (nx := 20) C dX7_readsSeat_17 rfl cvX7_139 rfl rfl ⟨Nat.le_of_ble_eq_true rfl, Nat.le_of_ble_eq_true rfl⟩ rfl rfl (Nat.le_of_ble_eq_true rfl) r ?_
          refine zw_if_ne (tgt := 25) (nx := 23) C dX7_readsSeat_20 rfl rfl (by omega) (fun h20 => ?_) (fun h20 => by exfalso; omega)
          refine zw_aload_n (i := 0) (nx := 26) C dX7_readsSeat_25 rfl rfl rfl ?_
          refine zw_geti (nx := 29) C dX7_readsSeat_26 rfl flX7_136 iq6 rfl rfl rfl rfl ?_
          rw [hv]
          refine zw_ist2 (nx := 30) C (eIst_n dX7_readsSeat_29 rfl rfl) (Nat.le_of_ble_eq_true rfl) rfl ?_
          refine zw_aload_n (i := 0) (nx := 31) C dX7_readsSeat_30 rfl rfl rfl ?_
          refine zw_getr (nx := 34) C dX7_readsSeat_31 rfl flX7_50 iq6 rfl rfl rfl rfl ?_
          refine zw_iconst (nx := 35) C dX7_readsSeat_34 rfl ?_
          refine zw_iload_n (i := 2) (nx := 36) C dX7_readsSeat_35 rfl rfl rfl ?_
          refine zw_imul (nx := 37) C dX7_readsSeat_36 rfl ?_
          refine zw_iconst (nx := 38) C dX7_readsSeat_37 rfl ?_
          refine zw_iadd (nx := 39) C dX7_readsSeat_38 rfl ?_
          refine zw_iald ((3 * pN + 2)) (nx := 40) C dX7_readsSeat_39 rfl rfl rfl rfl (by omega) ?_
          rw [s64]
          refine zw_iconst (nx := 41) C dX7_readsSeat_40 rfl ?_
          refine zw_icmp_eq (tgt := 51) (nx := 44) C dX7_readsSeat_41 rfl rfl (by omega) (fun h41 => ?_) (fun h41 => by exfalso; omega)
          refine zw_aload_n (i := 0) (nx := 52) C dX7_readsSeat_51 rfl rfl rfl ?_
          refine zw_cV00 (nx := 55) C dX7_readsSeat_52 rfl cvX7_130 rfl rfl ⟨Nat.le_of_ble_eq_true rfl, Nat.le_of_ble_eq_true rfl⟩ rfl rfl (Nat.le_of_ble_eq_true rfl) sk2 ?_
          refine zw_aload_n (i := 0) (nx := 56) C dX7_readsSeat_55 rfl rfl rfl ?_
          refine zw_geti (nx := 59) C dX7_readsSeat_56 rfl flX7_110 iq6 rfl rfl rfl rfl ?_
          rw [f16]
          refine zw_ist1 (nx := 60) C (eIst_n dX7_readsSeat_59 rfl rfl) (Nat.le_of_ble_eq_true rfl) rfl ?_
          refine zw_aload_n (i := 0) (nx := 61) C dX7_readsSeat_60 rfl rfl rfl ?_
          refine zw_iconst (nx := 62) C dX7_readsSeat_61 rfl ?_
          refine zw_bipush (v := 7) (nx := 64) C dX7_readsSeat_62 (by decide) rfl ?_
          refine zw_cV21 (nx := 67) C dX7_readsSeat_64 rfl cvX7_139 rfl rfl ⟨Nat.le_of_ble_eq_true rfl, Nat.le_of_ble_eq_true rfl⟩ rfl rfl (Nat.le_of_ble_eq_true rfl) r2 ?_
          refine zw_if_ne (tgt := 72) (nx := 70) C dX7_readsSeat_67 rfl rfl (by omega) (fun h67 => ?_) (fun h67 => by exfalso; omega)
          refine zw_iconst (nx := 73) C dX7_readsSeat_72 rfl ?_
          refine zw_ist3 (nx := 74) C (eIst_n dX7_readsSeat_73 rfl rfl) (Nat.le_of_ble_eq_true rfl) rfl ?_
          exact K9 X A C rfl hA hr hk
        by_cases g2 : sH S w.1 n = -1
        · rw [if_neg (fun z => z g2)]
          have fr := sH_no g2
          have key : MC ζ0 (zU ζ2 64 (3 * pN + 2) w.1) w.2 (tr, dk, H, n, K, U, zu S pN w.1) := by
            obtain ⟨x1, x2, x3⟩ := h2.2.2
            refine ⟨h2.1.p64 _ _, h2.2.1, x1, x2, fun p hp => ?_⟩
            have hp : p < n := hp
            obtain ⟨y1, y2, y3⟩ := x3 p hp
            refine ⟨?_, ?_, ?_⟩
            · rw [zU_at, if_neg (by omega)]; exact y1
            · rw [zU_at, if_neg (by omega)]; exact y2
            · show (zU ζ2 64 (3 * pN + 2) w.1).1 64 (3 * p + 2) = zu S pN w.1 p
              rw [zU_at, zu_at]
              by_cases e : p = pN
              · rw [if_pos (by omega), if_pos e]
              · rw [if_neg (by omega), if_neg e]; exact y3
          refine ⟨_, key, fun b ζ3 re => ?_⟩
          refine pre _ _ ?_
          intro X A C hX hA hr hk
          replace C : CX X B A mX7_readsSeat.2.2.2.2 RX7 cX7_readsSeat 4 0 0 := C
          have hr : (xMeth X).sig.returnType = (some .boolean) := hr
          change ZW X B A 4 0 0 _ _ _ _ _
          subst hX
          have loop : ∀ k p : Nat, p + k = n → ZW X B A 4 0 0 (eFin X B (some (zi (b2i b))) (zz ζ3)) ζ2 74 [some (.ref 52), some (zi ((sk T t q.2 : Nat) : Int)), some (zi pN), some (zi p)] [] := by
            intro k
            induction k with
            | zero =>
              intro p hpk
              refine zw_iload_n (i := 3) (nx := 75) C dX7_readsSeat_74 rfl rfl rfl ?_
              refine zw_aload_n (i := 0) (nx := 76) C dX7_readsSeat_75 rfl rfl rfl ?_
              refine zw_geti (nx := 79) C dX7_readsSeat_76 rfl flX7_150 iq6 rfl rfl rfl rfl ?_
              refine zw_icmp_ge (tgt := 112) (nx := 82) C dX7_readsSeat_79 rfl rfl (by omega) (fun h79 => ?_) (fun h79 => by exfalso; omega)
              refine zw_aload_n (i := 0) (nx := 113) C dX7_readsSeat_112 rfl rfl rfl ?_
              refine zw_getr (nx := 116) C dX7_readsSeat_113 rfl flX7_50 iq6 rfl rfl rfl rfl ?_
              refine zw_iconst (nx := 117) C dX7_readsSeat_116 rfl ?_
              refine zw_iload_n (i := 2) (nx := 118) C dX7_readsSeat_117 rfl rfl rfl ?_
              refine zw_imul (nx := 119) C dX7_readsSeat_118 rfl ?_
              refine zw_iconst (nx := 120) C dX7_readsSeat_119 rfl ?_
              refine zw_iadd (nx := 121) C dX7_readsSeat_120 rfl ?_
              refine zw_aload_n (i := 0) (nx := 122) C dX7_readsSeat_121 rfl rfl rfl ?_
              refine zw_geti (nx := 125) C dX7_readsSeat_122 rfl flX7_136 iq6 rfl rfl rfl rfl ?_
              rw [hv2]
              refine zw_iast ((3 * pN + 2)) (nx := 126) C dX7_readsSeat_125 rfl rfl rfl rfl (by omega) ?_
              refine zw_aload_n (i := 0) (nx := 127) C dX7_readsSeat_126 rfl rfl rfl ?_
              refine zw_cV01 (nx := 130) C dX7_readsSeat_127 rfl cvX7_146 rfl rfl ⟨Nat.le_of_ble_eq_true rfl, Nat.le_of_ble_eq_true rfl⟩ rfl rfl (Nat.le_of_ble_eq_true rfl) re ?_
              exact zw_bret C hA hr hk dX7_readsSeat_130 rfl rfl rfl
            | succ k ih =>
              intro p hpk
              have cp := c64 p (by omega)
              have cb : -1 ≤ S p ∧ S p ≤ 7 := (hsb p (by show p < n; omega)).2.2
              have cf := fr p (by omega)
              refine zw_iload_n (i := 3) (nx := 75) C dX7_readsSeat_74 rfl rfl rfl ?_
              refine zw_aload_n (i := 0) (nx := 76) C dX7_readsSeat_75 rfl rfl rfl ?_
              refine zw_geti (nx := 79) C dX7_readsSeat_76 rfl flX7_150 iq6 rfl rfl rfl rfl ?_
              refine zw_icmp_ge (tgt := 112) (nx := 82) C dX7_readsSeat_79 rfl rfl (by omega) (fun h79 => by exfalso; omega) (fun h79 => ?_)
              refine zw_aload_n (i := 0) (nx := 83) C dX7_readsSeat_82 rfl rfl rfl ?_
              refine zw_getr (nx := 86) C dX7_readsSeat_83 rfl flX7_50 iq6 rfl rfl rfl rfl ?_
              refine zw_iconst (nx := 87) C dX7_readsSeat_86 rfl ?_
              refine zw_iload_n (i := 3) (nx := 88) C dX7_readsSeat_87 rfl rfl rfl ?_
              refine zw_imul (nx := 89) C dX7_readsSeat_88 rfl ?_
              refine zw_iconst (nx := 90) C dX7_readsSeat_89 rfl ?_
              refine zw_iadd (nx := 91) C dX7_readsSeat_90 rfl ?_
              refine zw_iald ((3 * p + 2)) (nx := 92) C dX7_readsSeat_91 rfl rfl rfl rfl (by omega) ?_
              rw [cp]
              refine zw_aload_n (i := 0) (nx := 93) C dX7_readsSeat_92 rfl rfl rfl ?_
              refine zw_geti (nx := 96) C dX7_readsSeat_93 rfl flX7_136 iq6 rfl rfl rfl rfl ?_
              rw [hv2]
              refine zw_icmp_ne (tgt := 106) (nx := 99) C dX7_readsSeat_96 rfl rfl (by omega) (fun h96 => ?_) (fun h96 => by exfalso; omega)
              refine zw_iinc3 (nx := 109) C dX7_readsSeat_106 rfl (Nat.le_of_ble_eq_true rfl) rfl ?_
              refine zw_goto (nx := 74) C dX7_readsSeat_109 rfl ?_
              exact ih (p + 1) (by omega)
          exact loop n 0 (by omega)
        · rw [if_pos g2]
          refine ⟨zU ζ2 52 16 (sk T t q.2), pre _ _ ?_, h2.1.p52 (by decide) _, rfl⟩
          intro X A C hX hA hr hk
          replace C : CX X B A mX7_readsSeat.2.2.2.2 RX7 cX7_readsSeat 4 0 0 := C
          have hr : (xMeth X).sig.returnType = (some .boolean) := hr
          change ZW X B A 4 0 0 _ _ _ _ _
          subst hX
          have loop : ∀ k p : Nat, p + k = n → sHol (fun _ b => S b) w.1 p k ≠ -1 → ZW X B A 4 0 0 (eFin X B (some (zi 0)) (zz (zU ζ2 52 16 (sk T t q.2)))) ζ2 74 [some (.ref 52), some (zi ((sk T t q.2 : Nat) : Int)), some (zi pN), some (zi p)] [] := by
            intro k
            induction k with
            | zero => intro p hpk hne; exact absurd rfl hne
            | succ k ih =>
              intro p hpk hne
              have cp := c64 p (by omega)
              have cb : -1 ≤ S p ∧ S p ≤ 7 := (hsb p (by show p < n; omega)).2.2
              refine zw_iload_n (i := 3) (nx := 75) C dX7_readsSeat_74 rfl rfl rfl ?_
              refine zw_aload_n (i := 0) (nx := 76) C dX7_readsSeat_75 rfl rfl rfl ?_
              refine zw_geti (nx := 79) C dX7_readsSeat_76 rfl flX7_150 iq6 rfl rfl rfl rfl ?_
              refine zw_icmp_ge (tgt := 112) (nx := 82) C dX7_readsSeat_79 rfl rfl (by omega) (fun h79 => by exfalso; omega) (fun h79 => ?_)
              refine zw_aload_n (i := 0) (nx := 83) C dX7_readsSeat_82 rfl rfl rfl ?_
              refine zw_getr (nx := 86) C dX7_readsSeat_83 rfl flX7_50 iq6 rfl rfl rfl rfl ?_
              refine zw_iconst (nx := 87) C dX7_readsSeat_86 rfl ?_
              refine zw_iload_n (i := 3) (nx := 88) C dX7_readsSeat_87 rfl rfl rfl ?_
              refine zw_imul (nx := 89) C dX7_readsSeat_88 rfl ?_
              refine zw_iconst (nx := 90) C dX7_readsSeat_89 rfl ?_
              refine zw_iadd (nx := 91) C dX7_readsSeat_90 rfl ?_
              refine zw_iald ((3 * p + 2)) (nx := 92) C dX7_readsSeat_91 rfl rfl rfl rfl (by omega) ?_
              rw [cp]
              refine zw_aload_n (i := 0) (nx := 93) C dX7_readsSeat_92 rfl rfl rfl ?_
              refine zw_geti (nx := 96) C dX7_readsSeat_93 rfl flX7_136 iq6 rfl rfl rfl rfl ?_
              rw [hv2]
              by_cases e : S p = w.1
              · refine zw_icmp_ne (tgt := 106) (nx := 99) C dX7_readsSeat_96 rfl rfl (by omega) (fun h96 => by exfalso; omega) (fun h96 => ?_)
                refine zw_aload_n (i := 0) (nx := 100) C dX7_readsSeat_99 rfl rfl rfl ?_
                refine zw_iload_n (i := 1) (nx := 101) C dX7_readsSeat_100 rfl rfl rfl ?_
                refine zw_puti (nx := 104) C dX7_readsSeat_101 rfl flX7_110 ic6 nf6_16 rfl rfl rfl rfl rfl ?_
                refine zw_iconst (nx := 105) C dX7_readsSeat_104 rfl ?_
                exact zw_zret C hA hr hk dX7_readsSeat_105 rfl rfl rfl
              · refine zw_icmp_ne (tgt := 106) (nx := 99) C dX7_readsSeat_96 rfl rfl (by omega) (fun h96 => ?_) (fun h96 => by exfalso; omega)
                refine zw_iinc3 (nx := 109) C dX7_readsSeat_106 rfl (Nat.le_of_ble_eq_true rfl) rfl ?_
                refine zw_goto (nx := 74) C dX7_readsSeat_109 rfl ?_
                exact ih (p + 1) (by omega) (fun z => hne ((if_neg e).trans z))
          exact loop n 0 (by omega) g2
    · rw [if_pos g]
      refine ⟨zU ζ1 52 16 (sk T t i), ?_, h.1.p52 (by decide) _, rfl⟩
      have f16 : (zU ζ 52 16 (sk T t i)).1 52 16 = ((sk T t i : Nat) : Int) := rfl
      refine zrun_intro (M := mX7_readsSeat) (ls := [some (.ref 52), none, none, none]) (by decide) rfl rfl rfl (Nat.le_of_ble_eq_true rfl) ?_
      intro X A C hX hA hr hk
      replace C : CX X B A mX7_readsSeat.2.2.2.2 RX7 cX7_readsSeat 4 0 0 := C
      have hr : (xMeth X).sig.returnType = (some .boolean) := hr
      change ZW X B A 4 0 0 _ _ 0 [some (.ref 52), none, none, none] []
      subst hX
      refine zw_aload_n (i := 0) (nx := 1) C dX7_readsSeat_0 rfl rfl rfl ?_
      refine zw_cV00 (nx := 4) C dX7_readsSeat_1 rfl cvX7_130 rfl rfl ⟨Nat.le_of_ble_eq_true rfl, Nat.le_of_ble_eq_true rfl⟩ rfl rfl (Nat.le_of_ble_eq_true rfl) sk1 ?_
      refine zw_aload_n (i := 0) (nx := 5) C dX7_readsSeat_4 rfl rfl rfl ?_
      refine zw_geti (nx := 8) C dX7_readsSeat_5 rfl flX7_110 iq6 rfl rfl rfl rfl ?_
      rw [f16]
      refine zw_ist1 (nx := 9) C (eIst_n dX7_readsSeat_8 rfl rfl) (Nat.le_of_ble_eq_true rfl) rfl ?_
      refine zw_aload_n (i := 0) (nx := 10) C dX7_readsSeat_9 rfl rfl rfl ?_
      refine zw_iconst (nx := 11) C dX7_readsSeat_10 rfl ?_
      refine zw_aload_n (i := 0) (nx := 12) C dX7_readsSeat_11 rfl rfl rfl ?_
      refine zw_geti (nx := 15) C dX7_readsSeat_12 rfl flX7_150 iq6 rfl rfl rfl rfl ?_
      rw [b19]
      refine zw_iconst (nx := 16) C dX7_readsSeat_15 rfl ?_
      refine zw_isub (nx := 17) C dX7_readsSeat_16 rfl ?_
      refine zw_cV21 (nx := 20) C dX7_readsSeat_17 rfl cvX7_139 rfl rfl ⟨Nat.le_of_ble_eq_true rfl, Nat.le_of_ble_eq_true rfl⟩ rfl rfl (Nat.le_of_ble_eq_true rfl) r ?_
      refine zw_if_ne (tgt := 25) (nx := 23) C dX7_readsSeat_20 rfl rfl (by omega) (fun h20 => ?_) (fun h20 => by exfalso; omega)
      refine zw_aload_n (i := 0) (nx := 26) C dX7_readsSeat_25 rfl rfl rfl ?_
      refine zw_geti (nx := 29) C dX7_readsSeat_26 rfl flX7_136 iq6 rfl rfl rfl rfl ?_
      rw [hv]
      refine zw_ist2 (nx := 30) C (eIst_n dX7_readsSeat_29 rfl rfl) (Nat.le_of_ble_eq_true rfl) rfl ?_
      refine zw_aload_n (i := 0) (nx := 31) C dX7_readsSeat_30 rfl rfl rfl ?_
      refine zw_getr (nx := 34) C dX7_readsSeat_31 rfl flX7_50 iq6 rfl rfl rfl rfl ?_
      refine zw_iconst (nx := 35) C dX7_readsSeat_34 rfl ?_
      refine zw_iload_n (i := 2) (nx := 36) C dX7_readsSeat_35 rfl rfl rfl ?_
      refine zw_imul (nx := 37) C dX7_readsSeat_36 rfl ?_
      refine zw_iconst (nx := 38) C dX7_readsSeat_37 rfl ?_
      refine zw_iadd (nx := 39) C dX7_readsSeat_38 rfl ?_
      refine zw_iald ((3 * pN + 2)) (nx := 40) C dX7_readsSeat_39 rfl rfl rfl rfl (by omega) ?_
      rw [s64]
      refine zw_iconst (nx := 41) C dX7_readsSeat_40 rfl ?_
      refine zw_icmp_eq (tgt := 51) (nx := 44) C dX7_readsSeat_41 rfl rfl (by omega) (fun h41 => by exfalso; omega) (fun h41 => ?_)
      refine zw_aload_n (i := 0) (nx := 45) C dX7_readsSeat_44 rfl rfl rfl ?_
      refine zw_iload_n (i := 1) (nx := 46) C dX7_readsSeat_45 rfl rfl rfl ?_
      refine zw_puti (nx := 49) C dX7_readsSeat_46 rfl flX7_110 ic6 nf6_16 rfl rfl rfl rfl rfl ?_
      refine zw_iconst (nx := 50) C dX7_readsSeat_49 rfl ?_
      exact zw_zret C hA hr hk dX7_readsSeat_50 rfl rfl rfl
theorem wd_bd (T : Nat → Int) (t s : Nat) : -1 ≤ wd T t s ∧ wd T t s ≤ 4 := by
  rcases wE_cases T t s with ⟨i, hi, hw⟩ | hno
  · have := wd_is hi hw; omega
  · have := wd_no hno; omega
theorem m_first (hx : TXm ζ0 t T) {i : Nat} {d : pD} (hp : MC ζ0 ζ i d) (hit : i ≤ t) : MB l B mX7_readsFirst ζ0 ζ (pB1 T t (sk T t i) d) := by
  obtain ⟨sk1, hp1⟩ := m_skip (l := l) (B := B) hx hp hit
  have hs := sk_bd T hit
  generalize sk T t i = s at sk1 hp1 hs
  have wh := run_X7_wordHere (l := l) (B := B) (hp1.1.txm hx) hp1.2.1 hs.2
  have wb := wd_bd T t s
  have hl := lE_bd T hs.2
  unfold pB1
  by_cases h0 : wd T t s = 0
  · rw [if_pos h0]
    rw [h0] at wh
    have h4 : lE T t s = s + 4 := by
      have a := (wE_0.mp ((wd_iff (i := 0) (by decide)).mp h0)).1
      omega
    rw [h4] at hl ⊢
    have hp2 : MC ζ0 (zU (zU ζ 52 16 s) 52 16 ((s : Int) + 4)) (s + 4) d := ⟨hp1.1.p52 (by decide) _, rfl, hp1.2.2⟩
    obtain ⟨n1, n2⟩ := m_num (l := l) (B := B) hx hp2 hl.2 (m := 7) (by omega)
    have f16 : (zU ζ 52 16 s).1 52 16 = (s : Int) := rfl
    unfold pTr
    cases hq : pNum T t (s + 4) 7 with
    | inl p =>
      obtain ⟨ζ', r, h⟩ := n1 p hq
      refine ⟨ζ', ?_, h.toF⟩
      refine zrun_intro (M := mX7_readsFirst) (ls := [some (.ref 52)]) (by decide) rfl rfl rfl (Nat.le_of_ble_eq_true rfl) ?_
      intro X A C hX hA hr hk
      replace C : CX X B A mX7_readsFirst.2.2.2.2 RX7 cX7_readsFirst 1 0 0 := C
      have hr : (xMeth X).sig.returnType = (some .boolean) := hr
      change ZW X B A 1 0 0 _ _ 0 [some (.ref 52)] []
      subst hX
      refine zw_aload_n (i := 0) (nx := 1) C dX7_readsFirst_0 rfl rfl rfl ?_
      refine zw_cV00 (nx := 4) C dX7_readsFirst_1 rfl cvX7_130 rfl rfl ⟨Nat.le_of_ble_eq_true rfl, Nat.le_of_ble_eq_true rfl⟩ rfl rfl (Nat.le_of_ble_eq_true rfl) sk1 ?_
      refine zw_aload_n (i := 0) (nx := 5) C dX7_readsFirst_4 rfl rfl rfl ?_
      refine zw_cV01 (nx := 8) C dX7_readsFirst_5 rfl cvX7_153 rfl rfl ⟨Nat.le_of_ble_eq_true rfl, Nat.le_of_ble_eq_true rfl⟩ rfl rfl (Nat.le_of_ble_eq_true rfl) wh ?_
      refine zw_if_eq (tgt := 13) (nx := 11) C dX7_readsFirst_8 rfl rfl (by omega) (fun h8 => ?_) (fun h8 => by exfalso; omega)
      refine zw_aload_n (i := 0) (nx := 14) C dX7_readsFirst_13 rfl rfl rfl ?_
      refine zw_dup (nx := 15) C dX7_readsFirst_14 rfl rfl ?_
      refine zw_geti (nx := 18) C dX7_readsFirst_15 rfl flX7_110 iq6 rfl rfl rfl rfl ?_
      rw [f16]
      refine zw_iconst (nx := 19) C dX7_readsFirst_18 rfl ?_
      refine zw_iadd (nx := 20) C dX7_readsFirst_19 rfl ?_
      refine zw_puti (nx := 23) C dX7_readsFirst_20 rfl flX7_110 ic6 nf6_16 rfl rfl rfl rfl rfl ?_
      refine zw_aload_n (i := 0) (nx := 24) C dX7_readsFirst_23 rfl rfl rfl ?_
      refine zw_iconst (nx := 25) C dX7_readsFirst_24 rfl ?_
      refine zw_bipush (v := 7) (nx := 27) C dX7_readsFirst_25 (by decide) rfl ?_
      refine zw_cV21 (nx := 30) C dX7_readsFirst_27 rfl cvX7_139 rfl rfl ⟨Nat.le_of_ble_eq_true rfl, Nat.le_of_ble_eq_true rfl⟩ rfl rfl (Nat.le_of_ble_eq_true rfl) r ?_
      refine zw_if_ne (tgt := 35) (nx := 33) C dX7_readsFirst_30 rfl rfl (by omega) (fun h30 => by exfalso; omega) (fun h30 => ?_)
      refine zw_iconst (nx := 34) C dX7_readsFirst_33 rfl ?_
      exact zw_zret C hA hr hk dX7_readsFirst_34 rfl rfl rfl
    | inr q =>
      obtain ⟨ζ', r, h, hv, -⟩ := n2 q hq
      obtain ⟨⟨b1, b2, b3⟩, b4, b5⟩ := h.2.2
      refine ⟨zU ζ' 52 17 q.1, ⟨h.1.p52 (by decide) _, h.2.1, ⟨rfl, b2, b3⟩, b4, b5⟩, fun b ζ2 re => ?_⟩
      refine zrun_intro (M := mX7_readsFirst) (ls := [some (.ref 52)]) (by decide) rfl rfl rfl (Nat.le_of_ble_eq_true rfl) ?_
      intro X A C hX hA hr hk
      replace C : CX X B A mX7_readsFirst.2.2.2.2 RX7 cX7_readsFirst 1 0 0 := C
      have hr : (xMeth X).sig.returnType = (some .boolean) := hr
      change ZW X B A 1 0 0 _ _ 0 [some (.ref 52)] []
      subst hX
      refine zw_aload_n (i := 0) (nx := 1) C dX7_readsFirst_0 rfl rfl rfl ?_
      refine zw_cV00 (nx := 4) C dX7_readsFirst_1 rfl cvX7_130 rfl rfl ⟨Nat.le_of_ble_eq_true rfl, Nat.le_of_ble_eq_true rfl⟩ rfl rfl (Nat.le_of_ble_eq_true rfl) sk1 ?_
      refine zw_aload_n (i := 0) (nx := 5) C dX7_readsFirst_4 rfl rfl rfl ?_
      refine zw_cV01 (nx := 8) C dX7_readsFirst_5 rfl cvX7_153 rfl rfl ⟨Nat.le_of_ble_eq_true rfl, Nat.le_of_ble_eq_true rfl⟩ rfl rfl (Nat.le_of_ble_eq_true rfl) wh ?_
      refine zw_if_eq (tgt := 13) (nx := 11) C dX7_readsFirst_8 rfl rfl (by omega) (fun h8 => ?_) (fun h8 => by exfalso; omega)
      refine zw_aload_n (i := 0) (nx := 14) C dX7_readsFirst_13 rfl rfl rfl ?_
      refine zw_dup (nx := 15) C dX7_readsFirst_14 rfl rfl ?_
      refine zw_geti (nx := 18) C dX7_readsFirst_15 rfl flX7_110 iq6 rfl rfl rfl rfl ?_
      rw [f16]
      refine zw_iconst (nx := 19) C dX7_readsFirst_18 rfl ?_
      refine zw_iadd (nx := 20) C dX7_readsFirst_19 rfl ?_
      refine zw_puti (nx := 23) C dX7_readsFirst_20 rfl flX7_110 ic6 nf6_16 rfl rfl rfl rfl rfl ?_
      refine zw_aload_n (i := 0) (nx := 24) C dX7_readsFirst_23 rfl rfl rfl ?_
      refine zw_iconst (nx := 25) C dX7_readsFirst_24 rfl ?_
      refine zw_bipush (v := 7) (nx := 27) C dX7_readsFirst_25 (by decide) rfl ?_
      refine zw_cV21 (nx := 30) C dX7_readsFirst_27 rfl cvX7_139 rfl rfl ⟨Nat.le_of_ble_eq_true rfl, Nat.le_of_ble_eq_true rfl⟩ rfl rfl (Nat.le_of_ble_eq_true rfl) r ?_
      refine zw_if_ne (tgt := 35) (nx := 33) C dX7_readsFirst_30 rfl rfl (by omega) (fun h30 => ?_) (fun h30 => by exfalso; omega)
      refine zw_aload_n (i := 0) (nx := 36) C dX7_readsFirst_35 rfl rfl rfl ?_
      refine zw_aload_n (i := 0) (nx := 37) C dX7_readsFirst_36 rfl rfl rfl ?_
      refine zw_geti (nx := 40) C dX7_readsFirst_37 rfl flX7_136 iq6 rfl rfl rfl rfl ?_
      rw [hv]
      refine zw_puti (nx := 43) C dX7_readsFirst_40 rfl flX7_168 ic6 nf6_17 rfl rfl rfl rfl rfl ?_
      refine zw_aload_n (i := 0) (nx := 44) C dX7_readsFirst_43 rfl rfl rfl ?_
      refine zw_cV01 (nx := 47) C dX7_readsFirst_44 rfl cvX7_146 rfl rfl ⟨Nat.le_of_ble_eq_true rfl, Nat.le_of_ble_eq_true rfl⟩ rfl rfl (Nat.le_of_ble_eq_true rfl) re ?_
      exact zw_bret C hA hr hk dX7_readsFirst_47 rfl rfl rfl
  · rw [if_neg h0]
    refine ⟨zU ζ 52 16 s, ?_, hp1.toF⟩
    refine zrun_intro (M := mX7_readsFirst) (ls := [some (.ref 52)]) (by decide) rfl rfl rfl (Nat.le_of_ble_eq_true rfl) ?_
    intro X A C hX hA hr hk
    replace C : CX X B A mX7_readsFirst.2.2.2.2 RX7 cX7_readsFirst 1 0 0 := C
    have hr : (xMeth X).sig.returnType = (some .boolean) := hr
    change ZW X B A 1 0 0 _ _ 0 [some (.ref 52)] []
    subst hX
    refine zw_aload_n (i := 0) (nx := 1) C dX7_readsFirst_0 rfl rfl rfl ?_
    refine zw_cV00 (nx := 4) C dX7_readsFirst_1 rfl cvX7_130 rfl rfl ⟨Nat.le_of_ble_eq_true rfl, Nat.le_of_ble_eq_true rfl⟩ rfl rfl (Nat.le_of_ble_eq_true rfl) sk1 ?_
    refine zw_aload_n (i := 0) (nx := 5) C dX7_readsFirst_4 rfl rfl rfl ?_
    refine zw_cV01 (nx := 8) C dX7_readsFirst_5 rfl cvX7_153 rfl rfl ⟨Nat.le_of_ble_eq_true rfl, Nat.le_of_ble_eq_true rfl⟩ rfl rfl (Nat.le_of_ble_eq_true rfl) wh ?_
    refine zw_if_eq (tgt := 13) (nx := 11) C dX7_readsFirst_8 rfl rfl (by omega) (fun h8 => by exfalso; omega) (fun h8 => ?_)
    refine zw_iconst (nx := 12) C dX7_readsFirst_11 rfl ?_
    exact zw_zret C hA hr hk dX7_readsFirst_12 rfl rfl rfl
theorem m_item (hx : TXm ζ0 t T) {s : Nat} {d : pD} (hp : MC ζ0 ζ s d) (hs : s ≤ t) (hd : dK d) : OutM l B mX7_readsItem ζ0 ζ (pIt T t (pB2 T t s d)) := by
  have wh := run_X7_wordHere (l := l) (B := B) (hp.1.txm hx) hp.2.1 hs
  have wb := wd_bd T t s
  have hl := lE_bd T hs
  have h16 := hp.2.1
  have h19 := hp.2.2.1.2.2
  have hn5 := hd.1
  have nxt : MC ζ0 (zU ζ 52 16 (lE T t s)) (lE T t s) d := ⟨hp.1.p52 (by decide) _, rfl, hp.2.2⟩
  have bb : ∀ q, pB2 T t s d = .inr q → q.2 ≤ t := fun q hq => (pB_ok hs hd (Or.inl hq)).2.2
  have lens : (wd T t s = 1 → lE T t s = s + 4) ∧ (wd T t s = 2 → lE T t s = s + 7) ∧ (wd T t s = 3 → lE T t s = s + 3) ∧ (wd T t s = 4 → lE T t s = s + 4) := by
    refine ⟨fun h => ?_, fun h => ?_, fun h => ?_, fun h => ?_⟩
    · have a := (wE_1.mp ((wd_iff (i := 1) (by decide)).mp h)).1; omega
    · have a := (wE_2.mp ((wd_iff (i := 2) (by decide)).mp h)).1; omega
    · have a := (wE_3.mp ((wd_iff (i := 3) (by decide)).mp h)).1; omega
    · have a := (wE_4.mp ((wd_iff (i := 4) (by decide)).mp h)).1; omega
  obtain ⟨L1, L2, L3, L4⟩ := lens
  by_cases h1 : wd T t s = 1
  · have eb : pB2 T t s d = pDk T t (lE T t s) d := if_pos h1
    have o := m_fin hx (by rw [eb]; exact m_dark (l := l) (B := B) hx nxt hl.2) bb
    rw [L1 h1] at o
    rw [h1] at wh
    clear L1 L2 L3 L4 bb
    refine o.map (fun b ζ2 re => ?_)
    refine zrun_intro (M := mX7_readsItem) (ls := [some (.ref 52), none]) (by decide) rfl rfl rfl (Nat.le_of_ble_eq_true rfl) ?_
    intro X A C hX hA hr hk
    replace C : CX X B A mX7_readsItem.2.2.2.2 RX7 cX7_readsItem 2 0 0 := C
    have hr : (xMeth X).sig.returnType = (some .boolean) := hr
    change ZW X B A 2 0 0 _ _ 0 [some (.ref 52), none] []
    subst hX
    refine zw_aload_n (i := 0) (nx := 1) C dX7_readsItem_0 rfl rfl rfl ?_
    refine zw_cV01 (nx := 4) C dX7_readsItem_1 rfl cvX7_153 rfl rfl ⟨Nat.le_of_ble_eq_true rfl, Nat.le_of_ble_eq_true rfl⟩ rfl rfl (Nat.le_of_ble_eq_true rfl) wh ?_
    refine zw_ist1 (nx := 5) C (eIst_n dX7_readsItem_4 rfl rfl) (Nat.le_of_ble_eq_true rfl) rfl ?_
    refine zw_iload_n (i := 1) (nx := 6) C dX7_readsItem_5 rfl rfl rfl ?_
    refine zw_iconst (nx := 7) C dX7_readsItem_6 rfl ?_
    refine zw_icmp_lt (tgt := 23) (nx := 10) C dX7_readsItem_7 rfl rfl (by omega) (fun h7 => by exfalso; omega) (fun h7 => ?_)
    refine zw_iload_n (i := 1) (nx := 11) C dX7_readsItem_10 rfl rfl rfl ?_
    refine zw_iconst (nx := 12) C dX7_readsItem_11 rfl ?_
    refine zw_icmp_ne (tgt := 25) (nx := 15) C dX7_readsItem_12 rfl rfl (by omega) (fun h12 => ?_) (fun h12 => by exfalso; omega)
    refine zw_aload_n (i := 0) (nx := 26) C dX7_readsItem_25 rfl rfl rfl ?_
    refine zw_dup (nx := 27) C dX7_readsItem_26 rfl rfl ?_
    refine zw_geti (nx := 30) C dX7_readsItem_27 rfl flX7_110 iq6 rfl rfl rfl rfl ?_
    rw [h16]
    refine zw_iload_n (i := 1) (nx := 31) C dX7_readsItem_30 rfl rfl rfl ?_
    refine zw_iconst (nx := 32) C dX7_readsItem_31 rfl ?_
    refine zw_icmp_ne (tgt := 40) (nx := 35) C dX7_readsItem_32 rfl rfl (by omega) (fun h32 => ?_) (fun h32 => by exfalso; omega)
    refine zw_iload_n (i := 1) (nx := 41) C dX7_readsItem_40 rfl rfl rfl ?_
    refine zw_iconst (nx := 42) C dX7_readsItem_41 rfl ?_
    refine zw_icmp_ne (tgt := 49) (nx := 45) C dX7_readsItem_42 rfl rfl (by omega) (fun h42 => ?_) (fun h42 => by exfalso; omega)
    refine zw_iconst (nx := 50) C dX7_readsItem_49 rfl ?_
    refine zw_iadd (nx := 51) C dX7_readsItem_50 rfl ?_
    refine zw_puti (nx := 54) C dX7_readsItem_51 rfl flX7_110 ic6 nf6_16 rfl rfl rfl rfl rfl ?_
    refine zw_iload_n (i := 1) (nx := 55) C dX7_readsItem_54 rfl rfl rfl ?_
    refine zw_iconst (nx := 56) C dX7_readsItem_55 rfl ?_
    refine zw_icmp_ne (tgt := 66) (nx := 59) C dX7_readsItem_56 rfl rfl (by omega) (fun h56 => by exfalso; omega) (fun h56 => ?_)
    refine zw_aload_n (i := 0) (nx := 60) C dX7_readsItem_59 rfl rfl rfl ?_
    refine zw_cV01 (nx := 63) C dX7_readsItem_60 rfl cvX7_156 rfl rfl ⟨Nat.le_of_ble_eq_true rfl, Nat.le_of_ble_eq_true rfl⟩ rfl rfl (Nat.le_of_ble_eq_true rfl) re ?_
    refine zw_goto (nx := 94) C dX7_readsItem_63 rfl ?_
    exact zw_bret C hA hr hk dX7_readsItem_94 rfl rfl rfl
  · by_cases h2 : wd T t s = 2
    · have eb : pB2 T t s d = pHs T t (lE T t s) d := by unfold pB2; rw [if_neg h1, if_pos h2]
      have o := m_fin hx (by rw [eb]; exact m_heights (l := l) (B := B) hx nxt hl.2) bb
      rw [L2 h2] at o
      rw [h2] at wh
      clear L1 L2 L3 L4 bb
      refine o.map (fun b ζ2 re => ?_)
      refine zrun_intro (M := mX7_readsItem) (ls := [some (.ref 52), none]) (by decide) rfl rfl rfl (Nat.le_of_ble_eq_true rfl) ?_
      intro X A C hX hA hr hk
      replace C : CX X B A mX7_readsItem.2.2.2.2 RX7 cX7_readsItem 2 0 0 := C
      have hr : (xMeth X).sig.returnType = (some .boolean) := hr
      change ZW X B A 2 0 0 _ _ 0 [some (.ref 52), none] []
      subst hX
      refine zw_aload_n (i := 0) (nx := 1) C dX7_readsItem_0 rfl rfl rfl ?_
      refine zw_cV01 (nx := 4) C dX7_readsItem_1 rfl cvX7_153 rfl rfl ⟨Nat.le_of_ble_eq_true rfl, Nat.le_of_ble_eq_true rfl⟩ rfl rfl (Nat.le_of_ble_eq_true rfl) wh ?_
      refine zw_ist1 (nx := 5) C (eIst_n dX7_readsItem_4 rfl rfl) (Nat.le_of_ble_eq_true rfl) rfl ?_
      refine zw_iload_n (i := 1) (nx := 6) C dX7_readsItem_5 rfl rfl rfl ?_
      refine zw_iconst (nx := 7) C dX7_readsItem_6 rfl ?_
      refine zw_icmp_lt (tgt := 23) (nx := 10) C dX7_readsItem_7 rfl rfl (by omega) (fun h7 => by exfalso; omega) (fun h7 => ?_)
      refine zw_iload_n (i := 1) (nx := 11) C dX7_readsItem_10 rfl rfl rfl ?_
      refine zw_iconst (nx := 12) C dX7_readsItem_11 rfl ?_
      refine zw_icmp_ne (tgt := 25) (nx := 15) C dX7_readsItem_12 rfl rfl (by omega) (fun h12 => ?_) (fun h12 => by exfalso; omega)
      refine zw_aload_n (i := 0) (nx := 26) C dX7_readsItem_25 rfl rfl rfl ?_
      refine zw_dup (nx := 27) C dX7_readsItem_26 rfl rfl ?_
      refine zw_geti (nx := 30) C dX7_readsItem_27 rfl flX7_110 iq6 rfl rfl rfl rfl ?_
      rw [h16]
      refine zw_iload_n (i := 1) (nx := 31) C dX7_readsItem_30 rfl rfl rfl ?_
      refine zw_iconst (nx := 32) C dX7_readsItem_31 rfl ?_
      refine zw_icmp_ne (tgt := 40) (nx := 35) C dX7_readsItem_32 rfl rfl (by omega) (fun h32 => by exfalso; omega) (fun h32 => ?_)
      refine zw_bipush (v := 7) (nx := 37) C dX7_readsItem_35 (by decide) rfl ?_
      refine zw_goto (nx := 50) C dX7_readsItem_37 rfl ?_
      refine zw_iadd (nx := 51) C dX7_readsItem_50 rfl ?_
      refine zw_puti (nx := 54) C dX7_readsItem_51 rfl flX7_110 ic6 nf6_16 rfl rfl rfl rfl rfl ?_
      refine zw_iload_n (i := 1) (nx := 55) C dX7_readsItem_54 rfl rfl rfl ?_
      refine zw_iconst (nx := 56) C dX7_readsItem_55 rfl ?_
      refine zw_icmp_ne (tgt := 66) (nx := 59) C dX7_readsItem_56 rfl rfl (by omega) (fun h56 => ?_) (fun h56 => by exfalso; omega)
      refine zw_iload_n (i := 1) (nx := 67) C dX7_readsItem_66 rfl rfl rfl ?_
      refine zw_iconst (nx := 68) C dX7_readsItem_67 rfl ?_
      refine zw_icmp_ne (tgt := 78) (nx := 71) C dX7_readsItem_68 rfl rfl (by omega) (fun h68 => by exfalso; omega) (fun h68 => ?_)
      refine zw_aload_n (i := 0) (nx := 72) C dX7_readsItem_71 rfl rfl rfl ?_
      refine zw_cV01 (nx := 75) C dX7_readsItem_72 rfl cvX7_159 rfl rfl ⟨Nat.le_of_ble_eq_true rfl, Nat.le_of_ble_eq_true rfl⟩ rfl rfl (Nat.le_of_ble_eq_true rfl) re ?_
      refine zw_goto (nx := 94) C dX7_readsItem_75 rfl ?_
      exact zw_bret C hA hr hk dX7_readsItem_94 rfl rfl rfl
    · by_cases h3 : wd T t s = 3
      · have eb : pB2 T t s d = pOn T t s (lE T t s) d := by unfold pB2; rw [if_neg h1, if_neg h2, if_pos h3]
        by_cases h5 : d.2.2.2.1 = 5
        · have e2 : pOn T t s (lE T t s) d = .inl s := if_pos h5
          rw [eb, e2]
          rw [h3] at wh
          clear L1 L2 L3 L4 bb
          refine ⟨ζ, ?_, hp.toF⟩
          refine zrun_intro (M := mX7_readsItem) (ls := [some (.ref 52), none]) (by decide) rfl rfl rfl (Nat.le_of_ble_eq_true rfl) ?_
          intro X A C hX hA hr hk
          replace C : CX X B A mX7_readsItem.2.2.2.2 RX7 cX7_readsItem 2 0 0 := C
          have hr : (xMeth X).sig.returnType = (some .boolean) := hr
          change ZW X B A 2 0 0 _ _ 0 [some (.ref 52), none] []
          subst hX
          refine zw_aload_n (i := 0) (nx := 1) C dX7_readsItem_0 rfl rfl rfl ?_
          refine zw_cV01 (nx := 4) C dX7_readsItem_1 rfl cvX7_153 rfl rfl ⟨Nat.le_of_ble_eq_true rfl, Nat.le_of_ble_eq_true rfl⟩ rfl rfl (Nat.le_of_ble_eq_true rfl) wh ?_
          refine zw_ist1 (nx := 5) C (eIst_n dX7_readsItem_4 rfl rfl) (Nat.le_of_ble_eq_true rfl) rfl ?_
          refine zw_iload_n (i := 1) (nx := 6) C dX7_readsItem_5 rfl rfl rfl ?_
          refine zw_iconst (nx := 7) C dX7_readsItem_6 rfl ?_
          refine zw_icmp_lt (tgt := 23) (nx := 10) C dX7_readsItem_7 rfl rfl (by omega) (fun h7 => by exfalso; omega) (fun h7 => ?_)
          refine zw_iload_n (i := 1) (nx := 11) C dX7_readsItem_10 rfl rfl rfl ?_
          refine zw_iconst (nx := 12) C dX7_readsItem_11 rfl ?_
          refine zw_icmp_ne (tgt := 25) (nx := 15) C dX7_readsItem_12 rfl rfl (by omega) (fun h12 => by exfalso; omega) (fun h12 => ?_)
          refine zw_aload_n (i := 0) (nx := 16) C dX7_readsItem_15 rfl rfl rfl ?_
          refine zw_geti (nx := 19) C dX7_readsItem_16 rfl flX7_150 iq6 rfl rfl rfl rfl ?_
          refine zw_iconst (nx := 20) C dX7_readsItem_19 rfl ?_
          refine zw_icmp_ne (tgt := 25) (nx := 23) C dX7_readsItem_20 rfl rfl (by omega) (fun h20 => by exfalso; omega) (fun h20 => ?_)
          refine zw_iconst (nx := 24) C dX7_readsItem_23 rfl ?_
          exact zw_zret C hA hr hk dX7_readsItem_24 rfl rfl rfl
        · have o := m_fin hx (by rw [eb]; exact m_one (l := l) (B := B) hx nxt hl.2 hd h5) bb
          rw [L3 h3] at o
          rw [h3] at wh
          clear L1 L2 L3 L4 bb
          refine o.map (fun b ζ2 re => ?_)
          refine zrun_intro (M := mX7_readsItem) (ls := [some (.ref 52), none]) (by decide) rfl rfl rfl (Nat.le_of_ble_eq_true rfl) ?_
          intro X A C hX hA hr hk
          replace C : CX X B A mX7_readsItem.2.2.2.2 RX7 cX7_readsItem 2 0 0 := C
          have hr : (xMeth X).sig.returnType = (some .boolean) := hr
          change ZW X B A 2 0 0 _ _ 0 [some (.ref 52), none] []
          subst hX
          refine zw_aload_n (i := 0) (nx := 1) C dX7_readsItem_0 rfl rfl rfl ?_
          refine zw_cV01 (nx := 4) C dX7_readsItem_1 rfl cvX7_153 rfl rfl ⟨Nat.le_of_ble_eq_true rfl, Nat.le_of_ble_eq_true rfl⟩ rfl rfl (Nat.le_of_ble_eq_true rfl) wh ?_
          refine zw_ist1 (nx := 5) C (eIst_n dX7_readsItem_4 rfl rfl) (Nat.le_of_ble_eq_true rfl) rfl ?_
          refine zw_iload_n (i := 1) (nx := 6) C dX7_readsItem_5 rfl rfl rfl ?_
          refine zw_iconst (nx := 7) C dX7_readsItem_6 rfl ?_
          refine zw_icmp_lt (tgt := 23) (nx := 10) C dX7_readsItem_7 rfl rfl (by omega) (fun h7 => by exfalso; omega) (fun h7 => ?_)
          refine zw_iload_n (i := 1) (nx := 11) C dX7_readsItem_10 rfl rfl rfl ?_
          refine zw_iconst (nx := 12) C dX7_readsItem_11 rfl ?_
          refine zw_icmp_ne (tgt := 25) (nx := 15) C dX7_readsItem_12 rfl rfl (by omega) (fun h12 => by exfalso; omega) (fun h12 => ?_)
          refine zw_aload_n (i := 0) (nx := 16) C dX7_readsItem_15 rfl rfl rfl ?_
          refine zw_geti (nx := 19) C dX7_readsItem_16 rfl flX7_150 iq6 rfl rfl rfl rfl ?_
          refine zw_iconst (nx := 20) C dX7_readsItem_19 rfl ?_
          refine zw_icmp_ne (tgt := 25) (nx := 23) C dX7_readsItem_20 rfl rfl (by omega) (fun h20 => ?_) (fun h20 => by exfalso; omega)
          refine zw_aload_n (i := 0) (nx := 26) C dX7_readsItem_25 rfl rfl rfl ?_
          refine zw_dup (nx := 27) C dX7_readsItem_26 rfl rfl ?_
          refine zw_geti (nx := 30) C dX7_readsItem_27 rfl flX7_110 iq6 rfl rfl rfl rfl ?_
          rw [h16]
          refine zw_iload_n (i := 1) (nx := 31) C dX7_readsItem_30 rfl rfl rfl ?_
          refine zw_iconst (nx := 32) C dX7_readsItem_31 rfl ?_
          refine zw_icmp_ne (tgt := 40) (nx := 35) C dX7_readsItem_32 rfl rfl (by omega) (fun h32 => ?_) (fun h32 => by exfalso; omega)
          refine zw_iload_n (i := 1) (nx := 41) C dX7_readsItem_40 rfl rfl rfl ?_
          refine zw_iconst (nx := 42) C dX7_readsItem_41 rfl ?_
          refine zw_icmp_ne (tgt := 49) (nx := 45) C dX7_readsItem_42 rfl rfl (by omega) (fun h42 => by exfalso; omega) (fun h42 => ?_)
          refine zw_iconst (nx := 46) C dX7_readsItem_45 rfl ?_
          refine zw_goto (nx := 50) C dX7_readsItem_46 rfl ?_
          refine zw_iadd (nx := 51) C dX7_readsItem_50 rfl ?_
          refine zw_puti (nx := 54) C dX7_readsItem_51 rfl flX7_110 ic6 nf6_16 rfl rfl rfl rfl rfl ?_
          refine zw_iload_n (i := 1) (nx := 55) C dX7_readsItem_54 rfl rfl rfl ?_
          refine zw_iconst (nx := 56) C dX7_readsItem_55 rfl ?_
          refine zw_icmp_ne (tgt := 66) (nx := 59) C dX7_readsItem_56 rfl rfl (by omega) (fun h56 => ?_) (fun h56 => by exfalso; omega)
          refine zw_iload_n (i := 1) (nx := 67) C dX7_readsItem_66 rfl rfl rfl ?_
          refine zw_iconst (nx := 68) C dX7_readsItem_67 rfl ?_
          refine zw_icmp_ne (tgt := 78) (nx := 71) C dX7_readsItem_68 rfl rfl (by omega) (fun h68 => ?_) (fun h68 => by exfalso; omega)
          refine zw_iload_n (i := 1) (nx := 79) C dX7_readsItem_78 rfl rfl rfl ?_
          refine zw_iconst (nx := 80) C dX7_readsItem_79 rfl ?_
          refine zw_icmp_ne (tgt := 90) (nx := 83) C dX7_readsItem_80 rfl rfl (by omega) (fun h80 => by exfalso; omega) (fun h80 => ?_)
          refine zw_aload_n (i := 0) (nx := 84) C dX7_readsItem_83 rfl rfl rfl ?_
          refine zw_cV01 (nx := 87) C dX7_readsItem_84 rfl cvX7_162 rfl rfl ⟨Nat.le_of_ble_eq_true rfl, Nat.le_of_ble_eq_true rfl⟩ rfl rfl (Nat.le_of_ble_eq_true rfl) re ?_
          refine zw_goto (nx := 94) C dX7_readsItem_87 rfl ?_
          exact zw_bret C hA hr hk dX7_readsItem_94 rfl rfl rfl
      · by_cases h4 : wd T t s = 4
        · have eb : pB2 T t s d = pSe T t (lE T t s) d := by unfold pB2; rw [if_neg h1, if_neg h2, if_neg h3, if_pos h4]
          have o := m_fin hx (by rw [eb]; exact m_seat (l := l) (B := B) hx nxt hl.2 hd) bb
          rw [L4 h4] at o
          rw [h4] at wh
          clear L1 L2 L3 L4 bb
          refine o.map (fun b ζ2 re => ?_)
          refine zrun_intro (M := mX7_readsItem) (ls := [some (.ref 52), none]) (by decide) rfl rfl rfl (Nat.le_of_ble_eq_true rfl) ?_
          intro X A C hX hA hr hk
          replace C : CX X B A mX7_readsItem.2.2.2.2 RX7 cX7_readsItem 2 0 0 := C
          have hr : (xMeth X).sig.returnType = (some .boolean) := hr
          change ZW X B A 2 0 0 _ _ 0 [some (.ref 52), none] []
          subst hX
          refine zw_aload_n (i := 0) (nx := 1) C dX7_readsItem_0 rfl rfl rfl ?_
          refine zw_cV01 (nx := 4) C dX7_readsItem_1 rfl cvX7_153 rfl rfl ⟨Nat.le_of_ble_eq_true rfl, Nat.le_of_ble_eq_true rfl⟩ rfl rfl (Nat.le_of_ble_eq_true rfl) wh ?_
          refine zw_ist1 (nx := 5) C (eIst_n dX7_readsItem_4 rfl rfl) (Nat.le_of_ble_eq_true rfl) rfl ?_
          refine zw_iload_n (i := 1) (nx := 6) C dX7_readsItem_5 rfl rfl rfl ?_
          refine zw_iconst (nx := 7) C dX7_readsItem_6 rfl ?_
          refine zw_icmp_lt (tgt := 23) (nx := 10) C dX7_readsItem_7 rfl rfl (by omega) (fun h7 => by exfalso; omega) (fun h7 => ?_)
          refine zw_iload_n (i := 1) (nx := 11) C dX7_readsItem_10 rfl rfl rfl ?_
          refine zw_iconst (nx := 12) C dX7_readsItem_11 rfl ?_
          refine zw_icmp_ne (tgt := 25) (nx := 15) C dX7_readsItem_12 rfl rfl (by omega) (fun h12 => ?_) (fun h12 => by exfalso; omega)
          refine zw_aload_n (i := 0) (nx := 26) C dX7_readsItem_25 rfl rfl rfl ?_
          refine zw_dup (nx := 27) C dX7_readsItem_26 rfl rfl ?_
          refine zw_geti (nx := 30) C dX7_readsItem_27 rfl flX7_110 iq6 rfl rfl rfl rfl ?_
          rw [h16]
          refine zw_iload_n (i := 1) (nx := 31) C dX7_readsItem_30 rfl rfl rfl ?_
          refine zw_iconst (nx := 32) C dX7_readsItem_31 rfl ?_
          refine zw_icmp_ne (tgt := 40) (nx := 35) C dX7_readsItem_32 rfl rfl (by omega) (fun h32 => ?_) (fun h32 => by exfalso; omega)
          refine zw_iload_n (i := 1) (nx := 41) C dX7_readsItem_40 rfl rfl rfl ?_
          refine zw_iconst (nx := 42) C dX7_readsItem_41 rfl ?_
          refine zw_icmp_ne (tgt := 49) (nx := 45) C dX7_readsItem_42 rfl rfl (by omega) (fun h42 => ?_) (fun h42 => by exfalso; omega)
          refine zw_iconst (nx := 50) C dX7_readsItem_49 rfl ?_
          refine zw_iadd (nx := 51) C dX7_readsItem_50 rfl ?_
          refine zw_puti (nx := 54) C dX7_readsItem_51 rfl flX7_110 ic6 nf6_16 rfl rfl rfl rfl rfl ?_
          refine zw_iload_n (i := 1) (nx := 55) C dX7_readsItem_54 rfl rfl rfl ?_
          refine zw_iconst (nx := 56) C dX7_readsItem_55 rfl ?_
          refine zw_icmp_ne (tgt := 66) (nx := 59) C dX7_readsItem_56 rfl rfl (by omega) (fun h56 => ?_) (fun h56 => by exfalso; omega)
          refine zw_iload_n (i := 1) (nx := 67) C dX7_readsItem_66 rfl rfl rfl ?_
          refine zw_iconst (nx := 68) C dX7_readsItem_67 rfl ?_
          refine zw_icmp_ne (tgt := 78) (nx := 71) C dX7_readsItem_68 rfl rfl (by omega) (fun h68 => ?_) (fun h68 => by exfalso; omega)
          refine zw_iload_n (i := 1) (nx := 79) C dX7_readsItem_78 rfl rfl rfl ?_
          refine zw_iconst (nx := 80) C dX7_readsItem_79 rfl ?_
          refine zw_icmp_ne (tgt := 90) (nx := 83) C dX7_readsItem_80 rfl rfl (by omega) (fun h80 => ?_) (fun h80 => by exfalso; omega)
          refine zw_aload_n (i := 0) (nx := 91) C dX7_readsItem_90 rfl rfl rfl ?_
          refine zw_cV01 (nx := 94) C dX7_readsItem_91 rfl cvX7_165 rfl rfl ⟨Nat.le_of_ble_eq_true rfl, Nat.le_of_ble_eq_true rfl⟩ rfl rfl (Nat.le_of_ble_eq_true rfl) re ?_
          exact zw_bret C hA hr hk dX7_readsItem_94 rfl rfl rfl
        · have eb : pB2 T t s d = .inl s := by unfold pB2; rw [if_neg h1, if_neg h2, if_neg h3, if_neg h4]
          rw [eb]
          clear L1 L2 L3 L4 bb
          refine ⟨ζ, ?_, hp.toF⟩
          refine zrun_intro (M := mX7_readsItem) (ls := [some (.ref 52), none]) (by decide) rfl rfl rfl (Nat.le_of_ble_eq_true rfl) ?_
          intro X A C hX hA hr hk
          replace C : CX X B A mX7_readsItem.2.2.2.2 RX7 cX7_readsItem 2 0 0 := C
          have hr : (xMeth X).sig.returnType = (some .boolean) := hr
          change ZW X B A 2 0 0 _ _ 0 [some (.ref 52), none] []
          subst hX
          refine zw_aload_n (i := 0) (nx := 1) C dX7_readsItem_0 rfl rfl rfl ?_
          refine zw_cV01 (nx := 4) C dX7_readsItem_1 rfl cvX7_153 rfl rfl ⟨Nat.le_of_ble_eq_true rfl, Nat.le_of_ble_eq_true rfl⟩ rfl rfl (Nat.le_of_ble_eq_true rfl) wh ?_
          refine zw_ist1 (nx := 5) C (eIst_n dX7_readsItem_4 rfl rfl) (Nat.le_of_ble_eq_true rfl) rfl ?_
          refine zw_iload_n (i := 1) (nx := 6) C dX7_readsItem_5 rfl rfl rfl ?_
          refine zw_iconst (nx := 7) C dX7_readsItem_6 rfl ?_
          refine zw_icmp_lt (tgt := 23) (nx := 10) C dX7_readsItem_7 rfl rfl (by omega) (fun h7 => ?_) (fun h7 => by exfalso; omega)
          refine zw_iconst (nx := 24) C dX7_readsItem_23 rfl ?_
          exact zw_zret C hA hr hk dX7_readsItem_24 rfl rfl rfl
end ModS
