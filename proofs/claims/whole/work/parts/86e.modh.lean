/-! reading a text: the reference's read -/
theorem bL_s (ζ : zSt) (p : Nat) : zU (mAd (bL ζ p) p (ζ.1 64 (3 * p)) (ζ.1 64 (3 * p + 1))) 58 p (ζ.1 64 (3 * p + 2)) = bL ζ (p + 1) := rfl
theorem hgS_off (ζ : zSt) (k a b : Nat) (h : a ≠ 54) : (hgS ζ k).1 a b = ζ.1 a b := by unfold hgS; rw [zR_at, if_neg h]
theorem hgS_on (ζ : zSt) (y : Nat) (hy : y < 8) : (hgS ζ 8).1 54 y = ζ.1 65 y := by unfold hgS; rw [zR_at, if_pos rfl]; exact if_pos hy
theorem hgS_l (ζ : zSt) (k : Nat) : (hgS ζ k).2 = ζ.2 := rfl
section ModE
variable {l : Launch} {B : eB} {ζ0 ζ : zSt} {t : Nat} {T : Nat → Int}
theorem rd_l2 {n items : Nat} (h5 : n ≤ 5) (h24 : ζ.1 52 24 = 0) (h1 : ζ.1 52 1 = 0) (h19 : ζ.1 52 19 = n) : zAt l B mX7_read (some (zi items)) (bL ζ n) ζ 57 [some (.ref 52), some (zi items), some (zi ((0 : Nat) : Int))] [] := by
  have bat := bL_at ζ h24 h1
  have o64 : ∀ p b, (bL ζ p).1 64 b = ζ.1 64 b := fun p b => by
    rw [bat, if_neg (by omega), if_neg (by omega), if_neg (by omega), if_neg (by omega), if_neg (by omega)]
  have o19 : ∀ p, (bL ζ p).1 52 19 = (n : Int) := fun p => by
    rw [bat, if_neg (by omega), if_neg (by omega), if_neg (by omega), if_neg (by omega), if_neg (by omega)]; exact h19
  have o1 : ∀ p, (bL ζ p).1 52 1 = (p : Int) := fun p => by
    rw [bat, if_neg (by omega), if_neg (by omega), if_neg (by omega), if_neg (by omega), if_pos ⟨rfl, rfl⟩]
  have m64 : ∀ p k u b, (mAd (bL ζ p) p k u).1 64 b = ζ.1 64 b := fun p k u b => by
    rw [mAd_at, if_neg (by omega), if_neg (by omega), if_neg (by omega), if_neg (by omega), if_neg (by omega), if_neg (by omega), o64]
  clear bat
  intro X A C hX hA hr hk
  replace C : CX X B A mX7_read.2.2.2.2 RX7 cX7_read 3 0 0 := C
  have hr : (xMeth X).sig.returnType = (some .int) := hr
  change ZW X B A 3 0 0 _ _ _ _ _
  subst hX
  have lp2 : ∀ k p : Nat, p + k = n → ZW X B A 3 0 0 (eFin X B (some (zi items)) (zz (bL ζ n))) (bL ζ p) 57 [some (.ref 52), some (zi items), some (zi p)] [] := by
    intro k
    induction k with
    | zero =>
      intro p hpk
      have e : p = n := by omega
      subst e
      have e19 := o19 p
      clear o64 o1 m64 o19
      refine zw_iload_n (i := 2) (nx := 58) C dX7_read_57 rfl rfl rfl ?_
      refine zw_aload_n (i := 0) (nx := 59) C dX7_read_58 rfl rfl rfl ?_
      refine zw_geti (nx := 62) C dX7_read_59 rfl flX7_150 iq6 rfl rfl rfl rfl ?_
      rw [e19]
      refine zw_icmp_ge (tgt := 110) (nx := 65) C dX7_read_62 rfl rfl (by omega) (fun h62 => ?_) (fun h62 => by exfalso; omega)
      refine zw_iload_n (i := 1) (nx := 111) C dX7_read_110 rfl rfl rfl ?_
      exact zw_iret C hA hr hk dX7_read_111 rfl rfl
    | succ k ih =>
      intro p hpk
      have e19 := o19 p
      have ad := run_X7_addOne (l := xLa X) (B := B) (ζ := bL ζ p) (n := p) (by omega) (o1 p) (k := ζ.1 64 (3 * p)) (u := ζ.1 64 (3 * p + 1))
      refine zw_iload_n (i := 2) (nx := 58) C dX7_read_57 rfl rfl rfl ?_
      refine zw_aload_n (i := 0) (nx := 59) C dX7_read_58 rfl rfl rfl ?_
      refine zw_geti (nx := 62) C dX7_read_59 rfl flX7_150 iq6 rfl rfl rfl rfl ?_
      rw [e19]
      refine zw_icmp_ge (tgt := 110) (nx := 65) C dX7_read_62 rfl rfl (by omega) (fun h62 => by exfalso; omega) (fun h62 => ?_)
      refine zw_aload_n (i := 0) (nx := 66) C dX7_read_65 rfl rfl rfl ?_
      refine zw_aload_n (i := 0) (nx := 67) C dX7_read_66 rfl rfl rfl ?_
      refine zw_getr (nx := 70) C dX7_read_67 rfl flX7_50 iq6 rfl rfl rfl rfl ?_
      refine zw_iconst (nx := 71) C dX7_read_70 rfl ?_
      refine zw_iload_n (i := 2) (nx := 72) C dX7_read_71 rfl rfl rfl ?_
      refine zw_imul (nx := 73) C dX7_read_72 rfl ?_
      refine zw_iald ((3 * p)) (nx := 74) C dX7_read_73 rfl rfl rfl rfl (by omega) ?_
      rw [o64 p]
      refine zw_aload_n (i := 0) (nx := 75) C dX7_read_74 rfl rfl rfl ?_
      refine zw_getr (nx := 78) C dX7_read_75 rfl flX7_50 iq6 rfl rfl rfl rfl ?_
      refine zw_iconst (nx := 79) C dX7_read_78 rfl ?_
      refine zw_iload_n (i := 2) (nx := 80) C dX7_read_79 rfl rfl rfl ?_
      refine zw_imul (nx := 81) C dX7_read_80 rfl ?_
      refine zw_iconst (nx := 82) C dX7_read_81 rfl ?_
      refine zw_iadd (nx := 83) C dX7_read_82 rfl ?_
      refine zw_iald ((3 * p + 1)) (nx := 84) C dX7_read_83 rfl rfl rfl rfl (by omega) ?_
      rw [o64 p]
      refine zw_cV21 (nx := 87) C dX7_read_84 rfl cvX7_103 rfl rfl ⟨Nat.le_of_ble_eq_true rfl, Nat.le_of_ble_eq_true rfl⟩ rfl rfl (Nat.le_of_ble_eq_true rfl) ad ?_
      refine zw_pop (nx := 88) C dX7_read_87 rfl rfl ?_
      refine zw_aload_n (i := 0) (nx := 89) C dX7_read_88 rfl rfl rfl ?_
      refine zw_getr (nx := 92) C dX7_read_89 rfl flX7_32 iq6 rfl rfl rfl rfl ?_
      refine zw_iload_n (i := 2) (nx := 93) C dX7_read_92 rfl rfl rfl ?_
      refine zw_aload_n (i := 0) (nx := 94) C dX7_read_93 rfl rfl rfl ?_
      refine zw_getr (nx := 97) C dX7_read_94 rfl flX7_50 iq6 rfl rfl rfl rfl ?_
      refine zw_iconst (nx := 98) C dX7_read_97 rfl ?_
      refine zw_iload_n (i := 2) (nx := 99) C dX7_read_98 rfl rfl rfl ?_
      refine zw_imul (nx := 100) C dX7_read_99 rfl ?_
      refine zw_iconst (nx := 101) C dX7_read_100 rfl ?_
      refine zw_iadd (nx := 102) C dX7_read_101 rfl ?_
      refine zw_iald ((3 * p + 2)) (nx := 103) C dX7_read_102 rfl rfl rfl rfl (by omega) ?_
      rw [m64]
      refine zw_iast (p) (nx := 104) C dX7_read_103 rfl rfl rfl rfl (by omega) ?_
      rw [bL_s]
      refine zw_iinc2 (nx := 107) C dX7_read_104 rfl (Nat.le_of_ble_eq_true rfl) rfl ?_
      refine zw_goto (nx := 57) C dX7_read_107 rfl ?_
      exact ih (p + 1) (by omega)
  exact lp2 n 0 (by omega)
theorem rd_l1 {items : Nat} {η : zSt} (K : zAt l B mX7_read (some (zi items)) η (hgS ζ 8) 57 [some (.ref 52), some (zi items), some (zi ((0 : Nat) : Int))] []) : zAt l B mX7_read (some (zi items)) η ζ 31 [some (.ref 52), some (zi items), some (zi ((0 : Nat) : Int))] [] := by
  have o65 : ∀ y b, (hgS ζ y).1 65 b = ζ.1 65 b := fun y b => hgS_off ζ y 65 b (by decide)
  intro X A C hX hA hr hk
  replace C : CX X B A mX7_read.2.2.2.2 RX7 cX7_read 3 0 0 := C
  have hr : (xMeth X).sig.returnType = (some .int) := hr
  change ZW X B A 3 0 0 _ _ _ _ _
  subst hX
  have K2 := K X A C rfl hA hr hk
  have lp1 : ∀ k y : Nat, y + k = 8 → ZW X B A 3 0 0 (eFin X B (some (zi items)) (zz η)) (hgS ζ y) 31 [some (.ref 52), some (zi items), some (zi y)] [] := by
    intro k
    induction k with
    | zero =>
      intro y hy
      have e : y = 8 := by omega
      subst e
      refine zw_iload_n (i := 2) (nx := 32) C dX7_read_31 rfl rfl rfl ?_
      refine zw_bipush (v := 8) (nx := 34) C dX7_read_32 (by decide) rfl ?_
      refine zw_icmp_ge (tgt := 55) (nx := 37) C dX7_read_34 rfl rfl (by omega) (fun h34 => ?_) (fun h34 => by exfalso; omega)
      refine zw_iconst (nx := 56) C dX7_read_55 rfl ?_
      refine zw_ist2 (nx := 57) C (eIst_n dX7_read_56 rfl rfl) (Nat.le_of_ble_eq_true rfl) rfl ?_
      exact K2
    | succ k ih =>
      intro y hy
      refine zw_iload_n (i := 2) (nx := 32) C dX7_read_31 rfl rfl rfl ?_
      refine zw_bipush (v := 8) (nx := 34) C dX7_read_32 (by decide) rfl ?_
      refine zw_icmp_ge (tgt := 55) (nx := 37) C dX7_read_34 rfl rfl (by omega) (fun h34 => by exfalso; omega) (fun h34 => ?_)
      refine zw_aload_n (i := 0) (nx := 38) C dX7_read_37 rfl rfl rfl ?_
      refine zw_getr (nx := 41) C dX7_read_38 rfl flX7_20 iq6 rfl rfl rfl rfl ?_
      refine zw_iload_n (i := 2) (nx := 42) C dX7_read_41 rfl rfl rfl ?_
      refine zw_aload_n (i := 0) (nx := 43) C dX7_read_42 rfl rfl rfl ?_
      refine zw_getr (nx := 46) C dX7_read_43 rfl flX7_53 iq6 rfl rfl rfl rfl ?_
      refine zw_iload_n (i := 2) (nx := 47) C dX7_read_46 rfl rfl rfl ?_
      refine zw_iald (y) (nx := 48) C dX7_read_47 rfl rfl rfl rfl (by omega) ?_
      rw [o65]
      refine zw_iast (y) (nx := 49) C dX7_read_48 rfl rfl rfl rfl (by omega) ?_
      rw [hgS_s]
      refine zw_iinc2 (nx := 52) C dX7_read_49 rfl (Nat.le_of_ble_eq_true rfl) rfl ?_
      refine zw_goto (nx := 31) C dX7_read_52 rfl ?_
      exact ih (y + 1) (by omega)
  have := lp1 8 0 (by omega)
  rw [hgS_0] at this
  exact this
theorem run_X7_read (hx : TXm ζ0 t T) : match pAll T t with
    | .inl p => ∃ ζ', zRun l B mX7_read [.ref 52] ζ0 (some (zi (-10 - (p : Int)))) ζ' ∧ MF ζ0 ζ' p
    | .inr q => ∃ ζ', zRun l B mX7_read [.ref 52] ζ0 (some (zi q.1)) ζ' ∧ MN ζ0 ζ' q.2 := by
  have rd := m_hill (l := l) (B := B) hx
  have ok := pAll_ok (T := T) (t := t)
  have ht := hx.1.2
  cases hh : pAll T t with
  | inl p =>
    rw [hh] at rd
    have hpt := ok.1 p hh
    obtain ⟨ζ', r, h⟩ := rd
    refine ⟨ζ', ?_, h⟩
    refine zrun_intro (M := mX7_read) (ls := [some (.ref 52), none, none]) (by decide) rfl rfl rfl (Nat.le_of_ble_eq_true rfl) ?_
    intro X A C hX hA hr hk
    replace C : CX X B A mX7_read.2.2.2.2 RX7 cX7_read 3 0 0 := C
    have hr : (xMeth X).sig.returnType = (some .int) := hr
    change ZW X B A 3 0 0 _ _ 0 [some (.ref 52), none, none] []
    subst hX
    refine zw_aload_n (i := 0) (nx := 1) C dX7_read_0 rfl rfl rfl ?_
    refine zw_cV01 (nx := 4) C dX7_read_1 rfl cvX7_177 rfl rfl ⟨Nat.le_of_ble_eq_true rfl, Nat.le_of_ble_eq_true rfl⟩ rfl rfl (Nat.le_of_ble_eq_true rfl) r ?_
    refine zw_ist1 (nx := 5) C (eIst_n dX7_read_4 rfl rfl) (Nat.le_of_ble_eq_true rfl) rfl ?_
    refine zw_iload_n (i := 1) (nx := 6) C dX7_read_5 rfl rfl rfl ?_
    refine zw_if_ge (tgt := 17) (nx := 9) C dX7_read_6 rfl rfl (by omega) (fun h6 => by exfalso; omega) (fun h6 => ?_)
    refine zw_bipush (v := -10) (nx := 11) C dX7_read_9 (by decide) rfl ?_
    refine zw_aload_n (i := 0) (nx := 12) C dX7_read_11 rfl rfl rfl ?_
    refine zw_geti (nx := 15) C dX7_read_12 rfl flX7_110 iq6 rfl rfl rfl rfl ?_
    refine zw_isub (nx := 16) C dX7_read_15 rfl ?_
    exact zw_iret C hA hr hk dX7_read_16 (zr (by rw [h.2])) rfl
  | inr q =>
    rw [hh] at rd
    obtain ⟨hdk, hqt⟩ := ok.2 q hh
    obtain ⟨ζ', j, r, h⟩ := rd
    have hn5 := hdk.1
    clear hdk ok
    obtain ⟨items, tr, dk, H, n, K, U, S⟩ := q
    replace hqt : items ≤ t := hqt
    replace hn5 : n ≤ 5 := hn5
    obtain ⟨hms, h16, ⟨b17, b18, b19⟩, b65, b64⟩ := h
    replace b17 : ζ'.1 52 17 = tr := b17
    replace b18 : ζ'.1 52 18 = dk := b18
    replace b19 : ζ'.1 52 19 = n := b19
    replace b65 : ∀ y, y < 8 → ζ'.1 65 y = H y := b65
    replace b64 : ∀ p, p < n → ζ'.1 64 (3 * p) = K p ∧ ζ'.1 64 (3 * p + 1) = U p ∧ ζ'.1 64 (3 * p + 2) = S p := b64
    have bg := run_X7_begin (l := l) (B := B) (ζ := ζ') (t := tr) (d := dk)
    have gat := mBg_at ζ' tr dk
    have gl := mBg_l ζ' tr dk
    generalize mBg ζ' tr dk = ζb at bg gat gl
    have g1 : ζb.1 52 1 = 0 := by rw [gat]; simp
    have g24 : ζb.1 52 24 = 0 := by rw [gat]; simp
    have g19 : ζb.1 52 19 = n := by rw [gat]; simpa using b19
    have g64 : ζb.1 64 = ζ'.1 64 := by funext b; rw [gat]; simp
    have g65 : ζb.1 65 = ζ'.1 65 := by funext b; rw [gat]; simp
    have h24 : (hgS ζb 8).1 52 24 = 0 := by rw [hgS_off ζb 8 52 24 (by decide)]; exact g24
    have h1 : (hgS ζb 8).1 52 1 = 0 := by rw [hgS_off ζb 8 52 1 (by decide)]; exact g1
    have h19 : (hgS ζb 8).1 52 19 = n := by rw [hgS_off ζb 8 52 19 (by decide)]; exact g19
    have K1 := rd_l1 (rd_l2 (l := l) (B := B) (items := items) hn5 h24 h1 h19)
    have bat := bL_at (hgS ζb 8) h24 h1
    have hoff := hgS_off ζb 8
    have hon := hgS_on ζb
    have hl9 := hgS_l ζb 8
    generalize hgS ζb 8 = ζh at *
    refine ⟨bL ζh n, ?_, ?_⟩
    · clear bat gat hoff hon h24 h1 h19 g1 g24 g19 g64 g65 b64 b65 hms gl hl9
      refine zrun_intro (M := mX7_read) (ls := [some (.ref 52), none, none]) (by decide) rfl rfl rfl (Nat.le_of_ble_eq_true rfl) ?_
      intro X A C hX hA hr hk
      replace C : CX X B A mX7_read.2.2.2.2 RX7 cX7_read 3 0 0 := C
      have hr : (xMeth X).sig.returnType = (some .int) := hr
      change ZW X B A 3 0 0 _ _ 0 [some (.ref 52), none, none] []
      subst hX
      refine zw_aload_n (i := 0) (nx := 1) C dX7_read_0 rfl rfl rfl ?_
      refine zw_cV01 (nx := 4) C dX7_read_1 rfl cvX7_177 rfl rfl ⟨Nat.le_of_ble_eq_true rfl, Nat.le_of_ble_eq_true rfl⟩ rfl rfl (Nat.le_of_ble_eq_true rfl) r ?_
      refine zw_ist1 (nx := 5) C (eIst_n dX7_read_4 rfl rfl) (Nat.le_of_ble_eq_true rfl) rfl ?_
      refine zw_iload_n (i := 1) (nx := 6) C dX7_read_5 rfl rfl rfl ?_
      refine zw_if_ge (tgt := 17) (nx := 9) C dX7_read_6 rfl rfl (by omega) (fun h6 => ?_) (fun h6 => by exfalso; omega)
      refine zw_aload_n (i := 0) (nx := 18) C dX7_read_17 rfl rfl rfl ?_
      refine zw_aload_n (i := 0) (nx := 19) C dX7_read_18 rfl rfl rfl ?_
      refine zw_geti (nx := 22) C dX7_read_19 rfl flX7_168 iq6 rfl rfl rfl rfl ?_
      rw [b17]
      refine zw_aload_n (i := 0) (nx := 23) C dX7_read_22 rfl rfl rfl ?_
      refine zw_geti (nx := 26) C dX7_read_23 rfl flX7_143 iq6 rfl rfl rfl rfl ?_
      rw [b18]
      refine zw_cV20 (nx := 29) C dX7_read_26 rfl cvX7_75 rfl rfl ⟨Nat.le_of_ble_eq_true rfl, Nat.le_of_ble_eq_true rfl⟩ rfl rfl (Nat.le_of_ble_eq_true rfl) bg ?_
      refine zw_iconst (nx := 30) C dX7_read_29 rfl ?_
      refine zw_ist2 (nx := 31) C (eIst_n dX7_read_30 rfl rfl) (Nat.le_of_ble_eq_true rfl) rfl ?_
      exact K1 X A C rfl hA hr hk
    · have bo : ∀ a b, a ≠ 52 → a ≠ 55 → a ≠ 56 → a ≠ 57 → a ≠ 58 → (bL ζh n).1 a b = ζh.1 a b := fun a b e2 e5 e6 e7 e8 => by
        rw [bat, if_neg (fun q => e5 q.1), if_neg (fun q => e6 q.1), if_neg (fun q => e7 q.1), if_neg (fun q => e8 q.1), if_neg (fun q => e2 q.1)]
      have b52 : ∀ b, b ≠ 1 → (bL ζh n).1 52 b = ζb.1 52 b := fun b e1 => by
        rw [bat, if_neg (fun q => absurd q.1 (by decide)), if_neg (fun q => absurd q.1 (by decide)), if_neg (fun q => absurd q.1 (by decide)), if_neg (fun q => absurd q.1 (by decide)), if_neg (fun q => e1 q.2)]
        exact hoff 52 b (by decide)
      have go : ∀ a b, a ≠ 54 → a ≠ 52 → ζb.1 a b = ζ'.1 a b := fun a b e4 e2 => by
        rw [gat, if_neg (fun q => e4 q.1), if_neg (fun q => e2 q.1), if_neg (fun q => e2 q.1), if_neg (fun q => e2 q.1), if_neg (fun q => e2 q.1), if_neg (fun q => e2 q.1)]
      refine ⟨⟨fun r hr => ?_, ?_⟩, ⟨?_, ?_, ?_, ?_, ?_, ?_⟩, fun y hy => ?_, fun p hp => ?_⟩
      · have ne : ∀ k, k ∈ [52, 54, 55, 56, 57, 58, 64, 65] → r ≠ k := fun k hk e => hr (e ▸ hk)
        have e0 : ζ'.1 r = ζ0.1 r := hms.1.1 r (fun q => hr ((by decide : ∀ x, x ∈ [52, 64, 65] → x ∈ [52, 54, 55, 56, 57, 58, 64, 65]) r q))
        rw [← e0]
        funext b
        rw [bo r b (ne 52 (by decide)) (ne 55 (by decide)) (ne 56 (by decide)) (ne 57 (by decide)) (ne 58 (by decide)), hoff r b (ne 54 (by decide)), go r b (ne 54 (by decide)) (ne 52 (by decide))]
      · rw [bL_l, hl9, gl]; exact hms.1.2
      · rw [bat, if_neg (fun q => absurd q.1 (by decide)), if_neg (fun q => absurd q.1 (by decide)), if_neg (fun q => absurd q.1 (by decide)), if_neg (fun q => absurd q.1 (by decide)), if_pos ⟨rfl, rfl⟩]
      · rw [b52 2 (by decide), gat]; simp
      · rw [b52 3 (by decide), gat]; simp
      · rw [b52 4 (by decide), gat]; simp
      · rw [b52 24 (by decide), gat]; simp
      · rw [b52 15 (by decide), gat]
        simp only [Nat.reduceEqDiff, and_false, false_and, and_true, if_false]
        exact hms.2 15 (by decide)
      · rw [bo 54 y (by decide) (by decide) (by decide) (by decide) (by decide), hon y hy, g65]; exact b65 y hy
      · have hp : p < n := hp
        obtain ⟨x1, x2, x3⟩ := b64 p hp
        have s64 : ∀ b, ζh.1 64 b = ζ'.1 64 b := fun b => by rw [hoff 64 b (by decide), g64]
        refine ⟨?_, ?_, ?_, ?_⟩
        · rw [bat, if_pos ⟨rfl, hp⟩, s64]; exact x1
        · rw [bat, if_neg (fun q => absurd q.1 (by decide)), if_pos ⟨rfl, hp⟩, s64]; exact x2
        · rw [bat, if_neg (fun q => absurd q.1 (by decide)), if_neg (fun q => absurd q.1 (by decide)), if_pos ⟨rfl, hp⟩]
        · rw [bat, if_neg (fun q => absurd q.1 (by decide)), if_neg (fun q => absurd q.1 (by decide)), if_neg (fun q => absurd q.1 (by decide)), if_pos ⟨rfl, hp⟩, s64]; exact x3
end ModE
