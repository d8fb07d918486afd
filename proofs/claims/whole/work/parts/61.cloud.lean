/-! clouds, and eclipses -/
def gcdD (a b : Int) : Nat → Int
  | 0 => 1
  | d + 1 => if (d : Int) + 1 ≤ 1 then 1 else if a % ((d : Int) + 1) = 0 ∧ b % ((d : Int) + 1) = 0 then (d : Int) + 1 else gcdD a b d
theorem gcdD_10 (a : Nat) : gcdD a 10 10 = ((Nat.gcd a 10 : Nat) : Int) := by
  have e : Nat.gcd a 10 = Nat.gcd (a % 10) 10 := by
    rw [Nat.gcd_comm a 10, Nat.gcd_rec 10 a]
  rw [e]
  have h10 : a % 10 < 10 := Nat.mod_lt _ (by decide)
  simp only [gcdD]
  generalize hr : a % 10 = r at h10
  match r, h10 with
  | 0, _ => rw [show Nat.gcd 0 10 = 10 from rfl]; omega
  | 1, _ => rw [show Nat.gcd 1 10 = 1 from rfl]; omega
  | 2, _ => rw [show Nat.gcd 2 10 = 2 from rfl]; omega
  | 3, _ => rw [show Nat.gcd 3 10 = 1 from rfl]; omega
  | 4, _ => rw [show Nat.gcd 4 10 = 2 from rfl]; omega
  | 5, _ => rw [show Nat.gcd 5 10 = 5 from rfl]; omega
  | 6, _ => rw [show Nat.gcd 6 10 = 2 from rfl]; omega
  | 7, _ => rw [show Nat.gcd 7 10 = 1 from rfl]; omega
  | 8, _ => rw [show Nat.gcd 8 10 = 2 from rfl]; omega
  | 9, _ => rw [show Nat.gcd 9 10 = 1 from rfl]; omega
section Cld0
variable {X : eX} {B : eB} {A : Nat → Prop} {R : Room} {own : String} {cc : ByteArray} {nL kc ks : Nat} {Q : State → Prop} {ζ τ : zSt} {pc nx : Nat} {ls : List (Option Value)} {st : List Value} {r : Option Value}
/-- a long against 0, then a branch on equal -/
theorem zw_lcmp0 {a : Int} {off : Int} {p2 tgt : Nat} (C : CX X B A R own cc nL kc ks) (d : decode cc pc = .ok (.lcmp, 1)) (hn : pc + 1 = p2) (d2 : decode cc p2 = .ok (.ifCond .eq off, 3)) (ht : (p2 : Int) + off = (tgt : Int)) (hn2 : p2 + 3 = nx) (h : 0 ≤ a ∧ a ≤ 9223372036854775807) (kt : a = 0 → ZW X B A nL kc ks Q ζ tgt ls st) (kf : a ≠ 0 → ZW X B A nL kc ks Q ζ nx ls st) : ZW X B A nL kc ks Q ζ pc ls (zl 0 :: zl a :: st) := by
  refine ww_lcmp C d hn ?_
  by_cases e : a = 0
  · have : lg_cmp (lI a) (lI 0) = iI 0 := by rw [e]; decide
    rw [this]
    exact zw_if_eq (a := 0) C d2 ht hn2 (by omega) (fun _ => kt e) (fun q => absurd rfl q)
  · have : lg_cmp (lI a) (lI 0) = iI 1 := by
      unfold lg_cmp
      rw [if_pos (by
        show lI 0 < lI a
        rw [Int64.lt_iff_toInt_lt, lI_toInt (by omega), lI_toInt (by omega)]; omega)]
      rfl
    rw [this]
    exact zw_if_eq (a := 1) C d2 ht hn2 (by omega) (fun q => absurd q (by decide)) (fun _ => kf e)
end Cld0
section Cld
variable {l : Launch} {B : eB} {ζ : zSt}
theorem run_X6_commonDivisor {a b : Nat} (ha : a ≤ 100000) (hb : b ≤ 10) : zRun l B mX6_commonDivisor [zi a, zi b] ζ (some (zi (gcdD a b b))) ζ := by
  refine zrun_intro (M := mX6_commonDivisor) (ls := [some (zi a), some (zi b), none]) (by decide) rfl rfl rfl (Nat.le_of_ble_eq_true rfl) ?_
  intro X A C hX hA hr hk
  replace C : CX X B A mX6_commonDivisor.2.2.2.2 RX6 cX6_commonDivisor 3 0 0 := C
  have hr : (xMeth X).sig.returnType = (some .int) := hr
  change ZW X B A 3 0 0 _ _ 0 [some (zi a), some (zi b), none] []
  have loop : ∀ d : Nat, d ≤ 10 → gcdD a b b = gcdD a b d → ZW X B A 3 0 0 (eFin X B (some (zi (gcdD a b b))) (zz ζ)) ζ 2 [some (zi a), some (zi b), some (zi d)] [] := by
    intro d
    induction d with
    | zero =>
      intro _ e
      refine zw_iload_n (i := 2) (nx := 3) C dX6_commonDivisor_2 rfl rfl rfl ?_
      refine zw_iconst (nx := 4) C dX6_commonDivisor_3 rfl ?_
      refine zw_icmp_le (tgt := 27) (nx := 7) C dX6_commonDivisor_4 rfl rfl (by omega) (fun h4 => ?_) (fun h4 => by exfalso; omega)
      refine zw_iconst (nx := 28) C dX6_commonDivisor_27 rfl ?_
      exact zw_iret C hA hr hk dX6_commonDivisor_28 (by rw [e]; rfl) rfl
    | succ d ih =>
      intro hd e
      rw [show (((d + 1 : Nat) : Int)) = (d : Int) + 1 from by omega]
      by_cases h1 : (d : Int) + 1 ≤ 1
      · refine zw_iload_n (i := 2) (nx := 3) C dX6_commonDivisor_2 rfl rfl rfl ?_
        refine zw_iconst (nx := 4) C dX6_commonDivisor_3 rfl ?_
        refine zw_icmp_le (tgt := 27) (nx := 7) C dX6_commonDivisor_4 rfl rfl (by omega) (fun h4 => ?_) (fun h4 => by exfalso; omega)
        refine zw_iconst (nx := 28) C dX6_commonDivisor_27 rfl ?_
        exact zw_iret C hA hr hk dX6_commonDivisor_28 (by rw [e]; exact zr (if_pos h1)) rfl
      · have e2 : gcdD a b (d + 1) = if (a : Int) % ((d : Int) + 1) = 0 ∧ (b : Int) % ((d : Int) + 1) = 0 then (d : Int) + 1 else gcdD a b d := if_neg h1
        have m1 := Int.emod_nonneg (a : Int) (show (d : Int) + 1 ≠ 0 by omega)
        have m2 := Int.emod_lt_of_pos (a : Int) (show 0 < (d : Int) + 1 by omega)
        have m3 := Int.emod_nonneg (b : Int) (show (d : Int) + 1 ≠ 0 by omega)
        have m4 := Int.emod_lt_of_pos (b : Int) (show 0 < (d : Int) + 1 by omega)
        have next : ¬ ((a : Int) % ((d : Int) + 1) = 0 ∧ (b : Int) % ((d : Int) + 1) = 0) → ZW X B A 3 0 0 (eFin X B (some (zi (gcdD a b b))) (zz ζ)) ζ 21 [some (zi a), some (zi b), some (zi ((d : Int) + 1))] [] := by
          intro hno
          refine zw_iinc2 (nx := 24) C dX6_commonDivisor_21 rfl (Nat.le_of_ble_eq_true rfl) rfl ?_
          refine zw_goto (nx := 2) C dX6_commonDivisor_24 rfl ?_
          rw [show ((d : Int) + 1 + -1) = (d : Int) from by omega]
          exact ih (by omega) (by rw [e, e2, if_neg hno])
        refine zw_iload_n (i := 2) (nx := 3) C dX6_commonDivisor_2 rfl rfl rfl ?_
        refine zw_iconst (nx := 4) C dX6_commonDivisor_3 rfl ?_
        refine zw_icmp_le (tgt := 27) (nx := 7) C dX6_commonDivisor_4 rfl rfl (by omega) (fun h4 => by exfalso; omega) (fun h4 => ?_)
        refine zw_iload_n (i := 0) (nx := 8) C dX6_commonDivisor_7 rfl rfl rfl ?_
        refine zw_iload_n (i := 2) (nx := 9) C dX6_commonDivisor_8 rfl rfl rfl ?_
        refine zw_irem (nx := 10) C dX6_commonDivisor_9 (by omega) rfl ?_
        refine zw_if_ne (tgt := 21) (nx := 13) C dX6_commonDivisor_10 rfl rfl (by omega) (fun h10 => ?_) (fun h10 => ?_)
        · exact next (fun q => h10 q.1)
        · refine zw_iload_n (i := 1) (nx := 14) C dX6_commonDivisor_13 rfl rfl rfl ?_
          refine zw_iload_n (i := 2) (nx := 15) C dX6_commonDivisor_14 rfl rfl rfl ?_
          refine zw_irem (nx := 16) C dX6_commonDivisor_15 (by omega) rfl ?_
          refine zw_if_ne (tgt := 21) (nx := 19) C dX6_commonDivisor_16 rfl rfl (by omega) (fun h16 => ?_) (fun h16 => ?_)
          · exact next (fun q => h16 q.2)
          · refine zw_iload_n (i := 2) (nx := 20) C dX6_commonDivisor_19 rfl rfl rfl ?_
            exact zw_iret C hA hr hk dX6_commonDivisor_20 (by rw [e, e2, if_pos ⟨h10, h16⟩]) rfl
  refine zw_iload_n (i := 1) (nx := 1) C dX6_commonDivisor_0 rfl rfl rfl ?_
  refine zw_ist2 (nx := 2) C (eIst_n dX6_commonDivisor_1 rfl rfl) (Nat.le_of_ble_eq_true rfl) rfl ?_
  exact loop b hb rfl
def cTop (ζ : zSt) (n : Nat) (c : Int) : Int := sSum (sNow (cV ζ) n) n * (10 - c)
theorem run_X6_clouds_bad {c : Int} (hc : -2147483648 ≤ c ∧ c ≤ 2147483647) (h : ¬ (0 ≤ c ∧ c ≤ 10)) : zRun l B mX6_clouds [.ref 0, zi c] ζ (some (zi (-2))) (bdS ζ) := by
  refine zrun_intro (M := mX6_clouds) (ls := [some (.ref 0), some (zi c), none, none]) (by decide) rfl rfl rfl (Nat.le_of_ble_eq_true rfl) ?_
  intro X A C hX hA hr hk
  replace C : CX X B A mX6_clouds.2.2.2.2 RX6 cX6_clouds 4 0 0 := C
  have hr : (xMeth X).sig.returnType = (some .int) := hr
  change ZW X B A 4 0 0 _ _ 0 [some (.ref 0), some (zi c), none, none] []
  refine zw_iload_n (i := 1) (nx := 1) C dX6_clouds_0 rfl rfl rfl ?_
  refine zw_bipush (v := 10) (nx := 3) C dX6_clouds_1 (by decide) rfl ?_
  refine zw_cS21 (nx := 6) C dX6_clouds_3 rfl csX6_95 ⟨Nat.le_of_ble_eq_true rfl, Nat.le_of_ble_eq_true rfl⟩ (Nat.le_of_ble_eq_true rfl) (run_X6_within_f hc (by omega) h) ?_
  refine zw_if_ne (tgt := 16) (nx := 9) C dX6_clouds_6 rfl rfl (by omega) (fun h6 => by exfalso; omega) (fun h6 => ?_)
  refine zw_aload_n (i := 0) (nx := 10) C dX6_clouds_9 rfl rfl rfl ?_
  refine zw_bipush (v := -2) (nx := 12) C dX6_clouds_10 (by decide) rfl ?_
  refine zw_cV11 (nx := 15) C dX6_clouds_12 rfl cvX6_71 rfl rfl ⟨Nat.le_of_ble_eq_true rfl, Nat.le_of_ble_eq_true rfl⟩ rfl rfl (Nat.le_of_ble_eq_true rfl) run_X6_bad ?_
  exact zw_iret C hA hr hk dX6_clouds_15 rfl rfl
theorem run_X6_clouds_ok {n a : Nat} {c : Int} (hc : cOk ζ n) (h : 0 ≤ c ∧ c ≤ 10) (ha : cTop ζ n c = a) (ha2 : a ≤ 100000) : zRun l B mX6_clouds [.ref 0, zi c] ζ (some (zi 1)) (zU (zU ζ 0 7 ((a : Int) / (Nat.gcd a 10 : Nat))) 0 8 (10 / ((Nat.gcd a 10 : Nat) : Int))) := by
  have hg1 : 0 < Nat.gcd a 10 := Nat.gcd_pos_of_pos_right a (by decide)
  have hg2 : Nat.gcd a 10 ≤ 10 := Nat.le_of_dvd (by decide) (Nat.gcd_dvd_right a 10)
  have rd := fun X : eX => run_X6_commonDivisor (l := xLa X) (B := B) (ζ := ζ) (a := a) (b := 10) ha2 (by decide)
  rw [show ((10 : Nat) : Int) = 10 from rfl, gcdD_10] at rd
  refine zrun_intro (M := mX6_clouds) (ls := [some (.ref 0), some (zi c), none, none]) (by decide) rfl rfl rfl (Nat.le_of_ble_eq_true rfl) ?_
  intro X A C hX hA hr hk
  replace C : CX X B A mX6_clouds.2.2.2.2 RX6 cX6_clouds 4 0 0 := C
  have hr : (xMeth X).sig.returnType = (some .int) := hr
  change ZW X B A 4 0 0 _ _ 0 [some (.ref 0), some (zi c), none, none] []
  refine zw_iload_n (i := 1) (nx := 1) C dX6_clouds_0 rfl rfl rfl ?_
  refine zw_bipush (v := 10) (nx := 3) C dX6_clouds_1 (by decide) rfl ?_
  refine zw_cS21 (nx := 6) C dX6_clouds_3 rfl csX6_95 ⟨Nat.le_of_ble_eq_true rfl, Nat.le_of_ble_eq_true rfl⟩ (Nat.le_of_ble_eq_true rfl) (run_X6_within_t (by omega) h) ?_
  refine zw_if_ne (tgt := 16) (nx := 9) C dX6_clouds_6 rfl rfl (by omega) (fun h6 => ?_) (fun h6 => by exfalso; omega)
  refine zw_aload_n (i := 0) (nx := 17) C dX6_clouds_16 rfl rfl rfl ?_
  refine zw_getr (nx := 20) C dX6_clouds_17 rfl flX6_12 iq5 rfl rfl rfl rfl ?_
  refine zw_cV01 (nx := 23) C dX6_clouds_20 rfl cvX6_215 rfl rfl ⟨Nat.le_of_ble_eq_true rfl, Nat.le_of_ble_eq_true rfl⟩ rfl rfl (Nat.le_of_ble_eq_true rfl) (run_X2_seenByAll hc) ?_
  refine zw_bipush (v := 10) (nx := 25) C dX6_clouds_23 (by decide) rfl ?_
  refine zw_iload_n (i := 1) (nx := 26) C dX6_clouds_25 rfl rfl rfl ?_
  refine zw_isub (nx := 27) C dX6_clouds_26 rfl ?_
  refine zw_imul (nx := 28) C dX6_clouds_27 rfl ?_
  rw [show sSum (sNow (cV ζ) n) n * (10 - c) = (a : Int) from ha]
  refine zw_ist2 (nx := 29) C (eIst_n dX6_clouds_28 rfl rfl) (Nat.le_of_ble_eq_true rfl) rfl ?_
  refine zw_iload_n (i := 2) (nx := 30) C dX6_clouds_29 rfl rfl rfl ?_
  refine zw_bipush (v := 10) (nx := 32) C dX6_clouds_30 (by decide) rfl ?_
  refine zw_cS21 (nx := 35) C dX6_clouds_32 rfl csX6_218 ⟨Nat.le_of_ble_eq_true rfl, Nat.le_of_ble_eq_true rfl⟩ (Nat.le_of_ble_eq_true rfl) (rd X) ?_
  refine zw_ist3 (nx := 36) C (eIst_n dX6_clouds_35 rfl rfl) (Nat.le_of_ble_eq_true rfl) rfl ?_
  refine zw_aload_n (i := 0) (nx := 37) C dX6_clouds_36 rfl rfl rfl ?_
  refine zw_iload_n (i := 2) (nx := 38) C dX6_clouds_37 rfl rfl rfl ?_
  refine zw_iload_n (i := 3) (nx := 39) C dX6_clouds_38 rfl rfl rfl ?_
  refine zw_idiv (nx := 40) C dX6_clouds_39 (by omega) rfl ?_
  refine zw_puti (nx := 43) C dX6_clouds_40 rfl flX6_51 ic5 nf5_7 rfl rfl rfl rfl rfl ?_
  refine zw_aload_n (i := 0) (nx := 44) C dX6_clouds_43 rfl rfl rfl ?_
  refine zw_bipush (v := 10) (nx := 46) C dX6_clouds_44 (by decide) rfl ?_
  refine zw_iload_n (i := 3) (nx := 47) C dX6_clouds_46 rfl rfl rfl ?_
  refine zw_idiv (nx := 48) C dX6_clouds_47 (by omega) rfl ?_
  refine zw_puti (nx := 51) C dX6_clouds_48 rfl flX6_55 ic5 nf5_8 rfl rfl rfl rfl rfl ?_
  refine zw_iconst (nx := 52) C dX6_clouds_51 rfl ?_
  exact zw_iret C hA hr hk dX6_clouds_52 rfl rfl
set_option maxHeartbeats 4000000 in
theorem run_X7_lay {a : Nat} (ha : a ≤ 100000) : zRun l B mX7_lay [.ref 52, .long (lI a), .long (lI 10)] ζ none (zL (zL ζ 0 ((a : Int) / (Nat.gcd a 10 : Nat))) 1 (10 / ((Nat.gcd a 10 : Nat) : Int))) := by
  have hg1 : 0 < Nat.gcd a 10 := Nat.gcd_pos_of_pos_right a (by decide)
  have hg2 : Nat.gcd a 10 ≤ 10 := Nat.le_of_dvd (by decide) (Nat.gcd_dvd_right a 10)
  refine zrun_intro (M := mX7_lay) (ls := [some (.ref 52), some (.long (lI a)), none, some (.long (lI 10)), none, none, none, none, none, none, none]) (by decide) rfl rfl rfl (Nat.le_of_ble_eq_true rfl) ?_
  intro X A C hX hA hr hk
  replace C : CX X B A mX7_lay.2.2.2.2 RX7 cX7_lay 11 0 0 := C
  have hr : (xMeth X).sig.returnType = none := hr
  change ZW X B A 11 0 0 _ _ 0 [some (.ref 52), some (.long (lI a)), none, some (.long (lI 10)), none, none, none, none, none, none, none] []
  have loop : ∀ k b x : Nat, b ≤ k → k ≤ 100000 → x ≤ 100000 → Nat.gcd x b = Nat.gcd a 10 → ∀ o9 o10 : Option Value, ZW X B A 11 0 0 (eFin X B none (zz (zL (zL ζ 0 ((a : Int) / (Nat.gcd a 10 : Nat))) 1 (10 / ((Nat.gcd a 10 : Nat) : Int))))) ζ 6 [some (.ref 52), some (zl a), none, some (zl 10), none, some (zl x), none, some (zl b), none, o9, o10] [] := by
    intro k
    induction k with
    | zero =>
      intro b x hb _ hx hg o9 o10
      have e : b = 0 := by omega
      subst e
      rw [Nat.gcd_zero_right] at hg
      subst hg
      refine zw_lload (nx := 8) C dX7_lay_6 rfl rfl ?_
      refine zw_lconst (v := 0) (nx := 9) C dX7_lay_8 (by decide) rfl ?_
      refine zw_lcmp0 (tgt := 31) (nx := 13) C dX7_lay_9 rfl dX7_lay_10 rfl rfl (by omega) (fun _ => ?_) (fun q => absurd rfl q)
      refine zw_aload_n (i := 0) (nx := 32) C dX7_lay_31 rfl rfl rfl ?_
      refine zw_lload_n (i := 1) (nx := 33) C dX7_lay_32 rfl rfl rfl ?_
      refine zw_lload (nx := 35) C dX7_lay_33 rfl rfl ?_
      refine zw_ldiv (nx := 36) C dX7_lay_35 (by omega) rfl ?_
      refine zw_putl (nx := 39) C dX7_lay_36 rfl flX7_268 ic6 nf6_27 rfl rfl rfl rfl hu_27 hv_long rfl ?_
      refine zw_aload_n (i := 0) (nx := 40) C dX7_lay_39 rfl rfl rfl ?_
      refine zw_lload_n (i := 3) (nx := 41) C dX7_lay_40 rfl rfl rfl ?_
      refine zw_lload (nx := 43) C dX7_lay_41 rfl rfl ?_
      refine zw_ldiv (nx := 44) C dX7_lay_43 (by omega) rfl ?_
      refine zw_putl (nx := 47) C dX7_lay_44 rfl flX7_65 ic6 nf6_28 rfl rfl rfl rfl hu_28 hv_long rfl ?_
      exact zw_vret C hA hr hk dX7_lay_47 rfl rfl
    | succ k ih =>
      intro b x hb hk1 hx hg o9 o10
      refine zw_lload (nx := 8) C dX7_lay_6 rfl rfl ?_
      refine zw_lconst (v := 0) (nx := 9) C dX7_lay_8 (by decide) rfl ?_
      refine zw_lcmp0 (tgt := 31) (nx := 13) C dX7_lay_9 rfl dX7_lay_10 rfl rfl (by omega) (fun e => ?_) (fun e => ?_)
      · have e0 : b = 0 := by omega
        subst e0
        rw [Nat.gcd_zero_right] at hg
        subst hg
        refine zw_aload_n (i := 0) (nx := 32) C dX7_lay_31 rfl rfl rfl ?_
        refine zw_lload_n (i := 1) (nx := 33) C dX7_lay_32 rfl rfl rfl ?_
        refine zw_lload (nx := 35) C dX7_lay_33 rfl rfl ?_
        refine zw_ldiv (nx := 36) C dX7_lay_35 (by omega) rfl ?_
        refine zw_putl (nx := 39) C dX7_lay_36 rfl flX7_268 ic6 nf6_27 rfl rfl rfl rfl hu_27 hv_long rfl ?_
        refine zw_aload_n (i := 0) (nx := 40) C dX7_lay_39 rfl rfl rfl ?_
        refine zw_lload_n (i := 3) (nx := 41) C dX7_lay_40 rfl rfl rfl ?_
        refine zw_lload (nx := 43) C dX7_lay_41 rfl rfl ?_
        refine zw_ldiv (nx := 44) C dX7_lay_43 (by omega) rfl ?_
        refine zw_putl (nx := 47) C dX7_lay_44 rfl flX7_65 ic6 nf6_28 rfl rfl rfl rfl hu_28 hv_long rfl ?_
        exact zw_vret C hA hr hk dX7_lay_47 rfl rfl
      · refine zw_lload (nx := 15) C dX7_lay_13 rfl rfl ?_
        refine zw_lload (nx := 17) C dX7_lay_15 rfl rfl ?_
        refine zw_lrem (nx := 18) C dX7_lay_17 (by omega) rfl ?_
        refine zw_lst9 (nx := 20) C (eLst_w dX7_lay_18 rfl) (Nat.le_of_ble_eq_true rfl) rfl ?_
        refine zw_lload (nx := 22) C dX7_lay_20 rfl rfl ?_
        refine zw_lst5 (nx := 24) C (eLst_w dX7_lay_22 rfl) (Nat.le_of_ble_eq_true rfl) rfl ?_
        refine zw_lload (nx := 26) C dX7_lay_24 rfl rfl ?_
        refine zw_lst7 (nx := 28) C (eLst_w dX7_lay_26 rfl) (Nat.le_of_ble_eq_true rfl) rfl ?_
        refine zw_goto (nx := 6) C dX7_lay_28 rfl ?_
        have hm := Nat.mod_lt x (show 0 < b by omega)
        have := ih (x % b) b (by omega) (by omega) (by omega) (by rw [← hg, Nat.gcd_comm x b, Nat.gcd_rec b x, Nat.gcd_comm]) (some (zl ((x : Int) % (b : Int)))) none
        rw [show (((x % b : Nat)) : Int) = (x : Int) % (b : Int) from rfl] at this
        exact this
  refine zw_lload_n (i := 1) (nx := 1) C dX7_lay_0 rfl rfl rfl ?_
  refine zw_lst5 (nx := 3) C (eLst_w dX7_lay_1 rfl) (Nat.le_of_ble_eq_true rfl) rfl ?_
  refine zw_lload_n (i := 3) (nx := 4) C dX7_lay_3 rfl rfl rfl ?_
  refine zw_lst7 (nx := 6) C (eLst_w dX7_lay_4 rfl) (Nat.le_of_ble_eq_true rfl) rfl ?_
  exact loop 10 10 a (by omega) (by omega) ha rfl _ _
theorem run_X7_clouds_bad {c : Int} (hc : -2147483648 ≤ c ∧ c ≤ 2147483647) (h : ¬ (0 ≤ c ∧ c ≤ 10)) : zRun l B mX7_clouds [.ref 52, zi c] ζ (some (zi (-2))) (mBd ζ) := by
  refine zrun_intro (M := mX7_clouds) (ls := [some (.ref 52), some (zi c)]) (by decide) rfl rfl rfl (Nat.le_of_ble_eq_true rfl) ?_
  intro X A C hX hA hr hk
  replace C : CX X B A mX7_clouds.2.2.2.2 RX7 cX7_clouds 2 0 0 := C
  have hr : (xMeth X).sig.returnType = (some .int) := hr
  change ZW X B A 2 0 0 _ _ 0 [some (.ref 52), some (zi c)] []
  refine zw_iload_n (i := 1) (nx := 1) C dX7_clouds_0 rfl rfl rfl ?_
  refine zw_iconst (nx := 2) C dX7_clouds_1 rfl ?_
  refine zw_bipush (v := 10) (nx := 4) C dX7_clouds_2 (by decide) rfl ?_
  refine zw_cS31 (nx := 7) C dX7_clouds_4 rfl csX7_88 ⟨Nat.le_of_ble_eq_true rfl, Nat.le_of_ble_eq_true rfl⟩ (Nat.le_of_ble_eq_true rfl) (run_X7_in_f hc (by omega) h) ?_
  refine zw_if_ne (tgt := 15) (nx := 10) C dX7_clouds_7 rfl rfl (by omega) (fun h7 => by exfalso; omega) (fun h7 => ?_)
  refine zw_aload_n (i := 0) (nx := 11) C dX7_clouds_10 rfl rfl rfl ?_
  refine zw_cV01 (nx := 14) C dX7_clouds_11 rfl cvX7_96 rfl rfl ⟨Nat.le_of_ble_eq_true rfl, Nat.le_of_ble_eq_true rfl⟩ rfl rfl (Nat.le_of_ble_eq_true rfl) run_X7_bad ?_
  exact zw_iret C hA hr hk dX7_clouds_14 rfl rfl
theorem run_X7_clouds_ok {n a : Nat} {c : Int} (hc : mOk ζ n) (h : 0 ≤ c ∧ c ≤ 10) (ha : sSum (sOth (mV ζ) n (-1)) n * (10 - c) = a) (ha2 : a ≤ 100000) : zRun l B mX7_clouds [.ref 52, zi c] ζ (some (zi 1)) (zL (zL ζ 0 ((a : Int) / (Nat.gcd a 10 : Nat))) 1 (10 / ((Nat.gcd a 10 : Nat) : Int))) := by
  refine zrun_intro (M := mX7_clouds) (ls := [some (.ref 52), some (zi c)]) (by decide) rfl rfl rfl (Nat.le_of_ble_eq_true rfl) ?_
  intro X A C hX hA hr hk
  replace C : CX X B A mX7_clouds.2.2.2.2 RX7 cX7_clouds 2 0 0 := C
  have hr : (xMeth X).sig.returnType = (some .int) := hr
  change ZW X B A 2 0 0 _ _ 0 [some (.ref 52), some (zi c)] []
  refine zw_iload_n (i := 1) (nx := 1) C dX7_clouds_0 rfl rfl rfl ?_
  refine zw_iconst (nx := 2) C dX7_clouds_1 rfl ?_
  refine zw_bipush (v := 10) (nx := 4) C dX7_clouds_2 (by decide) rfl ?_
  refine zw_cS31 (nx := 7) C dX7_clouds_4 rfl csX7_88 ⟨Nat.le_of_ble_eq_true rfl, Nat.le_of_ble_eq_true rfl⟩ (Nat.le_of_ble_eq_true rfl) (run_X7_in_t (by omega) (by omega) h) ?_
  refine zw_if_ne (tgt := 15) (nx := 10) C dX7_clouds_7 rfl rfl (by omega) (fun h7 => ?_) (fun h7 => by exfalso; omega)
  refine zw_aload_n (i := 0) (nx := 16) C dX7_clouds_15 rfl rfl rfl ?_
  refine zw_aload_n (i := 0) (nx := 17) C dX7_clouds_16 rfl rfl rfl ?_
  refine zw_iconst (nx := 18) C dX7_clouds_17 rfl ?_
  refine zw_cV11 (nx := 21) C dX7_clouds_18 rfl cvX7_242 rfl rfl ⟨Nat.le_of_ble_eq_true rfl, Nat.le_of_ble_eq_true rfl⟩ rfl rfl (Nat.le_of_ble_eq_true rfl) (run_X7_othersSee hc (by omega)) ?_
  refine zw_bipush (v := 10) (nx := 23) C dX7_clouds_21 (by decide) rfl ?_
  refine zw_iload_n (i := 1) (nx := 24) C dX7_clouds_23 rfl rfl rfl ?_
  refine zw_isub (nx := 25) C dX7_clouds_24 rfl ?_
  refine zw_imul (nx := 26) C dX7_clouds_25 rfl ?_
  rw [ha]
  refine zw_i2l (nx := 27) C dX7_clouds_26 (by omega) rfl ?_
  refine zw_ldc2 (v := 10) (nx := 30) C dX7_clouds_27 klX7_271 (by decide) rfl ?_
  refine zw_cV20 (nx := 33) C dX7_clouds_30 rfl cvX7_273 rfl rfl ⟨Nat.le_of_ble_eq_true rfl, Nat.le_of_ble_eq_true rfl⟩ rfl rfl (Nat.le_of_ble_eq_true rfl) (run_X7_lay ha2) ?_
  refine zw_iconst (nx := 34) C dX7_clouds_33 rfl ?_
  exact zw_iret C hA hr hk dX7_clouds_34 rfl rfl
theorem sSum_le {n : Nat} {V : Nat → Nat → Int} (h : vOk V n) : 0 ≤ sSum (sNow V n) n ∧ sSum (sNow V n) n ≤ 1200 := by
  have := sSum_bd (f := sNow V n) (M := 240) (by decide) n (fun q _ => h.now q)
  have := h.1
  omega
theorem st_clouds (hR : Rel ζ) {c : Int} (hc : -2147483648 ≤ c ∧ c ≤ 2147483647) : eStep l B mX6_clouds mX7_clouds [zi c] ζ := by
  obtain ⟨n, c', s, hN⟩ := hR.1
  by_cases h : 0 ≤ c ∧ c ≤ 10
  · have hb := sSum_le hN.cOk.1
    have h0 : 0 ≤ cTop ζ n c ∧ cTop ζ n c ≤ 12000 := by
      unfold cTop
      constructor
      · exact Int.mul_nonneg hb.1 (by omega)
      · have : sSum (sNow (cV ζ) n) n * (10 - c) ≤ 1200 * 10 := Int.mul_le_mul hb.2 (by omega) (by omega) (by decide)
        omega
    obtain ⟨a, ha⟩ := Int.eq_ofNat_of_zero_le h0.1
    have ha2 : a ≤ 12000 := by omega
    have hg1 : 0 < Nat.gcd a 10 := Nat.gcd_pos_of_pos_right a (by decide)
    have hN2 : RelN (zU (zU ζ 0 7 ((a : Int) / (Nat.gcd a 10 : Nat))) 0 8 (10 / ((Nat.gcd a 10 : Nat) : Int))) n c' s := hN.tr (fun x hx => by
      rw [row_off (fun e => by subst e; revert hx; decide), row_off (fun e => by subst e; revert hx; decide)])
    refine ⟨_, _, _, run_X6_clouds_ok hN.cOk h ha (by omega), run_X7_clouds_ok hN2.mOk h (by rw [hN2.agr.all hN2.cOk.1]; exact ha) (by omega), ?_⟩
    obtain ⟨-, ⟨hI, hJ⟩, ⟨t, hT⟩, hS, hF⟩ := hR
    have ro : ∀ x, x ≠ 0 → (zL (zL (zU (zU ζ 0 7 ((a : Int) / (Nat.gcd a 10 : Nat))) 0 8 (10 / ((Nat.gcd a 10 : Nat) : Int))) 0 ((a : Int) / (Nat.gcd a 10 : Nat))) 1 (10 / ((Nat.gcd a 10 : Nat) : Int))).1 x = ζ.1 x := fun x hx => by
      rw [zL_1, zL_1, row_off hx, row_off hx]
    have q1 : 0 ≤ (a : Int) / (Nat.gcd a 10 : Nat) ∧ (a : Int) / (Nat.gcd a 10 : Nat) ≤ 100000 := by
      have := Int.ediv_nonneg (a := (a : Int)) (b := (Nat.gcd a 10 : Nat)) (by omega) (by omega)
      have := Int.ediv_le_self (a := (a : Int)) (Nat.gcd a 10 : Nat) (by omega)
      omega
    have q2 : 0 ≤ 10 / ((Nat.gcd a 10 : Nat) : Int) ∧ 10 / ((Nat.gcd a 10 : Nat) : Int) ≤ 100000 := by
      have := Int.ediv_nonneg (a := (10 : Int)) (b := (Nat.gcd a 10 : Nat)) (by omega) (by omega)
      have := Int.ediv_le_self (a := (10 : Int)) (Nat.gcd a 10 : Nat) (by omega)
      omega
    exact ⟨⟨n, c', s, hN.tr (fun x hx => ro x (fun e => by subst e; revert hx; decide))⟩, ⟨hI.tr0 (fun x hx => ro x (fun e => by subst e; revert hx; decide)), hJ.tr1 (fun x hx => ro x (fun e => by subst e; revert hx; decide))⟩, ⟨t, hT.tr (fun x hx => ro x (fun e => by subst e; revert hx; decide)) (by rw [ro 52 (by decide)])⟩, ⟨hS.1, hS.2.1, hS.2.2⟩, ⟨⟨rfl, rfl⟩, q1, q2⟩⟩
  · exact ⟨_, _, _, run_X6_clouds_bad hc h, run_X7_clouds_bad hc h, rel_bad hR⟩
theorem cnt_bd (hR : Rel ζ) {n c s : Nat} (hN : RelN ζ n c s) (k : Nat) (hk : k < 7) : -2147483648 ≤ cCnt ζ n k ∧ cCnt ζ n k ≤ 2147483647 := by
  obtain ⟨-, -, ⟨t, ⟨t1, -, t3⟩, -⟩, -, -⟩ := hR
  have hc := hN.cOk
  have hn := hc.1.1
  have b1 := sFree_bd (cV ζ) n
  have b2 := sSum_le hc.1
  have b3 := sSum_bd (f := cV ζ 4) (M := 500) (by decide) n (fun q hq => (hc.1.2.2.2.2 q hq).2.2.1)
  have e1 := hN.1
  have e2 := hN.2.1
  match k, hk with
  | 0, _ => show -2147483648 ≤ (n : Int) ∧ (n : Int) ≤ 2147483647; omega
  | 1, _ => show -2147483648 ≤ sFree (cV ζ) n ∧ sFree (cV ζ) n ≤ 2147483647; omega
  | 2, _ => show -2147483648 ≤ sSum (sNow (cV ζ) n) n ∧ sSum (sNow (cV ζ) n) n ≤ 2147483647; omega
  | 3, _ => show -2147483648 ≤ sSum (cV ζ 4) n ∧ sSum (cV ζ 4) n ≤ 2147483647; omega
  | 4, _ => show -2147483648 ≤ ζ.1 1 9 ∧ ζ.1 1 9 ≤ 2147483647; omega
  | 5, _ => show -2147483648 ≤ ζ.1 1 11 ∧ ζ.1 1 11 ≤ 2147483647; omega
  | 6, _ => show -2147483648 ≤ ζ.1 39 1 ∧ ζ.1 39 1 ≤ 2147483647; omega
theorem st_digest (hR : Rel ζ) : eStepL l B mX6_digest mX7_digest [] ζ := by
  obtain ⟨n, c, s, hN⟩ := hR.1
  have hN' := hN
  obtain ⟨⟨e1, e2, e3, e4, e5, e6⟩, ⟨h1, h2, h3⟩, ⟨t1, t2, t3, t4⟩, b2, b3, ⟨b4, b4'⟩, b5, b6⟩ := hN'
  have hR' := hR
  obtain ⟨-, ⟨hI, hJ⟩, ⟨t, hT⟩, hS, hF⟩ := hR'
  obtain ⟨⟨f1, f2⟩, f3, f4⟩ := hF
  have ed : mDig ζ n c = cDig ζ n c := by
    unfold mDig cDig mDg5
    rw [f1, f2, dgF_four]
    have e3' : mDg3 ζ n = cDg3 ζ n := by
      unfold mDg3 cDg3
      rw [dgF_cg 1327 7 (fun k _ => cnt_eq hR hN k), t3, t4, dgF_cg _ 8 (fun y hy => (b2 y hy).2)]
    have e4' : mDg4 ζ n = cDg4 ζ n := by
      unfold mDg4 cDg4
      rw [e3']
      exact dgB_cg _ n (fun p hp => ⟨(b3 p hp).2.2, (b4' p hp).2.1, (b4' p hp).2.2, (b4' p hp).1⟩)
    rw [e4', dgB_cg (a' := fun i => ζ.1 8 (4 * i)) (b' := fun i => ζ.1 8 (4 * i + 1)) (c' := fun i => ζ.1 8 (4 * i + 2)) (d' := fun i => ζ.1 8 (4 * i + 3)) _ c (fun i hi => (b5 i hi).2)]
  have rx := run_X6_digest (l := l) (B := B) hN.cOk e2 h2 (fun i hi => by
      have b := (b5 (i / 4) (by omega)).1
      have hm : i % 4 < 4 := Nat.mod_lt _ (by decide)
      rcases (show i = 4 * (i / 4) ∨ i = 4 * (i / 4) + 1 ∨ i = 4 * (i / 4) + 2 ∨ i = 4 * (i / 4) + 3 by omega) with e | e | e | e <;> rw [e] <;> omega) (cnt_bd hR hN) (by omega) (by omega)
  have rm := run_X7_digest (l := l) (B := B) hN.mOk e5 h2 (fun i hi => by
      obtain ⟨⟨q0, q1, q2, q3⟩, g0, g1, g2, g3⟩ := b5 i hi
      omega) (fun k hk => by rw [cnt_eq hR hN k]; exact cnt_bd hR hN k hk)
  rw [ed] at rm
  refine ⟨_, _, _, rx, rm, ⟨n, c, s, hN⟩, ⟨hI, hJ⟩, ⟨t, hT⟩, hS, ⟨⟨f1, f2⟩, f3, f4⟩⟩
end Cld
