/-! two who choose, of the reference -/
section DueM
variable {l : Launch} {B : eB} {ζ : zSt}
set_option maxHeartbeats 4000000 in
theorem run_X7_gets {n p y q o : Nat} (hc : mOk ζ n) (hp : p < n) (hy : y < 8) (hq : q < n) (ho : o < 8) : zRun l B mX7_gets [.ref 52, zi p, zi y, zi q, zi o] ζ (some (zi (dG (mV ζ) p y q o))) ζ := by
  have hn := hc.1.1
  have hkp : 0 ≤ ζ.1 55 p ∧ ζ.1 55 p ≤ 5 := (hc.1.2.2.2.2 p hp).1
  have hkq : 0 ≤ ζ.1 55 q ∧ ζ.1 55 q ≤ 5 := (hc.1.2.2.2.2 q hq).1
  have hhy : 0 ≤ ζ.1 54 y ∧ ζ.1 54 y ≤ 9 := hc.1.2.2.2.1 y hy
  have hho : 0 ≤ ζ.1 54 o ∧ ζ.1 54 o ≤ 9 := hc.1.2.2.2.1 o ho
  have hhd := sHd_bd (ζ.1 55 q)
  refine zrun_intro (M := mX7_gets) (ls := [some (.ref 52), some (zi p), some (zi y), some (zi q), some (zi o), none]) (by decide) rfl rfl rfl (Nat.le_of_ble_eq_true rfl) ?_
  intro X A C hX hA hr hk
  replace C : CX X B A mX7_gets.2.2.2.2 RX7 cX7_gets 6 0 0 := C
  have hr : (xMeth X).sig.returnType = (some .int) := hr
  change ZW X B A 6 0 0 _ _ 0 [some (.ref 52), some (zi p), some (zi y), some (zi q), some (zi o), none] []
  have op : ¬ y = o → sBl (mV ζ) q o y = false → ZW X B A 6 0 0 (eFin X B (some (zi (dG (mV ζ) p y q o))) (zz ζ)) ζ 44 [some (.ref 52), some (zi p), some (zi y), some (zi q), some (zi o), none] [] := by
    intro e1 e2
    refine zw_iconst (nx := 45) C dX7_gets_44 rfl ?_
    refine zw_ist5 (nx := 47) C (eIst_w dX7_gets_45 rfl) (Nat.le_of_ble_eq_true rfl) rfl ?_
    refine zw_aload_n (i := 0) (nx := 48) C dX7_gets_47 rfl rfl rfl ?_
    refine zw_getr (nx := 51) C dX7_gets_48 rfl flX7_23 iq6 rfl rfl rfl rfl ?_
    refine zw_iload_n (i := 1) (nx := 52) C dX7_gets_51 rfl rfl rfl ?_
    refine zw_iald (p) (nx := 53) C dX7_gets_52 rfl rfl rfl rfl (by omega) ?_
    refine zw_iload (nx := 55) C dX7_gets_53 rfl rfl ?_
    refine zw_if_eq (tgt := 62) (nx := 58) C dX7_gets_55 rfl rfl (by omega) (fun h55 => ?_) (fun h55 => by exfalso; omega)
    refine zw_aload_n (i := 0) (nx := 63) C dX7_gets_62 rfl rfl rfl ?_
    refine zw_iload_n (i := 2) (nx := 64) C dX7_gets_63 rfl rfl rfl ?_
    refine zw_cV11 (nx := 67) C dX7_gets_64 rfl cvX7_180 rfl rfl ⟨Nat.le_of_ble_eq_true rfl, Nat.le_of_ble_eq_true rfl⟩ rfl rfl (Nat.le_of_ble_eq_true rfl) (run_X7_darkIn hc (by omega)) ?_
    refine zw_aload_n (i := 0) (nx := 68) C dX7_gets_67 rfl rfl rfl ?_
    refine zw_getr (nx := 71) C dX7_gets_68 rfl flX7_20 iq6 rfl rfl rfl rfl ?_
    refine zw_iload_n (i := 2) (nx := 72) C dX7_gets_71 rfl rfl rfl ?_
    refine zw_iald (y) (nx := 73) C dX7_gets_72 rfl rfl rfl rfl (by omega) ?_
    refine zw_cS31 (nx := 76) C dX7_gets_73 rfl csX7_189 ⟨Nat.le_of_ble_eq_true rfl, Nat.le_of_ble_eq_true rfl⟩ (Nat.le_of_ble_eq_true rfl) (run_X7_worthBy hkp (hc.1.dk y) hhy) ?_
    exact zw_iret C hA hr hk dX7_gets_76 (zr (by unfold dG; rw [if_neg e1, e2, if_neg (by decide)]; rfl)) rfl
  refine zw_iload_n (i := 2) (nx := 1) C dX7_gets_0 rfl rfl rfl ?_
  refine zw_iload (nx := 3) C dX7_gets_1 rfl rfl ?_
  refine zw_icmp_ne (tgt := 8) (nx := 6) C dX7_gets_3 rfl rfl (by omega) (fun h3 => ?_) (fun h3 => ?_)
  · refine zw_iload (nx := 10) C dX7_gets_8 rfl rfl ?_
    refine zw_iload_n (i := 2) (nx := 11) C dX7_gets_10 rfl rfl rfl ?_
    refine zw_icmp_ge (tgt := 44) (nx := 14) C dX7_gets_11 rfl rfl (by omega) (fun h11 => ?_) (fun h11 => ?_)
    · exact op (by omega) (decide_eq_false (by omega))
    · refine zw_aload_n (i := 0) (nx := 15) C dX7_gets_14 rfl rfl rfl ?_
      refine zw_getr (nx := 18) C dX7_gets_15 rfl flX7_20 iq6 rfl rfl rfl rfl ?_
      refine zw_iload (nx := 20) C dX7_gets_18 rfl rfl ?_
      refine zw_iald (o) (nx := 21) C dX7_gets_20 rfl rfl rfl rfl (by omega) ?_
      refine zw_aload_n (i := 0) (nx := 22) C dX7_gets_21 rfl rfl rfl ?_
      refine zw_getr (nx := 25) C dX7_gets_22 rfl flX7_23 iq6 rfl rfl rfl rfl ?_
      refine zw_iload_n (i := 3) (nx := 26) C dX7_gets_25 rfl rfl rfl ?_
      refine zw_iald (q) (nx := 27) C dX7_gets_26 rfl rfl rfl rfl (by omega) ?_
      refine zw_cS11 (nx := 30) C dX7_gets_27 rfl csX7_183 ⟨Nat.le_of_ble_eq_true rfl, Nat.le_of_ble_eq_true rfl⟩ (Nat.le_of_ble_eq_true rfl) (run_X7_headBy hkq) ?_
      refine zw_iadd (nx := 31) C dX7_gets_30 rfl ?_
      refine zw_aload_n (i := 0) (nx := 32) C dX7_gets_31 rfl rfl rfl ?_
      refine zw_getr (nx := 35) C dX7_gets_32 rfl flX7_20 iq6 rfl rfl rfl rfl ?_
      refine zw_iload_n (i := 2) (nx := 36) C dX7_gets_35 rfl rfl rfl ?_
      refine zw_iald (y) (nx := 37) C dX7_gets_36 rfl rfl rfl rfl (by omega) ?_
      refine zw_icmp_le (tgt := 44) (nx := 40) C dX7_gets_37 rfl rfl (by omega) (fun h37 => ?_) (fun h37 => ?_)
      · refine op (by omega) (decide_eq_false (fun z => ?_))
        have z2 : ζ.1 54 y < ζ.1 54 o + sHd (ζ.1 55 q) := z.2
        omega
      · have e2 : sBl (mV ζ) q o y = true := decide_eq_true ⟨by omega, by show ζ.1 54 y < ζ.1 54 o + sHd (ζ.1 55 q); omega⟩
        refine zw_iconst (nx := 41) C dX7_gets_40 rfl ?_
        refine zw_goto (nx := 45) C dX7_gets_41 rfl ?_
        refine zw_ist5 (nx := 47) C (eIst_w dX7_gets_45 rfl) (Nat.le_of_ble_eq_true rfl) rfl ?_
        refine zw_aload_n (i := 0) (nx := 48) C dX7_gets_47 rfl rfl rfl ?_
        refine zw_getr (nx := 51) C dX7_gets_48 rfl flX7_23 iq6 rfl rfl rfl rfl ?_
        refine zw_iload_n (i := 1) (nx := 52) C dX7_gets_51 rfl rfl rfl ?_
        refine zw_iald (p) (nx := 53) C dX7_gets_52 rfl rfl rfl rfl (by omega) ?_
        refine zw_iload (nx := 55) C dX7_gets_53 rfl rfl ?_
        refine zw_if_eq (tgt := 62) (nx := 58) C dX7_gets_55 rfl rfl (by omega) (fun h55 => by exfalso; omega) (fun h55 => ?_)
        refine zw_iconst (nx := 59) C dX7_gets_58 rfl ?_
        refine zw_goto (nx := 67) C dX7_gets_59 rfl ?_
        refine zw_aload_n (i := 0) (nx := 68) C dX7_gets_67 rfl rfl rfl ?_
        refine zw_getr (nx := 71) C dX7_gets_68 rfl flX7_20 iq6 rfl rfl rfl rfl ?_
        refine zw_iload_n (i := 2) (nx := 72) C dX7_gets_71 rfl rfl rfl ?_
        refine zw_iald (y) (nx := 73) C dX7_gets_72 rfl rfl rfl rfl (by omega) ?_
        refine zw_cS31 (nx := 76) C dX7_gets_73 rfl csX7_189 ⟨Nat.le_of_ble_eq_true rfl, Nat.le_of_ble_eq_true rfl⟩ (Nat.le_of_ble_eq_true rfl) (run_X7_worthBy hkp (by omega) hhy) ?_
        exact zw_iret C hA hr hk dX7_gets_76 (zr (by unfold dG; rw [if_neg (by omega), if_pos e2, sWo_0])) rfl
  · refine zw_iconst (nx := 7) C dX7_gets_6 rfl ?_
    exact zw_iret C hA hr hk dX7_gets_7 (zr (if_pos (by omega))) rfl
set_option maxHeartbeats 4000000 in
theorem run_X7_rests {n a i b j : Nat} (hc : mOk ζ n) (ha : a < n) (hi : i < 8) (hb : b < n) (hj : j < 8) : zRun l B mX7_rests [.ref 52, zi a, zi i, zi b, zi j] ζ (some (zi (b2i (rA (mV ζ) a b i j 8)))) ζ := by
  have g1 := dG_bd hc.1 a b j hi
  have g2 := dG_bd hc.1 b a i hj
  refine zrun_intro (M := mX7_rests) (ls := [some (.ref 52), some (zi a), some (zi i), some (zi b), some (zi j), none, none]) (by decide) rfl rfl rfl (Nat.le_of_ble_eq_true rfl) ?_
  intro X A C hX hA hr hk
  replace C : CX X B A mX7_rests.2.2.2.2 RX7 cX7_rests 7 0 0 := C
  have hr : (xMeth X).sig.returnType = (some .boolean) := hr
  change ZW X B A 7 0 0 _ _ 0 [some (.ref 52), some (zi a), some (zi i), some (zi b), some (zi j), none, none] []
  have loop : ∀ m y : Nat, y + m = 8 → ZW X B A 7 0 0 (eFin X B (some (zi (b2i (rA (mV ζ) a b i j 8)))) (zz ζ)) ζ 6 [some (.ref 52), some (zi a), some (zi i), some (zi b), some (zi j), some (zi (b2i (rA (mV ζ) a b i j y))), some (zi y)] [] := by
    intro m
    induction m with
    | zero =>
      intro y hym
      have e : y = 8 := by omega
      subst e
      refine zw_iload (nx := 8) C dX7_rests_6 rfl rfl ?_
      refine zw_bipush (v := 8) (nx := 10) C dX7_rests_8 (by decide) rfl ?_
      refine zw_icmp_ge (tgt := 74) (nx := 13) C dX7_rests_10 rfl rfl (by omega) (fun h10 => ?_) (fun h10 => by exfalso; omega)
      refine zw_iload (nx := 76) C dX7_rests_74 rfl rfl ?_
      exact zw_bret C hA hr hk dX7_rests_76 rfl rfl rfl
    | succ m ih =>
      intro y hym
      have g3 := dG_bd hc.1 a b j (show y < 8 by omega)
      have g4 := dG_bd hc.1 b a i (show y < 8 by omega)
      have step : rA (mV ζ) a b i j (y + 1) = (rA (mV ζ) a b i j y && decide (dG (mV ζ) a y b j ≤ dG (mV ζ) a i b j ∧ dG (mV ζ) b y a i ≤ dG (mV ζ) b j a i)) := rfl
      have no : rA (mV ζ) a b i j (y + 1) = false → ZW X B A 7 0 0 (eFin X B (some (zi (b2i (rA (mV ζ) a b i j 8)))) (zz ζ)) ζ 65 [some (.ref 52), some (zi a), some (zi i), some (zi b), some (zi j), some (zi (b2i (rA (mV ζ) a b i j y))), some (zi y)] [] := by
        intro e
        refine zw_iconst (nx := 66) C dX7_rests_65 rfl ?_
        refine zw_ist5 (nx := 68) C (eIst_w dX7_rests_66 rfl) (Nat.le_of_ble_eq_true rfl) rfl ?_
        refine zw_iinc6 (nx := 71) C dX7_rests_68 rfl (Nat.le_of_ble_eq_true rfl) rfl ?_
        refine zw_goto (nx := 6) C dX7_rests_71 rfl ?_
        have := ih (y + 1) (by omega)
        rw [e] at this
        exact this
      refine zw_iload (nx := 8) C dX7_rests_6 rfl rfl ?_
      refine zw_bipush (v := 8) (nx := 10) C dX7_rests_8 (by decide) rfl ?_
      refine zw_icmp_ge (tgt := 74) (nx := 13) C dX7_rests_10 rfl rfl (by omega) (fun h10 => by exfalso; omega) (fun h10 => ?_)
      refine zw_iload (nx := 15) C dX7_rests_13 rfl rfl ?_
      refine zw_ifb_eq (tgt := 65) (nx := 18) C dX7_rests_15 rfl rfl (fun h15 => ?_) (fun h15 => ?_)
      · exact no (by rw [step, h15]; rfl)
      · refine zw_aload_n (i := 0) (nx := 19) C dX7_rests_18 rfl rfl rfl ?_
        refine zw_iload_n (i := 1) (nx := 20) C dX7_rests_19 rfl rfl rfl ?_
        refine zw_iload_n (i := 2) (nx := 21) C dX7_rests_20 rfl rfl rfl ?_
        refine zw_iload_n (i := 3) (nx := 22) C dX7_rests_21 rfl rfl rfl ?_
        refine zw_iload (nx := 24) C dX7_rests_22 rfl rfl ?_
        refine zw_cV41 (nx := 27) C dX7_rests_24 rfl cvX7_261 rfl rfl ⟨Nat.le_of_ble_eq_true rfl, Nat.le_of_ble_eq_true rfl⟩ rfl rfl (Nat.le_of_ble_eq_true rfl) (run_X7_gets hc ha hi hb hj) ?_
        refine zw_aload_n (i := 0) (nx := 28) C dX7_rests_27 rfl rfl rfl ?_
        refine zw_iload_n (i := 1) (nx := 29) C dX7_rests_28 rfl rfl rfl ?_
        refine zw_iload (nx := 31) C dX7_rests_29 rfl rfl ?_
        refine zw_iload_n (i := 3) (nx := 32) C dX7_rests_31 rfl rfl rfl ?_
        refine zw_iload (nx := 34) C dX7_rests_32 rfl rfl ?_
        refine zw_cV41 (nx := 37) C dX7_rests_34 rfl cvX7_261 rfl rfl ⟨Nat.le_of_ble_eq_true rfl, Nat.le_of_ble_eq_true rfl⟩ rfl rfl (Nat.le_of_ble_eq_true rfl) (run_X7_gets hc ha (by omega) hb hj) ?_
        refine zw_icmp_lt (tgt := 65) (nx := 40) C dX7_rests_37 rfl rfl (by omega) (fun h37 => ?_) (fun h37 => ?_)
        · exact no (by rw [step, decide_eq_false (fun q => by omega), Bool.and_false])
        · refine zw_aload_n (i := 0) (nx := 41) C dX7_rests_40 rfl rfl rfl ?_
          refine zw_iload_n (i := 3) (nx := 42) C dX7_rests_41 rfl rfl rfl ?_
          refine zw_iload (nx := 44) C dX7_rests_42 rfl rfl ?_
          refine zw_iload_n (i := 1) (nx := 45) C dX7_rests_44 rfl rfl rfl ?_
          refine zw_iload_n (i := 2) (nx := 46) C dX7_rests_45 rfl rfl rfl ?_
          refine zw_cV41 (nx := 49) C dX7_rests_46 rfl cvX7_261 rfl rfl ⟨Nat.le_of_ble_eq_true rfl, Nat.le_of_ble_eq_true rfl⟩ rfl rfl (Nat.le_of_ble_eq_true rfl) (run_X7_gets hc hb hj ha hi) ?_
          refine zw_aload_n (i := 0) (nx := 50) C dX7_rests_49 rfl rfl rfl ?_
          refine zw_iload_n (i := 3) (nx := 51) C dX7_rests_50 rfl rfl rfl ?_
          refine zw_iload (nx := 53) C dX7_rests_51 rfl rfl ?_
          refine zw_iload_n (i := 1) (nx := 54) C dX7_rests_53 rfl rfl rfl ?_
          refine zw_iload_n (i := 2) (nx := 55) C dX7_rests_54 rfl rfl rfl ?_
          refine zw_cV41 (nx := 58) C dX7_rests_55 rfl cvX7_261 rfl rfl ⟨Nat.le_of_ble_eq_true rfl, Nat.le_of_ble_eq_true rfl⟩ rfl rfl (Nat.le_of_ble_eq_true rfl) (run_X7_gets hc hb (by omega) ha hi) ?_
          refine zw_icmp_lt (tgt := 65) (nx := 61) C dX7_rests_58 rfl rfl (by omega) (fun h58 => ?_) (fun h58 => ?_)
          · exact no (by rw [step, decide_eq_false (fun q => by omega), Bool.and_false])
          · have e : rA (mV ζ) a b i j (y + 1) = true := by rw [step, h15, decide_eq_true ⟨by omega, by omega⟩]; rfl
            refine zw_iconst (nx := 62) C dX7_rests_61 rfl ?_
            refine zw_goto (nx := 66) C dX7_rests_62 rfl ?_
            refine zw_ist5 (nx := 68) C (eIst_w dX7_rests_66 rfl) (Nat.le_of_ble_eq_true rfl) rfl ?_
            refine zw_iinc6 (nx := 71) C dX7_rests_68 rfl (Nat.le_of_ble_eq_true rfl) rfl ?_
            refine zw_goto (nx := 6) C dX7_rests_71 rfl ?_
            have := ih (y + 1) (by omega)
            rw [e] at this
            exact this
  refine zw_iconst (nx := 1) C dX7_rests_0 rfl ?_
  refine zw_ist5 (nx := 3) C (eIst_w dX7_rests_1 rfl) (Nat.le_of_ble_eq_true rfl) rfl ?_
  refine zw_iconst (nx := 4) C dX7_rests_3 rfl ?_
  refine zw_ist6 (nx := 6) C (eIst_w dX7_rests_4 rfl) (Nat.le_of_ble_eq_true rfl) rfl ?_
  exact loop 8 0 (by omega)
theorem run_X7_two_bad {n : Nat} (hn : n ≤ 5) (hn3 : ζ.1 52 1 = n) {a b k : Int} (ha : -2147483648 ≤ a ∧ a ≤ 2147483647) (hb : -2147483648 ≤ b ∧ b ≤ 2147483647) (hk9 : -2147483648 ≤ k ∧ k ≤ 2147483647) (h : ¬ ((0 ≤ a ∧ a < n) ∧ (0 ≤ b ∧ b < n) ∧ a ≠ b ∧ -1 ≤ k)) : zRun l B mX7_two [.ref 52, zi a, zi b, zi k] ζ (some (zi (-10))) (mBd ζ) := by
  refine zrun_intro (M := mX7_two) (ls := [some (.ref 52), some (zi a), some (zi b), some (zi k), none, none, none, none]) (by decide) rfl rfl rfl (Nat.le_of_ble_eq_true rfl) ?_
  intro X A C hX hA hr hk
  replace C : CX X B A mX7_two.2.2.2.2 RX7 cX7_two 8 0 0 := C
  have hr : (xMeth X).sig.returnType = (some .int) := hr
  change ZW X B A 8 0 0 _ _ 0 [some (.ref 52), some (zi a), some (zi b), some (zi k), none, none, none, none] []
  by_cases h1 : 0 ≤ a ∧ a < n
  · by_cases h2 : 0 ≤ b ∧ b < n
    · by_cases h3 : a = b
      · refine zw_aload_n (i := 0) (nx := 1) C dX7_two_0 rfl rfl rfl ?_
        refine zw_iload_n (i := 1) (nx := 2) C dX7_two_1 rfl rfl rfl ?_
        refine zw_cV11 (nx := 5) C dX7_two_2 rfl cvX7_212 rfl rfl ⟨Nat.le_of_ble_eq_true rfl, Nat.le_of_ble_eq_true rfl⟩ rfl rfl (Nat.le_of_ble_eq_true rfl) (run_X7_isOne_t hn hn3 h1) ?_
        refine zw_if_eq (tgt := 26) (nx := 8) C dX7_two_5 rfl rfl (by omega) (fun h5 => by exfalso; omega) (fun h5 => ?_)
        refine zw_aload_n (i := 0) (nx := 9) C dX7_two_8 rfl rfl rfl ?_
        refine zw_iload_n (i := 2) (nx := 10) C dX7_two_9 rfl rfl rfl ?_
        refine zw_cV11 (nx := 13) C dX7_two_10 rfl cvX7_212 rfl rfl ⟨Nat.le_of_ble_eq_true rfl, Nat.le_of_ble_eq_true rfl⟩ rfl rfl (Nat.le_of_ble_eq_true rfl) (run_X7_isOne_t hn hn3 h2) ?_
        refine zw_if_eq (tgt := 26) (nx := 16) C dX7_two_13 rfl rfl (by omega) (fun h13 => by exfalso; omega) (fun h13 => ?_)
        refine zw_iload_n (i := 1) (nx := 17) C dX7_two_16 rfl rfl rfl ?_
        refine zw_iload_n (i := 2) (nx := 18) C dX7_two_17 rfl rfl rfl ?_
        refine zw_icmp_eq (tgt := 26) (nx := 21) C dX7_two_18 rfl rfl (by omega) (fun h18 => ?_) (fun h18 => by exfalso; omega)
        refine zw_aload_n (i := 0) (nx := 27) C dX7_two_26 rfl rfl rfl ?_
        refine zw_cV01 (nx := 30) C dX7_two_27 rfl cvX7_221 rfl rfl ⟨Nat.le_of_ble_eq_true rfl, Nat.le_of_ble_eq_true rfl⟩ rfl rfl (Nat.le_of_ble_eq_true rfl) run_X7_ten ?_
        exact zw_iret C hA hr hk dX7_two_30 rfl rfl
      · refine zw_aload_n (i := 0) (nx := 1) C dX7_two_0 rfl rfl rfl ?_
        refine zw_iload_n (i := 1) (nx := 2) C dX7_two_1 rfl rfl rfl ?_
        refine zw_cV11 (nx := 5) C dX7_two_2 rfl cvX7_212 rfl rfl ⟨Nat.le_of_ble_eq_true rfl, Nat.le_of_ble_eq_true rfl⟩ rfl rfl (Nat.le_of_ble_eq_true rfl) (run_X7_isOne_t hn hn3 h1) ?_
        refine zw_if_eq (tgt := 26) (nx := 8) C dX7_two_5 rfl rfl (by omega) (fun h5 => by exfalso; omega) (fun h5 => ?_)
        refine zw_aload_n (i := 0) (nx := 9) C dX7_two_8 rfl rfl rfl ?_
        refine zw_iload_n (i := 2) (nx := 10) C dX7_two_9 rfl rfl rfl ?_
        refine zw_cV11 (nx := 13) C dX7_two_10 rfl cvX7_212 rfl rfl ⟨Nat.le_of_ble_eq_true rfl, Nat.le_of_ble_eq_true rfl⟩ rfl rfl (Nat.le_of_ble_eq_true rfl) (run_X7_isOne_t hn hn3 h2) ?_
        refine zw_if_eq (tgt := 26) (nx := 16) C dX7_two_13 rfl rfl (by omega) (fun h13 => by exfalso; omega) (fun h13 => ?_)
        refine zw_iload_n (i := 1) (nx := 17) C dX7_two_16 rfl rfl rfl ?_
        refine zw_iload_n (i := 2) (nx := 18) C dX7_two_17 rfl rfl rfl ?_
        refine zw_icmp_eq (tgt := 26) (nx := 21) C dX7_two_18 rfl rfl (by omega) (fun h18 => by exfalso; omega) (fun h18 => ?_)
        refine zw_iload_n (i := 3) (nx := 22) C dX7_two_21 rfl rfl rfl ?_
        refine zw_iconst (nx := 23) C dX7_two_22 rfl ?_
        refine zw_icmp_ge (tgt := 31) (nx := 26) C dX7_two_23 rfl rfl (by omega) (fun h23 => by exfalso; omega) (fun h23 => ?_)
        refine zw_aload_n (i := 0) (nx := 27) C dX7_two_26 rfl rfl rfl ?_
        refine zw_cV01 (nx := 30) C dX7_two_27 rfl cvX7_221 rfl rfl ⟨Nat.le_of_ble_eq_true rfl, Nat.le_of_ble_eq_true rfl⟩ rfl rfl (Nat.le_of_ble_eq_true rfl) run_X7_ten ?_
        exact zw_iret C hA hr hk dX7_two_30 rfl rfl
    · refine zw_aload_n (i := 0) (nx := 1) C dX7_two_0 rfl rfl rfl ?_
      refine zw_iload_n (i := 1) (nx := 2) C dX7_two_1 rfl rfl rfl ?_
      refine zw_cV11 (nx := 5) C dX7_two_2 rfl cvX7_212 rfl rfl ⟨Nat.le_of_ble_eq_true rfl, Nat.le_of_ble_eq_true rfl⟩ rfl rfl (Nat.le_of_ble_eq_true rfl) (run_X7_isOne_t hn hn3 h1) ?_
      refine zw_if_eq (tgt := 26) (nx := 8) C dX7_two_5 rfl rfl (by omega) (fun h5 => by exfalso; omega) (fun h5 => ?_)
      refine zw_aload_n (i := 0) (nx := 9) C dX7_two_8 rfl rfl rfl ?_
      refine zw_iload_n (i := 2) (nx := 10) C dX7_two_9 rfl rfl rfl ?_
      refine zw_cV11 (nx := 13) C dX7_two_10 rfl cvX7_212 rfl rfl ⟨Nat.le_of_ble_eq_true rfl, Nat.le_of_ble_eq_true rfl⟩ rfl rfl (Nat.le_of_ble_eq_true rfl) (run_X7_isOne_f hn hn3 hb h2) ?_
      refine zw_if_eq (tgt := 26) (nx := 16) C dX7_two_13 rfl rfl (by omega) (fun h13 => ?_) (fun h13 => by exfalso; omega)
      refine zw_aload_n (i := 0) (nx := 27) C dX7_two_26 rfl rfl rfl ?_
      refine zw_cV01 (nx := 30) C dX7_two_27 rfl cvX7_221 rfl rfl ⟨Nat.le_of_ble_eq_true rfl, Nat.le_of_ble_eq_true rfl⟩ rfl rfl (Nat.le_of_ble_eq_true rfl) run_X7_ten ?_
      exact zw_iret C hA hr hk dX7_two_30 rfl rfl
  · refine zw_aload_n (i := 0) (nx := 1) C dX7_two_0 rfl rfl rfl ?_
    refine zw_iload_n (i := 1) (nx := 2) C dX7_two_1 rfl rfl rfl ?_
    refine zw_cV11 (nx := 5) C dX7_two_2 rfl cvX7_212 rfl rfl ⟨Nat.le_of_ble_eq_true rfl, Nat.le_of_ble_eq_true rfl⟩ rfl rfl (Nat.le_of_ble_eq_true rfl) (run_X7_isOne_f hn hn3 ha h1) ?_
    refine zw_if_eq (tgt := 26) (nx := 8) C dX7_two_5 rfl rfl (by omega) (fun h5 => ?_) (fun h5 => by exfalso; omega)
    refine zw_aload_n (i := 0) (nx := 27) C dX7_two_26 rfl rfl rfl ?_
    refine zw_cV01 (nx := 30) C dX7_two_27 rfl cvX7_221 rfl rfl ⟨Nat.le_of_ble_eq_true rfl, Nat.le_of_ble_eq_true rfl⟩ rfl rfl (Nat.le_of_ble_eq_true rfl) run_X7_ten ?_
    exact zw_iret C hA hr hk dX7_two_30 rfl rfl
set_option maxHeartbeats 8000000 in
theorem run_X7_two_ok {n a b : Nat} {k : Int} (hc : mOk ζ n) (ha : a < n) (hb : b < n) (hab : a ≠ b) (hk1 : -1 ≤ k ∧ k ≤ 2147483647) : zRun l B mX7_two [.ref 52, zi a, zi b, zi k] ζ (some (zi (tTwo (rT (mV ζ) a b) k))) ζ := by
  have hn := hc.1.1
  have rr : ∀ i j : Nat, i < 8 → j < 8 → zRun l B mX7_rests [.ref 52, zi a, zi i, zi b, zi j] ζ (some (zi (b2i (rT (mV ζ) a b (8 * i + j))))) ζ := by
    intro i j hi hj
    rw [rT_at _ a b hj]
    exact run_X7_rests hc ha hi hb hj
  generalize rT (mV ζ) a b = r at rr
  refine zrun_intro (M := mX7_two) (ls := [some (.ref 52), some (zi a), some (zi b), some (zi k), none, none, none, none]) (by decide) rfl rfl rfl (Nat.le_of_ble_eq_true rfl) ?_
  intro X A C hX hA hr hk
  replace C : CX X B A mX7_two.2.2.2.2 RX7 cX7_two 8 0 0 := C
  have hr : (xMeth X).sig.returnType = (some .int) := hr
  change ZW X B A 8 0 0 _ _ 0 [some (.ref 52), some (zi a), some (zi b), some (zi k), none, none, none, none] []
  have l1 : ∀ m i : Nat, i + m = 8 → ∀ o7 : Option Value, ZW X B A 8 0 0 (eFin X B (some (zi (tTwo r k))) (zz ζ)) ζ 41 [some (.ref 52), some (zi a), some (zi b), some (zi k), some (zi (cN r (8 * i))), some (zi (tW r k (8 * i))), some (zi i), o7] [] := by
    intro m
    induction m with
    | zero =>
      intro i him o7
      have e : i = 8 := by omega
      subst e
      refine zw_iload (nx := 43) C dX7_two_41 rfl rfl ?_
      refine zw_bipush (v := 8) (nx := 45) C dX7_two_43 (by decide) rfl ?_
      refine zw_icmp_ge (tgt := 107) (nx := 48) C dX7_two_45 rfl rfl (by omega) (fun h45 => ?_) (fun h45 => by exfalso; omega)
      refine zw_iload_n (i := 3) (nx := 108) C dX7_two_107 rfl rfl rfl ?_
      refine zw_iconst (nx := 109) C dX7_two_108 rfl ?_
      refine zw_icmp_ne (tgt := 117) (nx := 112) C dX7_two_109 rfl rfl (by omega) (fun h109 => ?_) (fun h109 => ?_)
      · refine zw_iload (nx := 119) C dX7_two_117 rfl rfl ?_
        exact zw_iret C hA hr hk dX7_two_119 (zr (if_neg h109)) rfl
      · refine zw_iload (nx := 114) C dX7_two_112 rfl rfl ?_
        refine zw_goto (nx := 119) C dX7_two_114 rfl ?_
        exact zw_iret C hA hr hk dX7_two_119 (zr (if_pos h109)) rfl
    | succ m ih =>
      intro i him o7
      have l2 : ∀ m j : Nat, j + m = 8 → ZW X B A 8 0 0 (eFin X B (some (zi (tTwo r k))) (zz ζ)) ζ 51 [some (.ref 52), some (zi a), some (zi b), some (zi k), some (zi (cN r (8 * i + j))), some (zi (tW r k (8 * i + j))), some (zi i), some (zi j)] [] := by
        intro m
        induction m with
        | zero =>
          intro j hjm
          have e : j = 8 := by omega
          subst e
          refine zw_iload (nx := 53) C dX7_two_51 rfl rfl ?_
          refine zw_bipush (v := 8) (nx := 55) C dX7_two_53 (by decide) rfl ?_
          refine zw_icmp_ge (tgt := 101) (nx := 58) C dX7_two_55 rfl rfl (by omega) (fun h55 => ?_) (fun h55 => by exfalso; omega)
          refine zw_iinc6 (nx := 104) C dX7_two_101 rfl (Nat.le_of_ble_eq_true rfl) rfl ?_
          refine zw_goto (nx := 41) C dX7_two_104 rfl ?_
          exact ih (i + 1) (by omega) _
        | succ m ih2 =>
          intro j hjm
          have hcn := cN_le r (8 * i + j)
          refine zw_iload (nx := 53) C dX7_two_51 rfl rfl ?_
          refine zw_bipush (v := 8) (nx := 55) C dX7_two_53 (by decide) rfl ?_
          refine zw_icmp_ge (tgt := 101) (nx := 58) C dX7_two_55 rfl rfl (by omega) (fun h55 => by exfalso; omega) (fun h55 => ?_)
          refine zw_aload_n (i := 0) (nx := 59) C dX7_two_58 rfl rfl rfl ?_
          refine zw_iload_n (i := 1) (nx := 60) C dX7_two_59 rfl rfl rfl ?_
          refine zw_iload (nx := 62) C dX7_two_60 rfl rfl ?_
          refine zw_iload_n (i := 2) (nx := 63) C dX7_two_62 rfl rfl rfl ?_
          refine zw_iload (nx := 65) C dX7_two_63 rfl rfl ?_
          refine zw_cV41 (nx := 68) C dX7_two_65 rfl cvX7_265 rfl rfl ⟨Nat.le_of_ble_eq_true rfl, Nat.le_of_ble_eq_true rfl⟩ rfl rfl (Nat.le_of_ble_eq_true rfl) (by rw [hX]; exact rr i j (by omega) (by omega)) ?_
          refine zw_ifb_eq (tgt := 95) (nx := 71) C dX7_two_68 rfl rfl (fun h68 => ?_) (fun h68 => ?_)
          · have e : cN r (8 * i + j + 1) = cN r (8 * i + j) := if_neg (by rw [h68]; decide)
            have e2 : tW r k (8 * i + j + 1) = tW r k (8 * i + j) := if_neg (fun q => by rw [h68] at q; cases q.1)
            rw [← e, ← e2]
            refine zw_iinc7 (nx := 98) C dX7_two_95 rfl (Nat.le_of_ble_eq_true rfl) rfl ?_
            refine zw_goto (nx := 51) C dX7_two_98 rfl ?_
            exact ih2 (j + 1) (by omega)
          · have e : cN r (8 * i + j + 1) = cN r (8 * i + j) + 1 := if_pos h68
            refine zw_iload (nx := 73) C dX7_two_71 rfl rfl ?_
            refine zw_iload_n (i := 3) (nx := 74) C dX7_two_73 rfl rfl rfl ?_
            refine zw_icmp_ne (tgt := 88) (nx := 77) C dX7_two_74 rfl rfl (by omega) (fun h74 => ?_) (fun h74 => ?_)
            · have e2 : tW r k (8 * i + j + 1) = tW r k (8 * i + j) := if_neg (fun q => h74 q.2)
              refine zw_iload (nx := 90) C dX7_two_88 rfl rfl ?_
              refine zw_ist5 (nx := 92) C (eIst_w dX7_two_90 rfl) (Nat.le_of_ble_eq_true rfl) rfl ?_
              refine zw_iinc4 (nx := 95) C dX7_two_92 rfl (Nat.le_of_ble_eq_true rfl) rfl ?_
              refine zw_iinc7 (nx := 98) C dX7_two_95 rfl (Nat.le_of_ble_eq_true rfl) rfl ?_
              refine zw_goto (nx := 51) C dX7_two_98 rfl ?_
              have := ih2 (j + 1) (by omega)
              rw [show 8 * i + (j + 1) = 8 * i + j + 1 from rfl, e, e2] at this
              exact this
            · have e2 : tW r k (8 * i + j + 1) = ((8 * i + j : Nat) : Int) := if_pos ⟨h68, h74⟩
              refine zw_bipush (v := 8) (nx := 79) C dX7_two_77 (by decide) rfl ?_
              refine zw_iload (nx := 81) C dX7_two_79 rfl rfl ?_
              refine zw_imul (nx := 82) C dX7_two_81 rfl ?_
              refine zw_iload (nx := 84) C dX7_two_82 rfl rfl ?_
              refine zw_iadd (nx := 85) C dX7_two_84 rfl ?_
              refine zw_goto (nx := 90) C dX7_two_85 rfl ?_
              refine zw_ist5 (nx := 92) C (eIst_w dX7_two_90 rfl) (Nat.le_of_ble_eq_true rfl) rfl ?_
              refine zw_iinc4 (nx := 95) C dX7_two_92 rfl (Nat.le_of_ble_eq_true rfl) rfl ?_
              refine zw_iinc7 (nx := 98) C dX7_two_95 rfl (Nat.le_of_ble_eq_true rfl) rfl ?_
              refine zw_goto (nx := 51) C dX7_two_98 rfl ?_
              have := ih2 (j + 1) (by omega)
              rw [show 8 * i + (j + 1) = 8 * i + j + 1 from rfl, e, e2, show ((8 * i + j : Nat) : Int) = 8 * (i : Int) + (j : Int) from by omega] at this
              exact this
      refine zw_iload (nx := 43) C dX7_two_41 rfl rfl ?_
      refine zw_bipush (v := 8) (nx := 45) C dX7_two_43 (by decide) rfl ?_
      refine zw_icmp_ge (tgt := 107) (nx := 48) C dX7_two_45 rfl rfl (by omega) (fun h45 => by exfalso; omega) (fun h45 => ?_)
      refine zw_iconst (nx := 49) C dX7_two_48 rfl ?_
      refine zw_ist7 (nx := 51) C (eIst_w dX7_two_49 rfl) (Nat.le_of_ble_eq_true rfl) rfl ?_
      exact l2 8 0 (by omega)
  refine zw_aload_n (i := 0) (nx := 1) C dX7_two_0 rfl rfl rfl ?_
  refine zw_iload_n (i := 1) (nx := 2) C dX7_two_1 rfl rfl rfl ?_
  refine zw_cV11 (nx := 5) C dX7_two_2 rfl cvX7_212 rfl rfl ⟨Nat.le_of_ble_eq_true rfl, Nat.le_of_ble_eq_true rfl⟩ rfl rfl (Nat.le_of_ble_eq_true rfl) (run_X7_isOne_t hn hc.2 (by omega)) ?_
  refine zw_if_eq (tgt := 26) (nx := 8) C dX7_two_5 rfl rfl (by omega) (fun h5 => by exfalso; omega) (fun h5 => ?_)
  refine zw_aload_n (i := 0) (nx := 9) C dX7_two_8 rfl rfl rfl ?_
  refine zw_iload_n (i := 2) (nx := 10) C dX7_two_9 rfl rfl rfl ?_
  refine zw_cV11 (nx := 13) C dX7_two_10 rfl cvX7_212 rfl rfl ⟨Nat.le_of_ble_eq_true rfl, Nat.le_of_ble_eq_true rfl⟩ rfl rfl (Nat.le_of_ble_eq_true rfl) (run_X7_isOne_t hn hc.2 (by omega)) ?_
  refine zw_if_eq (tgt := 26) (nx := 16) C dX7_two_13 rfl rfl (by omega) (fun h13 => by exfalso; omega) (fun h13 => ?_)
  refine zw_iload_n (i := 1) (nx := 17) C dX7_two_16 rfl rfl rfl ?_
  refine zw_iload_n (i := 2) (nx := 18) C dX7_two_17 rfl rfl rfl ?_
  refine zw_icmp_eq (tgt := 26) (nx := 21) C dX7_two_18 rfl rfl (by omega) (fun h18 => by exfalso; omega) (fun h18 => ?_)
  refine zw_iload_n (i := 3) (nx := 22) C dX7_two_21 rfl rfl rfl ?_
  refine zw_iconst (nx := 23) C dX7_two_22 rfl ?_
  refine zw_icmp_ge (tgt := 31) (nx := 26) C dX7_two_23 rfl rfl (by omega) (fun h23 => ?_) (fun h23 => by exfalso; omega)
  refine zw_iconst (nx := 32) C dX7_two_31 rfl ?_
  refine zw_ist4 (nx := 34) C (eIst_w dX7_two_32 rfl) (Nat.le_of_ble_eq_true rfl) rfl ?_
  refine zw_bipush (v := -5) (nx := 36) C dX7_two_34 (by decide) rfl ?_
  refine zw_ist5 (nx := 38) C (eIst_w dX7_two_36 rfl) (Nat.le_of_ble_eq_true rfl) rfl ?_
  refine zw_iconst (nx := 39) C dX7_two_38 rfl ?_
  refine zw_ist6 (nx := 41) C (eIst_w dX7_two_39 rfl) (Nat.le_of_ble_eq_true rfl) rfl ?_
  exact l1 8 0 (by omega) _
theorem Agr.dGc {V W : Nat → Nat → Int} {n : Nat} (h : Agr V W n) {p y q o : Nat} (hp : p < n) (hy : y < 8) (hq : q < n) (ho : o < 8) : dG W p y q o = dG V p y q o := by
  unfold dG
  rw [h.bl hq ho hy, h.dk, (h.2.2 p hp).1, h.2.1 y hy]
theorem Agr.rAc {V W : Nat → Nat → Int} {n : Nat} (h : Agr V W n) {a b i j : Nat} (ha : a < n) (hb : b < n) (hi : i < 8) (hj : j < 8) : ∀ k, k ≤ 8 → rA W a b i j k = rA V a b i j k
  | 0, _ => rfl
  | k + 1, hk => by
    unfold rA
    rw [Agr.rAc h ha hb hi hj k (by omega), h.dGc ha (by omega) hb hj, h.dGc ha hi hb hj, h.dGc hb (by omega) ha hi, h.dGc hb hj ha hi]
theorem Rel.dS (h : Rel ζ) (f1 f2 f3 f4 : Nat → Int) : Rel (dS ζ f1 f2 f3 f4) := h.off (fun a ha => by
  funext b
  rw [dS_at, if_neg (fun e => by subst e; revert ha; decide), if_neg (fun e => by subst e; revert ha; decide), if_neg (fun e => by subst e; revert ha; decide), if_neg (fun e => by subst e; revert ha; decide)]) rfl
theorem st_two (hR : Rel ζ) {a b k : Int} (ha : -2147483648 ≤ a ∧ a ≤ 2147483647) (hb : -2147483648 ≤ b ∧ b ≤ 2147483647) (hk : -2147483648 ≤ k ∧ k ≤ 2147483647) : eStep l B mX6_two mX7_two [zi a, zi b, zi k] ζ := by
  obtain ⟨n, c, s, hN⟩ := hR.1
  have hn := hN.2.1.1
  by_cases h : (0 ≤ a ∧ a < n) ∧ (0 ≤ b ∧ b < n) ∧ a ≠ b ∧ -1 ≤ k
  · obtain ⟨h1, h2, h3, h4⟩ := h
    obtain ⟨a, rfl⟩ := Int.eq_ofNat_of_zero_le h1.1
    obtain ⟨b, rfl⟩ := Int.eq_ofNat_of_zero_le h2.1
    obtain ⟨f1, f2, f3, f4, rx⟩ := run_X6_two_ok (l := l) (B := B) hN.cOk (show a < n by omega) (show b < n by omega) (by omega) ⟨h4, hk.2⟩
    refine ⟨_, _, _, rx, ?_, hR.dS f1 f2 f3 f4⟩
    have hN2 : RelN (dS ζ f1 f2 f3 f4) n c s := hN
    have rm := run_X7_two_ok (l := l) (B := B) hN2.mOk (show a < n by omega) (show b < n by omega) (by omega) ⟨h4, hk.2⟩
    have e : ∀ u, u < 64 → rT (mV (dS ζ f1 f2 f3 f4)) a b u = rT (cV ζ) a b u := fun u hu => hN.agr.rAc (by omega) (by omega) (by omega) (by omega) 8 (Nat.le_refl 8)
    unfold tTwo at rm ⊢
    rw [cN_cg 64 e, tW_cg 64 e] at rm
    exact rm
  · exact ⟨_, _, _, run_X6_two_bad hn hN.1.1 ha hb hk h, run_X7_two_bad (ζ := bdS ζ) hn hN.1.2.2.2.1 ha hb hk h, rel_bad hR⟩
end DueM
