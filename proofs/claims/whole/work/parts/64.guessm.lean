/-! the same of the reference -/
section GueM
variable {l : Launch} {B : eB} {ζ : zSt}
theorem run_X7_has {S k : Nat} (hS : S < 256) (hk8 : k < 8) : zRun l B mX7_has [zi S, zi k] ζ (some (zi (b2i (S.testBit k)))) ζ := by
  have hm : (S >>> k) % 2 < 2 := Nat.mod_lt _ (by decide)
  refine zrun_intro (M := mX7_has) (ls := [some (zi S), some (zi k)]) (by decide) rfl rfl rfl (Nat.le_of_ble_eq_true rfl) ?_
  intro X A C hX hA hr hk
  replace C : CX X B A mX7_has.2.2.2.2 RX7 cX7_has 2 0 0 := C
  have hr : (xMeth X).sig.returnType = (some .boolean) := hr
  change ZW X B A 2 0 0 _ _ 0 [some (zi S), some (zi k)] []
  refine zw_iload_n (i := 0) (nx := 1) C dX7_has_0 rfl rfl rfl ?_
  refine zw_iload_n (i := 1) (nx := 2) C dX7_has_1 rfl rfl rfl ?_
  refine zw_ishr (c := ((S >>> k : Nat) : Int)) (nx := 3) C dX7_has_2 (by exact shr_ok hS hk8) rfl ?_
  refine zw_iconst (nx := 4) C dX7_has_3 rfl ?_
  refine zw_iand (c := ((S >>> k % 2 : Nat) : Int)) (nx := 5) C dX7_has_4 (by exact and_ok (shr_lt hS)) rfl ?_
  refine zw_iconst (nx := 6) C dX7_has_5 rfl ?_
  refine zw_icmp_ne (tgt := 13) (nx := 9) C dX7_has_6 rfl rfl (by omega) (fun h6 => ?_) (fun h6 => ?_)
  · have e : S.testBit k = false := by
      cases hb : S.testBit k with
      | false => rfl
      | true => rw [bit_iff] at hb; omega
    refine zw_iconst (nx := 14) C dX7_has_13 rfl ?_
    exact zw_bret C hA hr hk dX7_has_14 (by rw [e]; rfl) rfl rfl
  · have e : S.testBit k = true := by rw [bit_iff]; omega
    refine zw_iconst (nx := 10) C dX7_has_9 rfl ?_
    refine zw_goto (nx := 14) C dX7_has_10 rfl ?_
    exact zw_bret C hA hr hk dX7_has_14 (by rw [e]; rfl) rfl rfl
set_option maxHeartbeats 4000000 in
theorem run_X7_kindsOf {c : Nat} (hc : mnOk ζ c) {p : Int} (hp : -2147483648 ≤ p ∧ p ≤ 2147483647) : zRun l B mX7_kindsOf [.ref 52, zi p] ζ (some (zi (gK (mF ζ p c) 6))) ζ := by
  obtain ⟨hcc, hc6, hN⟩ := hc
  refine zrun_intro (M := mX7_kindsOf) (ls := [some (.ref 52), some (zi p), none, none, none, none, none]) (by decide) rfl rfl rfl (Nat.le_of_ble_eq_true rfl) ?_
  intro X A C hX hA hr hk
  replace C : CX X B A mX7_kindsOf.2.2.2.2 RX7 cX7_kindsOf 7 0 0 := C
  have hr : (xMeth X).sig.returnType = (some .int) := hr
  change ZW X B A 7 0 0 _ _ 0 [some (.ref 52), some (zi p), none, none, none, none, none] []
  have l1 : ∀ m k : Nat, k + m = 6 → ∀ o4 o5 o6 : Option Value, ZW X B A 7 0 0 (eFin X B (some (zi (gK (mF ζ p c) 6))) (zz ζ)) ζ 4 [some (.ref 52), some (zi p), some (zi (gK (mF ζ p c) k)), some (zi k), o4, o5, o6] [] := by
    intro m
    induction m with
    | zero =>
      intro k hkm o4 o5 o6
      have e : k = 6 := by omega
      subst e
      refine zw_iload_n (i := 3) (nx := 5) C dX7_kindsOf_4 rfl rfl rfl ?_
      refine zw_iconst (nx := 6) C dX7_kindsOf_5 rfl ?_
      refine zw_icmp_gt (tgt := 114) (nx := 9) C dX7_kindsOf_6 rfl rfl (by omega) (fun h6 => ?_) (fun h6 => by exfalso; omega)
      refine zw_iload_n (i := 2) (nx := 115) C dX7_kindsOf_114 rfl rfl rfl ?_
      exact zw_iret C hA hr hk dX7_kindsOf_115 rfl rfl
    | succ m ih =>
      intro k hkm o4 o5 o6
      have l2 : ∀ m i : Nat, i + m = c → ∀ o6 : Option Value, ZW X B A 7 0 0 (eFin X B (some (zi (gK (mF ζ p c) 6))) (zz ζ)) ζ 15 [some (.ref 52), some (zi p), some (zi (gK (mF ζ p c) k)), some (zi k), some (zi (b2i (mF ζ p i k))), some (zi i), o6] [] := by
        intro m
        induction m with
        | zero =>
          intro i him o6
          have e : i = c := by omega
          subst e
          refine zw_iload (nx := 17) C dX7_kindsOf_15 rfl rfl ?_
          refine zw_aload_n (i := 0) (nx := 18) C dX7_kindsOf_17 rfl rfl rfl ?_
          refine zw_geti (nx := 21) C dX7_kindsOf_18 rfl flX7_82 iq6 rfl rfl rfl rfl ?_
          refine zw_icmp_ge (tgt := 93) (nx := 24) C dX7_kindsOf_21 rfl rfl (by omega) (fun h21 => ?_) (fun h21 => by exfalso; omega)
          refine zw_iload_n (i := 2) (nx := 94) C dX7_kindsOf_93 rfl rfl rfl ?_
          refine zw_iload (nx := 96) C dX7_kindsOf_94 rfl rfl ?_
          refine zw_ifb_eq (tgt := 105) (nx := 99) C dX7_kindsOf_96 rfl rfl (fun h96 => ?_) (fun h96 => ?_)
          · have e : gK (mF ζ p i) (k + 1) = gK (mF ζ p i) k := if_neg (by rw [h96]; decide)
            refine zw_iconst (nx := 106) C dX7_kindsOf_105 rfl ?_
            refine zw_ior (c := (gK (mF ζ p i) k : Int)) (nx := 107) C dX7_kindsOf_106 (by exact or_0 _) rfl ?_
            refine zw_ist2 (nx := 108) C (eIst_n dX7_kindsOf_107 rfl rfl) (Nat.le_of_ble_eq_true rfl) rfl ?_
            rw [← e]
            refine zw_iinc3 (nx := 111) C dX7_kindsOf_108 rfl (Nat.le_of_ble_eq_true rfl) rfl ?_
            refine zw_goto (nx := 4) C dX7_kindsOf_111 rfl ?_
            exact ih (k + 1) (by omega) _ _ _
          · have e : gK (mF ζ p i) (k + 1) = gK (mF ζ p i) k ||| 2 ^ k := if_pos h96
            refine zw_iconst (nx := 100) C dX7_kindsOf_99 rfl ?_
            refine zw_iload_n (i := 3) (nx := 101) C dX7_kindsOf_100 rfl rfl rfl ?_
            refine zw_ishl (c := ((2 ^ k : Nat) : Int)) (nx := 102) C dX7_kindsOf_101 (by exact shl_ok (by omega)) rfl ?_
            refine zw_goto (nx := 106) C dX7_kindsOf_102 rfl ?_
            refine zw_ior (c := ((gK (mF ζ p i) k ||| 2 ^ k : Nat) : Int)) (nx := 107) C dX7_kindsOf_106 (by exact or_ok (gK_lt _ k (by omega)) (by omega)) rfl ?_
            refine zw_ist2 (nx := 108) C (eIst_n dX7_kindsOf_107 rfl rfl) (Nat.le_of_ble_eq_true rfl) rfl ?_
            rw [← e]
            refine zw_iinc3 (nx := 111) C dX7_kindsOf_108 rfl (Nat.le_of_ble_eq_true rfl) rfl ?_
            refine zw_goto (nx := 4) C dX7_kindsOf_111 rfl ?_
            exact ih (k + 1) (by omega) _ _ _
        | succ m ih2 =>
          intro i him o6
          obtain ⟨a0, a1, a2, a3⟩ := hN i (by omega)
          have hw := sWo_bd (k := (k : Int)) a1 a2
          have step : mF ζ p (i + 1) k = (mF ζ p i k && decide (¬ ζ.1 59 i = p ∨ sWo k (ζ.1 60 i) (ζ.1 61 i) = ζ.1 62 i)) := rfl
          have no : mF ζ p (i + 1) k = false → ∀ o6 : Option Value, ZW X B A 7 0 0 (eFin X B (some (zi (gK (mF ζ p c) 6))) (zz ζ)) ζ 84 [some (.ref 52), some (zi p), some (zi (gK (mF ζ p c) k)), some (zi k), some (zi (b2i (mF ζ p i k))), some (zi i), o6] [] := by
            intro e o6
            refine zw_iconst (nx := 85) C dX7_kindsOf_84 rfl ?_
            refine zw_ist4 (nx := 87) C (eIst_w dX7_kindsOf_85 rfl) (Nat.le_of_ble_eq_true rfl) rfl ?_
            refine zw_iinc5 (nx := 90) C dX7_kindsOf_87 rfl (Nat.le_of_ble_eq_true rfl) rfl ?_
            refine zw_goto (nx := 15) C dX7_kindsOf_90 rfl ?_
            have := ih2 (i + 1) (by omega) o6
            rw [e] at this
            exact this
          have yes : mF ζ p (i + 1) k = true → ∀ o6 : Option Value, ZW X B A 7 0 0 (eFin X B (some (zi (gK (mF ζ p c) 6))) (zz ζ)) ζ 80 [some (.ref 52), some (zi p), some (zi (gK (mF ζ p c) k)), some (zi k), some (zi (b2i (mF ζ p i k))), some (zi i), o6] [] := by
            intro e o6
            refine zw_iconst (nx := 81) C dX7_kindsOf_80 rfl ?_
            refine zw_goto (nx := 85) C dX7_kindsOf_81 rfl ?_
            refine zw_ist4 (nx := 87) C (eIst_w dX7_kindsOf_85 rfl) (Nat.le_of_ble_eq_true rfl) rfl ?_
            refine zw_iinc5 (nx := 90) C dX7_kindsOf_87 rfl (Nat.le_of_ble_eq_true rfl) rfl ?_
            refine zw_goto (nx := 15) C dX7_kindsOf_90 rfl ?_
            have := ih2 (i + 1) (by omega) o6
            rw [e] at this
            exact this
          refine zw_iload (nx := 17) C dX7_kindsOf_15 rfl rfl ?_
          refine zw_aload_n (i := 0) (nx := 18) C dX7_kindsOf_17 rfl rfl rfl ?_
          refine zw_geti (nx := 21) C dX7_kindsOf_18 rfl flX7_82 iq6 rfl rfl rfl rfl ?_
          refine zw_icmp_ge (tgt := 93) (nx := 24) C dX7_kindsOf_21 rfl rfl (by omega) (fun h21 => by exfalso; omega) (fun h21 => ?_)
          refine zw_iload_n (i := 3) (nx := 25) C dX7_kindsOf_24 rfl rfl rfl ?_
          refine zw_aload_n (i := 0) (nx := 26) C dX7_kindsOf_25 rfl rfl rfl ?_
          refine zw_getr (nx := 29) C dX7_kindsOf_26 rfl flX7_38 iq6 rfl rfl rfl rfl ?_
          refine zw_iload (nx := 31) C dX7_kindsOf_29 rfl rfl ?_
          refine zw_iald (i) (nx := 32) C dX7_kindsOf_31 rfl rfl rfl rfl (by omega) ?_
          refine zw_aload_n (i := 0) (nx := 33) C dX7_kindsOf_32 rfl rfl rfl ?_
          refine zw_getr (nx := 36) C dX7_kindsOf_33 rfl flX7_41 iq6 rfl rfl rfl rfl ?_
          refine zw_iload (nx := 38) C dX7_kindsOf_36 rfl rfl ?_
          refine zw_iald (i) (nx := 39) C dX7_kindsOf_38 rfl rfl rfl rfl (by omega) ?_
          refine zw_cS31 (nx := 42) C dX7_kindsOf_39 rfl csX7_189 ⟨Nat.le_of_ble_eq_true rfl, Nat.le_of_ble_eq_true rfl⟩ (Nat.le_of_ble_eq_true rfl) (run_X7_worthBy (by omega) a1 a2) ?_
          refine zw_aload_n (i := 0) (nx := 43) C dX7_kindsOf_42 rfl rfl rfl ?_
          refine zw_getr (nx := 46) C dX7_kindsOf_43 rfl flX7_44 iq6 rfl rfl rfl rfl ?_
          refine zw_iload (nx := 48) C dX7_kindsOf_46 rfl rfl ?_
          refine zw_iald (i) (nx := 49) C dX7_kindsOf_48 rfl rfl rfl rfl (by omega) ?_
          refine zw_icmp_ne (tgt := 56) (nx := 52) C dX7_kindsOf_49 rfl rfl (by omega) (fun h49 => ?_) (fun h49 => ?_)
          · refine zw_iconst (nx := 57) C dX7_kindsOf_56 rfl ?_
            refine zw_ist6 (nx := 59) C (eIst_w dX7_kindsOf_57 rfl) (Nat.le_of_ble_eq_true rfl) rfl ?_
            refine zw_iload (nx := 61) C dX7_kindsOf_59 rfl rfl ?_
            refine zw_ifb_eq (tgt := 84) (nx := 64) C dX7_kindsOf_61 rfl rfl (fun h61 => ?_) (fun h61 => ?_)
            · exact no (by rw [step, h61]; rfl) _
            · refine zw_aload_n (i := 0) (nx := 65) C dX7_kindsOf_64 rfl rfl rfl ?_
              refine zw_getr (nx := 68) C dX7_kindsOf_65 rfl flX7_35 iq6 rfl rfl rfl rfl ?_
              refine zw_iload (nx := 70) C dX7_kindsOf_68 rfl rfl ?_
              refine zw_iald (i) (nx := 71) C dX7_kindsOf_70 rfl rfl rfl rfl (by omega) ?_
              refine zw_iload_n (i := 1) (nx := 72) C dX7_kindsOf_71 rfl rfl rfl ?_
              refine zw_icmp_ne (tgt := 80) (nx := 75) C dX7_kindsOf_72 rfl rfl (by omega) (fun h72 => ?_) (fun h72 => ?_)
              · exact yes (by rw [step, h61, decide_eq_true (Or.inl h72)]; rfl) _
              · refine zw_iload (nx := 77) C dX7_kindsOf_75 rfl rfl ?_
                refine zw_if_eq (tgt := 84) (nx := 80) C dX7_kindsOf_77 rfl rfl (by omega) (fun h77 => ?_) (fun h77 => by exfalso; omega)
                exact no (by rw [step, h61, decide_eq_false (fun q => by rcases q with q | q; exact q h72; exact h49 q)]; rfl) _
          · refine zw_iconst (nx := 53) C dX7_kindsOf_52 rfl ?_
            refine zw_goto (nx := 57) C dX7_kindsOf_53 rfl ?_
            refine zw_ist6 (nx := 59) C (eIst_w dX7_kindsOf_57 rfl) (Nat.le_of_ble_eq_true rfl) rfl ?_
            refine zw_iload (nx := 61) C dX7_kindsOf_59 rfl rfl ?_
            refine zw_ifb_eq (tgt := 84) (nx := 64) C dX7_kindsOf_61 rfl rfl (fun h61 => ?_) (fun h61 => ?_)
            · exact no (by rw [step, h61]; rfl) _
            · refine zw_aload_n (i := 0) (nx := 65) C dX7_kindsOf_64 rfl rfl rfl ?_
              refine zw_getr (nx := 68) C dX7_kindsOf_65 rfl flX7_35 iq6 rfl rfl rfl rfl ?_
              refine zw_iload (nx := 70) C dX7_kindsOf_68 rfl rfl ?_
              refine zw_iald (i) (nx := 71) C dX7_kindsOf_70 rfl rfl rfl rfl (by omega) ?_
              refine zw_iload_n (i := 1) (nx := 72) C dX7_kindsOf_71 rfl rfl rfl ?_
              refine zw_icmp_ne (tgt := 80) (nx := 75) C dX7_kindsOf_72 rfl rfl (by omega) (fun h72 => ?_) (fun h72 => ?_)
              · exact yes (by rw [step, h61, decide_eq_true (Or.inl h72)]; rfl) _
              · refine zw_iload (nx := 77) C dX7_kindsOf_75 rfl rfl ?_
                refine zw_if_eq (tgt := 84) (nx := 80) C dX7_kindsOf_77 rfl rfl (by omega) (fun h77 => by exfalso; omega) (fun h77 => ?_)
                exact yes (by rw [step, h61, decide_eq_true (Or.inr h49)]; rfl) _
      refine zw_iload_n (i := 3) (nx := 5) C dX7_kindsOf_4 rfl rfl rfl ?_
      refine zw_iconst (nx := 6) C dX7_kindsOf_5 rfl ?_
      refine zw_icmp_gt (tgt := 114) (nx := 9) C dX7_kindsOf_6 rfl rfl (by omega) (fun h6 => by exfalso; omega) (fun h6 => ?_)
      refine zw_iconst (nx := 10) C dX7_kindsOf_9 rfl ?_
      refine zw_ist4 (nx := 12) C (eIst_w dX7_kindsOf_10 rfl) (Nat.le_of_ble_eq_true rfl) rfl ?_
      refine zw_iconst (nx := 13) C dX7_kindsOf_12 rfl ?_
      refine zw_ist5 (nx := 15) C (eIst_w dX7_kindsOf_13 rfl) (Nat.le_of_ble_eq_true rfl) rfl ?_
      exact l2 c 0 (by omega) _
  refine zw_iconst (nx := 1) C dX7_kindsOf_0 rfl ?_
  refine zw_ist2 (nx := 2) C (eIst_n dX7_kindsOf_1 rfl rfl) (Nat.le_of_ble_eq_true rfl) rfl ?_
  refine zw_iconst (nx := 3) C dX7_kindsOf_2 rfl ?_
  refine zw_ist3 (nx := 4) C (eIst_n dX7_kindsOf_3 rfl rfl) (Nat.le_of_ble_eq_true rfl) rfl ?_
  exact l1 6 0 (by omega) _ _ _
theorem run_X7_is_bad {n : Nat} (hn : n ≤ 5) (hn3 : ζ.1 52 1 = n) {p : Int} (hp : -2147483648 ≤ p ∧ p ≤ 2147483647) (h : ¬ (0 ≤ p ∧ p < n)) : zRun l B mX7_is [.ref 52, zi p] ζ (some (zi (-2))) (mBd ζ) := by
  refine zrun_intro (M := mX7_is) (ls := [some (.ref 52), some (zi p)]) (by decide) rfl rfl rfl (Nat.le_of_ble_eq_true rfl) ?_
  intro X A C hX hA hr hk
  replace C : CX X B A mX7_is.2.2.2.2 RX7 cX7_is 2 0 0 := C
  have hr : (xMeth X).sig.returnType = (some .int) := hr
  change ZW X B A 2 0 0 _ _ 0 [some (.ref 52), some (zi p)] []
  refine zw_aload_n (i := 0) (nx := 1) C dX7_is_0 rfl rfl rfl ?_
  refine zw_iload_n (i := 1) (nx := 2) C dX7_is_1 rfl rfl rfl ?_
  refine zw_cV11 (nx := 5) C dX7_is_2 rfl cvX7_212 rfl rfl ⟨Nat.le_of_ble_eq_true rfl, Nat.le_of_ble_eq_true rfl⟩ rfl rfl (Nat.le_of_ble_eq_true rfl) (run_X7_isOne_f hn hn3 hp h) ?_
  refine zw_if_eq (tgt := 16) (nx := 8) C dX7_is_5 rfl rfl (by omega) (fun h5 => ?_) (fun h5 => by exfalso; omega)
  refine zw_aload_n (i := 0) (nx := 17) C dX7_is_16 rfl rfl rfl ?_
  refine zw_cV01 (nx := 20) C dX7_is_17 rfl cvX7_96 rfl rfl ⟨Nat.le_of_ble_eq_true rfl, Nat.le_of_ble_eq_true rfl⟩ rfl rfl (Nat.le_of_ble_eq_true rfl) run_X7_bad ?_
  exact zw_iret C hA hr hk dX7_is_20 rfl rfl
theorem run_X7_is_ok {n c : Nat} (hn : n ≤ 5) (hn3 : ζ.1 52 1 = n) (hc : mnOk ζ c) {p : Int} (h : 0 ≤ p ∧ p < n) : zRun l B mX7_is [.ref 52, zi p] ζ (some (zi (gK (mF ζ p c) 6))) ζ := by
  refine zrun_intro (M := mX7_is) (ls := [some (.ref 52), some (zi p)]) (by decide) rfl rfl rfl (Nat.le_of_ble_eq_true rfl) ?_
  intro X A C hX hA hr hk
  replace C : CX X B A mX7_is.2.2.2.2 RX7 cX7_is 2 0 0 := C
  have hr : (xMeth X).sig.returnType = (some .int) := hr
  change ZW X B A 2 0 0 _ _ 0 [some (.ref 52), some (zi p)] []
  refine zw_aload_n (i := 0) (nx := 1) C dX7_is_0 rfl rfl rfl ?_
  refine zw_iload_n (i := 1) (nx := 2) C dX7_is_1 rfl rfl rfl ?_
  refine zw_cV11 (nx := 5) C dX7_is_2 rfl cvX7_212 rfl rfl ⟨Nat.le_of_ble_eq_true rfl, Nat.le_of_ble_eq_true rfl⟩ rfl rfl (Nat.le_of_ble_eq_true rfl) (run_X7_isOne_t hn hn3 h) ?_
  refine zw_if_eq (tgt := 16) (nx := 8) C dX7_is_5 rfl rfl (by omega) (fun h5 => by exfalso; omega) (fun h5 => ?_)
  refine zw_aload_n (i := 0) (nx := 9) C dX7_is_8 rfl rfl rfl ?_
  refine zw_iload_n (i := 1) (nx := 10) C dX7_is_9 rfl rfl rfl ?_
  refine zw_cV11 (nx := 13) C dX7_is_10 rfl cvX7_254 rfl rfl ⟨Nat.le_of_ble_eq_true rfl, Nat.le_of_ble_eq_true rfl⟩ rfl rfl (Nat.le_of_ble_eq_true rfl) (run_X7_kindsOf hc (by omega)) ?_
  refine zw_goto (nx := 20) C dX7_is_13 rfl ?_
  exact zw_iret C hA hr hk dX7_is_20 rfl rfl
set_option maxHeartbeats 4000000 in
theorem run_X7_alike {S : Nat} {s h : Int} (hS : S < 256) (hs : 0 ≤ s ∧ s ≤ 240) (hh : 0 ≤ h ∧ h ≤ 9) : zRun l B mX7_alike [zi S, zi s, zi h] ζ (some (zi (aM S s h 6))) ζ := by
  refine zrun_intro (M := mX7_alike) (ls := [some (zi S), some (zi s), some (zi h), none, none, none, none]) (by decide) rfl rfl rfl (Nat.le_of_ble_eq_true rfl) ?_
  intro X A C hX hA hr hk
  replace C : CX X B A mX7_alike.2.2.2.2 RX7 cX7_alike 7 0 0 := C
  have hr : (xMeth X).sig.returnType = (some .int) := hr
  change ZW X B A 7 0 0 _ _ 0 [some (zi S), some (zi s), some (zi h), none, none, none, none] []
  have l1 : ∀ m a : Nat, a + m = 6 → ∀ o5 o6 : Option Value, ZW X B A 7 0 0 (eFin X B (some (zi (aM S s h 6))) (zz ζ)) ζ 5 [some (zi S), some (zi s), some (zi h), some (zi (aM S s h a)), some (zi a), o5, o6] [] := by
    intro m
    induction m with
    | zero =>
      intro a ham o5 o6
      have e : a = 6 := by omega
      subst e
      refine zw_iload (nx := 7) C dX7_alike_5 rfl rfl ?_
      refine zw_iconst (nx := 8) C dX7_alike_7 rfl ?_
      refine zw_icmp_gt (tgt := 93) (nx := 11) C dX7_alike_8 rfl rfl (by omega) (fun h8 => ?_) (fun h8 => by exfalso; omega)
      refine zw_iload_n (i := 3) (nx := 94) C dX7_alike_93 rfl rfl rfl ?_
      exact zw_iret C hA hr hk dX7_alike_94 rfl rfl
    | succ m ih =>
      intro a ham o5 o6
      have wa := sWo_bd (k := (a : Int)) hs hh
      have l2 : ∀ m b : Nat, b + m = 6 → ZW X B A 7 0 0 (eFin X B (some (zi (aM S s h 6))) (zz ζ)) ζ 17 [some (zi S), some (zi s), some (zi h), some (zi (aM S s h a)), some (zi a), some (zi (aC S s h a b)), some (zi b)] [] := by
        intro m
        induction m with
        | zero =>
          intro b hbm
          have e : b = 6 := by omega
          subst e
          have b1 := aM_bd S s h a
          have b2 := aC_bd S s h a 6
          refine zw_iload (nx := 19) C dX7_alike_17 rfl rfl ?_
          refine zw_iconst (nx := 20) C dX7_alike_19 rfl ?_
          refine zw_icmp_gt (tgt := 74) (nx := 23) C dX7_alike_20 rfl rfl (by omega) (fun h20 => ?_) (fun h20 => by exfalso; omega)
          refine zw_iload (nx := 76) C dX7_alike_74 rfl rfl ?_
          refine zw_iload_n (i := 3) (nx := 77) C dX7_alike_76 rfl rfl rfl ?_
          refine zw_icmp_le (tgt := 85) (nx := 80) C dX7_alike_77 rfl rfl (by omega) (fun h77 => ?_) (fun h77 => ?_)
          · have e : aM S s h (a + 1) = aM S s h a := if_neg (by omega)
            refine zw_iload_n (i := 3) (nx := 86) C dX7_alike_85 rfl rfl rfl ?_
            refine zw_ist3 (nx := 87) C (eIst_n dX7_alike_86 rfl rfl) (Nat.le_of_ble_eq_true rfl) rfl ?_
            refine zw_iinc4 (nx := 90) C dX7_alike_87 rfl (Nat.le_of_ble_eq_true rfl) rfl ?_
            refine zw_goto (nx := 5) C dX7_alike_90 rfl ?_
            have := ih (a + 1) (by omega) (some (zi (aC S s h a 6))) (some (zi (6 : Nat)))
            rw [e] at this
            exact this
          · have e : aM S s h (a + 1) = aC S s h a 6 := if_pos (by omega)
            refine zw_iload (nx := 82) C dX7_alike_80 rfl rfl ?_
            refine zw_goto (nx := 86) C dX7_alike_82 rfl ?_
            refine zw_ist3 (nx := 87) C (eIst_n dX7_alike_86 rfl rfl) (Nat.le_of_ble_eq_true rfl) rfl ?_
            refine zw_iinc4 (nx := 90) C dX7_alike_87 rfl (Nat.le_of_ble_eq_true rfl) rfl ?_
            refine zw_goto (nx := 5) C dX7_alike_90 rfl ?_
            have := ih (a + 1) (by omega) (some (zi (aC S s h a 6))) (some (zi (6 : Nat)))
            rw [e] at this
            exact this
        | succ m ih2 =>
          intro b hbm
          have wb := sWo_bd (k := (b : Int)) hs hh
          have no : ¬ (S.testBit a = true ∧ S.testBit b = true ∧ sWo a s h = sWo b s h) → ZW X B A 7 0 0 (eFin X B (some (zi (aM S s h 6))) (zz ζ)) ζ 64 [some (zi S), some (zi s), some (zi h), some (zi (aM S s h a)), some (zi a), some (zi (aC S s h a b)), some (zi b)] [zi (aC S s h a b)] := by
            intro hno
            have e : aC S s h a (b + 1) = aC S s h a b + 0 := by
              show aC S s h a b + (if S.testBit a = true ∧ S.testBit b = true ∧ sWo a s h = sWo b s h then 1 else 0) = _
              rw [if_neg hno]
            refine zw_iconst (nx := 65) C dX7_alike_64 rfl ?_
            refine zw_iadd (nx := 66) C dX7_alike_65 rfl ?_
            refine zw_ist5 (nx := 68) C (eIst_w dX7_alike_66 rfl) (Nat.le_of_ble_eq_true rfl) rfl ?_
            refine zw_iinc6 (nx := 71) C dX7_alike_68 rfl (Nat.le_of_ble_eq_true rfl) rfl ?_
            refine zw_goto (nx := 17) C dX7_alike_71 rfl ?_
            have := ih2 (b + 1) (by omega)
            rw [e] at this
            exact this
          refine zw_iload (nx := 19) C dX7_alike_17 rfl rfl ?_
          refine zw_iconst (nx := 20) C dX7_alike_19 rfl ?_
          refine zw_icmp_gt (tgt := 74) (nx := 23) C dX7_alike_20 rfl rfl (by omega) (fun h20 => by exfalso; omega) (fun h20 => ?_)
          refine zw_iload (nx := 25) C dX7_alike_23 rfl rfl ?_
          refine zw_iload_n (i := 0) (nx := 26) C dX7_alike_25 rfl rfl rfl ?_
          refine zw_iload (nx := 28) C dX7_alike_26 rfl rfl ?_
          refine zw_cS21 (nx := 31) C dX7_alike_28 rfl csX7_248 ⟨Nat.le_of_ble_eq_true rfl, Nat.le_of_ble_eq_true rfl⟩ (Nat.le_of_ble_eq_true rfl) (run_X7_has hS (by omega)) ?_
          refine zw_ifb_eq (tgt := 64) (nx := 34) C dX7_alike_31 rfl rfl (fun h31 => ?_) (fun h31 => ?_)
          · exact no (fun q => by rw [h31] at q; cases q.1)
          · refine zw_iload_n (i := 0) (nx := 35) C dX7_alike_34 rfl rfl rfl ?_
            refine zw_iload (nx := 37) C dX7_alike_35 rfl rfl ?_
            refine zw_cS21 (nx := 40) C dX7_alike_37 rfl csX7_248 ⟨Nat.le_of_ble_eq_true rfl, Nat.le_of_ble_eq_true rfl⟩ (Nat.le_of_ble_eq_true rfl) (run_X7_has hS (by omega)) ?_
            refine zw_ifb_eq (tgt := 64) (nx := 43) C dX7_alike_40 rfl rfl (fun h40 => ?_) (fun h40 => ?_)
            · exact no (fun q => by rw [h40] at q; cases q.2.1)
            · refine zw_iload (nx := 45) C dX7_alike_43 rfl rfl ?_
              refine zw_iload_n (i := 1) (nx := 46) C dX7_alike_45 rfl rfl rfl ?_
              refine zw_iload_n (i := 2) (nx := 47) C dX7_alike_46 rfl rfl rfl ?_
              refine zw_cS31 (nx := 50) C dX7_alike_47 rfl csX7_189 ⟨Nat.le_of_ble_eq_true rfl, Nat.le_of_ble_eq_true rfl⟩ (Nat.le_of_ble_eq_true rfl) (run_X7_worthBy (by omega) hs hh) ?_
              refine zw_iload (nx := 52) C dX7_alike_50 rfl rfl ?_
              refine zw_iload_n (i := 1) (nx := 53) C dX7_alike_52 rfl rfl rfl ?_
              refine zw_iload_n (i := 2) (nx := 54) C dX7_alike_53 rfl rfl rfl ?_
              refine zw_cS31 (nx := 57) C dX7_alike_54 rfl csX7_189 ⟨Nat.le_of_ble_eq_true rfl, Nat.le_of_ble_eq_true rfl⟩ (Nat.le_of_ble_eq_true rfl) (run_X7_worthBy (by omega) hs hh) ?_
              refine zw_icmp_ne (tgt := 64) (nx := 60) C dX7_alike_57 rfl rfl (by omega) (fun h57 => ?_) (fun h57 => ?_)
              · exact no (fun q => h57 q.2.2)
              · have e : aC S s h a (b + 1) = aC S s h a b + 1 := by
                  show aC S s h a b + (if S.testBit a = true ∧ S.testBit b = true ∧ sWo a s h = sWo b s h then 1 else 0) = _
                  rw [if_pos ⟨h31, h40, h57⟩]
                refine zw_iconst (nx := 61) C dX7_alike_60 rfl ?_
                refine zw_goto (nx := 65) C dX7_alike_61 rfl ?_
                refine zw_iadd (nx := 66) C dX7_alike_65 rfl ?_
                refine zw_ist5 (nx := 68) C (eIst_w dX7_alike_66 rfl) (Nat.le_of_ble_eq_true rfl) rfl ?_
                refine zw_iinc6 (nx := 71) C dX7_alike_68 rfl (Nat.le_of_ble_eq_true rfl) rfl ?_
                refine zw_goto (nx := 17) C dX7_alike_71 rfl ?_
                have := ih2 (b + 1) (by omega)
                rw [e] at this
                exact this
      refine zw_iload (nx := 7) C dX7_alike_5 rfl rfl ?_
      refine zw_iconst (nx := 8) C dX7_alike_7 rfl ?_
      refine zw_icmp_gt (tgt := 93) (nx := 11) C dX7_alike_8 rfl rfl (by omega) (fun h8 => by exfalso; omega) (fun h8 => ?_)
      refine zw_iconst (nx := 12) C dX7_alike_11 rfl ?_
      refine zw_ist5 (nx := 14) C (eIst_w dX7_alike_12 rfl) (Nat.le_of_ble_eq_true rfl) rfl ?_
      refine zw_iconst (nx := 15) C dX7_alike_14 rfl ?_
      refine zw_ist6 (nx := 17) C (eIst_w dX7_alike_15 rfl) (Nat.le_of_ble_eq_true rfl) rfl ?_
      exact l2 6 0 (by omega)
  refine zw_iconst (nx := 1) C dX7_alike_0 rfl ?_
  refine zw_ist3 (nx := 2) C (eIst_n dX7_alike_1 rfl rfl) (Nat.le_of_ble_eq_true rfl) rfl ?_
  refine zw_iconst (nx := 3) C dX7_alike_2 rfl ?_
  refine zw_ist4 (nx := 5) C (eIst_w dX7_alike_3 rfl) (Nat.le_of_ble_eq_true rfl) rfl ?_
  exact l1 6 0 (by omega) _ _
theorem run_X7_offer_bad {n : Nat} (hn : n ≤ 5) (hn3 : ζ.1 52 1 = n) {p : Int} (hp : -2147483648 ≤ p ∧ p ≤ 2147483647) (h : ¬ (0 ≤ p ∧ p < n)) : zRun l B mX7_offer [.ref 52, zi p] ζ (some (zi (-2))) (mBd ζ) := by
  refine zrun_intro (M := mX7_offer) (ls := [some (.ref 52), some (zi p), none, none, none, none, none, none]) (by decide) rfl rfl rfl (Nat.le_of_ble_eq_true rfl) ?_
  intro X A C hX hA hr hk
  replace C : CX X B A mX7_offer.2.2.2.2 RX7 cX7_offer 8 0 0 := C
  have hr : (xMeth X).sig.returnType = (some .int) := hr
  change ZW X B A 8 0 0 _ _ 0 [some (.ref 52), some (zi p), none, none, none, none, none, none] []
  refine zw_aload_n (i := 0) (nx := 1) C dX7_offer_0 rfl rfl rfl ?_
  refine zw_iload_n (i := 1) (nx := 2) C dX7_offer_1 rfl rfl rfl ?_
  refine zw_cV11 (nx := 5) C dX7_offer_2 rfl cvX7_212 rfl rfl ⟨Nat.le_of_ble_eq_true rfl, Nat.le_of_ble_eq_true rfl⟩ rfl rfl (Nat.le_of_ble_eq_true rfl) (run_X7_isOne_f hn hn3 hp h) ?_
  refine zw_if_ne (tgt := 13) (nx := 8) C dX7_offer_5 rfl rfl (by omega) (fun h5 => by exfalso; omega) (fun h5 => ?_)
  refine zw_aload_n (i := 0) (nx := 9) C dX7_offer_8 rfl rfl rfl ?_
  refine zw_cV01 (nx := 12) C dX7_offer_9 rfl cvX7_96 rfl rfl ⟨Nat.le_of_ble_eq_true rfl, Nat.le_of_ble_eq_true rfl⟩ rfl rfl (Nat.le_of_ble_eq_true rfl) run_X7_bad ?_
  exact zw_iret C hA hr hk dX7_offer_12 rfl rfl
theorem run_X7_offer_0 {n c : Nat} (hn : n ≤ 5) (hn3 : ζ.1 52 1 = n) (hc : mnOk ζ c) {p : Int} (h : 0 ≤ p ∧ p < n) (h0 : gK (mF ζ p c) 6 = 0) : zRun l B mX7_offer [.ref 52, zi p] ζ (some (zi (-1))) ζ := by
  refine zrun_intro (M := mX7_offer) (ls := [some (.ref 52), some (zi p), none, none, none, none, none, none]) (by decide) rfl rfl rfl (Nat.le_of_ble_eq_true rfl) ?_
  intro X A C hX hA hr hk
  replace C : CX X B A mX7_offer.2.2.2.2 RX7 cX7_offer 8 0 0 := C
  have hr : (xMeth X).sig.returnType = (some .int) := hr
  change ZW X B A 8 0 0 _ _ 0 [some (.ref 52), some (zi p), none, none, none, none, none, none] []
  refine zw_aload_n (i := 0) (nx := 1) C dX7_offer_0 rfl rfl rfl ?_
  refine zw_iload_n (i := 1) (nx := 2) C dX7_offer_1 rfl rfl rfl ?_
  refine zw_cV11 (nx := 5) C dX7_offer_2 rfl cvX7_212 rfl rfl ⟨Nat.le_of_ble_eq_true rfl, Nat.le_of_ble_eq_true rfl⟩ rfl rfl (Nat.le_of_ble_eq_true rfl) (run_X7_isOne_t hn hn3 h) ?_
  refine zw_if_ne (tgt := 13) (nx := 8) C dX7_offer_5 rfl rfl (by omega) (fun h5 => ?_) (fun h5 => by exfalso; omega)
  refine zw_aload_n (i := 0) (nx := 14) C dX7_offer_13 rfl rfl rfl ?_
  refine zw_iload_n (i := 1) (nx := 15) C dX7_offer_14 rfl rfl rfl ?_
  refine zw_cV11 (nx := 18) C dX7_offer_15 rfl cvX7_254 rfl rfl ⟨Nat.le_of_ble_eq_true rfl, Nat.le_of_ble_eq_true rfl⟩ rfl rfl (Nat.le_of_ble_eq_true rfl) (run_X7_kindsOf hc (by omega)) ?_
  rw [h0]
  refine zw_ist2 (nx := 19) C (eIst_n dX7_offer_18 rfl rfl) (Nat.le_of_ble_eq_true rfl) rfl ?_
  refine zw_iconst (nx := 20) C dX7_offer_19 rfl ?_
  refine zw_ist3 (nx := 21) C (eIst_n dX7_offer_20 rfl rfl) (Nat.le_of_ble_eq_true rfl) rfl ?_
  refine zw_ldcw (v := 1048576) (nx := 24) C dX7_offer_21 kiX7_257 (by decide) rfl ?_
  refine zw_ist4 (nx := 26) C (eIst_w dX7_offer_24 rfl) (Nat.le_of_ble_eq_true rfl) rfl ?_
  refine zw_iconst (nx := 27) C dX7_offer_26 rfl ?_
  refine zw_ist5 (nx := 29) C (eIst_w dX7_offer_27 rfl) (Nat.le_of_ble_eq_true rfl) rfl ?_
  refine zw_iload (nx := 31) C dX7_offer_29 rfl rfl ?_
  refine zw_bipush (v := 8) (nx := 33) C dX7_offer_31 (by decide) rfl ?_
  refine zw_icmp_ge (tgt := 105) (nx := 36) C dX7_offer_33 rfl rfl (by omega) (fun h33 => by exfalso; omega) (fun h33 => ?_)
  refine zw_iload_n (i := 2) (nx := 37) C dX7_offer_36 rfl rfl rfl ?_
  refine zw_if_eq (tgt := 105) (nx := 40) C dX7_offer_37 rfl rfl (by omega) (fun h37 => ?_) (fun h37 => by exfalso; omega)
  refine zw_iload_n (i := 3) (nx := 106) C dX7_offer_105 rfl rfl rfl ?_
  exact zw_iret C hA hr hk dX7_offer_106 rfl rfl
set_option maxHeartbeats 4000000 in
theorem run_X7_offer_ok {n c : Nat} (hn : mOk ζ n) (hc : mnOk ζ c) {p : Int} (h : 0 ≤ p ∧ p < n) (h0 : gK (mF ζ p c) 6 ≠ 0) : zRun l B mX7_offer [.ref 52, zi p] ζ (some (zi (oS (oF (mV ζ) (gK (mF ζ p c) 6)) (-1, 1048576) 80).1)) ζ := by
  have hn5 := hn.1.1
  have hS := gK_lt (mF ζ p c) 6 (by decide)
  have rk := fun X : eX => run_X7_kindsOf (l := xLa X) (B := B) hc (p := p) (by omega)
  generalize gK (mF ζ p c) 6 = S at h0 hS rk
  have hob := oS_bd (f := oF (mV ζ) S) (z := (-1, 1048576)) (M := 1048576) (fun j => by
    have := aM_bd S (sDk (mV ζ) ((j / 10 : Nat) : Int)) ((j % 10 : Nat) : Int) 6
    unfold oF; omega) ⟨by decide, by decide⟩
  generalize hg : oF (mV ζ) S = g at hob
  have hga : ∀ y h : Nat, h < 10 → g (10 * y + h) = aM S (sDk (mV ζ) y) h 6 := fun y h hh => by rw [← hg]; exact oF_at _ S hh
  refine zrun_intro (M := mX7_offer) (ls := [some (.ref 52), some (zi p), none, none, none, none, none, none]) (by decide) rfl rfl rfl (Nat.le_of_ble_eq_true rfl) ?_
  intro X A C hX hA hr hk
  replace C : CX X B A mX7_offer.2.2.2.2 RX7 cX7_offer 8 0 0 := C
  have hr : (xMeth X).sig.returnType = (some .int) := hr
  change ZW X B A 8 0 0 _ _ 0 [some (.ref 52), some (zi p), none, none, none, none, none, none] []
  have l1 : ∀ m y : Nat, y + m = 8 → ∀ o6 o7 : Option Value, ZW X B A 8 0 0 (eFin X B (some (zi (oS g (-1, 1048576) 80).1)) (zz ζ)) ζ 29 [some (.ref 52), some (zi p), some (zi S), some (zi (oS g (-1, 1048576) (10 * y)).1), some (zi (oS g (-1, 1048576) (10 * y)).2), some (zi y), o6, o7] [] := by
    intro m
    induction m with
    | zero =>
      intro y hym o6 o7
      have e : y = 8 := by omega
      subst e
      refine zw_iload (nx := 31) C dX7_offer_29 rfl rfl ?_
      refine zw_bipush (v := 8) (nx := 33) C dX7_offer_31 (by decide) rfl ?_
      refine zw_icmp_ge (tgt := 105) (nx := 36) C dX7_offer_33 rfl rfl (by omega) (fun h33 => ?_) (fun h33 => by exfalso; omega)
      refine zw_iload_n (i := 3) (nx := 106) C dX7_offer_105 rfl rfl rfl ?_
      exact zw_iret C hA hr hk dX7_offer_106 rfl rfl
    | succ m ih =>
      intro y hym o6 o7
      have l2 : ∀ m h : Nat, h + m = 10 → ∀ o7 : Option Value, ZW X B A 8 0 0 (eFin X B (some (zi (oS g (-1, 1048576) 80).1)) (zz ζ)) ζ 43 [some (.ref 52), some (zi p), some (zi S), some (zi (oS g (-1, 1048576) (10 * y + h)).1), some (zi (oS g (-1, 1048576) (10 * y + h)).2), some (zi y), some (zi h), o7] [] := by
        intro m
        induction m with
        | zero =>
          intro h hhm o7
          have e : h = 10 := by omega
          subst e
          refine zw_iload (nx := 45) C dX7_offer_43 rfl rfl ?_
          refine zw_bipush (v := 9) (nx := 47) C dX7_offer_45 (by decide) rfl ?_
          refine zw_icmp_gt (tgt := 99) (nx := 50) C dX7_offer_47 rfl rfl (by omega) (fun h47 => ?_) (fun h47 => by exfalso; omega)
          refine zw_iinc5 (nx := 102) C dX7_offer_99 rfl (Nat.le_of_ble_eq_true rfl) rfl ?_
          refine zw_goto (nx := 29) C dX7_offer_102 rfl ?_
          have := ih (y + 1) (by omega) (some (zi (10 : Nat))) o7
          rw [show 10 * (y + 1) = 10 * y + 10 by omega] at this
          exact this
        | succ m ih2 =>
          intro h hhm o7
          have b1 := hob (10 * y + h)
          have b2 := aM_bd S (sDk (mV ζ) y) h 6
          refine zw_iload (nx := 45) C dX7_offer_43 rfl rfl ?_
          refine zw_bipush (v := 9) (nx := 47) C dX7_offer_45 (by decide) rfl ?_
          refine zw_icmp_gt (tgt := 99) (nx := 50) C dX7_offer_47 rfl rfl (by omega) (fun h47 => by exfalso; omega) (fun h47 => ?_)
          refine zw_iload_n (i := 2) (nx := 51) C dX7_offer_50 rfl rfl rfl ?_
          refine zw_aload_n (i := 0) (nx := 52) C dX7_offer_51 rfl rfl rfl ?_
          refine zw_iload (nx := 54) C dX7_offer_52 rfl rfl ?_
          refine zw_cV11 (nx := 57) C dX7_offer_54 rfl cvX7_180 rfl rfl ⟨Nat.le_of_ble_eq_true rfl, Nat.le_of_ble_eq_true rfl⟩ rfl rfl (Nat.le_of_ble_eq_true rfl) (run_X7_darkIn hn (by omega)) ?_
          refine zw_iload (nx := 59) C dX7_offer_57 rfl rfl ?_
          refine zw_cS31 (nx := 62) C dX7_offer_59 rfl csX7_258 ⟨Nat.le_of_ble_eq_true rfl, Nat.le_of_ble_eq_true rfl⟩ (Nat.le_of_ble_eq_true rfl) (run_X7_alike hS (hn.1.dk y) (by omega)) ?_
          rw [← hga y h (by omega)]
          rw [← hga y h (by omega)] at b2
          refine zw_ist7 (nx := 64) C (eIst_w dX7_offer_62 rfl) (Nat.le_of_ble_eq_true rfl) rfl ?_
          refine zw_iload (nx := 66) C dX7_offer_64 rfl rfl ?_
          refine zw_iload (nx := 68) C dX7_offer_66 rfl rfl ?_
          refine zw_icmp_ge (tgt := 82) (nx := 71) C dX7_offer_68 rfl rfl (by omega) (fun h68 => ?_) (fun h68 => ?_)
          · have e : oS g (-1, 1048576) (10 * y + h + 1) = oS g (-1, 1048576) (10 * y + h) := if_neg (by omega)
            refine zw_iload_n (i := 3) (nx := 83) C dX7_offer_82 rfl rfl rfl ?_
            refine zw_ist3 (nx := 84) C (eIst_n dX7_offer_83 rfl rfl) (Nat.le_of_ble_eq_true rfl) rfl ?_
            refine zw_iload (nx := 86) C dX7_offer_84 rfl rfl ?_
            refine zw_iload (nx := 88) C dX7_offer_86 rfl rfl ?_
            refine zw_cS21 (nx := 91) C dX7_offer_88 rfl csX7_233 ⟨Nat.le_of_ble_eq_true rfl, Nat.le_of_ble_eq_true rfl⟩ (Nat.le_of_ble_eq_true rfl) (run_X7_lesser (by omega)) ?_
            rw [show (if (oS g (-1, 1048576) (10 * y + h)).2 < g (10 * y + h) then (oS g (-1, 1048576) (10 * y + h)).2 else g (10 * y + h)) = (oS g (-1, 1048576) (10 * y + h)).2 from by split <;> omega]
            rw [← e]
            refine zw_ist4 (nx := 93) C (eIst_w dX7_offer_91 rfl) (Nat.le_of_ble_eq_true rfl) rfl ?_
            refine zw_iinc6 (nx := 96) C dX7_offer_93 rfl (Nat.le_of_ble_eq_true rfl) rfl ?_
            refine zw_goto (nx := 43) C dX7_offer_96 rfl ?_
            exact ih2 (h + 1) (by omega) _
          · have e : oS g (-1, 1048576) (10 * y + h + 1) = (((10 * y + h : Nat) : Int), g (10 * y + h)) := if_pos (by omega)
            refine zw_bipush (v := 10) (nx := 73) C dX7_offer_71 (by decide) rfl ?_
            refine zw_iload (nx := 75) C dX7_offer_73 rfl rfl ?_
            refine zw_imul (nx := 76) C dX7_offer_75 rfl ?_
            refine zw_iload (nx := 78) C dX7_offer_76 rfl rfl ?_
            refine zw_iadd (nx := 79) C dX7_offer_78 rfl ?_
            refine zw_goto (nx := 83) C dX7_offer_79 rfl ?_
            refine zw_ist3 (nx := 84) C (eIst_n dX7_offer_83 rfl rfl) (Nat.le_of_ble_eq_true rfl) rfl ?_
            refine zw_iload (nx := 86) C dX7_offer_84 rfl rfl ?_
            refine zw_iload (nx := 88) C dX7_offer_86 rfl rfl ?_
            refine zw_cS21 (nx := 91) C dX7_offer_88 rfl csX7_233 ⟨Nat.le_of_ble_eq_true rfl, Nat.le_of_ble_eq_true rfl⟩ (Nat.le_of_ble_eq_true rfl) (run_X7_lesser (by omega)) ?_
            rw [show (if (oS g (-1, 1048576) (10 * y + h)).2 < g (10 * y + h) then (oS g (-1, 1048576) (10 * y + h)).2 else g (10 * y + h)) = g (10 * y + h) from by split <;> omega]
            refine zw_ist4 (nx := 93) C (eIst_w dX7_offer_91 rfl) (Nat.le_of_ble_eq_true rfl) rfl ?_
            refine zw_iinc6 (nx := 96) C dX7_offer_93 rfl (Nat.le_of_ble_eq_true rfl) rfl ?_
            refine zw_goto (nx := 43) C dX7_offer_96 rfl ?_
            have := ih2 (h + 1) (by omega) (some (zi (g (10 * y + h))))
            rw [show 10 * y + (h + 1) = 10 * y + h + 1 from rfl, e, show (((10 * y + h : Nat) : Int), g (10 * y + h)).1 = 10 * (y : Int) + (h : Int) from by omega] at this
            exact this
      refine zw_iload (nx := 31) C dX7_offer_29 rfl rfl ?_
      refine zw_bipush (v := 8) (nx := 33) C dX7_offer_31 (by decide) rfl ?_
      refine zw_icmp_ge (tgt := 105) (nx := 36) C dX7_offer_33 rfl rfl (by omega) (fun h33 => by exfalso; omega) (fun h33 => ?_)
      refine zw_iload_n (i := 2) (nx := 37) C dX7_offer_36 rfl rfl rfl ?_
      refine zw_if_eq (tgt := 105) (nx := 40) C dX7_offer_37 rfl rfl (by omega) (fun h37 => by exfalso; omega) (fun h37 => ?_)
      refine zw_iconst (nx := 41) C dX7_offer_40 rfl ?_
      refine zw_ist6 (nx := 43) C (eIst_w dX7_offer_41 rfl) (Nat.le_of_ble_eq_true rfl) rfl ?_
      exact l2 10 0 (by omega) _
  refine zw_aload_n (i := 0) (nx := 1) C dX7_offer_0 rfl rfl rfl ?_
  refine zw_iload_n (i := 1) (nx := 2) C dX7_offer_1 rfl rfl rfl ?_
  refine zw_cV11 (nx := 5) C dX7_offer_2 rfl cvX7_212 rfl rfl ⟨Nat.le_of_ble_eq_true rfl, Nat.le_of_ble_eq_true rfl⟩ rfl rfl (Nat.le_of_ble_eq_true rfl) (run_X7_isOne_t hn5 hn.2 h) ?_
  refine zw_if_ne (tgt := 13) (nx := 8) C dX7_offer_5 rfl rfl (by omega) (fun h5 => ?_) (fun h5 => by exfalso; omega)
  refine zw_aload_n (i := 0) (nx := 14) C dX7_offer_13 rfl rfl rfl ?_
  refine zw_iload_n (i := 1) (nx := 15) C dX7_offer_14 rfl rfl rfl ?_
  refine zw_cV11 (nx := 18) C dX7_offer_15 rfl cvX7_254 rfl rfl ⟨Nat.le_of_ble_eq_true rfl, Nat.le_of_ble_eq_true rfl⟩ rfl rfl (Nat.le_of_ble_eq_true rfl) (rk X) ?_
  refine zw_ist2 (nx := 19) C (eIst_n dX7_offer_18 rfl rfl) (Nat.le_of_ble_eq_true rfl) rfl ?_
  refine zw_iconst (nx := 20) C dX7_offer_19 rfl ?_
  refine zw_ist3 (nx := 21) C (eIst_n dX7_offer_20 rfl rfl) (Nat.le_of_ble_eq_true rfl) rfl ?_
  refine zw_ldcw (v := 1048576) (nx := 24) C dX7_offer_21 kiX7_257 (by decide) rfl ?_
  refine zw_ist4 (nx := 26) C (eIst_w dX7_offer_24 rfl) (Nat.le_of_ble_eq_true rfl) rfl ?_
  refine zw_iconst (nx := 27) C dX7_offer_26 rfl ?_
  refine zw_ist5 (nx := 29) C (eIst_w dX7_offer_27 rfl) (Nat.le_of_ble_eq_true rfl) rfl ?_
  exact l1 8 0 (by omega) _ _
/-- cells that no relation looks at -/
theorem Rel.off {ζ η : zSt} (h : Rel ζ) (hr : ∀ a, a ∈ [0, 1, 2, 3, 4, 5, 6, 7, 8, 9, 20, 21, 22, 23, 24, 25, 26, 27, 28, 29, 30, 31, 32, 33, 34, 35, 36, 37, 38, 39, 40, 52, 53, 54, 55, 56, 57, 58, 59, 60, 61, 62, 63, 66, 69, 70] → η.1 a = ζ.1 a) (h2 : η.2 = ζ.2) : Rel η := by
  obtain ⟨⟨n, c, s, hN⟩, ⟨hI, hJ⟩, ⟨t, hT⟩, hS, hF⟩ := h
  exact ⟨⟨n, c, s, hN.tr (fun a ha => hr a (by revert a; decide))⟩, ⟨hI.tr0 (fun a ha => hr a (by revert a; decide)), hJ.tr1 (fun a ha => hr a (by revert a; decide))⟩, ⟨t, hT.tr (fun a ha => hr a (by revert a; decide)) (by rw [hr 52 (by decide)])⟩, hS.tr (fun a ha => hr a (by revert a; decide)), hF.tr (by rw [hr 0 (by decide)]) (by rw [hr 0 (by decide)]) h2⟩
theorem Rel.R51 (h : Rel ζ) (f : Nat → Int) : Rel (zR ζ 51 f) := h.off (fun a ha => zR_off (fun e => by subst e; revert ha; decide)) rfl
theorem RelN.R51 {n c s : Nat} (h : RelN ζ n c s) (f : Nat → Int) : RelN (zR ζ 51 f) n c s := h
theorem st_is (hR : Rel ζ) {p : Int} (hp : -2147483648 ≤ p ∧ p ≤ 2147483647) : eStep l B mX6_is mX7_is [zi p] ζ := by
  obtain ⟨n, c, s, hN⟩ := hR.1
  have hn := hN.2.1.1
  by_cases h : 0 ≤ p ∧ p < n
  · refine ⟨_, _, _, run_X6_is_ok hn hN.1.1 hN.cn h, ?_, hR⟩
    rw [← gK_cg 6 (fun k _ => hN.fit p k)]
    exact run_X7_is_ok hn hN.1.2.2.2.1 hN.mn h
  · exact ⟨_, _, _, run_X6_is_bad hn hN.1.1 hp h, run_X7_is_bad (ζ := bdS ζ) hn hN.1.2.2.2.1 hp h, rel_bad hR⟩
theorem st_offer (hR : Rel ζ) {p : Int} (hp : -2147483648 ≤ p ∧ p ≤ 2147483647) : eStep l B mX6_offer mX7_offer [zi p] ζ := by
  obtain ⟨n, c, s, hN⟩ := hR.1
  have hn := hN.2.1.1
  by_cases h : 0 ≤ p ∧ p < n
  · have eK : gK (mF ζ p c) 6 = gK (cF ζ p c) 6 := gK_cg 6 (fun k _ => hN.fit p k)
    by_cases h0 : gK (cF ζ p c) 6 = 0
    · exact ⟨_, _, _, run_X6_offer_0 hn hN.1.1 hN.cn h h0, run_X7_offer_0 hn hN.1.2.2.2.1 hN.mn h (eK.trans h0), hR⟩
    · obtain ⟨f, rx⟩ := run_X6_offer_ok (l := l) (B := B) hN.cOk hN.cn h h0
      refine ⟨_, _, _, rx, ?_, hR.R51 f⟩
      have hN2 := hN.R51 f
      have rm := run_X7_offer_ok (l := l) (B := B) (ζ := zR ζ 51 f) hN2.mOk hN2.mn h (by show gK (mF ζ p c) 6 ≠ 0; rw [eK]; exact h0)
      rw [show gK (mF (zR ζ 51 f) p c) 6 = gK (cF ζ p c) 6 from eK] at rm
      have e1 : oS (oF (mV (zR ζ 51 f)) (gK (cF ζ p c) 6)) (-1, 1048576) 80 = oS (oF (cV ζ) (gK (cF ζ p c) 6)) (-1, 7) 80 := by
        rw [oS_cg (g := oF (cV ζ) (gK (cF ζ p c) 6)) _ 80 (fun j _ => by unfold oF; rw [show sDk (mV (zR ζ 51 f)) ((j / 10 : Nat) : Int) = sDk (cV ζ) ((j / 10 : Nat) : Int) from hN.agr.dk _])]
        have b := aM_bd (gK (cF ζ p c) 6) (sDk (cV ζ) ((0 / 10 : Nat) : Int)) ((0 % 10 : Nat) : Int) 6
        exact oS_start (by show oF (cV ζ) _ 0 < 1048576; unfold oF; omega) (by show oF (cV ζ) _ 0 < 7; unfold oF; omega) 79
      rw [e1] at rm
      exact rm
  · exact ⟨_, _, _, run_X6_offer_bad hn hN.1.1 hp h, run_X7_offer_bad (ζ := bdS ζ) hn hN.1.2.2.2.1 hp h, rel_bad hR⟩
end GueM
