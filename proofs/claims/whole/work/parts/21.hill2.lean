/-! the hill's bids, price, harm -/
section Hill2
variable {l : Launch} {B : eB} {ζ : zSt}
theorem run_X2_paidByAll {n : Nat} (hc : cOk ζ n) : zRun l B mX2_paidByAll [.ref 1] ζ (some (zi (sSum (cV ζ 4) n))) ζ := by
  have hn3 := hc.2.1
  have hn := hc.1.1
  refine zrun_intro (M := mX2_paidByAll) (ls := [some (.ref 1), none, none]) (by decide) rfl rfl rfl (Nat.le_of_ble_eq_true rfl) ?_
  intro X A C hX hA hr hk
  replace C : CX X B A mX2_paidByAll.2.2.2.2 RX2 cX2_paidByAll 3 0 0 := C
  have hr : (xMeth X).sig.returnType = (some .int) := hr
  change ZW X B A 3 0 0 _ _ 0 [some (.ref 1), none, none] []
  have loop : ∀ k p : Nat, p + k = n → ZW X B A 3 0 0 (eFin X B (some (zi (sSum (cV ζ 4) n))) (zz ζ)) ζ 4 [some (.ref 1), some (zi (sSum (cV ζ 4) p)), some (zi p)] [] := by
    intro k
    induction k with
    | zero =>
      intro p hpk
      have e : p = n := by omega
      subst e
      refine zw_iload_n (i := 2) (nx := 5) C dX2_paidByAll_4 rfl rfl rfl ?_
      refine zw_aload_n (i := 0) (nx := 6) C dX2_paidByAll_5 rfl rfl rfl ?_
      refine zw_geti (nx := 9) C dX2_paidByAll_6 rfl flX2_22 iq2 rfl rfl rfl rfl ?_
      refine zw_icmp_ge (tgt := 27) (nx := 12) C dX2_paidByAll_9 rfl rfl (by omega) (fun h9 => ?_) (fun h9 => by exfalso; omega)
      refine zw_iload_n (i := 1) (nx := 28) C dX2_paidByAll_27 rfl rfl rfl ?_
      exact zw_iret C hA hr hk dX2_paidByAll_28 rfl rfl
    | succ k ih =>
      intro p hpk
      refine zw_iload_n (i := 2) (nx := 5) C dX2_paidByAll_4 rfl rfl rfl ?_
      refine zw_aload_n (i := 0) (nx := 6) C dX2_paidByAll_5 rfl rfl rfl ?_
      refine zw_geti (nx := 9) C dX2_paidByAll_6 rfl flX2_22 iq2 rfl rfl rfl rfl ?_
      refine zw_icmp_ge (tgt := 27) (nx := 12) C dX2_paidByAll_9 rfl rfl (by omega) (fun h9 => by exfalso; omega) (fun h9 => ?_)
      refine zw_iload_n (i := 1) (nx := 13) C dX2_paidByAll_12 rfl rfl rfl ?_
      refine zw_aload_n (i := 0) (nx := 14) C dX2_paidByAll_13 rfl rfl rfl ?_
      refine zw_getr (nx := 17) C dX2_paidByAll_14 rfl flX2_34 iq2 rfl rfl rfl rfl ?_
      refine zw_iload_n (i := 2) (nx := 18) C dX2_paidByAll_17 rfl rfl rfl ?_
      refine zw_iald (p) (nx := 19) C dX2_paidByAll_18 rfl rfl rfl rfl (by omega) ?_
      refine zw_iadd (nx := 20) C dX2_paidByAll_19 rfl ?_
      refine zw_ist1 (nx := 21) C (eIst_n dX2_paidByAll_20 rfl rfl) (Nat.le_of_ble_eq_true rfl) rfl ?_
      refine zw_iinc2 (nx := 24) C dX2_paidByAll_21 rfl (Nat.le_of_ble_eq_true rfl) rfl ?_
      refine zw_goto (nx := 4) C dX2_paidByAll_24 rfl ?_
      exact ih (p + 1) (by omega)
  refine zw_iconst (nx := 1) C dX2_paidByAll_0 rfl ?_
  refine zw_ist1 (nx := 2) C (eIst_n dX2_paidByAll_1 rfl rfl) (Nat.le_of_ble_eq_true rfl) rfl ?_
  refine zw_iconst (nx := 3) C dX2_paidByAll_2 rfl ?_
  refine zw_ist2 (nx := 4) C (eIst_n dX2_paidByAll_3 rfl rfl) (Nat.le_of_ble_eq_true rfl) rfl ?_
  exact loop n 0 (by omega)
theorem run_X2_worthIn {n : Nat} (hc : cOk ζ n) {p y : Nat} (hp : p < n) (hy : y < 8) : zRun l B mX2_worthIn [.ref 1, zi p, zi y] ζ (some (zi (sWin (cV ζ) n p y))) ζ := by
  have hn := hc.1.1
  refine zrun_intro (M := mX2_worthIn) (ls := [some (.ref 1), some (zi p), some (zi y)]) (by decide) rfl rfl rfl (Nat.le_of_ble_eq_true rfl) ?_
  intro X A C hX hA hr hk
  replace C : CX X B A mX2_worthIn.2.2.2.2 RX2 cX2_worthIn 3 0 0 := C
  have hr : (xMeth X).sig.returnType = (some .int) := hr
  change ZW X B A 3 0 0 _ _ 0 [some (.ref 1), some (zi p), some (zi y)] []
  refine zw_aload_n (i := 0) (nx := 1) C dX2_worthIn_0 rfl rfl rfl ?_
  refine zw_getr (nx := 4) C dX2_worthIn_1 rfl flX2_25 iq2 rfl rfl rfl rfl ?_
  refine zw_iload_n (i := 1) (nx := 5) C dX2_worthIn_4 rfl rfl rfl ?_
  refine zw_iald (p) (nx := 6) C dX2_worthIn_5 rfl rfl rfl rfl (by omega) ?_
  refine zw_aload_n (i := 0) (nx := 7) C dX2_worthIn_6 rfl rfl rfl ?_
  refine zw_iload_n (i := 1) (nx := 8) C dX2_worthIn_7 rfl rfl rfl ?_
  refine zw_iload_n (i := 2) (nx := 9) C dX2_worthIn_8 rfl rfl rfl ?_
  refine zw_cV21 (nx := 12) C dX2_worthIn_9 rfl cvX2_81 rfl rfl ⟨Nat.le_of_ble_eq_true rfl, Nat.le_of_ble_eq_true rfl⟩ rfl rfl (Nat.le_of_ble_eq_true rfl) (run_X2_seenIn hc (by omega) hy) ?_
  refine zw_aload_n (i := 0) (nx := 13) C dX2_worthIn_12 rfl rfl rfl ?_
  refine zw_getr (nx := 16) C dX2_worthIn_13 rfl flX2_18 iq2 rfl rfl rfl rfl ?_
  refine zw_iload_n (i := 2) (nx := 17) C dX2_worthIn_16 rfl rfl rfl ?_
  refine zw_iald (y) (nx := 18) C dX2_worthIn_17 rfl rfl rfl rfl (by omega) ?_
  refine zw_cS31 (nx := 21) C dX2_worthIn_18 rfl csX2_88 ⟨Nat.le_of_ble_eq_true rfl, Nat.le_of_ble_eq_true rfl⟩ (Nat.le_of_ble_eq_true rfl) (run_X3_worth (hc.1.2.2.2.2 p hp).1 (hc.1.seen p y) (hc.1.2.2.2.1 y hy)) ?_
  exact zw_iret C hA hr hk dX2_worthIn_21 rfl rfl
theorem run_X2_bid {n : Nat} (hc : cOk ζ n) {p y : Nat} (hp : p < n) (hy : y < 8) : zRun l B mX2_bid [.ref 1, zi p, zi y] ζ (some (zi (sBid (cV ζ) n p y))) ζ := by
  have hn := hc.1.1
  have a1 := hc.1.win p hy
  have a2 : 0 ≤ ζ.1 5 p ∧ ζ.1 5 p ≤ 500 := (hc.1.2.2.2.2 p hp).2.1
  refine zrun_intro (M := mX2_bid) (ls := [some (.ref 1), some (zi p), some (zi y)]) (by decide) rfl rfl rfl (Nat.le_of_ble_eq_true rfl) ?_
  intro X A C hX hA hr hk
  replace C : CX X B A mX2_bid.2.2.2.2 RX2 cX2_bid 3 0 0 := C
  have hr : (xMeth X).sig.returnType = (some .int) := hr
  change ZW X B A 3 0 0 _ _ 0 [some (.ref 1), some (zi p), some (zi y)] []
  refine zw_aload_n (i := 0) (nx := 1) C dX2_bid_0 rfl rfl rfl ?_
  refine zw_iload_n (i := 1) (nx := 2) C dX2_bid_1 rfl rfl rfl ?_
  refine zw_iload_n (i := 2) (nx := 3) C dX2_bid_2 rfl rfl rfl ?_
  refine zw_cV21 (nx := 6) C dX2_bid_3 rfl cvX2_91 rfl rfl ⟨Nat.le_of_ble_eq_true rfl, Nat.le_of_ble_eq_true rfl⟩ rfl rfl (Nat.le_of_ble_eq_true rfl) (run_X2_worthIn hc hp hy) ?_
  refine zw_aload_n (i := 0) (nx := 7) C dX2_bid_6 rfl rfl rfl ?_
  refine zw_getr (nx := 10) C dX2_bid_7 rfl flX2_31 iq2 rfl rfl rfl rfl ?_
  refine zw_iload_n (i := 1) (nx := 11) C dX2_bid_10 rfl rfl rfl ?_
  refine zw_iald (p) (nx := 12) C dX2_bid_11 rfl rfl rfl rfl (by omega) ?_
  refine zw_min (nx := 15) C dX2_bid_12 rfl wlX2_94 ws_min wi_math wc_min (Nat.le_of_ble_eq_true rfl) (Nat.le_of_ble_eq_true rfl) (Nat.le_of_ble_eq_true rfl) (by omega) ?_
  exact zw_iret C hA hr hk dX2_bid_15 rfl rfl
set_option maxHeartbeats 4000000 in
theorem run_X2_topBidder {n : Nat} (hc : cOk ζ n) {y : Nat} (hy : y < 8) : zRun l B mX2_topBidder [.ref 1, zi y] ζ (some (zi (sTop (sOff (cV ζ) n y) n).1)) ζ := by
  have hn3 := hc.2.1
  have hn := hc.1.1
  have hbd := sTop_bd (f := sOff (cV ζ) n y) (n := n) (fun p hp => hc.1.off hp hy)
  refine zrun_intro (M := mX2_topBidder) (ls := [some (.ref 1), some (zi y), none, none, none, none]) (by decide) rfl rfl rfl (Nat.le_of_ble_eq_true rfl) ?_
  intro X A C hX hA hr hk
  replace C : CX X B A mX2_topBidder.2.2.2.2 RX2 cX2_topBidder 6 0 0 := C
  have hr : (xMeth X).sig.returnType = (some .int) := hr
  change ZW X B A 6 0 0 _ _ 0 [some (.ref 1), some (zi y), none, none, none, none] []
  have loop : ∀ k p : Nat, p + k = n → ∀ o5 : Option Value, ZW X B A 6 0 0 (eFin X B (some (zi (sTop (sOff (cV ζ) n y) n).1)) (zz ζ)) ζ 7 [some (.ref 1), some (zi y), some (zi (sTop (sOff (cV ζ) n y) p).1), some (zi (sTop (sOff (cV ζ) n y) p).2), some (zi p), o5] [] := by
    intro k
    induction k with
    | zero =>
      intro p hpk o5
      have e : p = n := by omega
      subst e
      refine zw_iload (nx := 9) C dX2_topBidder_7 rfl rfl ?_
      refine zw_aload_n (i := 0) (nx := 10) C dX2_topBidder_9 rfl rfl rfl ?_
      refine zw_geti (nx := 13) C dX2_topBidder_10 rfl flX2_22 iq2 rfl rfl rfl rfl ?_
      refine zw_icmp_ge (tgt := 54) (nx := 16) C dX2_topBidder_13 rfl rfl (by omega) (fun h13 => ?_) (fun h13 => by exfalso; omega)
      refine zw_iload_n (i := 2) (nx := 55) C dX2_topBidder_54 rfl rfl rfl ?_
      exact zw_iret C hA hr hk dX2_topBidder_55 rfl rfl
    | succ k ih =>
      intro p hpk o5
      have hs : -1 ≤ ζ.1 7 p ∧ ζ.1 7 p ≤ 7 := (hc.1.2.2.2.2 p (by omega)).2.2.2
      have hb1 := hbd p (by omega)
      have hb2 := hc.1.bid (p := p) (by omega) hy
      refine zw_iload (nx := 9) C dX2_topBidder_7 rfl rfl ?_
      refine zw_aload_n (i := 0) (nx := 10) C dX2_topBidder_9 rfl rfl rfl ?_
      refine zw_geti (nx := 13) C dX2_topBidder_10 rfl flX2_22 iq2 rfl rfl rfl rfl ?_
      refine zw_icmp_ge (tgt := 54) (nx := 16) C dX2_topBidder_13 rfl rfl (by omega) (fun h13 => by exfalso; omega) (fun h13 => ?_)
      refine zw_aload_n (i := 0) (nx := 17) C dX2_topBidder_16 rfl rfl rfl ?_
      refine zw_getr (nx := 20) C dX2_topBidder_17 rfl flX2_37 iq2 rfl rfl rfl rfl ?_
      refine zw_iload (nx := 22) C dX2_topBidder_20 rfl rfl ?_
      refine zw_iald (p) (nx := 23) C dX2_topBidder_22 rfl rfl rfl rfl (by omega) ?_
      refine zw_iconst (nx := 24) C dX2_topBidder_23 rfl ?_
      refine zw_icmp_ne (tgt := 48) (nx := 27) C dX2_topBidder_24 rfl rfl (by omega) (fun h24 => ?_) (fun h24 => ?_)
      · have eo : sOff (cV ζ) n y p = 0 := if_neg h24
        have e : sTop (sOff (cV ζ) n y) (p + 1) = sTop (sOff (cV ζ) n y) p := if_neg (by rw [eo]; omega)
        rw [← e]
        refine zw_iinc4 (nx := 51) C dX2_topBidder_48 rfl (Nat.le_of_ble_eq_true rfl) rfl ?_
        refine zw_goto (nx := 7) C dX2_topBidder_51 rfl ?_
        exact ih (p + 1) (by omega) o5
      · have eo : sOff (cV ζ) n y p = sBid (cV ζ) n p y := if_pos h24
        refine zw_aload_n (i := 0) (nx := 28) C dX2_topBidder_27 rfl rfl rfl ?_
        refine zw_iload (nx := 30) C dX2_topBidder_28 rfl rfl ?_
        refine zw_iload_n (i := 1) (nx := 31) C dX2_topBidder_30 rfl rfl rfl ?_
        refine zw_cV21 (nx := 34) C dX2_topBidder_31 rfl cvX2_99 rfl rfl ⟨Nat.le_of_ble_eq_true rfl, Nat.le_of_ble_eq_true rfl⟩ rfl rfl (Nat.le_of_ble_eq_true rfl) (run_X2_bid hc (by omega) hy) ?_
        refine zw_ist5 (nx := 36) C (eIst_w dX2_topBidder_34 rfl) (Nat.le_of_ble_eq_true rfl) rfl ?_
        refine zw_iload (nx := 38) C dX2_topBidder_36 rfl rfl ?_
        refine zw_iload_n (i := 3) (nx := 39) C dX2_topBidder_38 rfl rfl rfl ?_
        refine zw_icmp_le (tgt := 48) (nx := 42) C dX2_topBidder_39 rfl rfl (by omega) (fun h39 => ?_) (fun h39 => ?_)
        · have e : sTop (sOff (cV ζ) n y) (p + 1) = sTop (sOff (cV ζ) n y) p := if_neg (by rw [eo]; omega)
          rw [← e]
          refine zw_iinc4 (nx := 51) C dX2_topBidder_48 rfl (Nat.le_of_ble_eq_true rfl) rfl ?_
          refine zw_goto (nx := 7) C dX2_topBidder_51 rfl ?_
          exact ih (p + 1) (by omega) _
        · have e : sTop (sOff (cV ζ) n y) (p + 1) = ((p : Int), sBid (cV ζ) n p y) := by
            rw [← eo]; exact if_pos (by rw [eo]; exact h39)
          refine zw_iload (nx := 44) C dX2_topBidder_42 rfl rfl ?_
          refine zw_ist3 (nx := 45) C (eIst_n dX2_topBidder_44 rfl rfl) (Nat.le_of_ble_eq_true rfl) rfl ?_
          refine zw_iload (nx := 47) C dX2_topBidder_45 rfl rfl ?_
          refine zw_ist2 (nx := 48) C (eIst_n dX2_topBidder_47 rfl rfl) (Nat.le_of_ble_eq_true rfl) rfl ?_
          refine zw_iinc4 (nx := 51) C dX2_topBidder_48 rfl (Nat.le_of_ble_eq_true rfl) rfl ?_
          refine zw_goto (nx := 7) C dX2_topBidder_51 rfl ?_
          have := ih (p + 1) (by omega) (some (zi (sBid (cV ζ) n p y)))
          rw [e] at this
          exact this
  refine zw_iconst (nx := 1) C dX2_topBidder_0 rfl ?_
  refine zw_ist2 (nx := 2) C (eIst_n dX2_topBidder_1 rfl rfl) (Nat.le_of_ble_eq_true rfl) rfl ?_
  refine zw_iconst (nx := 3) C dX2_topBidder_2 rfl ?_
  refine zw_ist3 (nx := 4) C (eIst_n dX2_topBidder_3 rfl rfl) (Nat.le_of_ble_eq_true rfl) rfl ?_
  refine zw_iconst (nx := 5) C dX2_topBidder_4 rfl ?_
  refine zw_ist4 (nx := 7) C (eIst_w dX2_topBidder_5 rfl) (Nat.le_of_ble_eq_true rfl) rfl ?_
  exact loop n 0 (by omega) _
set_option maxHeartbeats 4000000 in
theorem run_X2_price {n : Nat} (hc : cOk ζ n) {y : Nat} (hy : y < 8) {w : Int} (hw : -1 ≤ w ∧ w ≤ 5) : zRun l B mX2_price [.ref 1, zi y, zi w] ζ (some (zi (sPri (sOff (cV ζ) n y) w n))) ζ := by
  have hn3 := hc.2.1
  have hn := hc.1.1
  have hbd := sPri_bd (f := sOff (cV ζ) n y) (n := n) (w := w) (fun p hp => hc.1.off hp hy)
  refine zrun_intro (M := mX2_price) (ls := [some (.ref 1), some (zi y), some (zi w), none, none]) (by decide) rfl rfl rfl (Nat.le_of_ble_eq_true rfl) ?_
  intro X A C hX hA hr hk
  replace C : CX X B A mX2_price.2.2.2.2 RX2 cX2_price 5 0 0 := C
  have hr : (xMeth X).sig.returnType = (some .int) := hr
  change ZW X B A 5 0 0 _ _ 0 [some (.ref 1), some (zi y), some (zi w), none, none] []
  have loop : ∀ k p : Nat, p + k = n → ZW X B A 5 0 0 (eFin X B (some (zi (sPri (sOff (cV ζ) n y) w n))) (zz ζ)) ζ 5 [some (.ref 1), some (zi y), some (zi w), some (zi (sPri (sOff (cV ζ) n y) w p)), some (zi p)] [] := by
    intro k
    induction k with
    | zero =>
      intro p hpk
      have e : p = n := by omega
      subst e
      refine zw_iload (nx := 7) C dX2_price_5 rfl rfl ?_
      refine zw_aload_n (i := 0) (nx := 8) C dX2_price_7 rfl rfl rfl ?_
      refine zw_geti (nx := 11) C dX2_price_8 rfl flX2_22 iq2 rfl rfl rfl rfl ?_
      refine zw_icmp_ge (tgt := 49) (nx := 14) C dX2_price_11 rfl rfl (by omega) (fun h11 => ?_) (fun h11 => by exfalso; omega)
      refine zw_iload_n (i := 3) (nx := 50) C dX2_price_49 rfl rfl rfl ?_
      exact zw_iret C hA hr hk dX2_price_50 rfl rfl
    | succ k ih =>
      intro p hpk
      have hs : -1 ≤ ζ.1 7 p ∧ ζ.1 7 p ≤ 7 := (hc.1.2.2.2.2 p (by omega)).2.2.2
      have hb1 := hbd p (by omega)
      have hb2 := hc.1.bid (p := p) (by omega) hy
      have go : sPri (sOff (cV ζ) n y) w (p + 1) = sPri (sOff (cV ζ) n y) w p → ZW X B A 5 0 0 (eFin X B (some (zi (sPri (sOff (cV ζ) n y) w n))) (zz ζ)) ζ 43 [some (.ref 1), some (zi y), some (zi w), some (zi (sPri (sOff (cV ζ) n y) w p)), some (zi p)] [] := by
        intro e
        rw [← e]
        refine zw_iinc4 (nx := 46) C dX2_price_43 rfl (Nat.le_of_ble_eq_true rfl) rfl ?_
        refine zw_goto (nx := 5) C dX2_price_46 rfl ?_
        exact ih (p + 1) (by omega)
      refine zw_iload (nx := 7) C dX2_price_5 rfl rfl ?_
      refine zw_aload_n (i := 0) (nx := 8) C dX2_price_7 rfl rfl rfl ?_
      refine zw_geti (nx := 11) C dX2_price_8 rfl flX2_22 iq2 rfl rfl rfl rfl ?_
      refine zw_icmp_ge (tgt := 49) (nx := 14) C dX2_price_11 rfl rfl (by omega) (fun h11 => by exfalso; omega) (fun h11 => ?_)
      refine zw_iload (nx := 16) C dX2_price_14 rfl rfl ?_
      refine zw_iload_n (i := 2) (nx := 17) C dX2_price_16 rfl rfl rfl ?_
      refine zw_icmp_eq (tgt := 43) (nx := 20) C dX2_price_17 rfl rfl (by omega) (fun h17 => ?_) (fun h17 => ?_)
      · exact go (if_pos h17)
      · refine zw_aload_n (i := 0) (nx := 21) C dX2_price_20 rfl rfl rfl ?_
        refine zw_getr (nx := 24) C dX2_price_21 rfl flX2_37 iq2 rfl rfl rfl rfl ?_
        refine zw_iload (nx := 26) C dX2_price_24 rfl rfl ?_
        refine zw_iald (p) (nx := 27) C dX2_price_26 rfl rfl rfl rfl (by omega) ?_
        refine zw_iconst (nx := 28) C dX2_price_27 rfl ?_
        refine zw_icmp_ne (tgt := 43) (nx := 31) C dX2_price_28 rfl rfl (by omega) (fun h28 => ?_) (fun h28 => ?_)
        · have eo : sOff (cV ζ) n y p = 0 := if_neg h28
          refine go ?_
          show (if (p : Int) = w then _ else if _ < sOff (cV ζ) n y p then _ else _) = _
          rw [if_neg h17, if_neg (by rw [eo]; omega)]
        · have eo : sOff (cV ζ) n y p = sBid (cV ζ) n p y := if_pos h28
          have e : sPri (sOff (cV ζ) n y) w (p + 1) = if sPri (sOff (cV ζ) n y) w p < sBid (cV ζ) n p y then sBid (cV ζ) n p y else sPri (sOff (cV ζ) n y) w p := by
            rw [← eo]; exact if_neg h17
          refine zw_iload_n (i := 3) (nx := 32) C dX2_price_31 rfl rfl rfl ?_
          refine zw_aload_n (i := 0) (nx := 33) C dX2_price_32 rfl rfl rfl ?_
          refine zw_iload (nx := 35) C dX2_price_33 rfl rfl ?_
          refine zw_iload_n (i := 1) (nx := 36) C dX2_price_35 rfl rfl rfl ?_
          refine zw_cV21 (nx := 39) C dX2_price_36 rfl cvX2_99 rfl rfl ⟨Nat.le_of_ble_eq_true rfl, Nat.le_of_ble_eq_true rfl⟩ rfl rfl (Nat.le_of_ble_eq_true rfl) (run_X2_bid hc (by omega) hy) ?_
          refine zw_max (nx := 42) C dX2_price_39 rfl wlX2_102 ws_max wi_math wc_max (Nat.le_of_ble_eq_true rfl) (Nat.le_of_ble_eq_true rfl) (Nat.le_of_ble_eq_true rfl) (by omega) ?_
          refine zw_ist3 (nx := 43) C (eIst_n dX2_price_42 rfl rfl) (Nat.le_of_ble_eq_true rfl) rfl ?_
          rw [← e]
          refine zw_iinc4 (nx := 46) C dX2_price_43 rfl (Nat.le_of_ble_eq_true rfl) rfl ?_
          refine zw_goto (nx := 5) C dX2_price_46 rfl ?_
          exact ih (p + 1) (by omega)
  refine zw_iconst (nx := 1) C dX2_price_0 rfl ?_
  refine zw_ist3 (nx := 2) C (eIst_n dX2_price_1 rfl rfl) (Nat.le_of_ble_eq_true rfl) rfl ?_
  refine zw_iconst (nx := 3) C dX2_price_2 rfl ?_
  refine zw_ist4 (nx := 5) C (eIst_w dX2_price_3 rfl) (Nat.le_of_ble_eq_true rfl) rfl ?_
  exact loop n 0 (by omega)
set_option maxHeartbeats 4000000 in
theorem run_X2_harm {n : Nat} (hc : cOk ζ n) {p y : Nat} (hp : p < n) (hy : y < 8) : zRun l B mX2_harm [.ref 1, zi p, zi y] ζ (some (zi (sSum (sHurt (cV ζ) n p y) n))) ζ := by
  have hn3 := hc.2.1
  have hn := hc.1.1
  refine zrun_intro (M := mX2_harm) (ls := [some (.ref 1), some (zi p), some (zi y), none, none, none]) (by decide) rfl rfl rfl (Nat.le_of_ble_eq_true rfl) ?_
  intro X A C hX hA hr hk
  replace C : CX X B A mX2_harm.2.2.2.2 RX2 cX2_harm 6 0 0 := C
  have hr : (xMeth X).sig.returnType = (some .int) := hr
  change ZW X B A 6 0 0 _ _ 0 [some (.ref 1), some (zi p), some (zi y), none, none, none] []
  have loop : ∀ k q : Nat, q + k = n → ∀ o5 : Option Value, ZW X B A 6 0 0 (eFin X B (some (zi (sSum (sHurt (cV ζ) n p y) n))) (zz ζ)) ζ 5 [some (.ref 1), some (zi p), some (zi y), some (zi (sSum (sHurt (cV ζ) n p y) q)), some (zi q), o5] [] := by
    intro k
    induction k with
    | zero =>
      intro q hqk o5
      have e : q = n := by omega
      subst e
      refine zw_iload (nx := 7) C dX2_harm_5 rfl rfl ?_
      refine zw_aload_n (i := 0) (nx := 8) C dX2_harm_7 rfl rfl rfl ?_
      refine zw_geti (nx := 11) C dX2_harm_8 rfl flX2_22 iq2 rfl rfl rfl rfl ?_
      refine zw_icmp_ge (tgt := 73) (nx := 14) C dX2_harm_11 rfl rfl (by omega) (fun h11 => ?_) (fun h11 => by exfalso; omega)
      refine zw_iload_n (i := 3) (nx := 74) C dX2_harm_73 rfl rfl rfl ?_
      exact zw_iret C hA hr hk dX2_harm_74 rfl rfl
    | succ k ih =>
      intro q hqk o5
      have hs : -1 ≤ ζ.1 7 q ∧ ζ.1 7 q ≤ 7 := (hc.1.2.2.2.2 q (by omega)).2.2.2
      have skip : ¬ (((q ≠ p ∧ ζ.1 7 q ≠ -1) ∧ sBl (cV ζ) p y (ζ.1 7 q).toNat = true) ∧ sHid (cV ζ) (ζ.1 7 q).toNat q p 0 n = false) → ZW X B A 6 0 0 (eFin X B (some (zi (sSum (sHurt (cV ζ) n p y) n))) (zz ζ)) ζ 67 [some (.ref 1), some (zi p), some (zi y), some (zi (sSum (sHurt (cV ζ) n p y) q)), some (zi q), some (zi (ζ.1 7 q))] [] := by
        intro hno
        have e : sSum (sHurt (cV ζ) n p y) (q + 1) = sSum (sHurt (cV ζ) n p y) q := by
          show _ + sHurt (cV ζ) n p y q = _
          rw [show sHurt (cV ζ) n p y q = 0 from if_neg hno, Int.add_zero]
        rw [← e]
        refine zw_iinc4 (nx := 70) C dX2_harm_67 rfl (Nat.le_of_ble_eq_true rfl) rfl ?_
        refine zw_goto (nx := 5) C dX2_harm_70 rfl ?_
        exact ih (q + 1) (by omega) _
      refine zw_iload (nx := 7) C dX2_harm_5 rfl rfl ?_
      refine zw_aload_n (i := 0) (nx := 8) C dX2_harm_7 rfl rfl rfl ?_
      refine zw_geti (nx := 11) C dX2_harm_8 rfl flX2_22 iq2 rfl rfl rfl rfl ?_
      refine zw_icmp_ge (tgt := 73) (nx := 14) C dX2_harm_11 rfl rfl (by omega) (fun h11 => by exfalso; omega) (fun h11 => ?_)
      refine zw_aload_n (i := 0) (nx := 15) C dX2_harm_14 rfl rfl rfl ?_
      refine zw_getr (nx := 18) C dX2_harm_15 rfl flX2_37 iq2 rfl rfl rfl rfl ?_
      refine zw_iload (nx := 20) C dX2_harm_18 rfl rfl ?_
      refine zw_iald (q) (nx := 21) C dX2_harm_20 rfl rfl rfl rfl (by omega) ?_
      refine zw_ist5 (nx := 23) C (eIst_w dX2_harm_21 rfl) (Nat.le_of_ble_eq_true rfl) rfl ?_
      refine zw_iload (nx := 25) C dX2_harm_23 rfl rfl ?_
      refine zw_iload_n (i := 1) (nx := 26) C dX2_harm_25 rfl rfl rfl ?_
      refine zw_icmp_eq (tgt := 67) (nx := 29) C dX2_harm_26 rfl rfl (by omega) (fun h26 => ?_) (fun h26 => ?_)
      · exact skip (fun z => by omega)
      · refine zw_iload (nx := 31) C dX2_harm_29 rfl rfl ?_
        refine zw_iconst (nx := 32) C dX2_harm_31 rfl ?_
        refine zw_icmp_eq (tgt := 67) (nx := 35) C dX2_harm_32 rfl rfl (by omega) (fun h32 => ?_) (fun h32 => ?_)
        · exact skip (fun z => by omega)
        · obtain ⟨s, hs'⟩ := Int.eq_ofNat_of_zero_le (show 0 ≤ ζ.1 7 q by omega)
          have es : (ζ.1 7 q).toNat = s := by omega
          refine zw_aload_n (i := 0) (nx := 36) C dX2_harm_35 rfl rfl rfl ?_
          refine zw_iload_n (i := 1) (nx := 37) C dX2_harm_36 rfl rfl rfl ?_
          refine zw_iload_n (i := 2) (nx := 38) C dX2_harm_37 rfl rfl rfl ?_
          refine zw_iload (nx := 40) C dX2_harm_38 rfl rfl ?_
          refine zw_cV31 (nx := 43) C dX2_harm_40 rfl cvX2_71 rfl rfl ⟨Nat.le_of_ble_eq_true rfl, Nat.le_of_ble_eq_true rfl⟩ rfl rfl (Nat.le_of_ble_eq_true rfl) (by rw [hs']; exact run_X2_hides hc hp hy (by omega)) ?_
          refine zw_ifb_eq (tgt := 67) (nx := 46) C dX2_harm_43 rfl rfl (fun h43 => ?_) (fun h43 => ?_)
          · exact skip (fun z => by have := z.1.2; rw [es, h43] at this; cases this)
          · refine zw_aload_n (i := 0) (nx := 47) C dX2_harm_46 rfl rfl rfl ?_
            refine zw_iload (nx := 49) C dX2_harm_47 rfl rfl ?_
            refine zw_iload (nx := 51) C dX2_harm_49 rfl rfl ?_
            refine zw_iload_n (i := 1) (nx := 52) C dX2_harm_51 rfl rfl rfl ?_
            refine zw_cV31 (nx := 55) C dX2_harm_52 rfl cvX2_75 rfl rfl ⟨Nat.le_of_ble_eq_true rfl, Nat.le_of_ble_eq_true rfl⟩ rfl rfl (Nat.le_of_ble_eq_true rfl) (by rw [hs']; exact run_X2_isHidden hc (by omega) (by omega) (by omega)) ?_
            refine zw_ifb_ne (tgt := 67) (nx := 58) C dX2_harm_55 rfl rfl (fun h55 => ?_) (fun h55 => ?_)
            · exact skip (fun z => by have := z.2; rw [es, h55] at this; cases this)
            · have e : sSum (sHurt (cV ζ) n p y) (q + 1) = sSum (sHurt (cV ζ) n p y) q + sDk (cV ζ) (ζ.1 7 q) := by
                show _ + sHurt (cV ζ) n p y q = _
                rw [show sHurt (cV ζ) n p y q = sDk (cV ζ) (ζ.1 7 q) from if_pos ⟨⟨⟨by omega, h32⟩, by rw [show (cV ζ 5 q).toNat = s from es]; exact h43⟩, by rw [show (cV ζ 5 q).toNat = s from es]; exact h55⟩]
              refine zw_iload_n (i := 3) (nx := 59) C dX2_harm_58 rfl rfl rfl ?_
              refine zw_aload_n (i := 0) (nx := 60) C dX2_harm_59 rfl rfl rfl ?_
              refine zw_iload (nx := 62) C dX2_harm_60 rfl rfl ?_
              refine zw_cV11 (nx := 65) C dX2_harm_62 rfl cvX2_78 rfl rfl ⟨Nat.le_of_ble_eq_true rfl, Nat.le_of_ble_eq_true rfl⟩ rfl rfl (Nat.le_of_ble_eq_true rfl) (run_X2_darkIn hc (by omega)) ?_
              refine zw_iadd (nx := 66) C dX2_harm_65 rfl ?_
              refine zw_ist3 (nx := 67) C (eIst_n dX2_harm_66 rfl rfl) (Nat.le_of_ble_eq_true rfl) rfl ?_
              rw [← e]
              refine zw_iinc4 (nx := 70) C dX2_harm_67 rfl (Nat.le_of_ble_eq_true rfl) rfl ?_
              refine zw_goto (nx := 5) C dX2_harm_70 rfl ?_
              exact ih (q + 1) (by omega) _
  refine zw_iconst (nx := 1) C dX2_harm_0 rfl ?_
  refine zw_ist3 (nx := 2) C (eIst_n dX2_harm_1 rfl rfl) (Nat.le_of_ble_eq_true rfl) rfl ?_
  refine zw_iconst (nx := 3) C dX2_harm_2 rfl ?_
  refine zw_ist4 (nx := 5) C (eIst_w dX2_harm_3 rfl) (Nat.le_of_ble_eq_true rfl) rfl ?_
  exact loop n 0 (by omega) _
end Hill2
