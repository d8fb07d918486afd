/-! the hill's writes -/
def bgS (ζ : zSt) (h : Nat) (t d : Int) : zSt := zU (zU (zU (zFill (zU (zU ζ h 0 t) h 1 d) (h + 1) 0 8) h 3 0) h 9 0) h 11 0
def adS (ζ : zSt) (h n : Nat) (k u : Int) : zSt := zU (zU (zU (zU (zU (zU ζ (h + 2) n k) (h + 3) n (sHd k)) (h + 4) n u) (h + 5) n 0) (h + 6) n (-1)) h 3 (n + 1)
def rmS (ζ : zSt) (s : Nat) : zSt := zU (zCp (zCp (zCp ζ 7 9 0 (15 * s) 5) 5 9 0 (15 * s + 5) 5) 6 9 0 (15 * s + 10) 5) 1 11 (s + 1)
def sbS (ζ : zSt) (s : Nat) : zSt := zCp (zCp (zCp (zU ζ 1 11 s) 9 7 (15 * s) 0 5) 9 5 (15 * s + 5) 0 5) 9 6 (15 * s + 10) 0 5
def cpS (ζ : zSt) (h g : Nat) : zSt := zCp (zU (zCp (zU (zCp (zCp (zCp (zCp (zCp (zU (zCp (zU (zU ζ h 0 (ζ.1 g 0)) h 1 (ζ.1 g 1)) (g + 1) (h + 1) 0 0 8) h 3 (ζ.1 g 3)) (g + 2) (h + 2) 0 0 5) (g + 3) (h + 3) 0 0 5) (g + 4) (h + 4) 0 0 5) (g + 5) (h + 5) 0 0 5) (g + 6) (h + 6) 0 0 5) h 9 (ζ.1 g 9)) (g + 7) (h + 7) 0 0 24) h 11 (ζ.1 g 11)) (g + 8) (h + 8) 0 0 120
section Hill3
variable {l : Launch} {B : eB} {ζ : zSt}
theorem run_X2_begin1 {t d : Int} : zRun l B mX2_begin [.ref 1, zi t, zi d] ζ none (bgS ζ 1 t d) := by
  refine zrun_intro (M := mX2_begin) (ls := [some (.ref 1), some (zi t), some (zi d), none]) (by decide) rfl rfl rfl (Nat.le_of_ble_eq_true rfl) ?_
  intro X A C hX hA hr hk
  replace C : CX X B A mX2_begin.2.2.2.2 RX2 cX2_begin 4 0 0 := C
  have hr : (xMeth X).sig.returnType = none := hr
  change ZW X B A 4 0 0 _ _ 0 [some (.ref 1), some (zi t), some (zi d), none] []
  have loop : ∀ k y : Nat, y + k = 8 → ZW X B A 4 0 0 (eFin X B none (zz (bgS ζ 1 t d))) (zFill (zU (zU ζ 1 0 t) 1 1 d) 2 0 y) 12 [some (.ref 1), some (zi t), some (zi d), some (zi y)] [] := by
    intro k
    induction k with
    | zero =>
      intro y hy
      have e : y = 8 := by omega
      subst e
      refine zw_iload_n (i := 3) (nx := 13) C dX2_begin_12 rfl rfl rfl ?_
      refine zw_bipush (v := 8) (nx := 15) C dX2_begin_13 (by decide) rfl ?_
      refine zw_icmp_ge (tgt := 31) (nx := 18) C dX2_begin_15 rfl rfl (by omega) (fun h15 => ?_) (fun h15 => by exfalso; omega)
      refine zw_aload_n (i := 0) (nx := 32) C dX2_begin_31 rfl rfl rfl ?_
      refine zw_iconst (nx := 33) C dX2_begin_32 rfl ?_
      refine zw_puti (nx := 36) C dX2_begin_33 rfl flX2_22 ic2 nf2_3 rfl rfl rfl rfl rfl ?_
      refine zw_aload_n (i := 0) (nx := 37) C dX2_begin_36 rfl rfl rfl ?_
      refine zw_iconst (nx := 38) C dX2_begin_37 rfl ?_
      refine zw_puti (nx := 41) C dX2_begin_38 rfl flX2_40 ic2 nf2_9 rfl rfl rfl rfl rfl ?_
      refine zw_aload_n (i := 0) (nx := 42) C dX2_begin_41 rfl rfl rfl ?_
      refine zw_iconst (nx := 43) C dX2_begin_42 rfl ?_
      refine zw_puti (nx := 46) C dX2_begin_43 rfl flX2_46 ic2 nf2_11 rfl rfl rfl rfl rfl ?_
      exact zw_vret C hA hr hk dX2_begin_46 rfl rfl
    | succ k ih =>
      intro y hy
      refine zw_iload_n (i := 3) (nx := 13) C dX2_begin_12 rfl rfl rfl ?_
      refine zw_bipush (v := 8) (nx := 15) C dX2_begin_13 (by decide) rfl ?_
      refine zw_icmp_ge (tgt := 31) (nx := 18) C dX2_begin_15 rfl rfl (by omega) (fun h15 => by exfalso; omega) (fun h15 => ?_)
      refine zw_aload_n (i := 0) (nx := 19) C dX2_begin_18 rfl rfl rfl ?_
      refine zw_getr (nx := 22) C dX2_begin_19 rfl flX2_18 iq2 rfl rfl rfl rfl ?_
      refine zw_iload_n (i := 3) (nx := 23) C dX2_begin_22 rfl rfl rfl ?_
      refine zw_iconst (nx := 24) C dX2_begin_23 rfl ?_
      refine zw_iast (y) (nx := 25) C dX2_begin_24 rfl rfl rfl rfl (by omega) ?_
      refine zw_iinc3 (nx := 28) C dX2_begin_25 rfl (Nat.le_of_ble_eq_true rfl) rfl ?_
      refine zw_goto (nx := 12) C dX2_begin_28 rfl ?_
      exact ih (y + 1) (by omega)
  refine zw_aload_n (i := 0) (nx := 1) C dX2_begin_0 rfl rfl rfl ?_
  refine zw_iload_n (i := 1) (nx := 2) C dX2_begin_1 rfl rfl rfl ?_
  refine zw_puti (nx := 5) C dX2_begin_2 rfl flX2_9 ic2 nf2_0 rfl rfl rfl rfl rfl ?_
  refine zw_aload_n (i := 0) (nx := 6) C dX2_begin_5 rfl rfl rfl ?_
  refine zw_iload_n (i := 2) (nx := 7) C dX2_begin_6 rfl rfl rfl ?_
  refine zw_puti (nx := 10) C dX2_begin_7 rfl flX2_15 ic2 nf2_1 rfl rfl rfl rfl rfl ?_
  refine zw_iconst (nx := 11) C dX2_begin_10 rfl ?_
  refine zw_ist3 (nx := 12) C (eIst_n dX2_begin_11 rfl rfl) (Nat.le_of_ble_eq_true rfl) rfl ?_
  exact loop 8 0 (by omega)
theorem run_X2_begin10 {t d : Int} : zRun l B mX2_begin [.ref 10, zi t, zi d] ζ none (bgS ζ 10 t d) := by
  refine zrun_intro (M := mX2_begin) (ls := [some (.ref 10), some (zi t), some (zi d), none]) (by decide) rfl rfl rfl (Nat.le_of_ble_eq_true rfl) ?_
  intro X A C hX hA hr hk
  replace C : CX X B A mX2_begin.2.2.2.2 RX2 cX2_begin 4 0 0 := C
  have hr : (xMeth X).sig.returnType = none := hr
  change ZW X B A 4 0 0 _ _ 0 [some (.ref 10), some (zi t), some (zi d), none] []
  have loop : ∀ k y : Nat, y + k = 8 → ZW X B A 4 0 0 (eFin X B none (zz (bgS ζ 10 t d))) (zFill (zU (zU ζ 10 0 t) 10 1 d) 11 0 y) 12 [some (.ref 10), some (zi t), some (zi d), some (zi y)] [] := by
    intro k
    induction k with
    | zero =>
      intro y hy
      have e : y = 8 := by omega
      subst e
      refine zw_iload_n (i := 3) (nx := 13) C dX2_begin_12 rfl rfl rfl ?_
      refine zw_bipush (v := 8) (nx := 15) C dX2_begin_13 (by decide) rfl ?_
      refine zw_icmp_ge (tgt := 31) (nx := 18) C dX2_begin_15 rfl rfl (by omega) (fun h15 => ?_) (fun h15 => by exfalso; omega)
      refine zw_aload_n (i := 0) (nx := 32) C dX2_begin_31 rfl rfl rfl ?_
      refine zw_iconst (nx := 33) C dX2_begin_32 rfl ?_
      refine zw_puti (nx := 36) C dX2_begin_33 rfl flX2_22 ic2 nf2_3 rfl rfl rfl rfl rfl ?_
      refine zw_aload_n (i := 0) (nx := 37) C dX2_begin_36 rfl rfl rfl ?_
      refine zw_iconst (nx := 38) C dX2_begin_37 rfl ?_
      refine zw_puti (nx := 41) C dX2_begin_38 rfl flX2_40 ic2 nf2_9 rfl rfl rfl rfl rfl ?_
      refine zw_aload_n (i := 0) (nx := 42) C dX2_begin_41 rfl rfl rfl ?_
      refine zw_iconst (nx := 43) C dX2_begin_42 rfl ?_
      refine zw_puti (nx := 46) C dX2_begin_43 rfl flX2_46 ic2 nf2_11 rfl rfl rfl rfl rfl ?_
      exact zw_vret C hA hr hk dX2_begin_46 rfl rfl
    | succ k ih =>
      intro y hy
      refine zw_iload_n (i := 3) (nx := 13) C dX2_begin_12 rfl rfl rfl ?_
      refine zw_bipush (v := 8) (nx := 15) C dX2_begin_13 (by decide) rfl ?_
      refine zw_icmp_ge (tgt := 31) (nx := 18) C dX2_begin_15 rfl rfl (by omega) (fun h15 => by exfalso; omega) (fun h15 => ?_)
      refine zw_aload_n (i := 0) (nx := 19) C dX2_begin_18 rfl rfl rfl ?_
      refine zw_getr (nx := 22) C dX2_begin_19 rfl flX2_18 iq2 rfl rfl rfl rfl ?_
      refine zw_iload_n (i := 3) (nx := 23) C dX2_begin_22 rfl rfl rfl ?_
      refine zw_iconst (nx := 24) C dX2_begin_23 rfl ?_
      refine zw_iast (y) (nx := 25) C dX2_begin_24 rfl rfl rfl rfl (by omega) ?_
      refine zw_iinc3 (nx := 28) C dX2_begin_25 rfl (Nat.le_of_ble_eq_true rfl) rfl ?_
      refine zw_goto (nx := 12) C dX2_begin_28 rfl ?_
      exact ih (y + 1) (by omega)
  refine zw_aload_n (i := 0) (nx := 1) C dX2_begin_0 rfl rfl rfl ?_
  refine zw_iload_n (i := 1) (nx := 2) C dX2_begin_1 rfl rfl rfl ?_
  refine zw_puti (nx := 5) C dX2_begin_2 rfl flX2_9 ic2 nf2_0 rfl rfl rfl rfl rfl ?_
  refine zw_aload_n (i := 0) (nx := 6) C dX2_begin_5 rfl rfl rfl ?_
  refine zw_iload_n (i := 2) (nx := 7) C dX2_begin_6 rfl rfl rfl ?_
  refine zw_puti (nx := 10) C dX2_begin_7 rfl flX2_15 ic2 nf2_1 rfl rfl rfl rfl rfl ?_
  refine zw_iconst (nx := 11) C dX2_begin_10 rfl ?_
  refine zw_ist3 (nx := 12) C (eIst_n dX2_begin_11 rfl rfl) (Nat.le_of_ble_eq_true rfl) rfl ?_
  exact loop 8 0 (by omega)
theorem run_X2_addBidder1 {n : Nat} (hn : n < 5) (hn3 : ζ.1 1 3 = n) {k u : Int} (hk0 : 0 ≤ k ∧ k ≤ 5) : zRun l B mX2_addBidder [.ref 1, zi k, zi u] ζ (some (zi n)) (adS ζ 1 n k u) := by
  refine zrun_intro (M := mX2_addBidder) (ls := [some (.ref 1), some (zi k), some (zi u), none]) (by decide) rfl rfl rfl (Nat.le_of_ble_eq_true rfl) ?_
  intro X A C hX hA hr hk
  replace C : CX X B A mX2_addBidder.2.2.2.2 RX2 cX2_addBidder 4 0 0 := C
  have hr : (xMeth X).sig.returnType = (some .int) := hr
  change ZW X B A 4 0 0 _ _ 0 [some (.ref 1), some (zi k), some (zi u), none] []
  refine zw_aload_n (i := 0) (nx := 1) C dX2_addBidder_0 rfl rfl rfl ?_
  refine zw_geti (nx := 4) C dX2_addBidder_1 rfl flX2_22 iq2 rfl rfl rfl rfl ?_
  rw [hn3]
  refine zw_ist3 (nx := 5) C (eIst_n dX2_addBidder_4 rfl rfl) (Nat.le_of_ble_eq_true rfl) rfl ?_
  refine zw_aload_n (i := 0) (nx := 6) C dX2_addBidder_5 rfl rfl rfl ?_
  refine zw_getr (nx := 9) C dX2_addBidder_6 rfl flX2_25 iq2 rfl rfl rfl rfl ?_
  refine zw_iload_n (i := 3) (nx := 10) C dX2_addBidder_9 rfl rfl rfl ?_
  refine zw_iload_n (i := 1) (nx := 11) C dX2_addBidder_10 rfl rfl rfl ?_
  refine zw_iast (n) (nx := 12) C dX2_addBidder_11 rfl rfl rfl rfl (by omega) ?_
  refine zw_aload_n (i := 0) (nx := 13) C dX2_addBidder_12 rfl rfl rfl ?_
  refine zw_getr (nx := 16) C dX2_addBidder_13 rfl flX2_28 iq2 rfl rfl rfl rfl ?_
  refine zw_iload_n (i := 3) (nx := 17) C dX2_addBidder_16 rfl rfl rfl ?_
  refine zw_iload_n (i := 1) (nx := 18) C dX2_addBidder_17 rfl rfl rfl ?_
  refine zw_cS11 (nx := 21) C dX2_addBidder_18 rfl csX2_58 ⟨Nat.le_of_ble_eq_true rfl, Nat.le_of_ble_eq_true rfl⟩ (Nat.le_of_ble_eq_true rfl) (run_X3_head hk0) ?_
  refine zw_iast (n) (nx := 22) C dX2_addBidder_21 rfl rfl rfl rfl (by omega) ?_
  refine zw_aload_n (i := 0) (nx := 23) C dX2_addBidder_22 rfl rfl rfl ?_
  refine zw_getr (nx := 26) C dX2_addBidder_23 rfl flX2_31 iq2 rfl rfl rfl rfl ?_
  refine zw_iload_n (i := 3) (nx := 27) C dX2_addBidder_26 rfl rfl rfl ?_
  refine zw_iload_n (i := 2) (nx := 28) C dX2_addBidder_27 rfl rfl rfl ?_
  refine zw_iast (n) (nx := 29) C dX2_addBidder_28 rfl rfl rfl rfl (by omega) ?_
  refine zw_aload_n (i := 0) (nx := 30) C dX2_addBidder_29 rfl rfl rfl ?_
  refine zw_getr (nx := 33) C dX2_addBidder_30 rfl flX2_34 iq2 rfl rfl rfl rfl ?_
  refine zw_iload_n (i := 3) (nx := 34) C dX2_addBidder_33 rfl rfl rfl ?_
  refine zw_iconst (nx := 35) C dX2_addBidder_34 rfl ?_
  refine zw_iast (n) (nx := 36) C dX2_addBidder_35 rfl rfl rfl rfl (by omega) ?_
  refine zw_aload_n (i := 0) (nx := 37) C dX2_addBidder_36 rfl rfl rfl ?_
  refine zw_getr (nx := 40) C dX2_addBidder_37 rfl flX2_37 iq2 rfl rfl rfl rfl ?_
  refine zw_iload_n (i := 3) (nx := 41) C dX2_addBidder_40 rfl rfl rfl ?_
  refine zw_iconst (nx := 42) C dX2_addBidder_41 rfl ?_
  refine zw_iast (n) (nx := 43) C dX2_addBidder_42 rfl rfl rfl rfl (by omega) ?_
  refine zw_aload_n (i := 0) (nx := 44) C dX2_addBidder_43 rfl rfl rfl ?_
  refine zw_dup (nx := 45) C dX2_addBidder_44 rfl rfl ?_
  refine zw_geti (nx := 48) C dX2_addBidder_45 rfl flX2_22 iq2 rfl rfl rfl rfl ?_
  simp only [zU_at, zCp_at, zR_at, zFill_at, Nat.reduceEqDiff, reduceIte, and_self, and_true, true_and, and_false, false_and]
  rw [hn3]
  refine zw_iconst (nx := 49) C dX2_addBidder_48 rfl ?_
  refine zw_iadd (nx := 50) C dX2_addBidder_49 rfl ?_
  refine zw_puti (nx := 53) C dX2_addBidder_50 rfl flX2_22 ic2 nf2_3 rfl rfl rfl rfl rfl ?_
  refine zw_iload_n (i := 3) (nx := 54) C dX2_addBidder_53 rfl rfl rfl ?_
  exact zw_iret C hA hr hk dX2_addBidder_54 rfl rfl
theorem run_X2_addBidder10 {n : Nat} (hn : n < 5) (hn3 : ζ.1 10 3 = n) {k u : Int} (hk0 : 0 ≤ k ∧ k ≤ 5) : zRun l B mX2_addBidder [.ref 10, zi k, zi u] ζ (some (zi n)) (adS ζ 10 n k u) := by
  refine zrun_intro (M := mX2_addBidder) (ls := [some (.ref 10), some (zi k), some (zi u), none]) (by decide) rfl rfl rfl (Nat.le_of_ble_eq_true rfl) ?_
  intro X A C hX hA hr hk
  replace C : CX X B A mX2_addBidder.2.2.2.2 RX2 cX2_addBidder 4 0 0 := C
  have hr : (xMeth X).sig.returnType = (some .int) := hr
  change ZW X B A 4 0 0 _ _ 0 [some (.ref 10), some (zi k), some (zi u), none] []
  refine zw_aload_n (i := 0) (nx := 1) C dX2_addBidder_0 rfl rfl rfl ?_
  refine zw_geti (nx := 4) C dX2_addBidder_1 rfl flX2_22 iq2 rfl rfl rfl rfl ?_
  rw [hn3]
  refine zw_ist3 (nx := 5) C (eIst_n dX2_addBidder_4 rfl rfl) (Nat.le_of_ble_eq_true rfl) rfl ?_
  refine zw_aload_n (i := 0) (nx := 6) C dX2_addBidder_5 rfl rfl rfl ?_
  refine zw_getr (nx := 9) C dX2_addBidder_6 rfl flX2_25 iq2 rfl rfl rfl rfl ?_
  refine zw_iload_n (i := 3) (nx := 10) C dX2_addBidder_9 rfl rfl rfl ?_
  refine zw_iload_n (i := 1) (nx := 11) C dX2_addBidder_10 rfl rfl rfl ?_
  refine zw_iast (n) (nx := 12) C dX2_addBidder_11 rfl rfl rfl rfl (by omega) ?_
  refine zw_aload_n (i := 0) (nx := 13) C dX2_addBidder_12 rfl rfl rfl ?_
  refine zw_getr (nx := 16) C dX2_addBidder_13 rfl flX2_28 iq2 rfl rfl rfl rfl ?_
  refine zw_iload_n (i := 3) (nx := 17) C dX2_addBidder_16 rfl rfl rfl ?_
  refine zw_iload_n (i := 1) (nx := 18) C dX2_addBidder_17 rfl rfl rfl ?_
  refine zw_cS11 (nx := 21) C dX2_addBidder_18 rfl csX2_58 ⟨Nat.le_of_ble_eq_true rfl, Nat.le_of_ble_eq_true rfl⟩ (Nat.le_of_ble_eq_true rfl) (run_X3_head hk0) ?_
  refine zw_iast (n) (nx := 22) C dX2_addBidder_21 rfl rfl rfl rfl (by omega) ?_
  refine zw_aload_n (i := 0) (nx := 23) C dX2_addBidder_22 rfl rfl rfl ?_
  refine zw_getr (nx := 26) C dX2_addBidder_23 rfl flX2_31 iq2 rfl rfl rfl rfl ?_
  refine zw_iload_n (i := 3) (nx := 27) C dX2_addBidder_26 rfl rfl rfl ?_
  refine zw_iload_n (i := 2) (nx := 28) C dX2_addBidder_27 rfl rfl rfl ?_
  refine zw_iast (n) (nx := 29) C dX2_addBidder_28 rfl rfl rfl rfl (by omega) ?_
  refine zw_aload_n (i := 0) (nx := 30) C dX2_addBidder_29 rfl rfl rfl ?_
  refine zw_getr (nx := 33) C dX2_addBidder_30 rfl flX2_34 iq2 rfl rfl rfl rfl ?_
  refine zw_iload_n (i := 3) (nx := 34) C dX2_addBidder_33 rfl rfl rfl ?_
  refine zw_iconst (nx := 35) C dX2_addBidder_34 rfl ?_
  refine zw_iast (n) (nx := 36) C dX2_addBidder_35 rfl rfl rfl rfl (by omega) ?_
  refine zw_aload_n (i := 0) (nx := 37) C dX2_addBidder_36 rfl rfl rfl ?_
  refine zw_getr (nx := 40) C dX2_addBidder_37 rfl flX2_37 iq2 rfl rfl rfl rfl ?_
  refine zw_iload_n (i := 3) (nx := 41) C dX2_addBidder_40 rfl rfl rfl ?_
  refine zw_iconst (nx := 42) C dX2_addBidder_41 rfl ?_
  refine zw_iast (n) (nx := 43) C dX2_addBidder_42 rfl rfl rfl rfl (by omega) ?_
  refine zw_aload_n (i := 0) (nx := 44) C dX2_addBidder_43 rfl rfl rfl ?_
  refine zw_dup (nx := 45) C dX2_addBidder_44 rfl rfl ?_
  refine zw_geti (nx := 48) C dX2_addBidder_45 rfl flX2_22 iq2 rfl rfl rfl rfl ?_
  simp only [zU_at, zCp_at, zR_at, zFill_at, Nat.reduceEqDiff, reduceIte, and_self, and_true, true_and, and_false, false_and]
  rw [hn3]
  refine zw_iconst (nx := 49) C dX2_addBidder_48 rfl ?_
  refine zw_iadd (nx := 50) C dX2_addBidder_49 rfl ?_
  refine zw_puti (nx := 53) C dX2_addBidder_50 rfl flX2_22 ic2 nf2_3 rfl rfl rfl rfl rfl ?_
  refine zw_iload_n (i := 3) (nx := 54) C dX2_addBidder_53 rfl rfl rfl ?_
  exact zw_iret C hA hr hk dX2_addBidder_54 rfl rfl
theorem run_X2_remember_lt {s : Nat} (hs : s < 8) (hs3 : ζ.1 1 11 = s) : zRun l B mX2_remember [.ref 1] ζ none (rmS ζ s) := by
  refine zrun_intro (M := mX2_remember) (ls := [some (.ref 1), none]) (by decide) rfl rfl rfl (Nat.le_of_ble_eq_true rfl) ?_
  intro X A C hX hA hr hk
  replace C : CX X B A mX2_remember.2.2.2.2 RX2 cX2_remember 2 0 0 := C
  have hr : (xMeth X).sig.returnType = none := hr
  change ZW X B A 2 0 0 _ _ 0 [some (.ref 1), none] []
  refine zw_aload_n (i := 0) (nx := 1) C dX2_remember_0 rfl rfl rfl ?_
  refine zw_geti (nx := 4) C dX2_remember_1 rfl flX2_46 iq2 rfl rfl rfl rfl ?_
  refine zw_bipush (v := 8) (nx := 6) C dX2_remember_4 (by decide) rfl ?_
  refine zw_icmp_lt (tgt := 31) (nx := 9) C dX2_remember_6 rfl rfl (by omega) (fun h6 => ?_) (fun h6 => by exfalso; omega)
  refine zw_aload_n (i := 0) (nx := 32) C dX2_remember_31 rfl rfl rfl ?_
  refine zw_geti (nx := 35) C dX2_remember_32 rfl flX2_46 iq2 rfl rfl rfl rfl ?_
  rw [hs3]
  refine zw_bipush (v := 15) (nx := 37) C dX2_remember_35 (by decide) rfl ?_
  refine zw_imul (nx := 38) C dX2_remember_37 rfl ?_
  refine zw_ist1 (nx := 39) C (eIst_n dX2_remember_38 rfl rfl) (Nat.le_of_ble_eq_true rfl) rfl ?_
  refine zw_aload_n (i := 0) (nx := 40) C dX2_remember_39 rfl rfl rfl ?_
  refine zw_getr (nx := 43) C dX2_remember_40 rfl flX2_37 iq2 rfl rfl rfl rfl ?_
  refine zw_iconst (nx := 44) C dX2_remember_43 rfl ?_
  refine zw_aload_n (i := 0) (nx := 45) C dX2_remember_44 rfl rfl rfl ?_
  refine zw_getr (nx := 48) C dX2_remember_45 rfl flX2_49 iq2 rfl rfl rfl rfl ?_
  refine zw_iload_n (i := 1) (nx := 49) C dX2_remember_48 rfl rfl rfl ?_
  refine zw_iconst (nx := 50) C dX2_remember_49 rfl ?_
  refine zw_copy 0 (15 * s) 5 (nx := 53) C dX2_remember_50 rfl wlX2_52 wn_copy ws_copy wi_sys rfl rfl rfl rfl rfl rfl (by omega) (Nat.le_of_ble_eq_true rfl) (Nat.le_of_ble_eq_true rfl) (Nat.le_of_ble_eq_true rfl) ?_
  refine zw_aload_n (i := 0) (nx := 54) C dX2_remember_53 rfl rfl rfl ?_
  refine zw_getr (nx := 57) C dX2_remember_54 rfl flX2_31 iq2 rfl rfl rfl rfl ?_
  refine zw_iconst (nx := 58) C dX2_remember_57 rfl ?_
  refine zw_aload_n (i := 0) (nx := 59) C dX2_remember_58 rfl rfl rfl ?_
  refine zw_getr (nx := 62) C dX2_remember_59 rfl flX2_49 iq2 rfl rfl rfl rfl ?_
  refine zw_iload_n (i := 1) (nx := 63) C dX2_remember_62 rfl rfl rfl ?_
  refine zw_iconst (nx := 64) C dX2_remember_63 rfl ?_
  refine zw_iadd (nx := 65) C dX2_remember_64 rfl ?_
  refine zw_iconst (nx := 66) C dX2_remember_65 rfl ?_
  refine zw_copy 0 (15 * s + 5) 5 (nx := 69) C dX2_remember_66 rfl wlX2_52 wn_copy ws_copy wi_sys rfl rfl rfl rfl rfl rfl (by omega) (Nat.le_of_ble_eq_true rfl) (Nat.le_of_ble_eq_true rfl) (Nat.le_of_ble_eq_true rfl) ?_
  refine zw_aload_n (i := 0) (nx := 70) C dX2_remember_69 rfl rfl rfl ?_
  refine zw_getr (nx := 73) C dX2_remember_70 rfl flX2_34 iq2 rfl rfl rfl rfl ?_
  refine zw_iconst (nx := 74) C dX2_remember_73 rfl ?_
  refine zw_aload_n (i := 0) (nx := 75) C dX2_remember_74 rfl rfl rfl ?_
  refine zw_getr (nx := 78) C dX2_remember_75 rfl flX2_49 iq2 rfl rfl rfl rfl ?_
  refine zw_iload_n (i := 1) (nx := 79) C dX2_remember_78 rfl rfl rfl ?_
  refine zw_bipush (v := 10) (nx := 81) C dX2_remember_79 (by decide) rfl ?_
  refine zw_iadd (nx := 82) C dX2_remember_81 rfl ?_
  refine zw_iconst (nx := 83) C dX2_remember_82 rfl ?_
  refine zw_copy 0 (15 * s + 10) 5 (nx := 86) C dX2_remember_83 rfl wlX2_52 wn_copy ws_copy wi_sys rfl rfl rfl rfl rfl rfl (by omega) (Nat.le_of_ble_eq_true rfl) (Nat.le_of_ble_eq_true rfl) (Nat.le_of_ble_eq_true rfl) ?_
  refine zw_aload_n (i := 0) (nx := 87) C dX2_remember_86 rfl rfl rfl ?_
  refine zw_dup (nx := 88) C dX2_remember_87 rfl rfl ?_
  refine zw_geti (nx := 91) C dX2_remember_88 rfl flX2_46 iq2 rfl rfl rfl rfl ?_
  simp only [zU_at, zCp_at, zR_at, zFill_at, Nat.reduceEqDiff, reduceIte, and_self, and_true, true_and, and_false, false_and]
  rw [hs3]
  refine zw_iconst (nx := 92) C dX2_remember_91 rfl ?_
  refine zw_iadd (nx := 93) C dX2_remember_92 rfl ?_
  refine zw_puti (nx := 96) C dX2_remember_93 rfl flX2_46 ic2 nf2_11 rfl rfl rfl rfl rfl ?_
  exact zw_vret C hA hr hk dX2_remember_96 rfl rfl
theorem run_X2_remember_8 (hs3 : ζ.1 1 11 = 8) : zRun l B mX2_remember [.ref 1] ζ none (rmS (zU (zCp ζ 9 9 15 0 105) 1 11 7) 7) := by
  refine zrun_intro (M := mX2_remember) (ls := [some (.ref 1), none]) (by decide) rfl rfl rfl (Nat.le_of_ble_eq_true rfl) ?_
  intro X A C hX hA hr hk
  replace C : CX X B A mX2_remember.2.2.2.2 RX2 cX2_remember 2 0 0 := C
  have hr : (xMeth X).sig.returnType = none := hr
  change ZW X B A 2 0 0 _ _ 0 [some (.ref 1), none] []
  refine zw_aload_n (i := 0) (nx := 1) C dX2_remember_0 rfl rfl rfl ?_
  refine zw_geti (nx := 4) C dX2_remember_1 rfl flX2_46 iq2 rfl rfl rfl rfl ?_
  refine zw_bipush (v := 8) (nx := 6) C dX2_remember_4 (by decide) rfl ?_
  refine zw_icmp_lt (tgt := 31) (nx := 9) C dX2_remember_6 rfl rfl (by omega) (fun h6 => by exfalso; omega) (fun h6 => ?_)
  refine zw_aload_n (i := 0) (nx := 10) C dX2_remember_9 rfl rfl rfl ?_
  refine zw_getr (nx := 13) C dX2_remember_10 rfl flX2_49 iq2 rfl rfl rfl rfl ?_
  refine zw_bipush (v := 15) (nx := 15) C dX2_remember_13 (by decide) rfl ?_
  refine zw_aload_n (i := 0) (nx := 16) C dX2_remember_15 rfl rfl rfl ?_
  refine zw_getr (nx := 19) C dX2_remember_16 rfl flX2_49 iq2 rfl rfl rfl rfl ?_
  refine zw_iconst (nx := 20) C dX2_remember_19 rfl ?_
  refine zw_bipush (v := 105) (nx := 22) C dX2_remember_20 (by decide) rfl ?_
  refine zw_copy 15 0 105 (nx := 25) C dX2_remember_22 rfl wlX2_52 wn_copy ws_copy wi_sys rfl rfl rfl rfl rfl rfl (by omega) (Nat.le_of_ble_eq_true rfl) (Nat.le_of_ble_eq_true rfl) (Nat.le_of_ble_eq_true rfl) ?_
  refine zw_aload_n (i := 0) (nx := 26) C dX2_remember_25 rfl rfl rfl ?_
  refine zw_bipush (v := 7) (nx := 28) C dX2_remember_26 (by decide) rfl ?_
  refine zw_puti (nx := 31) C dX2_remember_28 rfl flX2_46 ic2 nf2_11 rfl rfl rfl rfl rfl ?_
  refine zw_aload_n (i := 0) (nx := 32) C dX2_remember_31 rfl rfl rfl ?_
  refine zw_geti (nx := 35) C dX2_remember_32 rfl flX2_46 iq2 rfl rfl rfl rfl ?_
  simp only [zU_at, zCp_at, zR_at, zFill_at, Nat.reduceEqDiff, reduceIte, and_self, and_true, true_and, and_false, false_and]
  refine zw_bipush (v := 15) (nx := 37) C dX2_remember_35 (by decide) rfl ?_
  refine zw_imul (nx := 38) C dX2_remember_37 rfl ?_
  refine zw_ist1 (nx := 39) C (eIst_n dX2_remember_38 rfl rfl) (Nat.le_of_ble_eq_true rfl) rfl ?_
  refine zw_aload_n (i := 0) (nx := 40) C dX2_remember_39 rfl rfl rfl ?_
  refine zw_getr (nx := 43) C dX2_remember_40 rfl flX2_37 iq2 rfl rfl rfl rfl ?_
  refine zw_iconst (nx := 44) C dX2_remember_43 rfl ?_
  refine zw_aload_n (i := 0) (nx := 45) C dX2_remember_44 rfl rfl rfl ?_
  refine zw_getr (nx := 48) C dX2_remember_45 rfl flX2_49 iq2 rfl rfl rfl rfl ?_
  refine zw_iload_n (i := 1) (nx := 49) C dX2_remember_48 rfl rfl rfl ?_
  refine zw_iconst (nx := 50) C dX2_remember_49 rfl ?_
  refine zw_copy 0 (15 * 7) 5 (nx := 53) C dX2_remember_50 rfl wlX2_52 wn_copy ws_copy wi_sys rfl rfl rfl rfl rfl rfl (by omega) (Nat.le_of_ble_eq_true rfl) (Nat.le_of_ble_eq_true rfl) (Nat.le_of_ble_eq_true rfl) ?_
  refine zw_aload_n (i := 0) (nx := 54) C dX2_remember_53 rfl rfl rfl ?_
  refine zw_getr (nx := 57) C dX2_remember_54 rfl flX2_31 iq2 rfl rfl rfl rfl ?_
  refine zw_iconst (nx := 58) C dX2_remember_57 rfl ?_
  refine zw_aload_n (i := 0) (nx := 59) C dX2_remember_58 rfl rfl rfl ?_
  refine zw_getr (nx := 62) C dX2_remember_59 rfl flX2_49 iq2 rfl rfl rfl rfl ?_
  refine zw_iload_n (i := 1) (nx := 63) C dX2_remember_62 rfl rfl rfl ?_
  refine zw_iconst (nx := 64) C dX2_remember_63 rfl ?_
  refine zw_iadd (nx := 65) C dX2_remember_64 rfl ?_
  refine zw_iconst (nx := 66) C dX2_remember_65 rfl ?_
  refine zw_copy 0 (15 * 7 + 5) 5 (nx := 69) C dX2_remember_66 rfl wlX2_52 wn_copy ws_copy wi_sys rfl rfl rfl rfl rfl rfl (by omega) (Nat.le_of_ble_eq_true rfl) (Nat.le_of_ble_eq_true rfl) (Nat.le_of_ble_eq_true rfl) ?_
  refine zw_aload_n (i := 0) (nx := 70) C dX2_remember_69 rfl rfl rfl ?_
  refine zw_getr (nx := 73) C dX2_remember_70 rfl flX2_34 iq2 rfl rfl rfl rfl ?_
  refine zw_iconst (nx := 74) C dX2_remember_73 rfl ?_
  refine zw_aload_n (i := 0) (nx := 75) C dX2_remember_74 rfl rfl rfl ?_
  refine zw_getr (nx := 78) C dX2_remember_75 rfl flX2_49 iq2 rfl rfl rfl rfl ?_
  refine zw_iload_n (i := 1) (nx := 79) C dX2_remember_78 rfl rfl rfl ?_
  refine zw_bipush (v := 10) (nx := 81) C dX2_remember_79 (by decide) rfl ?_
  refine zw_iadd (nx := 82) C dX2_remember_81 rfl ?_
  refine zw_iconst (nx := 83) C dX2_remember_82 rfl ?_
  refine zw_copy 0 (15 * 7 + 10) 5 (nx := 86) C dX2_remember_83 rfl wlX2_52 wn_copy ws_copy wi_sys rfl rfl rfl rfl rfl rfl (by omega) (Nat.le_of_ble_eq_true rfl) (Nat.le_of_ble_eq_true rfl) (Nat.le_of_ble_eq_true rfl) ?_
  refine zw_aload_n (i := 0) (nx := 87) C dX2_remember_86 rfl rfl rfl ?_
  refine zw_dup (nx := 88) C dX2_remember_87 rfl rfl ?_
  refine zw_geti (nx := 91) C dX2_remember_88 rfl flX2_46 iq2 rfl rfl rfl rfl ?_
  simp only [zU_at, zCp_at, zR_at, zFill_at, Nat.reduceEqDiff, reduceIte, and_self, and_true, true_and, and_false, false_and]
  refine zw_iconst (nx := 92) C dX2_remember_91 rfl ?_
  refine zw_iadd (nx := 93) C dX2_remember_92 rfl ?_
  refine zw_puti (nx := 96) C dX2_remember_93 rfl flX2_46 ic2 nf2_11 rfl rfl rfl rfl rfl ?_
  exact zw_vret C hA hr hk dX2_remember_96 rfl rfl
theorem run_X2_stepBack {s : Nat} (hs : s < 8) (hs3 : ζ.1 1 11 = s + 1) : zRun l B mX2_stepBack [.ref 1] ζ none (sbS ζ s) := by
  refine zrun_intro (M := mX2_stepBack) (ls := [some (.ref 1), none]) (by decide) rfl rfl rfl (Nat.le_of_ble_eq_true rfl) ?_
  intro X A C hX hA hr hk
  replace C : CX X B A mX2_stepBack.2.2.2.2 RX2 cX2_stepBack 2 0 0 := C
  have hr : (xMeth X).sig.returnType = none := hr
  change ZW X B A 2 0 0 _ _ 0 [some (.ref 1), none] []
  refine zw_aload_n (i := 0) (nx := 1) C dX2_stepBack_0 rfl rfl rfl ?_
  refine zw_dup (nx := 2) C dX2_stepBack_1 rfl rfl ?_
  refine zw_geti (nx := 5) C dX2_stepBack_2 rfl flX2_46 iq2 rfl rfl rfl rfl ?_
  refine zw_iconst (nx := 6) C dX2_stepBack_5 rfl ?_
  refine zw_isub (nx := 7) C dX2_stepBack_6 rfl ?_
  rw [hs3, show ((s : Int) + 1 - 1) = s by omega]
  refine zw_puti (nx := 10) C dX2_stepBack_7 rfl flX2_46 ic2 nf2_11 rfl rfl rfl rfl rfl ?_
  refine zw_aload_n (i := 0) (nx := 11) C dX2_stepBack_10 rfl rfl rfl ?_
  refine zw_geti (nx := 14) C dX2_stepBack_11 rfl flX2_46 iq2 rfl rfl rfl rfl ?_
  simp only [zU_at, zCp_at, zR_at, zFill_at, Nat.reduceEqDiff, reduceIte, and_self, and_true, true_and, and_false, false_and]
  refine zw_bipush (v := 15) (nx := 16) C dX2_stepBack_14 (by decide) rfl ?_
  refine zw_imul (nx := 17) C dX2_stepBack_16 rfl ?_
  refine zw_ist1 (nx := 18) C (eIst_n dX2_stepBack_17 rfl rfl) (Nat.le_of_ble_eq_true rfl) rfl ?_
  refine zw_aload_n (i := 0) (nx := 19) C dX2_stepBack_18 rfl rfl rfl ?_
  refine zw_getr (nx := 22) C dX2_stepBack_19 rfl flX2_49 iq2 rfl rfl rfl rfl ?_
  refine zw_iload_n (i := 1) (nx := 23) C dX2_stepBack_22 rfl rfl rfl ?_
  refine zw_aload_n (i := 0) (nx := 24) C dX2_stepBack_23 rfl rfl rfl ?_
  refine zw_getr (nx := 27) C dX2_stepBack_24 rfl flX2_37 iq2 rfl rfl rfl rfl ?_
  refine zw_iconst (nx := 28) C dX2_stepBack_27 rfl ?_
  refine zw_iconst (nx := 29) C dX2_stepBack_28 rfl ?_
  refine zw_copy (15 * s) 0 5 (nx := 32) C dX2_stepBack_29 rfl wlX2_52 wn_copy ws_copy wi_sys rfl rfl rfl rfl rfl rfl (by omega) (Nat.le_of_ble_eq_true rfl) (Nat.le_of_ble_eq_true rfl) (Nat.le_of_ble_eq_true rfl) ?_
  refine zw_aload_n (i := 0) (nx := 33) C dX2_stepBack_32 rfl rfl rfl ?_
  refine zw_getr (nx := 36) C dX2_stepBack_33 rfl flX2_49 iq2 rfl rfl rfl rfl ?_
  refine zw_iload_n (i := 1) (nx := 37) C dX2_stepBack_36 rfl rfl rfl ?_
  refine zw_iconst (nx := 38) C dX2_stepBack_37 rfl ?_
  refine zw_iadd (nx := 39) C dX2_stepBack_38 rfl ?_
  refine zw_aload_n (i := 0) (nx := 40) C dX2_stepBack_39 rfl rfl rfl ?_
  refine zw_getr (nx := 43) C dX2_stepBack_40 rfl flX2_31 iq2 rfl rfl rfl rfl ?_
  refine zw_iconst (nx := 44) C dX2_stepBack_43 rfl ?_
  refine zw_iconst (nx := 45) C dX2_stepBack_44 rfl ?_
  refine zw_copy (15 * s + 5) 0 5 (nx := 48) C dX2_stepBack_45 rfl wlX2_52 wn_copy ws_copy wi_sys rfl rfl rfl rfl rfl rfl (by omega) (Nat.le_of_ble_eq_true rfl) (Nat.le_of_ble_eq_true rfl) (Nat.le_of_ble_eq_true rfl) ?_
  refine zw_aload_n (i := 0) (nx := 49) C dX2_stepBack_48 rfl rfl rfl ?_
  refine zw_getr (nx := 52) C dX2_stepBack_49 rfl flX2_49 iq2 rfl rfl rfl rfl ?_
  refine zw_iload_n (i := 1) (nx := 53) C dX2_stepBack_52 rfl rfl rfl ?_
  refine zw_bipush (v := 10) (nx := 55) C dX2_stepBack_53 (by decide) rfl ?_
  refine zw_iadd (nx := 56) C dX2_stepBack_55 rfl ?_
  refine zw_aload_n (i := 0) (nx := 57) C dX2_stepBack_56 rfl rfl rfl ?_
  refine zw_getr (nx := 60) C dX2_stepBack_57 rfl flX2_34 iq2 rfl rfl rfl rfl ?_
  refine zw_iconst (nx := 61) C dX2_stepBack_60 rfl ?_
  refine zw_iconst (nx := 62) C dX2_stepBack_61 rfl ?_
  refine zw_copy (15 * s + 10) 0 5 (nx := 65) C dX2_stepBack_62 rfl wlX2_52 wn_copy ws_copy wi_sys rfl rfl rfl rfl rfl rfl (by omega) (Nat.le_of_ble_eq_true rfl) (Nat.le_of_ble_eq_true rfl) (Nat.le_of_ble_eq_true rfl) ?_
  exact zw_vret C hA hr hk dX2_stepBack_65 rfl rfl
theorem run_X2_copyOf_1_10 : zRun l B mX2_copyOf [.ref 1, .ref 10] ζ none (cpS ζ 1 10) := by
  refine zrun_intro (M := mX2_copyOf) (ls := [some (.ref 1), some (.ref 10)]) (by decide) rfl rfl rfl (Nat.le_of_ble_eq_true rfl) ?_
  intro X A C hX hA hr hk
  replace C : CX X B A mX2_copyOf.2.2.2.2 RX2 cX2_copyOf 2 0 0 := C
  have hr : (xMeth X).sig.returnType = none := hr
  change ZW X B A 2 0 0 _ _ 0 [some (.ref 1), some (.ref 10)] []
  refine zw_aload_n (i := 0) (nx := 1) C dX2_copyOf_0 rfl rfl rfl ?_
  refine zw_aload_n (i := 1) (nx := 2) C dX2_copyOf_1 rfl rfl rfl ?_
  refine zw_geti (nx := 5) C dX2_copyOf_2 rfl flX2_9 iq2 rfl rfl rfl rfl ?_
  refine zw_puti (nx := 8) C dX2_copyOf_5 rfl flX2_9 ic2 nf2_0 rfl rfl rfl rfl rfl ?_
  refine zw_aload_n (i := 0) (nx := 9) C dX2_copyOf_8 rfl rfl rfl ?_
  refine zw_aload_n (i := 1) (nx := 10) C dX2_copyOf_9 rfl rfl rfl ?_
  refine zw_geti (nx := 13) C dX2_copyOf_10 rfl flX2_15 iq2 rfl rfl rfl rfl ?_
  refine zw_puti (nx := 16) C dX2_copyOf_13 rfl flX2_15 ic2 nf2_1 rfl rfl rfl rfl rfl ?_
  refine zw_aload_n (i := 1) (nx := 17) C dX2_copyOf_16 rfl rfl rfl ?_
  refine zw_getr (nx := 20) C dX2_copyOf_17 rfl flX2_18 iq2 rfl rfl rfl rfl ?_
  refine zw_iconst (nx := 21) C dX2_copyOf_20 rfl ?_
  refine zw_aload_n (i := 0) (nx := 22) C dX2_copyOf_21 rfl rfl rfl ?_
  refine zw_getr (nx := 25) C dX2_copyOf_22 rfl flX2_18 iq2 rfl rfl rfl rfl ?_
  refine zw_iconst (nx := 26) C dX2_copyOf_25 rfl ?_
  refine zw_bipush (v := 8) (nx := 28) C dX2_copyOf_26 (by decide) rfl ?_
  refine zw_copy 0 0 8 (nx := 31) C dX2_copyOf_28 rfl wlX2_52 wn_copy ws_copy wi_sys rfl rfl rfl rfl rfl rfl (by omega) (Nat.le_of_ble_eq_true rfl) (Nat.le_of_ble_eq_true rfl) (Nat.le_of_ble_eq_true rfl) ?_
  refine zw_aload_n (i := 0) (nx := 32) C dX2_copyOf_31 rfl rfl rfl ?_
  refine zw_aload_n (i := 1) (nx := 33) C dX2_copyOf_32 rfl rfl rfl ?_
  refine zw_geti (nx := 36) C dX2_copyOf_33 rfl flX2_22 iq2 rfl rfl rfl rfl ?_
  refine zw_puti (nx := 39) C dX2_copyOf_36 rfl flX2_22 ic2 nf2_3 rfl rfl rfl rfl rfl ?_
  refine zw_aload_n (i := 1) (nx := 40) C dX2_copyOf_39 rfl rfl rfl ?_
  refine zw_getr (nx := 43) C dX2_copyOf_40 rfl flX2_25 iq2 rfl rfl rfl rfl ?_
  refine zw_iconst (nx := 44) C dX2_copyOf_43 rfl ?_
  refine zw_aload_n (i := 0) (nx := 45) C dX2_copyOf_44 rfl rfl rfl ?_
  refine zw_getr (nx := 48) C dX2_copyOf_45 rfl flX2_25 iq2 rfl rfl rfl rfl ?_
  refine zw_iconst (nx := 49) C dX2_copyOf_48 rfl ?_
  refine zw_iconst (nx := 50) C dX2_copyOf_49 rfl ?_
  refine zw_copy 0 0 5 (nx := 53) C dX2_copyOf_50 rfl wlX2_52 wn_copy ws_copy wi_sys rfl rfl rfl rfl rfl rfl (by omega) (Nat.le_of_ble_eq_true rfl) (Nat.le_of_ble_eq_true rfl) (Nat.le_of_ble_eq_true rfl) ?_
  refine zw_aload_n (i := 1) (nx := 54) C dX2_copyOf_53 rfl rfl rfl ?_
  refine zw_getr (nx := 57) C dX2_copyOf_54 rfl flX2_28 iq2 rfl rfl rfl rfl ?_
  refine zw_iconst (nx := 58) C dX2_copyOf_57 rfl ?_
  refine zw_aload_n (i := 0) (nx := 59) C dX2_copyOf_58 rfl rfl rfl ?_
  refine zw_getr (nx := 62) C dX2_copyOf_59 rfl flX2_28 iq2 rfl rfl rfl rfl ?_
  refine zw_iconst (nx := 63) C dX2_copyOf_62 rfl ?_
  refine zw_iconst (nx := 64) C dX2_copyOf_63 rfl ?_
  refine zw_copy 0 0 5 (nx := 67) C dX2_copyOf_64 rfl wlX2_52 wn_copy ws_copy wi_sys rfl rfl rfl rfl rfl rfl (by omega) (Nat.le_of_ble_eq_true rfl) (Nat.le_of_ble_eq_true rfl) (Nat.le_of_ble_eq_true rfl) ?_
  refine zw_aload_n (i := 1) (nx := 68) C dX2_copyOf_67 rfl rfl rfl ?_
  refine zw_getr (nx := 71) C dX2_copyOf_68 rfl flX2_31 iq2 rfl rfl rfl rfl ?_
  refine zw_iconst (nx := 72) C dX2_copyOf_71 rfl ?_
  refine zw_aload_n (i := 0) (nx := 73) C dX2_copyOf_72 rfl rfl rfl ?_
  refine zw_getr (nx := 76) C dX2_copyOf_73 rfl flX2_31 iq2 rfl rfl rfl rfl ?_
  refine zw_iconst (nx := 77) C dX2_copyOf_76 rfl ?_
  refine zw_iconst (nx := 78) C dX2_copyOf_77 rfl ?_
  refine zw_copy 0 0 5 (nx := 81) C dX2_copyOf_78 rfl wlX2_52 wn_copy ws_copy wi_sys rfl rfl rfl rfl rfl rfl (by omega) (Nat.le_of_ble_eq_true rfl) (Nat.le_of_ble_eq_true rfl) (Nat.le_of_ble_eq_true rfl) ?_
  refine zw_aload_n (i := 1) (nx := 82) C dX2_copyOf_81 rfl rfl rfl ?_
  refine zw_getr (nx := 85) C dX2_copyOf_82 rfl flX2_34 iq2 rfl rfl rfl rfl ?_
  refine zw_iconst (nx := 86) C dX2_copyOf_85 rfl ?_
  refine zw_aload_n (i := 0) (nx := 87) C dX2_copyOf_86 rfl rfl rfl ?_
  refine zw_getr (nx := 90) C dX2_copyOf_87 rfl flX2_34 iq2 rfl rfl rfl rfl ?_
  refine zw_iconst (nx := 91) C dX2_copyOf_90 rfl ?_
  refine zw_iconst (nx := 92) C dX2_copyOf_91 rfl ?_
  refine zw_copy 0 0 5 (nx := 95) C dX2_copyOf_92 rfl wlX2_52 wn_copy ws_copy wi_sys rfl rfl rfl rfl rfl rfl (by omega) (Nat.le_of_ble_eq_true rfl) (Nat.le_of_ble_eq_true rfl) (Nat.le_of_ble_eq_true rfl) ?_
  refine zw_aload_n (i := 1) (nx := 96) C dX2_copyOf_95 rfl rfl rfl ?_
  refine zw_getr (nx := 99) C dX2_copyOf_96 rfl flX2_37 iq2 rfl rfl rfl rfl ?_
  refine zw_iconst (nx := 100) C dX2_copyOf_99 rfl ?_
  refine zw_aload_n (i := 0) (nx := 101) C dX2_copyOf_100 rfl rfl rfl ?_
  refine zw_getr (nx := 104) C dX2_copyOf_101 rfl flX2_37 iq2 rfl rfl rfl rfl ?_
  refine zw_iconst (nx := 105) C dX2_copyOf_104 rfl ?_
  refine zw_iconst (nx := 106) C dX2_copyOf_105 rfl ?_
  refine zw_copy 0 0 5 (nx := 109) C dX2_copyOf_106 rfl wlX2_52 wn_copy ws_copy wi_sys rfl rfl rfl rfl rfl rfl (by omega) (Nat.le_of_ble_eq_true rfl) (Nat.le_of_ble_eq_true rfl) (Nat.le_of_ble_eq_true rfl) ?_
  refine zw_aload_n (i := 0) (nx := 110) C dX2_copyOf_109 rfl rfl rfl ?_
  refine zw_aload_n (i := 1) (nx := 111) C dX2_copyOf_110 rfl rfl rfl ?_
  refine zw_geti (nx := 114) C dX2_copyOf_111 rfl flX2_40 iq2 rfl rfl rfl rfl ?_
  refine zw_puti (nx := 117) C dX2_copyOf_114 rfl flX2_40 ic2 nf2_9 rfl rfl rfl rfl rfl ?_
  refine zw_aload_n (i := 1) (nx := 118) C dX2_copyOf_117 rfl rfl rfl ?_
  refine zw_getr (nx := 121) C dX2_copyOf_118 rfl flX2_43 iq2 rfl rfl rfl rfl ?_
  refine zw_iconst (nx := 122) C dX2_copyOf_121 rfl ?_
  refine zw_aload_n (i := 0) (nx := 123) C dX2_copyOf_122 rfl rfl rfl ?_
  refine zw_getr (nx := 126) C dX2_copyOf_123 rfl flX2_43 iq2 rfl rfl rfl rfl ?_
  refine zw_iconst (nx := 127) C dX2_copyOf_126 rfl ?_
  refine zw_bipush (v := 24) (nx := 129) C dX2_copyOf_127 (by decide) rfl ?_
  refine zw_copy 0 0 24 (nx := 132) C dX2_copyOf_129 rfl wlX2_52 wn_copy ws_copy wi_sys rfl rfl rfl rfl rfl rfl (by omega) (Nat.le_of_ble_eq_true rfl) (Nat.le_of_ble_eq_true rfl) (Nat.le_of_ble_eq_true rfl) ?_
  refine zw_aload_n (i := 0) (nx := 133) C dX2_copyOf_132 rfl rfl rfl ?_
  refine zw_aload_n (i := 1) (nx := 134) C dX2_copyOf_133 rfl rfl rfl ?_
  refine zw_geti (nx := 137) C dX2_copyOf_134 rfl flX2_46 iq2 rfl rfl rfl rfl ?_
  refine zw_puti (nx := 140) C dX2_copyOf_137 rfl flX2_46 ic2 nf2_11 rfl rfl rfl rfl rfl ?_
  refine zw_aload_n (i := 1) (nx := 141) C dX2_copyOf_140 rfl rfl rfl ?_
  refine zw_getr (nx := 144) C dX2_copyOf_141 rfl flX2_49 iq2 rfl rfl rfl rfl ?_
  refine zw_iconst (nx := 145) C dX2_copyOf_144 rfl ?_
  refine zw_aload_n (i := 0) (nx := 146) C dX2_copyOf_145 rfl rfl rfl ?_
  refine zw_getr (nx := 149) C dX2_copyOf_146 rfl flX2_49 iq2 rfl rfl rfl rfl ?_
  refine zw_iconst (nx := 150) C dX2_copyOf_149 rfl ?_
  refine zw_bipush (v := 120) (nx := 152) C dX2_copyOf_150 (by decide) rfl ?_
  refine zw_copy 0 0 120 (nx := 155) C dX2_copyOf_152 rfl wlX2_52 wn_copy ws_copy wi_sys rfl rfl rfl rfl rfl rfl (by omega) (Nat.le_of_ble_eq_true rfl) (Nat.le_of_ble_eq_true rfl) (Nat.le_of_ble_eq_true rfl) ?_
  exact zw_vret C hA hr hk dX2_copyOf_155 rfl rfl
theorem run_X2_copyOf_1_20 (hp : ¬ (zz ζ).1 38 0 = 0) : zRun l B mX2_copyOf [.ref 1, .ref 20] ζ none (cpS ζ 1 20) := by
  refine zrun_intro (M := mX2_copyOf) (ls := [some (.ref 1), some (.ref 20)]) (by decide) rfl rfl rfl (Nat.le_of_ble_eq_true rfl) ?_
  intro X A C hX hA hr hk
  replace C : CX X B A mX2_copyOf.2.2.2.2 RX2 cX2_copyOf 2 0 0 := C
  have hr : (xMeth X).sig.returnType = none := hr
  change ZW X B A 2 0 0 _ _ 0 [some (.ref 1), some (.ref 20)] []
  refine zw_aload_n (i := 0) (nx := 1) C dX2_copyOf_0 rfl rfl rfl ?_
  refine zw_aload_n (i := 1) (nx := 2) C dX2_copyOf_1 rfl rfl rfl ?_
  refine zw_geti (nx := 5) C dX2_copyOf_2 rfl flX2_9 iq2 (by first | rfl | exact eIn_0 rfl hp) rfl rfl rfl ?_
  refine zw_puti (nx := 8) C dX2_copyOf_5 rfl flX2_9 ic2 nf2_0 (by first | rfl | exact eIn_0 rfl hp) rfl rfl rfl rfl ?_
  refine zw_aload_n (i := 0) (nx := 9) C dX2_copyOf_8 rfl rfl rfl ?_
  refine zw_aload_n (i := 1) (nx := 10) C dX2_copyOf_9 rfl rfl rfl ?_
  refine zw_geti (nx := 13) C dX2_copyOf_10 rfl flX2_15 iq2 (by first | rfl | exact eIn_0 rfl hp) rfl rfl rfl ?_
  refine zw_puti (nx := 16) C dX2_copyOf_13 rfl flX2_15 ic2 nf2_1 (by first | rfl | exact eIn_0 rfl hp) rfl rfl rfl rfl ?_
  refine zw_aload_n (i := 1) (nx := 17) C dX2_copyOf_16 rfl rfl rfl ?_
  refine zw_getr (nx := 20) C dX2_copyOf_17 rfl flX2_18 iq2 (by first | rfl | exact eIn_0 rfl hp) rfl rfl rfl ?_
  refine zw_iconst (nx := 21) C dX2_copyOf_20 rfl ?_
  refine zw_aload_n (i := 0) (nx := 22) C dX2_copyOf_21 rfl rfl rfl ?_
  refine zw_getr (nx := 25) C dX2_copyOf_22 rfl flX2_18 iq2 (by first | rfl | exact eIn_0 rfl hp) rfl rfl rfl ?_
  refine zw_iconst (nx := 26) C dX2_copyOf_25 rfl ?_
  refine zw_bipush (v := 8) (nx := 28) C dX2_copyOf_26 (by decide) rfl ?_
  refine zw_copy 0 0 8 (nx := 31) C dX2_copyOf_28 rfl wlX2_52 wn_copy ws_copy wi_sys (by first | rfl | exact eIn_0 rfl hp) (by first | rfl | exact eIn_0 rfl hp) rfl rfl rfl rfl (by omega) (Nat.le_of_ble_eq_true rfl) (Nat.le_of_ble_eq_true rfl) (Nat.le_of_ble_eq_true rfl) ?_
  refine zw_aload_n (i := 0) (nx := 32) C dX2_copyOf_31 rfl rfl rfl ?_
  refine zw_aload_n (i := 1) (nx := 33) C dX2_copyOf_32 rfl rfl rfl ?_
  refine zw_geti (nx := 36) C dX2_copyOf_33 rfl flX2_22 iq2 (by first | rfl | exact eIn_0 rfl hp) rfl rfl rfl ?_
  refine zw_puti (nx := 39) C dX2_copyOf_36 rfl flX2_22 ic2 nf2_3 (by first | rfl | exact eIn_0 rfl hp) rfl rfl rfl rfl ?_
  refine zw_aload_n (i := 1) (nx := 40) C dX2_copyOf_39 rfl rfl rfl ?_
  refine zw_getr (nx := 43) C dX2_copyOf_40 rfl flX2_25 iq2 (by first | rfl | exact eIn_0 rfl hp) rfl rfl rfl ?_
  refine zw_iconst (nx := 44) C dX2_copyOf_43 rfl ?_
  refine zw_aload_n (i := 0) (nx := 45) C dX2_copyOf_44 rfl rfl rfl ?_
  refine zw_getr (nx := 48) C dX2_copyOf_45 rfl flX2_25 iq2 (by first | rfl | exact eIn_0 rfl hp) rfl rfl rfl ?_
  refine zw_iconst (nx := 49) C dX2_copyOf_48 rfl ?_
  refine zw_iconst (nx := 50) C dX2_copyOf_49 rfl ?_
  refine zw_copy 0 0 5 (nx := 53) C dX2_copyOf_50 rfl wlX2_52 wn_copy ws_copy wi_sys (by first | rfl | exact eIn_0 rfl hp) (by first | rfl | exact eIn_0 rfl hp) rfl rfl rfl rfl (by omega) (Nat.le_of_ble_eq_true rfl) (Nat.le_of_ble_eq_true rfl) (Nat.le_of_ble_eq_true rfl) ?_
  refine zw_aload_n (i := 1) (nx := 54) C dX2_copyOf_53 rfl rfl rfl ?_
  refine zw_getr (nx := 57) C dX2_copyOf_54 rfl flX2_28 iq2 (by first | rfl | exact eIn_0 rfl hp) rfl rfl rfl ?_
  refine zw_iconst (nx := 58) C dX2_copyOf_57 rfl ?_
  refine zw_aload_n (i := 0) (nx := 59) C dX2_copyOf_58 rfl rfl rfl ?_
  refine zw_getr (nx := 62) C dX2_copyOf_59 rfl flX2_28 iq2 (by first | rfl | exact eIn_0 rfl hp) rfl rfl rfl ?_
  refine zw_iconst (nx := 63) C dX2_copyOf_62 rfl ?_
  refine zw_iconst (nx := 64) C dX2_copyOf_63 rfl ?_
  refine zw_copy 0 0 5 (nx := 67) C dX2_copyOf_64 rfl wlX2_52 wn_copy ws_copy wi_sys (by first | rfl | exact eIn_0 rfl hp) (by first | rfl | exact eIn_0 rfl hp) rfl rfl rfl rfl (by omega) (Nat.le_of_ble_eq_true rfl) (Nat.le_of_ble_eq_true rfl) (Nat.le_of_ble_eq_true rfl) ?_
  refine zw_aload_n (i := 1) (nx := 68) C dX2_copyOf_67 rfl rfl rfl ?_
  refine zw_getr (nx := 71) C dX2_copyOf_68 rfl flX2_31 iq2 (by first | rfl | exact eIn_0 rfl hp) rfl rfl rfl ?_
  refine zw_iconst (nx := 72) C dX2_copyOf_71 rfl ?_
  refine zw_aload_n (i := 0) (nx := 73) C dX2_copyOf_72 rfl rfl rfl ?_
  refine zw_getr (nx := 76) C dX2_copyOf_73 rfl flX2_31 iq2 (by first | rfl | exact eIn_0 rfl hp) rfl rfl rfl ?_
  refine zw_iconst (nx := 77) C dX2_copyOf_76 rfl ?_
  refine zw_iconst (nx := 78) C dX2_copyOf_77 rfl ?_
  refine zw_copy 0 0 5 (nx := 81) C dX2_copyOf_78 rfl wlX2_52 wn_copy ws_copy wi_sys (by first | rfl | exact eIn_0 rfl hp) (by first | rfl | exact eIn_0 rfl hp) rfl rfl rfl rfl (by omega) (Nat.le_of_ble_eq_true rfl) (Nat.le_of_ble_eq_true rfl) (Nat.le_of_ble_eq_true rfl) ?_
  refine zw_aload_n (i := 1) (nx := 82) C dX2_copyOf_81 rfl rfl rfl ?_
  refine zw_getr (nx := 85) C dX2_copyOf_82 rfl flX2_34 iq2 (by first | rfl | exact eIn_0 rfl hp) rfl rfl rfl ?_
  refine zw_iconst (nx := 86) C dX2_copyOf_85 rfl ?_
  refine zw_aload_n (i := 0) (nx := 87) C dX2_copyOf_86 rfl rfl rfl ?_
  refine zw_getr (nx := 90) C dX2_copyOf_87 rfl flX2_34 iq2 (by first | rfl | exact eIn_0 rfl hp) rfl rfl rfl ?_
  refine zw_iconst (nx := 91) C dX2_copyOf_90 rfl ?_
  refine zw_iconst (nx := 92) C dX2_copyOf_91 rfl ?_
  refine zw_copy 0 0 5 (nx := 95) C dX2_copyOf_92 rfl wlX2_52 wn_copy ws_copy wi_sys (by first | rfl | exact eIn_0 rfl hp) (by first | rfl | exact eIn_0 rfl hp) rfl rfl rfl rfl (by omega) (Nat.le_of_ble_eq_true rfl) (Nat.le_of_ble_eq_true rfl) (Nat.le_of_ble_eq_true rfl) ?_
  refine zw_aload_n (i := 1) (nx := 96) C dX2_copyOf_95 rfl rfl rfl ?_
  refine zw_getr (nx := 99) C dX2_copyOf_96 rfl flX2_37 iq2 (by first | rfl | exact eIn_0 rfl hp) rfl rfl rfl ?_
  refine zw_iconst (nx := 100) C dX2_copyOf_99 rfl ?_
  refine zw_aload_n (i := 0) (nx := 101) C dX2_copyOf_100 rfl rfl rfl ?_
  refine zw_getr (nx := 104) C dX2_copyOf_101 rfl flX2_37 iq2 (by first | rfl | exact eIn_0 rfl hp) rfl rfl rfl ?_
  refine zw_iconst (nx := 105) C dX2_copyOf_104 rfl ?_
  refine zw_iconst (nx := 106) C dX2_copyOf_105 rfl ?_
  refine zw_copy 0 0 5 (nx := 109) C dX2_copyOf_106 rfl wlX2_52 wn_copy ws_copy wi_sys (by first | rfl | exact eIn_0 rfl hp) (by first | rfl | exact eIn_0 rfl hp) rfl rfl rfl rfl (by omega) (Nat.le_of_ble_eq_true rfl) (Nat.le_of_ble_eq_true rfl) (Nat.le_of_ble_eq_true rfl) ?_
  refine zw_aload_n (i := 0) (nx := 110) C dX2_copyOf_109 rfl rfl rfl ?_
  refine zw_aload_n (i := 1) (nx := 111) C dX2_copyOf_110 rfl rfl rfl ?_
  refine zw_geti (nx := 114) C dX2_copyOf_111 rfl flX2_40 iq2 (by first | rfl | exact eIn_0 rfl hp) rfl rfl rfl ?_
  refine zw_puti (nx := 117) C dX2_copyOf_114 rfl flX2_40 ic2 nf2_9 (by first | rfl | exact eIn_0 rfl hp) rfl rfl rfl rfl ?_
  refine zw_aload_n (i := 1) (nx := 118) C dX2_copyOf_117 rfl rfl rfl ?_
  refine zw_getr (nx := 121) C dX2_copyOf_118 rfl flX2_43 iq2 (by first | rfl | exact eIn_0 rfl hp) rfl rfl rfl ?_
  refine zw_iconst (nx := 122) C dX2_copyOf_121 rfl ?_
  refine zw_aload_n (i := 0) (nx := 123) C dX2_copyOf_122 rfl rfl rfl ?_
  refine zw_getr (nx := 126) C dX2_copyOf_123 rfl flX2_43 iq2 (by first | rfl | exact eIn_0 rfl hp) rfl rfl rfl ?_
  refine zw_iconst (nx := 127) C dX2_copyOf_126 rfl ?_
  refine zw_bipush (v := 24) (nx := 129) C dX2_copyOf_127 (by decide) rfl ?_
  refine zw_copy 0 0 24 (nx := 132) C dX2_copyOf_129 rfl wlX2_52 wn_copy ws_copy wi_sys (by first | rfl | exact eIn_0 rfl hp) (by first | rfl | exact eIn_0 rfl hp) rfl rfl rfl rfl (by omega) (Nat.le_of_ble_eq_true rfl) (Nat.le_of_ble_eq_true rfl) (Nat.le_of_ble_eq_true rfl) ?_
  refine zw_aload_n (i := 0) (nx := 133) C dX2_copyOf_132 rfl rfl rfl ?_
  refine zw_aload_n (i := 1) (nx := 134) C dX2_copyOf_133 rfl rfl rfl ?_
  refine zw_geti (nx := 137) C dX2_copyOf_134 rfl flX2_46 iq2 (by first | rfl | exact eIn_0 rfl hp) rfl rfl rfl ?_
  refine zw_puti (nx := 140) C dX2_copyOf_137 rfl flX2_46 ic2 nf2_11 (by first | rfl | exact eIn_0 rfl hp) rfl rfl rfl rfl ?_
  refine zw_aload_n (i := 1) (nx := 141) C dX2_copyOf_140 rfl rfl rfl ?_
  refine zw_getr (nx := 144) C dX2_copyOf_141 rfl flX2_49 iq2 (by first | rfl | exact eIn_0 rfl hp) rfl rfl rfl ?_
  refine zw_iconst (nx := 145) C dX2_copyOf_144 rfl ?_
  refine zw_aload_n (i := 0) (nx := 146) C dX2_copyOf_145 rfl rfl rfl ?_
  refine zw_getr (nx := 149) C dX2_copyOf_146 rfl flX2_49 iq2 (by first | rfl | exact eIn_0 rfl hp) rfl rfl rfl ?_
  refine zw_iconst (nx := 150) C dX2_copyOf_149 rfl ?_
  refine zw_bipush (v := 120) (nx := 152) C dX2_copyOf_150 (by decide) rfl ?_
  refine zw_copy 0 0 120 (nx := 155) C dX2_copyOf_152 rfl wlX2_52 wn_copy ws_copy wi_sys (by first | rfl | exact eIn_0 rfl hp) (by first | rfl | exact eIn_0 rfl hp) rfl rfl rfl rfl (by omega) (Nat.le_of_ble_eq_true rfl) (Nat.le_of_ble_eq_true rfl) (Nat.le_of_ble_eq_true rfl) ?_
  exact zw_vret C hA hr hk dX2_copyOf_155 rfl rfl
theorem run_X2_copyOf_1_29 (hp : ¬ (zz ζ).1 38 1 = 0) : zRun l B mX2_copyOf [.ref 1, .ref 29] ζ none (cpS ζ 1 29) := by
  refine zrun_intro (M := mX2_copyOf) (ls := [some (.ref 1), some (.ref 29)]) (by decide) rfl rfl rfl (Nat.le_of_ble_eq_true rfl) ?_
  intro X A C hX hA hr hk
  replace C : CX X B A mX2_copyOf.2.2.2.2 RX2 cX2_copyOf 2 0 0 := C
  have hr : (xMeth X).sig.returnType = none := hr
  change ZW X B A 2 0 0 _ _ 0 [some (.ref 1), some (.ref 29)] []
  refine zw_aload_n (i := 0) (nx := 1) C dX2_copyOf_0 rfl rfl rfl ?_
  refine zw_aload_n (i := 1) (nx := 2) C dX2_copyOf_1 rfl rfl rfl ?_
  refine zw_geti (nx := 5) C dX2_copyOf_2 rfl flX2_9 iq2 (by first | rfl | exact eIn_1 rfl hp) rfl rfl rfl ?_
  refine zw_puti (nx := 8) C dX2_copyOf_5 rfl flX2_9 ic2 nf2_0 (by first | rfl | exact eIn_1 rfl hp) rfl rfl rfl rfl ?_
  refine zw_aload_n (i := 0) (nx := 9) C dX2_copyOf_8 rfl rfl rfl ?_
  refine zw_aload_n (i := 1) (nx := 10) C dX2_copyOf_9 rfl rfl rfl ?_
  refine zw_geti (nx := 13) C dX2_copyOf_10 rfl flX2_15 iq2 (by first | rfl | exact eIn_1 rfl hp) rfl rfl rfl ?_
  refine zw_puti (nx := 16) C dX2_copyOf_13 rfl flX2_15 ic2 nf2_1 (by first | rfl | exact eIn_1 rfl hp) rfl rfl rfl rfl ?_
  refine zw_aload_n (i := 1) (nx := 17) C dX2_copyOf_16 rfl rfl rfl ?_
  refine zw_getr (nx := 20) C dX2_copyOf_17 rfl flX2_18 iq2 (by first | rfl | exact eIn_1 rfl hp) rfl rfl rfl ?_
  refine zw_iconst (nx := 21) C dX2_copyOf_20 rfl ?_
  refine zw_aload_n (i := 0) (nx := 22) C dX2_copyOf_21 rfl rfl rfl ?_
  refine zw_getr (nx := 25) C dX2_copyOf_22 rfl flX2_18 iq2 (by first | rfl | exact eIn_1 rfl hp) rfl rfl rfl ?_
  refine zw_iconst (nx := 26) C dX2_copyOf_25 rfl ?_
  refine zw_bipush (v := 8) (nx := 28) C dX2_copyOf_26 (by decide) rfl ?_
  refine zw_copy 0 0 8 (nx := 31) C dX2_copyOf_28 rfl wlX2_52 wn_copy ws_copy wi_sys (by first | rfl | exact eIn_1 rfl hp) (by first | rfl | exact eIn_1 rfl hp) rfl rfl rfl rfl (by omega) (Nat.le_of_ble_eq_true rfl) (Nat.le_of_ble_eq_true rfl) (Nat.le_of_ble_eq_true rfl) ?_
  refine zw_aload_n (i := 0) (nx := 32) C dX2_copyOf_31 rfl rfl rfl ?_
  refine zw_aload_n (i := 1) (nx := 33) C dX2_copyOf_32 rfl rfl rfl ?_
  refine zw_geti (nx := 36) C dX2_copyOf_33 rfl flX2_22 iq2 (by first | rfl | exact eIn_1 rfl hp) rfl rfl rfl ?_
  refine zw_puti (nx := 39) C dX2_copyOf_36 rfl flX2_22 ic2 nf2_3 (by first | rfl | exact eIn_1 rfl hp) rfl rfl rfl rfl ?_
  refine zw_aload_n (i := 1) (nx := 40) C dX2_copyOf_39 rfl rfl rfl ?_
  refine zw_getr (nx := 43) C dX2_copyOf_40 rfl flX2_25 iq2 (by first | rfl | exact eIn_1 rfl hp) rfl rfl rfl ?_
  refine zw_iconst (nx := 44) C dX2_copyOf_43 rfl ?_
  refine zw_aload_n (i := 0) (nx := 45) C dX2_copyOf_44 rfl rfl rfl ?_
  refine zw_getr (nx := 48) C dX2_copyOf_45 rfl flX2_25 iq2 (by first | rfl | exact eIn_1 rfl hp) rfl rfl rfl ?_
  refine zw_iconst (nx := 49) C dX2_copyOf_48 rfl ?_
  refine zw_iconst (nx := 50) C dX2_copyOf_49 rfl ?_
  refine zw_copy 0 0 5 (nx := 53) C dX2_copyOf_50 rfl wlX2_52 wn_copy ws_copy wi_sys (by first | rfl | exact eIn_1 rfl hp) (by first | rfl | exact eIn_1 rfl hp) rfl rfl rfl rfl (by omega) (Nat.le_of_ble_eq_true rfl) (Nat.le_of_ble_eq_true rfl) (Nat.le_of_ble_eq_true rfl) ?_
  refine zw_aload_n (i := 1) (nx := 54) C dX2_copyOf_53 rfl rfl rfl ?_
  refine zw_getr (nx := 57) C dX2_copyOf_54 rfl flX2_28 iq2 (by first | rfl | exact eIn_1 rfl hp) rfl rfl rfl ?_
  refine zw_iconst (nx := 58) C dX2_copyOf_57 rfl ?_
  refine zw_aload_n (i := 0) (nx := 59) C dX2_copyOf_58 rfl rfl rfl ?_
  refine zw_getr (nx := 62) C dX2_copyOf_59 rfl flX2_28 iq2 (by first | rfl | exact eIn_1 rfl hp) rfl rfl rfl ?_
  refine zw_iconst (nx := 63) C dX2_copyOf_62 rfl ?_
  refine zw_iconst (nx := 64) C dX2_copyOf_63 rfl ?_
  refine zw_copy 0 0 5 (nx := 67) C dX2_copyOf_64 rfl wlX2_52 wn_copy ws_copy wi_sys (by first | rfl | exact eIn_1 rfl hp) (by first | rfl | exact eIn_1 rfl hp) rfl rfl rfl rfl (by omega) (Nat.le_of_ble_eq_true rfl) (Nat.le_of_ble_eq_true rfl) (Nat.le_of_ble_eq_true rfl) ?_
  refine zw_aload_n (i := 1) (nx := 68) C dX2_copyOf_67 rfl rfl rfl ?_
  refine zw_getr (nx := 71) C dX2_copyOf_68 rfl flX2_31 iq2 (by first | rfl | exact eIn_1 rfl hp) rfl rfl rfl ?_
  refine zw_iconst (nx := 72) C dX2_copyOf_71 rfl ?_
  refine zw_aload_n (i := 0) (nx := 73) C dX2_copyOf_72 rfl rfl rfl ?_
  refine zw_getr (nx := 76) C dX2_copyOf_73 rfl flX2_31 iq2 (by first | rfl | exact eIn_1 rfl hp) rfl rfl rfl ?_
  refine zw_iconst (nx := 77) C dX2_copyOf_76 rfl ?_
  refine zw_iconst (nx := 78) C dX2_copyOf_77 rfl ?_
  refine zw_copy 0 0 5 (nx := 81) C dX2_copyOf_78 rfl wlX2_52 wn_copy ws_copy wi_sys (by first | rfl | exact eIn_1 rfl hp) (by first | rfl | exact eIn_1 rfl hp) rfl rfl rfl rfl (by omega) (Nat.le_of_ble_eq_true rfl) (Nat.le_of_ble_eq_true rfl) (Nat.le_of_ble_eq_true rfl) ?_
  refine zw_aload_n (i := 1) (nx := 82) C dX2_copyOf_81 rfl rfl rfl ?_
  refine zw_getr (nx := 85) C dX2_copyOf_82 rfl flX2_34 iq2 (by first | rfl | exact eIn_1 rfl hp) rfl rfl rfl ?_
  refine zw_iconst (nx := 86) C dX2_copyOf_85 rfl ?_
  refine zw_aload_n (i := 0) (nx := 87) C dX2_copyOf_86 rfl rfl rfl ?_
  refine zw_getr (nx := 90) C dX2_copyOf_87 rfl flX2_34 iq2 (by first | rfl | exact eIn_1 rfl hp) rfl rfl rfl ?_
  refine zw_iconst (nx := 91) C dX2_copyOf_90 rfl ?_
  refine zw_iconst (nx := 92) C dX2_copyOf_91 rfl ?_
  refine zw_copy 0 0 5 (nx := 95) C dX2_copyOf_92 rfl wlX2_52 wn_copy ws_copy wi_sys (by first | rfl | exact eIn_1 rfl hp) (by first | rfl | exact eIn_1 rfl hp) rfl rfl rfl rfl (by omega) (Nat.le_of_ble_eq_true rfl) (Nat.le_of_ble_eq_true rfl) (Nat.le_of_ble_eq_true rfl) ?_
  refine zw_aload_n (i := 1) (nx := 96) C dX2_copyOf_95 rfl rfl rfl ?_
  refine zw_getr (nx := 99) C dX2_copyOf_96 rfl flX2_37 iq2 (by first | rfl | exact eIn_1 rfl hp) rfl rfl rfl ?_
  refine zw_iconst (nx := 100) C dX2_copyOf_99 rfl ?_
  refine zw_aload_n (i := 0) (nx := 101) C dX2_copyOf_100 rfl rfl rfl ?_
  refine zw_getr (nx := 104) C dX2_copyOf_101 rfl flX2_37 iq2 (by first | rfl | exact eIn_1 rfl hp) rfl rfl rfl ?_
  refine zw_iconst (nx := 105) C dX2_copyOf_104 rfl ?_
  refine zw_iconst (nx := 106) C dX2_copyOf_105 rfl ?_
  refine zw_copy 0 0 5 (nx := 109) C dX2_copyOf_106 rfl wlX2_52 wn_copy ws_copy wi_sys (by first | rfl | exact eIn_1 rfl hp) (by first | rfl | exact eIn_1 rfl hp) rfl rfl rfl rfl (by omega) (Nat.le_of_ble_eq_true rfl) (Nat.le_of_ble_eq_true rfl) (Nat.le_of_ble_eq_true rfl) ?_
  refine zw_aload_n (i := 0) (nx := 110) C dX2_copyOf_109 rfl rfl rfl ?_
  refine zw_aload_n (i := 1) (nx := 111) C dX2_copyOf_110 rfl rfl rfl ?_
  refine zw_geti (nx := 114) C dX2_copyOf_111 rfl flX2_40 iq2 (by first | rfl | exact eIn_1 rfl hp) rfl rfl rfl ?_
  refine zw_puti (nx := 117) C dX2_copyOf_114 rfl flX2_40 ic2 nf2_9 (by first | rfl | exact eIn_1 rfl hp) rfl rfl rfl rfl ?_
  refine zw_aload_n (i := 1) (nx := 118) C dX2_copyOf_117 rfl rfl rfl ?_
  refine zw_getr (nx := 121) C dX2_copyOf_118 rfl flX2_43 iq2 (by first | rfl | exact eIn_1 rfl hp) rfl rfl rfl ?_
  refine zw_iconst (nx := 122) C dX2_copyOf_121 rfl ?_
  refine zw_aload_n (i := 0) (nx := 123) C dX2_copyOf_122 rfl rfl rfl ?_
  refine zw_getr (nx := 126) C dX2_copyOf_123 rfl flX2_43 iq2 (by first | rfl | exact eIn_1 rfl hp) rfl rfl rfl ?_
  refine zw_iconst (nx := 127) C dX2_copyOf_126 rfl ?_
  refine zw_bipush (v := 24) (nx := 129) C dX2_copyOf_127 (by decide) rfl ?_
  refine zw_copy 0 0 24 (nx := 132) C dX2_copyOf_129 rfl wlX2_52 wn_copy ws_copy wi_sys (by first | rfl | exact eIn_1 rfl hp) (by first | rfl | exact eIn_1 rfl hp) rfl rfl rfl rfl (by omega) (Nat.le_of_ble_eq_true rfl) (Nat.le_of_ble_eq_true rfl) (Nat.le_of_ble_eq_true rfl) ?_
  refine zw_aload_n (i := 0) (nx := 133) C dX2_copyOf_132 rfl rfl rfl ?_
  refine zw_aload_n (i := 1) (nx := 134) C dX2_copyOf_133 rfl rfl rfl ?_
  refine zw_geti (nx := 137) C dX2_copyOf_134 rfl flX2_46 iq2 (by first | rfl | exact eIn_1 rfl hp) rfl rfl rfl ?_
  refine zw_puti (nx := 140) C dX2_copyOf_137 rfl flX2_46 ic2 nf2_11 (by first | rfl | exact eIn_1 rfl hp) rfl rfl rfl rfl ?_
  refine zw_aload_n (i := 1) (nx := 141) C dX2_copyOf_140 rfl rfl rfl ?_
  refine zw_getr (nx := 144) C dX2_copyOf_141 rfl flX2_49 iq2 (by first | rfl | exact eIn_1 rfl hp) rfl rfl rfl ?_
  refine zw_iconst (nx := 145) C dX2_copyOf_144 rfl ?_
  refine zw_aload_n (i := 0) (nx := 146) C dX2_copyOf_145 rfl rfl rfl ?_
  refine zw_getr (nx := 149) C dX2_copyOf_146 rfl flX2_49 iq2 (by first | rfl | exact eIn_1 rfl hp) rfl rfl rfl ?_
  refine zw_iconst (nx := 150) C dX2_copyOf_149 rfl ?_
  refine zw_bipush (v := 120) (nx := 152) C dX2_copyOf_150 (by decide) rfl ?_
  refine zw_copy 0 0 120 (nx := 155) C dX2_copyOf_152 rfl wlX2_52 wn_copy ws_copy wi_sys (by first | rfl | exact eIn_1 rfl hp) (by first | rfl | exact eIn_1 rfl hp) rfl rfl rfl rfl (by omega) (Nat.le_of_ble_eq_true rfl) (Nat.le_of_ble_eq_true rfl) (Nat.le_of_ble_eq_true rfl) ?_
  exact zw_vret C hA hr hk dX2_copyOf_155 rfl rfl
theorem run_X2_copyOf_20_1 (hp : ¬ (zz ζ).1 38 0 = 0) : zRun l B mX2_copyOf [.ref 20, .ref 1] ζ none (cpS ζ 20 1) := by
  refine zrun_intro (M := mX2_copyOf) (ls := [some (.ref 20), some (.ref 1)]) (by decide) rfl rfl rfl (Nat.le_of_ble_eq_true rfl) ?_
  intro X A C hX hA hr hk
  replace C : CX X B A mX2_copyOf.2.2.2.2 RX2 cX2_copyOf 2 0 0 := C
  have hr : (xMeth X).sig.returnType = none := hr
  change ZW X B A 2 0 0 _ _ 0 [some (.ref 20), some (.ref 1)] []
  refine zw_aload_n (i := 0) (nx := 1) C dX2_copyOf_0 rfl rfl rfl ?_
  refine zw_aload_n (i := 1) (nx := 2) C dX2_copyOf_1 rfl rfl rfl ?_
  refine zw_geti (nx := 5) C dX2_copyOf_2 rfl flX2_9 iq2 (by first | rfl | exact eIn_0 rfl hp) rfl rfl rfl ?_
  refine zw_puti (nx := 8) C dX2_copyOf_5 rfl flX2_9 ic2 nf2_0 (by first | rfl | exact eIn_0 rfl hp) rfl rfl rfl rfl ?_
  refine zw_aload_n (i := 0) (nx := 9) C dX2_copyOf_8 rfl rfl rfl ?_
  refine zw_aload_n (i := 1) (nx := 10) C dX2_copyOf_9 rfl rfl rfl ?_
  refine zw_geti (nx := 13) C dX2_copyOf_10 rfl flX2_15 iq2 (by first | rfl | exact eIn_0 rfl hp) rfl rfl rfl ?_
  refine zw_puti (nx := 16) C dX2_copyOf_13 rfl flX2_15 ic2 nf2_1 (by first | rfl | exact eIn_0 rfl hp) rfl rfl rfl rfl ?_
  refine zw_aload_n (i := 1) (nx := 17) C dX2_copyOf_16 rfl rfl rfl ?_
  refine zw_getr (nx := 20) C dX2_copyOf_17 rfl flX2_18 iq2 (by first | rfl | exact eIn_0 rfl hp) rfl rfl rfl ?_
  refine zw_iconst (nx := 21) C dX2_copyOf_20 rfl ?_
  refine zw_aload_n (i := 0) (nx := 22) C dX2_copyOf_21 rfl rfl rfl ?_
  refine zw_getr (nx := 25) C dX2_copyOf_22 rfl flX2_18 iq2 (by first | rfl | exact eIn_0 rfl hp) rfl rfl rfl ?_
  refine zw_iconst (nx := 26) C dX2_copyOf_25 rfl ?_
  refine zw_bipush (v := 8) (nx := 28) C dX2_copyOf_26 (by decide) rfl ?_
  refine zw_copy 0 0 8 (nx := 31) C dX2_copyOf_28 rfl wlX2_52 wn_copy ws_copy wi_sys (by first | rfl | exact eIn_0 rfl hp) (by first | rfl | exact eIn_0 rfl hp) rfl rfl rfl rfl (by omega) (Nat.le_of_ble_eq_true rfl) (Nat.le_of_ble_eq_true rfl) (Nat.le_of_ble_eq_true rfl) ?_
  refine zw_aload_n (i := 0) (nx := 32) C dX2_copyOf_31 rfl rfl rfl ?_
  refine zw_aload_n (i := 1) (nx := 33) C dX2_copyOf_32 rfl rfl rfl ?_
  refine zw_geti (nx := 36) C dX2_copyOf_33 rfl flX2_22 iq2 (by first | rfl | exact eIn_0 rfl hp) rfl rfl rfl ?_
  refine zw_puti (nx := 39) C dX2_copyOf_36 rfl flX2_22 ic2 nf2_3 (by first | rfl | exact eIn_0 rfl hp) rfl rfl rfl rfl ?_
  refine zw_aload_n (i := 1) (nx := 40) C dX2_copyOf_39 rfl rfl rfl ?_
  refine zw_getr (nx := 43) C dX2_copyOf_40 rfl flX2_25 iq2 (by first | rfl | exact eIn_0 rfl hp) rfl rfl rfl ?_
  refine zw_iconst (nx := 44) C dX2_copyOf_43 rfl ?_
  refine zw_aload_n (i := 0) (nx := 45) C dX2_copyOf_44 rfl rfl rfl ?_
  refine zw_getr (nx := 48) C dX2_copyOf_45 rfl flX2_25 iq2 (by first | rfl | exact eIn_0 rfl hp) rfl rfl rfl ?_
  refine zw_iconst (nx := 49) C dX2_copyOf_48 rfl ?_
  refine zw_iconst (nx := 50) C dX2_copyOf_49 rfl ?_
  refine zw_copy 0 0 5 (nx := 53) C dX2_copyOf_50 rfl wlX2_52 wn_copy ws_copy wi_sys (by first | rfl | exact eIn_0 rfl hp) (by first | rfl | exact eIn_0 rfl hp) rfl rfl rfl rfl (by omega) (Nat.le_of_ble_eq_true rfl) (Nat.le_of_ble_eq_true rfl) (Nat.le_of_ble_eq_true rfl) ?_
  refine zw_aload_n (i := 1) (nx := 54) C dX2_copyOf_53 rfl rfl rfl ?_
  refine zw_getr (nx := 57) C dX2_copyOf_54 rfl flX2_28 iq2 (by first | rfl | exact eIn_0 rfl hp) rfl rfl rfl ?_
  refine zw_iconst (nx := 58) C dX2_copyOf_57 rfl ?_
  refine zw_aload_n (i := 0) (nx := 59) C dX2_copyOf_58 rfl rfl rfl ?_
  refine zw_getr (nx := 62) C dX2_copyOf_59 rfl flX2_28 iq2 (by first | rfl | exact eIn_0 rfl hp) rfl rfl rfl ?_
  refine zw_iconst (nx := 63) C dX2_copyOf_62 rfl ?_
  refine zw_iconst (nx := 64) C dX2_copyOf_63 rfl ?_
  refine zw_copy 0 0 5 (nx := 67) C dX2_copyOf_64 rfl wlX2_52 wn_copy ws_copy wi_sys (by first | rfl | exact eIn_0 rfl hp) (by first | rfl | exact eIn_0 rfl hp) rfl rfl rfl rfl (by omega) (Nat.le_of_ble_eq_true rfl) (Nat.le_of_ble_eq_true rfl) (Nat.le_of_ble_eq_true rfl) ?_
  refine zw_aload_n (i := 1) (nx := 68) C dX2_copyOf_67 rfl rfl rfl ?_
  refine zw_getr (nx := 71) C dX2_copyOf_68 rfl flX2_31 iq2 (by first | rfl | exact eIn_0 rfl hp) rfl rfl rfl ?_
  refine zw_iconst (nx := 72) C dX2_copyOf_71 rfl ?_
  refine zw_aload_n (i := 0) (nx := 73) C dX2_copyOf_72 rfl rfl rfl ?_
  refine zw_getr (nx := 76) C dX2_copyOf_73 rfl flX2_31 iq2 (by first | rfl | exact eIn_0 rfl hp) rfl rfl rfl ?_
  refine zw_iconst (nx := 77) C dX2_copyOf_76 rfl ?_
  refine zw_iconst (nx := 78) C dX2_copyOf_77 rfl ?_
  refine zw_copy 0 0 5 (nx := 81) C dX2_copyOf_78 rfl wlX2_52 wn_copy ws_copy wi_sys (by first | rfl | exact eIn_0 rfl hp) (by first | rfl | exact eIn_0 rfl hp) rfl rfl rfl rfl (by omega) (Nat.le_of_ble_eq_true rfl) (Nat.le_of_ble_eq_true rfl) (Nat.le_of_ble_eq_true rfl) ?_
  refine zw_aload_n (i := 1) (nx := 82) C dX2_copyOf_81 rfl rfl rfl ?_
  refine zw_getr (nx := 85) C dX2_copyOf_82 rfl flX2_34 iq2 (by first | rfl | exact eIn_0 rfl hp) rfl rfl rfl ?_
  refine zw_iconst (nx := 86) C dX2_copyOf_85 rfl ?_
  refine zw_aload_n (i := 0) (nx := 87) C dX2_copyOf_86 rfl rfl rfl ?_
  refine zw_getr (nx := 90) C dX2_copyOf_87 rfl flX2_34 iq2 (by first | rfl | exact eIn_0 rfl hp) rfl rfl rfl ?_
  refine zw_iconst (nx := 91) C dX2_copyOf_90 rfl ?_
  refine zw_iconst (nx := 92) C dX2_copyOf_91 rfl ?_
  refine zw_copy 0 0 5 (nx := 95) C dX2_copyOf_92 rfl wlX2_52 wn_copy ws_copy wi_sys (by first | rfl | exact eIn_0 rfl hp) (by first | rfl | exact eIn_0 rfl hp) rfl rfl rfl rfl (by omega) (Nat.le_of_ble_eq_true rfl) (Nat.le_of_ble_eq_true rfl) (Nat.le_of_ble_eq_true rfl) ?_
  refine zw_aload_n (i := 1) (nx := 96) C dX2_copyOf_95 rfl rfl rfl ?_
  refine zw_getr (nx := 99) C dX2_copyOf_96 rfl flX2_37 iq2 (by first | rfl | exact eIn_0 rfl hp) rfl rfl rfl ?_
  refine zw_iconst (nx := 100) C dX2_copyOf_99 rfl ?_
  refine zw_aload_n (i := 0) (nx := 101) C dX2_copyOf_100 rfl rfl rfl ?_
  refine zw_getr (nx := 104) C dX2_copyOf_101 rfl flX2_37 iq2 (by first | rfl | exact eIn_0 rfl hp) rfl rfl rfl ?_
  refine zw_iconst (nx := 105) C dX2_copyOf_104 rfl ?_
  refine zw_iconst (nx := 106) C dX2_copyOf_105 rfl ?_
  refine zw_copy 0 0 5 (nx := 109) C dX2_copyOf_106 rfl wlX2_52 wn_copy ws_copy wi_sys (by first | rfl | exact eIn_0 rfl hp) (by first | rfl | exact eIn_0 rfl hp) rfl rfl rfl rfl (by omega) (Nat.le_of_ble_eq_true rfl) (Nat.le_of_ble_eq_true rfl) (Nat.le_of_ble_eq_true rfl) ?_
  refine zw_aload_n (i := 0) (nx := 110) C dX2_copyOf_109 rfl rfl rfl ?_
  refine zw_aload_n (i := 1) (nx := 111) C dX2_copyOf_110 rfl rfl rfl ?_
  refine zw_geti (nx := 114) C dX2_copyOf_111 rfl flX2_40 iq2 (by first | rfl | exact eIn_0 rfl hp) rfl rfl rfl ?_
  refine zw_puti (nx := 117) C dX2_copyOf_114 rfl flX2_40 ic2 nf2_9 (by first | rfl | exact eIn_0 rfl hp) rfl rfl rfl rfl ?_
  refine zw_aload_n (i := 1) (nx := 118) C dX2_copyOf_117 rfl rfl rfl ?_
  refine zw_getr (nx := 121) C dX2_copyOf_118 rfl flX2_43 iq2 (by first | rfl | exact eIn_0 rfl hp) rfl rfl rfl ?_
  refine zw_iconst (nx := 122) C dX2_copyOf_121 rfl ?_
  refine zw_aload_n (i := 0) (nx := 123) C dX2_copyOf_122 rfl rfl rfl ?_
  refine zw_getr (nx := 126) C dX2_copyOf_123 rfl flX2_43 iq2 (by first | rfl | exact eIn_0 rfl hp) rfl rfl rfl ?_
  refine zw_iconst (nx := 127) C dX2_copyOf_126 rfl ?_
  refine zw_bipush (v := 24) (nx := 129) C dX2_copyOf_127 (by decide) rfl ?_
  refine zw_copy 0 0 24 (nx := 132) C dX2_copyOf_129 rfl wlX2_52 wn_copy ws_copy wi_sys (by first | rfl | exact eIn_0 rfl hp) (by first | rfl | exact eIn_0 rfl hp) rfl rfl rfl rfl (by omega) (Nat.le_of_ble_eq_true rfl) (Nat.le_of_ble_eq_true rfl) (Nat.le_of_ble_eq_true rfl) ?_
  refine zw_aload_n (i := 0) (nx := 133) C dX2_copyOf_132 rfl rfl rfl ?_
  refine zw_aload_n (i := 1) (nx := 134) C dX2_copyOf_133 rfl rfl rfl ?_
  refine zw_geti (nx := 137) C dX2_copyOf_134 rfl flX2_46 iq2 (by first | rfl | exact eIn_0 rfl hp) rfl rfl rfl ?_
  refine zw_puti (nx := 140) C dX2_copyOf_137 rfl flX2_46 ic2 nf2_11 (by first | rfl | exact eIn_0 rfl hp) rfl rfl rfl rfl ?_
  refine zw_aload_n (i := 1) (nx := 141) C dX2_copyOf_140 rfl rfl rfl ?_
  refine zw_getr (nx := 144) C dX2_copyOf_141 rfl flX2_49 iq2 (by first | rfl | exact eIn_0 rfl hp) rfl rfl rfl ?_
  refine zw_iconst (nx := 145) C dX2_copyOf_144 rfl ?_
  refine zw_aload_n (i := 0) (nx := 146) C dX2_copyOf_145 rfl rfl rfl ?_
  refine zw_getr (nx := 149) C dX2_copyOf_146 rfl flX2_49 iq2 (by first | rfl | exact eIn_0 rfl hp) rfl rfl rfl ?_
  refine zw_iconst (nx := 150) C dX2_copyOf_149 rfl ?_
  refine zw_bipush (v := 120) (nx := 152) C dX2_copyOf_150 (by decide) rfl ?_
  refine zw_copy 0 0 120 (nx := 155) C dX2_copyOf_152 rfl wlX2_52 wn_copy ws_copy wi_sys (by first | rfl | exact eIn_0 rfl hp) (by first | rfl | exact eIn_0 rfl hp) rfl rfl rfl rfl (by omega) (Nat.le_of_ble_eq_true rfl) (Nat.le_of_ble_eq_true rfl) (Nat.le_of_ble_eq_true rfl) ?_
  exact zw_vret C hA hr hk dX2_copyOf_155 rfl rfl
theorem run_X2_copyOf_29_1 (hp : ¬ (zz ζ).1 38 1 = 0) : zRun l B mX2_copyOf [.ref 29, .ref 1] ζ none (cpS ζ 29 1) := by
  refine zrun_intro (M := mX2_copyOf) (ls := [some (.ref 29), some (.ref 1)]) (by decide) rfl rfl rfl (Nat.le_of_ble_eq_true rfl) ?_
  intro X A C hX hA hr hk
  replace C : CX X B A mX2_copyOf.2.2.2.2 RX2 cX2_copyOf 2 0 0 := C
  have hr : (xMeth X).sig.returnType = none := hr
  change ZW X B A 2 0 0 _ _ 0 [some (.ref 29), some (.ref 1)] []
  refine zw_aload_n (i := 0) (nx := 1) C dX2_copyOf_0 rfl rfl rfl ?_
  refine zw_aload_n (i := 1) (nx := 2) C dX2_copyOf_1 rfl rfl rfl ?_
  refine zw_geti (nx := 5) C dX2_copyOf_2 rfl flX2_9 iq2 (by first | rfl | exact eIn_1 rfl hp) rfl rfl rfl ?_
  refine zw_puti (nx := 8) C dX2_copyOf_5 rfl flX2_9 ic2 nf2_0 (by first | rfl | exact eIn_1 rfl hp) rfl rfl rfl rfl ?_
  refine zw_aload_n (i := 0) (nx := 9) C dX2_copyOf_8 rfl rfl rfl ?_
  refine zw_aload_n (i := 1) (nx := 10) C dX2_copyOf_9 rfl rfl rfl ?_
  refine zw_geti (nx := 13) C dX2_copyOf_10 rfl flX2_15 iq2 (by first | rfl | exact eIn_1 rfl hp) rfl rfl rfl ?_
  refine zw_puti (nx := 16) C dX2_copyOf_13 rfl flX2_15 ic2 nf2_1 (by first | rfl | exact eIn_1 rfl hp) rfl rfl rfl rfl ?_
  refine zw_aload_n (i := 1) (nx := 17) C dX2_copyOf_16 rfl rfl rfl ?_
  refine zw_getr (nx := 20) C dX2_copyOf_17 rfl flX2_18 iq2 (by first | rfl | exact eIn_1 rfl hp) rfl rfl rfl ?_
  refine zw_iconst (nx := 21) C dX2_copyOf_20 rfl ?_
  refine zw_aload_n (i := 0) (nx := 22) C dX2_copyOf_21 rfl rfl rfl ?_
  refine zw_getr (nx := 25) C dX2_copyOf_22 rfl flX2_18 iq2 (by first | rfl | exact eIn_1 rfl hp) rfl rfl rfl ?_
  refine zw_iconst (nx := 26) C dX2_copyOf_25 rfl ?_
  refine zw_bipush (v := 8) (nx := 28) C dX2_copyOf_26 (by decide) rfl ?_
  refine zw_copy 0 0 8 (nx := 31) C dX2_copyOf_28 rfl wlX2_52 wn_copy ws_copy wi_sys (by first | rfl | exact eIn_1 rfl hp) (by first | rfl | exact eIn_1 rfl hp) rfl rfl rfl rfl (by omega) (Nat.le_of_ble_eq_true rfl) (Nat.le_of_ble_eq_true rfl) (Nat.le_of_ble_eq_true rfl) ?_
  refine zw_aload_n (i := 0) (nx := 32) C dX2_copyOf_31 rfl rfl rfl ?_
  refine zw_aload_n (i := 1) (nx := 33) C dX2_copyOf_32 rfl rfl rfl ?_
  refine zw_geti (nx := 36) C dX2_copyOf_33 rfl flX2_22 iq2 (by first | rfl | exact eIn_1 rfl hp) rfl rfl rfl ?_
  refine zw_puti (nx := 39) C dX2_copyOf_36 rfl flX2_22 ic2 nf2_3 (by first | rfl | exact eIn_1 rfl hp) rfl rfl rfl rfl ?_
  refine zw_aload_n (i := 1) (nx := 40) C dX2_copyOf_39 rfl rfl rfl ?_
  refine zw_getr (nx := 43) C dX2_copyOf_40 rfl flX2_25 iq2 (by first | rfl | exact eIn_1 rfl hp) rfl rfl rfl ?_
  refine zw_iconst (nx := 44) C dX2_copyOf_43 rfl ?_
  refine zw_aload_n (i := 0) (nx := 45) C dX2_copyOf_44 rfl rfl rfl ?_
  refine zw_getr (nx := 48) C dX2_copyOf_45 rfl flX2_25 iq2 (by first | rfl | exact eIn_1 rfl hp) rfl rfl rfl ?_
  refine zw_iconst (nx := 49) C dX2_copyOf_48 rfl ?_
  refine zw_iconst (nx := 50) C dX2_copyOf_49 rfl ?_
  refine zw_copy 0 0 5 (nx := 53) C dX2_copyOf_50 rfl wlX2_52 wn_copy ws_copy wi_sys (by first | rfl | exact eIn_1 rfl hp) (by first | rfl | exact eIn_1 rfl hp) rfl rfl rfl rfl (by omega) (Nat.le_of_ble_eq_true rfl) (Nat.le_of_ble_eq_true rfl) (Nat.le_of_ble_eq_true rfl) ?_
  refine zw_aload_n (i := 1) (nx := 54) C dX2_copyOf_53 rfl rfl rfl ?_
  refine zw_getr (nx := 57) C dX2_copyOf_54 rfl flX2_28 iq2 (by first | rfl | exact eIn_1 rfl hp) rfl rfl rfl ?_
  refine zw_iconst (nx := 58) C dX2_copyOf_57 rfl ?_
  refine zw_aload_n (i := 0) (nx := 59) C dX2_copyOf_58 rfl rfl rfl ?_
  refine zw_getr (nx := 62) C dX2_copyOf_59 rfl flX2_28 iq2 (by first | rfl | exact eIn_1 rfl hp) rfl rfl rfl ?_
  refine zw_iconst (nx := 63) C dX2_copyOf_62 rfl ?_
  refine zw_iconst (nx := 64) C dX2_copyOf_63 rfl ?_
  refine zw_copy 0 0 5 (nx := 67) C dX2_copyOf_64 rfl wlX2_52 wn_copy ws_copy wi_sys (by first | rfl | exact eIn_1 rfl hp) (by first | rfl | exact eIn_1 rfl hp) rfl rfl rfl rfl (by omega) (Nat.le_of_ble_eq_true rfl) (Nat.le_of_ble_eq_true rfl) (Nat.le_of_ble_eq_true rfl) ?_
  refine zw_aload_n (i := 1) (nx := 68) C dX2_copyOf_67 rfl rfl rfl ?_
  refine zw_getr (nx := 71) C dX2_copyOf_68 rfl flX2_31 iq2 (by first | rfl | exact eIn_1 rfl hp) rfl rfl rfl ?_
  refine zw_iconst (nx := 72) C dX2_copyOf_71 rfl ?_
  refine zw_aload_n (i := 0) (nx := 73) C dX2_copyOf_72 rfl rfl rfl ?_
  refine zw_getr (nx := 76) C dX2_copyOf_73 rfl flX2_31 iq2 (by first | rfl | exact eIn_1 rfl hp) rfl rfl rfl ?_
  refine zw_iconst (nx := 77) C dX2_copyOf_76 rfl ?_
  refine zw_iconst (nx := 78) C dX2_copyOf_77 rfl ?_
  refine zw_copy 0 0 5 (nx := 81) C dX2_copyOf_78 rfl wlX2_52 wn_copy ws_copy wi_sys (by first | rfl | exact eIn_1 rfl hp) (by first | rfl | exact eIn_1 rfl hp) rfl rfl rfl rfl (by omega) (Nat.le_of_ble_eq_true rfl) (Nat.le_of_ble_eq_true rfl) (Nat.le_of_ble_eq_true rfl) ?_
  refine zw_aload_n (i := 1) (nx := 82) C dX2_copyOf_81 rfl rfl rfl ?_
  refine zw_getr (nx := 85) C dX2_copyOf_82 rfl flX2_34 iq2 (by first | rfl | exact eIn_1 rfl hp) rfl rfl rfl ?_
  refine zw_iconst (nx := 86) C dX2_copyOf_85 rfl ?_
  refine zw_aload_n (i := 0) (nx := 87) C dX2_copyOf_86 rfl rfl rfl ?_
  refine zw_getr (nx := 90) C dX2_copyOf_87 rfl flX2_34 iq2 (by first | rfl | exact eIn_1 rfl hp) rfl rfl rfl ?_
  refine zw_iconst (nx := 91) C dX2_copyOf_90 rfl ?_
  refine zw_iconst (nx := 92) C dX2_copyOf_91 rfl ?_
  refine zw_copy 0 0 5 (nx := 95) C dX2_copyOf_92 rfl wlX2_52 wn_copy ws_copy wi_sys (by first | rfl | exact eIn_1 rfl hp) (by first | rfl | exact eIn_1 rfl hp) rfl rfl rfl rfl (by omega) (Nat.le_of_ble_eq_true rfl) (Nat.le_of_ble_eq_true rfl) (Nat.le_of_ble_eq_true rfl) ?_
  refine zw_aload_n (i := 1) (nx := 96) C dX2_copyOf_95 rfl rfl rfl ?_
  refine zw_getr (nx := 99) C dX2_copyOf_96 rfl flX2_37 iq2 (by first | rfl | exact eIn_1 rfl hp) rfl rfl rfl ?_
  refine zw_iconst (nx := 100) C dX2_copyOf_99 rfl ?_
  refine zw_aload_n (i := 0) (nx := 101) C dX2_copyOf_100 rfl rfl rfl ?_
  refine zw_getr (nx := 104) C dX2_copyOf_101 rfl flX2_37 iq2 (by first | rfl | exact eIn_1 rfl hp) rfl rfl rfl ?_
  refine zw_iconst (nx := 105) C dX2_copyOf_104 rfl ?_
  refine zw_iconst (nx := 106) C dX2_copyOf_105 rfl ?_
  refine zw_copy 0 0 5 (nx := 109) C dX2_copyOf_106 rfl wlX2_52 wn_copy ws_copy wi_sys (by first | rfl | exact eIn_1 rfl hp) (by first | rfl | exact eIn_1 rfl hp) rfl rfl rfl rfl (by omega) (Nat.le_of_ble_eq_true rfl) (Nat.le_of_ble_eq_true rfl) (Nat.le_of_ble_eq_true rfl) ?_
  refine zw_aload_n (i := 0) (nx := 110) C dX2_copyOf_109 rfl rfl rfl ?_
  refine zw_aload_n (i := 1) (nx := 111) C dX2_copyOf_110 rfl rfl rfl ?_
  refine zw_geti (nx := 114) C dX2_copyOf_111 rfl flX2_40 iq2 (by first | rfl | exact eIn_1 rfl hp) rfl rfl rfl ?_
  refine zw_puti (nx := 117) C dX2_copyOf_114 rfl flX2_40 ic2 nf2_9 (by first | rfl | exact eIn_1 rfl hp) rfl rfl rfl rfl ?_
  refine zw_aload_n (i := 1) (nx := 118) C dX2_copyOf_117 rfl rfl rfl ?_
  refine zw_getr (nx := 121) C dX2_copyOf_118 rfl flX2_43 iq2 (by first | rfl | exact eIn_1 rfl hp) rfl rfl rfl ?_
  refine zw_iconst (nx := 122) C dX2_copyOf_121 rfl ?_
  refine zw_aload_n (i := 0) (nx := 123) C dX2_copyOf_122 rfl rfl rfl ?_
  refine zw_getr (nx := 126) C dX2_copyOf_123 rfl flX2_43 iq2 (by first | rfl | exact eIn_1 rfl hp) rfl rfl rfl ?_
  refine zw_iconst (nx := 127) C dX2_copyOf_126 rfl ?_
  refine zw_bipush (v := 24) (nx := 129) C dX2_copyOf_127 (by decide) rfl ?_
  refine zw_copy 0 0 24 (nx := 132) C dX2_copyOf_129 rfl wlX2_52 wn_copy ws_copy wi_sys (by first | rfl | exact eIn_1 rfl hp) (by first | rfl | exact eIn_1 rfl hp) rfl rfl rfl rfl (by omega) (Nat.le_of_ble_eq_true rfl) (Nat.le_of_ble_eq_true rfl) (Nat.le_of_ble_eq_true rfl) ?_
  refine zw_aload_n (i := 0) (nx := 133) C dX2_copyOf_132 rfl rfl rfl ?_
  refine zw_aload_n (i := 1) (nx := 134) C dX2_copyOf_133 rfl rfl rfl ?_
  refine zw_geti (nx := 137) C dX2_copyOf_134 rfl flX2_46 iq2 (by first | rfl | exact eIn_1 rfl hp) rfl rfl rfl ?_
  refine zw_puti (nx := 140) C dX2_copyOf_137 rfl flX2_46 ic2 nf2_11 (by first | rfl | exact eIn_1 rfl hp) rfl rfl rfl rfl ?_
  refine zw_aload_n (i := 1) (nx := 141) C dX2_copyOf_140 rfl rfl rfl ?_
  refine zw_getr (nx := 144) C dX2_copyOf_141 rfl flX2_49 iq2 (by first | rfl | exact eIn_1 rfl hp) rfl rfl rfl ?_
  refine zw_iconst (nx := 145) C dX2_copyOf_144 rfl ?_
  refine zw_aload_n (i := 0) (nx := 146) C dX2_copyOf_145 rfl rfl rfl ?_
  refine zw_getr (nx := 149) C dX2_copyOf_146 rfl flX2_49 iq2 (by first | rfl | exact eIn_1 rfl hp) rfl rfl rfl ?_
  refine zw_iconst (nx := 150) C dX2_copyOf_149 rfl ?_
  refine zw_bipush (v := 120) (nx := 152) C dX2_copyOf_150 (by decide) rfl ?_
  refine zw_copy 0 0 120 (nx := 155) C dX2_copyOf_152 rfl wlX2_52 wn_copy ws_copy wi_sys (by first | rfl | exact eIn_1 rfl hp) (by first | rfl | exact eIn_1 rfl hp) rfl rfl rfl rfl (by omega) (Nat.le_of_ble_eq_true rfl) (Nat.le_of_ble_eq_true rfl) (Nat.le_of_ble_eq_true rfl) ?_
  exact zw_vret C hA hr hk dX2_copyOf_155 rfl rfl
end Hill3
