/-! all seated anew: the class, 2 -/
theorem spM_rng {h : aH} (ok : aOk h) {E : Nat} {a : Nat → Int} (hE : E + 1 = 2 ^ h.1) (hi : dI h 8 (fun _ _ _ => False) a) (k : Nat) (hk : k ≤ 11) : -1000000 ≤ spM E a k ∧ spM E a k ≤ 110100480 := by
  rcases spM_ok ok hE hi k hk with ⟨e, -⟩ | ⟨⟨t, -, q⟩, -⟩
  · rw [e]; omega
  · have := (dR_bd ok 8 (by omega) E t _ q).2.2; omega
def a0R (f : Nat → Int) : Nat → Int := zu (hF (fun _ => -1000000) f 352) 0 0
theorem a0_dI {h : aH} (ok : aOk h) (f : Nat → Int) : dI h 0 (fun _ _ _ => False) (a0R f) := by
  refine dI_start ?_ (fun i h1 h2 => ?_) ok.1
  · unfold a0R; rw [zu_at, if_pos rfl]
  · unfold a0R; rw [zu_at, if_neg (by omega)]; exact if_pos h2
theorem tot_ok {W y : Nat} (hW : W ≤ 2100) (hy : y < 32768) : iI ((32768 * W + (32767 - y) : Nat) : Int) >>> (iI 15 &&& 31) = iI (W : Int) := by
  have := shrN (a := 32768 * W + (32767 - y)) (k := 15) (by omega) (by decide)
  rw [show (32768 * W + (32767 - y)) / 2 ^ 15 = W by omega] at this
  exact this
theorem sft_ok {y p : Nat} (hy : y < 32768) (hp : p < 5) : iI (y : Int) >>> (iI (3 * (4 - (p : Int))) &&& 31) = iI ((y / 8 ^ (4 - p) : Nat) : Int) := by
  have := shrN (a := y) (k := 3 * (4 - p)) (by omega) (by omega)
  rw [show ((3 * (4 - p) : Nat) : Int) = 3 * (4 - (p : Int)) from by omega, Nat.pow_mul, show 2 ^ 3 = 8 from rfl] at this
  exact this
section Sew
variable {l : Launch} {B : eB} {ζ : zSt}
set_option maxHeartbeats 16000000 in
theorem run_X4_work {n E : Nat} {h : aH} (hc : cOk ζ n) (hok : aOk h) (hf : aFor ζ n h) (hE : E + 1 = 2 ^ h.1) : zRun l B mX4_work [.ref 41, .ref 1] ζ none (zU (sS ζ (spY h E (a0R (ζ.1 42)) 8) (rwR h.2.2.2 n (ζ.1 43) 8) (rwR (fun p y => (h.2.2.1 p y : Int)) n (ζ.1 44) 8)) 41 3 (spM E (spY h E (a0R (ζ.1 42)) 8) 11)) := by
  have hn := hc.1.1
  have hn3 := hc.2.1
  have h1 := hf.1
  have h32 : 2 ^ h.1 ≤ 2 ^ 5 := Nat.pow_le_pow_right (by decide) hok.1
  have dY := dI_spY hok hE (a0_dI hok (ζ.1 42))
  have mr := spM_rng hok hE (dY 8 (by omega))
  have ar : ∀ t, t < 11 → -1000000 ≤ spY h E (a0R (ζ.1 42)) 8 (11 * E + t) ∧ spY h E (a0R (ζ.1 42)) 8 (11 * E + t) ≤ 110100480 := fun t ht => dI_rng hok (by omega) (fun _ _ _ _ x => x) (dY 8 (by omega)) (by omega) ht
  refine zrun_intro (M := mX4_work) (ls := [some (.ref 41), some (.ref 1), none, none, none]) (by decide) rfl rfl rfl (Nat.le_of_ble_eq_true rfl) ?_
  intro X A C hX hA hr hk
  replace C : CX X B A mX4_work.2.2.2.2 RX4 cX4_work 5 0 0 := C
  have hr : (xMeth X).sig.returnType = none := hr
  change ZW X B A 5 0 0 _ _ 0 [some (.ref 41), some (.ref 1), none, none, none] []
  have ml : ∀ m t : Nat, t + m = 11 → ∀ o4 : Option Value, ZW X B A 5 0 0 (eFin X B none (zz (zU (sS ζ (spY h E (a0R (ζ.1 42)) 8) (rwR h.2.2.2 n (ζ.1 43) 8) (rwR (fun p y => (h.2.2.1 p y : Int)) n (ζ.1 44) 8)) 41 3 (spM E (spY h E (a0R (ζ.1 42)) 8) 11)))) (zU (sS ζ (spY h E (a0R (ζ.1 42)) 8) (rwR h.2.2.2 n (ζ.1 43) 8) (rwR (fun p y => (h.2.2.1 p y : Int)) n (ζ.1 44) 8)) 41 3 (spM E (spY h E (a0R (ζ.1 42)) 8) t)) 91 [some (.ref 41), some (.ref 1), some (zi E), some (zi t), o4] [] := by
    generalize spY h E (a0R (ζ.1 42)) 8 = A8 at mr ar
    generalize rwR h.2.2.2 n (ζ.1 43) 8 = w8
    generalize rwR (fun p y => (h.2.2.1 p y : Int)) n (ζ.1 44) 8 = t8
    intro m
    induction m with
    | zero =>
      intro t htm o4
      have e : t = 11 := by omega
      subst e
      refine zw_iload_n (i := 3) (nx := 92) C dX4_work_91 rfl rfl rfl ?_
      refine zw_bipush (v := 11) (nx := 94) C dX4_work_92 (by decide) rfl ?_
      refine zw_icmp_ge (tgt := 125) (nx := 97) C dX4_work_94 rfl rfl (by omega) (fun h94 => ?_) (fun h94 => by exfalso; omega)
      exact zw_vret C hA hr hk dX4_work_125 rfl rfl
    | succ m ih =>
      intro t htm o4
      have q1 := mr t (by omega)
      have q2 := ar t (by omega)
      refine zw_iload_n (i := 3) (nx := 92) C dX4_work_91 rfl rfl rfl ?_
      refine zw_bipush (v := 11) (nx := 94) C dX4_work_92 (by decide) rfl ?_
      refine zw_icmp_ge (tgt := 125) (nx := 97) C dX4_work_94 rfl rfl (by omega) (fun h94 => by exfalso; omega) (fun h94 => ?_)
      refine zw_aload_n (i := 0) (nx := 98) C dX4_work_97 rfl rfl rfl ?_
      refine zw_aload_n (i := 0) (nx := 99) C dX4_work_98 rfl rfl rfl ?_
      refine zw_geti (nx := 102) C dX4_work_99 rfl flX4_21 iq3 rfl rfl rfl rfl ?_
      refine zw_aload_n (i := 0) (nx := 103) C dX4_work_102 rfl rfl rfl ?_
      refine zw_getr (nx := 106) C dX4_work_103 rfl flX4_11 iq3 rfl rfl rfl rfl ?_
      refine zw_iload_n (i := 2) (nx := 107) C dX4_work_106 rfl rfl rfl ?_
      refine zw_bipush (v := 11) (nx := 109) C dX4_work_107 (by decide) rfl ?_
      refine zw_imul (nx := 110) C dX4_work_109 rfl ?_
      refine zw_iload_n (i := 3) (nx := 111) C dX4_work_110 rfl rfl rfl ?_
      refine zw_iadd (nx := 112) C dX4_work_111 rfl ?_
      refine zw_iald ((11 * E + t)) (nx := 113) C dX4_work_112 rfl rfl rfl rfl (by omega) ?_
      rw [show (zU (sS ζ A8 w8 t8) 41 3 (spM E A8 t)).1 41 3 = spM E A8 t from rfl, show (zU (sS ζ A8 w8 t8) 41 3 (spM E A8 t)).1 42 (11 * E + t) = A8 (11 * E + t) from rfl]
      refine zw_max (nx := 116) C dX4_work_113 rfl wlX4_39 ws_max wi_math wc_max (Nat.le_of_ble_eq_true rfl) (Nat.le_of_ble_eq_true rfl) (Nat.le_of_ble_eq_true rfl) (by omega) ?_
      refine zw_puti (nx := 119) C dX4_work_116 rfl flX4_21 ic3 nf3_3 rfl rfl rfl rfl rfl ?_
      rw [zU_over, show (if spM E A8 t < A8 (11 * E + t) then A8 (11 * E + t) else spM E A8 t) = spM E A8 (t + 1) from rfl]
      refine zw_iinc3 (nx := 122) C dX4_work_119 rfl (Nat.le_of_ble_eq_true rfl) rfl ?_
      refine zw_goto (nx := 91) C dX4_work_122 rfl ?_
      exact ih (t + 1) (by omega) o4
  have yl : ∀ m y : Nat, y + m = 8 → ∀ o4 : Option Value, ZW X B A 5 0 0 (eFin X B none (zz (zU (sS ζ (spY h E (a0R (ζ.1 42)) 8) (rwR h.2.2.2 n (ζ.1 43) 8) (rwR (fun p y => (h.2.2.1 p y : Int)) n (ζ.1 44) 8)) 41 3 (spM E (spY h E (a0R (ζ.1 42)) 8) 11)))) (sS ζ (spY h E (a0R (ζ.1 42)) y) (rwR h.2.2.2 n (ζ.1 43) y) (rwR (fun p y => (h.2.2.1 p y : Int)) n (ζ.1 44) y)) 41 [some (.ref 41), some (.ref 1), some (zi E), some (zi y), o4] [] := by
    intro m
    induction m with
    | zero =>
      intro y hym o4
      have e : y = 8 := by omega
      subst e
      refine zw_iload_n (i := 3) (nx := 42) C dX4_work_41 rfl rfl rfl ?_
      refine zw_bipush (v := 8) (nx := 44) C dX4_work_42 (by decide) rfl ?_
      refine zw_icmp_ge (tgt := 83) (nx := 47) C dX4_work_44 rfl rfl (by omega) (fun h44 => ?_) (fun h44 => by exfalso; omega)
      refine zw_aload_n (i := 0) (nx := 84) C dX4_work_83 rfl rfl rfl ?_
      refine zw_ldc (v := -1000000) (nx := 86) C dX4_work_84 kiX4_25 (by decide) rfl ?_
      refine zw_puti (nx := 89) C dX4_work_86 rfl flX4_21 ic3 nf3_3 rfl rfl rfl rfl rfl ?_
      refine zw_iconst (nx := 90) C dX4_work_89 rfl ?_
      refine zw_ist3 (nx := 91) C (eIst_n dX4_work_90 rfl rfl) (Nat.le_of_ble_eq_true rfl) rfl ?_
      exact ml 11 0 (by omega) _
    | succ m ih =>
      intro y hym o4
      refine zw_iload_n (i := 3) (nx := 42) C dX4_work_41 rfl rfl rfl ?_
      refine zw_bipush (v := 8) (nx := 44) C dX4_work_42 (by decide) rfl ?_
      refine zw_icmp_ge (tgt := 83) (nx := 47) C dX4_work_44 rfl rfl (by omega) (fun h44 => by exfalso; omega) (fun h44 => ?_)
      refine zw_aload_n (i := 0) (nx := 48) C dX4_work_47 rfl rfl rfl ?_
      refine zw_aload_n (i := 1) (nx := 49) C dX4_work_48 rfl rfl rfl ?_
      refine zw_iload_n (i := 3) (nx := 50) C dX4_work_49 rfl rfl rfl ?_
      refine zw_cV20 (nx := 53) C dX4_work_50 rfl cvX4_31 rfl rfl ⟨Nat.le_of_ble_eq_true rfl, Nat.le_of_ble_eq_true rfl⟩ rfl rfl (Nat.le_of_ble_eq_true rfl) (run_X4_lookAt hc hf (by omega)) ?_
      rw [show hF (fun p => h.2.2.2 p y) (rwR h.2.2.2 n (ζ.1 43) y) n = rwR h.2.2.2 n (ζ.1 43) (y + 1) from rfl, show hF (fun p => (h.2.2.1 p y : Int)) (rwR (fun p y => (h.2.2.1 p y : Int)) n (ζ.1 44) y) n = rwR (fun p y => (h.2.2.1 p y : Int)) n (ζ.1 44) (y + 1) from rfl]
      have sl : ∀ m k : Nat, k + m = E → ZW X B A 5 0 0 (eFin X B none (zz (zU (sS ζ (spY h E (a0R (ζ.1 42)) 8) (rwR h.2.2.2 n (ζ.1 43) 8) (rwR (fun p y => (h.2.2.1 p y : Int)) n (ζ.1 44) 8)) 41 3 (spM E (spY h E (a0R (ζ.1 42)) 8) 11)))) (sS ζ (spS h E y (spY h E (a0R (ζ.1 42)) y) k) (rwR h.2.2.2 n (ζ.1 43) (y + 1)) (rwR (fun p y => (h.2.2.1 p y : Int)) n (ζ.1 44) (y + 1))) 58 [some (.ref 41), some (.ref 1), some (zi E), some (zi y), some (zi ((E : Int) - 1 - k))] [] := by
        intro m
        induction m with
        | zero =>
          intro k hkm
          have e : k = E := by omega
          subst e
          refine zw_iload (nx := 60) C dX4_work_58 rfl rfl ?_
          refine zw_if_lt (tgt := 77) (nx := 63) C dX4_work_60 rfl rfl (by omega) (fun h60 => ?_) (fun h60 => by exfalso; omega)
          refine zw_iinc3 (nx := 80) C dX4_work_77 rfl (Nat.le_of_ble_eq_true rfl) rfl ?_
          refine zw_goto (nx := 41) C dX4_work_80 rfl ?_
          exact ih (y + 1) (by omega) _
        | succ m ih2 =>
          intro k hkm
          refine zw_iload (nx := 60) C dX4_work_58 rfl rfl ?_
          refine zw_if_lt (tgt := 77) (nx := 63) C dX4_work_60 rfl rfl (by omega) (fun h60 => by exfalso; omega) (fun h60 => ?_)
          rw [show (E : Int) - 1 - (k : Int) = ((E - 1 - k : Nat) : Int) from by omega]
          refine zw_aload_n (i := 0) (nx := 64) C dX4_work_63 rfl rfl rfl ?_
          refine zw_aload_n (i := 1) (nx := 65) C dX4_work_64 rfl rfl rfl ?_
          refine zw_iload_n (i := 3) (nx := 66) C dX4_work_65 rfl rfl rfl ?_
          refine zw_iload (nx := 68) C dX4_work_66 rfl rfl ?_
          refine zw_cV30 (nx := 71) C dX4_work_68 rfl cvX4_35 rfl rfl ⟨Nat.le_of_ble_eq_true rfl, Nat.le_of_ble_eq_true rfl⟩ rfl rfl (Nat.le_of_ble_eq_true rfl) (run_X4_spread hc hok hf (by omega) (by omega) (fun p hp => if_pos hp) (fun p hp => if_pos hp) (dI_cg (fun S' t' p' v' _ _ _ => by constructor <;> intro q <;> omega) (dI_spS hok (show y < 8 by omega) hE (dY y (by omega)) k (by omega)))) ?_
          refine zw_iinc4 (nx := 74) C dX4_work_71 rfl (Nat.le_of_ble_eq_true rfl) rfl ?_
          refine zw_goto (nx := 58) C dX4_work_74 rfl ?_
          rw [show ((E - 1 - k : Nat) : Int) + -1 = (E : Int) - 1 - ((k + 1 : Nat) : Int) from by omega]
          exact ih2 (k + 1) (by omega)
      refine zw_iload_n (i := 2) (nx := 54) C dX4_work_53 rfl rfl rfl ?_
      refine zw_iconst (nx := 55) C dX4_work_54 rfl ?_
      refine zw_isub (nx := 56) C dX4_work_55 rfl ?_
      refine zw_ist4 (nx := 58) C (eIst_w dX4_work_56 rfl) (Nat.le_of_ble_eq_true rfl) rfl ?_
      have := sl E 0 (by omega)
      rw [show (E : Int) - 1 - ((0 : Nat) : Int) = (E : Int) - 1 from by omega] at this
      exact this
  have fl : ∀ m i : Nat, i + m = 352 → ZW X B A 5 0 0 (eFin X B none (zz (zU (sS ζ (spY h E (a0R (ζ.1 42)) 8) (rwR h.2.2.2 n (ζ.1 43) 8) (rwR (fun p y => (h.2.2.1 p y : Int)) n (ζ.1 44) 8)) 41 3 (spM E (spY h E (a0R (ζ.1 42)) 8) 11)))) (sS ζ (hF (fun _ => -1000000) (ζ.1 42) i) (ζ.1 43) (ζ.1 44)) 2 [some (.ref 41), some (.ref 1), some (zi i), none, none] [] := by
    intro m
    induction m with
    | zero =>
      intro i him
      have e : i = 352 := by omega
      subst e
      refine zw_iload_n (i := 2) (nx := 3) C dX4_work_2 rfl rfl rfl ?_
      refine zw_sipush (v := 352) (nx := 6) C dX4_work_3 (by decide) rfl ?_
      refine zw_icmp_ge (tgt := 23) (nx := 9) C dX4_work_6 rfl rfl (by omega) (fun h6 => ?_) (fun h6 => by exfalso; omega)
      refine zw_aload_n (i := 0) (nx := 24) C dX4_work_23 rfl rfl rfl ?_
      refine zw_getr (nx := 27) C dX4_work_24 rfl flX4_11 iq3 rfl rfl rfl rfl ?_
      refine zw_iconst (nx := 28) C dX4_work_27 rfl ?_
      refine zw_iconst (nx := 29) C dX4_work_28 rfl ?_
      refine zw_iast (0) (nx := 30) C dX4_work_29 rfl rfl rfl rfl (by omega) ?_
      rw [sS_42, show zu (hF (fun _ => -1000000) (ζ.1 42) 352) 0 0 = a0R (ζ.1 42) from rfl]
      refine zw_iconst (nx := 31) C dX4_work_30 rfl ?_
      refine zw_aload_n (i := 1) (nx := 32) C dX4_work_31 rfl rfl rfl ?_
      refine zw_geti (nx := 35) C dX4_work_32 rfl flX4_26 iq2 rfl rfl rfl rfl ?_
      rw [show (sS ζ (a0R (ζ.1 42)) (ζ.1 43) (ζ.1 44)).1 1 3 = (n : Int) from hn3]
      refine zw_ishl (c := ((2 ^ n : Nat) : Int)) (nx := 36) C dX4_work_35 (by exact shl_ok (by omega)) rfl ?_
      refine zw_iconst (nx := 37) C dX4_work_36 rfl ?_
      refine zw_isub (nx := 38) C dX4_work_37 rfl ?_
      rw [show ((2 ^ n : Nat) : Int) - 1 = (E : Int) from by rw [h1] at hE; omega]
      refine zw_ist2 (nx := 39) C (eIst_n dX4_work_38 rfl rfl) (Nat.le_of_ble_eq_true rfl) rfl ?_
      refine zw_iconst (nx := 40) C dX4_work_39 rfl ?_
      refine zw_ist3 (nx := 41) C (eIst_n dX4_work_40 rfl rfl) (Nat.le_of_ble_eq_true rfl) rfl ?_
      exact yl 8 0 (by omega) _
    | succ m ih =>
      intro i him
      refine zw_iload_n (i := 2) (nx := 3) C dX4_work_2 rfl rfl rfl ?_
      refine zw_sipush (v := 352) (nx := 6) C dX4_work_3 (by decide) rfl ?_
      refine zw_icmp_ge (tgt := 23) (nx := 9) C dX4_work_6 rfl rfl (by omega) (fun h6 => by exfalso; omega) (fun h6 => ?_)
      refine zw_aload_n (i := 0) (nx := 10) C dX4_work_9 rfl rfl rfl ?_
      refine zw_getr (nx := 13) C dX4_work_10 rfl flX4_11 iq3 rfl rfl rfl rfl ?_
      refine zw_iload_n (i := 2) (nx := 14) C dX4_work_13 rfl rfl rfl ?_
      refine zw_ldc (v := -1000000) (nx := 16) C dX4_work_14 kiX4_25 (by decide) rfl ?_
      refine zw_iast (i) (nx := 17) C dX4_work_16 rfl rfl rfl rfl (by omega) ?_
      rw [sS_42, hF_s (fun _ => -1000000)]
      refine zw_iinc2 (nx := 20) C dX4_work_17 rfl (Nat.le_of_ble_eq_true rfl) rfl ?_
      refine zw_goto (nx := 2) C dX4_work_20 rfl ?_
      exact ih (i + 1) (by omega)
  refine zw_iconst (nx := 1) C dX4_work_0 rfl ?_
  refine zw_ist2 (nx := 2) C (eIst_n dX4_work_1 rfl rfl) (Nat.le_of_ble_eq_true rfl) rfl ?_
  have := fl 352 0 (by omega)
  rw [hF_0, sS_self] at this
  exact this
theorem run_X4_total {W y : Nat} (hW : W ≤ 2100) (hy : y < 32768) (hs : ζ.1 41 3 = 32768 * (W : Int) - y) : zRun l B mX4_total [.ref 41] ζ (some (zi W)) ζ := by
  refine zrun_intro (M := mX4_total) (ls := [some (.ref 41)]) (by decide) rfl rfl rfl (Nat.le_of_ble_eq_true rfl) ?_
  intro X A C hX hA hr hk
  replace C : CX X B A mX4_total.2.2.2.2 RX4 cX4_total 1 0 0 := C
  have hr : (xMeth X).sig.returnType = (some .int) := hr
  change ZW X B A 1 0 0 _ _ 0 [some (.ref 41)] []
  refine zw_aload_n (i := 0) (nx := 1) C dX4_total_0 rfl rfl rfl ?_
  refine zw_geti (nx := 4) C dX4_total_1 rfl flX4_21 iq3 rfl rfl rfl rfl ?_
  refine zw_ldc (v := 32768) (nx := 6) C dX4_total_4 kiX4_45 (by decide) rfl ?_
  refine zw_iadd (nx := 7) C dX4_total_6 rfl ?_
  refine zw_iconst (nx := 8) C dX4_total_7 rfl ?_
  refine zw_isub (nx := 9) C dX4_total_8 rfl ?_
  rw [show ζ.1 41 3 + 32768 - 1 = ((32768 * W + (32767 - y) : Nat) : Int) from by omega]
  refine zw_bipush (v := 15) (nx := 11) C dX4_total_9 (by decide) rfl ?_
  refine zw_ishr (c := (W : Int)) (nx := 12) C dX4_total_11 (by exact tot_ok hW hy) rfl ?_
  exact zw_iret C hA hr hk dX4_total_12 rfl rfl
theorem run_X4_seatFor {W y p : Nat} (hW : W ≤ 2100) (hy : y < 32768) (hp : p < 5) (hs : ζ.1 41 3 = 32768 * (W : Int) - y) : zRun l B mX4_seatFor [.ref 41, zi p] ζ (some (zi ((y / 8 ^ (4 - p) % 8 : Nat) : Int))) ζ := by
  refine zrun_intro (M := mX4_seatFor) (ls := [some (.ref 41), some (zi p), none]) (by decide) rfl rfl rfl (Nat.le_of_ble_eq_true rfl) ?_
  intro X A C hX hA hr hk
  replace C : CX X B A mX4_seatFor.2.2.2.2 RX4 cX4_seatFor 3 0 0 := C
  have hr : (xMeth X).sig.returnType = (some .int) := hr
  change ZW X B A 3 0 0 _ _ 0 [some (.ref 41), some (zi p), none] []
  refine zw_aload_n (i := 0) (nx := 1) C dX4_seatFor_0 rfl rfl rfl ?_
  refine zw_cV01 (nx := 4) C dX4_seatFor_1 rfl cvX4_46 rfl rfl ⟨Nat.le_of_ble_eq_true rfl, Nat.le_of_ble_eq_true rfl⟩ rfl rfl (Nat.le_of_ble_eq_true rfl) (run_X4_total hW hy hs) ?_
  refine zw_bipush (v := 15) (nx := 6) C dX4_seatFor_4 (by decide) rfl ?_
  refine zw_ishl (c := ((W : Int) * 32768)) (nx := 7) C dX4_seatFor_6 (by exact shl15 (by omega)) rfl ?_
  refine zw_aload_n (i := 0) (nx := 8) C dX4_seatFor_7 rfl rfl rfl ?_
  refine zw_geti (nx := 11) C dX4_seatFor_8 rfl flX4_21 iq3 rfl rfl rfl rfl ?_
  refine zw_isub (nx := 12) C dX4_seatFor_11 rfl ?_
  rw [show (W : Int) * 32768 - ζ.1 41 3 = (y : Int) from by omega]
  refine zw_ist2 (nx := 13) C (eIst_n dX4_seatFor_12 rfl rfl) (Nat.le_of_ble_eq_true rfl) rfl ?_
  refine zw_iload_n (i := 2) (nx := 14) C dX4_seatFor_13 rfl rfl rfl ?_
  refine zw_iload_n (i := 1) (nx := 15) C dX4_seatFor_14 rfl rfl rfl ?_
  refine zw_cS11 (nx := 18) C dX4_seatFor_15 rfl csX4_50 ⟨Nat.le_of_ble_eq_true rfl, Nat.le_of_ble_eq_true rfl⟩ (Nat.le_of_ble_eq_true rfl) run_X4_seatShift ?_
  refine zw_ishr (c := ((y / 8 ^ (4 - p) : Nat) : Int)) (nx := 19) C dX4_seatFor_18 (by exact sft_ok hy hp) rfl ?_
  refine zw_bipush (v := 7) (nx := 21) C dX4_seatFor_19 (by decide) rfl ?_
  refine zw_iand (c := ((y / 8 ^ (4 - p) % 8 : Nat) : Int)) (nx := 22) C dX4_seatFor_21 (by exact and7 _) rfl ?_
  exact zw_iret C hA hr hk dX4_seatFor_22 rfl rfl
theorem run_X6_all_bad {n : Nat} (hn : n ≤ 5) (hn3 : ζ.1 1 3 = n) {p : Int} (hp : -2147483648 ≤ p ∧ p ≤ 2147483647) (h : ¬ (p = -1 ∨ (0 ≤ p ∧ p < n))) : zRun l B mX6_all [.ref 0, zi p] ζ (some (zi (-10))) (bdS ζ) := by
  refine zrun_intro (M := mX6_all) (ls := [some (.ref 0), some (zi p)]) (by decide) rfl rfl rfl (Nat.le_of_ble_eq_true rfl) ?_
  intro X A C hX hA hr hk
  replace C : CX X B A mX6_all.2.2.2.2 RX6 cX6_all 2 0 0 := C
  have hr : (xMeth X).sig.returnType = (some .int) := hr
  change ZW X B A 2 0 0 _ _ 0 [some (.ref 0), some (zi p)] []
  refine zw_iload_n (i := 1) (nx := 1) C dX6_all_0 rfl rfl rfl ?_
  refine zw_iconst (nx := 2) C dX6_all_1 rfl ?_
  refine zw_icmp_eq (tgt := 20) (nx := 5) C dX6_all_2 rfl rfl (by omega) (fun h2 => by exfalso; omega) (fun h2 => ?_)
  refine zw_aload_n (i := 0) (nx := 6) C dX6_all_5 rfl rfl rfl ?_
  refine zw_iload_n (i := 1) (nx := 7) C dX6_all_6 rfl rfl rfl ?_
  refine zw_cV11 (nx := 10) C dX6_all_7 rfl cvX6_151 rfl rfl ⟨Nat.le_of_ble_eq_true rfl, Nat.le_of_ble_eq_true rfl⟩ rfl rfl (Nat.le_of_ble_eq_true rfl) (run_X6_isBidder_f hn hn3 hp (fun q => h (Or.inr q))) ?_
  refine zw_if_ne (tgt := 20) (nx := 13) C dX6_all_10 rfl rfl (by omega) (fun h10 => by exfalso; omega) (fun h10 => ?_)
  refine zw_aload_n (i := 0) (nx := 14) C dX6_all_13 rfl rfl rfl ?_
  refine zw_bipush (v := -10) (nx := 16) C dX6_all_14 (by decide) rfl ?_
  refine zw_cV11 (nx := 19) C dX6_all_16 rfl cvX6_71 rfl rfl ⟨Nat.le_of_ble_eq_true rfl, Nat.le_of_ble_eq_true rfl⟩ rfl rfl (Nat.le_of_ble_eq_true rfl) run_X6_bad ?_
  exact zw_iret C hA hr hk dX6_all_19 rfl rfl
theorem run_X6_all_tot {n : Nat} {τ : zSt} (hw : zRun l B mX4_work [.ref 41, .ref 1] ζ none τ) {W y : Nat} (hW : W ≤ 2100) (hy : y < 32768) (hs : τ.1 41 3 = 32768 * (W : Int) - y) : zRun l B mX6_all [.ref 0, zi (-1)] ζ (some (zi W)) τ := by
  refine zrun_intro (M := mX6_all) (ls := [some (.ref 0), some (zi (-1))]) (by decide) rfl rfl rfl (Nat.le_of_ble_eq_true rfl) ?_
  intro X A C hX hA hr hk
  replace C : CX X B A mX6_all.2.2.2.2 RX6 cX6_all 2 0 0 := C
  have hr : (xMeth X).sig.returnType = (some .int) := hr
  change ZW X B A 2 0 0 _ _ 0 [some (.ref 0), some (zi (-1))] []
  refine zw_iload_n (i := 1) (nx := 1) C dX6_all_0 rfl rfl rfl ?_
  refine zw_iconst (nx := 2) C dX6_all_1 rfl ?_
  refine zw_icmp_eq (tgt := 20) (nx := 5) C dX6_all_2 rfl rfl (by omega) (fun h2 => ?_) (fun h2 => by exfalso; omega)
  refine zw_aload_n (i := 0) (nx := 21) C dX6_all_20 rfl rfl rfl ?_
  refine zw_getr (nx := 24) C dX6_all_21 rfl flX6_33 iq5 rfl rfl rfl rfl ?_
  refine zw_aload_n (i := 0) (nx := 25) C dX6_all_24 rfl rfl rfl ?_
  refine zw_getr (nx := 28) C dX6_all_25 rfl flX6_12 iq5 rfl rfl rfl rfl ?_
  refine zw_cV10 (nx := 31) C dX6_all_28 rfl cvX6_187 rfl rfl ⟨Nat.le_of_ble_eq_true rfl, Nat.le_of_ble_eq_true rfl⟩ rfl rfl (Nat.le_of_ble_eq_true rfl) (by rw [hX]; exact hw) ?_
  refine zw_iload_n (i := 1) (nx := 32) C dX6_all_31 rfl rfl rfl ?_
  refine zw_iconst (nx := 33) C dX6_all_32 rfl ?_
  refine zw_icmp_ne (tgt := 46) (nx := 36) C dX6_all_33 rfl rfl (by omega) (fun h33 => by exfalso; omega) (fun h33 => ?_)
  refine zw_aload_n (i := 0) (nx := 37) C dX6_all_36 rfl rfl rfl ?_
  refine zw_getr (nx := 40) C dX6_all_37 rfl flX6_33 iq5 rfl rfl rfl rfl ?_
  refine zw_cV01 (nx := 43) C dX6_all_40 rfl cvX6_190 rfl rfl ⟨Nat.le_of_ble_eq_true rfl, Nat.le_of_ble_eq_true rfl⟩ rfl rfl (Nat.le_of_ble_eq_true rfl) (run_X4_total hW hy hs) ?_
  refine zw_goto (nx := 54) C dX6_all_43 rfl ?_
  exact zw_iret C hA hr hk dX6_all_54 rfl rfl
theorem run_X6_all_one {n p : Nat} {τ : zSt} (hn : n ≤ 5) (hn3 : ζ.1 1 3 = n) (hp : p < n) (hw : zRun l B mX4_work [.ref 41, .ref 1] ζ none τ) {W y : Nat} (hW : W ≤ 2100) (hy : y < 32768) (hs : τ.1 41 3 = 32768 * (W : Int) - y) : zRun l B mX6_all [.ref 0, zi p] ζ (some (zi ((y / 8 ^ (4 - p) % 8 : Nat) : Int))) τ := by
  refine zrun_intro (M := mX6_all) (ls := [some (.ref 0), some (zi p)]) (by decide) rfl rfl rfl (Nat.le_of_ble_eq_true rfl) ?_
  intro X A C hX hA hr hk
  replace C : CX X B A mX6_all.2.2.2.2 RX6 cX6_all 2 0 0 := C
  have hr : (xMeth X).sig.returnType = (some .int) := hr
  change ZW X B A 2 0 0 _ _ 0 [some (.ref 0), some (zi p)] []
  refine zw_iload_n (i := 1) (nx := 1) C dX6_all_0 rfl rfl rfl ?_
  refine zw_iconst (nx := 2) C dX6_all_1 rfl ?_
  refine zw_icmp_eq (tgt := 20) (nx := 5) C dX6_all_2 rfl rfl (by omega) (fun h2 => by exfalso; omega) (fun h2 => ?_)
  refine zw_aload_n (i := 0) (nx := 6) C dX6_all_5 rfl rfl rfl ?_
  refine zw_iload_n (i := 1) (nx := 7) C dX6_all_6 rfl rfl rfl ?_
  refine zw_cV11 (nx := 10) C dX6_all_7 rfl cvX6_151 rfl rfl ⟨Nat.le_of_ble_eq_true rfl, Nat.le_of_ble_eq_true rfl⟩ rfl rfl (Nat.le_of_ble_eq_true rfl) (run_X6_isBidder_t hn hn3 (by omega)) ?_
  refine zw_if_ne (tgt := 20) (nx := 13) C dX6_all_10 rfl rfl (by omega) (fun h10 => ?_) (fun h10 => by exfalso; omega)
  refine zw_aload_n (i := 0) (nx := 21) C dX6_all_20 rfl rfl rfl ?_
  refine zw_getr (nx := 24) C dX6_all_21 rfl flX6_33 iq5 rfl rfl rfl rfl ?_
  refine zw_aload_n (i := 0) (nx := 25) C dX6_all_24 rfl rfl rfl ?_
  refine zw_getr (nx := 28) C dX6_all_25 rfl flX6_12 iq5 rfl rfl rfl rfl ?_
  refine zw_cV10 (nx := 31) C dX6_all_28 rfl cvX6_187 rfl rfl ⟨Nat.le_of_ble_eq_true rfl, Nat.le_of_ble_eq_true rfl⟩ rfl rfl (Nat.le_of_ble_eq_true rfl) (by rw [hX]; exact hw) ?_
  refine zw_iload_n (i := 1) (nx := 32) C dX6_all_31 rfl rfl rfl ?_
  refine zw_iconst (nx := 33) C dX6_all_32 rfl ?_
  refine zw_icmp_ne (tgt := 46) (nx := 36) C dX6_all_33 rfl rfl (by omega) (fun h33 => ?_) (fun h33 => by exfalso; omega)
  refine zw_aload_n (i := 0) (nx := 47) C dX6_all_46 rfl rfl rfl ?_
  refine zw_getr (nx := 50) C dX6_all_47 rfl flX6_33 iq5 rfl rfl rfl rfl ?_
  refine zw_iload_n (i := 1) (nx := 51) C dX6_all_50 rfl rfl rfl ?_
  refine zw_cV11 (nx := 54) C dX6_all_51 rfl cvX6_193 rfl rfl ⟨Nat.le_of_ble_eq_true rfl, Nat.le_of_ble_eq_true rfl⟩ rfl rfl (Nat.le_of_ble_eq_true rfl) (run_X4_seatFor hW hy (by omega) hs) ?_
  exact zw_iret C hA hr hk dX6_all_54 rfl rfl
end Sew
